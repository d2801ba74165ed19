theorem dX5_count_143 : decode cX5_count 143 = .ok (.goto 13, 3) := by decide +kernel
theorem dX5_count_146 : decode cX5_count 146 = .ok (.aload_n 0, 1) := by decide +kernel
theorem dX5_count_147 : decode cX5_count 147 = .ok (.getfield 37, 3) := by decide +kernel
theorem dX5_count_150 : decode cX5_count 150 = .ok (.iload_n 3, 1) := by decide +kernel
theorem dX5_count_151 : decode cX5_count 151 = .ok (.iaload, 1) := by decide +kernel
theorem dX5_count_152 : decode cX5_count 152 = .ok (.iload_n 2, 1) := by decide +kernel
theorem dX5_count_153 : decode cX5_count 153 = .ok (.invokestatic 92, 3) := by decide +kernel
theorem dX5_count_156 : decode cX5_count 156 = .ok (.iastore, 1) := by decide +kernel
theorem dX5_count_157 : decode cX5_count 157 = .ok (.goto 47, 3) := by decide +kernel
theorem dX5_count_160 : decode cX5_count 160 = .ok (.aload_n 0, 1) := by decide +kernel
theorem dX5_count_161 : decode cX5_count 161 = .ok (.getfield 37, 3) := by decide +kernel
theorem dX5_count_164 : decode cX5_count 164 = .ok (.iload_n 3, 1) := by decide +kernel
theorem dX5_count_165 : decode cX5_count 165 = .ok (.dup2, 1) := by decide +kernel
theorem dX5_count_166 : decode cX5_count 166 = .ok (.iaload, 1) := by decide +kernel
theorem dX5_count_167 : decode cX5_count 167 = .ok (.iload_n 2, 1) := by decide +kernel
theorem dX5_count_168 : decode cX5_count 168 = .ok (.ifCond .le 7, 3) := by decide +kernel
theorem dX5_count_171 : decode cX5_count 171 = .ok (.iconst 1, 1) := by decide +kernel
theorem dX5_count_172 : decode cX5_count 172 = .ok (.goto 4, 3) := by decide +kernel
theorem dX5_count_175 : decode cX5_count 175 = .ok (.iconst 0, 1) := by decide +kernel
theorem dX5_count_176 : decode cX5_count 176 = .ok (.iadd, 1) := by decide +kernel
theorem dX5_count_177 : decode cX5_count 177 = .ok (.iastore, 1) := by decide +kernel
theorem dX5_count_178 : decode cX5_count 178 = .ok (.goto 26, 3) := by decide +kernel
theorem dX5_count_181 : decode cX5_count 181 = .ok (.aload_n 0, 1) := by decide +kernel
theorem dX5_count_182 : decode cX5_count 182 = .ok (.getfield 37, 3) := by decide +kernel
theorem dX5_count_185 : decode cX5_count 185 = .ok (.iload_n 3, 1) := by decide +kernel
theorem dX5_count_186 : decode cX5_count 186 = .ok (.iload 4, 2) := by decide +kernel
theorem dX5_count_188 : decode cX5_count 188 = .ok (.ifCond .eq 7, 3) := by decide +kernel
theorem dX5_count_191 : decode cX5_count 191 = .ok (.iload_n 2, 1) := by decide +kernel
theorem dX5_count_192 : decode cX5_count 192 = .ok (.goto 11, 3) := by decide +kernel
theorem dX5_count_195 : decode cX5_count 195 = .ok (.aload_n 0, 1) := by decide +kernel
theorem dX5_count_196 : decode cX5_count 196 = .ok (.getfield 37, 3) := by decide +kernel
theorem dX5_count_199 : decode cX5_count 199 = .ok (.iload_n 3, 1) := by decide +kernel
theorem dX5_count_200 : decode cX5_count 200 = .ok (.iaload, 1) := by decide +kernel
theorem dX5_count_201 : decode cX5_count 201 = .ok (.iload_n 2, 1) := by decide +kernel
theorem dX5_count_202 : decode cX5_count 202 = .ok (.imul, 1) := by decide +kernel
theorem dX5_count_203 : decode cX5_count 203 = .ok (.iastore, 1) := by decide +kernel
theorem dX5_count_204 : decode cX5_count 204 = .ok (.return_, 1) := by decide +kernel
set_option maxRecDepth 20000 in
theorem ggX5_reckon_X5_digits : GoodIn wsX5_reckon wsX5_digits := goodIn_r _ [9, 10, 11, 26, 27, 28, 29, 30, 31, 32, 33, 34, 35, 36, 37, 38, 39, 40, 41] (by decide +kernel) (by decide +kernel)
set_option maxRecDepth 20000 in
theorem gX5_reckon_X5_digits : GoodIn wsX5_reckon (wsV RX5 74 RX5 yX5_digits wsX5_digits) := goodIn_app (goodIn_of _ (by decide +kernel)) ggX5_reckon_X5_digits
set_option maxRecDepth 20000 in
theorem ggX5_reckon_X5_count : GoodIn wsX5_reckon wsX5_count := goodIn_r _ [15, 16, 3, 17, 2, 18, 19, 20, 21, 22, 23, 24, 8, 25, 1, 26, 27, 28, 29, 30, 31, 32, 33, 34, 35, 36, 37, 38, 39, 40, 41] (by decide +kernel) (by decide +kernel)
set_option maxRecDepth 20000 in
theorem gX5_reckon_X5_count : GoodIn wsX5_reckon (wsV RX5 98 RX5 yX5_count wsX5_count) := goodIn_app (goodIn_of _ (by decide +kernel)) ggX5_reckon_X5_count
theorem dX5_reckon_0 : decode cX5_reckon 0 = .ok (.iconst 0, 1) := by decide +kernel
theorem dX5_reckon_1 : decode cX5_reckon 1 = .ok (.istore_n 1, 1) := by decide +kernel
theorem dX5_reckon_2 : decode cX5_reckon 2 = .ok (.iload_n 1, 1) := by decide +kernel
theorem dX5_reckon_3 : decode cX5_reckon 3 = .ok (.aload_n 0, 1) := by decide +kernel
theorem dX5_reckon_4 : decode cX5_reckon 4 = .ok (.getfield 50, 3) := by decide +kernel
theorem dX5_reckon_7 : decode cX5_reckon 7 = .ok (.if_icmp .ge 23, 3) := by decide +kernel
theorem dX5_reckon_10 : decode cX5_reckon 10 = .ok (.aload_n 0, 1) := by decide +kernel
theorem dX5_reckon_11 : decode cX5_reckon 11 = .ok (.getfield 37, 3) := by decide +kernel
theorem dX5_reckon_14 : decode cX5_reckon 14 = .ok (.iload_n 1, 1) := by decide +kernel
theorem dX5_reckon_15 : decode cX5_reckon 15 = .ok (.iconst 0, 1) := by decide +kernel
theorem dX5_reckon_16 : decode cX5_reckon 16 = .ok (.iastore, 1) := by decide +kernel
theorem dX5_reckon_17 : decode cX5_reckon 17 = .ok (.aload_n 0, 1) := by decide +kernel
theorem dX5_reckon_18 : decode cX5_reckon 18 = .ok (.getfield 43, 3) := by decide +kernel
theorem dX5_reckon_21 : decode cX5_reckon 21 = .ok (.iload_n 1, 1) := by decide +kernel
theorem dX5_reckon_22 : decode cX5_reckon 22 = .ok (.iconst 0, 1) := by decide +kernel
theorem dX5_reckon_23 : decode cX5_reckon 23 = .ok (.iastore, 1) := by decide +kernel
theorem dX5_reckon_24 : decode cX5_reckon 24 = .ok (.iinc 1 1, 3) := by decide +kernel
theorem dX5_reckon_27 : decode cX5_reckon 27 = .ok (.goto (-25), 3) := by decide +kernel
theorem dX5_reckon_30 : decode cX5_reckon 30 = .ok (.aload_n 0, 1) := by decide +kernel
theorem dX5_reckon_31 : decode cX5_reckon 31 = .ok (.getfield 50, 3) := by decide +kernel
theorem dX5_reckon_34 : decode cX5_reckon 34 = .ok (.iconst 1, 1) := by decide +kernel
theorem dX5_reckon_35 : decode cX5_reckon 35 = .ok (.isub, 1) := by decide +kernel
theorem dX5_reckon_36 : decode cX5_reckon 36 = .ok (.istore_n 1, 1) := by decide +kernel
theorem dX5_reckon_37 : decode cX5_reckon 37 = .ok (.iload_n 1, 1) := by decide +kernel
theorem dX5_reckon_38 : decode cX5_reckon 38 = .ok (.ifCond .lt 38, 3) := by decide +kernel
theorem dX5_reckon_41 : decode cX5_reckon 41 = .ok (.aload_n 0, 1) := by decide +kernel
theorem dX5_reckon_42 : decode cX5_reckon 42 = .ok (.getfield 40, 3) := by decide +kernel
theorem dX5_reckon_45 : decode cX5_reckon 45 = .ok (.iload_n 1, 1) := by decide +kernel
theorem dX5_reckon_46 : decode cX5_reckon 46 = .ok (.aload_n 0, 1) := by decide +kernel
theorem dX5_reckon_47 : decode cX5_reckon 47 = .ok (.iload_n 1, 1) := by decide +kernel
theorem dX5_reckon_48 : decode cX5_reckon 48 = .ok (.invokevirtual 74, 3) := by decide +kernel
theorem dX5_reckon_51 : decode cX5_reckon 51 = .ok (.aload_n 0, 1) := by decide +kernel
theorem dX5_reckon_52 : decode cX5_reckon 52 = .ok (.getfield 37, 3) := by decide +kernel
theorem dX5_reckon_55 : decode cX5_reckon 55 = .ok (.iload_n 1, 1) := by decide +kernel
theorem dX5_reckon_56 : decode cX5_reckon 56 = .ok (.iaload, 1) := by decide +kernel
theorem dX5_reckon_57 : decode cX5_reckon 57 = .ok (.iadd, 1) := by decide +kernel
theorem dX5_reckon_58 : decode cX5_reckon 58 = .ok (.iastore, 1) := by decide +kernel
theorem dX5_reckon_59 : decode cX5_reckon 59 = .ok (.aload_n 0, 1) := by decide +kernel
theorem dX5_reckon_60 : decode cX5_reckon 60 = .ok (.iload_n 1, 1) := by decide +kernel
theorem dX5_reckon_61 : decode cX5_reckon 61 = .ok (.aload_n 0, 1) := by decide +kernel
theorem dX5_reckon_62 : decode cX5_reckon 62 = .ok (.getfield 40, 3) := by decide +kernel
theorem dX5_reckon_65 : decode cX5_reckon 65 = .ok (.iload_n 1, 1) := by decide +kernel
theorem dX5_reckon_66 : decode cX5_reckon 66 = .ok (.iaload, 1) := by decide +kernel
theorem dX5_reckon_67 : decode cX5_reckon 67 = .ok (.invokevirtual 98, 3) := by decide +kernel
theorem dX5_reckon_70 : decode cX5_reckon 70 = .ok (.iinc 1 (-1), 3) := by decide +kernel
theorem dX5_reckon_73 : decode cX5_reckon 73 = .ok (.goto (-36), 3) := by decide +kernel
theorem dX5_reckon_76 : decode cX5_reckon 76 = .ok (.return_, 1) := by decide +kernel
set_option maxRecDepth 20000 in
theorem ggX5_cordTold_X5_reckon : GoodIn wsX5_cordTold wsX5_reckon := goodIn_r _ [9, 10, 4, 11, 3, 12, 13, 14, 8, 15, 16, 17, 18, 19, 20, 21, 1, 2, 22, 23, 24, 25, 26, 27, 28, 29, 35, 36, 37, 38, 39, 40, 41, 42, 43, 44, 45, 46, 47, 48, 49, 50] (by decide +kernel) (by decide +kernel)
set_option maxRecDepth 20000 in
theorem gX5_cordTold_X5_reckon : GoodIn wsX5_cordTold (wsV RX5 102 RX5 yX5_reckon wsX5_reckon) := goodIn_app (goodIn_of _ (by decide +kernel)) ggX5_cordTold_X5_reckon
set_option maxRecDepth 20000 in
theorem ggX5_cordTold_X5_digits : GoodIn wsX5_cordTold wsX5_digits := goodIn_r _ [15, 16, 17, 35, 36, 37, 38, 39, 40, 41, 42, 43, 44, 45, 46, 47, 48, 49, 50] (by decide +kernel) (by decide +kernel)
set_option maxRecDepth 20000 in
theorem gX5_cordTold_X5_digits : GoodIn wsX5_cordTold (wsV RX5 74 RX5 yX5_digits wsX5_digits) := goodIn_app (goodIn_of _ (by decide +kernel)) ggX5_cordTold_X5_digits
set_option maxRecDepth 20000 in
theorem ggX5_cordTold_X5_hangs : GoodIn wsX5_cordTold wsX5_hangs := goodIn_r _ [29, 10, 1, 35, 36, 37, 38, 39, 40, 41, 42, 43, 44, 45, 46, 47, 48, 49, 50] (by decide +kernel) (by decide +kernel)
set_option maxRecDepth 20000 in
theorem gX5_cordTold_X5_hangs : GoodIn wsX5_cordTold (wsV RX5 68 RX5 yX5_hangs wsX5_hangs) := goodIn_app (goodIn_of _ (by decide +kernel)) ggX5_cordTold_X5_hangs
set_option maxRecDepth 20000 in
theorem ggX5_cordTold_X5_allFrays : GoodIn wsX5_cordTold wsX5_allFrays := goodIn_r _ [33, 34, 35, 36, 37, 38, 39, 40, 41, 42, 43, 44, 45, 46, 47, 48, 49, 50] (by decide +kernel) (by decide +kernel)
set_option maxRecDepth 20000 in
theorem gX5_cordTold_X5_allFrays : GoodIn wsX5_cordTold (wsV RX5 89 RX5 yX5_allFrays wsX5_allFrays) := goodIn_app (goodIn_of _ (by decide +kernel)) ggX5_cordTold_X5_allFrays
theorem dX5_cordTold_0 : decode cX5_cordTold 0 = .ok (.aload_n 0, 1) := by decide +kernel
theorem dX5_cordTold_1 : decode cX5_cordTold 1 = .ok (.invokevirtual 102, 3) := by decide +kernel
theorem dX5_cordTold_4 : decode cX5_cordTold 4 = .ok (.iload_n 2, 1) := by decide +kernel
theorem dX5_cordTold_5 : decode cX5_cordTold 5 = .ok (.tableswitch 111 0 6 #[43, 50, 57, 63, 70, 77, 83], 43) := by decide +kernel
theorem dX5_cordTold_48 : decode cX5_cordTold 48 = .ok (.aload_n 0, 1) := by decide +kernel
theorem dX5_cordTold_49 : decode cX5_cordTold 49 = .ok (.getfield 9, 3) := by decide +kernel
theorem dX5_cordTold_52 : decode cX5_cordTold 52 = .ok (.iload_n 1, 1) := by decide +kernel
theorem dX5_cordTold_53 : decode cX5_cordTold 53 = .ok (.iaload, 1) := by decide +kernel
theorem dX5_cordTold_54 : decode cX5_cordTold 54 = .ok (.ireturn, 1) := by decide +kernel
theorem dX5_cordTold_55 : decode cX5_cordTold 55 = .ok (.aload_n 0, 1) := by decide +kernel
theorem dX5_cordTold_56 : decode cX5_cordTold 56 = .ok (.getfield 13, 3) := by decide +kernel
theorem dX5_cordTold_59 : decode cX5_cordTold 59 = .ok (.iload_n 1, 1) := by decide +kernel
theorem dX5_cordTold_60 : decode cX5_cordTold 60 = .ok (.iaload, 1) := by decide +kernel
theorem dX5_cordTold_61 : decode cX5_cordTold 61 = .ok (.ireturn, 1) := by decide +kernel
theorem dX5_cordTold_62 : decode cX5_cordTold 62 = .ok (.aload_n 0, 1) := by decide +kernel
theorem dX5_cordTold_63 : decode cX5_cordTold 63 = .ok (.iload_n 1, 1) := by decide +kernel
theorem dX5_cordTold_64 : decode cX5_cordTold 64 = .ok (.invokevirtual 74, 3) := by decide +kernel
theorem dX5_cordTold_67 : decode cX5_cordTold 67 = .ok (.ireturn, 1) := by decide +kernel
theorem dX5_cordTold_68 : decode cX5_cordTold 68 = .ok (.aload_n 0, 1) := by decide +kernel
theorem dX5_cordTold_69 : decode cX5_cordTold 69 = .ok (.getfield 40, 3) := by decide +kernel
theorem dX5_cordTold_72 : decode cX5_cordTold 72 = .ok (.iload_n 1, 1) := by decide +kernel
theorem dX5_cordTold_73 : decode cX5_cordTold 73 = .ok (.iaload, 1) := by decide +kernel
theorem dX5_cordTold_74 : decode cX5_cordTold 74 = .ok (.ireturn, 1) := by decide +kernel
theorem dX5_cordTold_75 : decode cX5_cordTold 75 = .ok (.aload_n 0, 1) := by decide +kernel
theorem dX5_cordTold_76 : decode cX5_cordTold 76 = .ok (.getfield 37, 3) := by decide +kernel
theorem dX5_cordTold_79 : decode cX5_cordTold 79 = .ok (.iload_n 1, 1) := by decide +kernel
theorem dX5_cordTold_80 : decode cX5_cordTold 80 = .ok (.iaload, 1) := by decide +kernel
theorem dX5_cordTold_81 : decode cX5_cordTold 81 = .ok (.ireturn, 1) := by decide +kernel
theorem dX5_cordTold_82 : decode cX5_cordTold 82 = .ok (.aload_n 0, 1) := by decide +kernel
theorem dX5_cordTold_83 : decode cX5_cordTold 83 = .ok (.iload_n 1, 1) := by decide +kernel
theorem dX5_cordTold_84 : decode cX5_cordTold 84 = .ok (.invokevirtual 68, 3) := by decide +kernel
theorem dX5_cordTold_87 : decode cX5_cordTold 87 = .ok (.ireturn, 1) := by decide +kernel
theorem dX5_cordTold_88 : decode cX5_cordTold 88 = .ok (.aload_n 0, 1) := by decide +kernel
theorem dX5_cordTold_89 : decode cX5_cordTold 89 = .ok (.iload_n 1, 1) := by decide +kernel
theorem dX5_cordTold_90 : decode cX5_cordTold 90 = .ok (.invokevirtual 68, 3) := by decide +kernel
theorem dX5_cordTold_93 : decode cX5_cordTold 93 = .ok (.ifCond .eq 17, 3) := by decide +kernel
theorem dX5_cordTold_96 : decode cX5_cordTold 96 = .ok (.aload_n 0, 1) := by decide +kernel
theorem dX5_cordTold_97 : decode cX5_cordTold 97 = .ok (.iload_n 1, 1) := by decide +kernel
theorem dX5_cordTold_98 : decode cX5_cordTold 98 = .ok (.invokevirtual 74, 3) := by decide +kernel
theorem dX5_cordTold_101 : decode cX5_cordTold 101 = .ok (.aload_n 0, 1) := by decide +kernel
theorem dX5_cordTold_102 : decode cX5_cordTold 102 = .ok (.getfield 37, 3) := by decide +kernel
theorem dX5_cordTold_105 : decode cX5_cordTold 105 = .ok (.iload_n 1, 1) := by decide +kernel
theorem dX5_cordTold_106 : decode cX5_cordTold 106 = .ok (.iaload, 1) := by decide +kernel
theorem dX5_cordTold_107 : decode cX5_cordTold 107 = .ok (.if_icmp .ne 7, 3) := by decide +kernel
theorem dX5_cordTold_110 : decode cX5_cordTold 110 = .ok (.iconst 1, 1) := by decide +kernel
theorem dX5_cordTold_111 : decode cX5_cordTold 111 = .ok (.goto 4, 3) := by decide +kernel
theorem dX5_cordTold_114 : decode cX5_cordTold 114 = .ok (.iconst 0, 1) := by decide +kernel
theorem dX5_cordTold_115 : decode cX5_cordTold 115 = .ok (.ireturn, 1) := by decide +kernel
theorem dX5_cordTold_116 : decode cX5_cordTold 116 = .ok (.aload_n 0, 1) := by decide +kernel
theorem dX5_cordTold_117 : decode cX5_cordTold 117 = .ok (.iload_n 1, 1) := by decide +kernel
theorem dX5_cordTold_118 : decode cX5_cordTold 118 = .ok (.invokevirtual 89, 3) := by decide +kernel
theorem dX5_cordTold_121 : decode cX5_cordTold 121 = .ok (.ireturn, 1) := by decide +kernel
set_option maxRecDepth 20000 in
theorem ggX5_cord_X5_isCord : GoodIn wsX5_cord wsX5_isCord := goodIn_r _ [6, 7, 8, 9, 5, 10, 51, 52, 53, 54, 55, 56, 57, 58, 59, 60, 61, 62, 63, 64, 65, 66] (by decide +kernel) (by decide +kernel)
set_option maxRecDepth 20000 in
theorem gX5_cord_X5_isCord : GoodIn wsX5_cord (wsV RX5 60 RX5 yX5_isCord wsX5_isCord) := goodIn_app (goodIn_of _ (by decide +kernel)) ggX5_cord_X5_isCord
set_option maxRecDepth 20000 in
theorem ggX5_cord_X5_isIn : GoodIn wsX5_cord wsX5_isIn := goodIn_r _ [10] (by decide +kernel) (by decide +kernel)
set_option maxRecDepth 20000 in
theorem gX5_cord_X5_isIn : GoodIn wsX5_cord (va_wsS RX5 53 yX5_isIn wsX5_isIn) := goodIn_app (goodIn_of _ (by decide +kernel)) ggX5_cord_X5_isIn
set_option maxRecDepth 20000 in
theorem ggX5_cord_X5_cordTold : GoodIn wsX5_cord wsX5_cordTold := goodIn_r _ [14, 15, 16, 17, 18, 19, 20, 21, 5, 22, 7, 23, 24, 25, 26, 27, 28, 29, 30, 31, 32, 33, 34, 35, 36, 37, 38, 39, 40, 41, 42, 43, 44, 45, 46, 51, 52, 53, 54, 55, 56, 57, 58, 59, 60, 61, 62, 63, 64, 65, 66] (by decide +kernel) (by decide +kernel)
set_option maxRecDepth 20000 in
theorem gX5_cord_X5_cordTold : GoodIn wsX5_cord (wsV RX5 105 RX5 yX5_cordTold wsX5_cordTold) := goodIn_app (goodIn_of _ (by decide +kernel)) ggX5_cord_X5_cordTold
set_option maxRecDepth 20000 in
theorem ggX5_cord_X5_fail : GoodIn wsX5_cord wsX5_fail := goodIn_r _ [50, 1, 51, 52, 53, 54, 55, 56, 57, 58, 59, 60, 61, 62, 63, 64, 65, 66] (by decide +kernel) (by decide +kernel)
set_option maxRecDepth 20000 in
theorem gX5_cord_X5_fail : GoodIn wsX5_cord (wsV RX5 64 RX5 yX5_fail wsX5_fail) := goodIn_app (goodIn_of _ (by decide +kernel)) ggX5_cord_X5_fail
theorem dX5_cord_0 : decode cX5_cord 0 = .ok (.aload_n 0, 1) := by decide +kernel
theorem dX5_cord_1 : decode cX5_cord 1 = .ok (.iconst 0, 1) := by decide +kernel
theorem dX5_cord_2 : decode cX5_cord 2 = .ok (.putfield 46, 3) := by decide +kernel
theorem dX5_cord_5 : decode cX5_cord 5 = .ok (.aload_n 0, 1) := by decide +kernel
theorem dX5_cord_6 : decode cX5_cord 6 = .ok (.iload_n 1, 1) := by decide +kernel
theorem dX5_cord_7 : decode cX5_cord 7 = .ok (.invokevirtual 60, 3) := by decide +kernel
theorem dX5_cord_10 : decode cX5_cord 10 = .ok (.ifCond .eq 22, 3) := by decide +kernel
theorem dX5_cord_13 : decode cX5_cord 13 = .ok (.iload_n 2, 1) := by decide +kernel
theorem dX5_cord_14 : decode cX5_cord 14 = .ok (.iconst 0, 1) := by decide +kernel
theorem dX5_cord_15 : decode cX5_cord 15 = .ok (.bipush 7, 2) := by decide +kernel
theorem dX5_cord_17 : decode cX5_cord 17 = .ok (.invokestatic 53, 3) := by decide +kernel
theorem dX5_cord_20 : decode cX5_cord 20 = .ok (.ifCond .eq 12, 3) := by decide +kernel
theorem dX5_cord_23 : decode cX5_cord 23 = .ok (.aload_n 0, 1) := by decide +kernel
theorem dX5_cord_24 : decode cX5_cord 24 = .ok (.iload_n 1, 1) := by decide +kernel
theorem dX5_cord_25 : decode cX5_cord 25 = .ok (.iload_n 2, 1) := by decide +kernel
theorem dX5_cord_26 : decode cX5_cord 26 = .ok (.invokevirtual 105, 3) := by decide +kernel
theorem dX5_cord_29 : decode cX5_cord 29 = .ok (.goto 8, 3) := by decide +kernel
theorem dX5_cord_32 : decode cX5_cord 32 = .ok (.aload_n 0, 1) := by decide +kernel
theorem dX5_cord_33 : decode cX5_cord 33 = .ok (.iconst 1, 1) := by decide +kernel
theorem dX5_cord_34 : decode cX5_cord 34 = .ok (.invokevirtual 64, 3) := by decide +kernel
theorem dX5_cord_37 : decode cX5_cord 37 = .ok (.ireturn, 1) := by decide +kernel
set_option maxRecDepth 20000 in
theorem ggX5_place_X5_isCord : GoodIn wsX5_place wsX5_isCord := goodIn_r _ [8, 9, 10, 11, 7, 12, 17, 18, 19, 20, 21, 22, 23, 24, 25, 26, 27, 28, 29, 30, 31, 32] (by decide +kernel) (by decide +kernel)
set_option maxRecDepth 20000 in
theorem gX5_place_X5_isCord : GoodIn wsX5_place (wsV RX5 60 RX5 yX5_isCord wsX5_isCord) := goodIn_app (goodIn_of _ (by decide +kernel)) ggX5_place_X5_isCord
set_option maxRecDepth 20000 in
theorem ggX5_place_X5_isIn : GoodIn wsX5_place wsX5_isIn := goodIn_r _ [12] (by decide +kernel) (by decide +kernel)
set_option maxRecDepth 20000 in
theorem gX5_place_X5_isIn : GoodIn wsX5_place (va_wsS RX5 53 yX5_isIn wsX5_isIn) := goodIn_app (goodIn_of _ (by decide +kernel)) ggX5_place_X5_isIn
set_option maxRecDepth 20000 in
theorem ggX5_place_X5_fail : GoodIn wsX5_place wsX5_fail := goodIn_r _ [16, 1, 17, 18, 19, 20, 21, 22, 23, 24, 25, 26, 27, 28, 29, 30, 31, 32] (by decide +kernel) (by decide +kernel)
set_option maxRecDepth 20000 in
theorem gX5_place_X5_fail : GoodIn wsX5_place (wsV RX5 64 RX5 yX5_fail wsX5_fail) := goodIn_app (goodIn_of _ (by decide +kernel)) ggX5_place_X5_fail
theorem dX5_place_0 : decode cX5_place 0 = .ok (.aload_n 0, 1) := by decide +kernel
theorem dX5_place_1 : decode cX5_place 1 = .ok (.iconst 0, 1) := by decide +kernel
theorem dX5_place_2 : decode cX5_place 2 = .ok (.putfield 46, 3) := by decide +kernel
theorem dX5_place_5 : decode cX5_place 5 = .ok (.aload_n 0, 1) := by decide +kernel
theorem dX5_place_6 : decode cX5_place 6 = .ok (.iload_n 1, 1) := by decide +kernel
theorem dX5_place_7 : decode cX5_place 7 = .ok (.invokevirtual 60, 3) := by decide +kernel
theorem dX5_place_10 : decode cX5_place 10 = .ok (.ifCond .eq 21, 3) := by decide +kernel
theorem dX5_place_13 : decode cX5_place 13 = .ok (.iload_n 2, 1) := by decide +kernel
theorem dX5_place_14 : decode cX5_place 14 = .ok (.iconst 0, 1) := by decide +kernel
theorem dX5_place_15 : decode cX5_place 15 = .ok (.iconst 3, 1) := by decide +kernel
theorem dX5_place_16 : decode cX5_place 16 = .ok (.invokestatic 53, 3) := by decide +kernel
theorem dX5_place_19 : decode cX5_place 19 = .ok (.ifCond .eq 12, 3) := by decide +kernel
theorem dX5_place_22 : decode cX5_place 22 = .ok (.iload_n 3, 1) := by decide +kernel
theorem dX5_place_23 : decode cX5_place 23 = .ok (.iconst 0, 1) := by decide +kernel
theorem dX5_place_24 : decode cX5_place 24 = .ok (.iconst 1, 1) := by decide +kernel
theorem dX5_place_25 : decode cX5_place 25 = .ok (.invokestatic 53, 3) := by decide +kernel
theorem dX5_place_28 : decode cX5_place 28 = .ok (.ifCond .ne 9, 3) := by decide +kernel
theorem dX5_place_31 : decode cX5_place 31 = .ok (.aload_n 0, 1) := by decide +kernel
theorem dX5_place_32 : decode cX5_place 32 = .ok (.iconst 1, 1) := by decide +kernel
theorem dX5_place_33 : decode cX5_place 33 = .ok (.invokevirtual 64, 3) := by decide +kernel
theorem dX5_place_36 : decode cX5_place 36 = .ok (.ireturn, 1) := by decide +kernel
theorem dX5_place_37 : decode cX5_place 37 = .ok (.iload_n 3, 1) := by decide +kernel
theorem dX5_place_38 : decode cX5_place 38 = .ok (.ifCond .ne 16, 3) := by decide +kernel
theorem dX5_place_41 : decode cX5_place 41 = .ok (.aload_n 0, 1) := by decide +kernel
theorem dX5_place_42 : decode cX5_place 42 = .ok (.getfield 16, 3) := by decide +kernel
theorem dX5_place_45 : decode cX5_place 45 = .ok (.iconst 4, 1) := by decide +kernel
theorem dX5_place_46 : decode cX5_place 46 = .ok (.iload_n 1, 1) := by decide +kernel
theorem dX5_place_47 : decode cX5_place 47 = .ok (.imul, 1) := by decide +kernel
theorem dX5_place_48 : decode cX5_place 48 = .ok (.iload_n 2, 1) := by decide +kernel
theorem dX5_place_49 : decode cX5_place 49 = .ok (.iadd, 1) := by decide +kernel
theorem dX5_place_50 : decode cX5_place 50 = .ok (.iaload, 1) := by decide +kernel
theorem dX5_place_51 : decode cX5_place 51 = .ok (.goto 13, 3) := by decide +kernel
theorem dX5_place_54 : decode cX5_place 54 = .ok (.aload_n 0, 1) := by decide +kernel
theorem dX5_place_55 : decode cX5_place 55 = .ok (.getfield 19, 3) := by decide +kernel
theorem dX5_place_58 : decode cX5_place 58 = .ok (.iconst 4, 1) := by decide +kernel
theorem dX5_place_59 : decode cX5_place 59 = .ok (.iload_n 1, 1) := by decide +kernel
theorem dX5_place_60 : decode cX5_place 60 = .ok (.imul, 1) := by decide +kernel
theorem dX5_place_61 : decode cX5_place 61 = .ok (.iload_n 2, 1) := by decide +kernel
theorem dX5_place_62 : decode cX5_place 62 = .ok (.iadd, 1) := by decide +kernel
theorem dX5_place_63 : decode cX5_place 63 = .ok (.iaload, 1) := by decide +kernel
theorem dX5_place_64 : decode cX5_place 64 = .ok (.ireturn, 1) := by decide +kernel
set_option maxRecDepth 20000 in
theorem ggX5_call_X5_fail : GoodIn wsX5_call wsX5_fail := goodIn_r _ [8, 1, 9, 10, 11, 12, 13, 14, 15, 16, 17, 18, 19, 20, 21, 22, 23, 24] (by decide +kernel) (by decide +kernel)
set_option maxRecDepth 20000 in
theorem gX5_call_X5_fail : GoodIn wsX5_call (wsV RX5 64 RX5 yX5_fail wsX5_fail) := goodIn_app (goodIn_of _ (by decide +kernel)) ggX5_call_X5_fail
theorem dX5_call_0 : decode cX5_call 0 = .ok (.aload_n 0, 1) := by decide +kernel
theorem dX5_call_1 : decode cX5_call 1 = .ok (.iconst 0, 1) := by decide +kernel
theorem dX5_call_2 : decode cX5_call 2 = .ok (.putfield 46, 3) := by decide +kernel
theorem dX5_call_5 : decode cX5_call 5 = .ok (.aload_n 0, 1) := by decide +kernel
theorem dX5_call_6 : decode cX5_call 6 = .ok (.getfield 57, 3) := by decide +kernel
theorem dX5_call_9 : decode cX5_call 9 = .ok (.bipush 6, 2) := by decide +kernel
theorem dX5_call_11 : decode cX5_call 11 = .ok (.if_icmp .ne 9, 3) := by decide +kernel
theorem dX5_call_14 : decode cX5_call 14 = .ok (.aload_n 0, 1) := by decide +kernel
theorem dX5_call_15 : decode cX5_call 15 = .ok (.iconst 1, 1) := by decide +kernel
theorem dX5_call_16 : decode cX5_call 16 = .ok (.invokevirtual 64, 3) := by decide +kernel
theorem dX5_call_19 : decode cX5_call 19 = .ok (.ireturn, 1) := by decide +kernel
theorem dX5_call_20 : decode cX5_call 20 = .ok (.aload_n 0, 1) := by decide +kernel
theorem dX5_call_21 : decode cX5_call 21 = .ok (.getfield 22, 3) := by decide +kernel
theorem dX5_call_24 : decode cX5_call 24 = .ok (.aload_n 0, 1) := by decide +kernel
theorem dX5_call_25 : decode cX5_call 25 = .ok (.getfield 57, 3) := by decide +kernel
theorem dX5_call_28 : decode cX5_call 28 = .ok (.bipush 10, 2) := by decide +kernel
theorem dX5_call_30 : decode cX5_call 30 = .ok (.iastore, 1) := by decide +kernel
theorem dX5_call_31 : decode cX5_call 31 = .ok (.aload_n 0, 1) := by decide +kernel
theorem dX5_call_32 : decode cX5_call 32 = .ok (.dup, 1) := by decide +kernel
theorem dX5_call_33 : decode cX5_call 33 = .ok (.getfield 57, 3) := by decide +kernel
theorem dX5_call_36 : decode cX5_call 36 = .ok (.iconst 1, 1) := by decide +kernel
theorem dX5_call_37 : decode cX5_call 37 = .ok (.iadd, 1) := by decide +kernel
theorem dX5_call_38 : decode cX5_call 38 = .ok (.putfield 57, 3) := by decide +kernel
theorem dX5_call_41 : decode cX5_call 41 = .ok (.aload_n 0, 1) := by decide +kernel
theorem dX5_call_42 : decode cX5_call 42 = .ok (.getfield 57, 3) := by decide +kernel
theorem dX5_call_45 : decode cX5_call 45 = .ok (.iconst 1, 1) := by decide +kernel
theorem dX5_call_46 : decode cX5_call 46 = .ok (.isub, 1) := by decide +kernel
theorem dX5_call_47 : decode cX5_call 47 = .ok (.ireturn, 1) := by decide +kernel
set_option maxRecDepth 20000 in
theorem ggX5_read_X5_isWitness : GoodIn wsX5_read wsX5_isWitness := goodIn_r _ [9, 10, 11, 12, 8, 13, 59, 60, 61, 62, 63, 64, 65, 66, 67, 68, 69, 70, 71, 72, 73, 74] (by decide +kernel) (by decide +kernel)
set_option maxRecDepth 20000 in
theorem gX5_read_X5_isWitness : GoodIn wsX5_read (wsV RX5 77 RX5 yX5_isWitness wsX5_isWitness) := goodIn_app (goodIn_of _ (by decide +kernel)) ggX5_read_X5_isWitness
set_option maxRecDepth 20000 in
theorem ggX5_read_X5_isCord : GoodIn wsX5_read wsX5_isCord := goodIn_r _ [17, 18, 11, 12, 8, 13, 59, 60, 61, 62, 63, 64, 65, 66, 67, 68, 69, 70, 71, 72, 73, 74] (by decide +kernel) (by decide +kernel)
set_option maxRecDepth 20000 in
theorem gX5_read_X5_isCord : GoodIn wsX5_read (wsV RX5 60 RX5 yX5_isCord wsX5_isCord) := goodIn_app (goodIn_of _ (by decide +kernel)) ggX5_read_X5_isCord
set_option maxRecDepth 20000 in
theorem ggX5_read_X5_fail : GoodIn wsX5_read wsX5_fail := goodIn_r _ [22, 1, 59, 60, 61, 62, 63, 64, 65, 66, 67, 68, 69, 70, 71, 72, 73, 74] (by decide +kernel) (by decide +kernel)
set_option maxRecDepth 20000 in
theorem gX5_read_X5_fail : GoodIn wsX5_read (wsV RX5 64 RX5 yX5_fail wsX5_fail) := goodIn_app (goodIn_of _ (by decide +kernel)) ggX5_read_X5_fail
set_option maxRecDepth 20000 in
theorem ggX5_read_X5_cordTold : GoodIn wsX5_read wsX5_cordTold := goodIn_r _ [26, 27, 28, 29, 30, 31, 32, 33, 8, 34, 18, 35, 36, 37, 38, 39, 40, 41, 42, 43, 44, 45, 46, 47, 48, 49, 50, 51, 52, 53, 54, 55, 56, 57, 58, 59, 60, 61, 62, 63, 64, 65, 66, 67, 68, 69, 70, 71, 72, 73, 74] (by decide +kernel) (by decide +kernel)
set_option maxRecDepth 20000 in
theorem gX5_read_X5_cordTold : GoodIn wsX5_read (wsV RX5 105 RX5 yX5_cordTold wsX5_cordTold) := goodIn_app (goodIn_of _ (by decide +kernel)) ggX5_read_X5_cordTold
theorem dX5_read_0 : decode cX5_read 0 = .ok (.aload_n 0, 1) := by decide +kernel
theorem dX5_read_1 : decode cX5_read 1 = .ok (.iconst 0, 1) := by decide +kernel
theorem dX5_read_2 : decode cX5_read 2 = .ok (.putfield 46, 3) := by decide +kernel
theorem dX5_read_5 : decode cX5_read 5 = .ok (.aload_n 0, 1) := by decide +kernel
theorem dX5_read_6 : decode cX5_read 6 = .ok (.iload_n 1, 1) := by decide +kernel
theorem dX5_read_7 : decode cX5_read 7 = .ok (.invokevirtual 77, 3) := by decide +kernel
theorem dX5_read_10 : decode cX5_read 10 = .ok (.ifCond .eq 11, 3) := by decide +kernel
theorem dX5_read_13 : decode cX5_read 13 = .ok (.aload_n 0, 1) := by decide +kernel
theorem dX5_read_14 : decode cX5_read 14 = .ok (.iload_n 2, 1) := by decide +kernel
theorem dX5_read_15 : decode cX5_read 15 = .ok (.invokevirtual 60, 3) := by decide +kernel
theorem dX5_read_18 : decode cX5_read 18 = .ok (.ifCond .ne 9, 3) := by decide +kernel
theorem dX5_read_21 : decode cX5_read 21 = .ok (.aload_n 0, 1) := by decide +kernel
theorem dX5_read_22 : decode cX5_read 22 = .ok (.iconst 1, 1) := by decide +kernel
theorem dX5_read_23 : decode cX5_read 23 = .ok (.invokevirtual 64, 3) := by decide +kernel
theorem dX5_read_26 : decode cX5_read 26 = .ok (.ireturn, 1) := by decide +kernel
theorem dX5_read_27 : decode cX5_read 27 = .ok (.aload_n 0, 1) := by decide +kernel
theorem dX5_read_28 : decode cX5_read 28 = .ok (.getfield 25, 3) := by decide +kernel
theorem dX5_read_31 : decode cX5_read 31 = .ok (.bipush 16, 2) := by decide +kernel
theorem dX5_read_33 : decode cX5_read 33 = .ok (.iload_n 1, 1) := by decide +kernel
theorem dX5_read_34 : decode cX5_read 34 = .ok (.imul, 1) := by decide +kernel
theorem dX5_read_35 : decode cX5_read 35 = .ok (.iload_n 2, 1) := by decide +kernel
theorem dX5_read_36 : decode cX5_read 36 = .ok (.iadd, 1) := by decide +kernel
theorem dX5_read_37 : decode cX5_read 37 = .ok (.aload_n 0, 1) := by decide +kernel
theorem dX5_read_38 : decode cX5_read 38 = .ok (.iload_n 2, 1) := by decide +kernel
theorem dX5_read_39 : decode cX5_read 39 = .ok (.iconst 3, 1) := by decide +kernel
theorem dX5_read_40 : decode cX5_read 40 = .ok (.invokevirtual 105, 3) := by decide +kernel
theorem dX5_read_43 : decode cX5_read 43 = .ok (.iastore, 1) := by decide +kernel
theorem dX5_read_44 : decode cX5_read 44 = .ok (.aload_n 0, 1) := by decide +kernel
theorem dX5_read_45 : decode cX5_read 45 = .ok (.getfield 28, 3) := by decide +kernel
theorem dX5_read_48 : decode cX5_read 48 = .ok (.bipush 16, 2) := by decide +kernel
theorem dX5_read_50 : decode cX5_read 50 = .ok (.iload_n 1, 1) := by decide +kernel
theorem dX5_read_51 : decode cX5_read 51 = .ok (.imul, 1) := by decide +kernel
theorem dX5_read_52 : decode cX5_read 52 = .ok (.iload_n 2, 1) := by decide +kernel
theorem dX5_read_53 : decode cX5_read 53 = .ok (.iadd, 1) := by decide +kernel
theorem dX5_read_54 : decode cX5_read 54 = .ok (.aload_n 0, 1) := by decide +kernel
theorem dX5_read_55 : decode cX5_read 55 = .ok (.getfield 34, 3) := by decide +kernel
theorem dX5_read_58 : decode cX5_read 58 = .ok (.iconst 0, 1) := by decide +kernel
theorem dX5_read_59 : decode cX5_read 59 = .ok (.iaload, 1) := by decide +kernel
theorem dX5_read_60 : decode cX5_read 60 = .ok (.iastore, 1) := by decide +kernel
theorem dX5_read_61 : decode cX5_read 61 = .ok (.aload_n 0, 1) := by decide +kernel
theorem dX5_read_62 : decode cX5_read 62 = .ok (.getfield 25, 3) := by decide +kernel
theorem dX5_read_65 : decode cX5_read 65 = .ok (.bipush 16, 2) := by decide +kernel
theorem dX5_read_67 : decode cX5_read 67 = .ok (.iload_n 1, 1) := by decide +kernel
theorem dX5_read_68 : decode cX5_read 68 = .ok (.imul, 1) := by decide +kernel
theorem dX5_read_69 : decode cX5_read 69 = .ok (.iload_n 2, 1) := by decide +kernel
theorem dX5_read_70 : decode cX5_read 70 = .ok (.iadd, 1) := by decide +kernel
theorem dX5_read_71 : decode cX5_read 71 = .ok (.iaload, 1) := by decide +kernel
theorem dX5_read_72 : decode cX5_read 72 = .ok (.ireturn, 1) := by decide +kernel
theorem dX5_knows_0 : decode cX5_knows 0 = .ok (.aload_n 0, 1) := by decide +kernel
theorem dX5_knows_1 : decode cX5_knows 1 = .ok (.getfield 28, 3) := by decide +kernel
theorem dX5_knows_4 : decode cX5_knows 4 = .ok (.bipush 16, 2) := by decide +kernel
theorem dX5_knows_6 : decode cX5_knows 6 = .ok (.iload_n 1, 1) := by decide +kernel
theorem dX5_knows_7 : decode cX5_knows 7 = .ok (.imul, 1) := by decide +kernel
theorem dX5_knows_8 : decode cX5_knows 8 = .ok (.iload_n 2, 1) := by decide +kernel
theorem dX5_knows_9 : decode cX5_knows 9 = .ok (.iadd, 1) := by decide +kernel
theorem dX5_knows_10 : decode cX5_knows 10 = .ok (.iaload, 1) := by decide +kernel
theorem dX5_knows_11 : decode cX5_knows 11 = .ok (.iconst (-1), 1) := by decide +kernel
theorem dX5_knows_12 : decode cX5_knows 12 = .ok (.if_icmp .eq 7, 3) := by decide +kernel
theorem dX5_knows_15 : decode cX5_knows 15 = .ok (.iconst 1, 1) := by decide +kernel
theorem dX5_knows_16 : decode cX5_knows 16 = .ok (.goto 4, 3) := by decide +kernel
theorem dX5_knows_19 : decode cX5_knows 19 = .ok (.iconst 0, 1) := by decide +kernel
theorem dX5_knows_20 : decode cX5_knows 20 = .ok (.ireturn, 1) := by decide +kernel
set_option maxRecDepth 20000 in
theorem ggX5_remembered_X5_knows : GoodIn wsX5_remembered wsX5_knows := goodIn_r _ [7, 2, 8, 9, 10, 11, 12, 13, 14, 15, 16, 17, 18, 19, 20, 21, 22, 23] (by decide +kernel) (by decide +kernel)
set_option maxRecDepth 20000 in
theorem gX5_remembered_X5_knows : GoodIn wsX5_remembered (wsV RX5 108 RX5 yX5_knows wsX5_knows) := goodIn_app (goodIn_of _ (by decide +kernel)) ggX5_remembered_X5_knows
theorem dX5_remembered_0 : decode cX5_remembered 0 = .ok (.aload_n 0, 1) := by decide +kernel
theorem dX5_remembered_1 : decode cX5_remembered 1 = .ok (.iload_n 1, 1) := by decide +kernel
theorem dX5_remembered_2 : decode cX5_remembered 2 = .ok (.iload_n 2, 1) := by decide +kernel
theorem dX5_remembered_3 : decode cX5_remembered 3 = .ok (.invokevirtual 108, 3) := by decide +kernel
theorem dX5_remembered_6 : decode cX5_remembered 6 = .ok (.ifCond .ne 14, 3) := by decide +kernel
theorem dX5_remembered_9 : decode cX5_remembered 9 = .ok (.iload_n 3, 1) := by decide +kernel
theorem dX5_remembered_10 : decode cX5_remembered 10 = .ok (.iconst 2, 1) := by decide +kernel
theorem dX5_remembered_11 : decode cX5_remembered 11 = .ok (.if_icmp .ne 7, 3) := by decide +kernel
theorem dX5_remembered_14 : decode cX5_remembered 14 = .ok (.iconst 0, 1) := by decide +kernel
theorem dX5_remembered_15 : decode cX5_remembered 15 = .ok (.goto 4, 3) := by decide +kernel
theorem dX5_remembered_18 : decode cX5_remembered 18 = .ok (.iconst (-1), 1) := by decide +kernel
theorem dX5_remembered_19 : decode cX5_remembered 19 = .ok (.ireturn, 1) := by decide +kernel
theorem dX5_remembered_20 : decode cX5_remembered 20 = .ok (.iload_n 3, 1) := by decide +kernel
theorem dX5_remembered_21 : decode cX5_remembered 21 = .ok (.ifCond .ne 17, 3) := by decide +kernel
theorem dX5_remembered_24 : decode cX5_remembered 24 = .ok (.aload_n 0, 1) := by decide +kernel
theorem dX5_remembered_25 : decode cX5_remembered 25 = .ok (.getfield 25, 3) := by decide +kernel
theorem dX5_remembered_28 : decode cX5_remembered 28 = .ok (.bipush 16, 2) := by decide +kernel
theorem dX5_remembered_30 : decode cX5_remembered 30 = .ok (.iload_n 1, 1) := by decide +kernel
theorem dX5_remembered_31 : decode cX5_remembered 31 = .ok (.imul, 1) := by decide +kernel
theorem dX5_remembered_32 : decode cX5_remembered 32 = .ok (.iload_n 2, 1) := by decide +kernel
theorem dX5_remembered_33 : decode cX5_remembered 33 = .ok (.iadd, 1) := by decide +kernel
theorem dX5_remembered_34 : decode cX5_remembered 34 = .ok (.iaload, 1) := by decide +kernel
theorem dX5_remembered_35 : decode cX5_remembered 35 = .ok (.goto 23, 3) := by decide +kernel
theorem dX5_remembered_38 : decode cX5_remembered 38 = .ok (.iload_n 3, 1) := by decide +kernel
theorem dX5_remembered_39 : decode cX5_remembered 39 = .ok (.iconst 1, 1) := by decide +kernel
theorem dX5_remembered_40 : decode cX5_remembered 40 = .ok (.if_icmp .ne 17, 3) := by decide +kernel
theorem dX5_remembered_43 : decode cX5_remembered 43 = .ok (.aload_n 0, 1) := by decide +kernel
theorem dX5_remembered_44 : decode cX5_remembered 44 = .ok (.getfield 28, 3) := by decide +kernel
theorem dX5_remembered_47 : decode cX5_remembered 47 = .ok (.bipush 16, 2) := by decide +kernel
theorem dX5_remembered_49 : decode cX5_remembered 49 = .ok (.iload_n 1, 1) := by decide +kernel
theorem dX5_remembered_50 : decode cX5_remembered 50 = .ok (.imul, 1) := by decide +kernel
theorem dX5_remembered_51 : decode cX5_remembered 51 = .ok (.iload_n 2, 1) := by decide +kernel
theorem dX5_remembered_52 : decode cX5_remembered 52 = .ok (.iadd, 1) := by decide +kernel
theorem dX5_remembered_53 : decode cX5_remembered 53 = .ok (.iaload, 1) := by decide +kernel
theorem dX5_remembered_54 : decode cX5_remembered 54 = .ok (.goto 4, 3) := by decide +kernel
theorem dX5_remembered_57 : decode cX5_remembered 57 = .ok (.iconst 1, 1) := by decide +kernel
theorem dX5_remembered_58 : decode cX5_remembered 58 = .ok (.ireturn, 1) := by decide +kernel
set_option maxRecDepth 20000 in
theorem ggX5_remembers_X5_isWitness : GoodIn wsX5_remembers wsX5_isWitness := goodIn_r _ [6, 7, 8, 9, 5, 10, 30, 31, 32, 33, 34, 35, 36, 37, 38, 39, 40, 41, 42, 43, 44, 45] (by decide +kernel) (by decide +kernel)
set_option maxRecDepth 20000 in
theorem gX5_remembers_X5_isWitness : GoodIn wsX5_remembers (wsV RX5 77 RX5 yX5_isWitness wsX5_isWitness) := goodIn_app (goodIn_of _ (by decide +kernel)) ggX5_remembers_X5_isWitness
set_option maxRecDepth 20000 in
theorem ggX5_remembers_X5_isCord : GoodIn wsX5_remembers wsX5_isCord := goodIn_r _ [14, 15, 8, 9, 5, 10, 30, 31, 32, 33, 34, 35, 36, 37, 38, 39, 40, 41, 42, 43, 44, 45] (by decide +kernel) (by decide +kernel)
set_option maxRecDepth 20000 in
theorem gX5_remembers_X5_isCord : GoodIn wsX5_remembers (wsV RX5 60 RX5 yX5_isCord wsX5_isCord) := goodIn_app (goodIn_of _ (by decide +kernel)) ggX5_remembers_X5_isCord
set_option maxRecDepth 20000 in
theorem ggX5_remembers_X5_isIn : GoodIn wsX5_remembers wsX5_isIn := goodIn_r _ [10] (by decide +kernel) (by decide +kernel)
set_option maxRecDepth 20000 in
theorem gX5_remembers_X5_isIn : GoodIn wsX5_remembers (va_wsS RX5 53 yX5_isIn wsX5_isIn) := goodIn_app (goodIn_of _ (by decide +kernel)) ggX5_remembers_X5_isIn
set_option maxRecDepth 20000 in
theorem ggX5_remembers_X5_remembered : GoodIn wsX5_remembers wsX5_remembered := goodIn_r _ [19, 20, 21, 22, 23, 24, 5, 25, 30, 31, 32, 33, 34, 35, 36, 37, 38, 39, 40, 41, 42, 43, 44, 45] (by decide +kernel) (by decide +kernel)
set_option maxRecDepth 20000 in
theorem gX5_remembers_X5_remembered : GoodIn wsX5_remembers (wsV RX5 112 RX5 yX5_remembered wsX5_remembered) := goodIn_app (goodIn_of _ (by decide +kernel)) ggX5_remembers_X5_remembered
set_option maxRecDepth 20000 in
theorem ggX5_remembers_X5_fail : GoodIn wsX5_remembers wsX5_fail := goodIn_r _ [29, 1, 30, 31, 32, 33, 34, 35, 36, 37, 38, 39, 40, 41, 42, 43, 44, 45] (by decide +kernel) (by decide +kernel)
set_option maxRecDepth 20000 in
theorem gX5_remembers_X5_fail : GoodIn wsX5_remembers (wsV RX5 64 RX5 yX5_fail wsX5_fail) := goodIn_app (goodIn_of _ (by decide +kernel)) ggX5_remembers_X5_fail
theorem dX5_remembers_0 : decode cX5_remembers 0 = .ok (.aload_n 0, 1) := by decide +kernel
theorem dX5_remembers_1 : decode cX5_remembers 1 = .ok (.iconst 0, 1) := by decide +kernel
theorem dX5_remembers_2 : decode cX5_remembers 2 = .ok (.putfield 46, 3) := by decide +kernel
theorem dX5_remembers_5 : decode cX5_remembers 5 = .ok (.aload_n 0, 1) := by decide +kernel
theorem dX5_remembers_6 : decode cX5_remembers 6 = .ok (.iload_n 1, 1) := by decide +kernel
theorem dX5_remembers_7 : decode cX5_remembers 7 = .ok (.invokevirtual 77, 3) := by decide +kernel
theorem dX5_remembers_10 : decode cX5_remembers 10 = .ok (.ifCond .eq 30, 3) := by decide +kernel
theorem dX5_remembers_13 : decode cX5_remembers 13 = .ok (.aload_n 0, 1) := by decide +kernel
theorem dX5_remembers_14 : decode cX5_remembers 14 = .ok (.iload_n 2, 1) := by decide +kernel
theorem dX5_remembers_15 : decode cX5_remembers 15 = .ok (.invokevirtual 60, 3) := by decide +kernel
theorem dX5_remembers_18 : decode cX5_remembers 18 = .ok (.ifCond .eq 22, 3) := by decide +kernel
theorem dX5_remembers_21 : decode cX5_remembers 21 = .ok (.iload_n 3, 1) := by decide +kernel
theorem dX5_remembers_22 : decode cX5_remembers 22 = .ok (.iconst 0, 1) := by decide +kernel
theorem dX5_remembers_23 : decode cX5_remembers 23 = .ok (.iconst 2, 1) := by decide +kernel
theorem dX5_remembers_24 : decode cX5_remembers 24 = .ok (.invokestatic 53, 3) := by decide +kernel
theorem dX5_remembers_27 : decode cX5_remembers 27 = .ok (.ifCond .eq 13, 3) := by decide +kernel
theorem dX5_remembers_30 : decode cX5_remembers 30 = .ok (.aload_n 0, 1) := by decide +kernel
theorem dX5_remembers_31 : decode cX5_remembers 31 = .ok (.iload_n 1, 1) := by decide +kernel
theorem dX5_remembers_32 : decode cX5_remembers 32 = .ok (.iload_n 2, 1) := by decide +kernel
theorem dX5_remembers_33 : decode cX5_remembers 33 = .ok (.iload_n 3, 1) := by decide +kernel
theorem dX5_remembers_34 : decode cX5_remembers 34 = .ok (.invokevirtual 112, 3) := by decide +kernel
theorem dX5_remembers_37 : decode cX5_remembers 37 = .ok (.goto 8, 3) := by decide +kernel
theorem dX5_remembers_40 : decode cX5_remembers 40 = .ok (.aload_n 0, 1) := by decide +kernel
theorem dX5_remembers_41 : decode cX5_remembers 41 = .ok (.iconst 1, 1) := by decide +kernel
theorem dX5_remembers_42 : decode cX5_remembers 42 = .ok (.invokevirtual 64, 3) := by decide +kernel
theorem dX5_remembers_45 : decode cX5_remembers 45 = .ok (.ireturn, 1) := by decide +kernel
set_option maxRecDepth 20000 in
theorem ggX5_trust_X5_isWitness : GoodIn wsX5_trust wsX5_isWitness := goodIn_r _ [7, 8, 9, 10, 6, 11, 16, 17, 18, 19, 20, 21, 22, 23, 24, 25, 26, 27, 28, 29, 30, 31] (by decide +kernel) (by decide +kernel)
set_option maxRecDepth 20000 in
theorem gX5_trust_X5_isWitness : GoodIn wsX5_trust (wsV RX5 77 RX5 yX5_isWitness wsX5_isWitness) := goodIn_app (goodIn_of _ (by decide +kernel)) ggX5_trust_X5_isWitness
set_option maxRecDepth 20000 in
theorem ggX5_trust_X5_fail : GoodIn wsX5_trust wsX5_fail := goodIn_r _ [15, 1, 16, 17, 18, 19, 20, 21, 22, 23, 24, 25, 26, 27, 28, 29, 30, 31] (by decide +kernel) (by decide +kernel)
set_option maxRecDepth 20000 in
theorem gX5_trust_X5_fail : GoodIn wsX5_trust (wsV RX5 64 RX5 yX5_fail wsX5_fail) := goodIn_app (goodIn_of _ (by decide +kernel)) ggX5_trust_X5_fail
theorem dX5_trust_0 : decode cX5_trust 0 = .ok (.aload_n 0, 1) := by decide +kernel
theorem dX5_trust_1 : decode cX5_trust 1 = .ok (.iconst 0, 1) := by decide +kernel
theorem dX5_trust_2 : decode cX5_trust 2 = .ok (.putfield 46, 3) := by decide +kernel
theorem dX5_trust_5 : decode cX5_trust 5 = .ok (.aload_n 0, 1) := by decide +kernel
theorem dX5_trust_6 : decode cX5_trust 6 = .ok (.iload_n 1, 1) := by decide +kernel
theorem dX5_trust_7 : decode cX5_trust 7 = .ok (.invokevirtual 77, 3) := by decide +kernel
theorem dX5_trust_10 : decode cX5_trust 10 = .ok (.ifCond .eq 12, 3) := by decide +kernel
theorem dX5_trust_13 : decode cX5_trust 13 = .ok (.aload_n 0, 1) := by decide +kernel
theorem dX5_trust_14 : decode cX5_trust 14 = .ok (.getfield 22, 3) := by decide +kernel
theorem dX5_trust_17 : decode cX5_trust 17 = .ok (.iload_n 1, 1) := by decide +kernel
theorem dX5_trust_18 : decode cX5_trust 18 = .ok (.iaload, 1) := by decide +kernel
theorem dX5_trust_19 : decode cX5_trust 19 = .ok (.goto 8, 3) := by decide +kernel
theorem dX5_trust_22 : decode cX5_trust 22 = .ok (.aload_n 0, 1) := by decide +kernel
theorem dX5_trust_23 : decode cX5_trust 23 = .ok (.iconst 1, 1) := by decide +kernel
theorem dX5_trust_24 : decode cX5_trust 24 = .ok (.invokevirtual 64, 3) := by decide +kernel
theorem dX5_trust_27 : decode cX5_trust 27 = .ok (.ireturn, 1) := by decide +kernel
set_option maxRecDepth 20000 in
theorem ggX5_behind_X5_knows : GoodIn wsX5_behind wsX5_knows := goodIn_r _ [13, 4, 14, 15, 16, 17, 18, 19, 20, 21, 22, 23, 24, 25, 26, 27, 28, 29] (by decide +kernel) (by decide +kernel)
set_option maxRecDepth 20000 in
theorem gX5_behind_X5_knows : GoodIn wsX5_behind (wsV RX5 108 RX5 yX5_knows wsX5_knows) := goodIn_app (goodIn_of _ (by decide +kernel)) ggX5_behind_X5_knows
theorem dX5_behind_0 : decode cX5_behind 0 = .ok (.iconst 0, 1) := by decide +kernel
theorem dX5_behind_1 : decode cX5_behind 1 = .ok (.istore 4, 2) := by decide +kernel
theorem dX5_behind_3 : decode cX5_behind 3 = .ok (.iconst 0, 1) := by decide +kernel
theorem dX5_behind_4 : decode cX5_behind 4 = .ok (.istore 5, 2) := by decide +kernel
theorem dX5_behind_6 : decode cX5_behind 6 = .ok (.iload 5, 2) := by decide +kernel
theorem dX5_behind_8 : decode cX5_behind 8 = .ok (.aload_n 0, 1) := by decide +kernel
theorem dX5_behind_9 : decode cX5_behind 9 = .ok (.getfield 57, 3) := by decide +kernel
theorem dX5_behind_12 : decode cX5_behind 12 = .ok (.if_icmp .ge 74, 3) := by decide +kernel
theorem dX5_behind_15 : decode cX5_behind 15 = .ok (.aload_n 0, 1) := by decide +kernel
theorem dX5_behind_16 : decode cX5_behind 16 = .ok (.iload 5, 2) := by decide +kernel
theorem dX5_behind_18 : decode cX5_behind 18 = .ok (.iload_n 1, 1) := by decide +kernel
theorem dX5_behind_19 : decode cX5_behind 19 = .ok (.invokevirtual 108, 3) := by decide +kernel
theorem dX5_behind_22 : decode cX5_behind 22 = .ok (.ifCond .eq 58, 3) := by decide +kernel
theorem dX5_behind_25 : decode cX5_behind 25 = .ok (.aload_n 0, 1) := by decide +kernel
theorem dX5_behind_26 : decode cX5_behind 26 = .ok (.getfield 25, 3) := by decide +kernel
theorem dX5_behind_29 : decode cX5_behind 29 = .ok (.bipush 16, 2) := by decide +kernel
theorem dX5_behind_31 : decode cX5_behind 31 = .ok (.iload 5, 2) := by decide +kernel
theorem dX5_behind_33 : decode cX5_behind 33 = .ok (.imul, 1) := by decide +kernel
theorem dX5_behind_34 : decode cX5_behind 34 = .ok (.iload_n 1, 1) := by decide +kernel
theorem dX5_behind_35 : decode cX5_behind 35 = .ok (.iadd, 1) := by decide +kernel
theorem dX5_behind_36 : decode cX5_behind 36 = .ok (.iaload, 1) := by decide +kernel
theorem dX5_behind_37 : decode cX5_behind 37 = .ok (.iload_n 2, 1) := by decide +kernel
theorem dX5_behind_38 : decode cX5_behind 38 = .ok (.if_icmp .eq 6, 3) := by decide +kernel
theorem dX5_behind_41 : decode cX5_behind 41 = .ok (.goto 39, 3) := by decide +kernel
theorem dX5_behind_44 : decode cX5_behind 44 = .ok (.iload_n 3, 1) := by decide +kernel
theorem dX5_behind_45 : decode cX5_behind 45 = .ok (.ifCond .eq 16, 3) := by decide +kernel
theorem dX5_behind_48 : decode cX5_behind 48 = .ok (.iload 4, 2) := by decide +kernel
theorem dX5_behind_50 : decode cX5_behind 50 = .ok (.aload_n 0, 1) := by decide +kernel
theorem dX5_behind_51 : decode cX5_behind 51 = .ok (.getfield 22, 3) := by decide +kernel
theorem dX5_behind_54 : decode cX5_behind 54 = .ok (.iload 5, 2) := by decide +kernel
theorem dX5_behind_56 : decode cX5_behind 56 = .ok (.iaload, 1) := by decide +kernel
theorem dX5_behind_57 : decode cX5_behind 57 = .ok (.iadd, 1) := by decide +kernel
theorem dX5_behind_58 : decode cX5_behind 58 = .ok (.goto 20, 3) := by decide +kernel
theorem dX5_behind_61 : decode cX5_behind 61 = .ok (.iload 4, 2) := by decide +kernel
theorem dX5_behind_63 : decode cX5_behind 63 = .ok (.aload_n 0, 1) := by decide +kernel
theorem dX5_behind_64 : decode cX5_behind 64 = .ok (.getfield 28, 3) := by decide +kernel
theorem dX5_behind_67 : decode cX5_behind 67 = .ok (.bipush 16, 2) := by decide +kernel
theorem dX5_behind_69 : decode cX5_behind 69 = .ok (.iload 5, 2) := by decide +kernel
theorem dX5_behind_71 : decode cX5_behind 71 = .ok (.imul, 1) := by decide +kernel
theorem dX5_behind_72 : decode cX5_behind 72 = .ok (.iload_n 1, 1) := by decide +kernel
theorem dX5_behind_73 : decode cX5_behind 73 = .ok (.iadd, 1) := by decide +kernel
theorem dX5_behind_74 : decode cX5_behind 74 = .ok (.iaload, 1) := by decide +kernel
theorem dX5_behind_75 : decode cX5_behind 75 = .ok (.invokestatic 92, 3) := by decide +kernel
theorem dX5_behind_78 : decode cX5_behind 78 = .ok (.istore 4, 2) := by decide +kernel
theorem dX5_behind_80 : decode cX5_behind 80 = .ok (.iinc 5 1, 3) := by decide +kernel
theorem dX5_behind_83 : decode cX5_behind 83 = .ok (.goto (-77), 3) := by decide +kernel
theorem dX5_behind_86 : decode cX5_behind 86 = .ok (.iload 4, 2) := by decide +kernel
theorem dX5_behind_88 : decode cX5_behind 88 = .ok (.ireturn, 1) := by decide +kernel
set_option maxRecDepth 20000 in
theorem ggX5_isBetter_X5_behind : GoodIn wsX5_isBetter wsX5_behind := goodIn_r _ [5, 6, 7, 8, 9, 10, 11, 12, 13, 14, 15, 16, 4, 17, 18, 19, 20, 21, 22, 23, 24, 25, 26, 27, 28, 29, 30, 31, 32, 33] (by decide +kernel) (by decide +kernel)
set_option maxRecDepth 20000 in
theorem gX5_isBetter_X5_behind : GoodIn wsX5_isBetter (wsV RX5 116 RX5 yX5_behind wsX5_behind) := goodIn_app (goodIn_of _ (by decide +kernel)) ggX5_isBetter_X5_behind
theorem dX5_isBetter_0 : decode cX5_isBetter 0 = .ok (.aload_n 0, 1) := by decide +kernel
theorem dX5_isBetter_1 : decode cX5_isBetter 1 = .ok (.iload_n 1, 1) := by decide +kernel
theorem dX5_isBetter_2 : decode cX5_isBetter 2 = .ok (.iload_n 2, 1) := by decide +kernel
theorem dX5_isBetter_3 : decode cX5_isBetter 3 = .ok (.iconst 1, 1) := by decide +kernel
theorem dX5_isBetter_4 : decode cX5_isBetter 4 = .ok (.invokevirtual 116, 3) := by decide +kernel
theorem dX5_isBetter_7 : decode cX5_isBetter 7 = .ok (.aload_n 0, 1) := by decide +kernel
theorem dX5_isBetter_8 : decode cX5_isBetter 8 = .ok (.iload_n 1, 1) := by decide +kernel
theorem dX5_isBetter_9 : decode cX5_isBetter 9 = .ok (.iload_n 3, 1) := by decide +kernel
theorem dX5_isBetter_10 : decode cX5_isBetter 10 = .ok (.iconst 1, 1) := by decide +kernel
theorem dX5_isBetter_11 : decode cX5_isBetter 11 = .ok (.invokevirtual 116, 3) := by decide +kernel
theorem dX5_isBetter_14 : decode cX5_isBetter 14 = .ok (.isub, 1) := by decide +kernel
theorem dX5_isBetter_15 : decode cX5_isBetter 15 = .ok (.istore 4, 2) := by decide +kernel
theorem dX5_isBetter_17 : decode cX5_isBetter 17 = .ok (.iload 4, 2) := by decide +kernel
theorem dX5_isBetter_19 : decode cX5_isBetter 19 = .ok (.ifCond .ne 20, 3) := by decide +kernel
theorem dX5_isBetter_22 : decode cX5_isBetter 22 = .ok (.aload_n 0, 1) := by decide +kernel
theorem dX5_isBetter_23 : decode cX5_isBetter 23 = .ok (.iload_n 1, 1) := by decide +kernel
theorem dX5_isBetter_24 : decode cX5_isBetter 24 = .ok (.iload_n 2, 1) := by decide +kernel
theorem dX5_isBetter_25 : decode cX5_isBetter 25 = .ok (.iconst 0, 1) := by decide +kernel
theorem dX5_isBetter_26 : decode cX5_isBetter 26 = .ok (.invokevirtual 116, 3) := by decide +kernel
theorem dX5_isBetter_29 : decode cX5_isBetter 29 = .ok (.aload_n 0, 1) := by decide +kernel
theorem dX5_isBetter_30 : decode cX5_isBetter 30 = .ok (.iload_n 1, 1) := by decide +kernel
theorem dX5_isBetter_31 : decode cX5_isBetter 31 = .ok (.iload_n 3, 1) := by decide +kernel
theorem dX5_isBetter_32 : decode cX5_isBetter 32 = .ok (.iconst 0, 1) := by decide +kernel
theorem dX5_isBetter_33 : decode cX5_isBetter 33 = .ok (.invokevirtual 116, 3) := by decide +kernel
theorem dX5_isBetter_36 : decode cX5_isBetter 36 = .ok (.isub, 1) := by decide +kernel
theorem dX5_isBetter_37 : decode cX5_isBetter 37 = .ok (.istore 4, 2) := by decide +kernel
theorem dX5_isBetter_39 : decode cX5_isBetter 39 = .ok (.iload 4, 2) := by decide +kernel
theorem dX5_isBetter_41 : decode cX5_isBetter 41 = .ok (.ifCond .gt 13, 3) := by decide +kernel
theorem dX5_isBetter_44 : decode cX5_isBetter 44 = .ok (.iload 4, 2) := by decide +kernel
theorem dX5_isBetter_46 : decode cX5_isBetter 46 = .ok (.ifCond .ne 12, 3) := by decide +kernel
theorem dX5_isBetter_49 : decode cX5_isBetter 49 = .ok (.iload_n 2, 1) := by decide +kernel
theorem dX5_isBetter_50 : decode cX5_isBetter 50 = .ok (.iload_n 3, 1) := by decide +kernel
theorem dX5_isBetter_51 : decode cX5_isBetter 51 = .ok (.if_icmp .ge 7, 3) := by decide +kernel
theorem dX5_isBetter_54 : decode cX5_isBetter 54 = .ok (.iconst 1, 1) := by decide +kernel
theorem dX5_isBetter_55 : decode cX5_isBetter 55 = .ok (.goto 4, 3) := by decide +kernel
theorem dX5_isBetter_58 : decode cX5_isBetter 58 = .ok (.iconst 0, 1) := by decide +kernel
theorem dX5_isBetter_59 : decode cX5_isBetter 59 = .ok (.ireturn, 1) := by decide +kernel
set_option maxRecDepth 20000 in
theorem ggX5_dispute_X5_isCord : GoodIn wsX5_dispute wsX5_isCord := goodIn_r _ [16, 17, 18, 19, 15, 20, 38, 39, 40, 41, 42, 43, 44, 45, 46, 47, 48, 49, 50, 51, 52, 53] (by decide +kernel) (by decide +kernel)
set_option maxRecDepth 20000 in
theorem gX5_dispute_X5_isCord : GoodIn wsX5_dispute (wsV RX5 60 RX5 yX5_isCord wsX5_isCord) := goodIn_app (goodIn_of _ (by decide +kernel)) ggX5_dispute_X5_isCord
set_option maxRecDepth 20000 in
theorem ggX5_dispute_X5_fail : GoodIn wsX5_dispute wsX5_fail := goodIn_r _ [24, 1, 38, 39, 40, 41, 42, 43, 44, 45, 46, 47, 48, 49, 50, 51, 52, 53] (by decide +kernel) (by decide +kernel)
set_option maxRecDepth 20000 in
theorem gX5_dispute_X5_fail : GoodIn wsX5_dispute (wsV RX5 64 RX5 yX5_fail wsX5_fail) := goodIn_app (goodIn_of _ (by decide +kernel)) ggX5_dispute_X5_fail
set_option maxRecDepth 20000 in
theorem ggX5_dispute_X5_knows : GoodIn wsX5_dispute wsX5_knows := goodIn_r _ [28, 29, 38, 39, 40, 41, 42, 43, 44, 45, 46, 47, 48, 49, 50, 51, 52, 53] (by decide +kernel) (by decide +kernel)
set_option maxRecDepth 20000 in
theorem gX5_dispute_X5_knows : GoodIn wsX5_dispute (wsV RX5 108 RX5 yX5_knows wsX5_knows) := goodIn_app (goodIn_of _ (by decide +kernel)) ggX5_dispute_X5_knows
set_option maxRecDepth 20000 in
theorem ggX5_dispute_X5_isBetter : GoodIn wsX5_dispute wsX5_isBetter := goodIn_r _ [33, 34, 35, 36, 15, 37, 2, 3, 4, 29, 9, 10, 7, 11, 25, 26, 27, 28, 38, 39, 40, 41, 42, 43, 44, 45, 46, 47, 48, 49, 50, 51, 52, 53] (by decide +kernel) (by decide +kernel)
set_option maxRecDepth 20000 in
theorem gX5_dispute_X5_isBetter : GoodIn wsX5_dispute (wsV RX5 120 RX5 yX5_isBetter wsX5_isBetter) := goodIn_app (goodIn_of _ (by decide +kernel)) ggX5_dispute_X5_isBetter
theorem dX5_dispute_0 : decode cX5_dispute 0 = .ok (.aload_n 0, 1) := by decide +kernel
theorem dX5_dispute_1 : decode cX5_dispute 1 = .ok (.iconst 0, 1) := by decide +kernel
theorem dX5_dispute_2 : decode cX5_dispute 2 = .ok (.putfield 46, 3) := by decide +kernel
theorem dX5_dispute_5 : decode cX5_dispute 5 = .ok (.aload_n 0, 1) := by decide +kernel
theorem dX5_dispute_6 : decode cX5_dispute 6 = .ok (.iload_n 1, 1) := by decide +kernel
theorem dX5_dispute_7 : decode cX5_dispute 7 = .ok (.invokevirtual 60, 3) := by decide +kernel
theorem dX5_dispute_10 : decode cX5_dispute 10 = .ok (.ifCond .ne 9, 3) := by decide +kernel
theorem dX5_dispute_13 : decode cX5_dispute 13 = .ok (.aload_n 0, 1) := by decide +kernel
theorem dX5_dispute_14 : decode cX5_dispute 14 = .ok (.iconst 1, 1) := by decide +kernel
theorem dX5_dispute_15 : decode cX5_dispute 15 = .ok (.invokevirtual 64, 3) := by decide +kernel
theorem dX5_dispute_18 : decode cX5_dispute 18 = .ok (.ireturn, 1) := by decide +kernel
theorem dX5_dispute_19 : decode cX5_dispute 19 = .ok (.iconst (-1), 1) := by decide +kernel
theorem dX5_dispute_20 : decode cX5_dispute 20 = .ok (.istore_n 2, 1) := by decide +kernel
theorem dX5_dispute_21 : decode cX5_dispute 21 = .ok (.iconst 0, 1) := by decide +kernel
theorem dX5_dispute_22 : decode cX5_dispute 22 = .ok (.istore_n 3, 1) := by decide +kernel
theorem dX5_dispute_23 : decode cX5_dispute 23 = .ok (.iload_n 3, 1) := by decide +kernel
theorem dX5_dispute_24 : decode cX5_dispute 24 = .ok (.aload_n 0, 1) := by decide +kernel
theorem dX5_dispute_25 : decode cX5_dispute 25 = .ok (.getfield 57, 3) := by decide +kernel
theorem dX5_dispute_28 : decode cX5_dispute 28 = .ok (.if_icmp .ge 55, 3) := by decide +kernel
theorem dX5_dispute_31 : decode cX5_dispute 31 = .ok (.aload_n 0, 1) := by decide +kernel
theorem dX5_dispute_32 : decode cX5_dispute 32 = .ok (.iload_n 3, 1) := by decide +kernel
theorem dX5_dispute_33 : decode cX5_dispute 33 = .ok (.iload_n 1, 1) := by decide +kernel
theorem dX5_dispute_34 : decode cX5_dispute 34 = .ok (.invokevirtual 108, 3) := by decide +kernel
theorem dX5_dispute_37 : decode cX5_dispute 37 = .ok (.ifCond .eq 40, 3) := by decide +kernel
theorem dX5_dispute_40 : decode cX5_dispute 40 = .ok (.iload_n 2, 1) := by decide +kernel
theorem dX5_dispute_41 : decode cX5_dispute 41 = .ok (.iconst (-1), 1) := by decide +kernel
theorem dX5_dispute_42 : decode cX5_dispute 42 = .ok (.if_icmp .eq 33, 3) := by decide +kernel
theorem dX5_dispute_45 : decode cX5_dispute 45 = .ok (.aload_n 0, 1) := by decide +kernel
theorem dX5_dispute_46 : decode cX5_dispute 46 = .ok (.iload_n 1, 1) := by decide +kernel
theorem dX5_dispute_47 : decode cX5_dispute 47 = .ok (.aload_n 0, 1) := by decide +kernel
theorem dX5_dispute_48 : decode cX5_dispute 48 = .ok (.getfield 25, 3) := by decide +kernel
theorem dX5_dispute_51 : decode cX5_dispute 51 = .ok (.bipush 16, 2) := by decide +kernel
theorem dX5_dispute_53 : decode cX5_dispute 53 = .ok (.iload_n 3, 1) := by decide +kernel
theorem dX5_dispute_54 : decode cX5_dispute 54 = .ok (.imul, 1) := by decide +kernel
theorem dX5_dispute_55 : decode cX5_dispute 55 = .ok (.iload_n 1, 1) := by decide +kernel
theorem dX5_dispute_56 : decode cX5_dispute 56 = .ok (.iadd, 1) := by decide +kernel
theorem dX5_dispute_57 : decode cX5_dispute 57 = .ok (.iaload, 1) := by decide +kernel
theorem dX5_dispute_58 : decode cX5_dispute 58 = .ok (.aload_n 0, 1) := by decide +kernel
theorem dX5_dispute_59 : decode cX5_dispute 59 = .ok (.getfield 25, 3) := by decide +kernel
theorem dX5_dispute_62 : decode cX5_dispute 62 = .ok (.bipush 16, 2) := by decide +kernel
theorem dX5_dispute_64 : decode cX5_dispute 64 = .ok (.iload_n 2, 1) := by decide +kernel
theorem dX5_dispute_65 : decode cX5_dispute 65 = .ok (.imul, 1) := by decide +kernel
theorem dX5_dispute_66 : decode cX5_dispute 66 = .ok (.iload_n 1, 1) := by decide +kernel
theorem dX5_dispute_67 : decode cX5_dispute 67 = .ok (.iadd, 1) := by decide +kernel
theorem dX5_dispute_68 : decode cX5_dispute 68 = .ok (.iaload, 1) := by decide +kernel
theorem dX5_dispute_69 : decode cX5_dispute 69 = .ok (.invokevirtual 120, 3) := by decide +kernel
theorem dX5_dispute_72 : decode cX5_dispute 72 = .ok (.ifCond .eq 5, 3) := by decide +kernel
theorem dX5_dispute_75 : decode cX5_dispute 75 = .ok (.iload_n 3, 1) := by decide +kernel
theorem dX5_dispute_76 : decode cX5_dispute 76 = .ok (.istore_n 2, 1) := by decide +kernel
theorem dX5_dispute_77 : decode cX5_dispute 77 = .ok (.iinc 3 1, 3) := by decide +kernel
theorem dX5_dispute_80 : decode cX5_dispute 80 = .ok (.goto (-57), 3) := by decide +kernel
theorem dX5_dispute_83 : decode cX5_dispute 83 = .ok (.iload_n 2, 1) := by decide +kernel
theorem dX5_dispute_84 : decode cX5_dispute 84 = .ok (.iconst (-1), 1) := by decide +kernel
theorem dX5_dispute_85 : decode cX5_dispute 85 = .ok (.if_icmp .ne 9, 3) := by decide +kernel
theorem dX5_dispute_88 : decode cX5_dispute 88 = .ok (.aload_n 0, 1) := by decide +kernel
theorem dX5_dispute_89 : decode cX5_dispute 89 = .ok (.iconst 2, 1) := by decide +kernel
theorem dX5_dispute_90 : decode cX5_dispute 90 = .ok (.invokevirtual 64, 3) := by decide +kernel
theorem dX5_dispute_93 : decode cX5_dispute 93 = .ok (.ireturn, 1) := by decide +kernel
theorem dX5_dispute_94 : decode cX5_dispute 94 = .ok (.aload_n 0, 1) := by decide +kernel
theorem dX5_dispute_95 : decode cX5_dispute 95 = .ok (.getfield 25, 3) := by decide +kernel
theorem dX5_dispute_98 : decode cX5_dispute 98 = .ok (.bipush 16, 2) := by decide +kernel
theorem dX5_dispute_100 : decode cX5_dispute 100 = .ok (.iload_n 2, 1) := by decide +kernel
theorem dX5_dispute_101 : decode cX5_dispute 101 = .ok (.imul, 1) := by decide +kernel
theorem dX5_dispute_102 : decode cX5_dispute 102 = .ok (.iload_n 1, 1) := by decide +kernel
theorem dX5_dispute_103 : decode cX5_dispute 103 = .ok (.iadd, 1) := by decide +kernel
theorem dX5_dispute_104 : decode cX5_dispute 104 = .ok (.iaload, 1) := by decide +kernel
theorem dX5_dispute_105 : decode cX5_dispute 105 = .ok (.istore_n 3, 1) := by decide +kernel
theorem dX5_dispute_106 : decode cX5_dispute 106 = .ok (.iconst 0, 1) := by decide +kernel
theorem dX5_dispute_107 : decode cX5_dispute 107 = .ok (.istore 4, 2) := by decide +kernel
theorem dX5_dispute_109 : decode cX5_dispute 109 = .ok (.iload 4, 2) := by decide +kernel
theorem dX5_dispute_111 : decode cX5_dispute 111 = .ok (.aload_n 0, 1) := by decide +kernel
theorem dX5_dispute_112 : decode cX5_dispute 112 = .ok (.getfield 57, 3) := by decide +kernel
theorem dX5_dispute_115 : decode cX5_dispute 115 = .ok (.if_icmp .ge 72, 3) := by decide +kernel
theorem dX5_dispute_118 : decode cX5_dispute 118 = .ok (.aload_n 0, 1) := by decide +kernel
theorem dX5_dispute_119 : decode cX5_dispute 119 = .ok (.iload 4, 2) := by decide +kernel
theorem dX5_dispute_121 : decode cX5_dispute 121 = .ok (.iload_n 1, 1) := by decide +kernel
theorem dX5_dispute_122 : decode cX5_dispute 122 = .ok (.invokevirtual 108, 3) := by decide +kernel
theorem dX5_dispute_125 : decode cX5_dispute 125 = .ok (.ifCond .eq 56, 3) := by decide +kernel
theorem dX5_dispute_128 : decode cX5_dispute 128 = .ok (.aload_n 0, 1) := by decide +kernel
theorem dX5_dispute_129 : decode cX5_dispute 129 = .ok (.getfield 22, 3) := by decide +kernel
theorem dX5_dispute_132 : decode cX5_dispute 132 = .ok (.iload 4, 2) := by decide +kernel
theorem dX5_dispute_134 : decode cX5_dispute 134 = .ok (.aload_n 0, 1) := by decide +kernel
theorem dX5_dispute_135 : decode cX5_dispute 135 = .ok (.getfield 25, 3) := by decide +kernel
theorem dX5_dispute_138 : decode cX5_dispute 138 = .ok (.bipush 16, 2) := by decide +kernel
theorem dX5_dispute_140 : decode cX5_dispute 140 = .ok (.iload 4, 2) := by decide +kernel
theorem dX5_dispute_142 : decode cX5_dispute 142 = .ok (.imul, 1) := by decide +kernel
theorem dX5_dispute_143 : decode cX5_dispute 143 = .ok (.iload_n 1, 1) := by decide +kernel
theorem dX5_dispute_144 : decode cX5_dispute 144 = .ok (.iadd, 1) := by decide +kernel
theorem dX5_dispute_145 : decode cX5_dispute 145 = .ok (.iaload, 1) := by decide +kernel
theorem dX5_dispute_146 : decode cX5_dispute 146 = .ok (.iload_n 3, 1) := by decide +kernel
theorem dX5_dispute_147 : decode cX5_dispute 147 = .ok (.if_icmp .ne 20, 3) := by decide +kernel
theorem dX5_dispute_150 : decode cX5_dispute 150 = .ok (.bipush 20, 2) := by decide +kernel
theorem dX5_dispute_152 : decode cX5_dispute 152 = .ok (.aload_n 0, 1) := by decide +kernel
theorem dX5_dispute_153 : decode cX5_dispute 153 = .ok (.getfield 22, 3) := by decide +kernel
theorem dX5_dispute_156 : decode cX5_dispute 156 = .ok (.iload 4, 2) := by decide +kernel
theorem dX5_dispute_158 : decode cX5_dispute 158 = .ok (.iaload, 1) := by decide +kernel
theorem dX5_dispute_159 : decode cX5_dispute 159 = .ok (.iconst 1, 1) := by decide +kernel
theorem dX5_dispute_160 : decode cX5_dispute 160 = .ok (.iadd, 1) := by decide +kernel
theorem dX5_dispute_161 : decode cX5_dispute 161 = .ok (.invokestatic 123, 3) := by decide +kernel
theorem dX5_dispute_164 : decode cX5_dispute 164 = .ok (.goto 16, 3) := by decide +kernel
theorem dX5_dispute_167 : decode cX5_dispute 167 = .ok (.iconst 0, 1) := by decide +kernel
theorem dX5_dispute_168 : decode cX5_dispute 168 = .ok (.aload_n 0, 1) := by decide +kernel
theorem dX5_dispute_169 : decode cX5_dispute 169 = .ok (.getfield 22, 3) := by decide +kernel
theorem dX5_dispute_172 : decode cX5_dispute 172 = .ok (.iload 4, 2) := by decide +kernel
theorem dX5_dispute_174 : decode cX5_dispute 174 = .ok (.iaload, 1) := by decide +kernel
theorem dX5_dispute_175 : decode cX5_dispute 175 = .ok (.iconst 1, 1) := by decide +kernel
theorem dX5_dispute_176 : decode cX5_dispute 176 = .ok (.isub, 1) := by decide +kernel
theorem dX5_dispute_177 : decode cX5_dispute 177 = .ok (.invokestatic 92, 3) := by decide +kernel
theorem dX5_dispute_180 : decode cX5_dispute 180 = .ok (.iastore, 1) := by decide +kernel
theorem dX5_dispute_181 : decode cX5_dispute 181 = .ok (.iinc 4 1, 3) := by decide +kernel
theorem dX5_dispute_184 : decode cX5_dispute 184 = .ok (.goto (-75), 3) := by decide +kernel
theorem dX5_dispute_187 : decode cX5_dispute 187 = .ok (.iload_n 3, 1) := by decide +kernel
theorem dX5_dispute_188 : decode cX5_dispute 188 = .ok (.ireturn, 1) := by decide +kernel
set_option maxRecDepth 20000 in
theorem ggX5_untying_X5_isIn : GoodIn wsX5_untying wsX5_isIn := goodIn_r _ [7] (by decide +kernel) (by decide +kernel)
set_option maxRecDepth 20000 in
theorem gX5_untying_X5_isIn : GoodIn wsX5_untying (va_wsS RX5 53 yX5_isIn wsX5_isIn) := goodIn_app (goodIn_of _ (by decide +kernel)) ggX5_untying_X5_isIn
set_option maxRecDepth 20000 in
theorem ggX5_untying_X5_fail : GoodIn wsX5_untying wsX5_fail := goodIn_r _ [11, 1, 12, 13, 14, 15, 16, 17, 18, 19, 20, 21, 22, 23, 24, 25, 26, 27] (by decide +kernel) (by decide +kernel)
set_option maxRecDepth 20000 in
theorem gX5_untying_X5_fail : GoodIn wsX5_untying (wsV RX5 64 RX5 yX5_fail wsX5_fail) := goodIn_app (goodIn_of _ (by decide +kernel)) ggX5_untying_X5_fail
theorem dX5_untying_0 : decode cX5_untying 0 = .ok (.aload_n 0, 1) := by decide +kernel
theorem dX5_untying_1 : decode cX5_untying 1 = .ok (.iconst 0, 1) := by decide +kernel
theorem dX5_untying_2 : decode cX5_untying 2 = .ok (.putfield 46, 3) := by decide +kernel
theorem dX5_untying_5 : decode cX5_untying 5 = .ok (.iload_n 1, 1) := by decide +kernel
theorem dX5_untying_6 : decode cX5_untying 6 = .ok (.iconst 0, 1) := by decide +kernel
theorem dX5_untying_7 : decode cX5_untying 7 = .ok (.aload_n 0, 1) := by decide +kernel
theorem dX5_untying_8 : decode cX5_untying 8 = .ok (.getfield 80, 3) := by decide +kernel
theorem dX5_untying_11 : decode cX5_untying 11 = .ok (.iconst 1, 1) := by decide +kernel
theorem dX5_untying_12 : decode cX5_untying 12 = .ok (.isub, 1) := by decide +kernel
theorem dX5_untying_13 : decode cX5_untying 13 = .ok (.invokestatic 53, 3) := by decide +kernel
theorem dX5_untying_16 : decode cX5_untying 16 = .ok (.ifCond .eq 25, 3) := by decide +kernel
theorem dX5_untying_19 : decode cX5_untying 19 = .ok (.iload_n 2, 1) := by decide +kernel
theorem dX5_untying_20 : decode cX5_untying 20 = .ok (.iconst 0, 1) := by decide +kernel
theorem dX5_untying_21 : decode cX5_untying 21 = .ok (.iconst 4, 1) := by decide +kernel
theorem dX5_untying_22 : decode cX5_untying 22 = .ok (.invokestatic 53, 3) := by decide +kernel
theorem dX5_untying_25 : decode cX5_untying 25 = .ok (.ifCond .eq 16, 3) := by decide +kernel
theorem dX5_untying_28 : decode cX5_untying 28 = .ok (.aload_n 0, 1) := by decide +kernel
theorem dX5_untying_29 : decode cX5_untying 29 = .ok (.getfield 31, 3) := by decide +kernel
theorem dX5_untying_32 : decode cX5_untying 32 = .ok (.iconst 5, 1) := by decide +kernel
theorem dX5_untying_33 : decode cX5_untying 33 = .ok (.iload_n 1, 1) := by decide +kernel
theorem dX5_untying_34 : decode cX5_untying 34 = .ok (.imul, 1) := by decide +kernel
theorem dX5_untying_35 : decode cX5_untying 35 = .ok (.iload_n 2, 1) := by decide +kernel
theorem dX5_untying_36 : decode cX5_untying 36 = .ok (.iadd, 1) := by decide +kernel
theorem dX5_untying_37 : decode cX5_untying 37 = .ok (.iaload, 1) := by decide +kernel
theorem dX5_untying_38 : decode cX5_untying 38 = .ok (.goto 8, 3) := by decide +kernel
theorem dX5_untying_41 : decode cX5_untying 41 = .ok (.aload_n 0, 1) := by decide +kernel
theorem dX5_untying_42 : decode cX5_untying 42 = .ok (.iconst 1, 1) := by decide +kernel
theorem dX5_untying_43 : decode cX5_untying 43 = .ok (.invokevirtual 64, 3) := by decide +kernel
theorem dX5_untying_46 : decode cX5_untying 46 = .ok (.ireturn, 1) := by decide +kernel
theorem dX5_yearOn_0 : decode cX5_yearOn 0 = .ok (.iconst 0, 1) := by decide +kernel
theorem dX5_yearOn_1 : decode cX5_yearOn 1 = .ok (.istore_n 1, 1) := by decide +kernel
theorem dX5_yearOn_2 : decode cX5_yearOn 2 = .ok (.iconst 0, 1) := by decide +kernel
theorem dX5_yearOn_3 : decode cX5_yearOn 3 = .ok (.istore_n 2, 1) := by decide +kernel
theorem dX5_yearOn_4 : decode cX5_yearOn 4 = .ok (.iload_n 2, 1) := by decide +kernel
theorem dX5_yearOn_5 : decode cX5_yearOn 5 = .ok (.iconst 4, 1) := by decide +kernel
theorem dX5_yearOn_6 : decode cX5_yearOn 6 = .ok (.aload_n 0, 1) := by decide +kernel
theorem dX5_yearOn_7 : decode cX5_yearOn 7 = .ok (.getfield 50, 3) := by decide +kernel
theorem dX5_yearOn_10 : decode cX5_yearOn 10 = .ok (.imul, 1) := by decide +kernel
theorem dX5_yearOn_11 : decode cX5_yearOn 11 = .ok (.if_icmp .ge 88, 3) := by decide +kernel
theorem dX5_yearOn_14 : decode cX5_yearOn 14 = .ok (.aload_n 0, 1) := by decide +kernel
theorem dX5_yearOn_15 : decode cX5_yearOn 15 = .ok (.getfield 16, 3) := by decide +kernel
theorem dX5_yearOn_18 : decode cX5_yearOn 18 = .ok (.iload_n 2, 1) := by decide +kernel
theorem dX5_yearOn_19 : decode cX5_yearOn 19 = .ok (.iaload, 1) := by decide +kernel
theorem dX5_yearOn_20 : decode cX5_yearOn 20 = .ok (.ifCond .ne 6, 3) := by decide +kernel
theorem dX5_yearOn_23 : decode cX5_yearOn 23 = .ok (.goto 70, 3) := by decide +kernel
theorem dX5_yearOn_26 : decode cX5_yearOn 26 = .ok (.aload_n 0, 1) := by decide +kernel
theorem dX5_yearOn_27 : decode cX5_yearOn 27 = .ok (.getfield 13, 3) := by decide +kernel
theorem dX5_yearOn_30 : decode cX5_yearOn 30 = .ok (.iload_n 2, 1) := by decide +kernel
theorem dX5_yearOn_31 : decode cX5_yearOn 31 = .ok (.iconst 4, 1) := by decide +kernel
theorem dX5_yearOn_32 : decode cX5_yearOn 32 = .ok (.idiv, 1) := by decide +kernel
theorem dX5_yearOn_33 : decode cX5_yearOn 33 = .ok (.iaload, 1) := by decide +kernel
theorem dX5_yearOn_34 : decode cX5_yearOn 34 = .ok (.istore_n 3, 1) := by decide +kernel
theorem dX5_yearOn_35 : decode cX5_yearOn 35 = .ok (.aload_n 0, 1) := by decide +kernel
theorem dX5_yearOn_36 : decode cX5_yearOn 36 = .ok (.getfield 19, 3) := by decide +kernel
theorem dX5_yearOn_39 : decode cX5_yearOn 39 = .ok (.iload_n 2, 1) := by decide +kernel
theorem dX5_yearOn_40 : decode cX5_yearOn 40 = .ok (.dup2, 1) := by decide +kernel
theorem dX5_yearOn_41 : decode cX5_yearOn 41 = .ok (.iaload, 1) := by decide +kernel
theorem dX5_yearOn_42 : decode cX5_yearOn 42 = .ok (.iload_n 3, 1) := by decide +kernel
theorem dX5_yearOn_43 : decode cX5_yearOn 43 = .ok (.iconst 2, 1) := by decide +kernel
theorem dX5_yearOn_44 : decode cX5_yearOn 44 = .ok (.if_icmp .eq 8, 3) := by decide +kernel
theorem dX5_yearOn_47 : decode cX5_yearOn 47 = .ok (.iload_n 3, 1) := by decide +kernel
theorem dX5_yearOn_48 : decode cX5_yearOn 48 = .ok (.iconst 4, 1) := by decide +kernel
theorem dX5_yearOn_49 : decode cX5_yearOn 49 = .ok (.if_icmp .ne 7, 3) := by decide +kernel
theorem dX5_yearOn_52 : decode cX5_yearOn 52 = .ok (.iconst 2, 1) := by decide +kernel
theorem dX5_yearOn_53 : decode cX5_yearOn 53 = .ok (.goto 4, 3) := by decide +kernel
theorem dX5_yearOn_56 : decode cX5_yearOn 56 = .ok (.iconst 1, 1) := by decide +kernel
theorem dX5_yearOn_57 : decode cX5_yearOn 57 = .ok (.iadd, 1) := by decide +kernel
theorem dX5_yearOn_58 : decode cX5_yearOn 58 = .ok (.iastore, 1) := by decide +kernel
theorem dX5_yearOn_59 : decode cX5_yearOn 59 = .ok (.aload_n 0, 1) := by decide +kernel
theorem dX5_yearOn_60 : decode cX5_yearOn 60 = .ok (.getfield 19, 3) := by decide +kernel
theorem dX5_yearOn_63 : decode cX5_yearOn 63 = .ok (.iload_n 2, 1) := by decide +kernel
theorem dX5_yearOn_64 : decode cX5_yearOn 64 = .ok (.iaload, 1) := by decide +kernel
theorem dX5_yearOn_65 : decode cX5_yearOn 65 = .ok (.bipush 10, 2) := by decide +kernel
theorem dX5_yearOn_67 : decode cX5_yearOn 67 = .ok (.if_icmp .ge 6, 3) := by decide +kernel
theorem dX5_yearOn_70 : decode cX5_yearOn 70 = .ok (.goto 23, 3) := by decide +kernel
theorem dX5_yearOn_73 : decode cX5_yearOn 73 = .ok (.aload_n 0, 1) := by decide +kernel
theorem dX5_yearOn_74 : decode cX5_yearOn 74 = .ok (.getfield 19, 3) := by decide +kernel
theorem dX5_yearOn_77 : decode cX5_yearOn 77 = .ok (.iload_n 2, 1) := by decide +kernel
theorem dX5_yearOn_78 : decode cX5_yearOn 78 = .ok (.iconst 0, 1) := by decide +kernel
theorem dX5_yearOn_79 : decode cX5_yearOn 79 = .ok (.iastore, 1) := by decide +kernel
theorem dX5_yearOn_80 : decode cX5_yearOn 80 = .ok (.aload_n 0, 1) := by decide +kernel
theorem dX5_yearOn_81 : decode cX5_yearOn 81 = .ok (.getfield 16, 3) := by decide +kernel
theorem dX5_yearOn_84 : decode cX5_yearOn 84 = .ok (.iload_n 2, 1) := by decide +kernel
theorem dX5_yearOn_85 : decode cX5_yearOn 85 = .ok (.dup2, 1) := by decide +kernel
theorem dX5_yearOn_86 : decode cX5_yearOn 86 = .ok (.iaload, 1) := by decide +kernel
theorem dX5_yearOn_87 : decode cX5_yearOn 87 = .ok (.iconst 1, 1) := by decide +kernel
theorem dX5_yearOn_88 : decode cX5_yearOn 88 = .ok (.isub, 1) := by decide +kernel
theorem dX5_yearOn_89 : decode cX5_yearOn 89 = .ok (.iastore, 1) := by decide +kernel
theorem dX5_yearOn_90 : decode cX5_yearOn 90 = .ok (.iinc 1 1, 3) := by decide +kernel
theorem dX5_yearOn_93 : decode cX5_yearOn 93 = .ok (.iinc 2 1, 3) := by decide +kernel
theorem dX5_yearOn_96 : decode cX5_yearOn 96 = .ok (.goto (-92), 3) := by decide +kernel
theorem dX5_yearOn_99 : decode cX5_yearOn 99 = .ok (.aload_n 0, 1) := by decide +kernel
theorem dX5_yearOn_100 : decode cX5_yearOn 100 = .ok (.getfield 34, 3) := by decide +kernel
theorem dX5_yearOn_103 : decode cX5_yearOn 103 = .ok (.iconst 0, 1) := by decide +kernel
theorem dX5_yearOn_104 : decode cX5_yearOn 104 = .ok (.dup2, 1) := by decide +kernel
theorem dX5_yearOn_105 : decode cX5_yearOn 105 = .ok (.iaload, 1) := by decide +kernel
theorem dX5_yearOn_106 : decode cX5_yearOn 106 = .ok (.iconst 1, 1) := by decide +kernel
theorem dX5_yearOn_107 : decode cX5_yearOn 107 = .ok (.iadd, 1) := by decide +kernel
theorem dX5_yearOn_108 : decode cX5_yearOn 108 = .ok (.iastore, 1) := by decide +kernel
theorem dX5_yearOn_109 : decode cX5_yearOn 109 = .ok (.aload_n 0, 1) := by decide +kernel
theorem dX5_yearOn_110 : decode cX5_yearOn 110 = .ok (.getfield 34, 3) := by decide +kernel
theorem dX5_yearOn_113 : decode cX5_yearOn 113 = .ok (.iconst 1, 1) := by decide +kernel
theorem dX5_yearOn_114 : decode cX5_yearOn 114 = .ok (.dup2, 1) := by decide +kernel
theorem dX5_yearOn_115 : decode cX5_yearOn 115 = .ok (.iaload, 1) := by decide +kernel
theorem dX5_yearOn_116 : decode cX5_yearOn 116 = .ok (.iload_n 1, 1) := by decide +kernel
theorem dX5_yearOn_117 : decode cX5_yearOn 117 = .ok (.iadd, 1) := by decide +kernel
theorem dX5_yearOn_118 : decode cX5_yearOn 118 = .ok (.iastore, 1) := by decide +kernel
theorem dX5_yearOn_119 : decode cX5_yearOn 119 = .ok (.iload_n 1, 1) := by decide +kernel
theorem dX5_yearOn_120 : decode cX5_yearOn 120 = .ok (.ireturn, 1) := by decide +kernel
set_option maxRecDepth 20000 in
theorem ggX5_pass_X5_isIn : GoodIn wsX5_pass wsX5_isIn := goodIn_r _ [5] (by decide +kernel) (by decide +kernel)
set_option maxRecDepth 20000 in
theorem gX5_pass_X5_isIn : GoodIn wsX5_pass (va_wsS RX5 53 yX5_isIn wsX5_isIn) := goodIn_app (goodIn_of _ (by decide +kernel)) ggX5_pass_X5_isIn
set_option maxRecDepth 20000 in
theorem ggX5_pass_X5_fail : GoodIn wsX5_pass wsX5_fail := goodIn_r _ [9, 1, 19, 20, 21, 22, 23, 24, 25, 26, 27, 28, 29, 30, 31, 32, 33, 34] (by decide +kernel) (by decide +kernel)
set_option maxRecDepth 20000 in
theorem gX5_pass_X5_fail : GoodIn wsX5_pass (wsV RX5 64 RX5 yX5_fail wsX5_fail) := goodIn_app (goodIn_of _ (by decide +kernel)) ggX5_pass_X5_fail
set_option maxRecDepth 20000 in
theorem ggX5_pass_X5_yearOn : GoodIn wsX5_pass wsX5_yearOn := goodIn_r _ [13, 14, 15, 16, 17, 18, 19, 20, 21, 22, 23, 24, 25, 26, 27, 28, 29, 30, 31, 32, 33, 34] (by decide +kernel) (by decide +kernel)
set_option maxRecDepth 20000 in
theorem gX5_pass_X5_yearOn : GoodIn wsX5_pass (wsV RX5 126 RX5 yX5_yearOn wsX5_yearOn) := goodIn_app (goodIn_of _ (by decide +kernel)) ggX5_pass_X5_yearOn
theorem dX5_pass_0 : decode cX5_pass 0 = .ok (.aload_n 0, 1) := by decide +kernel
theorem dX5_pass_1 : decode cX5_pass 1 = .ok (.iconst 0, 1) := by decide +kernel
theorem dX5_pass_2 : decode cX5_pass 2 = .ok (.putfield 46, 3) := by decide +kernel
theorem dX5_pass_5 : decode cX5_pass 5 = .ok (.iload_n 1, 1) := by decide +kernel
theorem dX5_pass_6 : decode cX5_pass 6 = .ok (.iconst 1, 1) := by decide +kernel
theorem dX5_pass_7 : decode cX5_pass 7 = .ok (.bipush 50, 2) := by decide +kernel
theorem dX5_pass_9 : decode cX5_pass 9 = .ok (.invokestatic 53, 3) := by decide +kernel
theorem dX5_pass_12 : decode cX5_pass 12 = .ok (.ifCond .ne 9, 3) := by decide +kernel
theorem dX5_pass_15 : decode cX5_pass 15 = .ok (.aload_n 0, 1) := by decide +kernel
theorem dX5_pass_16 : decode cX5_pass 16 = .ok (.iconst 1, 1) := by decide +kernel
theorem dX5_pass_17 : decode cX5_pass 17 = .ok (.invokevirtual 64, 3) := by decide +kernel
theorem dX5_pass_20 : decode cX5_pass 20 = .ok (.ireturn, 1) := by decide +kernel
theorem dX5_pass_21 : decode cX5_pass 21 = .ok (.iconst 0, 1) := by decide +kernel
theorem dX5_pass_22 : decode cX5_pass 22 = .ok (.istore_n 2, 1) := by decide +kernel
theorem dX5_pass_23 : decode cX5_pass 23 = .ok (.iconst 0, 1) := by decide +kernel
theorem dX5_pass_24 : decode cX5_pass 24 = .ok (.istore_n 3, 1) := by decide +kernel
theorem dX5_pass_25 : decode cX5_pass 25 = .ok (.iload_n 3, 1) := by decide +kernel
theorem dX5_pass_26 : decode cX5_pass 26 = .ok (.iload_n 1, 1) := by decide +kernel
theorem dX5_pass_27 : decode cX5_pass 27 = .ok (.if_icmp .ge 16, 3) := by decide +kernel
theorem dX5_pass_30 : decode cX5_pass 30 = .ok (.iload_n 2, 1) := by decide +kernel
theorem dX5_pass_31 : decode cX5_pass 31 = .ok (.aload_n 0, 1) := by decide +kernel
theorem dX5_pass_32 : decode cX5_pass 32 = .ok (.invokevirtual 126, 3) := by decide +kernel
theorem dX5_pass_35 : decode cX5_pass 35 = .ok (.iadd, 1) := by decide +kernel
theorem dX5_pass_36 : decode cX5_pass 36 = .ok (.istore_n 2, 1) := by decide +kernel
theorem dX5_pass_37 : decode cX5_pass 37 = .ok (.iinc 3 1, 3) := by decide +kernel
theorem dX5_pass_40 : decode cX5_pass 40 = .ok (.goto (-15), 3) := by decide +kernel
theorem dX5_pass_43 : decode cX5_pass 43 = .ok (.iload_n 2, 1) := by decide +kernel
theorem dX5_pass_44 : decode cX5_pass 44 = .ok (.ireturn, 1) := by decide +kernel
set_option maxRecDepth 20000 in
theorem ggX5_told_X5_cordTold : GoodIn wsX5_told wsX5_cordTold := goodIn_r _ [11, 6, 12, 13, 14, 15, 16, 17, 10, 18, 2, 19, 20, 21, 22, 23, 24, 4, 25, 26, 27, 28, 29, 30, 31, 32, 33, 34, 35, 36, 37, 38, 39, 40, 41, 42, 43, 44, 45, 46, 47, 48, 49, 50, 51, 52, 53, 54, 55, 56, 57] (by decide +kernel) (by decide +kernel)
set_option maxRecDepth 20000 in
theorem gX5_told_X5_cordTold : GoodIn wsX5_told (wsV RX5 105 RX5 yX5_cordTold wsX5_cordTold) := goodIn_app (goodIn_of _ (by decide +kernel)) ggX5_told_X5_cordTold
theorem dX5_told_0 : decode cX5_told 0 = .ok (.iconst 0, 1) := by decide +kernel
theorem dX5_told_1 : decode cX5_told 1 = .ok (.istore_n 2, 1) := by decide +kernel
theorem dX5_told_2 : decode cX5_told 2 = .ok (.iload_n 1, 1) := by decide +kernel
theorem dX5_told_3 : decode cX5_told 3 = .ok (.tableswitch 150 0 6 #[41, 48, 53, 58, 87, 92, 92], 41) := by decide +kernel
theorem dX5_told_44 : decode cX5_told 44 = .ok (.aload_n 0, 1) := by decide +kernel
theorem dX5_told_45 : decode cX5_told 45 = .ok (.getfield 34, 3) := by decide +kernel
theorem dX5_told_48 : decode cX5_told 48 = .ok (.iconst 0, 1) := by decide +kernel
theorem dX5_told_49 : decode cX5_told 49 = .ok (.iaload, 1) := by decide +kernel
theorem dX5_told_50 : decode cX5_told 50 = .ok (.ireturn, 1) := by decide +kernel
theorem dX5_told_51 : decode cX5_told 51 = .ok (.aload_n 0, 1) := by decide +kernel
theorem dX5_told_52 : decode cX5_told 52 = .ok (.getfield 50, 3) := by decide +kernel
theorem dX5_told_55 : decode cX5_told 55 = .ok (.ireturn, 1) := by decide +kernel
theorem dX5_told_56 : decode cX5_told 56 = .ok (.aload_n 0, 1) := by decide +kernel
theorem dX5_told_57 : decode cX5_told 57 = .ok (.getfield 57, 3) := by decide +kernel
theorem dX5_told_60 : decode cX5_told 60 = .ok (.ireturn, 1) := by decide +kernel
theorem dX5_told_61 : decode cX5_told 61 = .ok (.iconst 0, 1) := by decide +kernel
theorem dX5_told_62 : decode cX5_told 62 = .ok (.istore_n 3, 1) := by decide +kernel
theorem dX5_told_63 : decode cX5_told 63 = .ok (.iload_n 3, 1) := by decide +kernel
theorem dX5_told_64 : decode cX5_told 64 = .ok (.iconst 4, 1) := by decide +kernel
theorem dX5_told_65 : decode cX5_told 65 = .ok (.aload_n 0, 1) := by decide +kernel
theorem dX5_told_66 : decode cX5_told 66 = .ok (.getfield 50, 3) := by decide +kernel
theorem dX5_told_69 : decode cX5_told 69 = .ok (.imul, 1) := by decide +kernel
theorem dX5_told_70 : decode cX5_told 70 = .ok (.if_icmp .ge 18, 3) := by decide +kernel
theorem dX5_told_73 : decode cX5_told 73 = .ok (.iload_n 2, 1) := by decide +kernel
theorem dX5_told_74 : decode cX5_told 74 = .ok (.aload_n 0, 1) := by decide +kernel
theorem dX5_told_75 : decode cX5_told 75 = .ok (.getfield 16, 3) := by decide +kernel
theorem dX5_told_78 : decode cX5_told 78 = .ok (.iload_n 3, 1) := by decide +kernel
theorem dX5_told_79 : decode cX5_told 79 = .ok (.iaload, 1) := by decide +kernel
theorem dX5_told_80 : decode cX5_told 80 = .ok (.iadd, 1) := by decide +kernel
theorem dX5_told_81 : decode cX5_told 81 = .ok (.istore_n 2, 1) := by decide +kernel
theorem dX5_told_82 : decode cX5_told 82 = .ok (.iinc 3 1, 3) := by decide +kernel
theorem dX5_told_85 : decode cX5_told 85 = .ok (.goto (-22), 3) := by decide +kernel
theorem dX5_told_88 : decode cX5_told 88 = .ok (.iload_n 2, 1) := by decide +kernel
theorem dX5_told_89 : decode cX5_told 89 = .ok (.ireturn, 1) := by decide +kernel
theorem dX5_told_90 : decode cX5_told 90 = .ok (.aload_n 0, 1) := by decide +kernel
theorem dX5_told_91 : decode cX5_told 91 = .ok (.getfield 80, 3) := by decide +kernel
theorem dX5_told_94 : decode cX5_told 94 = .ok (.ireturn, 1) := by decide +kernel
theorem dX5_told_95 : decode cX5_told 95 = .ok (.iconst 0, 1) := by decide +kernel
theorem dX5_told_96 : decode cX5_told 96 = .ok (.istore_n 3, 1) := by decide +kernel
theorem dX5_told_97 : decode cX5_told 97 = .ok (.iload_n 3, 1) := by decide +kernel
theorem dX5_told_98 : decode cX5_told 98 = .ok (.aload_n 0, 1) := by decide +kernel
theorem dX5_told_99 : decode cX5_told 99 = .ok (.getfield 50, 3) := by decide +kernel
theorem dX5_told_102 : decode cX5_told 102 = .ok (.if_icmp .ge 49, 3) := by decide +kernel
theorem dX5_told_105 : decode cX5_told 105 = .ok (.iload_n 2, 1) := by decide +kernel
theorem dX5_told_106 : decode cX5_told 106 = .ok (.iload_n 1, 1) := by decide +kernel
theorem dX5_told_107 : decode cX5_told 107 = .ok (.iconst 5, 1) := by decide +kernel
theorem dX5_told_108 : decode cX5_told 108 = .ok (.if_icmp .ne 15, 3) := by decide +kernel
theorem dX5_told_111 : decode cX5_told 111 = .ok (.iconst 1, 1) := by decide +kernel
theorem dX5_told_112 : decode cX5_told 112 = .ok (.aload_n 0, 1) := by decide +kernel
theorem dX5_told_113 : decode cX5_told 113 = .ok (.iload_n 3, 1) := by decide +kernel
theorem dX5_told_114 : decode cX5_told 114 = .ok (.bipush 6, 2) := by decide +kernel
theorem dX5_told_116 : decode cX5_told 116 = .ok (.invokevirtual 105, 3) := by decide +kernel
theorem dX5_told_119 : decode cX5_told 119 = .ok (.isub, 1) := by decide +kernel
theorem dX5_told_120 : decode cX5_told 120 = .ok (.goto 23, 3) := by decide +kernel
theorem dX5_told_123 : decode cX5_told 123 = .ok (.aload_n 0, 1) := by decide +kernel
theorem dX5_told_124 : decode cX5_told 124 = .ok (.getfield 9, 3) := by decide +kernel
theorem dX5_told_127 : decode cX5_told 127 = .ok (.iload_n 3, 1) := by decide +kernel
theorem dX5_told_128 : decode cX5_told 128 = .ok (.iaload, 1) := by decide +kernel
theorem dX5_told_129 : decode cX5_told 129 = .ok (.iconst (-1), 1) := by decide +kernel
theorem dX5_told_130 : decode cX5_told 130 = .ok (.if_icmp .ne 12, 3) := by decide +kernel
theorem dX5_told_133 : decode cX5_told 133 = .ok (.aload_n 0, 1) := by decide +kernel
theorem dX5_told_134 : decode cX5_told 134 = .ok (.iload_n 3, 1) := by decide +kernel
theorem dX5_told_135 : decode cX5_told 135 = .ok (.iconst 3, 1) := by decide +kernel
theorem dX5_told_136 : decode cX5_told 136 = .ok (.invokevirtual 105, 3) := by decide +kernel
theorem dX5_told_139 : decode cX5_told 139 = .ok (.goto 4, 3) := by decide +kernel
theorem dX5_told_142 : decode cX5_told 142 = .ok (.iconst 0, 1) := by decide +kernel
theorem dX5_told_143 : decode cX5_told 143 = .ok (.iadd, 1) := by decide +kernel
theorem dX5_told_144 : decode cX5_told 144 = .ok (.istore_n 2, 1) := by decide +kernel
theorem dX5_told_145 : decode cX5_told 145 = .ok (.iinc 3 1, 3) := by decide +kernel
theorem dX5_told_148 : decode cX5_told 148 = .ok (.goto (-51), 3) := by decide +kernel
theorem dX5_told_151 : decode cX5_told 151 = .ok (.iload_n 2, 1) := by decide +kernel
theorem dX5_told_152 : decode cX5_told 152 = .ok (.ireturn, 1) := by decide +kernel
theorem dX5_told_153 : decode cX5_told 153 = .ok (.aload_n 0, 1) := by decide +kernel
theorem dX5_told_154 : decode cX5_told 154 = .ok (.getfield 34, 3) := by decide +kernel
theorem dX5_told_157 : decode cX5_told 157 = .ok (.iconst 1, 1) := by decide +kernel
theorem dX5_told_158 : decode cX5_told 158 = .ok (.iaload, 1) := by decide +kernel
theorem dX5_told_159 : decode cX5_told 159 = .ok (.ireturn, 1) := by decide +kernel
set_option maxRecDepth 20000 in
theorem ggX5_count__X5_isIn : GoodIn wsX5_count_ wsX5_isIn := goodIn_r _ [5] (by decide +kernel) (by decide +kernel)
set_option maxRecDepth 20000 in
theorem gX5_count__X5_isIn : GoodIn wsX5_count_ (va_wsS RX5 53 yX5_isIn wsX5_isIn) := goodIn_app (goodIn_of _ (by decide +kernel)) ggX5_count__X5_isIn
set_option maxRecDepth 20000 in
theorem ggX5_count__X5_told : GoodIn wsX5_count_ wsX5_told := goodIn_r _ [9, 10, 11, 12, 13, 14, 15, 16, 17, 18, 4, 19, 20, 21, 22, 23, 24, 25, 26, 27, 28, 29, 30, 31, 32, 33, 34, 35, 36, 37, 38, 39, 40, 41, 42, 43, 44, 45, 46, 47, 48, 49, 54, 55, 56, 57, 58, 59, 60, 61, 62, 63, 64, 65, 66, 67, 68, 69] (by decide +kernel) (by decide +kernel)
set_option maxRecDepth 20000 in
theorem gX5_count__X5_told : GoodIn wsX5_count_ (wsV RX5 130 RX5 yX5_told wsX5_told) := goodIn_app (goodIn_of _ (by decide +kernel)) ggX5_count__X5_told
set_option maxRecDepth 20000 in
theorem ggX5_count__X5_fail : GoodIn wsX5_count_ wsX5_fail := goodIn_r _ [53, 1, 54, 55, 56, 57, 58, 59, 60, 61, 62, 63, 64, 65, 66, 67, 68, 69] (by decide +kernel) (by decide +kernel)
set_option maxRecDepth 20000 in
theorem gX5_count__X5_fail : GoodIn wsX5_count_ (wsV RX5 64 RX5 yX5_fail wsX5_fail) := goodIn_app (goodIn_of _ (by decide +kernel)) ggX5_count__X5_fail
theorem dX5_count__0 : decode cX5_count_ 0 = .ok (.aload_n 0, 1) := by decide +kernel
theorem dX5_count__1 : decode cX5_count_ 1 = .ok (.iconst 0, 1) := by decide +kernel
theorem dX5_count__2 : decode cX5_count_ 2 = .ok (.putfield 46, 3) := by decide +kernel
theorem dX5_count__5 : decode cX5_count_ 5 = .ok (.iload_n 1, 1) := by decide +kernel
theorem dX5_count__6 : decode cX5_count_ 6 = .ok (.iconst 0, 1) := by decide +kernel
theorem dX5_count__7 : decode cX5_count_ 7 = .ok (.bipush 7, 2) := by decide +kernel
theorem dX5_count__9 : decode cX5_count_ 9 = .ok (.invokestatic 53, 3) := by decide +kernel
theorem dX5_count__12 : decode cX5_count_ 12 = .ok (.ifCond .eq 11, 3) := by decide +kernel
theorem dX5_count__15 : decode cX5_count_ 15 = .ok (.aload_n 0, 1) := by decide +kernel
theorem dX5_count__16 : decode cX5_count_ 16 = .ok (.iload_n 1, 1) := by decide +kernel
theorem dX5_count__17 : decode cX5_count_ 17 = .ok (.invokevirtual 130, 3) := by decide +kernel
theorem dX5_count__20 : decode cX5_count_ 20 = .ok (.goto 8, 3) := by decide +kernel
theorem dX5_count__23 : decode cX5_count_ 23 = .ok (.aload_n 0, 1) := by decide +kernel
theorem dX5_count__24 : decode cX5_count_ 24 = .ok (.iconst 1, 1) := by decide +kernel
theorem dX5_count__25 : decode cX5_count_ 25 = .ok (.invokevirtual 64, 3) := by decide +kernel
theorem dX5_count__28 : decode cX5_count_ 28 = .ok (.ireturn, 1) := by decide +kernel
set_option maxRecDepth 20000 in
theorem ggX5_fades_X5_isCord : GoodIn wsX5_fades wsX5_isCord := goodIn_r _ [19, 20, 21, 22, 18, 23, 66, 67, 68, 69, 70, 71, 72, 73, 74, 75, 76, 77, 78, 79, 80, 81] (by decide +kernel) (by decide +kernel)
set_option maxRecDepth 20000 in
theorem gX5_fades_X5_isCord : GoodIn wsX5_fades (wsV RX5 60 RX5 yX5_isCord wsX5_isCord) := goodIn_app (goodIn_of _ (by decide +kernel)) ggX5_fades_X5_isCord
set_option maxRecDepth 20000 in
theorem ggX5_fades_X5_fail : GoodIn wsX5_fades wsX5_fail := goodIn_r _ [27, 1, 66, 67, 68, 69, 70, 71, 72, 73, 74, 75, 76, 77, 78, 79, 80, 81] (by decide +kernel) (by decide +kernel)
set_option maxRecDepth 20000 in
theorem gX5_fades_X5_fail : GoodIn wsX5_fades (wsV RX5 64 RX5 yX5_fail wsX5_fail) := goodIn_app (goodIn_of _ (by decide +kernel)) ggX5_fades_X5_fail
set_option maxRecDepth 20000 in
theorem ggX5_fades_X5_isIn : GoodIn wsX5_fades wsX5_isIn := goodIn_r _ [23] (by decide +kernel) (by decide +kernel)
set_option maxRecDepth 20000 in
theorem gX5_fades_X5_isIn : GoodIn wsX5_fades (va_wsS RX5 53 yX5_isIn wsX5_isIn) := goodIn_app (goodIn_of _ (by decide +kernel)) ggX5_fades_X5_isIn
set_option maxRecDepth 20000 in
theorem ggX5_fades_X5_yearOn : GoodIn wsX5_fades wsX5_yearOn := goodIn_r _ [31, 20, 2, 32, 9, 10, 66, 67, 68, 69, 70, 71, 72, 73, 74, 75, 76, 77, 78, 79, 80, 81] (by decide +kernel) (by decide +kernel)
set_option maxRecDepth 20000 in
theorem gX5_fades_X5_yearOn : GoodIn wsX5_fades (wsV RX5 126 RX5 yX5_yearOn wsX5_yearOn) := goodIn_app (goodIn_of _ (by decide +kernel)) ggX5_fades_X5_yearOn
set_option maxRecDepth 20000 in
theorem ggX5_fades_X5_cordTold : GoodIn wsX5_fades wsX5_cordTold := goodIn_r _ [36, 37, 32, 38, 39, 40, 41, 42, 18, 43, 20, 44, 45, 46, 47, 48, 49, 2, 50, 51, 52, 53, 54, 55, 56, 57, 58, 59, 60, 61, 62, 63, 64, 65, 9, 66, 67, 68, 69, 70, 71, 72, 73, 74, 75, 76, 77, 78, 79, 80, 81] (by decide +kernel) (by decide +kernel)
set_option maxRecDepth 20000 in
theorem gX5_fades_X5_cordTold : GoodIn wsX5_fades (wsV RX5 105 RX5 yX5_cordTold wsX5_cordTold) := goodIn_app (goodIn_of _ (by decide +kernel)) ggX5_fades_X5_cordTold
theorem dX5_fades_0 : decode cX5_fades 0 = .ok (.aload_n 0, 1) := by decide +kernel
theorem dX5_fades_1 : decode cX5_fades 1 = .ok (.iconst 0, 1) := by decide +kernel
theorem dX5_fades_2 : decode cX5_fades 2 = .ok (.putfield 46, 3) := by decide +kernel
theorem dX5_fades_5 : decode cX5_fades 5 = .ok (.aload_n 0, 1) := by decide +kernel
theorem dX5_fades_6 : decode cX5_fades 6 = .ok (.iload_n 1, 1) := by decide +kernel
theorem dX5_fades_7 : decode cX5_fades 7 = .ok (.invokevirtual 60, 3) := by decide +kernel
theorem dX5_fades_10 : decode cX5_fades 10 = .ok (.ifCond .ne 9, 3) := by decide +kernel
theorem dX5_fades_13 : decode cX5_fades 13 = .ok (.aload_n 0, 1) := by decide +kernel
theorem dX5_fades_14 : decode cX5_fades 14 = .ok (.iconst 1, 1) := by decide +kernel
theorem dX5_fades_15 : decode cX5_fades 15 = .ok (.invokevirtual 64, 3) := by decide +kernel
theorem dX5_fades_18 : decode cX5_fades 18 = .ok (.ireturn, 1) := by decide +kernel
theorem dX5_fades_19 : decode cX5_fades 19 = .ok (.iload_n 2, 1) := by decide +kernel
theorem dX5_fades_20 : decode cX5_fades 20 = .ok (.iconst 1, 1) := by decide +kernel
theorem dX5_fades_21 : decode cX5_fades 21 = .ok (.bipush 50, 2) := by decide +kernel
theorem dX5_fades_23 : decode cX5_fades 23 = .ok (.invokestatic 53, 3) := by decide +kernel
theorem dX5_fades_26 : decode cX5_fades 26 = .ok (.ifCond .ne 9, 3) := by decide +kernel
theorem dX5_fades_29 : decode cX5_fades 29 = .ok (.aload_n 0, 1) := by decide +kernel
theorem dX5_fades_30 : decode cX5_fades 30 = .ok (.iconst 2, 1) := by decide +kernel
theorem dX5_fades_31 : decode cX5_fades 31 = .ok (.invokevirtual 64, 3) := by decide +kernel
theorem dX5_fades_34 : decode cX5_fades 34 = .ok (.ireturn, 1) := by decide +kernel
theorem dX5_fades_35 : decode cX5_fades 35 = .ok (.aload_n 0, 1) := by decide +kernel
theorem dX5_fades_36 : decode cX5_fades 36 = .ok (.getfield 16, 3) := by decide +kernel
theorem dX5_fades_39 : decode cX5_fades 39 = .ok (.invokevirtual 133, 3) := by decide +kernel
theorem dX5_fades_42 : decode cX5_fades 42 = .ok (.checkcast 134, 3) := by decide +kernel
theorem dX5_fades_45 : decode cX5_fades 45 = .ok (.astore_n 3, 1) := by decide +kernel
theorem dX5_fades_46 : decode cX5_fades 46 = .ok (.aload_n 0, 1) := by decide +kernel
theorem dX5_fades_47 : decode cX5_fades 47 = .ok (.getfield 19, 3) := by decide +kernel
theorem dX5_fades_50 : decode cX5_fades 50 = .ok (.invokevirtual 133, 3) := by decide +kernel
theorem dX5_fades_53 : decode cX5_fades 53 = .ok (.checkcast 134, 3) := by decide +kernel
theorem dX5_fades_56 : decode cX5_fades 56 = .ok (.astore 4, 2) := by decide +kernel
theorem dX5_fades_58 : decode cX5_fades 58 = .ok (.aload_n 0, 1) := by decide +kernel
theorem dX5_fades_59 : decode cX5_fades 59 = .ok (.getfield 34, 3) := by decide +kernel
theorem dX5_fades_62 : decode cX5_fades 62 = .ok (.invokevirtual 133, 3) := by decide +kernel
theorem dX5_fades_65 : decode cX5_fades 65 = .ok (.checkcast 134, 3) := by decide +kernel
theorem dX5_fades_68 : decode cX5_fades 68 = .ok (.astore 5, 2) := by decide +kernel
theorem dX5_fades_70 : decode cX5_fades 70 = .ok (.iconst 0, 1) := by decide +kernel
theorem dX5_fades_71 : decode cX5_fades 71 = .ok (.istore 6, 2) := by decide +kernel
theorem dX5_fades_73 : decode cX5_fades 73 = .ok (.iload 6, 2) := by decide +kernel
theorem dX5_fades_75 : decode cX5_fades 75 = .ok (.iload_n 2, 1) := by decide +kernel
theorem dX5_fades_76 : decode cX5_fades 76 = .ok (.if_icmp .ge 14, 3) := by decide +kernel
theorem dX5_fades_79 : decode cX5_fades 79 = .ok (.aload_n 0, 1) := by decide +kernel
theorem dX5_fades_80 : decode cX5_fades 80 = .ok (.invokevirtual 126, 3) := by decide +kernel
theorem dX5_fades_83 : decode cX5_fades 83 = .ok (.pop, 1) := by decide +kernel
theorem dX5_fades_84 : decode cX5_fades 84 = .ok (.iinc 6 1, 3) := by decide +kernel
theorem dX5_fades_87 : decode cX5_fades 87 = .ok (.goto (-14), 3) := by decide +kernel
theorem dX5_fades_90 : decode cX5_fades 90 = .ok (.aload_n 0, 1) := by decide +kernel
theorem dX5_fades_91 : decode cX5_fades 91 = .ok (.iload_n 1, 1) := by decide +kernel
theorem dX5_fades_92 : decode cX5_fades 92 = .ok (.iconst 3, 1) := by decide +kernel
theorem dX5_fades_93 : decode cX5_fades 93 = .ok (.invokevirtual 105, 3) := by decide +kernel
theorem dX5_fades_96 : decode cX5_fades 96 = .ok (.istore 6, 2) := by decide +kernel
theorem dX5_fades_98 : decode cX5_fades 98 = .ok (.aload_n 3, 1) := by decide +kernel
theorem dX5_fades_99 : decode cX5_fades 99 = .ok (.iconst 0, 1) := by decide +kernel
theorem dX5_fades_100 : decode cX5_fades 100 = .ok (.aload_n 0, 1) := by decide +kernel
theorem dX5_fades_101 : decode cX5_fades 101 = .ok (.getfield 16, 3) := by decide +kernel
theorem dX5_fades_104 : decode cX5_fades 104 = .ok (.iconst 0, 1) := by decide +kernel
theorem dX5_fades_105 : decode cX5_fades 105 = .ok (.aload_n 0, 1) := by decide +kernel
theorem dX5_fades_106 : decode cX5_fades 106 = .ok (.getfield 16, 3) := by decide +kernel
theorem dX5_fades_109 : decode cX5_fades 109 = .ok (.arraylength, 1) := by decide +kernel
theorem dX5_fades_110 : decode cX5_fades 110 = .ok (.invokestatic 83, 3) := by decide +kernel
theorem dX5_fades_113 : decode cX5_fades 113 = .ok (.aload 4, 2) := by decide +kernel
theorem dX5_fades_115 : decode cX5_fades 115 = .ok (.iconst 0, 1) := by decide +kernel
theorem dX5_fades_116 : decode cX5_fades 116 = .ok (.aload_n 0, 1) := by decide +kernel
theorem dX5_fades_117 : decode cX5_fades 117 = .ok (.getfield 19, 3) := by decide +kernel
theorem dX5_fades_120 : decode cX5_fades 120 = .ok (.iconst 0, 1) := by decide +kernel
theorem dX5_fades_121 : decode cX5_fades 121 = .ok (.aload_n 0, 1) := by decide +kernel
theorem dX5_fades_122 : decode cX5_fades 122 = .ok (.getfield 19, 3) := by decide +kernel
theorem dX5_fades_125 : decode cX5_fades 125 = .ok (.arraylength, 1) := by decide +kernel
theorem dX5_fades_126 : decode cX5_fades 126 = .ok (.invokestatic 83, 3) := by decide +kernel
theorem dX5_fades_129 : decode cX5_fades 129 = .ok (.aload 5, 2) := by decide +kernel
theorem dX5_fades_131 : decode cX5_fades 131 = .ok (.iconst 0, 1) := by decide +kernel
theorem dX5_fades_132 : decode cX5_fades 132 = .ok (.aload_n 0, 1) := by decide +kernel
theorem dX5_fades_133 : decode cX5_fades 133 = .ok (.getfield 34, 3) := by decide +kernel
theorem dX5_fades_136 : decode cX5_fades 136 = .ok (.iconst 0, 1) := by decide +kernel
theorem dX5_fades_137 : decode cX5_fades 137 = .ok (.aload_n 0, 1) := by decide +kernel
theorem dX5_fades_138 : decode cX5_fades 138 = .ok (.getfield 34, 3) := by decide +kernel
theorem dX5_fades_141 : decode cX5_fades 141 = .ok (.arraylength, 1) := by decide +kernel
theorem dX5_fades_142 : decode cX5_fades 142 = .ok (.invokestatic 83, 3) := by decide +kernel
theorem dX5_fades_145 : decode cX5_fades 145 = .ok (.iload 6, 2) := by decide +kernel
theorem dX5_fades_147 : decode cX5_fades 147 = .ok (.ireturn, 1) := by decide +kernel
set_option maxRecDepth 20000 in
theorem ggX5_amends_X5_isCord : GoodIn wsX5_amends wsX5_isCord := goodIn_r _ [13, 14, 15, 16, 12, 17, 54, 55, 56, 57, 58, 59, 60, 61, 62, 63, 64, 65, 66, 67, 68, 69] (by decide +kernel) (by decide +kernel)
set_option maxRecDepth 20000 in
theorem gX5_amends_X5_isCord : GoodIn wsX5_amends (wsV RX5 60 RX5 yX5_isCord wsX5_isCord) := goodIn_app (goodIn_of _ (by decide +kernel)) ggX5_amends_X5_isCord
set_option maxRecDepth 20000 in
theorem ggX5_amends_X5_fail : GoodIn wsX5_amends wsX5_fail := goodIn_r _ [21, 1, 54, 55, 56, 57, 58, 59, 60, 61, 62, 63, 64, 65, 66, 67, 68, 69] (by decide +kernel) (by decide +kernel)
set_option maxRecDepth 20000 in
theorem gX5_amends_X5_fail : GoodIn wsX5_amends (wsV RX5 64 RX5 yX5_fail wsX5_fail) := goodIn_app (goodIn_of _ (by decide +kernel)) ggX5_amends_X5_fail
set_option maxRecDepth 20000 in
theorem ggX5_amends_X5_cordTold : GoodIn wsX5_amends wsX5_cordTold := goodIn_r _ [25, 26, 27, 28, 2, 29, 30, 31, 12, 32, 14, 33, 34, 35, 36, 37, 3, 4, 38, 39, 40, 41, 42, 43, 7, 44, 45, 46, 47, 48, 49, 50, 51, 52, 53, 54, 55, 56, 57, 58, 59, 60, 61, 62, 63, 64, 65, 66, 67, 68, 69] (by decide +kernel) (by decide +kernel)
set_option maxRecDepth 20000 in
theorem gX5_amends_X5_cordTold : GoodIn wsX5_amends (wsV RX5 105 RX5 yX5_cordTold wsX5_cordTold) := goodIn_app (goodIn_of _ (by decide +kernel)) ggX5_amends_X5_cordTold
set_option maxRecDepth 20000 in
theorem ggX5_amends_X5_isIn : GoodIn wsX5_amends wsX5_isIn := goodIn_r _ [17] (by decide +kernel) (by decide +kernel)
set_option maxRecDepth 20000 in
theorem gX5_amends_X5_isIn : GoodIn wsX5_amends (va_wsS RX5 53 yX5_isIn wsX5_isIn) := goodIn_app (goodIn_of _ (by decide +kernel)) ggX5_amends_X5_isIn
theorem dX5_amends_0 : decode cX5_amends 0 = .ok (.aload_n 0, 1) := by decide +kernel
theorem dX5_amends_1 : decode cX5_amends 1 = .ok (.iconst 0, 1) := by decide +kernel
theorem dX5_amends_2 : decode cX5_amends 2 = .ok (.putfield 46, 3) := by decide +kernel
theorem dX5_amends_5 : decode cX5_amends 5 = .ok (.aload_n 0, 1) := by decide +kernel
theorem dX5_amends_6 : decode cX5_amends 6 = .ok (.iload_n 1, 1) := by decide +kernel
theorem dX5_amends_7 : decode cX5_amends 7 = .ok (.invokevirtual 60, 3) := by decide +kernel
theorem dX5_amends_10 : decode cX5_amends 10 = .ok (.ifCond .ne 9, 3) := by decide +kernel
theorem dX5_amends_13 : decode cX5_amends 13 = .ok (.aload_n 0, 1) := by decide +kernel
theorem dX5_amends_14 : decode cX5_amends 14 = .ok (.iconst 1, 1) := by decide +kernel
theorem dX5_amends_15 : decode cX5_amends 15 = .ok (.invokevirtual 64, 3) := by decide +kernel
theorem dX5_amends_18 : decode cX5_amends 18 = .ok (.ireturn, 1) := by decide +kernel
theorem dX5_amends_19 : decode cX5_amends 19 = .ok (.aload_n 0, 1) := by decide +kernel
theorem dX5_amends_20 : decode cX5_amends 20 = .ok (.iload_n 1, 1) := by decide +kernel
theorem dX5_amends_21 : decode cX5_amends 21 = .ok (.bipush 6, 2) := by decide +kernel
theorem dX5_amends_23 : decode cX5_amends 23 = .ok (.invokevirtual 105, 3) := by decide +kernel
theorem dX5_amends_26 : decode cX5_amends 26 = .ok (.iconst 1, 1) := by decide +kernel
theorem dX5_amends_27 : decode cX5_amends 27 = .ok (.if_icmp .ne 5, 3) := by decide +kernel
theorem dX5_amends_30 : decode cX5_amends 30 = .ok (.iconst 0, 1) := by decide +kernel
theorem dX5_amends_31 : decode cX5_amends 31 = .ok (.ireturn, 1) := by decide +kernel
theorem dX5_amends_32 : decode cX5_amends 32 = .ok (.aload_n 0, 1) := by decide +kernel
theorem dX5_amends_33 : decode cX5_amends 33 = .ok (.getfield 37, 3) := by decide +kernel
theorem dX5_amends_36 : decode cX5_amends 36 = .ok (.iload_n 1, 1) := by decide +kernel
theorem dX5_amends_37 : decode cX5_amends 37 = .ok (.iaload, 1) := by decide +kernel
theorem dX5_amends_38 : decode cX5_amends 38 = .ok (.istore_n 2, 1) := by decide +kernel
theorem dX5_amends_39 : decode cX5_amends 39 = .ok (.iload_n 2, 1) := by decide +kernel
theorem dX5_amends_40 : decode cX5_amends 40 = .ok (.iconst 0, 1) := by decide +kernel
theorem dX5_amends_41 : decode cX5_amends 41 = .ok (.sipush 9999, 3) := by decide +kernel
theorem dX5_amends_44 : decode cX5_amends 44 = .ok (.invokestatic 53, 3) := by decide +kernel
theorem dX5_amends_47 : decode cX5_amends 47 = .ok (.ifCond .ne 5, 3) := by decide +kernel
theorem dX5_amends_50 : decode cX5_amends 50 = .ok (.iconst (-1), 1) := by decide +kernel
theorem dX5_amends_51 : decode cX5_amends 51 = .ok (.ireturn, 1) := by decide +kernel
theorem dX5_amends_52 : decode cX5_amends 52 = .ok (.iconst 0, 1) := by decide +kernel
theorem dX5_amends_53 : decode cX5_amends 53 = .ok (.istore_n 3, 1) := by decide +kernel
theorem dX5_amends_54 : decode cX5_amends 54 = .ok (.iconst 0, 1) := by decide +kernel
theorem dX5_amends_55 : decode cX5_amends 55 = .ok (.istore 4, 2) := by decide +kernel
theorem dX5_amends_57 : decode cX5_amends 57 = .ok (.iload 4, 2) := by decide +kernel
theorem dX5_amends_59 : decode cX5_amends 59 = .ok (.iconst 4, 1) := by decide +kernel
theorem dX5_amends_60 : decode cX5_amends 60 = .ok (.if_icmp .ge 38, 3) := by decide +kernel
theorem dX5_amends_63 : decode cX5_amends 63 = .ok (.iload_n 3, 1) := by decide +kernel
theorem dX5_amends_64 : decode cX5_amends 64 = .ok (.iload_n 2, 1) := by decide +kernel
theorem dX5_amends_65 : decode cX5_amends 65 = .ok (.getstatic 71, 3) := by decide +kernel
theorem dX5_amends_68 : decode cX5_amends 68 = .ok (.iload 4, 2) := by decide +kernel
theorem dX5_amends_70 : decode cX5_amends 70 = .ok (.iaload, 1) := by decide +kernel
theorem dX5_amends_71 : decode cX5_amends 71 = .ok (.idiv, 1) := by decide +kernel
theorem dX5_amends_72 : decode cX5_amends 72 = .ok (.bipush 10, 2) := by decide +kernel
theorem dX5_amends_74 : decode cX5_amends 74 = .ok (.irem, 1) := by decide +kernel
theorem dX5_amends_75 : decode cX5_amends 75 = .ok (.aload_n 0, 1) := by decide +kernel
theorem dX5_amends_76 : decode cX5_amends 76 = .ok (.getfield 16, 3) := by decide +kernel
theorem dX5_amends_79 : decode cX5_amends 79 = .ok (.iconst 4, 1) := by decide +kernel
theorem dX5_amends_80 : decode cX5_amends 80 = .ok (.iload_n 1, 1) := by decide +kernel
theorem dX5_amends_81 : decode cX5_amends 81 = .ok (.imul, 1) := by decide +kernel
theorem dX5_amends_82 : decode cX5_amends 82 = .ok (.iload 4, 2) := by decide +kernel
theorem dX5_amends_84 : decode cX5_amends 84 = .ok (.iadd, 1) := by decide +kernel
theorem dX5_amends_85 : decode cX5_amends 85 = .ok (.iaload, 1) := by decide +kernel
theorem dX5_amends_86 : decode cX5_amends 86 = .ok (.isub, 1) := by decide +kernel
theorem dX5_amends_87 : decode cX5_amends 87 = .ok (.invokestatic 138, 3) := by decide +kernel
theorem dX5_amends_90 : decode cX5_amends 90 = .ok (.iadd, 1) := by decide +kernel
theorem dX5_amends_91 : decode cX5_amends 91 = .ok (.istore_n 3, 1) := by decide +kernel
theorem dX5_amends_92 : decode cX5_amends 92 = .ok (.iinc 4 1, 3) := by decide +kernel
theorem dX5_amends_95 : decode cX5_amends 95 = .ok (.goto (-38), 3) := by decide +kernel
theorem dX5_amends_98 : decode cX5_amends 98 = .ok (.iload_n 3, 1) := by decide +kernel
theorem dX5_amends_99 : decode cX5_amends 99 = .ok (.ireturn, 1) := by decide +kernel
set_option maxRecDepth 20000 in
theorem ggX5_weighs_X5_cordTold : GoodIn wsX5_weighs wsX5_cordTold := goodIn_r _ [16, 17, 18, 19, 20, 21, 22, 23, 15, 24, 2, 25, 26, 27, 28, 29, 30, 3, 31, 32, 33, 34, 35, 36, 7, 37, 38, 39, 40, 41, 42, 43, 44, 45, 46, 47, 48, 49, 50, 51, 52, 53, 54, 55, 56, 57, 58, 59, 60, 61, 62] (by decide +kernel) (by decide +kernel)
set_option maxRecDepth 20000 in
theorem gX5_weighs_X5_cordTold : GoodIn wsX5_weighs (wsV RX5 105 RX5 yX5_cordTold wsX5_cordTold) := goodIn_app (goodIn_of _ (by decide +kernel)) ggX5_weighs_X5_cordTold
theorem dX5_weighs_0 : decode cX5_weighs 0 = .ok (.aload_n 0, 1) := by decide +kernel
theorem dX5_weighs_1 : decode cX5_weighs 1 = .ok (.iconst 0, 1) := by decide +kernel
theorem dX5_weighs_2 : decode cX5_weighs 2 = .ok (.putfield 46, 3) := by decide +kernel
theorem dX5_weighs_5 : decode cX5_weighs 5 = .ok (.iconst (-1), 1) := by decide +kernel
theorem dX5_weighs_6 : decode cX5_weighs 6 = .ok (.istore_n 1, 1) := by decide +kernel
theorem dX5_weighs_7 : decode cX5_weighs 7 = .ok (.lconst 0, 1) := by decide +kernel
theorem dX5_weighs_8 : decode cX5_weighs 8 = .ok (.lstore_n 2, 1) := by decide +kernel
theorem dX5_weighs_9 : decode cX5_weighs 9 = .ok (.iconst 0, 1) := by decide +kernel
theorem dX5_weighs_10 : decode cX5_weighs 10 = .ok (.istore 4, 2) := by decide +kernel
theorem dX5_weighs_12 : decode cX5_weighs 12 = .ok (.iload 4, 2) := by decide +kernel
theorem dX5_weighs_14 : decode cX5_weighs 14 = .ok (.aload_n 0, 1) := by decide +kernel
theorem dX5_weighs_15 : decode cX5_weighs 15 = .ok (.getfield 50, 3) := by decide +kernel
theorem dX5_weighs_18 : decode cX5_weighs 18 = .ok (.if_icmp .ge 102, 3) := by decide +kernel
theorem dX5_weighs_21 : decode cX5_weighs 21 = .ok (.iconst 4, 1) := by decide +kernel
theorem dX5_weighs_22 : decode cX5_weighs 22 = .ok (.iload 4, 2) := by decide +kernel
theorem dX5_weighs_24 : decode cX5_weighs 24 = .ok (.imul, 1) := by decide +kernel
theorem dX5_weighs_25 : decode cX5_weighs 25 = .ok (.iconst 4, 1) := by decide +kernel
theorem dX5_weighs_26 : decode cX5_weighs 26 = .ok (.iadd, 1) := by decide +kernel
theorem dX5_weighs_27 : decode cX5_weighs 27 = .ok (.iconst 1, 1) := by decide +kernel
theorem dX5_weighs_28 : decode cX5_weighs 28 = .ok (.isub, 1) := by decide +kernel
theorem dX5_weighs_29 : decode cX5_weighs 29 = .ok (.istore 5, 2) := by decide +kernel
theorem dX5_weighs_31 : decode cX5_weighs 31 = .ok (.aload_n 0, 1) := by decide +kernel
theorem dX5_weighs_32 : decode cX5_weighs 32 = .ok (.getfield 16, 3) := by decide +kernel
theorem dX5_weighs_35 : decode cX5_weighs 35 = .ok (.iload 5, 2) := by decide +kernel
theorem dX5_weighs_37 : decode cX5_weighs 37 = .ok (.iaload, 1) := by decide +kernel
theorem dX5_weighs_38 : decode cX5_weighs 38 = .ok (.bipush 9, 2) := by decide +kernel
theorem dX5_weighs_40 : decode cX5_weighs 40 = .ok (.if_icmp .ne 6, 3) := by decide +kernel
theorem dX5_weighs_43 : decode cX5_weighs 43 = .ok (.goto 71, 3) := by decide +kernel
theorem dX5_weighs_46 : decode cX5_weighs 46 = .ok (.aload_n 0, 1) := by decide +kernel
theorem dX5_weighs_47 : decode cX5_weighs 47 = .ok (.iconst 0, 1) := by decide +kernel
theorem dX5_weighs_48 : decode cX5_weighs 48 = .ok (.iconst 3, 1) := by decide +kernel
theorem dX5_weighs_49 : decode cX5_weighs 49 = .ok (.invokevirtual 105, 3) := by decide +kernel
theorem dX5_weighs_52 : decode cX5_weighs 52 = .ok (.i2l, 1) := by decide +kernel
theorem dX5_weighs_53 : decode cX5_weighs 53 = .ok (.lstore 6, 2) := by decide +kernel
theorem dX5_weighs_55 : decode cX5_weighs 55 = .ok (.aload_n 0, 1) := by decide +kernel
theorem dX5_weighs_56 : decode cX5_weighs 56 = .ok (.getfield 16, 3) := by decide +kernel
theorem dX5_weighs_59 : decode cX5_weighs 59 = .ok (.iload 5, 2) := by decide +kernel
theorem dX5_weighs_61 : decode cX5_weighs 61 = .ok (.dup2, 1) := by decide +kernel
theorem dX5_weighs_62 : decode cX5_weighs 62 = .ok (.iaload, 1) := by decide +kernel
theorem dX5_weighs_63 : decode cX5_weighs 63 = .ok (.iconst 1, 1) := by decide +kernel
theorem dX5_weighs_64 : decode cX5_weighs 64 = .ok (.iadd, 1) := by decide +kernel
theorem dX5_weighs_65 : decode cX5_weighs 65 = .ok (.iastore, 1) := by decide +kernel
theorem dX5_weighs_66 : decode cX5_weighs 66 = .ok (.ldc2_w 143, 3) := by decide +kernel
theorem dX5_weighs_69 : decode cX5_weighs 69 = .ok (.aload_n 0, 1) := by decide +kernel
theorem dX5_weighs_70 : decode cX5_weighs 70 = .ok (.iconst 0, 1) := by decide +kernel
theorem dX5_weighs_71 : decode cX5_weighs 71 = .ok (.iconst 3, 1) := by decide +kernel
theorem dX5_weighs_72 : decode cX5_weighs 72 = .ok (.invokevirtual 105, 3) := by decide +kernel
theorem dX5_weighs_75 : decode cX5_weighs 75 = .ok (.i2l, 1) := by decide +kernel
theorem dX5_weighs_76 : decode cX5_weighs 76 = .ok (.lload 6, 2) := by decide +kernel
theorem dX5_weighs_78 : decode cX5_weighs 78 = .ok (.lsub, 1) := by decide +kernel
theorem dX5_weighs_79 : decode cX5_weighs 79 = .ok (.invokestatic 145, 3) := by decide +kernel
theorem dX5_weighs_82 : decode cX5_weighs 82 = .ok (.invokestatic 148, 3) := by decide +kernel
theorem dX5_weighs_85 : decode cX5_weighs 85 = .ok (.lstore 8, 2) := by decide +kernel
theorem dX5_weighs_87 : decode cX5_weighs 87 = .ok (.aload_n 0, 1) := by decide +kernel
theorem dX5_weighs_88 : decode cX5_weighs 88 = .ok (.getfield 16, 3) := by decide +kernel
theorem dX5_weighs_91 : decode cX5_weighs 91 = .ok (.iload 5, 2) := by decide +kernel
theorem dX5_weighs_93 : decode cX5_weighs 93 = .ok (.dup2, 1) := by decide +kernel
theorem dX5_weighs_94 : decode cX5_weighs 94 = .ok (.iaload, 1) := by decide +kernel
theorem dX5_weighs_95 : decode cX5_weighs 95 = .ok (.iconst 1, 1) := by decide +kernel
theorem dX5_weighs_96 : decode cX5_weighs 96 = .ok (.isub, 1) := by decide +kernel
theorem dX5_weighs_97 : decode cX5_weighs 97 = .ok (.iastore, 1) := by decide +kernel
theorem dX5_weighs_98 : decode cX5_weighs 98 = .ok (.lload 8, 2) := by decide +kernel
theorem dX5_weighs_100 : decode cX5_weighs 100 = .ok (.lload_n 2, 1) := by decide +kernel
theorem dX5_weighs_101 : decode cX5_weighs 101 = .ok (.lcmp, 1) := by decide +kernel
theorem dX5_weighs_102 : decode cX5_weighs 102 = .ok (.ifCond .gt 6, 3) := by decide +kernel
theorem dX5_weighs_105 : decode cX5_weighs 105 = .ok (.goto 9, 3) := by decide +kernel
theorem dX5_weighs_108 : decode cX5_weighs 108 = .ok (.iload 4, 2) := by decide +kernel
theorem dX5_weighs_110 : decode cX5_weighs 110 = .ok (.istore_n 1, 1) := by decide +kernel
theorem dX5_weighs_111 : decode cX5_weighs 111 = .ok (.lload 8, 2) := by decide +kernel
theorem dX5_weighs_113 : decode cX5_weighs 113 = .ok (.lstore_n 2, 1) := by decide +kernel
theorem dX5_weighs_114 : decode cX5_weighs 114 = .ok (.iinc 4 1, 3) := by decide +kernel
theorem dX5_weighs_117 : decode cX5_weighs 117 = .ok (.goto (-105), 3) := by decide +kernel
theorem dX5_weighs_120 : decode cX5_weighs 120 = .ok (.iload_n 1, 1) := by decide +kernel
theorem dX5_weighs_121 : decode cX5_weighs 121 = .ok (.ireturn, 1) := by decide +kernel
set_option maxRecDepth 20000 in
theorem ggX5_line_X5_isCord : GoodIn wsX5_line wsX5_isCord := goodIn_r _ [10, 11, 12, 13, 9, 14, 262, 263, 264, 265, 266, 267, 268, 269, 270, 271, 272, 273, 274, 275, 276, 277] (by decide +kernel) (by decide +kernel)
set_option maxRecDepth 20000 in
theorem gX5_line_X5_isCord : GoodIn wsX5_line (wsV RX5 60 RX5 yX5_isCord wsX5_isCord) := goodIn_app (goodIn_of _ (by decide +kernel)) ggX5_line_X5_isCord
set_option maxRecDepth 20000 in
theorem ggX5_line_X5_fail : GoodIn wsX5_line wsX5_fail := goodIn_r _ [18, 1, 262, 263, 264, 265, 266, 267, 268, 269, 270, 271, 272, 273, 274, 275, 276, 277] (by decide +kernel) (by decide +kernel)
set_option maxRecDepth 20000 in
theorem gX5_line_X5_fail : GoodIn wsX5_line (wsV RX5 64 RX5 yX5_fail wsX5_fail) := goodIn_app (goodIn_of _ (by decide +kernel)) ggX5_line_X5_fail
set_option maxRecDepth 20000 in
theorem ggX5_line_J4_init_da8c8 : GoodIn wsX5_line wsJ4_init_da8c8 := goodIn_r _ [21, 22, 23, 24, 25, 26, 27, 28, 29, 30, 31, 32, 33, 34, 35, 36, 37, 38, 39, 40, 278, 279, 280, 281] (by decide +kernel) (by decide +kernel)
set_option maxRecDepth 20000 in
theorem gX5_line_J4_init_da8c8 : GoodIn wsX5_line (wsJ4_init_da8c8) := ggX5_line_J4_init_da8c8
set_option maxRecDepth 20000 in
theorem ggX5_line_J4_append_bf812 : GoodIn wsX5_line wsJ4_append_bf812 := goodIn_r _ [44, 45, 46, 47, 48, 24, 49, 50, 31, 51, 52, 53, 54, 55, 56, 57, 58, 59, 32, 60, 61, 62, 63, 64, 65, 66, 67, 68, 69, 70, 71, 72, 73, 74, 75, 76, 77, 78, 79, 80, 81, 82, 83, 84, 85, 86, 87, 30, 88, 89, 90, 91, 92, 93, 94, 95, 96, 97, 98, 99, 29, 100, 101, 102, 103, 104, 105, 106, 35, 107, 108, 109, 110, 111, 112, 113, 114, 115, 116, 117, 118, 119, 120, 121, 122, 123, 124, 125, 126, 127, 128, 129, 130, 131, 132, 133, 278, 279, 280, 281] (by decide +kernel) (by decide +kernel)
set_option maxRecDepth 20000 in
theorem gX5_line_J4_append_bf812 : GoodIn wsX5_line (wsV RX5 154 RJ4 yJ4_append_bf812 wsJ4_append_bf812) := goodIn_app (goodIn_of _ (by decide +kernel)) ggX5_line_J4_append_bf812
set_option maxRecDepth 20000 in
theorem ggX5_line_J4_append_cf468 : GoodIn wsX5_line wsJ4_append_cf468 := goodIn_r _ [137, 138, 139, 47, 140, 24, 141, 50, 31, 55, 56, 57, 58, 59, 32, 60, 61, 62, 63, 64, 65, 66, 67, 68, 69, 70, 71, 72, 73, 74, 75, 76, 77, 78, 79, 80, 81, 82, 83, 84, 85, 86, 87, 30, 88, 89, 90, 91, 92, 93, 94, 95, 96, 97, 98, 99, 29, 142, 143, 144, 145, 146, 147, 148, 149, 150, 33, 34, 35, 36, 37, 38, 39, 40, 151, 152, 153, 154, 155, 156, 157, 158, 159, 112, 113, 114, 160, 161, 117, 162, 119, 163, 164, 122, 165, 129, 130, 131, 108, 132, 133, 166, 167, 168, 169, 170, 171, 172, 173, 174, 175, 176, 177, 278, 279, 280, 281] (by decide +kernel) (by decide +kernel)
set_option maxRecDepth 20000 in
theorem gX5_line_J4_append_cf468 : GoodIn wsX5_line (wsV RX5 158 RJ4 yJ4_append_cf468 wsJ4_append_cf468) := goodIn_app (goodIn_of _ (by decide +kernel)) ggX5_line_J4_append_cf468
set_option maxRecDepth 20000 in
theorem ggX5_line_X5_digits : GoodIn wsX5_line wsX5_digits := goodIn_r _ [181, 182, 183, 262, 263, 264, 265, 266, 267, 268, 269, 270, 271, 272, 273, 274, 275, 276, 277] (by decide +kernel) (by decide +kernel)
set_option maxRecDepth 20000 in
theorem gX5_line_X5_digits : GoodIn wsX5_line (wsV RX5 74 RX5 yX5_digits wsX5_digits) := goodIn_app (goodIn_of _ (by decide +kernel)) ggX5_line_X5_digits
set_option maxRecDepth 20000 in
theorem ggX5_line_J4_toString_0e30d : GoodIn wsX5_line wsJ4_toString_0e30d := goodIn_r _ [187, 188, 189, 117, 190, 191, 192, 193, 194, 195, 196, 27, 28, 197, 198, 199, 200, 201, 202, 203, 204, 24, 205, 31, 206, 207, 208, 209, 210, 4, 211, 212, 47, 213, 214, 50, 215, 96, 97, 98, 99, 29, 32, 216, 217, 80, 218, 82, 83, 84, 85, 86, 87, 219, 220, 221, 30, 88, 89, 72, 90, 91, 92, 93, 94, 222, 223, 224, 225, 3, 226, 227, 35, 228, 229, 230, 231, 157, 158, 159, 112, 113, 114, 160, 161, 162, 119, 163, 164, 122, 165, 232, 233, 234, 108, 132, 133, 37, 38, 39, 40, 235, 236, 237, 238, 282, 283, 284, 285, 278, 279, 280, 281] (by decide +kernel) (by decide +kernel)
set_option maxRecDepth 20000 in
theorem gX5_line_J4_toString_0e30d : GoodIn wsX5_line (wsV RX5 161 RJ4 yJ4_toString_0e30d wsJ4_toString_0e30d) := goodIn_app (goodIn_of _ (by decide +kernel)) ggX5_line_J4_toString_0e30d
set_option maxRecDepth 20000 in
theorem ggX5_line_J0_length_8abf5 : GoodIn wsX5_line wsJ0_length_8abf5 := goodIn_r _ [242, 198, 243, 244, 245, 117, 246, 199, 197, 282, 283, 284, 285] (by decide +kernel) (by decide +kernel)
set_option maxRecDepth 20000 in
theorem gX5_line_J0_length_8abf5 : GoodIn wsX5_line (wsV RX5 165 RJ0 yJ0_length_8abf5 wsJ0_length_8abf5) := goodIn_app (goodIn_of _ (by decide +kernel)) ggX5_line_J0_length_8abf5
set_option maxRecDepth 20000 in
theorem ggX5_line_J0_charAt_5068e : GoodIn wsX5_line wsJ0_charAt_5068e := goodIn_r _ [250, 198, 251, 252, 253, 117, 254, 199, 197, 255, 256, 144, 257, 258, 173, 174, 119, 175, 176, 122, 177, 259, 260, 35, 261, 169, 170, 171, 112, 113, 114, 172, 232, 233, 234, 108, 132, 133, 282, 283, 284, 285] (by decide +kernel) (by decide +kernel)
set_option maxRecDepth 20000 in
theorem gX5_line_J0_charAt_5068e : GoodIn wsX5_line (wsV RX5 170 RJ0 yJ0_charAt_5068e wsJ0_charAt_5068e) := goodIn_app (goodIn_of _ (by decide +kernel)) ggX5_line_J0_charAt_5068e
theorem dX5_line_0 : decode cX5_line 0 = .ok (.aload_n 0, 1) := by decide +kernel
theorem dX5_line_1 : decode cX5_line 1 = .ok (.iconst 0, 1) := by decide +kernel
theorem dX5_line_2 : decode cX5_line 2 = .ok (.putfield 46, 3) := by decide +kernel
theorem dX5_line_5 : decode cX5_line 5 = .ok (.aload_n 0, 1) := by decide +kernel
theorem dX5_line_6 : decode cX5_line 6 = .ok (.iload_n 1, 1) := by decide +kernel
theorem dX5_line_7 : decode cX5_line 7 = .ok (.invokevirtual 60, 3) := by decide +kernel
theorem dX5_line_10 : decode cX5_line 10 = .ok (.ifCond .ne 9, 3) := by decide +kernel
theorem dX5_line_13 : decode cX5_line 13 = .ok (.aload_n 0, 1) := by decide +kernel
theorem dX5_line_14 : decode cX5_line 14 = .ok (.iconst 1, 1) := by decide +kernel
theorem dX5_line_15 : decode cX5_line 15 = .ok (.invokevirtual 64, 3) := by decide +kernel
theorem dX5_line_18 : decode cX5_line 18 = .ok (.ireturn, 1) := by decide +kernel
theorem dX5_line_19 : decode cX5_line 19 = .ok (.new 151, 3) := by decide +kernel
theorem dX5_line_22 : decode cX5_line 22 = .ok (.dup, 1) := by decide +kernel
theorem dX5_line_23 : decode cX5_line 23 = .ok (.invokespecial 153, 3) := by decide +kernel
theorem dX5_line_26 : decode cX5_line 26 = .ok (.iload_n 1, 1) := by decide +kernel
theorem dX5_line_27 : decode cX5_line 27 = .ok (.invokevirtual 154, 3) := by decide +kernel
theorem dX5_line_30 : decode cX5_line 30 = .ok (.bipush 58, 2) := by decide +kernel
theorem dX5_line_32 : decode cX5_line 32 = .ok (.invokevirtual 158, 3) := by decide +kernel
theorem dX5_line_35 : decode cX5_line 35 = .ok (.aload_n 0, 1) := by decide +kernel
theorem dX5_line_36 : decode cX5_line 36 = .ok (.getfield 13, 3) := by decide +kernel
theorem dX5_line_39 : decode cX5_line 39 = .ok (.iload_n 1, 1) := by decide +kernel
theorem dX5_line_40 : decode cX5_line 40 = .ok (.iaload, 1) := by decide +kernel
theorem dX5_line_41 : decode cX5_line 41 = .ok (.invokevirtual 154, 3) := by decide +kernel
theorem dX5_line_44 : decode cX5_line 44 = .ok (.bipush 58, 2) := by decide +kernel
theorem dX5_line_46 : decode cX5_line 46 = .ok (.invokevirtual 158, 3) := by decide +kernel
theorem dX5_line_49 : decode cX5_line 49 = .ok (.aload_n 0, 1) := by decide +kernel
theorem dX5_line_50 : decode cX5_line 50 = .ok (.iload_n 1, 1) := by decide +kernel
theorem dX5_line_51 : decode cX5_line 51 = .ok (.invokevirtual 74, 3) := by decide +kernel
theorem dX5_line_54 : decode cX5_line 54 = .ok (.invokevirtual 154, 3) := by decide +kernel
theorem dX5_line_57 : decode cX5_line 57 = .ok (.invokevirtual 161, 3) := by decide +kernel
theorem dX5_line_60 : decode cX5_line 60 = .ok (.astore_n 2, 1) := by decide +kernel
theorem dX5_line_61 : decode cX5_line 61 = .ok (.iconst 0, 1) := by decide +kernel
theorem dX5_line_62 : decode cX5_line 62 = .ok (.istore_n 3, 1) := by decide +kernel
theorem dX5_line_63 : decode cX5_line 63 = .ok (.iconst 0, 1) := by decide +kernel
theorem dX5_line_64 : decode cX5_line 64 = .ok (.istore 4, 2) := by decide +kernel
theorem dX5_line_66 : decode cX5_line 66 = .ok (.iload 4, 2) := by decide +kernel
theorem dX5_line_68 : decode cX5_line 68 = .ok (.aload_n 2, 1) := by decide +kernel
theorem dX5_line_69 : decode cX5_line 69 = .ok (.invokevirtual 165, 3) := by decide +kernel
theorem dX5_line_72 : decode cX5_line 72 = .ok (.if_icmp .ge 21, 3) := by decide +kernel
theorem dX5_line_75 : decode cX5_line 75 = .ok (.iload_n 3, 1) := by decide +kernel
theorem dX5_line_76 : decode cX5_line 76 = .ok (.bipush 31, 2) := by decide +kernel
theorem dX5_line_78 : decode cX5_line 78 = .ok (.imul, 1) := by decide +kernel
theorem dX5_line_79 : decode cX5_line 79 = .ok (.aload_n 2, 1) := by decide +kernel
theorem dX5_line_80 : decode cX5_line 80 = .ok (.iload 4, 2) := by decide +kernel
theorem dX5_line_82 : decode cX5_line 82 = .ok (.invokevirtual 170, 3) := by decide +kernel
theorem dX5_line_85 : decode cX5_line 85 = .ok (.iadd, 1) := by decide +kernel
theorem dX5_line_86 : decode cX5_line 86 = .ok (.istore_n 3, 1) := by decide +kernel
theorem dX5_line_87 : decode cX5_line 87 = .ok (.iinc 4 1, 3) := by decide +kernel
theorem dX5_line_90 : decode cX5_line 90 = .ok (.goto (-24), 3) := by decide +kernel
theorem dX5_line_93 : decode cX5_line 93 = .ok (.iload_n 3, 1) := by decide +kernel
theorem dX5_line_94 : decode cX5_line 94 = .ok (.ireturn, 1) := by decide +kernel
theorem dX5_mean_0 : decode cX5_mean 0 = .ok (.aload_n 0, 1) := by decide +kernel
theorem dX5_mean_1 : decode cX5_mean 1 = .ok (.iconst 0, 1) := by decide +kernel
theorem dX5_mean_2 : decode cX5_mean 2 = .ok (.putfield 46, 3) := by decide +kernel
theorem dX5_mean_5 : decode cX5_mean 5 = .ok (.iconst 0, 1) := by decide +kernel
theorem dX5_mean_6 : decode cX5_mean 6 = .ok (.istore_n 1, 1) := by decide +kernel
theorem dX5_mean_7 : decode cX5_mean 7 = .ok (.iconst 0, 1) := by decide +kernel
theorem dX5_mean_8 : decode cX5_mean 8 = .ok (.istore_n 2, 1) := by decide +kernel
theorem dX5_mean_9 : decode cX5_mean 9 = .ok (.iload_n 2, 1) := by decide +kernel
theorem dX5_mean_10 : decode cX5_mean 10 = .ok (.aload_n 0, 1) := by decide +kernel
theorem dX5_mean_11 : decode cX5_mean 11 = .ok (.getfield 57, 3) := by decide +kernel
theorem dX5_mean_14 : decode cX5_mean 14 = .ok (.if_icmp .ge 18, 3) := by decide +kernel
theorem dX5_mean_17 : decode cX5_mean 17 = .ok (.iload_n 1, 1) := by decide +kernel
theorem dX5_mean_18 : decode cX5_mean 18 = .ok (.aload_n 0, 1) := by decide +kernel
theorem dX5_mean_19 : decode cX5_mean 19 = .ok (.getfield 22, 3) := by decide +kernel
theorem dX5_mean_22 : decode cX5_mean 22 = .ok (.iload_n 2, 1) := by decide +kernel
theorem dX5_mean_23 : decode cX5_mean 23 = .ok (.iaload, 1) := by decide +kernel
theorem dX5_mean_24 : decode cX5_mean 24 = .ok (.iadd, 1) := by decide +kernel
theorem dX5_mean_25 : decode cX5_mean 25 = .ok (.istore_n 1, 1) := by decide +kernel
theorem dX5_mean_26 : decode cX5_mean 26 = .ok (.iinc 2 1, 3) := by decide +kernel
theorem dX5_mean_29 : decode cX5_mean 29 = .ok (.goto (-20), 3) := by decide +kernel
theorem dX5_mean_32 : decode cX5_mean 32 = .ok (.aload_n 0, 1) := by decide +kernel
theorem dX5_mean_33 : decode cX5_mean 33 = .ok (.getfield 57, 3) := by decide +kernel
theorem dX5_mean_36 : decode cX5_mean 36 = .ok (.ifCond .ne 7, 3) := by decide +kernel
theorem dX5_mean_39 : decode cX5_mean 39 = .ok (.dconst 0, 1) := by decide +kernel
theorem dX5_mean_40 : decode cX5_mean 40 = .ok (.goto 11, 3) := by decide +kernel
theorem dX5_mean_43 : decode cX5_mean 43 = .ok (.iload_n 1, 1) := by decide +kernel
theorem dX5_mean_44 : decode cX5_mean 44 = .ok (.i2d, 1) := by decide +kernel
theorem dX5_mean_45 : decode cX5_mean 45 = .ok (.aload_n 0, 1) := by decide +kernel
theorem dX5_mean_46 : decode cX5_mean 46 = .ok (.getfield 57, 3) := by decide +kernel
theorem dX5_mean_49 : decode cX5_mean 49 = .ok (.i2d, 1) := by decide +kernel
theorem dX5_mean_50 : decode cX5_mean 50 = .ok (.ddiv, 1) := by decide +kernel
theorem dX5_mean_51 : decode cX5_mean 51 = .ok (.dreturn, 1) := by decide +kernel
set_option maxRecDepth 20000 in
theorem ggX5_digest_X5_told : GoodIn wsX5_digest wsX5_told := goodIn_r _ [15, 16, 4, 7, 5, 9, 17, 18, 19, 20, 14, 21, 22, 23, 24, 25, 26, 27, 28, 29, 30, 31, 32, 33, 34, 35, 36, 37, 38, 39, 40, 41, 42, 43, 44, 45, 46, 47, 48, 49, 50, 6, 61, 62, 63, 64, 65, 66, 67, 68, 69, 70, 71, 72, 73, 74, 75, 76] (by decide +kernel) (by decide +kernel)
set_option maxRecDepth 20000 in
theorem gX5_digest_X5_told : GoodIn wsX5_digest (wsV RX5 130 RX5 yX5_told wsX5_told) := goodIn_app (goodIn_of _ (by decide +kernel)) ggX5_digest_X5_told
set_option maxRecDepth 20000 in
theorem ggX5_digest_X5_cordTold : GoodIn wsX5_digest wsX5_cordTold := goodIn_r _ [21, 17, 22, 23, 24, 25, 26, 27, 14, 28, 4, 29, 30, 31, 32, 33, 34, 5, 35, 36, 37, 38, 39, 40, 41, 42, 43, 44, 45, 46, 47, 48, 49, 50, 6, 61, 62, 63, 64, 65, 66, 67, 68, 69, 70, 71, 72, 73, 74, 75, 76] (by decide +kernel) (by decide +kernel)
set_option maxRecDepth 20000 in
theorem gX5_digest_X5_cordTold : GoodIn wsX5_digest (wsV RX5 105 RX5 yX5_cordTold wsX5_cordTold) := goodIn_app (goodIn_of _ (by decide +kernel)) ggX5_digest_X5_cordTold
set_option maxRecDepth 20000 in
theorem ggX5_digest_X5_remembered : GoodIn wsX5_digest wsX5_remembered := goodIn_r _ [54, 55, 56, 57, 58, 59, 14, 60, 61, 62, 63, 64, 65, 66, 67, 68, 69, 70, 71, 72, 73, 74, 75, 76] (by decide +kernel) (by decide +kernel)
set_option maxRecDepth 20000 in
theorem gX5_digest_X5_remembered : GoodIn wsX5_digest (wsV RX5 112 RX5 yX5_remembered wsX5_remembered) := goodIn_app (goodIn_of _ (by decide +kernel)) ggX5_digest_X5_remembered
theorem dX5_digest_0 : decode cX5_digest 0 = .ok (.aload_n 0, 1) := by decide +kernel
theorem dX5_digest_1 : decode cX5_digest 1 = .ok (.iconst 0, 1) := by decide +kernel
theorem dX5_digest_2 : decode cX5_digest 2 = .ok (.putfield 46, 3) := by decide +kernel
theorem dX5_digest_5 : decode cX5_digest 5 = .ok (.ldc2_w 174, 3) := by decide +kernel
theorem dX5_digest_8 : decode cX5_digest 8 = .ok (.lstore_n 1, 1) := by decide +kernel
theorem dX5_digest_9 : decode cX5_digest 9 = .ok (.iconst 0, 1) := by decide +kernel
theorem dX5_digest_10 : decode cX5_digest 10 = .ok (.istore_n 3, 1) := by decide +kernel
theorem dX5_digest_11 : decode cX5_digest 11 = .ok (.iload_n 3, 1) := by decide +kernel
theorem dX5_digest_12 : decode cX5_digest 12 = .ok (.bipush 8, 2) := by decide +kernel
theorem dX5_digest_14 : decode cX5_digest 14 = .ok (.if_icmp .ge 22, 3) := by decide +kernel
theorem dX5_digest_17 : decode cX5_digest 17 = .ok (.lload_n 1, 1) := by decide +kernel
theorem dX5_digest_18 : decode cX5_digest 18 = .ok (.ldc2_w 176, 3) := by decide +kernel
theorem dX5_digest_21 : decode cX5_digest 21 = .ok (.lmul, 1) := by decide +kernel
theorem dX5_digest_22 : decode cX5_digest 22 = .ok (.aload_n 0, 1) := by decide +kernel
theorem dX5_digest_23 : decode cX5_digest 23 = .ok (.iload_n 3, 1) := by decide +kernel
theorem dX5_digest_24 : decode cX5_digest 24 = .ok (.invokevirtual 130, 3) := by decide +kernel
theorem dX5_digest_27 : decode cX5_digest 27 = .ok (.i2l, 1) := by decide +kernel
theorem dX5_digest_28 : decode cX5_digest 28 = .ok (.ladd, 1) := by decide +kernel
theorem dX5_digest_29 : decode cX5_digest 29 = .ok (.lstore_n 1, 1) := by decide +kernel
theorem dX5_digest_30 : decode cX5_digest 30 = .ok (.iinc 3 1, 3) := by decide +kernel
theorem dX5_digest_33 : decode cX5_digest 33 = .ok (.goto (-22), 3) := by decide +kernel
theorem dX5_digest_36 : decode cX5_digest 36 = .ok (.iconst 0, 1) := by decide +kernel
theorem dX5_digest_37 : decode cX5_digest 37 = .ok (.istore_n 3, 1) := by decide +kernel
theorem dX5_digest_38 : decode cX5_digest 38 = .ok (.iload_n 3, 1) := by decide +kernel
theorem dX5_digest_39 : decode cX5_digest 39 = .ok (.aload_n 0, 1) := by decide +kernel
theorem dX5_digest_40 : decode cX5_digest 40 = .ok (.getfield 50, 3) := by decide +kernel
theorem dX5_digest_43 : decode cX5_digest 43 = .ok (.if_icmp .ge 91, 3) := by decide +kernel
theorem dX5_digest_46 : decode cX5_digest 46 = .ok (.iconst 0, 1) := by decide +kernel
theorem dX5_digest_47 : decode cX5_digest 47 = .ok (.istore 4, 2) := by decide +kernel
theorem dX5_digest_49 : decode cX5_digest 49 = .ok (.iload 4, 2) := by decide +kernel
theorem dX5_digest_51 : decode cX5_digest 51 = .ok (.bipush 8, 2) := by decide +kernel
theorem dX5_digest_53 : decode cX5_digest 53 = .ok (.if_icmp .ge 24, 3) := by decide +kernel
theorem dX5_digest_56 : decode cX5_digest 56 = .ok (.lload_n 1, 1) := by decide +kernel
theorem dX5_digest_57 : decode cX5_digest 57 = .ok (.ldc2_w 176, 3) := by decide +kernel
theorem dX5_digest_60 : decode cX5_digest 60 = .ok (.lmul, 1) := by decide +kernel
theorem dX5_digest_61 : decode cX5_digest 61 = .ok (.aload_n 0, 1) := by decide +kernel
theorem dX5_digest_62 : decode cX5_digest 62 = .ok (.iload_n 3, 1) := by decide +kernel
theorem dX5_digest_63 : decode cX5_digest 63 = .ok (.iload 4, 2) := by decide +kernel
theorem dX5_digest_65 : decode cX5_digest 65 = .ok (.invokevirtual 105, 3) := by decide +kernel
theorem dX5_digest_68 : decode cX5_digest 68 = .ok (.i2l, 1) := by decide +kernel
theorem dX5_digest_69 : decode cX5_digest 69 = .ok (.ladd, 1) := by decide +kernel
theorem dX5_digest_70 : decode cX5_digest 70 = .ok (.lstore_n 1, 1) := by decide +kernel
theorem dX5_digest_71 : decode cX5_digest 71 = .ok (.iinc 4 1, 3) := by decide +kernel
theorem dX5_digest_74 : decode cX5_digest 74 = .ok (.goto (-25), 3) := by decide +kernel
theorem dX5_digest_77 : decode cX5_digest 77 = .ok (.iconst 0, 1) := by decide +kernel
theorem dX5_digest_78 : decode cX5_digest 78 = .ok (.istore 4, 2) := by decide +kernel
theorem dX5_digest_80 : decode cX5_digest 80 = .ok (.iload 4, 2) := by decide +kernel
theorem dX5_digest_82 : decode cX5_digest 82 = .ok (.iconst 4, 1) := by decide +kernel
theorem dX5_digest_83 : decode cX5_digest 83 = .ok (.if_icmp .ge 45, 3) := by decide +kernel
theorem dX5_digest_86 : decode cX5_digest 86 = .ok (.lload_n 1, 1) := by decide +kernel
theorem dX5_digest_87 : decode cX5_digest 87 = .ok (.ldc2_w 176, 3) := by decide +kernel
theorem dX5_digest_90 : decode cX5_digest 90 = .ok (.lmul, 1) := by decide +kernel
theorem dX5_digest_91 : decode cX5_digest 91 = .ok (.aload_n 0, 1) := by decide +kernel
theorem dX5_digest_92 : decode cX5_digest 92 = .ok (.getfield 16, 3) := by decide +kernel
theorem dX5_digest_95 : decode cX5_digest 95 = .ok (.iconst 4, 1) := by decide +kernel
