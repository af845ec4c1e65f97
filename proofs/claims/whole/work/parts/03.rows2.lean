theorem dX2_build_72 : decode cX2_build 72 = .ok (.iload_n 2, 1) := by decide +kernel
theorem dX2_build_73 : decode cX2_build 73 = .ok (.istore_n 3, 1) := by decide +kernel
theorem dX2_build_74 : decode cX2_build 74 = .ok (.iconst 0, 1) := by decide +kernel
theorem dX2_build_75 : decode cX2_build 75 = .ok (.istore 4, 2) := by decide +kernel
theorem dX2_build_77 : decode cX2_build 77 = .ok (.iconst 2, 1) := by decide +kernel
theorem dX2_build_78 : decode cX2_build 78 = .ok (.istore 5, 2) := by decide +kernel
theorem dX2_build_80 : decode cX2_build 80 = .ok (.iload 5, 2) := by decide +kernel
theorem dX2_build_82 : decode cX2_build 82 = .ok (.bipush 8, 2) := by decide +kernel
theorem dX2_build_84 : decode cX2_build 84 = .ok (.if_icmp .ge 58, 3) := by decide +kernel
theorem dX2_build_87 : decode cX2_build 87 = .ok (.iconst 0, 1) := by decide +kernel
theorem dX2_build_88 : decode cX2_build 88 = .ok (.istore 6, 2) := by decide +kernel
theorem dX2_build_90 : decode cX2_build 90 = .ok (.iload 6, 2) := by decide +kernel
theorem dX2_build_92 : decode cX2_build 92 = .ok (.iload_n 2, 1) := by decide +kernel
theorem dX2_build_93 : decode cX2_build 93 = .ok (.if_icmp .ge 43, 3) := by decide +kernel
theorem dX2_build_96 : decode cX2_build 96 = .ok (.aload_n 0, 1) := by decide +kernel
theorem dX2_build_97 : decode cX2_build 97 = .ok (.iload_n 3, 1) := by decide +kernel
theorem dX2_build_98 : decode cX2_build 98 = .ok (.iload 4, 2) := by decide +kernel
theorem dX2_build_100 : decode cX2_build 100 = .ok (.iload_n 2, 1) := by decide +kernel
theorem dX2_build_101 : decode cX2_build 101 = .ok (.invokevirtual 59, 3) := by decide +kernel
theorem dX2_build_104 : decode cX2_build 104 = .ok (.iload_n 3, 1) := by decide +kernel
theorem dX2_build_105 : decode cX2_build 105 = .ok (.getstatic 63, 3) := by decide +kernel
theorem dX2_build_108 : decode cX2_build 108 = .ok (.iload 5, 2) := by decide +kernel
theorem dX2_build_110 : decode cX2_build 110 = .ok (.bipush 6, 2) := by decide +kernel
theorem dX2_build_112 : decode cX2_build 112 = .ok (.irem, 1) := by decide +kernel
theorem dX2_build_113 : decode cX2_build 113 = .ok (.iaload, 1) := by decide +kernel
theorem dX2_build_114 : decode cX2_build 114 = .ok (.iadd, 1) := by decide +kernel
theorem dX2_build_115 : decode cX2_build 115 = .ok (.istore_n 3, 1) := by decide +kernel
theorem dX2_build_116 : decode cX2_build 116 = .ok (.iload 4, 2) := by decide +kernel
theorem dX2_build_118 : decode cX2_build 118 = .ok (.getstatic 66, 3) := by decide +kernel
theorem dX2_build_121 : decode cX2_build 121 = .ok (.iload 5, 2) := by decide +kernel
theorem dX2_build_123 : decode cX2_build 123 = .ok (.bipush 6, 2) := by decide +kernel
theorem dX2_build_125 : decode cX2_build 125 = .ok (.irem, 1) := by decide +kernel
theorem dX2_build_126 : decode cX2_build 126 = .ok (.iaload, 1) := by decide +kernel
theorem dX2_build_127 : decode cX2_build 127 = .ok (.iadd, 1) := by decide +kernel
theorem dX2_build_128 : decode cX2_build 128 = .ok (.istore 4, 2) := by decide +kernel
theorem dX2_build_130 : decode cX2_build 130 = .ok (.iinc 6 1, 3) := by decide +kernel
theorem dX2_build_133 : decode cX2_build 133 = .ok (.goto (-43), 3) := by decide +kernel
theorem dX2_build_136 : decode cX2_build 136 = .ok (.iinc 5 1, 3) := by decide +kernel
theorem dX2_build_139 : decode cX2_build 139 = .ok (.goto (-59), 3) := by decide +kernel
theorem dX2_build_142 : decode cX2_build 142 = .ok (.iinc 2 1, 3) := by decide +kernel
theorem dX2_build_145 : decode cX2_build 145 = .ok (.goto (-78), 3) := by decide +kernel
theorem dX2_build_148 : decode cX2_build 148 = .ok (.return_, 1) := by decide +kernel
set_option maxRecDepth 20000 in
theorem ggX2_found_X2_isIn : GoodIn wsX2_found wsX2_isIn := goodIn_r _ [5] (by decide +kernel) (by decide +kernel)
set_option maxRecDepth 20000 in
theorem gX2_found_X2_isIn : GoodIn wsX2_found (va_wsS RX2 52 yX2_isIn wsX2_isIn) := goodIn_app (goodIn_of _ (by decide +kernel)) ggX2_found_X2_isIn
theorem dX2_found_0 : decode cX2_found 0 = .ok (.iload_n 1, 1) := by decide +kernel
theorem dX2_found_1 : decode cX2_found 1 = .ok (.bipush (-5), 2) := by decide +kernel
theorem dX2_found_3 : decode cX2_found 3 = .ok (.iconst 5, 1) := by decide +kernel
theorem dX2_found_4 : decode cX2_found 4 = .ok (.invokestatic 52, 3) := by decide +kernel
theorem dX2_found_7 : decode cX2_found 7 = .ok (.ifCond .eq 31, 3) := by decide +kernel
theorem dX2_found_10 : decode cX2_found 10 = .ok (.iload_n 2, 1) := by decide +kernel
theorem dX2_found_11 : decode cX2_found 11 = .ok (.bipush (-5), 2) := by decide +kernel
theorem dX2_found_13 : decode cX2_found 13 = .ok (.iconst 5, 1) := by decide +kernel
theorem dX2_found_14 : decode cX2_found 14 = .ok (.invokestatic 52, 3) := by decide +kernel
theorem dX2_found_17 : decode cX2_found 17 = .ok (.ifCond .eq 21, 3) := by decide +kernel
theorem dX2_found_20 : decode cX2_found 20 = .ok (.aload_n 0, 1) := by decide +kernel
theorem dX2_found_21 : decode cX2_found 21 = .ok (.getfield 22, 3) := by decide +kernel
theorem dX2_found_24 : decode cX2_found 24 = .ok (.bipush 11, 2) := by decide +kernel
theorem dX2_found_26 : decode cX2_found 26 = .ok (.iload_n 2, 1) := by decide +kernel
theorem dX2_found_27 : decode cX2_found 27 = .ok (.iconst 5, 1) := by decide +kernel
theorem dX2_found_28 : decode cX2_found 28 = .ok (.iadd, 1) := by decide +kernel
theorem dX2_found_29 : decode cX2_found 29 = .ok (.imul, 1) := by decide +kernel
theorem dX2_found_30 : decode cX2_found 30 = .ok (.iload_n 1, 1) := by decide +kernel
theorem dX2_found_31 : decode cX2_found 31 = .ok (.iadd, 1) := by decide +kernel
theorem dX2_found_32 : decode cX2_found 32 = .ok (.iconst 5, 1) := by decide +kernel
theorem dX2_found_33 : decode cX2_found 33 = .ok (.iadd, 1) := by decide +kernel
theorem dX2_found_34 : decode cX2_found 34 = .ok (.iaload, 1) := by decide +kernel
theorem dX2_found_35 : decode cX2_found 35 = .ok (.goto 4, 3) := by decide +kernel
theorem dX2_found_38 : decode cX2_found 38 = .ok (.iconst (-1), 1) := by decide +kernel
theorem dX2_found_39 : decode cX2_found 39 = .ok (.ireturn, 1) := by decide +kernel
set_option maxRecDepth 20000 in
theorem ggX2_next_X2_found : GoodIn wsX2_next wsX2_found := goodIn_r _ [9, 10, 11, 12, 8, 13, 14, 15, 16, 17, 18, 19, 20, 21, 22, 23, 24, 25, 26] (by decide +kernel) (by decide +kernel)
set_option maxRecDepth 20000 in
theorem gX2_next_X2_found : GoodIn wsX2_next (wsV RX2 69 RX2 yX2_found wsX2_found) := goodIn_app (goodIn_of _ (by decide +kernel)) ggX2_next_X2_found
theorem dX2_next_0 : decode cX2_next 0 = .ok (.aload_n 0, 1) := by decide +kernel
theorem dX2_next_1 : decode cX2_next 1 = .ok (.aload_n 0, 1) := by decide +kernel
theorem dX2_next_2 : decode cX2_next 2 = .ok (.getfield 9, 3) := by decide +kernel
theorem dX2_next_5 : decode cX2_next 5 = .ok (.iload_n 1, 1) := by decide +kernel
theorem dX2_next_6 : decode cX2_next 6 = .ok (.iaload, 1) := by decide +kernel
theorem dX2_next_7 : decode cX2_next 7 = .ok (.getstatic 63, 3) := by decide +kernel
theorem dX2_next_10 : decode cX2_next 10 = .ok (.iload_n 2, 1) := by decide +kernel
theorem dX2_next_11 : decode cX2_next 11 = .ok (.iaload, 1) := by decide +kernel
theorem dX2_next_12 : decode cX2_next 12 = .ok (.iadd, 1) := by decide +kernel
theorem dX2_next_13 : decode cX2_next 13 = .ok (.aload_n 0, 1) := by decide +kernel
theorem dX2_next_14 : decode cX2_next 14 = .ok (.getfield 13, 3) := by decide +kernel
theorem dX2_next_17 : decode cX2_next 17 = .ok (.iload_n 1, 1) := by decide +kernel
theorem dX2_next_18 : decode cX2_next 18 = .ok (.iaload, 1) := by decide +kernel
theorem dX2_next_19 : decode cX2_next 19 = .ok (.getstatic 66, 3) := by decide +kernel
theorem dX2_next_22 : decode cX2_next 22 = .ok (.iload_n 2, 1) := by decide +kernel
theorem dX2_next_23 : decode cX2_next 23 = .ok (.iaload, 1) := by decide +kernel
theorem dX2_next_24 : decode cX2_next 24 = .ok (.iadd, 1) := by decide +kernel
theorem dX2_next_25 : decode cX2_next 25 = .ok (.invokevirtual 69, 3) := by decide +kernel
theorem dX2_next_28 : decode cX2_next 28 = .ok (.ireturn, 1) := by decide +kernel
set_option maxRecDepth 20000 in
theorem ggX2_on_X2_next : GoodIn wsX2_on wsX2_next := goodIn_r _ [7, 8, 9, 10, 11, 12, 13, 14, 6, 15, 16, 17, 18, 19, 20, 21, 22, 23, 24, 25, 26, 27, 28, 29, 30, 31, 32] (by decide +kernel) (by decide +kernel)
set_option maxRecDepth 20000 in
theorem gX2_on_X2_next : GoodIn wsX2_on (wsV RX2 73 RX2 yX2_next wsX2_next) := goodIn_app (goodIn_of _ (by decide +kernel)) ggX2_on_X2_next
theorem dX2_on_0 : decode cX2_on 0 = .ok (.aload_n 0, 1) := by decide +kernel
theorem dX2_on_1 : decode cX2_on 1 = .ok (.iload_n 1, 1) := by decide +kernel
theorem dX2_on_2 : decode cX2_on 2 = .ok (.iload_n 2, 1) := by decide +kernel
theorem dX2_on_3 : decode cX2_on 3 = .ok (.invokevirtual 73, 3) := by decide +kernel
theorem dX2_on_6 : decode cX2_on 6 = .ok (.istore_n 3, 1) := by decide +kernel
theorem dX2_on_7 : decode cX2_on 7 = .ok (.iload_n 3, 1) := by decide +kernel
theorem dX2_on_8 : decode cX2_on 8 = .ok (.iconst (-1), 1) := by decide +kernel
theorem dX2_on_9 : decode cX2_on 9 = .ok (.if_icmp .eq 27, 3) := by decide +kernel
theorem dX2_on_12 : decode cX2_on 12 = .ok (.aload_n 0, 1) := by decide +kernel
theorem dX2_on_13 : decode cX2_on 13 = .ok (.getfield 25, 3) := by decide +kernel
theorem dX2_on_16 : decode cX2_on 16 = .ok (.bipush 6, 2) := by decide +kernel
theorem dX2_on_18 : decode cX2_on 18 = .ok (.iload_n 1, 1) := by decide +kernel
theorem dX2_on_19 : decode cX2_on 19 = .ok (.imul, 1) := by decide +kernel
theorem dX2_on_20 : decode cX2_on 20 = .ok (.iload_n 2, 1) := by decide +kernel
theorem dX2_on_21 : decode cX2_on 21 = .ok (.iadd, 1) := by decide +kernel
theorem dX2_on_22 : decode cX2_on 22 = .ok (.baload, 1) := by decide +kernel
theorem dX2_on_23 : decode cX2_on 23 = .ok (.ifCond .ne 13, 3) := by decide +kernel
theorem dX2_on_26 : decode cX2_on 26 = .ok (.aload_n 0, 1) := by decide +kernel
theorem dX2_on_27 : decode cX2_on 27 = .ok (.getfield 19, 3) := by decide +kernel
theorem dX2_on_30 : decode cX2_on 30 = .ok (.iload_n 3, 1) := by decide +kernel
theorem dX2_on_31 : decode cX2_on 31 = .ok (.iaload, 1) := by decide +kernel
theorem dX2_on_32 : decode cX2_on 32 = .ok (.iconst 1, 1) := by decide +kernel
theorem dX2_on_33 : decode cX2_on 33 = .ok (.if_icmp .ne 7, 3) := by decide +kernel
theorem dX2_on_36 : decode cX2_on 36 = .ok (.iconst (-1), 1) := by decide +kernel
theorem dX2_on_37 : decode cX2_on 37 = .ok (.goto 4, 3) := by decide +kernel
theorem dX2_on_40 : decode cX2_on 40 = .ok (.iload_n 3, 1) := by decide +kernel
theorem dX2_on_41 : decode cX2_on 41 = .ok (.ireturn, 1) := by decide +kernel
theorem dX2_size_0 : decode cX2_size 0 = .ok (.iload_n 0, 1) := by decide +kernel
theorem dX2_size_1 : decode cX2_size 1 = .ok (.ifCond .ne 7, 3) := by decide +kernel
theorem dX2_size_4 : decode cX2_size 4 = .ok (.iconst 1, 1) := by decide +kernel
theorem dX2_size_5 : decode cX2_size 5 = .ok (.goto 7, 3) := by decide +kernel
theorem dX2_size_8 : decode cX2_size 8 = .ok (.bipush 6, 2) := by decide +kernel
theorem dX2_size_10 : decode cX2_size 10 = .ok (.iload_n 0, 1) := by decide +kernel
theorem dX2_size_11 : decode cX2_size 11 = .ok (.imul, 1) := by decide +kernel
theorem dX2_size_12 : decode cX2_size 12 = .ok (.ireturn, 1) := by decide +kernel
theorem dX2_first_0 : decode cX2_first 0 = .ok (.iload_n 0, 1) := by decide +kernel
theorem dX2_first_1 : decode cX2_first 1 = .ok (.ifCond .ne 7, 3) := by decide +kernel
theorem dX2_first_4 : decode cX2_first 4 = .ok (.iconst 0, 1) := by decide +kernel
theorem dX2_first_5 : decode cX2_first 5 = .ok (.goto 12, 3) := by decide +kernel
theorem dX2_first_8 : decode cX2_first 8 = .ok (.iconst 1, 1) := by decide +kernel
theorem dX2_first_9 : decode cX2_first 9 = .ok (.iconst 3, 1) := by decide +kernel
theorem dX2_first_10 : decode cX2_first 10 = .ok (.iload_n 0, 1) := by decide +kernel
theorem dX2_first_11 : decode cX2_first 11 = .ok (.imul, 1) := by decide +kernel
theorem dX2_first_12 : decode cX2_first 12 = .ok (.iload_n 0, 1) := by decide +kernel
theorem dX2_first_13 : decode cX2_first 13 = .ok (.iconst 1, 1) := by decide +kernel
theorem dX2_first_14 : decode cX2_first 14 = .ok (.isub, 1) := by decide +kernel
theorem dX2_first_15 : decode cX2_first 15 = .ok (.imul, 1) := by decide +kernel
theorem dX2_first_16 : decode cX2_first 16 = .ok (.iadd, 1) := by decide +kernel
theorem dX2_first_17 : decode cX2_first 17 = .ok (.ireturn, 1) := by decide +kernel
set_option maxRecDepth 20000 in
theorem ggX2_shine_X2_on : GoodIn wsX2_shine wsX2_on := goodIn_r _ [6, 7, 8, 9, 10, 11, 5, 12, 13, 14, 15, 16, 17, 18, 19, 20, 21, 22, 23, 24, 25, 26, 27, 28, 29, 30, 31, 32, 33, 34, 35, 36, 37] (by decide +kernel) (by decide +kernel)
set_option maxRecDepth 20000 in
theorem gX2_shine_X2_on : GoodIn wsX2_shine (wsV RX2 76 RX2 yX2_on wsX2_on) := goodIn_app (goodIn_of _ (by decide +kernel)) ggX2_shine_X2_on
theorem dX2_shine_0 : decode cX2_shine 0 = .ok (.aload_n 0, 1) := by decide +kernel
theorem dX2_shine_1 : decode cX2_shine 1 = .ok (.getfield 29, 3) := by decide +kernel
theorem dX2_shine_4 : decode cX2_shine 4 = .ok (.iload_n 1, 1) := by decide +kernel
theorem dX2_shine_5 : decode cX2_shine 5 = .ok (.dup2, 1) := by decide +kernel
theorem dX2_shine_6 : decode cX2_shine 6 = .ok (.iaload, 1) := by decide +kernel
theorem dX2_shine_7 : decode cX2_shine 7 = .ok (.iconst 1, 1) := by decide +kernel
theorem dX2_shine_8 : decode cX2_shine 8 = .ok (.iadd, 1) := by decide +kernel
theorem dX2_shine_9 : decode cX2_shine 9 = .ok (.iastore, 1) := by decide +kernel
theorem dX2_shine_10 : decode cX2_shine 10 = .ok (.iconst 0, 1) := by decide +kernel
theorem dX2_shine_11 : decode cX2_shine 11 = .ok (.istore_n 2, 1) := by decide +kernel
theorem dX2_shine_12 : decode cX2_shine 12 = .ok (.iload_n 2, 1) := by decide +kernel
theorem dX2_shine_13 : decode cX2_shine 13 = .ok (.bipush 6, 2) := by decide +kernel
theorem dX2_shine_15 : decode cX2_shine 15 = .ok (.if_icmp .ge 41, 3) := by decide +kernel
theorem dX2_shine_18 : decode cX2_shine 18 = .ok (.aload_n 0, 1) := by decide +kernel
theorem dX2_shine_19 : decode cX2_shine 19 = .ok (.iload_n 1, 1) := by decide +kernel
theorem dX2_shine_20 : decode cX2_shine 20 = .ok (.iload_n 2, 1) := by decide +kernel
theorem dX2_shine_21 : decode cX2_shine 21 = .ok (.invokevirtual 76, 3) := by decide +kernel
theorem dX2_shine_24 : decode cX2_shine 24 = .ok (.istore_n 3, 1) := by decide +kernel
theorem dX2_shine_25 : decode cX2_shine 25 = .ok (.iload_n 3, 1) := by decide +kernel
theorem dX2_shine_26 : decode cX2_shine 26 = .ok (.iconst (-1), 1) := by decide +kernel
theorem dX2_shine_27 : decode cX2_shine 27 = .ok (.if_icmp .eq 23, 3) := by decide +kernel
theorem dX2_shine_30 : decode cX2_shine 30 = .ok (.aload_n 0, 1) := by decide +kernel
theorem dX2_shine_31 : decode cX2_shine 31 = .ok (.getfield 29, 3) := by decide +kernel
theorem dX2_shine_34 : decode cX2_shine 34 = .ok (.iload_n 3, 1) := by decide +kernel
theorem dX2_shine_35 : decode cX2_shine 35 = .ok (.dup2, 1) := by decide +kernel
theorem dX2_shine_36 : decode cX2_shine 36 = .ok (.iaload, 1) := by decide +kernel
theorem dX2_shine_37 : decode cX2_shine 37 = .ok (.iconst 1, 1) := by decide +kernel
theorem dX2_shine_38 : decode cX2_shine 38 = .ok (.iadd, 1) := by decide +kernel
theorem dX2_shine_39 : decode cX2_shine 39 = .ok (.iastore, 1) := by decide +kernel
theorem dX2_shine_40 : decode cX2_shine 40 = .ok (.aload_n 0, 1) := by decide +kernel
theorem dX2_shine_41 : decode cX2_shine 41 = .ok (.iload_n 3, 1) := by decide +kernel
theorem dX2_shine_42 : decode cX2_shine 42 = .ok (.iload_n 2, 1) := by decide +kernel
theorem dX2_shine_43 : decode cX2_shine 43 = .ok (.invokevirtual 76, 3) := by decide +kernel
theorem dX2_shine_46 : decode cX2_shine 46 = .ok (.istore_n 3, 1) := by decide +kernel
theorem dX2_shine_47 : decode cX2_shine 47 = .ok (.goto (-22), 3) := by decide +kernel
theorem dX2_shine_50 : decode cX2_shine 50 = .ok (.iinc 2 1, 3) := by decide +kernel
theorem dX2_shine_53 : decode cX2_shine 53 = .ok (.goto (-41), 3) := by decide +kernel
theorem dX2_shine_56 : decode cX2_shine 56 = .ok (.return_, 1) := by decide +kernel
set_option maxRecDepth 20000 in
theorem ggX2_lit_X2_shine : GoodIn wsX2_lit wsX2_shine := goodIn_r _ [8, 2, 9, 10, 11, 7, 12, 13, 3, 14, 15, 16, 17, 18, 19, 20, 21, 22, 23, 24, 25, 26, 27, 28, 29, 30, 31, 32, 33, 34, 35, 36, 37, 38, 39, 40, 41, 42] (by decide +kernel) (by decide +kernel)
set_option maxRecDepth 20000 in
theorem gX2_lit_X2_shine : GoodIn wsX2_lit (wsV RX2 79 RX2 yX2_shine wsX2_shine) := goodIn_app (goodIn_of _ (by decide +kernel)) ggX2_lit_X2_shine
theorem dX2_lit_0 : decode cX2_lit 0 = .ok (.iconst 0, 1) := by decide +kernel
theorem dX2_lit_1 : decode cX2_lit 1 = .ok (.istore_n 1, 1) := by decide +kernel
theorem dX2_lit_2 : decode cX2_lit 2 = .ok (.iload_n 1, 1) := by decide +kernel
theorem dX2_lit_3 : decode cX2_lit 3 = .ok (.aload_n 0, 1) := by decide +kernel
theorem dX2_lit_4 : decode cX2_lit 4 = .ok (.getfield 49, 3) := by decide +kernel
theorem dX2_lit_7 : decode cX2_lit 7 = .ok (.if_icmp .ge 16, 3) := by decide +kernel
theorem dX2_lit_10 : decode cX2_lit 10 = .ok (.aload_n 0, 1) := by decide +kernel
theorem dX2_lit_11 : decode cX2_lit 11 = .ok (.getfield 29, 3) := by decide +kernel
theorem dX2_lit_14 : decode cX2_lit 14 = .ok (.iload_n 1, 1) := by decide +kernel
theorem dX2_lit_15 : decode cX2_lit 15 = .ok (.iconst 0, 1) := by decide +kernel
theorem dX2_lit_16 : decode cX2_lit 16 = .ok (.iastore, 1) := by decide +kernel
theorem dX2_lit_17 : decode cX2_lit 17 = .ok (.iinc 1 1, 3) := by decide +kernel
theorem dX2_lit_20 : decode cX2_lit 20 = .ok (.goto (-18), 3) := by decide +kernel
theorem dX2_lit_23 : decode cX2_lit 23 = .ok (.iconst 0, 1) := by decide +kernel
theorem dX2_lit_24 : decode cX2_lit 24 = .ok (.istore_n 1, 1) := by decide +kernel
theorem dX2_lit_25 : decode cX2_lit 25 = .ok (.iload_n 1, 1) := by decide +kernel
theorem dX2_lit_26 : decode cX2_lit 26 = .ok (.aload_n 0, 1) := by decide +kernel
theorem dX2_lit_27 : decode cX2_lit 27 = .ok (.getfield 49, 3) := by decide +kernel
theorem dX2_lit_30 : decode cX2_lit 30 = .ok (.if_icmp .ge 24, 3) := by decide +kernel
theorem dX2_lit_33 : decode cX2_lit 33 = .ok (.aload_n 0, 1) := by decide +kernel
theorem dX2_lit_34 : decode cX2_lit 34 = .ok (.getfield 19, 3) := by decide +kernel
theorem dX2_lit_37 : decode cX2_lit 37 = .ok (.iload_n 1, 1) := by decide +kernel
theorem dX2_lit_38 : decode cX2_lit 38 = .ok (.iaload, 1) := by decide +kernel
theorem dX2_lit_39 : decode cX2_lit 39 = .ok (.iconst 2, 1) := by decide +kernel
theorem dX2_lit_40 : decode cX2_lit 40 = .ok (.if_icmp .ne 8, 3) := by decide +kernel
theorem dX2_lit_43 : decode cX2_lit 43 = .ok (.aload_n 0, 1) := by decide +kernel
theorem dX2_lit_44 : decode cX2_lit 44 = .ok (.iload_n 1, 1) := by decide +kernel
theorem dX2_lit_45 : decode cX2_lit 45 = .ok (.invokevirtual 79, 3) := by decide +kernel
theorem dX2_lit_48 : decode cX2_lit 48 = .ok (.iinc 1 1, 3) := by decide +kernel
theorem dX2_lit_51 : decode cX2_lit 51 = .ok (.goto (-26), 3) := by decide +kernel
theorem dX2_lit_54 : decode cX2_lit 54 = .ok (.iconst 0, 1) := by decide +kernel
theorem dX2_lit_55 : decode cX2_lit 55 = .ok (.istore_n 1, 1) := by decide +kernel
theorem dX2_lit_56 : decode cX2_lit 56 = .ok (.iconst 0, 1) := by decide +kernel
theorem dX2_lit_57 : decode cX2_lit 57 = .ok (.istore_n 2, 1) := by decide +kernel
theorem dX2_lit_58 : decode cX2_lit 58 = .ok (.iload_n 2, 1) := by decide +kernel
theorem dX2_lit_59 : decode cX2_lit 59 = .ok (.aload_n 0, 1) := by decide +kernel
theorem dX2_lit_60 : decode cX2_lit 60 = .ok (.getfield 49, 3) := by decide +kernel
theorem dX2_lit_63 : decode cX2_lit 63 = .ok (.if_icmp .ge 26, 3) := by decide +kernel
theorem dX2_lit_66 : decode cX2_lit 66 = .ok (.iload_n 1, 1) := by decide +kernel
theorem dX2_lit_67 : decode cX2_lit 67 = .ok (.aload_n 0, 1) := by decide +kernel
theorem dX2_lit_68 : decode cX2_lit 68 = .ok (.getfield 29, 3) := by decide +kernel
theorem dX2_lit_71 : decode cX2_lit 71 = .ok (.iload_n 2, 1) := by decide +kernel
theorem dX2_lit_72 : decode cX2_lit 72 = .ok (.iaload, 1) := by decide +kernel
theorem dX2_lit_73 : decode cX2_lit 73 = .ok (.ifCond .le 7, 3) := by decide +kernel
theorem dX2_lit_76 : decode cX2_lit 76 = .ok (.iconst 1, 1) := by decide +kernel
theorem dX2_lit_77 : decode cX2_lit 77 = .ok (.goto 4, 3) := by decide +kernel
theorem dX2_lit_80 : decode cX2_lit 80 = .ok (.iconst 0, 1) := by decide +kernel
theorem dX2_lit_81 : decode cX2_lit 81 = .ok (.iadd, 1) := by decide +kernel
theorem dX2_lit_82 : decode cX2_lit 82 = .ok (.istore_n 1, 1) := by decide +kernel
theorem dX2_lit_83 : decode cX2_lit 83 = .ok (.iinc 2 1, 3) := by decide +kernel
theorem dX2_lit_86 : decode cX2_lit 86 = .ok (.goto (-28), 3) := by decide +kernel
theorem dX2_lit_89 : decode cX2_lit 89 = .ok (.iload_n 1, 1) := by decide +kernel
theorem dX2_lit_90 : decode cX2_lit 90 = .ok (.ireturn, 1) := by decide +kernel
set_option maxRecDepth 20000 in
theorem ggX2_move_X2_size : GoodIn wsX2_move wsX2_size := goodIn_r _ [10] (by decide +kernel) (by decide +kernel)
set_option maxRecDepth 20000 in
theorem gX2_move_X2_size : GoodIn wsX2_move (va_wsS RX2 82 yX2_size wsX2_size) := goodIn_app (goodIn_of _ (by decide +kernel)) ggX2_move_X2_size
set_option maxRecDepth 20000 in
theorem ggX2_move_X2_first : GoodIn wsX2_move wsX2_first := goodIn_r _ [13] (by decide +kernel) (by decide +kernel)
set_option maxRecDepth 20000 in
theorem gX2_move_X2_first : GoodIn wsX2_move (va_wsS RX2 86 yX2_first wsX2_first) := goodIn_app (goodIn_of _ (by decide +kernel)) ggX2_move_X2_first
theorem dX2_move_0 : decode cX2_move 0 = .ok (.iload_n 1, 1) := by decide +kernel
theorem dX2_move_1 : decode cX2_move 1 = .ok (.invokestatic 82, 3) := by decide +kernel
theorem dX2_move_4 : decode cX2_move 4 = .ok (.istore_n 3, 1) := by decide +kernel
theorem dX2_move_5 : decode cX2_move 5 = .ok (.iload_n 1, 1) := by decide +kernel
theorem dX2_move_6 : decode cX2_move 6 = .ok (.invokestatic 86, 3) := by decide +kernel
theorem dX2_move_9 : decode cX2_move 9 = .ok (.istore 4, 2) := by decide +kernel
theorem dX2_move_11 : decode cX2_move 11 = .ok (.iconst 0, 1) := by decide +kernel
theorem dX2_move_12 : decode cX2_move 12 = .ok (.istore 5, 2) := by decide +kernel
theorem dX2_move_14 : decode cX2_move 14 = .ok (.iload 5, 2) := by decide +kernel
theorem dX2_move_16 : decode cX2_move 16 = .ok (.iload_n 3, 1) := by decide +kernel
theorem dX2_move_17 : decode cX2_move 17 = .ok (.if_icmp .ge 30, 3) := by decide +kernel
theorem dX2_move_20 : decode cX2_move 20 = .ok (.aload_n 0, 1) := by decide +kernel
theorem dX2_move_21 : decode cX2_move 21 = .ok (.getfield 38, 3) := by decide +kernel
theorem dX2_move_24 : decode cX2_move 24 = .ok (.iload 5, 2) := by decide +kernel
theorem dX2_move_26 : decode cX2_move 26 = .ok (.iload_n 2, 1) := by decide +kernel
theorem dX2_move_27 : decode cX2_move 27 = .ok (.iadd, 1) := by decide +kernel
theorem dX2_move_28 : decode cX2_move 28 = .ok (.iload_n 3, 1) := by decide +kernel
theorem dX2_move_29 : decode cX2_move 29 = .ok (.irem, 1) := by decide +kernel
theorem dX2_move_30 : decode cX2_move 30 = .ok (.aload_n 0, 1) := by decide +kernel
theorem dX2_move_31 : decode cX2_move 31 = .ok (.getfield 19, 3) := by decide +kernel
theorem dX2_move_34 : decode cX2_move 34 = .ok (.iload 4, 2) := by decide +kernel
theorem dX2_move_36 : decode cX2_move 36 = .ok (.iload 5, 2) := by decide +kernel
theorem dX2_move_38 : decode cX2_move 38 = .ok (.iadd, 1) := by decide +kernel
theorem dX2_move_39 : decode cX2_move 39 = .ok (.iaload, 1) := by decide +kernel
theorem dX2_move_40 : decode cX2_move 40 = .ok (.iastore, 1) := by decide +kernel
theorem dX2_move_41 : decode cX2_move 41 = .ok (.iinc 5 1, 3) := by decide +kernel
theorem dX2_move_44 : decode cX2_move 44 = .ok (.goto (-30), 3) := by decide +kernel
theorem dX2_move_47 : decode cX2_move 47 = .ok (.aload_n 0, 1) := by decide +kernel
theorem dX2_move_48 : decode cX2_move 48 = .ok (.getfield 38, 3) := by decide +kernel
theorem dX2_move_51 : decode cX2_move 51 = .ok (.iconst 0, 1) := by decide +kernel
theorem dX2_move_52 : decode cX2_move 52 = .ok (.aload_n 0, 1) := by decide +kernel
theorem dX2_move_53 : decode cX2_move 53 = .ok (.getfield 19, 3) := by decide +kernel
theorem dX2_move_56 : decode cX2_move 56 = .ok (.iload 4, 2) := by decide +kernel
theorem dX2_move_58 : decode cX2_move 58 = .ok (.iload_n 3, 1) := by decide +kernel
theorem dX2_move_59 : decode cX2_move 59 = .ok (.invokestatic 89, 3) := by decide +kernel
theorem dX2_move_62 : decode cX2_move 62 = .ok (.return_, 1) := by decide +kernel
set_option maxRecDepth 20000 in
theorem ggX2_setRings_X2_isIn : GoodIn wsX2_setRings wsX2_isIn := goodIn_r _ [6] (by decide +kernel) (by decide +kernel)
set_option maxRecDepth 20000 in
theorem gX2_setRings_X2_isIn : GoodIn wsX2_setRings (va_wsS RX2 52 yX2_isIn wsX2_isIn) := goodIn_app (goodIn_of _ (by decide +kernel)) ggX2_setRings_X2_isIn
set_option maxRecDepth 20000 in
theorem ggX2_setRings_X2_fail : GoodIn wsX2_setRings wsX2_fail := goodIn_r _ [10, 1, 28, 29, 30, 31, 32, 33, 34, 35, 36, 37, 38, 39, 40] (by decide +kernel) (by decide +kernel)
set_option maxRecDepth 20000 in
theorem gX2_setRings_X2_fail : GoodIn wsX2_setRings (wsV RX2 95 RX2 yX2_fail wsX2_fail) := goodIn_app (goodIn_of _ (by decide +kernel)) ggX2_setRings_X2_fail
set_option maxRecDepth 20000 in
theorem ggX2_setRings_X2_build : GoodIn wsX2_setRings wsX2_build := goodIn_r _ [14, 15, 2, 16, 17, 18, 19, 20, 21, 22, 5, 23, 24, 25, 26, 27, 28, 29, 30, 31, 32, 33, 34, 35, 36, 37, 38, 39, 40] (by decide +kernel) (by decide +kernel)
set_option maxRecDepth 20000 in
theorem gX2_setRings_X2_build : GoodIn wsX2_setRings (wsV RX2 41 RX2 yX2_build wsX2_build) := goodIn_app (goodIn_of _ (by decide +kernel)) ggX2_setRings_X2_build
theorem dX2_setRings_0 : decode cX2_setRings 0 = .ok (.aload_n 0, 1) := by decide +kernel
theorem dX2_setRings_1 : decode cX2_setRings 1 = .ok (.iconst 0, 1) := by decide +kernel
theorem dX2_setRings_2 : decode cX2_setRings 2 = .ok (.putfield 45, 3) := by decide +kernel
theorem dX2_setRings_5 : decode cX2_setRings 5 = .ok (.iload_n 1, 1) := by decide +kernel
theorem dX2_setRings_6 : decode cX2_setRings 6 = .ok (.iconst 1, 1) := by decide +kernel
theorem dX2_setRings_7 : decode cX2_setRings 7 = .ok (.iconst 5, 1) := by decide +kernel
theorem dX2_setRings_8 : decode cX2_setRings 8 = .ok (.invokestatic 52, 3) := by decide +kernel
theorem dX2_setRings_11 : decode cX2_setRings 11 = .ok (.ifCond .ne 9, 3) := by decide +kernel
theorem dX2_setRings_14 : decode cX2_setRings 14 = .ok (.aload_n 0, 1) := by decide +kernel
theorem dX2_setRings_15 : decode cX2_setRings 15 = .ok (.iconst 1, 1) := by decide +kernel
theorem dX2_setRings_16 : decode cX2_setRings 16 = .ok (.invokevirtual 95, 3) := by decide +kernel
theorem dX2_setRings_19 : decode cX2_setRings 19 = .ok (.ireturn, 1) := by decide +kernel
theorem dX2_setRings_20 : decode cX2_setRings 20 = .ok (.aload_n 0, 1) := by decide +kernel
theorem dX2_setRings_21 : decode cX2_setRings 21 = .ok (.iload_n 1, 1) := by decide +kernel
theorem dX2_setRings_22 : decode cX2_setRings 22 = .ok (.invokevirtual 41, 3) := by decide +kernel
theorem dX2_setRings_25 : decode cX2_setRings 25 = .ok (.aload_n 0, 1) := by decide +kernel
theorem dX2_setRings_26 : decode cX2_setRings 26 = .ok (.getfield 49, 3) := by decide +kernel
theorem dX2_setRings_29 : decode cX2_setRings 29 = .ok (.ireturn, 1) := by decide +kernel
set_option maxRecDepth 20000 in
theorem ggX2_put_X2_isRoom : GoodIn wsX2_put wsX2_isRoom := goodIn_r _ [7, 8, 9, 10, 6, 11, 16, 17, 18, 19, 20, 21, 22, 23, 24, 25, 26, 27, 28] (by decide +kernel) (by decide +kernel)
set_option maxRecDepth 20000 in
theorem gX2_put_X2_isRoom : GoodIn wsX2_put (wsV RX2 98 RX2 yX2_isRoom wsX2_isRoom) := goodIn_app (goodIn_of _ (by decide +kernel)) ggX2_put_X2_isRoom
set_option maxRecDepth 20000 in
theorem ggX2_put_X2_isIn : GoodIn wsX2_put wsX2_isIn := goodIn_r _ [11] (by decide +kernel) (by decide +kernel)
set_option maxRecDepth 20000 in
theorem gX2_put_X2_isIn : GoodIn wsX2_put (va_wsS RX2 52 yX2_isIn wsX2_isIn) := goodIn_app (goodIn_of _ (by decide +kernel)) ggX2_put_X2_isIn
set_option maxRecDepth 20000 in
theorem ggX2_put_X2_fail : GoodIn wsX2_put wsX2_fail := goodIn_r _ [15, 1, 16, 17, 18, 19, 20, 21, 22, 23, 24, 25, 26, 27, 28] (by decide +kernel) (by decide +kernel)
set_option maxRecDepth 20000 in
theorem gX2_put_X2_fail : GoodIn wsX2_put (wsV RX2 95 RX2 yX2_fail wsX2_fail) := goodIn_app (goodIn_of _ (by decide +kernel)) ggX2_put_X2_fail
theorem dX2_put_0 : decode cX2_put 0 = .ok (.aload_n 0, 1) := by decide +kernel
theorem dX2_put_1 : decode cX2_put 1 = .ok (.iconst 0, 1) := by decide +kernel
theorem dX2_put_2 : decode cX2_put 2 = .ok (.putfield 45, 3) := by decide +kernel
theorem dX2_put_5 : decode cX2_put 5 = .ok (.aload_n 0, 1) := by decide +kernel
theorem dX2_put_6 : decode cX2_put 6 = .ok (.iload_n 1, 1) := by decide +kernel
theorem dX2_put_7 : decode cX2_put 7 = .ok (.invokevirtual 98, 3) := by decide +kernel
theorem dX2_put_10 : decode cX2_put 10 = .ok (.ifCond .eq 12, 3) := by decide +kernel
theorem dX2_put_13 : decode cX2_put 13 = .ok (.iload_n 2, 1) := by decide +kernel
theorem dX2_put_14 : decode cX2_put 14 = .ok (.iconst 0, 1) := by decide +kernel
theorem dX2_put_15 : decode cX2_put 15 = .ok (.iconst 2, 1) := by decide +kernel
theorem dX2_put_16 : decode cX2_put 16 = .ok (.invokestatic 52, 3) := by decide +kernel
theorem dX2_put_19 : decode cX2_put 19 = .ok (.ifCond .ne 9, 3) := by decide +kernel
theorem dX2_put_22 : decode cX2_put 22 = .ok (.aload_n 0, 1) := by decide +kernel
theorem dX2_put_23 : decode cX2_put 23 = .ok (.iconst 1, 1) := by decide +kernel
theorem dX2_put_24 : decode cX2_put 24 = .ok (.invokevirtual 95, 3) := by decide +kernel
theorem dX2_put_27 : decode cX2_put 27 = .ok (.ireturn, 1) := by decide +kernel
theorem dX2_put_28 : decode cX2_put 28 = .ok (.aload_n 0, 1) := by decide +kernel
theorem dX2_put_29 : decode cX2_put 29 = .ok (.getfield 19, 3) := by decide +kernel
theorem dX2_put_32 : decode cX2_put 32 = .ok (.iload_n 1, 1) := by decide +kernel
theorem dX2_put_33 : decode cX2_put 33 = .ok (.iaload, 1) := by decide +kernel
theorem dX2_put_34 : decode cX2_put 34 = .ok (.istore_n 3, 1) := by decide +kernel
theorem dX2_put_35 : decode cX2_put 35 = .ok (.aload_n 0, 1) := by decide +kernel
theorem dX2_put_36 : decode cX2_put 36 = .ok (.getfield 19, 3) := by decide +kernel
theorem dX2_put_39 : decode cX2_put 39 = .ok (.iload_n 1, 1) := by decide +kernel
theorem dX2_put_40 : decode cX2_put 40 = .ok (.iload_n 2, 1) := by decide +kernel
theorem dX2_put_41 : decode cX2_put 41 = .ok (.iastore, 1) := by decide +kernel
theorem dX2_put_42 : decode cX2_put 42 = .ok (.iload_n 3, 1) := by decide +kernel
theorem dX2_put_43 : decode cX2_put 43 = .ok (.ireturn, 1) := by decide +kernel
set_option maxRecDepth 20000 in
theorem ggX2_shut_X2_isRoom : GoodIn wsX2_shut wsX2_isRoom := goodIn_r _ [7, 8, 9, 10, 6, 11, 28, 29, 30, 31, 32, 33, 34, 35, 36, 37, 38, 39, 40] (by decide +kernel) (by decide +kernel)
set_option maxRecDepth 20000 in
theorem gX2_shut_X2_isRoom : GoodIn wsX2_shut (wsV RX2 98 RX2 yX2_isRoom wsX2_isRoom) := goodIn_app (goodIn_of _ (by decide +kernel)) ggX2_shut_X2_isRoom
set_option maxRecDepth 20000 in
theorem ggX2_shut_X2_isSide : GoodIn wsX2_shut wsX2_isSide := goodIn_r _ [14, 9, 10, 6, 11] (by decide +kernel) (by decide +kernel)
set_option maxRecDepth 20000 in
theorem gX2_shut_X2_isSide : GoodIn wsX2_shut (va_wsS RX2 102 yX2_isSide wsX2_isSide) := goodIn_app (goodIn_of _ (by decide +kernel)) ggX2_shut_X2_isSide
set_option maxRecDepth 20000 in
theorem ggX2_shut_X2_next : GoodIn wsX2_shut wsX2_next := goodIn_r _ [18, 19, 20, 21, 22, 23, 24, 25, 6, 26, 27, 9, 10, 11, 28, 29, 30, 31, 32, 33, 34, 35, 36, 37, 38, 39, 40] (by decide +kernel) (by decide +kernel)
set_option maxRecDepth 20000 in
theorem gX2_shut_X2_next : GoodIn wsX2_shut (wsV RX2 73 RX2 yX2_next wsX2_next) := goodIn_app (goodIn_of _ (by decide +kernel)) ggX2_shut_X2_next
theorem dX2_shut_0 : decode cX2_shut 0 = .ok (.aload_n 0, 1) := by decide +kernel
theorem dX2_shut_1 : decode cX2_shut 1 = .ok (.aload_n 0, 1) := by decide +kernel
theorem dX2_shut_2 : decode cX2_shut 2 = .ok (.iload_n 1, 1) := by decide +kernel
theorem dX2_shut_3 : decode cX2_shut 3 = .ok (.invokevirtual 98, 3) := by decide +kernel
theorem dX2_shut_6 : decode cX2_shut 6 = .ok (.ifCond .eq 10, 3) := by decide +kernel
theorem dX2_shut_9 : decode cX2_shut 9 = .ok (.iload_n 2, 1) := by decide +kernel
theorem dX2_shut_10 : decode cX2_shut 10 = .ok (.invokestatic 102, 3) := by decide +kernel
theorem dX2_shut_13 : decode cX2_shut 13 = .ok (.ifCond .ne 7, 3) := by decide +kernel
theorem dX2_shut_16 : decode cX2_shut 16 = .ok (.iconst 1, 1) := by decide +kernel
theorem dX2_shut_17 : decode cX2_shut 17 = .ok (.goto 18, 3) := by decide +kernel
theorem dX2_shut_20 : decode cX2_shut 20 = .ok (.aload_n 0, 1) := by decide +kernel
theorem dX2_shut_21 : decode cX2_shut 21 = .ok (.iload_n 1, 1) := by decide +kernel
theorem dX2_shut_22 : decode cX2_shut 22 = .ok (.iload_n 2, 1) := by decide +kernel
theorem dX2_shut_23 : decode cX2_shut 23 = .ok (.invokevirtual 73, 3) := by decide +kernel
theorem dX2_shut_26 : decode cX2_shut 26 = .ok (.iconst (-1), 1) := by decide +kernel
theorem dX2_shut_27 : decode cX2_shut 27 = .ok (.if_icmp .ne 7, 3) := by decide +kernel
theorem dX2_shut_30 : decode cX2_shut 30 = .ok (.iconst 2, 1) := by decide +kernel
theorem dX2_shut_31 : decode cX2_shut 31 = .ok (.goto 4, 3) := by decide +kernel
theorem dX2_shut_34 : decode cX2_shut 34 = .ok (.iconst 0, 1) := by decide +kernel
theorem dX2_shut_35 : decode cX2_shut 35 = .ok (.putfield 45, 3) := by decide +kernel
theorem dX2_shut_38 : decode cX2_shut 38 = .ok (.aload_n 0, 1) := by decide +kernel
theorem dX2_shut_39 : decode cX2_shut 39 = .ok (.getfield 45, 3) := by decide +kernel
theorem dX2_shut_42 : decode cX2_shut 42 = .ok (.ifCond .eq 5, 3) := by decide +kernel
theorem dX2_shut_45 : decode cX2_shut 45 = .ok (.iconst 0, 1) := by decide +kernel
theorem dX2_shut_46 : decode cX2_shut 46 = .ok (.ireturn, 1) := by decide +kernel
theorem dX2_shut_47 : decode cX2_shut 47 = .ok (.aload_n 0, 1) := by decide +kernel
theorem dX2_shut_48 : decode cX2_shut 48 = .ok (.getfield 25, 3) := by decide +kernel
theorem dX2_shut_51 : decode cX2_shut 51 = .ok (.bipush 6, 2) := by decide +kernel
theorem dX2_shut_53 : decode cX2_shut 53 = .ok (.iload_n 1, 1) := by decide +kernel
theorem dX2_shut_54 : decode cX2_shut 54 = .ok (.imul, 1) := by decide +kernel
theorem dX2_shut_55 : decode cX2_shut 55 = .ok (.iload_n 2, 1) := by decide +kernel
theorem dX2_shut_56 : decode cX2_shut 56 = .ok (.iadd, 1) := by decide +kernel
theorem dX2_shut_57 : decode cX2_shut 57 = .ok (.baload, 1) := by decide +kernel
theorem dX2_shut_58 : decode cX2_shut 58 = .ok (.istore 4, 2) := by decide +kernel
theorem dX2_shut_60 : decode cX2_shut 60 = .ok (.aload_n 0, 1) := by decide +kernel
theorem dX2_shut_61 : decode cX2_shut 61 = .ok (.getfield 25, 3) := by decide +kernel
theorem dX2_shut_64 : decode cX2_shut 64 = .ok (.bipush 6, 2) := by decide +kernel
theorem dX2_shut_66 : decode cX2_shut 66 = .ok (.iload_n 1, 1) := by decide +kernel
theorem dX2_shut_67 : decode cX2_shut 67 = .ok (.imul, 1) := by decide +kernel
theorem dX2_shut_68 : decode cX2_shut 68 = .ok (.iload_n 2, 1) := by decide +kernel
theorem dX2_shut_69 : decode cX2_shut 69 = .ok (.iadd, 1) := by decide +kernel
theorem dX2_shut_70 : decode cX2_shut 70 = .ok (.iload_n 3, 1) := by decide +kernel
theorem dX2_shut_71 : decode cX2_shut 71 = .ok (.bastore, 1) := by decide +kernel
theorem dX2_shut_72 : decode cX2_shut 72 = .ok (.aload_n 0, 1) := by decide +kernel
theorem dX2_shut_73 : decode cX2_shut 73 = .ok (.getfield 25, 3) := by decide +kernel
theorem dX2_shut_76 : decode cX2_shut 76 = .ok (.bipush 6, 2) := by decide +kernel
theorem dX2_shut_78 : decode cX2_shut 78 = .ok (.aload_n 0, 1) := by decide +kernel
theorem dX2_shut_79 : decode cX2_shut 79 = .ok (.iload_n 1, 1) := by decide +kernel
theorem dX2_shut_80 : decode cX2_shut 80 = .ok (.iload_n 2, 1) := by decide +kernel
theorem dX2_shut_81 : decode cX2_shut 81 = .ok (.invokevirtual 73, 3) := by decide +kernel
theorem dX2_shut_84 : decode cX2_shut 84 = .ok (.imul, 1) := by decide +kernel
theorem dX2_shut_85 : decode cX2_shut 85 = .ok (.iload_n 2, 1) := by decide +kernel
theorem dX2_shut_86 : decode cX2_shut 86 = .ok (.iconst 3, 1) := by decide +kernel
theorem dX2_shut_87 : decode cX2_shut 87 = .ok (.iadd, 1) := by decide +kernel
theorem dX2_shut_88 : decode cX2_shut 88 = .ok (.bipush 6, 2) := by decide +kernel
theorem dX2_shut_90 : decode cX2_shut 90 = .ok (.irem, 1) := by decide +kernel
theorem dX2_shut_91 : decode cX2_shut 91 = .ok (.iadd, 1) := by decide +kernel
theorem dX2_shut_92 : decode cX2_shut 92 = .ok (.iload_n 3, 1) := by decide +kernel
theorem dX2_shut_93 : decode cX2_shut 93 = .ok (.bastore, 1) := by decide +kernel
theorem dX2_shut_94 : decode cX2_shut 94 = .ok (.iload 4, 2) := by decide +kernel
theorem dX2_shut_96 : decode cX2_shut 96 = .ok (.ireturn, 1) := by decide +kernel
set_option maxRecDepth 20000 in
theorem ggX2_turn_X2_isRing : GoodIn wsX2_turn wsX2_isRing := goodIn_r _ [6, 7, 8, 9, 5, 10, 59, 60, 61, 62, 63, 64, 65, 66, 67, 68, 69, 70, 71] (by decide +kernel) (by decide +kernel)
set_option maxRecDepth 20000 in
theorem gX2_turn_X2_isRing : GoodIn wsX2_turn (wsV RX2 105 RX2 yX2_isRing wsX2_isRing) := goodIn_app (goodIn_of _ (by decide +kernel)) ggX2_turn_X2_isRing
set_option maxRecDepth 20000 in
theorem ggX2_turn_X2_fail : GoodIn wsX2_turn wsX2_fail := goodIn_r _ [14, 1, 59, 60, 61, 62, 63, 64, 65, 66, 67, 68, 69, 70, 71] (by decide +kernel) (by decide +kernel)
set_option maxRecDepth 20000 in
theorem gX2_turn_X2_fail : GoodIn wsX2_turn (wsV RX2 95 RX2 yX2_fail wsX2_fail) := goodIn_app (goodIn_of _ (by decide +kernel)) ggX2_turn_X2_fail
set_option maxRecDepth 20000 in
theorem ggX2_turn_X2_isIn : GoodIn wsX2_turn wsX2_isIn := goodIn_r _ [10] (by decide +kernel) (by decide +kernel)
set_option maxRecDepth 20000 in
theorem gX2_turn_X2_isIn : GoodIn wsX2_turn (va_wsS RX2 52 yX2_isIn wsX2_isIn) := goodIn_app (goodIn_of _ (by decide +kernel)) ggX2_turn_X2_isIn
set_option maxRecDepth 20000 in
theorem ggX2_turn_X2_move : GoodIn wsX2_turn wsX2_move := goodIn_r _ [18, 19, 20, 21, 22, 23, 24, 25, 26, 5, 27, 28, 29, 30, 59, 60, 61, 62, 63, 64, 65, 66, 67, 68, 69, 70, 71] (by decide +kernel) (by decide +kernel)
set_option maxRecDepth 20000 in
theorem gX2_turn_X2_move : GoodIn wsX2_turn (wsV RX2 108 RX2 yX2_move wsX2_move) := goodIn_app (goodIn_of _ (by decide +kernel)) ggX2_turn_X2_move
set_option maxRecDepth 20000 in
theorem ggX2_turn_X2_lit : GoodIn wsX2_turn wsX2_lit := goodIn_r _ [34, 35, 36, 20, 37, 38, 39, 5, 40, 41, 42, 43, 44, 45, 46, 47, 48, 49, 50, 51, 52, 53, 54, 55, 56, 57, 58, 8, 9, 10, 59, 60, 61, 62, 63, 64, 65, 66, 67, 68, 69, 70, 71] (by decide +kernel) (by decide +kernel)
set_option maxRecDepth 20000 in
theorem gX2_turn_X2_lit : GoodIn wsX2_turn (wsV RX2 112 RX2 yX2_lit wsX2_lit) := goodIn_app (goodIn_of _ (by decide +kernel)) ggX2_turn_X2_lit
theorem dX2_turn_0 : decode cX2_turn 0 = .ok (.aload_n 0, 1) := by decide +kernel
theorem dX2_turn_1 : decode cX2_turn 1 = .ok (.iconst 0, 1) := by decide +kernel
theorem dX2_turn_2 : decode cX2_turn 2 = .ok (.putfield 45, 3) := by decide +kernel
theorem dX2_turn_5 : decode cX2_turn 5 = .ok (.aload_n 0, 1) := by decide +kernel
theorem dX2_turn_6 : decode cX2_turn 6 = .ok (.iload_n 1, 1) := by decide +kernel
theorem dX2_turn_7 : decode cX2_turn 7 = .ok (.invokevirtual 105, 3) := by decide +kernel
theorem dX2_turn_10 : decode cX2_turn 10 = .ok (.ifCond .ne 9, 3) := by decide +kernel
theorem dX2_turn_13 : decode cX2_turn 13 = .ok (.aload_n 0, 1) := by decide +kernel
theorem dX2_turn_14 : decode cX2_turn 14 = .ok (.iconst 1, 1) := by decide +kernel
theorem dX2_turn_15 : decode cX2_turn 15 = .ok (.invokevirtual 95, 3) := by decide +kernel
theorem dX2_turn_18 : decode cX2_turn 18 = .ok (.ireturn, 1) := by decide +kernel
theorem dX2_turn_19 : decode cX2_turn 19 = .ok (.iload_n 2, 1) := by decide +kernel
theorem dX2_turn_20 : decode cX2_turn 20 = .ok (.iconst 0, 1) := by decide +kernel
theorem dX2_turn_21 : decode cX2_turn 21 = .ok (.bipush 29, 2) := by decide +kernel
theorem dX2_turn_23 : decode cX2_turn 23 = .ok (.invokestatic 52, 3) := by decide +kernel
theorem dX2_turn_26 : decode cX2_turn 26 = .ok (.ifCond .ne 9, 3) := by decide +kernel
theorem dX2_turn_29 : decode cX2_turn 29 = .ok (.aload_n 0, 1) := by decide +kernel
theorem dX2_turn_30 : decode cX2_turn 30 = .ok (.iconst 2, 1) := by decide +kernel
theorem dX2_turn_31 : decode cX2_turn 31 = .ok (.invokevirtual 95, 3) := by decide +kernel
theorem dX2_turn_34 : decode cX2_turn 34 = .ok (.ireturn, 1) := by decide +kernel
theorem dX2_turn_35 : decode cX2_turn 35 = .ok (.aload_n 0, 1) := by decide +kernel
theorem dX2_turn_36 : decode cX2_turn 36 = .ok (.iload_n 1, 1) := by decide +kernel
theorem dX2_turn_37 : decode cX2_turn 37 = .ok (.iload_n 2, 1) := by decide +kernel
theorem dX2_turn_38 : decode cX2_turn 38 = .ok (.invokevirtual 108, 3) := by decide +kernel
theorem dX2_turn_41 : decode cX2_turn 41 = .ok (.aload_n 0, 1) := by decide +kernel
theorem dX2_turn_42 : decode cX2_turn 42 = .ok (.invokevirtual 112, 3) := by decide +kernel
theorem dX2_turn_45 : decode cX2_turn 45 = .ok (.ireturn, 1) := by decide +kernel
set_option maxRecDepth 20000 in
theorem ggX2_moveAll_X2_move : GoodIn wsX2_moveAll wsX2_move := goodIn_r _ [6, 7, 8, 9, 10, 11, 12, 13, 14, 5, 15, 16, 17, 18, 19, 20, 21, 22, 23, 24, 25, 26, 27, 28, 29, 30, 31] (by decide +kernel) (by decide +kernel)
set_option maxRecDepth 20000 in
theorem gX2_moveAll_X2_move : GoodIn wsX2_moveAll (wsV RX2 108 RX2 yX2_move wsX2_move) := goodIn_app (goodIn_of _ (by decide +kernel)) ggX2_moveAll_X2_move
theorem dX2_moveAll_0 : decode cX2_moveAll 0 = .ok (.iconst 1, 1) := by decide +kernel
theorem dX2_moveAll_1 : decode cX2_moveAll 1 = .ok (.istore_n 2, 1) := by decide +kernel
theorem dX2_moveAll_2 : decode cX2_moveAll 2 = .ok (.iload_n 2, 1) := by decide +kernel
theorem dX2_moveAll_3 : decode cX2_moveAll 3 = .ok (.aload_n 0, 1) := by decide +kernel
theorem dX2_moveAll_4 : decode cX2_moveAll 4 = .ok (.getfield 56, 3) := by decide +kernel
theorem dX2_moveAll_7 : decode cX2_moveAll 7 = .ok (.if_icmp .gt 17, 3) := by decide +kernel
theorem dX2_moveAll_10 : decode cX2_moveAll 10 = .ok (.aload_n 0, 1) := by decide +kernel
theorem dX2_moveAll_11 : decode cX2_moveAll 11 = .ok (.iload_n 2, 1) := by decide +kernel
theorem dX2_moveAll_12 : decode cX2_moveAll 12 = .ok (.iload_n 2, 1) := by decide +kernel
theorem dX2_moveAll_13 : decode cX2_moveAll 13 = .ok (.iload_n 1, 1) := by decide +kernel
theorem dX2_moveAll_14 : decode cX2_moveAll 14 = .ok (.imul, 1) := by decide +kernel
theorem dX2_moveAll_15 : decode cX2_moveAll 15 = .ok (.invokevirtual 108, 3) := by decide +kernel
theorem dX2_moveAll_18 : decode cX2_moveAll 18 = .ok (.iinc 2 1, 3) := by decide +kernel
theorem dX2_moveAll_21 : decode cX2_moveAll 21 = .ok (.goto (-19), 3) := by decide +kernel
theorem dX2_moveAll_24 : decode cX2_moveAll 24 = .ok (.return_, 1) := by decide +kernel
set_option maxRecDepth 20000 in
theorem ggX2_turnAll_X2_isIn : GoodIn wsX2_turnAll wsX2_isIn := goodIn_r _ [5] (by decide +kernel) (by decide +kernel)
set_option maxRecDepth 20000 in
theorem gX2_turnAll_X2_isIn : GoodIn wsX2_turnAll (va_wsS RX2 52 yX2_isIn wsX2_isIn) := goodIn_app (goodIn_of _ (by decide +kernel)) ggX2_turnAll_X2_isIn
set_option maxRecDepth 20000 in
theorem ggX2_turnAll_X2_fail : GoodIn wsX2_turnAll wsX2_fail := goodIn_r _ [9, 1, 59, 60, 61, 62, 63, 64, 65, 66, 67, 68, 69, 70, 71] (by decide +kernel) (by decide +kernel)
set_option maxRecDepth 20000 in
theorem gX2_turnAll_X2_fail : GoodIn wsX2_turnAll (wsV RX2 95 RX2 yX2_fail wsX2_fail) := goodIn_app (goodIn_of _ (by decide +kernel)) ggX2_turnAll_X2_fail
set_option maxRecDepth 20000 in
theorem ggX2_turnAll_X2_moveAll : GoodIn wsX2_turnAll wsX2_moveAll := goodIn_r _ [13, 14, 15, 16, 17, 4, 18, 19, 20, 21, 22, 23, 24, 25, 26, 27, 28, 29, 30, 59, 60, 61, 62, 63, 64, 65, 66, 67, 68, 69, 70, 71] (by decide +kernel) (by decide +kernel)
set_option maxRecDepth 20000 in
theorem gX2_turnAll_X2_moveAll : GoodIn wsX2_turnAll (wsV RX2 116 RX2 yX2_moveAll wsX2_moveAll) := goodIn_app (goodIn_of _ (by decide +kernel)) ggX2_turnAll_X2_moveAll
set_option maxRecDepth 20000 in
theorem ggX2_turnAll_X2_lit : GoodIn wsX2_turnAll wsX2_lit := goodIn_r _ [34, 35, 36, 20, 37, 38, 39, 4, 40, 41, 42, 43, 44, 45, 46, 47, 48, 49, 50, 51, 52, 53, 54, 55, 56, 57, 58, 2, 3, 5, 59, 60, 61, 62, 63, 64, 65, 66, 67, 68, 69, 70, 71] (by decide +kernel) (by decide +kernel)
set_option maxRecDepth 20000 in
theorem gX2_turnAll_X2_lit : GoodIn wsX2_turnAll (wsV RX2 112 RX2 yX2_lit wsX2_lit) := goodIn_app (goodIn_of _ (by decide +kernel)) ggX2_turnAll_X2_lit
theorem dX2_turnAll_0 : decode cX2_turnAll 0 = .ok (.aload_n 0, 1) := by decide +kernel
theorem dX2_turnAll_1 : decode cX2_turnAll 1 = .ok (.iconst 0, 1) := by decide +kernel
theorem dX2_turnAll_2 : decode cX2_turnAll 2 = .ok (.putfield 45, 3) := by decide +kernel
theorem dX2_turnAll_5 : decode cX2_turnAll 5 = .ok (.iload_n 1, 1) := by decide +kernel
theorem dX2_turnAll_6 : decode cX2_turnAll 6 = .ok (.iconst 0, 1) := by decide +kernel
theorem dX2_turnAll_7 : decode cX2_turnAll 7 = .ok (.iconst 5, 1) := by decide +kernel
theorem dX2_turnAll_8 : decode cX2_turnAll 8 = .ok (.invokestatic 52, 3) := by decide +kernel
theorem dX2_turnAll_11 : decode cX2_turnAll 11 = .ok (.ifCond .ne 9, 3) := by decide +kernel
theorem dX2_turnAll_14 : decode cX2_turnAll 14 = .ok (.aload_n 0, 1) := by decide +kernel
theorem dX2_turnAll_15 : decode cX2_turnAll 15 = .ok (.iconst 1, 1) := by decide +kernel
theorem dX2_turnAll_16 : decode cX2_turnAll 16 = .ok (.invokevirtual 95, 3) := by decide +kernel
theorem dX2_turnAll_19 : decode cX2_turnAll 19 = .ok (.ireturn, 1) := by decide +kernel
theorem dX2_turnAll_20 : decode cX2_turnAll 20 = .ok (.aload_n 0, 1) := by decide +kernel
theorem dX2_turnAll_21 : decode cX2_turnAll 21 = .ok (.iload_n 1, 1) := by decide +kernel
theorem dX2_turnAll_22 : decode cX2_turnAll 22 = .ok (.invokevirtual 116, 3) := by decide +kernel
theorem dX2_turnAll_25 : decode cX2_turnAll 25 = .ok (.aload_n 0, 1) := by decide +kernel
theorem dX2_turnAll_26 : decode cX2_turnAll 26 = .ok (.invokevirtual 112, 3) := by decide +kernel
theorem dX2_turnAll_29 : decode cX2_turnAll 29 = .ok (.ireturn, 1) := by decide +kernel
set_option maxRecDepth 20000 in
theorem ggX2_at_X2_found : GoodIn wsX2_at wsX2_found := goodIn_r _ [6, 7, 8, 9, 5, 10, 11, 12, 13, 14, 15, 16, 17, 18, 19, 20, 21, 22, 23] (by decide +kernel) (by decide +kernel)
set_option maxRecDepth 20000 in
theorem gX2_at_X2_found : GoodIn wsX2_at (wsV RX2 69 RX2 yX2_found wsX2_found) := goodIn_app (goodIn_of _ (by decide +kernel)) ggX2_at_X2_found
theorem dX2_at_0 : decode cX2_at 0 = .ok (.aload_n 0, 1) := by decide +kernel
theorem dX2_at_1 : decode cX2_at 1 = .ok (.iconst 0, 1) := by decide +kernel
theorem dX2_at_2 : decode cX2_at 2 = .ok (.putfield 45, 3) := by decide +kernel
theorem dX2_at_5 : decode cX2_at 5 = .ok (.aload_n 0, 1) := by decide +kernel
theorem dX2_at_6 : decode cX2_at 6 = .ok (.iload_n 1, 1) := by decide +kernel
theorem dX2_at_7 : decode cX2_at 7 = .ok (.iload_n 2, 1) := by decide +kernel
theorem dX2_at_8 : decode cX2_at 8 = .ok (.invokevirtual 69, 3) := by decide +kernel
theorem dX2_at_11 : decode cX2_at 11 = .ok (.ireturn, 1) := by decide +kernel
set_option maxRecDepth 20000 in
theorem ggX2_sidesOn_X2_on : GoodIn wsX2_sidesOn wsX2_on := goodIn_r _ [5, 6, 7, 8, 9, 10, 4, 11, 12, 13, 14, 15, 16, 17, 18, 19, 20, 21, 22, 23, 24, 25, 26, 27, 28, 29, 30, 31, 32, 33, 34, 35, 36] (by decide +kernel) (by decide +kernel)
set_option maxRecDepth 20000 in
theorem gX2_sidesOn_X2_on : GoodIn wsX2_sidesOn (wsV RX2 76 RX2 yX2_on wsX2_on) := goodIn_app (goodIn_of _ (by decide +kernel)) ggX2_sidesOn_X2_on
theorem dX2_sidesOn_0 : decode cX2_sidesOn 0 = .ok (.iconst 0, 1) := by decide +kernel
theorem dX2_sidesOn_1 : decode cX2_sidesOn 1 = .ok (.istore_n 2, 1) := by decide +kernel
theorem dX2_sidesOn_2 : decode cX2_sidesOn 2 = .ok (.iconst 0, 1) := by decide +kernel
theorem dX2_sidesOn_3 : decode cX2_sidesOn 3 = .ok (.istore_n 3, 1) := by decide +kernel
theorem dX2_sidesOn_4 : decode cX2_sidesOn 4 = .ok (.iload_n 3, 1) := by decide +kernel
theorem dX2_sidesOn_5 : decode cX2_sidesOn 5 = .ok (.bipush 6, 2) := by decide +kernel
theorem dX2_sidesOn_7 : decode cX2_sidesOn 7 = .ok (.if_icmp .ge 27, 3) := by decide +kernel
theorem dX2_sidesOn_10 : decode cX2_sidesOn 10 = .ok (.iload_n 2, 1) := by decide +kernel
theorem dX2_sidesOn_11 : decode cX2_sidesOn 11 = .ok (.aload_n 0, 1) := by decide +kernel
theorem dX2_sidesOn_12 : decode cX2_sidesOn 12 = .ok (.iload_n 1, 1) := by decide +kernel
theorem dX2_sidesOn_13 : decode cX2_sidesOn 13 = .ok (.iload_n 3, 1) := by decide +kernel
theorem dX2_sidesOn_14 : decode cX2_sidesOn 14 = .ok (.invokevirtual 76, 3) := by decide +kernel
theorem dX2_sidesOn_17 : decode cX2_sidesOn 17 = .ok (.iconst (-1), 1) := by decide +kernel
theorem dX2_sidesOn_18 : decode cX2_sidesOn 18 = .ok (.if_icmp .ne 7, 3) := by decide +kernel
theorem dX2_sidesOn_21 : decode cX2_sidesOn 21 = .ok (.iconst 0, 1) := by decide +kernel
theorem dX2_sidesOn_22 : decode cX2_sidesOn 22 = .ok (.goto 4, 3) := by decide +kernel
theorem dX2_sidesOn_25 : decode cX2_sidesOn 25 = .ok (.iconst 1, 1) := by decide +kernel
theorem dX2_sidesOn_26 : decode cX2_sidesOn 26 = .ok (.iadd, 1) := by decide +kernel
theorem dX2_sidesOn_27 : decode cX2_sidesOn 27 = .ok (.istore_n 2, 1) := by decide +kernel
theorem dX2_sidesOn_28 : decode cX2_sidesOn 28 = .ok (.iinc 3 1, 3) := by decide +kernel
theorem dX2_sidesOn_31 : decode cX2_sidesOn 31 = .ok (.goto (-27), 3) := by decide +kernel
theorem dX2_sidesOn_34 : decode cX2_sidesOn 34 = .ok (.iload_n 2, 1) := by decide +kernel
theorem dX2_sidesOn_35 : decode cX2_sidesOn 35 = .ok (.ireturn, 1) := by decide +kernel
set_option maxRecDepth 20000 in
theorem ggX2_roomTold_X2_sidesOn : GoodIn wsX2_roomTold wsX2_sidesOn := goodIn_r _ [10, 11, 12, 13, 9, 14, 15, 4, 16, 17, 18, 19, 1, 20, 2, 21, 22, 23, 24, 25, 26, 27, 28, 29, 30, 31, 32, 33, 34, 35, 36, 37, 38, 39, 40, 41, 42] (by decide +kernel) (by decide +kernel)
set_option maxRecDepth 20000 in
theorem gX2_roomTold_X2_sidesOn : GoodIn wsX2_roomTold (wsV RX2 119 RX2 yX2_sidesOn wsX2_sidesOn) := goodIn_app (goodIn_of _ (by decide +kernel)) ggX2_roomTold_X2_sidesOn
theorem dX2_roomTold_0 : decode cX2_roomTold 0 = .ok (.iload_n 2, 1) := by decide +kernel
theorem dX2_roomTold_1 : decode cX2_roomTold 1 = .ok (.tableswitch 70 0 4 #[35, 42, 49, 56, 63], 35) := by decide +kernel
theorem dX2_roomTold_36 : decode cX2_roomTold 36 = .ok (.aload_n 0, 1) := by decide +kernel
theorem dX2_roomTold_37 : decode cX2_roomTold 37 = .ok (.getfield 9, 3) := by decide +kernel
theorem dX2_roomTold_40 : decode cX2_roomTold 40 = .ok (.iload_n 1, 1) := by decide +kernel
theorem dX2_roomTold_41 : decode cX2_roomTold 41 = .ok (.iaload, 1) := by decide +kernel
theorem dX2_roomTold_42 : decode cX2_roomTold 42 = .ok (.ireturn, 1) := by decide +kernel
theorem dX2_roomTold_43 : decode cX2_roomTold 43 = .ok (.aload_n 0, 1) := by decide +kernel
theorem dX2_roomTold_44 : decode cX2_roomTold 44 = .ok (.getfield 13, 3) := by decide +kernel
theorem dX2_roomTold_47 : decode cX2_roomTold 47 = .ok (.iload_n 1, 1) := by decide +kernel
theorem dX2_roomTold_48 : decode cX2_roomTold 48 = .ok (.iaload, 1) := by decide +kernel
theorem dX2_roomTold_49 : decode cX2_roomTold 49 = .ok (.ireturn, 1) := by decide +kernel
theorem dX2_roomTold_50 : decode cX2_roomTold 50 = .ok (.aload_n 0, 1) := by decide +kernel
theorem dX2_roomTold_51 : decode cX2_roomTold 51 = .ok (.getfield 16, 3) := by decide +kernel
theorem dX2_roomTold_54 : decode cX2_roomTold 54 = .ok (.iload_n 1, 1) := by decide +kernel
theorem dX2_roomTold_55 : decode cX2_roomTold 55 = .ok (.iaload, 1) := by decide +kernel
theorem dX2_roomTold_56 : decode cX2_roomTold 56 = .ok (.ireturn, 1) := by decide +kernel
theorem dX2_roomTold_57 : decode cX2_roomTold 57 = .ok (.aload_n 0, 1) := by decide +kernel
theorem dX2_roomTold_58 : decode cX2_roomTold 58 = .ok (.getfield 19, 3) := by decide +kernel
theorem dX2_roomTold_61 : decode cX2_roomTold 61 = .ok (.iload_n 1, 1) := by decide +kernel
theorem dX2_roomTold_62 : decode cX2_roomTold 62 = .ok (.iaload, 1) := by decide +kernel
theorem dX2_roomTold_63 : decode cX2_roomTold 63 = .ok (.ireturn, 1) := by decide +kernel
theorem dX2_roomTold_64 : decode cX2_roomTold 64 = .ok (.aload_n 0, 1) := by decide +kernel
theorem dX2_roomTold_65 : decode cX2_roomTold 65 = .ok (.getfield 29, 3) := by decide +kernel
theorem dX2_roomTold_68 : decode cX2_roomTold 68 = .ok (.iload_n 1, 1) := by decide +kernel
theorem dX2_roomTold_69 : decode cX2_roomTold 69 = .ok (.iaload, 1) := by decide +kernel
theorem dX2_roomTold_70 : decode cX2_roomTold 70 = .ok (.ireturn, 1) := by decide +kernel
theorem dX2_roomTold_71 : decode cX2_roomTold 71 = .ok (.aload_n 0, 1) := by decide +kernel
theorem dX2_roomTold_72 : decode cX2_roomTold 72 = .ok (.iload_n 1, 1) := by decide +kernel
theorem dX2_roomTold_73 : decode cX2_roomTold 73 = .ok (.invokevirtual 119, 3) := by decide +kernel
theorem dX2_roomTold_76 : decode cX2_roomTold 76 = .ok (.ireturn, 1) := by decide +kernel
set_option maxRecDepth 20000 in
theorem ggX2_about_X2_isRoom : GoodIn wsX2_about wsX2_isRoom := goodIn_r _ [6, 7, 8, 9, 5, 10, 52, 53, 54, 55, 56, 57, 58, 59, 60, 61, 62, 63, 64] (by decide +kernel) (by decide +kernel)
set_option maxRecDepth 20000 in
theorem gX2_about_X2_isRoom : GoodIn wsX2_about (wsV RX2 98 RX2 yX2_isRoom wsX2_isRoom) := goodIn_app (goodIn_of _ (by decide +kernel)) ggX2_about_X2_isRoom
set_option maxRecDepth 20000 in
theorem ggX2_about_X2_isIn : GoodIn wsX2_about wsX2_isIn := goodIn_r _ [10] (by decide +kernel) (by decide +kernel)
set_option maxRecDepth 20000 in
theorem gX2_about_X2_isIn : GoodIn wsX2_about (va_wsS RX2 52 yX2_isIn wsX2_isIn) := goodIn_app (goodIn_of _ (by decide +kernel)) ggX2_about_X2_isIn
set_option maxRecDepth 20000 in
theorem ggX2_about_X2_fail : GoodIn wsX2_about wsX2_fail := goodIn_r _ [14, 1, 52, 53, 54, 55, 56, 57, 58, 59, 60, 61, 62, 63, 64] (by decide +kernel) (by decide +kernel)
set_option maxRecDepth 20000 in
theorem gX2_about_X2_fail : GoodIn wsX2_about (wsV RX2 95 RX2 yX2_fail wsX2_fail) := goodIn_app (goodIn_of _ (by decide +kernel)) ggX2_about_X2_fail
set_option maxRecDepth 20000 in
theorem ggX2_about_X2_lit : GoodIn wsX2_about wsX2_lit := goodIn_r _ [18, 7, 19, 20, 21, 22, 23, 5, 24, 25, 26, 27, 28, 29, 30, 31, 32, 33, 34, 35, 36, 37, 38, 39, 40, 41, 42, 8, 9, 10, 52, 53, 54, 55, 56, 57, 58, 59, 60, 61, 62, 63, 64] (by decide +kernel) (by decide +kernel)
set_option maxRecDepth 20000 in
theorem gX2_about_X2_lit : GoodIn wsX2_about (wsV RX2 112 RX2 yX2_lit wsX2_lit) := goodIn_app (goodIn_of _ (by decide +kernel)) ggX2_about_X2_lit
set_option maxRecDepth 20000 in
theorem ggX2_about_X2_roomTold : GoodIn wsX2_about wsX2_roomTold := goodIn_r _ [46, 34, 36, 47, 20, 19, 48, 49, 50, 5, 51, 25, 26, 27, 28, 29, 30, 31, 32, 33, 35, 37, 38, 39, 40, 41, 42, 8, 9, 10, 52, 53, 54, 55, 56, 57, 58, 59, 60, 61, 62, 63, 64] (by decide +kernel) (by decide +kernel)
set_option maxRecDepth 20000 in
theorem gX2_about_X2_roomTold : GoodIn wsX2_about (wsV RX2 122 RX2 yX2_roomTold wsX2_roomTold) := goodIn_app (goodIn_of _ (by decide +kernel)) ggX2_about_X2_roomTold
theorem dX2_about_0 : decode cX2_about 0 = .ok (.aload_n 0, 1) := by decide +kernel
theorem dX2_about_1 : decode cX2_about 1 = .ok (.iconst 0, 1) := by decide +kernel
theorem dX2_about_2 : decode cX2_about 2 = .ok (.putfield 45, 3) := by decide +kernel
theorem dX2_about_5 : decode cX2_about 5 = .ok (.aload_n 0, 1) := by decide +kernel
theorem dX2_about_6 : decode cX2_about 6 = .ok (.iload_n 1, 1) := by decide +kernel
theorem dX2_about_7 : decode cX2_about 7 = .ok (.invokevirtual 98, 3) := by decide +kernel
theorem dX2_about_10 : decode cX2_about 10 = .ok (.ifCond .eq 12, 3) := by decide +kernel
theorem dX2_about_13 : decode cX2_about 13 = .ok (.iload_n 2, 1) := by decide +kernel
theorem dX2_about_14 : decode cX2_about 14 = .ok (.iconst 0, 1) := by decide +kernel
theorem dX2_about_15 : decode cX2_about 15 = .ok (.iconst 5, 1) := by decide +kernel
theorem dX2_about_16 : decode cX2_about 16 = .ok (.invokestatic 52, 3) := by decide +kernel
theorem dX2_about_19 : decode cX2_about 19 = .ok (.ifCond .ne 9, 3) := by decide +kernel
theorem dX2_about_22 : decode cX2_about 22 = .ok (.aload_n 0, 1) := by decide +kernel
theorem dX2_about_23 : decode cX2_about 23 = .ok (.iconst 1, 1) := by decide +kernel
theorem dX2_about_24 : decode cX2_about 24 = .ok (.invokevirtual 95, 3) := by decide +kernel
theorem dX2_about_27 : decode cX2_about 27 = .ok (.ireturn, 1) := by decide +kernel
theorem dX2_about_28 : decode cX2_about 28 = .ok (.iload_n 2, 1) := by decide +kernel
theorem dX2_about_29 : decode cX2_about 29 = .ok (.iconst 4, 1) := by decide +kernel
theorem dX2_about_30 : decode cX2_about 30 = .ok (.if_icmp .ne 8, 3) := by decide +kernel
theorem dX2_about_33 : decode cX2_about 33 = .ok (.aload_n 0, 1) := by decide +kernel
theorem dX2_about_34 : decode cX2_about 34 = .ok (.invokevirtual 112, 3) := by decide +kernel
theorem dX2_about_37 : decode cX2_about 37 = .ok (.pop, 1) := by decide +kernel
theorem dX2_about_38 : decode cX2_about 38 = .ok (.aload_n 0, 1) := by decide +kernel
theorem dX2_about_39 : decode cX2_about 39 = .ok (.iload_n 1, 1) := by decide +kernel
theorem dX2_about_40 : decode cX2_about 40 = .ok (.iload_n 2, 1) := by decide +kernel
theorem dX2_about_41 : decode cX2_about 41 = .ok (.invokevirtual 122, 3) := by decide +kernel
theorem dX2_about_44 : decode cX2_about 44 = .ok (.ireturn, 1) := by decide +kernel
set_option maxRecDepth 20000 in
theorem ggX2_beside_X2_isRoom : GoodIn wsX2_beside wsX2_isRoom := goodIn_r _ [6, 7, 8, 9, 5, 10, 31, 32, 33, 34, 35, 36, 37, 38, 39, 40, 41, 42, 43] (by decide +kernel) (by decide +kernel)
set_option maxRecDepth 20000 in
theorem gX2_beside_X2_isRoom : GoodIn wsX2_beside (wsV RX2 98 RX2 yX2_isRoom wsX2_isRoom) := goodIn_app (goodIn_of _ (by decide +kernel)) ggX2_beside_X2_isRoom
set_option maxRecDepth 20000 in
theorem ggX2_beside_X2_isSide : GoodIn wsX2_beside wsX2_isSide := goodIn_r _ [13, 8, 9, 5, 10] (by decide +kernel) (by decide +kernel)
set_option maxRecDepth 20000 in
theorem gX2_beside_X2_isSide : GoodIn wsX2_beside (va_wsS RX2 102 yX2_isSide wsX2_isSide) := goodIn_app (goodIn_of _ (by decide +kernel)) ggX2_beside_X2_isSide
set_option maxRecDepth 20000 in
theorem ggX2_beside_X2_next : GoodIn wsX2_beside wsX2_next := goodIn_r _ [17, 18, 19, 20, 21, 22, 23, 24, 5, 25, 26, 8, 9, 10, 31, 32, 33, 34, 35, 36, 37, 38, 39, 40, 41, 42, 43] (by decide +kernel) (by decide +kernel)
set_option maxRecDepth 20000 in
theorem gX2_beside_X2_next : GoodIn wsX2_beside (wsV RX2 73 RX2 yX2_next wsX2_next) := goodIn_app (goodIn_of _ (by decide +kernel)) ggX2_beside_X2_next
set_option maxRecDepth 20000 in
theorem ggX2_beside_X2_fail : GoodIn wsX2_beside wsX2_fail := goodIn_r _ [30, 1, 31, 32, 33, 34, 35, 36, 37, 38, 39, 40, 41, 42, 43] (by decide +kernel) (by decide +kernel)
set_option maxRecDepth 20000 in
theorem gX2_beside_X2_fail : GoodIn wsX2_beside (wsV RX2 95 RX2 yX2_fail wsX2_fail) := goodIn_app (goodIn_of _ (by decide +kernel)) ggX2_beside_X2_fail
theorem dX2_beside_0 : decode cX2_beside 0 = .ok (.aload_n 0, 1) := by decide +kernel
theorem dX2_beside_1 : decode cX2_beside 1 = .ok (.iconst 0, 1) := by decide +kernel
theorem dX2_beside_2 : decode cX2_beside 2 = .ok (.putfield 45, 3) := by decide +kernel
theorem dX2_beside_5 : decode cX2_beside 5 = .ok (.aload_n 0, 1) := by decide +kernel
theorem dX2_beside_6 : decode cX2_beside 6 = .ok (.iload_n 1, 1) := by decide +kernel
theorem dX2_beside_7 : decode cX2_beside 7 = .ok (.invokevirtual 98, 3) := by decide +kernel
theorem dX2_beside_10 : decode cX2_beside 10 = .ok (.ifCond .eq 19, 3) := by decide +kernel
theorem dX2_beside_13 : decode cX2_beside 13 = .ok (.iload_n 2, 1) := by decide +kernel
theorem dX2_beside_14 : decode cX2_beside 14 = .ok (.invokestatic 102, 3) := by decide +kernel
theorem dX2_beside_17 : decode cX2_beside 17 = .ok (.ifCond .eq 12, 3) := by decide +kernel
theorem dX2_beside_20 : decode cX2_beside 20 = .ok (.aload_n 0, 1) := by decide +kernel
theorem dX2_beside_21 : decode cX2_beside 21 = .ok (.iload_n 1, 1) := by decide +kernel
theorem dX2_beside_22 : decode cX2_beside 22 = .ok (.iload_n 2, 1) := by decide +kernel
theorem dX2_beside_23 : decode cX2_beside 23 = .ok (.invokevirtual 73, 3) := by decide +kernel
theorem dX2_beside_26 : decode cX2_beside 26 = .ok (.goto 8, 3) := by decide +kernel
theorem dX2_beside_29 : decode cX2_beside 29 = .ok (.aload_n 0, 1) := by decide +kernel
theorem dX2_beside_30 : decode cX2_beside 30 = .ok (.iconst 1, 1) := by decide +kernel
theorem dX2_beside_31 : decode cX2_beside 31 = .ok (.invokevirtual 95, 3) := by decide +kernel
theorem dX2_beside_34 : decode cX2_beside 34 = .ok (.ireturn, 1) := by decide +kernel
set_option maxRecDepth 20000 in
theorem ggX2_isShut_X2_isRoom : GoodIn wsX2_isShut wsX2_isRoom := goodIn_r _ [7, 8, 9, 10, 6, 11, 28, 29, 30, 31, 32, 33, 34, 35, 36, 37, 38, 39, 40] (by decide +kernel) (by decide +kernel)
set_option maxRecDepth 20000 in
theorem gX2_isShut_X2_isRoom : GoodIn wsX2_isShut (wsV RX2 98 RX2 yX2_isRoom wsX2_isRoom) := goodIn_app (goodIn_of _ (by decide +kernel)) ggX2_isShut_X2_isRoom
set_option maxRecDepth 20000 in
theorem ggX2_isShut_X2_isSide : GoodIn wsX2_isShut wsX2_isSide := goodIn_r _ [14, 9, 10, 6, 11] (by decide +kernel) (by decide +kernel)
set_option maxRecDepth 20000 in
theorem gX2_isShut_X2_isSide : GoodIn wsX2_isShut (va_wsS RX2 102 yX2_isSide wsX2_isSide) := goodIn_app (goodIn_of _ (by decide +kernel)) ggX2_isShut_X2_isSide
set_option maxRecDepth 20000 in
theorem ggX2_isShut_X2_next : GoodIn wsX2_isShut wsX2_next := goodIn_r _ [18, 19, 20, 21, 22, 23, 24, 25, 6, 26, 27, 9, 10, 11, 28, 29, 30, 31, 32, 33, 34, 35, 36, 37, 38, 39, 40] (by decide +kernel) (by decide +kernel)
set_option maxRecDepth 20000 in
theorem gX2_isShut_X2_next : GoodIn wsX2_isShut (wsV RX2 73 RX2 yX2_next wsX2_next) := goodIn_app (goodIn_of _ (by decide +kernel)) ggX2_isShut_X2_next
theorem dX2_isShut_0 : decode cX2_isShut 0 = .ok (.aload_n 0, 1) := by decide +kernel
theorem dX2_isShut_1 : decode cX2_isShut 1 = .ok (.aload_n 0, 1) := by decide +kernel
theorem dX2_isShut_2 : decode cX2_isShut 2 = .ok (.iload_n 1, 1) := by decide +kernel
theorem dX2_isShut_3 : decode cX2_isShut 3 = .ok (.invokevirtual 98, 3) := by decide +kernel
theorem dX2_isShut_6 : decode cX2_isShut 6 = .ok (.ifCond .eq 10, 3) := by decide +kernel
theorem dX2_isShut_9 : decode cX2_isShut 9 = .ok (.iload_n 2, 1) := by decide +kernel
theorem dX2_isShut_10 : decode cX2_isShut 10 = .ok (.invokestatic 102, 3) := by decide +kernel
theorem dX2_isShut_13 : decode cX2_isShut 13 = .ok (.ifCond .ne 7, 3) := by decide +kernel
theorem dX2_isShut_16 : decode cX2_isShut 16 = .ok (.iconst 1, 1) := by decide +kernel
theorem dX2_isShut_17 : decode cX2_isShut 17 = .ok (.goto 18, 3) := by decide +kernel
theorem dX2_isShut_20 : decode cX2_isShut 20 = .ok (.aload_n 0, 1) := by decide +kernel
theorem dX2_isShut_21 : decode cX2_isShut 21 = .ok (.iload_n 1, 1) := by decide +kernel
theorem dX2_isShut_22 : decode cX2_isShut 22 = .ok (.iload_n 2, 1) := by decide +kernel
theorem dX2_isShut_23 : decode cX2_isShut 23 = .ok (.invokevirtual 73, 3) := by decide +kernel
theorem dX2_isShut_26 : decode cX2_isShut 26 = .ok (.iconst (-1), 1) := by decide +kernel
theorem dX2_isShut_27 : decode cX2_isShut 27 = .ok (.if_icmp .ne 7, 3) := by decide +kernel
theorem dX2_isShut_30 : decode cX2_isShut 30 = .ok (.iconst 2, 1) := by decide +kernel
theorem dX2_isShut_31 : decode cX2_isShut 31 = .ok (.goto 4, 3) := by decide +kernel
theorem dX2_isShut_34 : decode cX2_isShut 34 = .ok (.iconst 0, 1) := by decide +kernel
theorem dX2_isShut_35 : decode cX2_isShut 35 = .ok (.putfield 45, 3) := by decide +kernel
theorem dX2_isShut_38 : decode cX2_isShut 38 = .ok (.aload_n 0, 1) := by decide +kernel
theorem dX2_isShut_39 : decode cX2_isShut 39 = .ok (.getfield 45, 3) := by decide +kernel
theorem dX2_isShut_42 : decode cX2_isShut 42 = .ok (.ifCond .ne 21, 3) := by decide +kernel
theorem dX2_isShut_45 : decode cX2_isShut 45 = .ok (.aload_n 0, 1) := by decide +kernel
theorem dX2_isShut_46 : decode cX2_isShut 46 = .ok (.getfield 25, 3) := by decide +kernel
theorem dX2_isShut_49 : decode cX2_isShut 49 = .ok (.bipush 6, 2) := by decide +kernel
theorem dX2_isShut_51 : decode cX2_isShut 51 = .ok (.iload_n 1, 1) := by decide +kernel
theorem dX2_isShut_52 : decode cX2_isShut 52 = .ok (.imul, 1) := by decide +kernel
theorem dX2_isShut_53 : decode cX2_isShut 53 = .ok (.iload_n 2, 1) := by decide +kernel
theorem dX2_isShut_54 : decode cX2_isShut 54 = .ok (.iadd, 1) := by decide +kernel
theorem dX2_isShut_55 : decode cX2_isShut 55 = .ok (.baload, 1) := by decide +kernel
theorem dX2_isShut_56 : decode cX2_isShut 56 = .ok (.ifCond .eq 7, 3) := by decide +kernel
theorem dX2_isShut_59 : decode cX2_isShut 59 = .ok (.iconst 1, 1) := by decide +kernel
theorem dX2_isShut_60 : decode cX2_isShut 60 = .ok (.goto 4, 3) := by decide +kernel
theorem dX2_isShut_63 : decode cX2_isShut 63 = .ok (.iconst 0, 1) := by decide +kernel
theorem dX2_isShut_64 : decode cX2_isShut 64 = .ok (.ireturn, 1) := by decide +kernel
set_option maxRecDepth 20000 in
theorem ggX2_far_X2_isRoom : GoodIn wsX2_far wsX2_isRoom := goodIn_r _ [12, 13, 14, 15, 11, 16, 21, 22, 23, 24, 25, 26, 27, 28, 29, 30, 31, 32, 33] (by decide +kernel) (by decide +kernel)
set_option maxRecDepth 20000 in
theorem gX2_far_X2_isRoom : GoodIn wsX2_far (wsV RX2 98 RX2 yX2_isRoom wsX2_isRoom) := goodIn_app (goodIn_of _ (by decide +kernel)) ggX2_far_X2_isRoom
set_option maxRecDepth 20000 in
theorem ggX2_far_X2_fail : GoodIn wsX2_far wsX2_fail := goodIn_r _ [20, 1, 21, 22, 23, 24, 25, 26, 27, 28, 29, 30, 31, 32, 33] (by decide +kernel) (by decide +kernel)
set_option maxRecDepth 20000 in
theorem gX2_far_X2_fail : GoodIn wsX2_far (wsV RX2 95 RX2 yX2_fail wsX2_fail) := goodIn_app (goodIn_of _ (by decide +kernel)) ggX2_far_X2_fail
theorem dX2_far_0 : decode cX2_far 0 = .ok (.aload_n 0, 1) := by decide +kernel
theorem dX2_far_1 : decode cX2_far 1 = .ok (.iconst 0, 1) := by decide +kernel
theorem dX2_far_2 : decode cX2_far 2 = .ok (.putfield 45, 3) := by decide +kernel
theorem dX2_far_5 : decode cX2_far 5 = .ok (.aload_n 0, 1) := by decide +kernel
theorem dX2_far_6 : decode cX2_far 6 = .ok (.iload_n 1, 1) := by decide +kernel
theorem dX2_far_7 : decode cX2_far 7 = .ok (.invokevirtual 98, 3) := by decide +kernel
theorem dX2_far_10 : decode cX2_far 10 = .ok (.ifCond .eq 11, 3) := by decide +kernel
theorem dX2_far_13 : decode cX2_far 13 = .ok (.aload_n 0, 1) := by decide +kernel
theorem dX2_far_14 : decode cX2_far 14 = .ok (.iload_n 2, 1) := by decide +kernel
theorem dX2_far_15 : decode cX2_far 15 = .ok (.invokevirtual 98, 3) := by decide +kernel
theorem dX2_far_18 : decode cX2_far 18 = .ok (.ifCond .ne 9, 3) := by decide +kernel
theorem dX2_far_21 : decode cX2_far 21 = .ok (.aload_n 0, 1) := by decide +kernel
theorem dX2_far_22 : decode cX2_far 22 = .ok (.iconst 1, 1) := by decide +kernel
theorem dX2_far_23 : decode cX2_far 23 = .ok (.invokevirtual 95, 3) := by decide +kernel
theorem dX2_far_26 : decode cX2_far 26 = .ok (.ireturn, 1) := by decide +kernel
theorem dX2_far_27 : decode cX2_far 27 = .ok (.aload_n 0, 1) := by decide +kernel
theorem dX2_far_28 : decode cX2_far 28 = .ok (.getfield 9, 3) := by decide +kernel
theorem dX2_far_31 : decode cX2_far 31 = .ok (.iload_n 1, 1) := by decide +kernel
theorem dX2_far_32 : decode cX2_far 32 = .ok (.iaload, 1) := by decide +kernel
theorem dX2_far_33 : decode cX2_far 33 = .ok (.aload_n 0, 1) := by decide +kernel
theorem dX2_far_34 : decode cX2_far 34 = .ok (.getfield 9, 3) := by decide +kernel
theorem dX2_far_37 : decode cX2_far 37 = .ok (.iload_n 2, 1) := by decide +kernel
theorem dX2_far_38 : decode cX2_far 38 = .ok (.iaload, 1) := by decide +kernel
theorem dX2_far_39 : decode cX2_far 39 = .ok (.isub, 1) := by decide +kernel
theorem dX2_far_40 : decode cX2_far 40 = .ok (.istore_n 3, 1) := by decide +kernel
theorem dX2_far_41 : decode cX2_far 41 = .ok (.aload_n 0, 1) := by decide +kernel
theorem dX2_far_42 : decode cX2_far 42 = .ok (.getfield 13, 3) := by decide +kernel
theorem dX2_far_45 : decode cX2_far 45 = .ok (.iload_n 1, 1) := by decide +kernel
theorem dX2_far_46 : decode cX2_far 46 = .ok (.iaload, 1) := by decide +kernel
theorem dX2_far_47 : decode cX2_far 47 = .ok (.aload_n 0, 1) := by decide +kernel
theorem dX2_far_48 : decode cX2_far 48 = .ok (.getfield 13, 3) := by decide +kernel
theorem dX2_far_51 : decode cX2_far 51 = .ok (.iload_n 2, 1) := by decide +kernel
theorem dX2_far_52 : decode cX2_far 52 = .ok (.iaload, 1) := by decide +kernel
theorem dX2_far_53 : decode cX2_far 53 = .ok (.isub, 1) := by decide +kernel
theorem dX2_far_54 : decode cX2_far 54 = .ok (.istore 4, 2) := by decide +kernel
theorem dX2_far_56 : decode cX2_far 56 = .ok (.iload_n 3, 1) := by decide +kernel
theorem dX2_far_57 : decode cX2_far 57 = .ok (.invokestatic 125, 3) := by decide +kernel
theorem dX2_far_60 : decode cX2_far 60 = .ok (.iload 4, 2) := by decide +kernel
theorem dX2_far_62 : decode cX2_far 62 = .ok (.invokestatic 125, 3) := by decide +kernel
theorem dX2_far_65 : decode cX2_far 65 = .ok (.iadd, 1) := by decide +kernel
theorem dX2_far_66 : decode cX2_far 66 = .ok (.iload_n 3, 1) := by decide +kernel
theorem dX2_far_67 : decode cX2_far 67 = .ok (.iload 4, 2) := by decide +kernel
theorem dX2_far_69 : decode cX2_far 69 = .ok (.iadd, 1) := by decide +kernel
theorem dX2_far_70 : decode cX2_far 70 = .ok (.invokestatic 125, 3) := by decide +kernel
theorem dX2_far_73 : decode cX2_far 73 = .ok (.iadd, 1) := by decide +kernel
theorem dX2_far_74 : decode cX2_far 74 = .ok (.iconst 2, 1) := by decide +kernel
theorem dX2_far_75 : decode cX2_far 75 = .ok (.idiv, 1) := by decide +kernel
theorem dX2_far_76 : decode cX2_far 76 = .ok (.ireturn, 1) := by decide +kernel
set_option maxRecDepth 20000 in
theorem ggX2_sees_X2_isRoom : GoodIn wsX2_sees wsX2_isRoom := goodIn_r _ [8, 2, 9, 10, 7, 11, 35, 36, 37, 38, 39, 40, 41, 42, 43, 44, 45, 46, 47] (by decide +kernel) (by decide +kernel)
set_option maxRecDepth 20000 in
theorem gX2_sees_X2_isRoom : GoodIn wsX2_sees (wsV RX2 98 RX2 yX2_isRoom wsX2_isRoom) := goodIn_app (goodIn_of _ (by decide +kernel)) ggX2_sees_X2_isRoom
set_option maxRecDepth 20000 in
theorem ggX2_sees_X2_shine : GoodIn wsX2_sees wsX2_shine := goodIn_r _ [15, 3, 16, 17, 18, 7, 19, 20, 21, 22, 23, 24, 25, 26, 27, 28, 29, 30, 31, 32, 33, 34, 9, 10, 11, 35, 36, 37, 38, 39, 40, 41, 42, 43, 44, 45, 46, 47] (by decide +kernel) (by decide +kernel)
set_option maxRecDepth 20000 in
theorem gX2_sees_X2_shine : GoodIn wsX2_sees (wsV RX2 79 RX2 yX2_shine wsX2_shine) := goodIn_app (goodIn_of _ (by decide +kernel)) ggX2_sees_X2_shine
theorem dX2_sees_0 : decode cX2_sees 0 = .ok (.aload_n 0, 1) := by decide +kernel
theorem dX2_sees_1 : decode cX2_sees 1 = .ok (.aload_n 0, 1) := by decide +kernel
theorem dX2_sees_2 : decode cX2_sees 2 = .ok (.iload_n 1, 1) := by decide +kernel
theorem dX2_sees_3 : decode cX2_sees 3 = .ok (.invokevirtual 98, 3) := by decide +kernel
theorem dX2_sees_6 : decode cX2_sees 6 = .ok (.ifCond .eq 15, 3) := by decide +kernel
theorem dX2_sees_9 : decode cX2_sees 9 = .ok (.aload_n 0, 1) := by decide +kernel
theorem dX2_sees_10 : decode cX2_sees 10 = .ok (.iload_n 2, 1) := by decide +kernel
theorem dX2_sees_11 : decode cX2_sees 11 = .ok (.invokevirtual 98, 3) := by decide +kernel
theorem dX2_sees_14 : decode cX2_sees 14 = .ok (.ifCond .eq 7, 3) := by decide +kernel
theorem dX2_sees_17 : decode cX2_sees 17 = .ok (.iconst 0, 1) := by decide +kernel
theorem dX2_sees_18 : decode cX2_sees 18 = .ok (.goto 4, 3) := by decide +kernel
theorem dX2_sees_21 : decode cX2_sees 21 = .ok (.iconst 1, 1) := by decide +kernel
theorem dX2_sees_22 : decode cX2_sees 22 = .ok (.putfield 45, 3) := by decide +kernel
theorem dX2_sees_25 : decode cX2_sees 25 = .ok (.aload_n 0, 1) := by decide +kernel
theorem dX2_sees_26 : decode cX2_sees 26 = .ok (.getfield 45, 3) := by decide +kernel
theorem dX2_sees_29 : decode cX2_sees 29 = .ok (.ifCond .eq 5, 3) := by decide +kernel
theorem dX2_sees_32 : decode cX2_sees 32 = .ok (.iconst 0, 1) := by decide +kernel
theorem dX2_sees_33 : decode cX2_sees 33 = .ok (.ireturn, 1) := by decide +kernel
theorem dX2_sees_34 : decode cX2_sees 34 = .ok (.iconst 0, 1) := by decide +kernel
theorem dX2_sees_35 : decode cX2_sees 35 = .ok (.istore_n 3, 1) := by decide +kernel
theorem dX2_sees_36 : decode cX2_sees 36 = .ok (.iload_n 3, 1) := by decide +kernel
theorem dX2_sees_37 : decode cX2_sees 37 = .ok (.aload_n 0, 1) := by decide +kernel
theorem dX2_sees_38 : decode cX2_sees 38 = .ok (.getfield 49, 3) := by decide +kernel
theorem dX2_sees_41 : decode cX2_sees 41 = .ok (.if_icmp .ge 16, 3) := by decide +kernel
theorem dX2_sees_44 : decode cX2_sees 44 = .ok (.aload_n 0, 1) := by decide +kernel
theorem dX2_sees_45 : decode cX2_sees 45 = .ok (.getfield 29, 3) := by decide +kernel
theorem dX2_sees_48 : decode cX2_sees 48 = .ok (.iload_n 3, 1) := by decide +kernel
theorem dX2_sees_49 : decode cX2_sees 49 = .ok (.iconst 0, 1) := by decide +kernel
theorem dX2_sees_50 : decode cX2_sees 50 = .ok (.iastore, 1) := by decide +kernel
theorem dX2_sees_51 : decode cX2_sees 51 = .ok (.iinc 3 1, 3) := by decide +kernel
theorem dX2_sees_54 : decode cX2_sees 54 = .ok (.goto (-18), 3) := by decide +kernel
theorem dX2_sees_57 : decode cX2_sees 57 = .ok (.aload_n 0, 1) := by decide +kernel
theorem dX2_sees_58 : decode cX2_sees 58 = .ok (.iload_n 1, 1) := by decide +kernel
theorem dX2_sees_59 : decode cX2_sees 59 = .ok (.invokevirtual 79, 3) := by decide +kernel
theorem dX2_sees_62 : decode cX2_sees 62 = .ok (.aload_n 0, 1) := by decide +kernel
theorem dX2_sees_63 : decode cX2_sees 63 = .ok (.getfield 29, 3) := by decide +kernel
theorem dX2_sees_66 : decode cX2_sees 66 = .ok (.iload_n 2, 1) := by decide +kernel
theorem dX2_sees_67 : decode cX2_sees 67 = .ok (.iaload, 1) := by decide +kernel
theorem dX2_sees_68 : decode cX2_sees 68 = .ok (.ifCond .le 7, 3) := by decide +kernel
theorem dX2_sees_71 : decode cX2_sees 71 = .ok (.iconst 1, 1) := by decide +kernel
theorem dX2_sees_72 : decode cX2_sees 72 = .ok (.goto 4, 3) := by decide +kernel
theorem dX2_sees_75 : decode cX2_sees 75 = .ok (.iconst 0, 1) := by decide +kernel
theorem dX2_sees_76 : decode cX2_sees 76 = .ok (.ireturn, 1) := by decide +kernel
set_option maxRecDepth 20000 in
theorem ggX2_spread_X2_on : GoodIn wsX2_spread wsX2_on := goodIn_r _ [8, 9, 10, 11, 12, 13, 7, 14, 15, 16, 17, 18, 19, 20, 21, 22, 23, 24, 25, 26, 27, 28, 29, 30, 31, 32, 33, 34, 35, 36, 37, 38, 39] (by decide +kernel) (by decide +kernel)
set_option maxRecDepth 20000 in
theorem gX2_spread_X2_on : GoodIn wsX2_spread (wsV RX2 76 RX2 yX2_on wsX2_on) := goodIn_app (goodIn_of _ (by decide +kernel)) ggX2_spread_X2_on
theorem dX2_spread_0 : decode cX2_spread 0 = .ok (.iconst 0, 1) := by decide +kernel
theorem dX2_spread_1 : decode cX2_spread 1 = .ok (.istore_n 2, 1) := by decide +kernel
theorem dX2_spread_2 : decode cX2_spread 2 = .ok (.iload_n 2, 1) := by decide +kernel
theorem dX2_spread_3 : decode cX2_spread 3 = .ok (.aload_n 0, 1) := by decide +kernel
theorem dX2_spread_4 : decode cX2_spread 4 = .ok (.getfield 49, 3) := by decide +kernel
theorem dX2_spread_7 : decode cX2_spread 7 = .ok (.if_icmp .ge 16, 3) := by decide +kernel
theorem dX2_spread_10 : decode cX2_spread 10 = .ok (.aload_n 0, 1) := by decide +kernel
theorem dX2_spread_11 : decode cX2_spread 11 = .ok (.getfield 32, 3) := by decide +kernel
theorem dX2_spread_14 : decode cX2_spread 14 = .ok (.iload_n 2, 1) := by decide +kernel
theorem dX2_spread_15 : decode cX2_spread 15 = .ok (.iconst (-1), 1) := by decide +kernel
theorem dX2_spread_16 : decode cX2_spread 16 = .ok (.iastore, 1) := by decide +kernel
theorem dX2_spread_17 : decode cX2_spread 17 = .ok (.iinc 2 1, 3) := by decide +kernel
theorem dX2_spread_20 : decode cX2_spread 20 = .ok (.goto (-18), 3) := by decide +kernel
theorem dX2_spread_23 : decode cX2_spread 23 = .ok (.aload_n 0, 1) := by decide +kernel
theorem dX2_spread_24 : decode cX2_spread 24 = .ok (.getfield 32, 3) := by decide +kernel
theorem dX2_spread_27 : decode cX2_spread 27 = .ok (.iload_n 1, 1) := by decide +kernel
theorem dX2_spread_28 : decode cX2_spread 28 = .ok (.iconst 0, 1) := by decide +kernel
theorem dX2_spread_29 : decode cX2_spread 29 = .ok (.iastore, 1) := by decide +kernel
theorem dX2_spread_30 : decode cX2_spread 30 = .ok (.aload_n 0, 1) := by decide +kernel
theorem dX2_spread_31 : decode cX2_spread 31 = .ok (.getfield 35, 3) := by decide +kernel
theorem dX2_spread_34 : decode cX2_spread 34 = .ok (.iconst 0, 1) := by decide +kernel
theorem dX2_spread_35 : decode cX2_spread 35 = .ok (.iload_n 1, 1) := by decide +kernel
theorem dX2_spread_36 : decode cX2_spread 36 = .ok (.iastore, 1) := by decide +kernel
theorem dX2_spread_37 : decode cX2_spread 37 = .ok (.iconst 1, 1) := by decide +kernel
theorem dX2_spread_38 : decode cX2_spread 38 = .ok (.istore_n 2, 1) := by decide +kernel
theorem dX2_spread_39 : decode cX2_spread 39 = .ok (.iconst 0, 1) := by decide +kernel
theorem dX2_spread_40 : decode cX2_spread 40 = .ok (.istore_n 3, 1) := by decide +kernel
theorem dX2_spread_41 : decode cX2_spread 41 = .ok (.iload_n 3, 1) := by decide +kernel
theorem dX2_spread_42 : decode cX2_spread 42 = .ok (.iload_n 2, 1) := by decide +kernel
theorem dX2_spread_43 : decode cX2_spread 43 = .ok (.if_icmp .ge 90, 3) := by decide +kernel
theorem dX2_spread_46 : decode cX2_spread 46 = .ok (.iconst 0, 1) := by decide +kernel
theorem dX2_spread_47 : decode cX2_spread 47 = .ok (.istore 4, 2) := by decide +kernel
theorem dX2_spread_49 : decode cX2_spread 49 = .ok (.iload 4, 2) := by decide +kernel
theorem dX2_spread_51 : decode cX2_spread 51 = .ok (.bipush 6, 2) := by decide +kernel
theorem dX2_spread_53 : decode cX2_spread 53 = .ok (.if_icmp .ge 74, 3) := by decide +kernel
theorem dX2_spread_56 : decode cX2_spread 56 = .ok (.aload_n 0, 1) := by decide +kernel
theorem dX2_spread_57 : decode cX2_spread 57 = .ok (.aload_n 0, 1) := by decide +kernel
theorem dX2_spread_58 : decode cX2_spread 58 = .ok (.getfield 35, 3) := by decide +kernel
theorem dX2_spread_61 : decode cX2_spread 61 = .ok (.iload_n 3, 1) := by decide +kernel
theorem dX2_spread_62 : decode cX2_spread 62 = .ok (.iaload, 1) := by decide +kernel
theorem dX2_spread_63 : decode cX2_spread 63 = .ok (.iload 4, 2) := by decide +kernel
theorem dX2_spread_65 : decode cX2_spread 65 = .ok (.invokevirtual 76, 3) := by decide +kernel
theorem dX2_spread_68 : decode cX2_spread 68 = .ok (.istore 5, 2) := by decide +kernel
theorem dX2_spread_70 : decode cX2_spread 70 = .ok (.iload 5, 2) := by decide +kernel
theorem dX2_spread_72 : decode cX2_spread 72 = .ok (.iconst (-1), 1) := by decide +kernel
theorem dX2_spread_73 : decode cX2_spread 73 = .ok (.if_icmp .eq 48, 3) := by decide +kernel
theorem dX2_spread_76 : decode cX2_spread 76 = .ok (.aload_n 0, 1) := by decide +kernel
theorem dX2_spread_77 : decode cX2_spread 77 = .ok (.getfield 32, 3) := by decide +kernel
theorem dX2_spread_80 : decode cX2_spread 80 = .ok (.iload 5, 2) := by decide +kernel
theorem dX2_spread_82 : decode cX2_spread 82 = .ok (.iaload, 1) := by decide +kernel
theorem dX2_spread_83 : decode cX2_spread 83 = .ok (.iconst (-1), 1) := by decide +kernel
theorem dX2_spread_84 : decode cX2_spread 84 = .ok (.if_icmp .eq 6, 3) := by decide +kernel
theorem dX2_spread_87 : decode cX2_spread 87 = .ok (.goto 34, 3) := by decide +kernel
theorem dX2_spread_90 : decode cX2_spread 90 = .ok (.aload_n 0, 1) := by decide +kernel
theorem dX2_spread_91 : decode cX2_spread 91 = .ok (.getfield 32, 3) := by decide +kernel
theorem dX2_spread_94 : decode cX2_spread 94 = .ok (.iload 5, 2) := by decide +kernel
theorem dX2_spread_96 : decode cX2_spread 96 = .ok (.aload_n 0, 1) := by decide +kernel
theorem dX2_spread_97 : decode cX2_spread 97 = .ok (.getfield 32, 3) := by decide +kernel
theorem dX2_spread_100 : decode cX2_spread 100 = .ok (.aload_n 0, 1) := by decide +kernel
theorem dX2_spread_101 : decode cX2_spread 101 = .ok (.getfield 35, 3) := by decide +kernel
theorem dX2_spread_104 : decode cX2_spread 104 = .ok (.iload_n 3, 1) := by decide +kernel
theorem dX2_spread_105 : decode cX2_spread 105 = .ok (.iaload, 1) := by decide +kernel
theorem dX2_spread_106 : decode cX2_spread 106 = .ok (.iaload, 1) := by decide +kernel
theorem dX2_spread_107 : decode cX2_spread 107 = .ok (.iconst 1, 1) := by decide +kernel
theorem dX2_spread_108 : decode cX2_spread 108 = .ok (.iadd, 1) := by decide +kernel
theorem dX2_spread_109 : decode cX2_spread 109 = .ok (.iastore, 1) := by decide +kernel
theorem dX2_spread_110 : decode cX2_spread 110 = .ok (.aload_n 0, 1) := by decide +kernel
theorem dX2_spread_111 : decode cX2_spread 111 = .ok (.getfield 35, 3) := by decide +kernel
theorem dX2_spread_114 : decode cX2_spread 114 = .ok (.iload_n 2, 1) := by decide +kernel
theorem dX2_spread_115 : decode cX2_spread 115 = .ok (.iload 5, 2) := by decide +kernel
theorem dX2_spread_117 : decode cX2_spread 117 = .ok (.iastore, 1) := by decide +kernel
theorem dX2_spread_118 : decode cX2_spread 118 = .ok (.iinc 2 1, 3) := by decide +kernel
theorem dX2_spread_121 : decode cX2_spread 121 = .ok (.iinc 4 1, 3) := by decide +kernel
theorem dX2_spread_124 : decode cX2_spread 124 = .ok (.goto (-75), 3) := by decide +kernel
theorem dX2_spread_127 : decode cX2_spread 127 = .ok (.iinc 3 1, 3) := by decide +kernel
theorem dX2_spread_130 : decode cX2_spread 130 = .ok (.goto (-89), 3) := by decide +kernel
theorem dX2_spread_133 : decode cX2_spread 133 = .ok (.iload_n 2, 1) := by decide +kernel
theorem dX2_spread_134 : decode cX2_spread 134 = .ok (.ireturn, 1) := by decide +kernel
set_option maxRecDepth 20000 in
theorem ggX2_way_X2_isRoom : GoodIn wsX2_way wsX2_isRoom := goodIn_r _ [7, 8, 9, 10, 6, 11, 40, 41, 42, 43, 44, 45, 46, 47, 48, 49, 50, 51, 52] (by decide +kernel) (by decide +kernel)
set_option maxRecDepth 20000 in
theorem gX2_way_X2_isRoom : GoodIn wsX2_way (wsV RX2 98 RX2 yX2_isRoom wsX2_isRoom) := goodIn_app (goodIn_of _ (by decide +kernel)) ggX2_way_X2_isRoom
set_option maxRecDepth 20000 in
theorem ggX2_way_X2_fail : GoodIn wsX2_way wsX2_fail := goodIn_r _ [15, 1, 40, 41, 42, 43, 44, 45, 46, 47, 48, 49, 50, 51, 52] (by decide +kernel) (by decide +kernel)
set_option maxRecDepth 20000 in
theorem gX2_way_X2_fail : GoodIn wsX2_way (wsV RX2 95 RX2 yX2_fail wsX2_fail) := goodIn_app (goodIn_of _ (by decide +kernel)) ggX2_way_X2_fail
set_option maxRecDepth 20000 in
theorem ggX2_way_X2_spread : GoodIn wsX2_way wsX2_spread := goodIn_r _ [19, 8, 2, 20, 21, 22, 23, 6, 24, 25, 26, 27, 28, 29, 30, 31, 32, 33, 34, 35, 36, 37, 38, 39, 9, 10, 11, 40, 41, 42, 43, 44, 45, 46, 47, 48, 49, 50, 51, 52] (by decide +kernel) (by decide +kernel)
set_option maxRecDepth 20000 in
theorem gX2_way_X2_spread : GoodIn wsX2_way (wsV RX2 130 RX2 yX2_spread wsX2_spread) := goodIn_app (goodIn_of _ (by decide +kernel)) ggX2_way_X2_spread
theorem dX2_way_0 : decode cX2_way 0 = .ok (.aload_n 0, 1) := by decide +kernel
theorem dX2_way_1 : decode cX2_way 1 = .ok (.iconst 0, 1) := by decide +kernel
theorem dX2_way_2 : decode cX2_way 2 = .ok (.putfield 45, 3) := by decide +kernel
theorem dX2_way_5 : decode cX2_way 5 = .ok (.aload_n 0, 1) := by decide +kernel
theorem dX2_way_6 : decode cX2_way 6 = .ok (.iload_n 1, 1) := by decide +kernel
theorem dX2_way_7 : decode cX2_way 7 = .ok (.invokevirtual 98, 3) := by decide +kernel
theorem dX2_way_10 : decode cX2_way 10 = .ok (.ifCond .eq 11, 3) := by decide +kernel
theorem dX2_way_13 : decode cX2_way 13 = .ok (.aload_n 0, 1) := by decide +kernel
theorem dX2_way_14 : decode cX2_way 14 = .ok (.iload_n 2, 1) := by decide +kernel
theorem dX2_way_15 : decode cX2_way 15 = .ok (.invokevirtual 98, 3) := by decide +kernel
theorem dX2_way_18 : decode cX2_way 18 = .ok (.ifCond .ne 9, 3) := by decide +kernel
theorem dX2_way_21 : decode cX2_way 21 = .ok (.aload_n 0, 1) := by decide +kernel
theorem dX2_way_22 : decode cX2_way 22 = .ok (.iconst 1, 1) := by decide +kernel
theorem dX2_way_23 : decode cX2_way 23 = .ok (.invokevirtual 95, 3) := by decide +kernel
theorem dX2_way_26 : decode cX2_way 26 = .ok (.ireturn, 1) := by decide +kernel
theorem dX2_way_27 : decode cX2_way 27 = .ok (.aload_n 0, 1) := by decide +kernel
theorem dX2_way_28 : decode cX2_way 28 = .ok (.iload_n 1, 1) := by decide +kernel
theorem dX2_way_29 : decode cX2_way 29 = .ok (.invokevirtual 130, 3) := by decide +kernel
theorem dX2_way_32 : decode cX2_way 32 = .ok (.pop, 1) := by decide +kernel
theorem dX2_way_33 : decode cX2_way 33 = .ok (.aload_n 0, 1) := by decide +kernel
theorem dX2_way_34 : decode cX2_way 34 = .ok (.getfield 32, 3) := by decide +kernel
theorem dX2_way_37 : decode cX2_way 37 = .ok (.iload_n 2, 1) := by decide +kernel
theorem dX2_way_38 : decode cX2_way 38 = .ok (.iaload, 1) := by decide +kernel
theorem dX2_way_39 : decode cX2_way 39 = .ok (.ireturn, 1) := by decide +kernel
set_option maxRecDepth 20000 in
theorem ggX2_side_X2_isRoom : GoodIn wsX2_side wsX2_isRoom := goodIn_r _ [7, 8, 9, 10, 6, 11, 40, 41, 42, 43, 44, 45, 46, 47, 48, 49, 50, 51, 52] (by decide +kernel) (by decide +kernel)
set_option maxRecDepth 20000 in
theorem gX2_side_X2_isRoom : GoodIn wsX2_side (wsV RX2 98 RX2 yX2_isRoom wsX2_isRoom) := goodIn_app (goodIn_of _ (by decide +kernel)) ggX2_side_X2_isRoom
set_option maxRecDepth 20000 in
theorem ggX2_side_X2_fail : GoodIn wsX2_side wsX2_fail := goodIn_r _ [15, 1, 40, 41, 42, 43, 44, 45, 46, 47, 48, 49, 50, 51, 52] (by decide +kernel) (by decide +kernel)
set_option maxRecDepth 20000 in
theorem gX2_side_X2_fail : GoodIn wsX2_side (wsV RX2 95 RX2 yX2_fail wsX2_fail) := goodIn_app (goodIn_of _ (by decide +kernel)) ggX2_side_X2_fail
set_option maxRecDepth 20000 in
theorem ggX2_side_X2_spread : GoodIn wsX2_side wsX2_spread := goodIn_r _ [19, 8, 2, 20, 21, 22, 23, 6, 24, 25, 26, 27, 28, 29, 30, 31, 32, 33, 34, 35, 36, 37, 38, 39, 9, 10, 11, 40, 41, 42, 43, 44, 45, 46, 47, 48, 49, 50, 51, 52] (by decide +kernel) (by decide +kernel)
set_option maxRecDepth 20000 in
theorem gX2_side_X2_spread : GoodIn wsX2_side (wsV RX2 130 RX2 yX2_spread wsX2_spread) := goodIn_app (goodIn_of _ (by decide +kernel)) ggX2_side_X2_spread
set_option maxRecDepth 20000 in
theorem ggX2_side_X2_on : GoodIn wsX2_side wsX2_on := goodIn_r _ [24, 25, 26, 27, 28, 29, 6, 30, 31, 32, 33, 34, 35, 36, 37, 38, 39, 9, 10, 11, 40, 41, 42, 43, 44, 45, 46, 47, 48, 49, 50, 51, 52] (by decide +kernel) (by decide +kernel)
set_option maxRecDepth 20000 in
theorem gX2_side_X2_on : GoodIn wsX2_side (wsV RX2 76 RX2 yX2_on wsX2_on) := goodIn_app (goodIn_of _ (by decide +kernel)) ggX2_side_X2_on
theorem dX2_side_0 : decode cX2_side 0 = .ok (.aload_n 0, 1) := by decide +kernel
theorem dX2_side_1 : decode cX2_side 1 = .ok (.iconst 0, 1) := by decide +kernel
theorem dX2_side_2 : decode cX2_side 2 = .ok (.putfield 45, 3) := by decide +kernel
theorem dX2_side_5 : decode cX2_side 5 = .ok (.aload_n 0, 1) := by decide +kernel
theorem dX2_side_6 : decode cX2_side 6 = .ok (.iload_n 1, 1) := by decide +kernel
theorem dX2_side_7 : decode cX2_side 7 = .ok (.invokevirtual 98, 3) := by decide +kernel
theorem dX2_side_10 : decode cX2_side 10 = .ok (.ifCond .eq 11, 3) := by decide +kernel
theorem dX2_side_13 : decode cX2_side 13 = .ok (.aload_n 0, 1) := by decide +kernel
theorem dX2_side_14 : decode cX2_side 14 = .ok (.iload_n 2, 1) := by decide +kernel
theorem dX2_side_15 : decode cX2_side 15 = .ok (.invokevirtual 98, 3) := by decide +kernel
theorem dX2_side_18 : decode cX2_side 18 = .ok (.ifCond .ne 9, 3) := by decide +kernel
theorem dX2_side_21 : decode cX2_side 21 = .ok (.aload_n 0, 1) := by decide +kernel
theorem dX2_side_22 : decode cX2_side 22 = .ok (.iconst 1, 1) := by decide +kernel
theorem dX2_side_23 : decode cX2_side 23 = .ok (.invokevirtual 95, 3) := by decide +kernel
theorem dX2_side_26 : decode cX2_side 26 = .ok (.ireturn, 1) := by decide +kernel
theorem dX2_side_27 : decode cX2_side 27 = .ok (.aload_n 0, 1) := by decide +kernel
theorem dX2_side_28 : decode cX2_side 28 = .ok (.iload_n 1, 1) := by decide +kernel
theorem dX2_side_29 : decode cX2_side 29 = .ok (.invokevirtual 130, 3) := by decide +kernel
theorem dX2_side_32 : decode cX2_side 32 = .ok (.pop, 1) := by decide +kernel
theorem dX2_side_33 : decode cX2_side 33 = .ok (.aload_n 0, 1) := by decide +kernel
theorem dX2_side_34 : decode cX2_side 34 = .ok (.getfield 32, 3) := by decide +kernel
theorem dX2_side_37 : decode cX2_side 37 = .ok (.iload_n 2, 1) := by decide +kernel
theorem dX2_side_38 : decode cX2_side 38 = .ok (.iaload, 1) := by decide +kernel
theorem dX2_side_39 : decode cX2_side 39 = .ok (.istore_n 3, 1) := by decide +kernel
theorem dX2_side_40 : decode cX2_side 40 = .ok (.iload_n 3, 1) := by decide +kernel
theorem dX2_side_41 : decode cX2_side 41 = .ok (.iconst 1, 1) := by decide +kernel
theorem dX2_side_42 : decode cX2_side 42 = .ok (.if_icmp .ge 5, 3) := by decide +kernel
theorem dX2_side_45 : decode cX2_side 45 = .ok (.iconst (-1), 1) := by decide +kernel
theorem dX2_side_46 : decode cX2_side 46 = .ok (.ireturn, 1) := by decide +kernel
theorem dX2_side_47 : decode cX2_side 47 = .ok (.iconst 0, 1) := by decide +kernel
theorem dX2_side_48 : decode cX2_side 48 = .ok (.istore 4, 2) := by decide +kernel
theorem dX2_side_50 : decode cX2_side 50 = .ok (.iload 4, 2) := by decide +kernel
theorem dX2_side_52 : decode cX2_side 52 = .ok (.bipush 6, 2) := by decide +kernel
theorem dX2_side_54 : decode cX2_side 54 = .ok (.if_icmp .ge 49, 3) := by decide +kernel
theorem dX2_side_57 : decode cX2_side 57 = .ok (.aload_n 0, 1) := by decide +kernel
theorem dX2_side_58 : decode cX2_side 58 = .ok (.iload_n 1, 1) := by decide +kernel
theorem dX2_side_59 : decode cX2_side 59 = .ok (.iload 4, 2) := by decide +kernel
theorem dX2_side_61 : decode cX2_side 61 = .ok (.invokevirtual 76, 3) := by decide +kernel
theorem dX2_side_64 : decode cX2_side 64 = .ok (.istore 5, 2) := by decide +kernel
theorem dX2_side_66 : decode cX2_side 66 = .ok (.iload 5, 2) := by decide +kernel
theorem dX2_side_68 : decode cX2_side 68 = .ok (.iconst (-1), 1) := by decide +kernel
theorem dX2_side_69 : decode cX2_side 69 = .ok (.if_icmp .ne 6, 3) := by decide +kernel
theorem dX2_side_72 : decode cX2_side 72 = .ok (.goto 25, 3) := by decide +kernel
theorem dX2_side_75 : decode cX2_side 75 = .ok (.aload_n 0, 1) := by decide +kernel
theorem dX2_side_76 : decode cX2_side 76 = .ok (.iload 5, 2) := by decide +kernel
theorem dX2_side_78 : decode cX2_side 78 = .ok (.invokevirtual 130, 3) := by decide +kernel
theorem dX2_side_81 : decode cX2_side 81 = .ok (.pop, 1) := by decide +kernel
theorem dX2_side_82 : decode cX2_side 82 = .ok (.aload_n 0, 1) := by decide +kernel
theorem dX2_side_83 : decode cX2_side 83 = .ok (.getfield 32, 3) := by decide +kernel
theorem dX2_side_86 : decode cX2_side 86 = .ok (.iload_n 2, 1) := by decide +kernel
theorem dX2_side_87 : decode cX2_side 87 = .ok (.iaload, 1) := by decide +kernel
theorem dX2_side_88 : decode cX2_side 88 = .ok (.iload_n 3, 1) := by decide +kernel
theorem dX2_side_89 : decode cX2_side 89 = .ok (.iconst 1, 1) := by decide +kernel
theorem dX2_side_90 : decode cX2_side 90 = .ok (.isub, 1) := by decide +kernel
theorem dX2_side_91 : decode cX2_side 91 = .ok (.if_icmp .ne 6, 3) := by decide +kernel
theorem dX2_side_94 : decode cX2_side 94 = .ok (.iload 4, 2) := by decide +kernel
theorem dX2_side_96 : decode cX2_side 96 = .ok (.ireturn, 1) := by decide +kernel
theorem dX2_side_97 : decode cX2_side 97 = .ok (.iinc 4 1, 3) := by decide +kernel
theorem dX2_side_100 : decode cX2_side 100 = .ok (.goto (-50), 3) := by decide +kernel
theorem dX2_side_103 : decode cX2_side 103 = .ok (.iconst (-1), 1) := by decide +kernel
theorem dX2_side_104 : decode cX2_side 104 = .ok (.ireturn, 1) := by decide +kernel
set_option maxRecDepth 20000 in
theorem ggX2_reach_X2_isRoom : GoodIn wsX2_reach wsX2_isRoom := goodIn_r _ [8, 2, 9, 10, 7, 11, 40, 41, 42, 43, 44, 45, 46, 47, 48, 49, 50, 51, 52] (by decide +kernel) (by decide +kernel)
set_option maxRecDepth 20000 in
theorem gX2_reach_X2_isRoom : GoodIn wsX2_reach (wsV RX2 98 RX2 yX2_isRoom wsX2_isRoom) := goodIn_app (goodIn_of _ (by decide +kernel)) ggX2_reach_X2_isRoom
set_option maxRecDepth 20000 in
theorem ggX2_reach_X2_fail : GoodIn wsX2_reach wsX2_fail := goodIn_r _ [15, 1, 40, 41, 42, 43, 44, 45, 46, 47, 48, 49, 50, 51, 52] (by decide +kernel) (by decide +kernel)
set_option maxRecDepth 20000 in
theorem gX2_reach_X2_fail : GoodIn wsX2_reach (wsV RX2 95 RX2 yX2_fail wsX2_fail) := goodIn_app (goodIn_of _ (by decide +kernel)) ggX2_reach_X2_fail
set_option maxRecDepth 20000 in
theorem ggX2_reach_X2_isIn : GoodIn wsX2_reach wsX2_isIn := goodIn_r _ [11] (by decide +kernel) (by decide +kernel)
set_option maxRecDepth 20000 in
theorem gX2_reach_X2_isIn : GoodIn wsX2_reach (va_wsS RX2 52 yX2_isIn wsX2_isIn) := goodIn_app (goodIn_of _ (by decide +kernel)) ggX2_reach_X2_isIn
set_option maxRecDepth 20000 in
theorem ggX2_reach_X2_spread : GoodIn wsX2_reach wsX2_spread := goodIn_r _ [19, 2, 3, 20, 21, 22, 23, 7, 24, 25, 26, 27, 28, 29, 30, 31, 32, 33, 34, 35, 36, 37, 38, 39, 9, 10, 11, 40, 41, 42, 43, 44, 45, 46, 47, 48, 49, 50, 51, 52] (by decide +kernel) (by decide +kernel)
set_option maxRecDepth 20000 in
theorem gX2_reach_X2_spread : GoodIn wsX2_reach (wsV RX2 130 RX2 yX2_spread wsX2_spread) := goodIn_app (goodIn_of _ (by decide +kernel)) ggX2_reach_X2_spread
theorem dX2_reach_0 : decode cX2_reach 0 = .ok (.aload_n 0, 1) := by decide +kernel
theorem dX2_reach_1 : decode cX2_reach 1 = .ok (.iconst 0, 1) := by decide +kernel
theorem dX2_reach_2 : decode cX2_reach 2 = .ok (.putfield 45, 3) := by decide +kernel
theorem dX2_reach_5 : decode cX2_reach 5 = .ok (.aload_n 0, 1) := by decide +kernel
theorem dX2_reach_6 : decode cX2_reach 6 = .ok (.iload_n 1, 1) := by decide +kernel
