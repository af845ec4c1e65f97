theorem dX1_advise_7 : decode cX1_advise 7 = .ok (.iconst (-1), 1) := by decide +kernel
theorem dX1_advise_8 : decode cX1_advise 8 = .ok (.istore_n 3, 1) := by decide +kernel
theorem dX1_advise_9 : decode cX1_advise 9 = .ok (.iconst 0, 1) := by decide +kernel
theorem dX1_advise_10 : decode cX1_advise 10 = .ok (.istore 4, 2) := by decide +kernel
theorem dX1_advise_12 : decode cX1_advise 12 = .ok (.iload 4, 2) := by decide +kernel
theorem dX1_advise_14 : decode cX1_advise 14 = .ok (.iload_n 1, 1) := by decide +kernel
theorem dX1_advise_15 : decode cX1_advise 15 = .ok (.invokestatic 86, 3) := by decide +kernel
theorem dX1_advise_18 : decode cX1_advise 18 = .ok (.if_icmp .ge 30, 3) := by decide +kernel
theorem dX1_advise_21 : decode cX1_advise 21 = .ok (.aload_n 0, 1) := by decide +kernel
theorem dX1_advise_22 : decode cX1_advise 22 = .ok (.iload_n 1, 1) := by decide +kernel
theorem dX1_advise_23 : decode cX1_advise 23 = .ok (.iload 4, 2) := by decide +kernel
theorem dX1_advise_25 : decode cX1_advise 25 = .ok (.invokevirtual 162, 3) := by decide +kernel
theorem dX1_advise_28 : decode cX1_advise 28 = .ok (.istore 5, 2) := by decide +kernel
theorem dX1_advise_30 : decode cX1_advise 30 = .ok (.iload 5, 2) := by decide +kernel
theorem dX1_advise_32 : decode cX1_advise 32 = .ok (.iload_n 3, 1) := by decide +kernel
theorem dX1_advise_33 : decode cX1_advise 33 = .ok (.if_icmp .le 9, 3) := by decide +kernel
theorem dX1_advise_36 : decode cX1_advise 36 = .ok (.iload 5, 2) := by decide +kernel
theorem dX1_advise_38 : decode cX1_advise 38 = .ok (.istore_n 3, 1) := by decide +kernel
theorem dX1_advise_39 : decode cX1_advise 39 = .ok (.iload 4, 2) := by decide +kernel
theorem dX1_advise_41 : decode cX1_advise 41 = .ok (.istore_n 2, 1) := by decide +kernel
theorem dX1_advise_42 : decode cX1_advise 42 = .ok (.iinc 4 1, 3) := by decide +kernel
theorem dX1_advise_45 : decode cX1_advise 45 = .ok (.goto (-33), 3) := by decide +kernel
theorem dX1_advise_48 : decode cX1_advise 48 = .ok (.iload_n 2, 1) := by decide +kernel
theorem dX1_advise_49 : decode cX1_advise 49 = .ok (.ireturn, 1) := by decide +kernel
set_option maxRecDepth 20000 in
theorem ggX1_best_X1_newlyLitFrom : GoodIn wsX1_best wsX1_newlyLitFrom := goodIn_r _ [7, 2, 8, 9, 10, 11, 12, 6, 13, 14, 15, 16, 17, 18, 19, 20, 21, 22, 23, 24, 25, 26, 27, 28, 29, 30, 31, 32, 33, 34, 35, 1, 36, 37, 38, 39, 40, 41, 42, 43, 44, 45, 46, 47, 48, 49, 50, 51, 52] (by decide +kernel) (by decide +kernel)
set_option maxRecDepth 20000 in
theorem gX1_best_X1_newlyLitFrom : GoodIn wsX1_best (wsV RX1 165 RX1 yX1_newlyLitFrom wsX1_newlyLitFrom) := goodIn_app (goodIn_of _ (by decide +kernel)) ggX1_best_X1_newlyLitFrom
theorem dX1_best_0 : decode cX1_best 0 = .ok (.iconst (-1), 1) := by decide +kernel
theorem dX1_best_1 : decode cX1_best 1 = .ok (.istore_n 1, 1) := by decide +kernel
theorem dX1_best_2 : decode cX1_best 2 = .ok (.iconst (-1), 1) := by decide +kernel
theorem dX1_best_3 : decode cX1_best 3 = .ok (.istore_n 2, 1) := by decide +kernel
theorem dX1_best_4 : decode cX1_best 4 = .ok (.iconst 0, 1) := by decide +kernel
theorem dX1_best_5 : decode cX1_best 5 = .ok (.istore_n 3, 1) := by decide +kernel
theorem dX1_best_6 : decode cX1_best 6 = .ok (.iload_n 3, 1) := by decide +kernel
theorem dX1_best_7 : decode cX1_best 7 = .ok (.aload_n 0, 1) := by decide +kernel
theorem dX1_best_8 : decode cX1_best 8 = .ok (.getfield 50, 3) := by decide +kernel
theorem dX1_best_11 : decode cX1_best 11 = .ok (.if_icmp .ge 40, 3) := by decide +kernel
theorem dX1_best_14 : decode cX1_best 14 = .ok (.aload_n 0, 1) := by decide +kernel
theorem dX1_best_15 : decode cX1_best 15 = .ok (.getfield 16, 3) := by decide +kernel
theorem dX1_best_18 : decode cX1_best 18 = .ok (.iload_n 3, 1) := by decide +kernel
theorem dX1_best_19 : decode cX1_best 19 = .ok (.iaload, 1) := by decide +kernel
theorem dX1_best_20 : decode cX1_best 20 = .ok (.ifCond .ne 11, 3) := by decide +kernel
theorem dX1_best_23 : decode cX1_best 23 = .ok (.aload_n 0, 1) := by decide +kernel
theorem dX1_best_24 : decode cX1_best 24 = .ok (.iload_n 3, 1) := by decide +kernel
theorem dX1_best_25 : decode cX1_best 25 = .ok (.invokevirtual 165, 3) := by decide +kernel
theorem dX1_best_28 : decode cX1_best 28 = .ok (.goto 4, 3) := by decide +kernel
theorem dX1_best_31 : decode cX1_best 31 = .ok (.iconst (-1), 1) := by decide +kernel
theorem dX1_best_32 : decode cX1_best 32 = .ok (.istore 4, 2) := by decide +kernel
theorem dX1_best_34 : decode cX1_best 34 = .ok (.iload 4, 2) := by decide +kernel
theorem dX1_best_36 : decode cX1_best 36 = .ok (.iload_n 2, 1) := by decide +kernel
theorem dX1_best_37 : decode cX1_best 37 = .ok (.if_icmp .le 8, 3) := by decide +kernel
theorem dX1_best_40 : decode cX1_best 40 = .ok (.iload 4, 2) := by decide +kernel
theorem dX1_best_42 : decode cX1_best 42 = .ok (.istore_n 2, 1) := by decide +kernel
theorem dX1_best_43 : decode cX1_best 43 = .ok (.iload_n 3, 1) := by decide +kernel
theorem dX1_best_44 : decode cX1_best 44 = .ok (.istore_n 1, 1) := by decide +kernel
theorem dX1_best_45 : decode cX1_best 45 = .ok (.iinc 3 1, 3) := by decide +kernel
theorem dX1_best_48 : decode cX1_best 48 = .ok (.goto (-42), 3) := by decide +kernel
theorem dX1_best_51 : decode cX1_best 51 = .ok (.iload_n 1, 1) := by decide +kernel
theorem dX1_best_52 : decode cX1_best 52 = .ok (.ireturn, 1) := by decide +kernel
set_option maxRecDepth 20000 in
theorem ggX1_mean_X1_litAmong : GoodIn wsX1_mean wsX1_litAmong := goodIn_r _ [6] (by decide +kernel) (by decide +kernel)
set_option maxRecDepth 20000 in
theorem gX1_mean_X1_litAmong : GoodIn wsX1_mean (va_wsS RX1 146 yX1_litAmong wsX1_litAmong) := goodIn_app (goodIn_of _ (by decide +kernel)) ggX1_mean_X1_litAmong
theorem dX1_mean_0 : decode cX1_mean 0 = .ok (.aload_n 0, 1) := by decide +kernel
theorem dX1_mean_1 : decode cX1_mean 1 = .ok (.getfield 24, 3) := by decide +kernel
theorem dX1_mean_4 : decode cX1_mean 4 = .ok (.iconst 0, 1) := by decide +kernel
theorem dX1_mean_5 : decode cX1_mean 5 = .ok (.aload_n 0, 1) := by decide +kernel
theorem dX1_mean_6 : decode cX1_mean 6 = .ok (.getfield 50, 3) := by decide +kernel
theorem dX1_mean_9 : decode cX1_mean 9 = .ok (.invokestatic 146, 3) := by decide +kernel
theorem dX1_mean_12 : decode cX1_mean 12 = .ok (.istore_n 1, 1) := by decide +kernel
theorem dX1_mean_13 : decode cX1_mean 13 = .ok (.iconst 0, 1) := by decide +kernel
theorem dX1_mean_14 : decode cX1_mean 14 = .ok (.istore_n 2, 1) := by decide +kernel
theorem dX1_mean_15 : decode cX1_mean 15 = .ok (.iconst 0, 1) := by decide +kernel
theorem dX1_mean_16 : decode cX1_mean 16 = .ok (.istore_n 3, 1) := by decide +kernel
theorem dX1_mean_17 : decode cX1_mean 17 = .ok (.iload_n 3, 1) := by decide +kernel
theorem dX1_mean_18 : decode cX1_mean 18 = .ok (.aload_n 0, 1) := by decide +kernel
theorem dX1_mean_19 : decode cX1_mean 19 = .ok (.getfield 50, 3) := by decide +kernel
theorem dX1_mean_22 : decode cX1_mean 22 = .ok (.if_icmp .ge 18, 3) := by decide +kernel
theorem dX1_mean_25 : decode cX1_mean 25 = .ok (.iload_n 2, 1) := by decide +kernel
theorem dX1_mean_26 : decode cX1_mean 26 = .ok (.aload_n 0, 1) := by decide +kernel
theorem dX1_mean_27 : decode cX1_mean 27 = .ok (.getfield 24, 3) := by decide +kernel
theorem dX1_mean_30 : decode cX1_mean 30 = .ok (.iload_n 3, 1) := by decide +kernel
theorem dX1_mean_31 : decode cX1_mean 31 = .ok (.iaload, 1) := by decide +kernel
theorem dX1_mean_32 : decode cX1_mean 32 = .ok (.iadd, 1) := by decide +kernel
theorem dX1_mean_33 : decode cX1_mean 33 = .ok (.istore_n 2, 1) := by decide +kernel
theorem dX1_mean_34 : decode cX1_mean 34 = .ok (.iinc 3 1, 3) := by decide +kernel
theorem dX1_mean_37 : decode cX1_mean 37 = .ok (.goto (-20), 3) := by decide +kernel
theorem dX1_mean_40 : decode cX1_mean 40 = .ok (.iload_n 1, 1) := by decide +kernel
theorem dX1_mean_41 : decode cX1_mean 41 = .ok (.ifCond .ne 7, 3) := by decide +kernel
theorem dX1_mean_44 : decode cX1_mean 44 = .ok (.dconst 0, 1) := by decide +kernel
theorem dX1_mean_45 : decode cX1_mean 45 = .ok (.goto 8, 3) := by decide +kernel
theorem dX1_mean_48 : decode cX1_mean 48 = .ok (.iload_n 2, 1) := by decide +kernel
theorem dX1_mean_49 : decode cX1_mean 49 = .ok (.i2d, 1) := by decide +kernel
theorem dX1_mean_50 : decode cX1_mean 50 = .ok (.iload_n 1, 1) := by decide +kernel
theorem dX1_mean_51 : decode cX1_mean 51 = .ok (.i2d, 1) := by decide +kernel
theorem dX1_mean_52 : decode cX1_mean 52 = .ok (.ddiv, 1) := by decide +kernel
theorem dX1_mean_53 : decode cX1_mean 53 = .ok (.dreturn, 1) := by decide +kernel
set_option maxRecDepth 20000 in
theorem ggX1_digest_X1_count : GoodIn wsX1_digest wsX1_count := goodIn_ca (goodIn_r _ [10, 3, 5, 11, 12, 13, 9, 14, 15, 16, 17, 18, 19, 20, 21, 22, 23, 24, 25, 4, 26, 27, 28, 29, 30, 31, 32, 33, 34, 35, 36, 37, 38, 39, 40, 41, 42, 43, 44, 45, 46, 47, 48, 49, 50, 51, 52, 53, 54, 55, 56, 57, 58, 59, 60, 61, 62, 63, 64, 65, 66, 67, 68, 110, 111, 112, 113, 114, 115, 116, 117, 118, 119, 120, 121, 122, 123, 124, 125] (by decide +kernel) (by decide +kernel)) (goodIn_sub (fun _ h => List.mem_cons_of_mem _ (List.mem_append_right _ h)) (by decide +kernel))
set_option maxRecDepth 20000 in
theorem gX1_digest_X1_count : GoodIn wsX1_digest (wsV RX1 172 RX1 yX1_count wsX1_count) := goodIn_app (goodIn_of _ (by decide +kernel)) ggX1_digest_X1_count
set_option maxRecDepth 20000 in
theorem ggX1_digest_X1_about : GoodIn wsX1_digest wsX1_about := goodIn_ca (goodIn_r _ [72, 58, 21, 11, 73, 74, 75, 9, 76, 3, 12, 13, 14, 15, 16, 77, 78, 79, 62, 80, 81, 82, 83, 84, 85, 86, 87, 88, 89, 90, 91, 92, 93, 94, 95, 50, 51, 52, 53, 4, 54, 55, 56, 57, 59, 60, 61, 63, 64, 27, 28, 65, 66, 67, 68, 26, 110, 111, 112, 113, 114, 115, 116, 117, 118, 119, 120, 121, 122, 123, 124, 125] (by decide +kernel) (by decide +kernel)) (goodIn_sub (fun _ h => List.mem_cons_of_mem _ (List.mem_append_right _ h)) (by decide +kernel))
set_option maxRecDepth 20000 in
theorem gX1_digest_X1_about : GoodIn wsX1_digest (wsV RX1 175 RX1 yX1_about wsX1_about) := goodIn_app (goodIn_of _ (by decide +kernel)) ggX1_digest_X1_about
set_option maxRecDepth 20000 in
theorem ggX1_digest_X1_doorOf : GoodIn wsX1_digest wsX1_doorOf := goodIn_r _ [28] (by decide +kernel) (by decide +kernel)
set_option maxRecDepth 20000 in
theorem gX1_digest_X1_doorOf : GoodIn wsX1_digest (va_wsS RX1 69 yX1_doorOf wsX1_doorOf) := goodIn_app (goodIn_of _ (by decide +kernel)) ggX1_digest_X1_doorOf
set_option maxRecDepth 20000 in
theorem ggX1_digest_X1_ring : GoodIn wsX1_digest wsX1_ring := goodIn_ca (goodIn_r _ [99, 11, 100, 101, 102, 9, 103, 5, 12, 13, 14, 15, 16, 104, 105, 62, 106, 107, 108, 109, 17, 18, 19, 20, 21, 29, 30, 31, 110, 111, 112, 113, 114, 115, 116, 117, 118, 119, 120] (by decide +kernel) (by decide +kernel)) (goodIn_sub (fun _ h => List.mem_cons_of_mem _ (List.mem_append_right _ h)) (by decide +kernel))
set_option maxRecDepth 20000 in
theorem gX1_digest_X1_ring : GoodIn wsX1_digest (wsV RX1 178 RX1 yX1_ring wsX1_ring) := goodIn_app (goodIn_of _ (by decide +kernel)) ggX1_digest_X1_ring
theorem dX1_digest_0 : decode cX1_digest 0 = .ok (.ldc2_w 168, 3) := by decide +kernel
theorem dX1_digest_3 : decode cX1_digest 3 = .ok (.lstore_n 1, 1) := by decide +kernel
theorem dX1_digest_4 : decode cX1_digest 4 = .ok (.iconst 0, 1) := by decide +kernel
theorem dX1_digest_5 : decode cX1_digest 5 = .ok (.istore_n 3, 1) := by decide +kernel
theorem dX1_digest_6 : decode cX1_digest 6 = .ok (.iload_n 3, 1) := by decide +kernel
theorem dX1_digest_7 : decode cX1_digest 7 = .ok (.bipush 7, 2) := by decide +kernel
theorem dX1_digest_9 : decode cX1_digest 9 = .ok (.if_icmp .ge 22, 3) := by decide +kernel
theorem dX1_digest_12 : decode cX1_digest 12 = .ok (.lload_n 1, 1) := by decide +kernel
theorem dX1_digest_13 : decode cX1_digest 13 = .ok (.ldc2_w 170, 3) := by decide +kernel
theorem dX1_digest_16 : decode cX1_digest 16 = .ok (.lmul, 1) := by decide +kernel
theorem dX1_digest_17 : decode cX1_digest 17 = .ok (.aload_n 0, 1) := by decide +kernel
theorem dX1_digest_18 : decode cX1_digest 18 = .ok (.iload_n 3, 1) := by decide +kernel
theorem dX1_digest_19 : decode cX1_digest 19 = .ok (.invokevirtual 172, 3) := by decide +kernel
theorem dX1_digest_22 : decode cX1_digest 22 = .ok (.i2l, 1) := by decide +kernel
theorem dX1_digest_23 : decode cX1_digest 23 = .ok (.ladd, 1) := by decide +kernel
theorem dX1_digest_24 : decode cX1_digest 24 = .ok (.lstore_n 1, 1) := by decide +kernel
theorem dX1_digest_25 : decode cX1_digest 25 = .ok (.iinc 3 1, 3) := by decide +kernel
theorem dX1_digest_28 : decode cX1_digest 28 = .ok (.goto (-22), 3) := by decide +kernel
theorem dX1_digest_31 : decode cX1_digest 31 = .ok (.iconst 0, 1) := by decide +kernel
theorem dX1_digest_32 : decode cX1_digest 32 = .ok (.istore_n 3, 1) := by decide +kernel
theorem dX1_digest_33 : decode cX1_digest 33 = .ok (.iload_n 3, 1) := by decide +kernel
theorem dX1_digest_34 : decode cX1_digest 34 = .ok (.aload_n 0, 1) := by decide +kernel
theorem dX1_digest_35 : decode cX1_digest 35 = .ok (.getfield 50, 3) := by decide +kernel
theorem dX1_digest_38 : decode cX1_digest 38 = .ok (.if_icmp .ge 83, 3) := by decide +kernel
theorem dX1_digest_41 : decode cX1_digest 41 = .ok (.iconst 0, 1) := by decide +kernel
theorem dX1_digest_42 : decode cX1_digest 42 = .ok (.istore 4, 2) := by decide +kernel
theorem dX1_digest_44 : decode cX1_digest 44 = .ok (.iload 4, 2) := by decide +kernel
theorem dX1_digest_46 : decode cX1_digest 46 = .ok (.bipush 6, 2) := by decide +kernel
theorem dX1_digest_48 : decode cX1_digest 48 = .ok (.if_icmp .ge 24, 3) := by decide +kernel
theorem dX1_digest_51 : decode cX1_digest 51 = .ok (.lload_n 1, 1) := by decide +kernel
theorem dX1_digest_52 : decode cX1_digest 52 = .ok (.ldc2_w 170, 3) := by decide +kernel
theorem dX1_digest_55 : decode cX1_digest 55 = .ok (.lmul, 1) := by decide +kernel
theorem dX1_digest_56 : decode cX1_digest 56 = .ok (.aload_n 0, 1) := by decide +kernel
theorem dX1_digest_57 : decode cX1_digest 57 = .ok (.iload_n 3, 1) := by decide +kernel
theorem dX1_digest_58 : decode cX1_digest 58 = .ok (.iload 4, 2) := by decide +kernel
theorem dX1_digest_60 : decode cX1_digest 60 = .ok (.invokevirtual 175, 3) := by decide +kernel
theorem dX1_digest_63 : decode cX1_digest 63 = .ok (.i2l, 1) := by decide +kernel
theorem dX1_digest_64 : decode cX1_digest 64 = .ok (.ladd, 1) := by decide +kernel
theorem dX1_digest_65 : decode cX1_digest 65 = .ok (.lstore_n 1, 1) := by decide +kernel
theorem dX1_digest_66 : decode cX1_digest 66 = .ok (.iinc 4 1, 3) := by decide +kernel
theorem dX1_digest_69 : decode cX1_digest 69 = .ok (.goto (-25), 3) := by decide +kernel
theorem dX1_digest_72 : decode cX1_digest 72 = .ok (.iconst 0, 1) := by decide +kernel
theorem dX1_digest_73 : decode cX1_digest 73 = .ok (.istore 4, 2) := by decide +kernel
theorem dX1_digest_75 : decode cX1_digest 75 = .ok (.iload 4, 2) := by decide +kernel
theorem dX1_digest_77 : decode cX1_digest 77 = .ok (.bipush 6, 2) := by decide +kernel
theorem dX1_digest_79 : decode cX1_digest 79 = .ok (.if_icmp .ge 36, 3) := by decide +kernel
theorem dX1_digest_82 : decode cX1_digest 82 = .ok (.lload_n 1, 1) := by decide +kernel
theorem dX1_digest_83 : decode cX1_digest 83 = .ok (.ldc2_w 170, 3) := by decide +kernel
theorem dX1_digest_86 : decode cX1_digest 86 = .ok (.lmul, 1) := by decide +kernel
theorem dX1_digest_87 : decode cX1_digest 87 = .ok (.aload_n 0, 1) := by decide +kernel
theorem dX1_digest_88 : decode cX1_digest 88 = .ok (.getfield 20, 3) := by decide +kernel
theorem dX1_digest_91 : decode cX1_digest 91 = .ok (.iload_n 3, 1) := by decide +kernel
theorem dX1_digest_92 : decode cX1_digest 92 = .ok (.iload 4, 2) := by decide +kernel
theorem dX1_digest_94 : decode cX1_digest 94 = .ok (.invokestatic 69, 3) := by decide +kernel
theorem dX1_digest_97 : decode cX1_digest 97 = .ok (.baload, 1) := by decide +kernel
theorem dX1_digest_98 : decode cX1_digest 98 = .ok (.ifCond .eq 7, 3) := by decide +kernel
theorem dX1_digest_101 : decode cX1_digest 101 = .ok (.iconst 1, 1) := by decide +kernel
theorem dX1_digest_102 : decode cX1_digest 102 = .ok (.goto 4, 3) := by decide +kernel
theorem dX1_digest_105 : decode cX1_digest 105 = .ok (.iconst 0, 1) := by decide +kernel
theorem dX1_digest_106 : decode cX1_digest 106 = .ok (.i2l, 1) := by decide +kernel
theorem dX1_digest_107 : decode cX1_digest 107 = .ok (.ladd, 1) := by decide +kernel
theorem dX1_digest_108 : decode cX1_digest 108 = .ok (.lstore_n 1, 1) := by decide +kernel
theorem dX1_digest_109 : decode cX1_digest 109 = .ok (.iinc 4 1, 3) := by decide +kernel
theorem dX1_digest_112 : decode cX1_digest 112 = .ok (.goto (-37), 3) := by decide +kernel
theorem dX1_digest_115 : decode cX1_digest 115 = .ok (.iinc 3 1, 3) := by decide +kernel
theorem dX1_digest_118 : decode cX1_digest 118 = .ok (.goto (-85), 3) := by decide +kernel
theorem dX1_digest_121 : decode cX1_digest 121 = .ok (.iconst 0, 1) := by decide +kernel
theorem dX1_digest_122 : decode cX1_digest 122 = .ok (.istore_n 3, 1) := by decide +kernel
theorem dX1_digest_123 : decode cX1_digest 123 = .ok (.iload_n 3, 1) := by decide +kernel
theorem dX1_digest_124 : decode cX1_digest 124 = .ok (.aload_n 0, 1) := by decide +kernel
theorem dX1_digest_125 : decode cX1_digest 125 = .ok (.getfield 149, 3) := by decide +kernel
theorem dX1_digest_128 : decode cX1_digest 128 = .ok (.if_icmp .gt 39, 3) := by decide +kernel
theorem dX1_digest_131 : decode cX1_digest 131 = .ok (.iconst 0, 1) := by decide +kernel
theorem dX1_digest_132 : decode cX1_digest 132 = .ok (.istore 4, 2) := by decide +kernel
theorem dX1_digest_134 : decode cX1_digest 134 = .ok (.iload 4, 2) := by decide +kernel
theorem dX1_digest_136 : decode cX1_digest 136 = .ok (.iconst 4, 1) := by decide +kernel
theorem dX1_digest_137 : decode cX1_digest 137 = .ok (.if_icmp .ge 24, 3) := by decide +kernel
theorem dX1_digest_140 : decode cX1_digest 140 = .ok (.lload_n 1, 1) := by decide +kernel
theorem dX1_digest_141 : decode cX1_digest 141 = .ok (.ldc2_w 170, 3) := by decide +kernel
theorem dX1_digest_144 : decode cX1_digest 144 = .ok (.lmul, 1) := by decide +kernel
theorem dX1_digest_145 : decode cX1_digest 145 = .ok (.aload_n 0, 1) := by decide +kernel
theorem dX1_digest_146 : decode cX1_digest 146 = .ok (.iload_n 3, 1) := by decide +kernel
theorem dX1_digest_147 : decode cX1_digest 147 = .ok (.iload 4, 2) := by decide +kernel
theorem dX1_digest_149 : decode cX1_digest 149 = .ok (.invokevirtual 178, 3) := by decide +kernel
theorem dX1_digest_152 : decode cX1_digest 152 = .ok (.i2l, 1) := by decide +kernel
theorem dX1_digest_153 : decode cX1_digest 153 = .ok (.ladd, 1) := by decide +kernel
theorem dX1_digest_154 : decode cX1_digest 154 = .ok (.lstore_n 1, 1) := by decide +kernel
theorem dX1_digest_155 : decode cX1_digest 155 = .ok (.iinc 4 1, 3) := by decide +kernel
theorem dX1_digest_158 : decode cX1_digest 158 = .ok (.goto (-24), 3) := by decide +kernel
theorem dX1_digest_161 : decode cX1_digest 161 = .ok (.iinc 3 1, 3) := by decide +kernel
theorem dX1_digest_164 : decode cX1_digest 164 = .ok (.goto (-41), 3) := by decide +kernel
theorem dX1_digest_167 : decode cX1_digest 167 = .ok (.lload_n 1, 1) := by decide +kernel
theorem dX1_digest_168 : decode cX1_digest 168 = .ok (.lreturn, 1) := by decide +kernel
set_option maxRecDepth 20000 in
theorem ggX1_needRoom_X1_needIndex : GoodIn wsX1_needRoom wsX1_needIndex := goodIn_ca (goodIn_r _ [5, 6, 7] (by decide +kernel) (by decide +kernel)) (goodIn_sub (fun _ h => List.mem_cons_of_mem _ (List.mem_append_right _ h)) (by decide +kernel))
set_option maxRecDepth 20000 in
theorem gX1_needRoom_X1_needIndex : GoodIn wsX1_needRoom (va_wsS RX1 57 yX1_needIndex wsX1_needIndex) := goodIn_app (goodIn_of _ (by decide +kernel)) ggX1_needRoom_X1_needIndex
theorem dX1_needRoom_0 : decode cX1_needRoom 0 = .ok (.iload_n 1, 1) := by decide +kernel
theorem dX1_needRoom_1 : decode cX1_needRoom 1 = .ok (.aload_n 0, 1) := by decide +kernel
theorem dX1_needRoom_2 : decode cX1_needRoom 2 = .ok (.getfield 50, 3) := by decide +kernel
theorem dX1_needRoom_5 : decode cX1_needRoom 5 = .ok (.invokestatic 57, 3) := by decide +kernel
theorem dX1_needRoom_8 : decode cX1_needRoom 8 = .ok (.return_, 1) := by decide +kernel
set_option maxRecDepth 20000 in
theorem ggX1_needRing_X1_needIndex : GoodIn wsX1_needRing wsX1_needIndex := goodIn_ca (goodIn_r _ [5, 6, 7] (by decide +kernel) (by decide +kernel)) (goodIn_sub (fun _ h => List.mem_cons_of_mem _ (List.mem_append_right _ h)) (by decide +kernel))
set_option maxRecDepth 20000 in
theorem gX1_needRing_X1_needIndex : GoodIn wsX1_needRing (va_wsS RX1 57 yX1_needIndex wsX1_needIndex) := goodIn_app (goodIn_of _ (by decide +kernel)) ggX1_needRing_X1_needIndex
theorem dX1_needRing_0 : decode cX1_needRing 0 = .ok (.iload_n 1, 1) := by decide +kernel
theorem dX1_needRing_1 : decode cX1_needRing 1 = .ok (.aload_n 0, 1) := by decide +kernel
theorem dX1_needRing_2 : decode cX1_needRing 2 = .ok (.getfield 149, 3) := by decide +kernel
theorem dX1_needRing_5 : decode cX1_needRing 5 = .ok (.iconst 1, 1) := by decide +kernel
theorem dX1_needRing_6 : decode cX1_needRing 6 = .ok (.iadd, 1) := by decide +kernel
theorem dX1_needRing_7 : decode cX1_needRing 7 = .ok (.invokestatic 57, 3) := by decide +kernel
theorem dX1_needRing_10 : decode cX1_needRing 10 = .ok (.return_, 1) := by decide +kernel
theorem dX1_needIndex_0 : decode cX1_needIndex 0 = .ok (.iload_n 0, 1) := by decide +kernel
theorem dX1_needIndex_1 : decode cX1_needIndex 1 = .ok (.ifCond .lt 8, 3) := by decide +kernel
theorem dX1_needIndex_4 : decode cX1_needIndex 4 = .ok (.iload_n 0, 1) := by decide +kernel
theorem dX1_needIndex_5 : decode cX1_needIndex 5 = .ok (.iload_n 1, 1) := by decide +kernel
theorem dX1_needIndex_6 : decode cX1_needIndex 6 = .ok (.if_icmp .lt 11, 3) := by decide +kernel
theorem dX1_needIndex_9 : decode cX1_needIndex 9 = .ok (.new 181, 3) := by decide +kernel
theorem dX1_needIndex_12 : decode cX1_needIndex 12 = .ok (.dup, 1) := by decide +kernel
theorem dX1_needIndex_13 : decode cX1_needIndex 13 = .ok (.invokespecial 183, 3) := by decide +kernel
theorem dX1_needIndex_16 : decode cX1_needIndex 16 = .ok (.athrow, 1) := by decide +kernel
theorem dX1_needIndex_17 : decode cX1_needIndex 17 = .ok (.return_, 1) := by decide +kernel
theorem dX1_needNumber_0 : decode cX1_needNumber 0 = .ok (.iload_n 0, 1) := by decide +kernel
theorem dX1_needNumber_1 : decode cX1_needNumber 1 = .ok (.iload_n 1, 1) := by decide +kernel
theorem dX1_needNumber_2 : decode cX1_needNumber 2 = .ok (.if_icmp .lt 8, 3) := by decide +kernel
theorem dX1_needNumber_5 : decode cX1_needNumber 5 = .ok (.iload_n 0, 1) := by decide +kernel
theorem dX1_needNumber_6 : decode cX1_needNumber 6 = .ok (.iload_n 2, 1) := by decide +kernel
theorem dX1_needNumber_7 : decode cX1_needNumber 7 = .ok (.if_icmp .le 11, 3) := by decide +kernel
theorem dX1_needNumber_10 : decode cX1_needNumber 10 = .ok (.new 184, 3) := by decide +kernel
theorem dX1_needNumber_13 : decode cX1_needNumber 13 = .ok (.dup, 1) := by decide +kernel
theorem dX1_needNumber_14 : decode cX1_needNumber 14 = .ok (.invokespecial 186, 3) := by decide +kernel
theorem dX1_needNumber_17 : decode cX1_needNumber 17 = .ok (.athrow, 1) := by decide +kernel
theorem dX1_needNumber_18 : decode cX1_needNumber 18 = .ok (.return_, 1) := by decide +kernel
set_option maxRecDepth 20000 in
theorem ggX1_needDoor_X1_needRoom : GoodIn wsX1_needDoor wsX1_needRoom := goodIn_ca (goodIn_r _ [7, 8, 9, 10, 6, 11, 12, 13, 31, 32, 33, 34, 35, 36, 37, 38, 39, 40, 41] (by decide +kernel) (by decide +kernel)) (goodIn_sub (fun _ h => List.mem_cons_of_mem _ (List.mem_append_right _ h)) (by decide +kernel))
set_option maxRecDepth 20000 in
theorem gX1_needDoor_X1_needRoom : GoodIn wsX1_needDoor (wsV RX1 54 RX1 yX1_needRoom wsX1_needRoom) := goodIn_app (goodIn_of _ (by decide +kernel)) ggX1_needDoor_X1_needRoom
set_option maxRecDepth 20000 in
theorem ggX1_needDoor_X1_needIndex : GoodIn wsX1_needDoor wsX1_needIndex := goodIn_ca (goodIn_r _ [11, 12, 13] (by decide +kernel) (by decide +kernel)) (goodIn_sub (fun _ h => List.mem_cons_of_mem _ (List.mem_append_right _ h)) (by decide +kernel))
set_option maxRecDepth 20000 in
theorem gX1_needDoor_X1_needIndex : GoodIn wsX1_needDoor (va_wsS RX1 57 yX1_needIndex wsX1_needIndex) := goodIn_app (goodIn_of _ (by decide +kernel)) ggX1_needDoor_X1_needIndex
set_option maxRecDepth 20000 in
theorem ggX1_needDoor_X1_neighbour : GoodIn wsX1_needDoor wsX1_neighbour := goodIn_r _ [17, 18, 19, 20, 21, 22, 23, 24, 25, 6, 26, 27, 28, 29, 30, 8, 31, 32, 33, 34, 35, 36, 37, 38, 39, 40, 41, 42, 43, 44, 45, 46] (by decide +kernel) (by decide +kernel)
set_option maxRecDepth 20000 in
theorem gX1_needDoor_X1_neighbour : GoodIn wsX1_needDoor (wsV RX1 117 RX1 yX1_neighbour wsX1_neighbour) := goodIn_app (goodIn_of _ (by decide +kernel)) ggX1_needDoor_X1_neighbour
theorem dX1_needDoor_0 : decode cX1_needDoor 0 = .ok (.aload_n 0, 1) := by decide +kernel
theorem dX1_needDoor_1 : decode cX1_needDoor 1 = .ok (.iload_n 1, 1) := by decide +kernel
theorem dX1_needDoor_2 : decode cX1_needDoor 2 = .ok (.invokevirtual 54, 3) := by decide +kernel
theorem dX1_needDoor_5 : decode cX1_needDoor 5 = .ok (.iload_n 2, 1) := by decide +kernel
theorem dX1_needDoor_6 : decode cX1_needDoor 6 = .ok (.bipush 6, 2) := by decide +kernel
theorem dX1_needDoor_8 : decode cX1_needDoor 8 = .ok (.invokestatic 57, 3) := by decide +kernel
theorem dX1_needDoor_11 : decode cX1_needDoor 11 = .ok (.aload_n 0, 1) := by decide +kernel
theorem dX1_needDoor_12 : decode cX1_needDoor 12 = .ok (.iload_n 1, 1) := by decide +kernel
theorem dX1_needDoor_13 : decode cX1_needDoor 13 = .ok (.iload_n 2, 1) := by decide +kernel
theorem dX1_needDoor_14 : decode cX1_needDoor 14 = .ok (.invokevirtual 117, 3) := by decide +kernel
theorem dX1_needDoor_17 : decode cX1_needDoor 17 = .ok (.istore_n 3, 1) := by decide +kernel
theorem dX1_needDoor_18 : decode cX1_needDoor 18 = .ok (.iload_n 3, 1) := by decide +kernel
theorem dX1_needDoor_19 : decode cX1_needDoor 19 = .ok (.iconst (-1), 1) := by decide +kernel
theorem dX1_needDoor_20 : decode cX1_needDoor 20 = .ok (.if_icmp .ne 11, 3) := by decide +kernel
theorem dX1_needDoor_23 : decode cX1_needDoor 23 = .ok (.new 187, 3) := by decide +kernel
theorem dX1_needDoor_26 : decode cX1_needDoor 26 = .ok (.dup, 1) := by decide +kernel
theorem dX1_needDoor_27 : decode cX1_needDoor 27 = .ok (.invokespecial 189, 3) := by decide +kernel
theorem dX1_needDoor_30 : decode cX1_needDoor 30 = .ok (.athrow, 1) := by decide +kernel
theorem dX1_needDoor_31 : decode cX1_needDoor 31 = .ok (.iload_n 3, 1) := by decide +kernel
theorem dX1_needDoor_32 : decode cX1_needDoor 32 = .ok (.ireturn, 1) := by decide +kernel
set_option maxRecDepth 20000 in
theorem ggX1_build_X0_firstRoomOf : GoodIn wsX1_build wsX0_firstRoomOf := goodIn_r _ [9] (by decide +kernel) (by decide +kernel)
set_option maxRecDepth 20000 in
theorem gX1_build_X0_firstRoomOf : GoodIn wsX1_build (va_wsS RX1 83 yX0_firstRoomOf wsX0_firstRoomOf) := goodIn_app (goodIn_of _ (by decide +kernel)) ggX1_build_X0_firstRoomOf
set_option maxRecDepth 20000 in
theorem ggX1_build_J7_fill_53178 : GoodIn wsX1_build wsJ7_fill_53178 := goodIn_r _ [13] (by decide +kernel) (by decide +kernel)
set_option maxRecDepth 20000 in
theorem gX1_build_J7_fill_53178 : GoodIn wsX1_build (va_wsS RX1 190 yJ7_fill_53178 wsJ7_fill_53178) := goodIn_app (goodIn_of _ (by decide +kernel)) ggX1_build_J7_fill_53178
theorem dX1_build_0 : decode cX1_build 0 = .ok (.aload_n 0, 1) := by decide +kernel
theorem dX1_build_1 : decode cX1_build 1 = .ok (.iload_n 1, 1) := by decide +kernel
theorem dX1_build_2 : decode cX1_build 2 = .ok (.putfield 149, 3) := by decide +kernel
theorem dX1_build_5 : decode cX1_build 5 = .ok (.aload_n 0, 1) := by decide +kernel
theorem dX1_build_6 : decode cX1_build 6 = .ok (.iload_n 1, 1) := by decide +kernel
theorem dX1_build_7 : decode cX1_build 7 = .ok (.iconst 1, 1) := by decide +kernel
theorem dX1_build_8 : decode cX1_build 8 = .ok (.iadd, 1) := by decide +kernel
theorem dX1_build_9 : decode cX1_build 9 = .ok (.invokestatic 83, 3) := by decide +kernel
theorem dX1_build_12 : decode cX1_build 12 = .ok (.putfield 50, 3) := by decide +kernel
theorem dX1_build_15 : decode cX1_build 15 = .ok (.aload_n 0, 1) := by decide +kernel
theorem dX1_build_16 : decode cX1_build 16 = .ok (.getfield 16, 3) := by decide +kernel
theorem dX1_build_19 : decode cX1_build 19 = .ok (.iconst 0, 1) := by decide +kernel
theorem dX1_build_20 : decode cX1_build 20 = .ok (.invokestatic 190, 3) := by decide +kernel
theorem dX1_build_23 : decode cX1_build 23 = .ok (.iconst 0, 1) := by decide +kernel
theorem dX1_build_24 : decode cX1_build 24 = .ok (.istore_n 2, 1) := by decide +kernel
theorem dX1_build_25 : decode cX1_build 25 = .ok (.iload_n 2, 1) := by decide +kernel
theorem dX1_build_26 : decode cX1_build 26 = .ok (.aload_n 0, 1) := by decide +kernel
theorem dX1_build_27 : decode cX1_build 27 = .ok (.getfield 20, 3) := by decide +kernel
theorem dX1_build_30 : decode cX1_build 30 = .ok (.arraylength, 1) := by decide +kernel
theorem dX1_build_31 : decode cX1_build 31 = .ok (.if_icmp .ge 16, 3) := by decide +kernel
theorem dX1_build_34 : decode cX1_build 34 = .ok (.aload_n 0, 1) := by decide +kernel
theorem dX1_build_35 : decode cX1_build 35 = .ok (.getfield 20, 3) := by decide +kernel
theorem dX1_build_38 : decode cX1_build 38 = .ok (.iload_n 2, 1) := by decide +kernel
theorem dX1_build_39 : decode cX1_build 39 = .ok (.iconst 0, 1) := by decide +kernel
theorem dX1_build_40 : decode cX1_build 40 = .ok (.bastore, 1) := by decide +kernel
theorem dX1_build_41 : decode cX1_build 41 = .ok (.iinc 2 1, 3) := by decide +kernel
theorem dX1_build_44 : decode cX1_build 44 = .ok (.goto (-19), 3) := by decide +kernel
theorem dX1_build_47 : decode cX1_build 47 = .ok (.aload_n 0, 1) := by decide +kernel
theorem dX1_build_48 : decode cX1_build 48 = .ok (.getfield 24, 3) := by decide +kernel
theorem dX1_build_51 : decode cX1_build 51 = .ok (.iconst 0, 1) := by decide +kernel
theorem dX1_build_52 : decode cX1_build 52 = .ok (.invokestatic 190, 3) := by decide +kernel
theorem dX1_build_55 : decode cX1_build 55 = .ok (.return_, 1) := by decide +kernel
theorem dX1_orNone_0 : decode cX1_orNone 0 = .ok (.iload_n 1, 1) := by decide +kernel
theorem dX1_orNone_1 : decode cX1_orNone 1 = .ok (.aload_n 0, 1) := by decide +kernel
theorem dX1_orNone_2 : decode cX1_orNone 2 = .ok (.getfield 50, 3) := by decide +kernel
theorem dX1_orNone_5 : decode cX1_orNone 5 = .ok (.if_icmp .ge 7, 3) := by decide +kernel
theorem dX1_orNone_8 : decode cX1_orNone 8 = .ok (.iload_n 1, 1) := by decide +kernel
theorem dX1_orNone_9 : decode cX1_orNone 9 = .ok (.goto 4, 3) := by decide +kernel
theorem dX1_orNone_12 : decode cX1_orNone 12 = .ok (.iconst (-1), 1) := by decide +kernel
theorem dX1_orNone_13 : decode cX1_orNone 13 = .ok (.ireturn, 1) := by decide +kernel
set_option maxRecDepth 20000 in
theorem ggX1_neighbour_X0_nextTo : GoodIn wsX1_neighbour wsX0_nextTo := goodIn_r _ [6, 7, 8, 9, 10, 27, 28, 29, 30, 31] (by decide +kernel) (by decide +kernel)
set_option maxRecDepth 20000 in
theorem gX1_neighbour_X0_nextTo : GoodIn wsX1_neighbour (wsV RX1 196 RX0 yX0_nextTo wsX0_nextTo) := goodIn_app (goodIn_of _ (by decide +kernel)) ggX1_neighbour_X0_nextTo
set_option maxRecDepth 20000 in
theorem ggX1_neighbour_X1_orNone : GoodIn wsX1_neighbour wsX1_orNone := goodIn_r _ [14, 15, 16, 17, 18, 19, 20, 21, 22, 23, 24, 25, 26] (by decide +kernel) (by decide +kernel)
set_option maxRecDepth 20000 in
theorem gX1_neighbour_X1_orNone : GoodIn wsX1_neighbour (wsV RX1 102 RX1 yX1_orNone wsX1_orNone) := goodIn_app (goodIn_of _ (by decide +kernel)) ggX1_neighbour_X1_orNone
theorem dX1_neighbour_0 : decode cX1_neighbour 0 = .ok (.aload_n 0, 1) := by decide +kernel
theorem dX1_neighbour_1 : decode cX1_neighbour 1 = .ok (.aload_n 0, 1) := by decide +kernel
theorem dX1_neighbour_2 : decode cX1_neighbour 2 = .ok (.getfield 12, 3) := by decide +kernel
theorem dX1_neighbour_5 : decode cX1_neighbour 5 = .ok (.iload_n 1, 1) := by decide +kernel
theorem dX1_neighbour_6 : decode cX1_neighbour 6 = .ok (.iload_n 2, 1) := by decide +kernel
theorem dX1_neighbour_7 : decode cX1_neighbour 7 = .ok (.invokevirtual 196, 3) := by decide +kernel
theorem dX1_neighbour_10 : decode cX1_neighbour 10 = .ok (.invokevirtual 102, 3) := by decide +kernel
theorem dX1_neighbour_13 : decode cX1_neighbour 13 = .ok (.ireturn, 1) := by decide +kernel
theorem dX1_opposite_0 : decode cX1_opposite 0 = .ok (.iload_n 0, 1) := by decide +kernel
theorem dX1_opposite_1 : decode cX1_opposite 1 = .ok (.iconst 3, 1) := by decide +kernel
theorem dX1_opposite_2 : decode cX1_opposite 2 = .ok (.iadd, 1) := by decide +kernel
theorem dX1_opposite_3 : decode cX1_opposite 3 = .ok (.bipush 6, 2) := by decide +kernel
theorem dX1_opposite_5 : decode cX1_opposite 5 = .ok (.irem, 1) := by decide +kernel
theorem dX1_opposite_6 : decode cX1_opposite 6 = .ok (.ireturn, 1) := by decide +kernel
theorem dX1_doorOf_0 : decode cX1_doorOf 0 = .ok (.iload_n 0, 1) := by decide +kernel
theorem dX1_doorOf_1 : decode cX1_doorOf 1 = .ok (.bipush 6, 2) := by decide +kernel
theorem dX1_doorOf_3 : decode cX1_doorOf 3 = .ok (.imul, 1) := by decide +kernel
theorem dX1_doorOf_4 : decode cX1_doorOf 4 = .ok (.iload_n 1, 1) := by decide +kernel
theorem dX1_doorOf_5 : decode cX1_doorOf 5 = .ok (.iadd, 1) := by decide +kernel
theorem dX1_doorOf_6 : decode cX1_doorOf 6 = .ok (.ireturn, 1) := by decide +kernel
set_option maxRecDepth 20000 in
theorem ggX1_onward_X1_neighbour : GoodIn wsX1_onward wsX1_neighbour := goodIn_r _ [6, 7, 8, 9, 10, 11, 12, 13, 14, 5, 15, 16, 17, 18, 19, 20, 22, 23, 24, 25, 26, 27, 28, 29, 30, 31, 32, 33, 34, 35, 36, 37] (by decide +kernel) (by decide +kernel)
set_option maxRecDepth 20000 in
theorem gX1_onward_X1_neighbour : GoodIn wsX1_onward (wsV RX1 117 RX1 yX1_neighbour wsX1_neighbour) := goodIn_app (goodIn_of _ (by decide +kernel)) ggX1_onward_X1_neighbour
set_option maxRecDepth 20000 in
theorem ggX1_onward_X1_doorOf : GoodIn wsX1_onward wsX1_doorOf := goodIn_r _ [15] (by decide +kernel) (by decide +kernel)
set_option maxRecDepth 20000 in
theorem gX1_onward_X1_doorOf : GoodIn wsX1_onward (va_wsS RX1 69 yX1_doorOf wsX1_doorOf) := goodIn_app (goodIn_of _ (by decide +kernel)) ggX1_onward_X1_doorOf
theorem dX1_onward_0 : decode cX1_onward 0 = .ok (.aload_n 0, 1) := by decide +kernel
theorem dX1_onward_1 : decode cX1_onward 1 = .ok (.iload_n 2, 1) := by decide +kernel
theorem dX1_onward_2 : decode cX1_onward 2 = .ok (.iload_n 3, 1) := by decide +kernel
theorem dX1_onward_3 : decode cX1_onward 3 = .ok (.invokevirtual 117, 3) := by decide +kernel
theorem dX1_onward_6 : decode cX1_onward 6 = .ok (.istore 4, 2) := by decide +kernel
theorem dX1_onward_8 : decode cX1_onward 8 = .ok (.iload 4, 2) := by decide +kernel
theorem dX1_onward_10 : decode cX1_onward 10 = .ok (.iconst (-1), 1) := by decide +kernel
theorem dX1_onward_11 : decode cX1_onward 11 = .ok (.if_icmp .eq 24, 3) := by decide +kernel
theorem dX1_onward_14 : decode cX1_onward 14 = .ok (.aload_n 0, 1) := by decide +kernel
theorem dX1_onward_15 : decode cX1_onward 15 = .ok (.getfield 20, 3) := by decide +kernel
theorem dX1_onward_18 : decode cX1_onward 18 = .ok (.iload_n 2, 1) := by decide +kernel
theorem dX1_onward_19 : decode cX1_onward 19 = .ok (.iload_n 3, 1) := by decide +kernel
theorem dX1_onward_20 : decode cX1_onward 20 = .ok (.invokestatic 69, 3) := by decide +kernel
theorem dX1_onward_23 : decode cX1_onward 23 = .ok (.baload, 1) := by decide +kernel
theorem dX1_onward_24 : decode cX1_onward 24 = .ok (.ifCond .ne 11, 3) := by decide +kernel
theorem dX1_onward_27 : decode cX1_onward 27 = .ok (.aload_n 1, 1) := by decide +kernel
theorem dX1_onward_28 : decode cX1_onward 28 = .ok (.iload 4, 2) := by decide +kernel
theorem dX1_onward_30 : decode cX1_onward 30 = .ok (.iaload, 1) := by decide +kernel
theorem dX1_onward_31 : decode cX1_onward 31 = .ok (.iconst 1, 1) := by decide +kernel
theorem dX1_onward_32 : decode cX1_onward 32 = .ok (.if_icmp .ne 5, 3) := by decide +kernel
theorem dX1_onward_35 : decode cX1_onward 35 = .ok (.iconst (-1), 1) := by decide +kernel
theorem dX1_onward_36 : decode cX1_onward 36 = .ok (.ireturn, 1) := by decide +kernel
theorem dX1_onward_37 : decode cX1_onward 37 = .ok (.iload 4, 2) := by decide +kernel
theorem dX1_onward_39 : decode cX1_onward 39 = .ok (.ireturn, 1) := by decide +kernel
set_option maxRecDepth 20000 in
theorem ggX1_sidesOnward_X1_onward : GoodIn wsX1_sidesOnward wsX1_onward := goodIn_r _ [6, 7, 8, 9, 10, 5, 11, 12, 13, 14, 15, 16, 17, 18, 19, 20, 21, 22, 23, 24, 25, 26, 27, 28, 29, 30, 31, 32, 33, 34, 35, 36, 37, 38, 39, 40, 41, 42] (by decide +kernel) (by decide +kernel)
set_option maxRecDepth 20000 in
theorem gX1_sidesOnward_X1_onward : GoodIn wsX1_sidesOnward (wsV RX1 132 RX1 yX1_onward wsX1_onward) := goodIn_app (goodIn_of _ (by decide +kernel)) ggX1_sidesOnward_X1_onward
theorem dX1_sidesOnward_0 : decode cX1_sidesOnward 0 = .ok (.iconst 0, 1) := by decide +kernel
theorem dX1_sidesOnward_1 : decode cX1_sidesOnward 1 = .ok (.istore_n 2, 1) := by decide +kernel
theorem dX1_sidesOnward_2 : decode cX1_sidesOnward 2 = .ok (.iconst 0, 1) := by decide +kernel
theorem dX1_sidesOnward_3 : decode cX1_sidesOnward 3 = .ok (.istore_n 3, 1) := by decide +kernel
theorem dX1_sidesOnward_4 : decode cX1_sidesOnward 4 = .ok (.iload_n 3, 1) := by decide +kernel
theorem dX1_sidesOnward_5 : decode cX1_sidesOnward 5 = .ok (.bipush 6, 2) := by decide +kernel
theorem dX1_sidesOnward_7 : decode cX1_sidesOnward 7 = .ok (.if_icmp .ge 26, 3) := by decide +kernel
theorem dX1_sidesOnward_10 : decode cX1_sidesOnward 10 = .ok (.aload_n 0, 1) := by decide +kernel
theorem dX1_sidesOnward_11 : decode cX1_sidesOnward 11 = .ok (.aload_n 0, 1) := by decide +kernel
theorem dX1_sidesOnward_12 : decode cX1_sidesOnward 12 = .ok (.getfield 16, 3) := by decide +kernel
theorem dX1_sidesOnward_15 : decode cX1_sidesOnward 15 = .ok (.iload_n 1, 1) := by decide +kernel
theorem dX1_sidesOnward_16 : decode cX1_sidesOnward 16 = .ok (.iload_n 3, 1) := by decide +kernel
theorem dX1_sidesOnward_17 : decode cX1_sidesOnward 17 = .ok (.invokevirtual 132, 3) := by decide +kernel
theorem dX1_sidesOnward_20 : decode cX1_sidesOnward 20 = .ok (.iconst (-1), 1) := by decide +kernel
theorem dX1_sidesOnward_21 : decode cX1_sidesOnward 21 = .ok (.if_icmp .eq 6, 3) := by decide +kernel
theorem dX1_sidesOnward_24 : decode cX1_sidesOnward 24 = .ok (.iinc 2 1, 3) := by decide +kernel
theorem dX1_sidesOnward_27 : decode cX1_sidesOnward 27 = .ok (.iinc 3 1, 3) := by decide +kernel
theorem dX1_sidesOnward_30 : decode cX1_sidesOnward 30 = .ok (.goto (-26), 3) := by decide +kernel
theorem dX1_sidesOnward_33 : decode cX1_sidesOnward 33 = .ok (.iload_n 2, 1) := by decide +kernel
theorem dX1_sidesOnward_34 : decode cX1_sidesOnward 34 = .ok (.ireturn, 1) := by decide +kernel
theorem dX1_standing_0 : decode cX1_standing 0 = .ok (.iconst 0, 1) := by decide +kernel
theorem dX1_standing_1 : decode cX1_standing 1 = .ok (.istore 4, 2) := by decide +kernel
theorem dX1_standing_3 : decode cX1_standing 3 = .ok (.iload_n 2, 1) := by decide +kernel
theorem dX1_standing_4 : decode cX1_standing 4 = .ok (.istore 5, 2) := by decide +kernel
theorem dX1_standing_6 : decode cX1_standing 6 = .ok (.iload 5, 2) := by decide +kernel
theorem dX1_standing_8 : decode cX1_standing 8 = .ok (.iload_n 3, 1) := by decide +kernel
theorem dX1_standing_9 : decode cX1_standing 9 = .ok (.if_icmp .ge 23, 3) := by decide +kernel
theorem dX1_standing_12 : decode cX1_standing 12 = .ok (.aload_n 0, 1) := by decide +kernel
theorem dX1_standing_13 : decode cX1_standing 13 = .ok (.getfield 16, 3) := by decide +kernel
theorem dX1_standing_16 : decode cX1_standing 16 = .ok (.iload 5, 2) := by decide +kernel
theorem dX1_standing_18 : decode cX1_standing 18 = .ok (.iaload, 1) := by decide +kernel
theorem dX1_standing_19 : decode cX1_standing 19 = .ok (.iload_n 1, 1) := by decide +kernel
theorem dX1_standing_20 : decode cX1_standing 20 = .ok (.if_icmp .ne 6, 3) := by decide +kernel
theorem dX1_standing_23 : decode cX1_standing 23 = .ok (.iinc 4 1, 3) := by decide +kernel
theorem dX1_standing_26 : decode cX1_standing 26 = .ok (.iinc 5 1, 3) := by decide +kernel
theorem dX1_standing_29 : decode cX1_standing 29 = .ok (.goto (-23), 3) := by decide +kernel
theorem dX1_standing_32 : decode cX1_standing 32 = .ok (.iload 4, 2) := by decide +kernel
theorem dX1_standing_34 : decode cX1_standing 34 = .ok (.ireturn, 1) := by decide +kernel
theorem dX1_litAmong_0 : decode cX1_litAmong 0 = .ok (.iconst 0, 1) := by decide +kernel
theorem dX1_litAmong_1 : decode cX1_litAmong 1 = .ok (.istore_n 3, 1) := by decide +kernel
theorem dX1_litAmong_2 : decode cX1_litAmong 2 = .ok (.iload_n 1, 1) := by decide +kernel
theorem dX1_litAmong_3 : decode cX1_litAmong 3 = .ok (.istore 4, 2) := by decide +kernel
theorem dX1_litAmong_5 : decode cX1_litAmong 5 = .ok (.iload 4, 2) := by decide +kernel
theorem dX1_litAmong_7 : decode cX1_litAmong 7 = .ok (.iload_n 2, 1) := by decide +kernel
theorem dX1_litAmong_8 : decode cX1_litAmong 8 = .ok (.if_icmp .ge 19, 3) := by decide +kernel
theorem dX1_litAmong_11 : decode cX1_litAmong 11 = .ok (.aload_n 0, 1) := by decide +kernel
theorem dX1_litAmong_12 : decode cX1_litAmong 12 = .ok (.iload 4, 2) := by decide +kernel
theorem dX1_litAmong_14 : decode cX1_litAmong 14 = .ok (.iaload, 1) := by decide +kernel
theorem dX1_litAmong_15 : decode cX1_litAmong 15 = .ok (.ifCond .le 6, 3) := by decide +kernel
theorem dX1_litAmong_18 : decode cX1_litAmong 18 = .ok (.iinc 3 1, 3) := by decide +kernel
theorem dX1_litAmong_21 : decode cX1_litAmong 21 = .ok (.iinc 4 1, 3) := by decide +kernel
theorem dX1_litAmong_24 : decode cX1_litAmong 24 = .ok (.goto (-19), 3) := by decide +kernel
theorem dX1_litAmong_27 : decode cX1_litAmong 27 = .ok (.iload_n 3, 1) := by decide +kernel
theorem dX1_litAmong_28 : decode cX1_litAmong 28 = .ok (.ireturn, 1) := by decide +kernel
set_option maxRecDepth 20000 in
theorem ggX1_doorsShut_X1_doorOf : GoodIn wsX1_doorsShut wsX1_doorOf := goodIn_r _ [6] (by decide +kernel) (by decide +kernel)
set_option maxRecDepth 20000 in
theorem gX1_doorsShut_X1_doorOf : GoodIn wsX1_doorsShut (va_wsS RX1 69 yX1_doorOf wsX1_doorOf) := goodIn_app (goodIn_of _ (by decide +kernel)) ggX1_doorsShut_X1_doorOf
theorem dX1_doorsShut_0 : decode cX1_doorsShut 0 = .ok (.iconst 0, 1) := by decide +kernel
theorem dX1_doorsShut_1 : decode cX1_doorsShut 1 = .ok (.istore_n 1, 1) := by decide +kernel
theorem dX1_doorsShut_2 : decode cX1_doorsShut 2 = .ok (.iconst 0, 1) := by decide +kernel
theorem dX1_doorsShut_3 : decode cX1_doorsShut 3 = .ok (.istore_n 2, 1) := by decide +kernel
theorem dX1_doorsShut_4 : decode cX1_doorsShut 4 = .ok (.iload_n 2, 1) := by decide +kernel
theorem dX1_doorsShut_5 : decode cX1_doorsShut 5 = .ok (.aload_n 0, 1) := by decide +kernel
theorem dX1_doorsShut_6 : decode cX1_doorsShut 6 = .ok (.getfield 50, 3) := by decide +kernel
theorem dX1_doorsShut_9 : decode cX1_doorsShut 9 = .ok (.if_icmp .ge 38, 3) := by decide +kernel
theorem dX1_doorsShut_12 : decode cX1_doorsShut 12 = .ok (.iconst 0, 1) := by decide +kernel
theorem dX1_doorsShut_13 : decode cX1_doorsShut 13 = .ok (.istore_n 3, 1) := by decide +kernel
theorem dX1_doorsShut_14 : decode cX1_doorsShut 14 = .ok (.iload_n 3, 1) := by decide +kernel
theorem dX1_doorsShut_15 : decode cX1_doorsShut 15 = .ok (.iconst 3, 1) := by decide +kernel
theorem dX1_doorsShut_16 : decode cX1_doorsShut 16 = .ok (.if_icmp .ge 25, 3) := by decide +kernel
theorem dX1_doorsShut_19 : decode cX1_doorsShut 19 = .ok (.aload_n 0, 1) := by decide +kernel
theorem dX1_doorsShut_20 : decode cX1_doorsShut 20 = .ok (.getfield 20, 3) := by decide +kernel
theorem dX1_doorsShut_23 : decode cX1_doorsShut 23 = .ok (.iload_n 2, 1) := by decide +kernel
theorem dX1_doorsShut_24 : decode cX1_doorsShut 24 = .ok (.iload_n 3, 1) := by decide +kernel
theorem dX1_doorsShut_25 : decode cX1_doorsShut 25 = .ok (.invokestatic 69, 3) := by decide +kernel
theorem dX1_doorsShut_28 : decode cX1_doorsShut 28 = .ok (.baload, 1) := by decide +kernel
theorem dX1_doorsShut_29 : decode cX1_doorsShut 29 = .ok (.ifCond .eq 6, 3) := by decide +kernel
theorem dX1_doorsShut_32 : decode cX1_doorsShut 32 = .ok (.iinc 1 1, 3) := by decide +kernel
theorem dX1_doorsShut_35 : decode cX1_doorsShut 35 = .ok (.iinc 3 1, 3) := by decide +kernel
theorem dX1_doorsShut_38 : decode cX1_doorsShut 38 = .ok (.goto (-24), 3) := by decide +kernel
theorem dX1_doorsShut_41 : decode cX1_doorsShut 41 = .ok (.iinc 2 1, 3) := by decide +kernel
theorem dX1_doorsShut_44 : decode cX1_doorsShut 44 = .ok (.goto (-40), 3) := by decide +kernel
theorem dX1_doorsShut_47 : decode cX1_doorsShut 47 = .ok (.iload_n 1, 1) := by decide +kernel
theorem dX1_doorsShut_48 : decode cX1_doorsShut 48 = .ok (.ireturn, 1) := by decide +kernel
set_option maxRecDepth 20000 in
theorem ggX1_parts_X1_forgetSteps : GoodIn wsX1_parts wsX1_forgetSteps := goodIn_r _ [8, 3, 9, 10, 11, 12, 41, 42, 43, 44, 45, 46, 47, 48, 49, 50, 51] (by decide +kernel) (by decide +kernel)
set_option maxRecDepth 20000 in
theorem gX1_parts_X1_forgetSteps : GoodIn wsX1_parts (wsV RX1 136 RX1 yX1_forgetSteps wsX1_forgetSteps) := goodIn_app (goodIn_of _ (by decide +kernel)) ggX1_parts_X1_forgetSteps
set_option maxRecDepth 20000 in
theorem ggX1_parts_X1_spreadFrom : GoodIn wsX1_parts wsX1_spreadFrom := goodIn_r _ [16, 3, 17, 2, 18, 19, 20, 7, 21, 22, 23, 24, 25, 26, 27, 28, 29, 30, 31, 32, 33, 34, 35, 36, 37, 38, 39, 1, 40, 41, 42, 43, 44, 45, 46, 47, 48, 49, 50, 51, 52, 53, 54, 55, 56] (by decide +kernel) (by decide +kernel)
set_option maxRecDepth 20000 in
theorem gX1_parts_X1_spreadFrom : GoodIn wsX1_parts (wsV RX1 139 RX1 yX1_spreadFrom wsX1_spreadFrom) := goodIn_app (goodIn_of _ (by decide +kernel)) ggX1_parts_X1_spreadFrom
theorem dX1_parts_0 : decode cX1_parts 0 = .ok (.aload_n 0, 1) := by decide +kernel
theorem dX1_parts_1 : decode cX1_parts 1 = .ok (.invokevirtual 136, 3) := by decide +kernel
theorem dX1_parts_4 : decode cX1_parts 4 = .ok (.iconst 0, 1) := by decide +kernel
theorem dX1_parts_5 : decode cX1_parts 5 = .ok (.istore_n 1, 1) := by decide +kernel
theorem dX1_parts_6 : decode cX1_parts 6 = .ok (.iconst 0, 1) := by decide +kernel
theorem dX1_parts_7 : decode cX1_parts 7 = .ok (.istore_n 2, 1) := by decide +kernel
theorem dX1_parts_8 : decode cX1_parts 8 = .ok (.iload_n 2, 1) := by decide +kernel
theorem dX1_parts_9 : decode cX1_parts 9 = .ok (.aload_n 0, 1) := by decide +kernel
theorem dX1_parts_10 : decode cX1_parts 10 = .ok (.getfield 50, 3) := by decide +kernel
theorem dX1_parts_13 : decode cX1_parts 13 = .ok (.if_icmp .ge 37, 3) := by decide +kernel
theorem dX1_parts_16 : decode cX1_parts 16 = .ok (.aload_n 0, 1) := by decide +kernel
theorem dX1_parts_17 : decode cX1_parts 17 = .ok (.getfield 16, 3) := by decide +kernel
theorem dX1_parts_20 : decode cX1_parts 20 = .ok (.iload_n 2, 1) := by decide +kernel
theorem dX1_parts_21 : decode cX1_parts 21 = .ok (.iaload, 1) := by decide +kernel
theorem dX1_parts_22 : decode cX1_parts 22 = .ok (.iconst 1, 1) := by decide +kernel
theorem dX1_parts_23 : decode cX1_parts 23 = .ok (.if_icmp .eq 21, 3) := by decide +kernel
theorem dX1_parts_26 : decode cX1_parts 26 = .ok (.aload_n 0, 1) := by decide +kernel
theorem dX1_parts_27 : decode cX1_parts 27 = .ok (.getfield 36, 3) := by decide +kernel
theorem dX1_parts_30 : decode cX1_parts 30 = .ok (.iload_n 2, 1) := by decide +kernel
theorem dX1_parts_31 : decode cX1_parts 31 = .ok (.iaload, 1) := by decide +kernel
theorem dX1_parts_32 : decode cX1_parts 32 = .ok (.iconst (-1), 1) := by decide +kernel
theorem dX1_parts_33 : decode cX1_parts 33 = .ok (.if_icmp .ne 11, 3) := by decide +kernel
theorem dX1_parts_36 : decode cX1_parts 36 = .ok (.iinc 1 1, 3) := by decide +kernel
theorem dX1_parts_39 : decode cX1_parts 39 = .ok (.aload_n 0, 1) := by decide +kernel
theorem dX1_parts_40 : decode cX1_parts 40 = .ok (.iload_n 2, 1) := by decide +kernel
theorem dX1_parts_41 : decode cX1_parts 41 = .ok (.invokevirtual 139, 3) := by decide +kernel
theorem dX1_parts_44 : decode cX1_parts 44 = .ok (.iinc 2 1, 3) := by decide +kernel
theorem dX1_parts_47 : decode cX1_parts 47 = .ok (.goto (-39), 3) := by decide +kernel
theorem dX1_parts_50 : decode cX1_parts 50 = .ok (.iload_n 1, 1) := by decide +kernel
theorem dX1_parts_51 : decode cX1_parts 51 = .ok (.ireturn, 1) := by decide +kernel
set_option maxRecDepth 20000 in
theorem ggX1_relight_X1_shine : GoodIn wsX1_relight wsX1_shine := goodIn_r _ [7, 8, 9, 10, 11, 12, 13, 14, 15, 16, 6, 17, 18, 19, 20, 21, 22, 23, 24, 25, 26, 27, 28, 29, 30, 31, 32, 33, 34, 35, 36, 37, 38, 39, 40, 41, 42, 43, 44, 45, 46, 47, 48, 49, 50, 51, 52, 53, 54, 55, 56, 57, 58, 59] (by decide +kernel) (by decide +kernel)
set_option maxRecDepth 20000 in
theorem gX1_relight_X1_shine : GoodIn wsX1_relight (wsV RX1 199 RX1 yX1_shine wsX1_shine) := goodIn_app (goodIn_of _ (by decide +kernel)) ggX1_relight_X1_shine
theorem dX1_relight_0 : decode cX1_relight 0 = .ok (.aload_n 0, 1) := by decide +kernel
theorem dX1_relight_1 : decode cX1_relight 1 = .ok (.aload_n 0, 1) := by decide +kernel
theorem dX1_relight_2 : decode cX1_relight 2 = .ok (.getfield 16, 3) := by decide +kernel
theorem dX1_relight_5 : decode cX1_relight 5 = .ok (.aload_n 0, 1) := by decide +kernel
theorem dX1_relight_6 : decode cX1_relight 6 = .ok (.getfield 24, 3) := by decide +kernel
theorem dX1_relight_9 : decode cX1_relight 9 = .ok (.invokevirtual 199, 3) := by decide +kernel
theorem dX1_relight_12 : decode cX1_relight 12 = .ok (.ireturn, 1) := by decide +kernel
set_option maxRecDepth 20000 in
theorem ggX1_shine_J7_fill_53178 : GoodIn wsX1_shine wsJ7_fill_53178 := goodIn_r _ [6] (by decide +kernel) (by decide +kernel)
set_option maxRecDepth 20000 in
theorem gX1_shine_J7_fill_53178 : GoodIn wsX1_shine (va_wsS RX1 190 yJ7_fill_53178 wsJ7_fill_53178) := goodIn_app (goodIn_of _ (by decide +kernel)) ggX1_shine_J7_fill_53178
set_option maxRecDepth 20000 in
theorem ggX1_shine_X1_beamFrom : GoodIn wsX1_shine wsX1_beamFrom := goodIn_r _ [11, 2, 12, 13, 14, 10, 15, 16, 17, 18, 19, 20, 21, 22, 23, 24, 25, 26, 27, 28, 29, 30, 31, 32, 33, 1, 34, 38, 39, 40, 41, 42, 43, 44, 45, 46, 47, 48, 49, 50, 51, 52, 53] (by decide +kernel) (by decide +kernel)
set_option maxRecDepth 20000 in
theorem gX1_shine_X1_beamFrom : GoodIn wsX1_shine (wsV RX1 125 RX1 yX1_beamFrom wsX1_beamFrom) := goodIn_app (goodIn_of _ (by decide +kernel)) ggX1_shine_X1_beamFrom
set_option maxRecDepth 20000 in
theorem ggX1_shine_X1_litAmong : GoodIn wsX1_shine wsX1_litAmong := goodIn_r _ [37] (by decide +kernel) (by decide +kernel)
set_option maxRecDepth 20000 in
theorem gX1_shine_X1_litAmong : GoodIn wsX1_shine (va_wsS RX1 146 yX1_litAmong wsX1_litAmong) := goodIn_app (goodIn_of _ (by decide +kernel)) ggX1_shine_X1_litAmong
theorem dX1_shine_0 : decode cX1_shine 0 = .ok (.aload_n 2, 1) := by decide +kernel
theorem dX1_shine_1 : decode cX1_shine 1 = .ok (.iconst 0, 1) := by decide +kernel
theorem dX1_shine_2 : decode cX1_shine 2 = .ok (.invokestatic 190, 3) := by decide +kernel
theorem dX1_shine_5 : decode cX1_shine 5 = .ok (.iconst 0, 1) := by decide +kernel
theorem dX1_shine_6 : decode cX1_shine 6 = .ok (.istore_n 3, 1) := by decide +kernel
theorem dX1_shine_7 : decode cX1_shine 7 = .ok (.iload_n 3, 1) := by decide +kernel
theorem dX1_shine_8 : decode cX1_shine 8 = .ok (.aload_n 0, 1) := by decide +kernel
theorem dX1_shine_9 : decode cX1_shine 9 = .ok (.getfield 50, 3) := by decide +kernel
theorem dX1_shine_12 : decode cX1_shine 12 = .ok (.if_icmp .ge 57, 3) := by decide +kernel
theorem dX1_shine_15 : decode cX1_shine 15 = .ok (.aload_n 1, 1) := by decide +kernel
theorem dX1_shine_16 : decode cX1_shine 16 = .ok (.iload_n 3, 1) := by decide +kernel
theorem dX1_shine_17 : decode cX1_shine 17 = .ok (.iaload, 1) := by decide +kernel
theorem dX1_shine_18 : decode cX1_shine 18 = .ok (.iconst 2, 1) := by decide +kernel
theorem dX1_shine_19 : decode cX1_shine 19 = .ok (.if_icmp .ne 12, 3) := by decide +kernel
theorem dX1_shine_22 : decode cX1_shine 22 = .ok (.aload_n 0, 1) := by decide +kernel
theorem dX1_shine_23 : decode cX1_shine 23 = .ok (.aload_n 1, 1) := by decide +kernel
theorem dX1_shine_24 : decode cX1_shine 24 = .ok (.iload_n 3, 1) := by decide +kernel
theorem dX1_shine_25 : decode cX1_shine 25 = .ok (.invokevirtual 125, 3) := by decide +kernel
theorem dX1_shine_28 : decode cX1_shine 28 = .ok (.goto 4, 3) := by decide +kernel
theorem dX1_shine_31 : decode cX1_shine 31 = .ok (.iconst 0, 1) := by decide +kernel
theorem dX1_shine_32 : decode cX1_shine 32 = .ok (.istore 4, 2) := by decide +kernel
theorem dX1_shine_34 : decode cX1_shine 34 = .ok (.iconst 0, 1) := by decide +kernel
theorem dX1_shine_35 : decode cX1_shine 35 = .ok (.istore 5, 2) := by decide +kernel
theorem dX1_shine_37 : decode cX1_shine 37 = .ok (.iload 5, 2) := by decide +kernel
theorem dX1_shine_39 : decode cX1_shine 39 = .ok (.iload 4, 2) := by decide +kernel
theorem dX1_shine_41 : decode cX1_shine 41 = .ok (.if_icmp .ge 22, 3) := by decide +kernel
theorem dX1_shine_44 : decode cX1_shine 44 = .ok (.aload_n 2, 1) := by decide +kernel
theorem dX1_shine_45 : decode cX1_shine 45 = .ok (.aload_n 0, 1) := by decide +kernel
theorem dX1_shine_46 : decode cX1_shine 46 = .ok (.getfield 33, 3) := by decide +kernel
theorem dX1_shine_49 : decode cX1_shine 49 = .ok (.iload 5, 2) := by decide +kernel
theorem dX1_shine_51 : decode cX1_shine 51 = .ok (.iaload, 1) := by decide +kernel
theorem dX1_shine_52 : decode cX1_shine 52 = .ok (.dup2, 1) := by decide +kernel
theorem dX1_shine_53 : decode cX1_shine 53 = .ok (.iaload, 1) := by decide +kernel
theorem dX1_shine_54 : decode cX1_shine 54 = .ok (.iconst 1, 1) := by decide +kernel
theorem dX1_shine_55 : decode cX1_shine 55 = .ok (.iadd, 1) := by decide +kernel
theorem dX1_shine_56 : decode cX1_shine 56 = .ok (.iastore, 1) := by decide +kernel
theorem dX1_shine_57 : decode cX1_shine 57 = .ok (.iinc 5 1, 3) := by decide +kernel
theorem dX1_shine_60 : decode cX1_shine 60 = .ok (.goto (-23), 3) := by decide +kernel
theorem dX1_shine_63 : decode cX1_shine 63 = .ok (.iinc 3 1, 3) := by decide +kernel
theorem dX1_shine_66 : decode cX1_shine 66 = .ok (.goto (-59), 3) := by decide +kernel
theorem dX1_shine_69 : decode cX1_shine 69 = .ok (.aload_n 2, 1) := by decide +kernel
theorem dX1_shine_70 : decode cX1_shine 70 = .ok (.iconst 0, 1) := by decide +kernel
theorem dX1_shine_71 : decode cX1_shine 71 = .ok (.aload_n 0, 1) := by decide +kernel
theorem dX1_shine_72 : decode cX1_shine 72 = .ok (.getfield 50, 3) := by decide +kernel
theorem dX1_shine_75 : decode cX1_shine 75 = .ok (.invokestatic 146, 3) := by decide +kernel
theorem dX1_shine_78 : decode cX1_shine 78 = .ok (.ireturn, 1) := by decide +kernel
set_option maxRecDepth 20000 in
theorem ggX1_beamFrom_X1_onward : GoodIn wsX1_beamFrom wsX1_onward := goodIn_r _ [6, 7, 8, 9, 10, 5, 11, 12, 13, 14, 15, 16, 17, 18, 19, 20, 21, 22, 23, 24, 25, 26, 27, 28, 29, 30, 31, 32, 33, 34, 35, 36, 37, 38, 39, 40, 41, 42] (by decide +kernel) (by decide +kernel)
set_option maxRecDepth 20000 in
theorem gX1_beamFrom_X1_onward : GoodIn wsX1_beamFrom (wsV RX1 132 RX1 yX1_onward wsX1_onward) := goodIn_app (goodIn_of _ (by decide +kernel)) ggX1_beamFrom_X1_onward
theorem dX1_beamFrom_0 : decode cX1_beamFrom 0 = .ok (.aload_n 0, 1) := by decide +kernel
theorem dX1_beamFrom_1 : decode cX1_beamFrom 1 = .ok (.getfield 33, 3) := by decide +kernel
theorem dX1_beamFrom_4 : decode cX1_beamFrom 4 = .ok (.iconst 0, 1) := by decide +kernel
theorem dX1_beamFrom_5 : decode cX1_beamFrom 5 = .ok (.iload_n 2, 1) := by decide +kernel
theorem dX1_beamFrom_6 : decode cX1_beamFrom 6 = .ok (.iastore, 1) := by decide +kernel
theorem dX1_beamFrom_7 : decode cX1_beamFrom 7 = .ok (.iconst 1, 1) := by decide +kernel
theorem dX1_beamFrom_8 : decode cX1_beamFrom 8 = .ok (.istore_n 3, 1) := by decide +kernel
theorem dX1_beamFrom_9 : decode cX1_beamFrom 9 = .ok (.iconst 0, 1) := by decide +kernel
theorem dX1_beamFrom_10 : decode cX1_beamFrom 10 = .ok (.istore 4, 2) := by decide +kernel
theorem dX1_beamFrom_12 : decode cX1_beamFrom 12 = .ok (.iload 4, 2) := by decide +kernel
theorem dX1_beamFrom_14 : decode cX1_beamFrom 14 = .ok (.bipush 6, 2) := by decide +kernel
theorem dX1_beamFrom_16 : decode cX1_beamFrom 16 = .ok (.if_icmp .ge 56, 3) := by decide +kernel
theorem dX1_beamFrom_19 : decode cX1_beamFrom 19 = .ok (.aload_n 0, 1) := by decide +kernel
theorem dX1_beamFrom_20 : decode cX1_beamFrom 20 = .ok (.aload_n 1, 1) := by decide +kernel
theorem dX1_beamFrom_21 : decode cX1_beamFrom 21 = .ok (.iload_n 2, 1) := by decide +kernel
theorem dX1_beamFrom_22 : decode cX1_beamFrom 22 = .ok (.iload 4, 2) := by decide +kernel
theorem dX1_beamFrom_24 : decode cX1_beamFrom 24 = .ok (.invokevirtual 132, 3) := by decide +kernel
theorem dX1_beamFrom_27 : decode cX1_beamFrom 27 = .ok (.istore 5, 2) := by decide +kernel
theorem dX1_beamFrom_29 : decode cX1_beamFrom 29 = .ok (.iload 5, 2) := by decide +kernel
theorem dX1_beamFrom_31 : decode cX1_beamFrom 31 = .ok (.iconst (-1), 1) := by decide +kernel
theorem dX1_beamFrom_32 : decode cX1_beamFrom 32 = .ok (.if_icmp .eq 34, 3) := by decide +kernel
theorem dX1_beamFrom_35 : decode cX1_beamFrom 35 = .ok (.iload_n 3, 1) := by decide +kernel
theorem dX1_beamFrom_36 : decode cX1_beamFrom 36 = .ok (.bipush 91, 2) := by decide +kernel
theorem dX1_beamFrom_38 : decode cX1_beamFrom 38 = .ok (.if_icmp .ge 28, 3) := by decide +kernel
theorem dX1_beamFrom_41 : decode cX1_beamFrom 41 = .ok (.aload_n 0, 1) := by decide +kernel
theorem dX1_beamFrom_42 : decode cX1_beamFrom 42 = .ok (.getfield 33, 3) := by decide +kernel
theorem dX1_beamFrom_45 : decode cX1_beamFrom 45 = .ok (.iload_n 3, 1) := by decide +kernel
theorem dX1_beamFrom_46 : decode cX1_beamFrom 46 = .ok (.iload 5, 2) := by decide +kernel
theorem dX1_beamFrom_48 : decode cX1_beamFrom 48 = .ok (.iastore, 1) := by decide +kernel
theorem dX1_beamFrom_49 : decode cX1_beamFrom 49 = .ok (.iinc 3 1, 3) := by decide +kernel
theorem dX1_beamFrom_52 : decode cX1_beamFrom 52 = .ok (.aload_n 0, 1) := by decide +kernel
theorem dX1_beamFrom_53 : decode cX1_beamFrom 53 = .ok (.aload_n 1, 1) := by decide +kernel
theorem dX1_beamFrom_54 : decode cX1_beamFrom 54 = .ok (.iload 5, 2) := by decide +kernel
theorem dX1_beamFrom_56 : decode cX1_beamFrom 56 = .ok (.iload 4, 2) := by decide +kernel
theorem dX1_beamFrom_58 : decode cX1_beamFrom 58 = .ok (.invokevirtual 132, 3) := by decide +kernel
theorem dX1_beamFrom_61 : decode cX1_beamFrom 61 = .ok (.istore 5, 2) := by decide +kernel
theorem dX1_beamFrom_63 : decode cX1_beamFrom 63 = .ok (.goto (-34), 3) := by decide +kernel
theorem dX1_beamFrom_66 : decode cX1_beamFrom 66 = .ok (.iinc 4 1, 3) := by decide +kernel
theorem dX1_beamFrom_69 : decode cX1_beamFrom 69 = .ok (.goto (-57), 3) := by decide +kernel
theorem dX1_beamFrom_72 : decode cX1_beamFrom 72 = .ok (.iload_n 3, 1) := by decide +kernel
theorem dX1_beamFrom_73 : decode cX1_beamFrom 73 = .ok (.ireturn, 1) := by decide +kernel
set_option maxRecDepth 20000 in
theorem ggX1_newlyLitFrom_X1_beamFrom : GoodIn wsX1_newlyLitFrom wsX1_beamFrom := goodIn_r _ [8, 3, 9, 10, 11, 7, 12, 13, 14, 15, 16, 17, 18, 19, 20, 21, 22, 23, 24, 25, 26, 27, 28, 29, 30, 31, 32, 33, 34, 35, 36, 37, 38, 39, 40, 41, 42, 43, 44, 45, 46, 47, 48] (by decide +kernel) (by decide +kernel)
set_option maxRecDepth 20000 in
theorem gX1_newlyLitFrom_X1_beamFrom : GoodIn wsX1_newlyLitFrom (wsV RX1 125 RX1 yX1_beamFrom wsX1_beamFrom) := goodIn_app (goodIn_of _ (by decide +kernel)) ggX1_newlyLitFrom_X1_beamFrom
theorem dX1_newlyLitFrom_0 : decode cX1_newlyLitFrom 0 = .ok (.aload_n 0, 1) := by decide +kernel
theorem dX1_newlyLitFrom_1 : decode cX1_newlyLitFrom 1 = .ok (.aload_n 0, 1) := by decide +kernel
theorem dX1_newlyLitFrom_2 : decode cX1_newlyLitFrom 2 = .ok (.getfield 16, 3) := by decide +kernel
theorem dX1_newlyLitFrom_5 : decode cX1_newlyLitFrom 5 = .ok (.iload_n 1, 1) := by decide +kernel
theorem dX1_newlyLitFrom_6 : decode cX1_newlyLitFrom 6 = .ok (.invokevirtual 125, 3) := by decide +kernel
theorem dX1_newlyLitFrom_9 : decode cX1_newlyLitFrom 9 = .ok (.istore_n 2, 1) := by decide +kernel
theorem dX1_newlyLitFrom_10 : decode cX1_newlyLitFrom 10 = .ok (.iconst 0, 1) := by decide +kernel
theorem dX1_newlyLitFrom_11 : decode cX1_newlyLitFrom 11 = .ok (.istore_n 3, 1) := by decide +kernel
theorem dX1_newlyLitFrom_12 : decode cX1_newlyLitFrom 12 = .ok (.iconst 0, 1) := by decide +kernel
theorem dX1_newlyLitFrom_13 : decode cX1_newlyLitFrom 13 = .ok (.istore 4, 2) := by decide +kernel
theorem dX1_newlyLitFrom_15 : decode cX1_newlyLitFrom 15 = .ok (.iload 4, 2) := by decide +kernel
theorem dX1_newlyLitFrom_17 : decode cX1_newlyLitFrom 17 = .ok (.iload_n 2, 1) := by decide +kernel
theorem dX1_newlyLitFrom_18 : decode cX1_newlyLitFrom 18 = .ok (.if_icmp .ge 27, 3) := by decide +kernel
theorem dX1_newlyLitFrom_21 : decode cX1_newlyLitFrom 21 = .ok (.aload_n 0, 1) := by decide +kernel
theorem dX1_newlyLitFrom_22 : decode cX1_newlyLitFrom 22 = .ok (.getfield 24, 3) := by decide +kernel
theorem dX1_newlyLitFrom_25 : decode cX1_newlyLitFrom 25 = .ok (.aload_n 0, 1) := by decide +kernel
theorem dX1_newlyLitFrom_26 : decode cX1_newlyLitFrom 26 = .ok (.getfield 33, 3) := by decide +kernel
theorem dX1_newlyLitFrom_29 : decode cX1_newlyLitFrom 29 = .ok (.iload 4, 2) := by decide +kernel
theorem dX1_newlyLitFrom_31 : decode cX1_newlyLitFrom 31 = .ok (.iaload, 1) := by decide +kernel
theorem dX1_newlyLitFrom_32 : decode cX1_newlyLitFrom 32 = .ok (.iaload, 1) := by decide +kernel
theorem dX1_newlyLitFrom_33 : decode cX1_newlyLitFrom 33 = .ok (.ifCond .ne 6, 3) := by decide +kernel
theorem dX1_newlyLitFrom_36 : decode cX1_newlyLitFrom 36 = .ok (.iinc 3 1, 3) := by decide +kernel
theorem dX1_newlyLitFrom_39 : decode cX1_newlyLitFrom 39 = .ok (.iinc 4 1, 3) := by decide +kernel
theorem dX1_newlyLitFrom_42 : decode cX1_newlyLitFrom 42 = .ok (.goto (-27), 3) := by decide +kernel
theorem dX1_newlyLitFrom_45 : decode cX1_newlyLitFrom 45 = .ok (.iload_n 3, 1) := by decide +kernel
theorem dX1_newlyLitFrom_46 : decode cX1_newlyLitFrom 46 = .ok (.ireturn, 1) := by decide +kernel
set_option maxRecDepth 20000 in
theorem ggX1_stepsBetween_X1_forgetSteps : GoodIn wsX1_stepsBetween wsX1_forgetSteps := goodIn_r _ [6, 1, 7, 8, 9, 10, 41, 42, 43, 44, 45, 46, 47, 48, 49, 50, 51] (by decide +kernel) (by decide +kernel)
set_option maxRecDepth 20000 in
theorem gX1_stepsBetween_X1_forgetSteps : GoodIn wsX1_stepsBetween (wsV RX1 136 RX1 yX1_forgetSteps wsX1_forgetSteps) := goodIn_app (goodIn_of _ (by decide +kernel)) ggX1_stepsBetween_X1_forgetSteps
set_option maxRecDepth 20000 in
theorem ggX1_stepsBetween_X1_spreadFrom : GoodIn wsX1_stepsBetween wsX1_spreadFrom := goodIn_r _ [14, 1, 15, 16, 17, 18, 19, 5, 20, 21, 22, 23, 24, 25, 26, 27, 28, 29, 30, 31, 32, 33, 34, 35, 36, 37, 38, 39, 40, 41, 42, 43, 44, 45, 46, 47, 48, 49, 50, 51, 52, 53, 54, 55, 56] (by decide +kernel) (by decide +kernel)
set_option maxRecDepth 20000 in
theorem gX1_stepsBetween_X1_spreadFrom : GoodIn wsX1_stepsBetween (wsV RX1 139 RX1 yX1_spreadFrom wsX1_spreadFrom) := goodIn_app (goodIn_of _ (by decide +kernel)) ggX1_stepsBetween_X1_spreadFrom
theorem dX1_stepsBetween_0 : decode cX1_stepsBetween 0 = .ok (.aload_n 0, 1) := by decide +kernel
theorem dX1_stepsBetween_1 : decode cX1_stepsBetween 1 = .ok (.invokevirtual 136, 3) := by decide +kernel
theorem dX1_stepsBetween_4 : decode cX1_stepsBetween 4 = .ok (.aload_n 0, 1) := by decide +kernel
theorem dX1_stepsBetween_5 : decode cX1_stepsBetween 5 = .ok (.iload_n 1, 1) := by decide +kernel
theorem dX1_stepsBetween_6 : decode cX1_stepsBetween 6 = .ok (.invokevirtual 139, 3) := by decide +kernel
theorem dX1_stepsBetween_9 : decode cX1_stepsBetween 9 = .ok (.aload_n 0, 1) := by decide +kernel
theorem dX1_stepsBetween_10 : decode cX1_stepsBetween 10 = .ok (.getfield 36, 3) := by decide +kernel
theorem dX1_stepsBetween_13 : decode cX1_stepsBetween 13 = .ok (.iload_n 2, 1) := by decide +kernel
theorem dX1_stepsBetween_14 : decode cX1_stepsBetween 14 = .ok (.iaload, 1) := by decide +kernel
theorem dX1_stepsBetween_15 : decode cX1_stepsBetween 15 = .ok (.ireturn, 1) := by decide +kernel
set_option maxRecDepth 20000 in
theorem ggX1_forgetSteps_J7_fill_53178 : GoodIn wsX1_forgetSteps wsJ7_fill_53178 := goodIn_r _ [5] (by decide +kernel) (by decide +kernel)
set_option maxRecDepth 20000 in
theorem gX1_forgetSteps_J7_fill_53178 : GoodIn wsX1_forgetSteps (va_wsS RX1 190 yJ7_fill_53178 wsJ7_fill_53178) := goodIn_app (goodIn_of _ (by decide +kernel)) ggX1_forgetSteps_J7_fill_53178
theorem dX1_forgetSteps_0 : decode cX1_forgetSteps 0 = .ok (.aload_n 0, 1) := by decide +kernel
theorem dX1_forgetSteps_1 : decode cX1_forgetSteps 1 = .ok (.getfield 36, 3) := by decide +kernel
theorem dX1_forgetSteps_4 : decode cX1_forgetSteps 4 = .ok (.iconst (-1), 1) := by decide +kernel
theorem dX1_forgetSteps_5 : decode cX1_forgetSteps 5 = .ok (.invokestatic 190, 3) := by decide +kernel
theorem dX1_forgetSteps_8 : decode cX1_forgetSteps 8 = .ok (.return_, 1) := by decide +kernel
set_option maxRecDepth 20000 in
theorem ggX1_spreadFrom_X1_onward : GoodIn wsX1_spreadFrom wsX1_onward := goodIn_r _ [8, 9, 10, 11, 12, 7, 13, 14, 15, 16, 17, 18, 19, 20, 21, 22, 23, 24, 25, 26, 27, 28, 29, 30, 31, 32, 33, 34, 35, 36, 37, 38, 39, 40, 41, 42, 43, 44] (by decide +kernel) (by decide +kernel)
set_option maxRecDepth 20000 in
theorem gX1_spreadFrom_X1_onward : GoodIn wsX1_spreadFrom (wsV RX1 132 RX1 yX1_onward wsX1_onward) := goodIn_app (goodIn_of _ (by decide +kernel)) ggX1_spreadFrom_X1_onward
theorem dX1_spreadFrom_0 : decode cX1_spreadFrom 0 = .ok (.aload_n 0, 1) := by decide +kernel
theorem dX1_spreadFrom_1 : decode cX1_spreadFrom 1 = .ok (.getfield 36, 3) := by decide +kernel
theorem dX1_spreadFrom_4 : decode cX1_spreadFrom 4 = .ok (.iload_n 1, 1) := by decide +kernel
theorem dX1_spreadFrom_5 : decode cX1_spreadFrom 5 = .ok (.iconst 0, 1) := by decide +kernel
theorem dX1_spreadFrom_6 : decode cX1_spreadFrom 6 = .ok (.iastore, 1) := by decide +kernel
theorem dX1_spreadFrom_7 : decode cX1_spreadFrom 7 = .ok (.aload_n 0, 1) := by decide +kernel
theorem dX1_spreadFrom_8 : decode cX1_spreadFrom 8 = .ok (.getfield 39, 3) := by decide +kernel
theorem dX1_spreadFrom_11 : decode cX1_spreadFrom 11 = .ok (.iconst 0, 1) := by decide +kernel
theorem dX1_spreadFrom_12 : decode cX1_spreadFrom 12 = .ok (.iload_n 1, 1) := by decide +kernel
theorem dX1_spreadFrom_13 : decode cX1_spreadFrom 13 = .ok (.iastore, 1) := by decide +kernel
theorem dX1_spreadFrom_14 : decode cX1_spreadFrom 14 = .ok (.iconst 1, 1) := by decide +kernel
theorem dX1_spreadFrom_15 : decode cX1_spreadFrom 15 = .ok (.istore_n 2, 1) := by decide +kernel
theorem dX1_spreadFrom_16 : decode cX1_spreadFrom 16 = .ok (.iconst 0, 1) := by decide +kernel
theorem dX1_spreadFrom_17 : decode cX1_spreadFrom 17 = .ok (.istore_n 3, 1) := by decide +kernel
theorem dX1_spreadFrom_18 : decode cX1_spreadFrom 18 = .ok (.iload_n 3, 1) := by decide +kernel
theorem dX1_spreadFrom_19 : decode cX1_spreadFrom 19 = .ok (.iload_n 2, 1) := by decide +kernel
theorem dX1_spreadFrom_20 : decode cX1_spreadFrom 20 = .ok (.if_icmp .ge 103, 3) := by decide +kernel
theorem dX1_spreadFrom_23 : decode cX1_spreadFrom 23 = .ok (.iload_n 3, 1) := by decide +kernel
theorem dX1_spreadFrom_24 : decode cX1_spreadFrom 24 = .ok (.bipush 91, 2) := by decide +kernel
theorem dX1_spreadFrom_26 : decode cX1_spreadFrom 26 = .ok (.if_icmp .ge 97, 3) := by decide +kernel
theorem dX1_spreadFrom_29 : decode cX1_spreadFrom 29 = .ok (.aload_n 0, 1) := by decide +kernel
theorem dX1_spreadFrom_30 : decode cX1_spreadFrom 30 = .ok (.getfield 39, 3) := by decide +kernel
theorem dX1_spreadFrom_33 : decode cX1_spreadFrom 33 = .ok (.iload_n 3, 1) := by decide +kernel
theorem dX1_spreadFrom_34 : decode cX1_spreadFrom 34 = .ok (.iaload, 1) := by decide +kernel
theorem dX1_spreadFrom_35 : decode cX1_spreadFrom 35 = .ok (.istore 4, 2) := by decide +kernel
theorem dX1_spreadFrom_37 : decode cX1_spreadFrom 37 = .ok (.iconst 0, 1) := by decide +kernel
theorem dX1_spreadFrom_38 : decode cX1_spreadFrom 38 = .ok (.istore 5, 2) := by decide +kernel
theorem dX1_spreadFrom_40 : decode cX1_spreadFrom 40 = .ok (.iload 5, 2) := by decide +kernel
theorem dX1_spreadFrom_42 : decode cX1_spreadFrom 42 = .ok (.bipush 6, 2) := by decide +kernel
theorem dX1_spreadFrom_44 : decode cX1_spreadFrom 44 = .ok (.if_icmp .ge 73, 3) := by decide +kernel
theorem dX1_spreadFrom_47 : decode cX1_spreadFrom 47 = .ok (.aload_n 0, 1) := by decide +kernel
theorem dX1_spreadFrom_48 : decode cX1_spreadFrom 48 = .ok (.aload_n 0, 1) := by decide +kernel
theorem dX1_spreadFrom_49 : decode cX1_spreadFrom 49 = .ok (.getfield 16, 3) := by decide +kernel
theorem dX1_spreadFrom_52 : decode cX1_spreadFrom 52 = .ok (.iload 4, 2) := by decide +kernel
theorem dX1_spreadFrom_54 : decode cX1_spreadFrom 54 = .ok (.iload 5, 2) := by decide +kernel
theorem dX1_spreadFrom_56 : decode cX1_spreadFrom 56 = .ok (.invokevirtual 132, 3) := by decide +kernel
theorem dX1_spreadFrom_59 : decode cX1_spreadFrom 59 = .ok (.istore 6, 2) := by decide +kernel
theorem dX1_spreadFrom_61 : decode cX1_spreadFrom 61 = .ok (.iload 6, 2) := by decide +kernel
theorem dX1_spreadFrom_63 : decode cX1_spreadFrom 63 = .ok (.iconst (-1), 1) := by decide +kernel
theorem dX1_spreadFrom_64 : decode cX1_spreadFrom 64 = .ok (.if_icmp .eq 47, 3) := by decide +kernel
theorem dX1_spreadFrom_67 : decode cX1_spreadFrom 67 = .ok (.aload_n 0, 1) := by decide +kernel
theorem dX1_spreadFrom_68 : decode cX1_spreadFrom 68 = .ok (.getfield 36, 3) := by decide +kernel
theorem dX1_spreadFrom_71 : decode cX1_spreadFrom 71 = .ok (.iload 6, 2) := by decide +kernel
theorem dX1_spreadFrom_73 : decode cX1_spreadFrom 73 = .ok (.iaload, 1) := by decide +kernel
theorem dX1_spreadFrom_74 : decode cX1_spreadFrom 74 = .ok (.iconst (-1), 1) := by decide +kernel
theorem dX1_spreadFrom_75 : decode cX1_spreadFrom 75 = .ok (.if_icmp .ne 36, 3) := by decide +kernel
theorem dX1_spreadFrom_78 : decode cX1_spreadFrom 78 = .ok (.iload_n 2, 1) := by decide +kernel
theorem dX1_spreadFrom_79 : decode cX1_spreadFrom 79 = .ok (.bipush 91, 2) := by decide +kernel
theorem dX1_spreadFrom_81 : decode cX1_spreadFrom 81 = .ok (.if_icmp .ge 30, 3) := by decide +kernel
theorem dX1_spreadFrom_84 : decode cX1_spreadFrom 84 = .ok (.aload_n 0, 1) := by decide +kernel
theorem dX1_spreadFrom_85 : decode cX1_spreadFrom 85 = .ok (.getfield 36, 3) := by decide +kernel
theorem dX1_spreadFrom_88 : decode cX1_spreadFrom 88 = .ok (.iload 6, 2) := by decide +kernel
theorem dX1_spreadFrom_90 : decode cX1_spreadFrom 90 = .ok (.aload_n 0, 1) := by decide +kernel
theorem dX1_spreadFrom_91 : decode cX1_spreadFrom 91 = .ok (.getfield 36, 3) := by decide +kernel
theorem dX1_spreadFrom_94 : decode cX1_spreadFrom 94 = .ok (.iload 4, 2) := by decide +kernel
theorem dX1_spreadFrom_96 : decode cX1_spreadFrom 96 = .ok (.iaload, 1) := by decide +kernel
theorem dX1_spreadFrom_97 : decode cX1_spreadFrom 97 = .ok (.iconst 1, 1) := by decide +kernel
theorem dX1_spreadFrom_98 : decode cX1_spreadFrom 98 = .ok (.iadd, 1) := by decide +kernel
theorem dX1_spreadFrom_99 : decode cX1_spreadFrom 99 = .ok (.iastore, 1) := by decide +kernel
theorem dX1_spreadFrom_100 : decode cX1_spreadFrom 100 = .ok (.aload_n 0, 1) := by decide +kernel
theorem dX1_spreadFrom_101 : decode cX1_spreadFrom 101 = .ok (.getfield 39, 3) := by decide +kernel
theorem dX1_spreadFrom_104 : decode cX1_spreadFrom 104 = .ok (.iload_n 2, 1) := by decide +kernel
theorem dX1_spreadFrom_105 : decode cX1_spreadFrom 105 = .ok (.iload 6, 2) := by decide +kernel
theorem dX1_spreadFrom_107 : decode cX1_spreadFrom 107 = .ok (.iastore, 1) := by decide +kernel
theorem dX1_spreadFrom_108 : decode cX1_spreadFrom 108 = .ok (.iinc 2 1, 3) := by decide +kernel
theorem dX1_spreadFrom_111 : decode cX1_spreadFrom 111 = .ok (.iinc 5 1, 3) := by decide +kernel
theorem dX1_spreadFrom_114 : decode cX1_spreadFrom 114 = .ok (.goto (-74), 3) := by decide +kernel
theorem dX1_spreadFrom_117 : decode cX1_spreadFrom 117 = .ok (.iinc 3 1, 3) := by decide +kernel
theorem dX1_spreadFrom_120 : decode cX1_spreadFrom 120 = .ok (.goto (-102), 3) := by decide +kernel
theorem dX1_spreadFrom_123 : decode cX1_spreadFrom 123 = .ok (.return_, 1) := by decide +kernel
set_option maxRecDepth 20000 in
theorem ggX1_turnRingInto_X0_firstRoomOf : GoodIn wsX1_turnRingInto wsX0_firstRoomOf := goodIn_r _ [5] (by decide +kernel) (by decide +kernel)
set_option maxRecDepth 20000 in
theorem gX1_turnRingInto_X0_firstRoomOf : GoodIn wsX1_turnRingInto (va_wsS RX1 83 yX0_firstRoomOf wsX0_firstRoomOf) := goodIn_app (goodIn_of _ (by decide +kernel)) ggX1_turnRingInto_X0_firstRoomOf
set_option maxRecDepth 20000 in
theorem ggX1_turnRingInto_X0_sizeOf : GoodIn wsX1_turnRingInto wsX0_sizeOf := goodIn_r _ [8] (by decide +kernel) (by decide +kernel)
set_option maxRecDepth 20000 in
theorem gX1_turnRingInto_X0_sizeOf : GoodIn wsX1_turnRingInto (va_wsS RX1 86 yX0_sizeOf wsX0_sizeOf) := goodIn_app (goodIn_of _ (by decide +kernel)) ggX1_turnRingInto_X0_sizeOf
theorem dX1_turnRingInto_0 : decode cX1_turnRingInto 0 = .ok (.iload_n 1, 1) := by decide +kernel
theorem dX1_turnRingInto_1 : decode cX1_turnRingInto 1 = .ok (.invokestatic 83, 3) := by decide +kernel
theorem dX1_turnRingInto_4 : decode cX1_turnRingInto 4 = .ok (.istore 4, 2) := by decide +kernel
theorem dX1_turnRingInto_6 : decode cX1_turnRingInto 6 = .ok (.iload_n 1, 1) := by decide +kernel
theorem dX1_turnRingInto_7 : decode cX1_turnRingInto 7 = .ok (.invokestatic 86, 3) := by decide +kernel
theorem dX1_turnRingInto_10 : decode cX1_turnRingInto 10 = .ok (.istore 5, 2) := by decide +kernel
theorem dX1_turnRingInto_12 : decode cX1_turnRingInto 12 = .ok (.iconst 0, 1) := by decide +kernel
theorem dX1_turnRingInto_13 : decode cX1_turnRingInto 13 = .ok (.istore 6, 2) := by decide +kernel
theorem dX1_turnRingInto_15 : decode cX1_turnRingInto 15 = .ok (.iload 6, 2) := by decide +kernel
theorem dX1_turnRingInto_17 : decode cX1_turnRingInto 17 = .ok (.iload 5, 2) := by decide +kernel
theorem dX1_turnRingInto_19 : decode cX1_turnRingInto 19 = .ok (.if_icmp .ge 31, 3) := by decide +kernel
theorem dX1_turnRingInto_22 : decode cX1_turnRingInto 22 = .ok (.aload_n 3, 1) := by decide +kernel
theorem dX1_turnRingInto_23 : decode cX1_turnRingInto 23 = .ok (.iload 4, 2) := by decide +kernel
theorem dX1_turnRingInto_25 : decode cX1_turnRingInto 25 = .ok (.iload 6, 2) := by decide +kernel
theorem dX1_turnRingInto_27 : decode cX1_turnRingInto 27 = .ok (.iload_n 2, 1) := by decide +kernel
theorem dX1_turnRingInto_28 : decode cX1_turnRingInto 28 = .ok (.iadd, 1) := by decide +kernel
theorem dX1_turnRingInto_29 : decode cX1_turnRingInto 29 = .ok (.iload 5, 2) := by decide +kernel
theorem dX1_turnRingInto_31 : decode cX1_turnRingInto 31 = .ok (.irem, 1) := by decide +kernel
theorem dX1_turnRingInto_32 : decode cX1_turnRingInto 32 = .ok (.iadd, 1) := by decide +kernel
theorem dX1_turnRingInto_33 : decode cX1_turnRingInto 33 = .ok (.aload_n 0, 1) := by decide +kernel
theorem dX1_turnRingInto_34 : decode cX1_turnRingInto 34 = .ok (.getfield 16, 3) := by decide +kernel
theorem dX1_turnRingInto_37 : decode cX1_turnRingInto 37 = .ok (.iload 4, 2) := by decide +kernel
theorem dX1_turnRingInto_39 : decode cX1_turnRingInto 39 = .ok (.iload 6, 2) := by decide +kernel
theorem dX1_turnRingInto_41 : decode cX1_turnRingInto 41 = .ok (.iadd, 1) := by decide +kernel
theorem dX1_turnRingInto_42 : decode cX1_turnRingInto 42 = .ok (.iaload, 1) := by decide +kernel
theorem dX1_turnRingInto_43 : decode cX1_turnRingInto 43 = .ok (.iastore, 1) := by decide +kernel
theorem dX1_turnRingInto_44 : decode cX1_turnRingInto 44 = .ok (.iinc 6 1, 3) := by decide +kernel
theorem dX1_turnRingInto_47 : decode cX1_turnRingInto 47 = .ok (.goto (-32), 3) := by decide +kernel
theorem dX1_turnRingInto_50 : decode cX1_turnRingInto 50 = .ok (.return_, 1) := by decide +kernel
set_option maxRecDepth 20000 in
theorem ggX1_turnAllInto_X1_turnRingInto : GoodIn wsX1_turnAllInto wsX1_turnRingInto := goodIn_r _ [6, 7, 8, 9, 10, 11, 12, 13, 14, 15, 16, 17, 18, 19, 20, 21, 22, 23, 24, 25] (by decide +kernel) (by decide +kernel)
set_option maxRecDepth 20000 in
theorem gX1_turnAllInto_X1_turnRingInto : GoodIn wsX1_turnAllInto (wsV RX1 79 RX1 yX1_turnRingInto wsX1_turnRingInto) := goodIn_app (goodIn_of _ (by decide +kernel)) ggX1_turnAllInto_X1_turnRingInto
theorem dX1_turnAllInto_0 : decode cX1_turnAllInto 0 = .ok (.iconst 0, 1) := by decide +kernel
theorem dX1_turnAllInto_1 : decode cX1_turnAllInto 1 = .ok (.istore_n 3, 1) := by decide +kernel
theorem dX1_turnAllInto_2 : decode cX1_turnAllInto 2 = .ok (.iload_n 3, 1) := by decide +kernel
theorem dX1_turnAllInto_3 : decode cX1_turnAllInto 3 = .ok (.aload_n 0, 1) := by decide +kernel
theorem dX1_turnAllInto_4 : decode cX1_turnAllInto 4 = .ok (.getfield 149, 3) := by decide +kernel
theorem dX1_turnAllInto_7 : decode cX1_turnAllInto 7 = .ok (.if_icmp .gt 18, 3) := by decide +kernel
theorem dX1_turnAllInto_10 : decode cX1_turnAllInto 10 = .ok (.aload_n 0, 1) := by decide +kernel
theorem dX1_turnAllInto_11 : decode cX1_turnAllInto 11 = .ok (.iload_n 3, 1) := by decide +kernel
theorem dX1_turnAllInto_12 : decode cX1_turnAllInto 12 = .ok (.iload_n 3, 1) := by decide +kernel
theorem dX1_turnAllInto_13 : decode cX1_turnAllInto 13 = .ok (.iload_n 1, 1) := by decide +kernel
theorem dX1_turnAllInto_14 : decode cX1_turnAllInto 14 = .ok (.imul, 1) := by decide +kernel
theorem dX1_turnAllInto_15 : decode cX1_turnAllInto 15 = .ok (.aload_n 2, 1) := by decide +kernel
theorem dX1_turnAllInto_16 : decode cX1_turnAllInto 16 = .ok (.invokevirtual 79, 3) := by decide +kernel
theorem dX1_turnAllInto_19 : decode cX1_turnAllInto 19 = .ok (.iinc 3 1, 3) := by decide +kernel
theorem dX1_turnAllInto_22 : decode cX1_turnAllInto 22 = .ok (.goto (-20), 3) := by decide +kernel
theorem dX1_turnAllInto_25 : decode cX1_turnAllInto 25 = .ok (.return_, 1) := by decide +kernel
theorem dX1_isTrialAsNow_0 : decode cX1_isTrialAsNow 0 = .ok (.iconst 0, 1) := by decide +kernel
theorem dX1_isTrialAsNow_1 : decode cX1_isTrialAsNow 1 = .ok (.istore_n 1, 1) := by decide +kernel
theorem dX1_isTrialAsNow_2 : decode cX1_isTrialAsNow 2 = .ok (.iload_n 1, 1) := by decide +kernel
theorem dX1_isTrialAsNow_3 : decode cX1_isTrialAsNow 3 = .ok (.aload_n 0, 1) := by decide +kernel
theorem dX1_isTrialAsNow_4 : decode cX1_isTrialAsNow 4 = .ok (.getfield 50, 3) := by decide +kernel
theorem dX1_isTrialAsNow_7 : decode cX1_isTrialAsNow 7 = .ok (.if_icmp .ge 26, 3) := by decide +kernel
theorem dX1_isTrialAsNow_10 : decode cX1_isTrialAsNow 10 = .ok (.aload_n 0, 1) := by decide +kernel
theorem dX1_isTrialAsNow_11 : decode cX1_isTrialAsNow 11 = .ok (.getfield 27, 3) := by decide +kernel
theorem dX1_isTrialAsNow_14 : decode cX1_isTrialAsNow 14 = .ok (.iload_n 1, 1) := by decide +kernel
theorem dX1_isTrialAsNow_15 : decode cX1_isTrialAsNow 15 = .ok (.iaload, 1) := by decide +kernel
theorem dX1_isTrialAsNow_16 : decode cX1_isTrialAsNow 16 = .ok (.aload_n 0, 1) := by decide +kernel
theorem dX1_isTrialAsNow_17 : decode cX1_isTrialAsNow 17 = .ok (.getfield 16, 3) := by decide +kernel
theorem dX1_isTrialAsNow_20 : decode cX1_isTrialAsNow 20 = .ok (.iload_n 1, 1) := by decide +kernel
theorem dX1_isTrialAsNow_21 : decode cX1_isTrialAsNow 21 = .ok (.iaload, 1) := by decide +kernel
theorem dX1_isTrialAsNow_22 : decode cX1_isTrialAsNow 22 = .ok (.if_icmp .eq 5, 3) := by decide +kernel
theorem dX1_isTrialAsNow_25 : decode cX1_isTrialAsNow 25 = .ok (.iconst 0, 1) := by decide +kernel
theorem dX1_isTrialAsNow_26 : decode cX1_isTrialAsNow 26 = .ok (.ireturn, 1) := by decide +kernel
theorem dX1_isTrialAsNow_27 : decode cX1_isTrialAsNow 27 = .ok (.iinc 1 1, 3) := by decide +kernel
theorem dX1_isTrialAsNow_30 : decode cX1_isTrialAsNow 30 = .ok (.goto (-28), 3) := by decide +kernel
theorem dX1_isTrialAsNow_33 : decode cX1_isTrialAsNow 33 = .ok (.iconst 1, 1) := by decide +kernel
theorem dX1_isTrialAsNow_34 : decode cX1_isTrialAsNow 34 = .ok (.ireturn, 1) := by decide +kernel
set_option maxRecDepth 20000 in
theorem ggX1_litAfterTurn_X1_turnRingInto : GoodIn wsX1_litAfterTurn wsX1_turnRingInto := goodIn_r _ [13, 1, 14, 15, 16, 17, 18, 19, 20, 59, 60, 61, 62, 63, 64, 65, 66, 67, 68, 69] (by decide +kernel) (by decide +kernel)
set_option maxRecDepth 20000 in
theorem gX1_litAfterTurn_X1_turnRingInto : GoodIn wsX1_litAfterTurn (wsV RX1 79 RX1 yX1_turnRingInto wsX1_turnRingInto) := goodIn_app (goodIn_of _ (by decide +kernel)) ggX1_litAfterTurn_X1_turnRingInto
set_option maxRecDepth 20000 in
theorem ggX1_litAfterTurn_X1_shine : GoodIn wsX1_litAfterTurn wsX1_shine := goodIn_r _ [24, 3, 25, 26, 27, 28, 29, 30, 31, 32, 12, 33, 34, 35, 36, 37, 38, 39, 40, 41, 42, 43, 44, 45, 46, 16, 47, 48, 49, 50, 51, 52, 53, 54, 55, 56, 57, 58, 59, 60, 61, 62, 63, 64, 65, 66, 67, 68, 69, 70, 71, 72, 73, 74] (by decide +kernel) (by decide +kernel)
set_option maxRecDepth 20000 in
theorem gX1_litAfterTurn_X1_shine : GoodIn wsX1_litAfterTurn (wsV RX1 199 RX1 yX1_shine wsX1_shine) := goodIn_app (goodIn_of _ (by decide +kernel)) ggX1_litAfterTurn_X1_shine
theorem dX1_litAfterTurn_0 : decode cX1_litAfterTurn 0 = .ok (.aload_n 0, 1) := by decide +kernel
theorem dX1_litAfterTurn_1 : decode cX1_litAfterTurn 1 = .ok (.getfield 16, 3) := by decide +kernel
theorem dX1_litAfterTurn_4 : decode cX1_litAfterTurn 4 = .ok (.iconst 0, 1) := by decide +kernel
theorem dX1_litAfterTurn_5 : decode cX1_litAfterTurn 5 = .ok (.aload_n 0, 1) := by decide +kernel
theorem dX1_litAfterTurn_6 : decode cX1_litAfterTurn 6 = .ok (.getfield 27, 3) := by decide +kernel
theorem dX1_litAfterTurn_9 : decode cX1_litAfterTurn 9 = .ok (.iconst 0, 1) := by decide +kernel
theorem dX1_litAfterTurn_10 : decode cX1_litAfterTurn 10 = .ok (.aload_n 0, 1) := by decide +kernel
theorem dX1_litAfterTurn_11 : decode cX1_litAfterTurn 11 = .ok (.getfield 50, 3) := by decide +kernel
theorem dX1_litAfterTurn_14 : decode cX1_litAfterTurn 14 = .ok (.invokestatic 89, 3) := by decide +kernel
theorem dX1_litAfterTurn_17 : decode cX1_litAfterTurn 17 = .ok (.aload_n 0, 1) := by decide +kernel
theorem dX1_litAfterTurn_18 : decode cX1_litAfterTurn 18 = .ok (.iload_n 1, 1) := by decide +kernel
theorem dX1_litAfterTurn_19 : decode cX1_litAfterTurn 19 = .ok (.iload_n 2, 1) := by decide +kernel
theorem dX1_litAfterTurn_20 : decode cX1_litAfterTurn 20 = .ok (.aload_n 0, 1) := by decide +kernel
theorem dX1_litAfterTurn_21 : decode cX1_litAfterTurn 21 = .ok (.getfield 27, 3) := by decide +kernel
theorem dX1_litAfterTurn_24 : decode cX1_litAfterTurn 24 = .ok (.invokevirtual 79, 3) := by decide +kernel
theorem dX1_litAfterTurn_27 : decode cX1_litAfterTurn 27 = .ok (.aload_n 0, 1) := by decide +kernel
theorem dX1_litAfterTurn_28 : decode cX1_litAfterTurn 28 = .ok (.aload_n 0, 1) := by decide +kernel
theorem dX1_litAfterTurn_29 : decode cX1_litAfterTurn 29 = .ok (.getfield 27, 3) := by decide +kernel
theorem dX1_litAfterTurn_32 : decode cX1_litAfterTurn 32 = .ok (.aload_n 0, 1) := by decide +kernel
theorem dX1_litAfterTurn_33 : decode cX1_litAfterTurn 33 = .ok (.getfield 30, 3) := by decide +kernel
theorem dX1_litAfterTurn_36 : decode cX1_litAfterTurn 36 = .ok (.invokevirtual 199, 3) := by decide +kernel
theorem dX1_litAfterTurn_39 : decode cX1_litAfterTurn 39 = .ok (.ireturn, 1) := by decide +kernel
set_option maxRecDepth 20000 in
theorem ggX2_init_X2_build : GoodIn wsX2_init wsX2_build := goodIn_r _ [20, 21, 22, 9, 11, 23, 24, 25, 26, 27, 19, 28, 5, 6, 7, 8, 29, 30, 31, 32, 33, 34, 35, 36, 37, 38, 39, 40, 41] (by decide +kernel) (by decide +kernel)
set_option maxRecDepth 20000 in
theorem gX2_init_X2_build : GoodIn wsX2_init (wsV RX2 41 RX2 yX2_build wsX2_build) := goodIn_app (goodIn_of _ (by decide +kernel)) ggX2_init_X2_build
theorem dX2_init_0 : decode cX2_init 0 = .ok (.aload_n 0, 1) := by decide +kernel
theorem dX2_init_1 : decode cX2_init 1 = .ok (.invokespecial 1, 3) := by decide +kernel
theorem dX2_init_4 : decode cX2_init 4 = .ok (.aload_n 0, 1) := by decide +kernel
theorem dX2_init_5 : decode cX2_init 5 = .ok (.bipush 91, 2) := by decide +kernel
theorem dX2_init_7 : decode cX2_init 7 = .ok (.newarray .int, 2) := by decide +kernel
theorem dX2_init_9 : decode cX2_init 9 = .ok (.putfield 9, 3) := by decide +kernel
theorem dX2_init_12 : decode cX2_init 12 = .ok (.aload_n 0, 1) := by decide +kernel
theorem dX2_init_13 : decode cX2_init 13 = .ok (.bipush 91, 2) := by decide +kernel
theorem dX2_init_15 : decode cX2_init 15 = .ok (.newarray .int, 2) := by decide +kernel
theorem dX2_init_17 : decode cX2_init 17 = .ok (.putfield 13, 3) := by decide +kernel
theorem dX2_init_20 : decode cX2_init 20 = .ok (.aload_n 0, 1) := by decide +kernel
theorem dX2_init_21 : decode cX2_init 21 = .ok (.bipush 91, 2) := by decide +kernel
theorem dX2_init_23 : decode cX2_init 23 = .ok (.newarray .int, 2) := by decide +kernel
theorem dX2_init_25 : decode cX2_init 25 = .ok (.putfield 16, 3) := by decide +kernel
theorem dX2_init_28 : decode cX2_init 28 = .ok (.aload_n 0, 1) := by decide +kernel
theorem dX2_init_29 : decode cX2_init 29 = .ok (.bipush 91, 2) := by decide +kernel
theorem dX2_init_31 : decode cX2_init 31 = .ok (.newarray .int, 2) := by decide +kernel
theorem dX2_init_33 : decode cX2_init 33 = .ok (.putfield 19, 3) := by decide +kernel
theorem dX2_init_36 : decode cX2_init 36 = .ok (.aload_n 0, 1) := by decide +kernel
theorem dX2_init_37 : decode cX2_init 37 = .ok (.bipush 121, 2) := by decide +kernel
theorem dX2_init_39 : decode cX2_init 39 = .ok (.newarray .int, 2) := by decide +kernel
theorem dX2_init_41 : decode cX2_init 41 = .ok (.putfield 22, 3) := by decide +kernel
theorem dX2_init_44 : decode cX2_init 44 = .ok (.aload_n 0, 1) := by decide +kernel
theorem dX2_init_45 : decode cX2_init 45 = .ok (.sipush 546, 3) := by decide +kernel
theorem dX2_init_48 : decode cX2_init 48 = .ok (.newarray .boolean, 2) := by decide +kernel
theorem dX2_init_50 : decode cX2_init 50 = .ok (.putfield 25, 3) := by decide +kernel
theorem dX2_init_53 : decode cX2_init 53 = .ok (.aload_n 0, 1) := by decide +kernel
theorem dX2_init_54 : decode cX2_init 54 = .ok (.bipush 91, 2) := by decide +kernel
theorem dX2_init_56 : decode cX2_init 56 = .ok (.newarray .int, 2) := by decide +kernel
theorem dX2_init_58 : decode cX2_init 58 = .ok (.putfield 29, 3) := by decide +kernel
theorem dX2_init_61 : decode cX2_init 61 = .ok (.aload_n 0, 1) := by decide +kernel
theorem dX2_init_62 : decode cX2_init 62 = .ok (.bipush 91, 2) := by decide +kernel
theorem dX2_init_64 : decode cX2_init 64 = .ok (.newarray .int, 2) := by decide +kernel
theorem dX2_init_66 : decode cX2_init 66 = .ok (.putfield 32, 3) := by decide +kernel
theorem dX2_init_69 : decode cX2_init 69 = .ok (.aload_n 0, 1) := by decide +kernel
theorem dX2_init_70 : decode cX2_init 70 = .ok (.bipush 91, 2) := by decide +kernel
theorem dX2_init_72 : decode cX2_init 72 = .ok (.newarray .int, 2) := by decide +kernel
theorem dX2_init_74 : decode cX2_init 74 = .ok (.putfield 35, 3) := by decide +kernel
theorem dX2_init_77 : decode cX2_init 77 = .ok (.aload_n 0, 1) := by decide +kernel
theorem dX2_init_78 : decode cX2_init 78 = .ok (.bipush 91, 2) := by decide +kernel
theorem dX2_init_80 : decode cX2_init 80 = .ok (.newarray .int, 2) := by decide +kernel
theorem dX2_init_82 : decode cX2_init 82 = .ok (.putfield 38, 3) := by decide +kernel
theorem dX2_init_85 : decode cX2_init 85 = .ok (.aload_n 0, 1) := by decide +kernel
theorem dX2_init_86 : decode cX2_init 86 = .ok (.iconst 2, 1) := by decide +kernel
theorem dX2_init_87 : decode cX2_init 87 = .ok (.invokevirtual 41, 3) := by decide +kernel
theorem dX2_init_90 : decode cX2_init 90 = .ok (.return_, 1) := by decide +kernel
theorem dX2_thrown_0 : decode cX2_thrown 0 = .ok (.aload_n 0, 1) := by decide +kernel
theorem dX2_thrown_1 : decode cX2_thrown 1 = .ok (.getfield 45, 3) := by decide +kernel
theorem dX2_thrown_4 : decode cX2_thrown 4 = .ok (.ireturn, 1) := by decide +kernel
theorem dX2_fail_0 : decode cX2_fail 0 = .ok (.aload_n 0, 1) := by decide +kernel
theorem dX2_fail_1 : decode cX2_fail 1 = .ok (.iload_n 1, 1) := by decide +kernel
theorem dX2_fail_2 : decode cX2_fail 2 = .ok (.putfield 45, 3) := by decide +kernel
theorem dX2_fail_5 : decode cX2_fail 5 = .ok (.iconst 0, 1) := by decide +kernel
theorem dX2_fail_6 : decode cX2_fail 6 = .ok (.ireturn, 1) := by decide +kernel
theorem dX2_isIn_0 : decode cX2_isIn 0 = .ok (.iload_n 0, 1) := by decide +kernel
theorem dX2_isIn_1 : decode cX2_isIn 1 = .ok (.iload_n 1, 1) := by decide +kernel
theorem dX2_isIn_2 : decode cX2_isIn 2 = .ok (.if_icmp .lt 12, 3) := by decide +kernel
theorem dX2_isIn_5 : decode cX2_isIn 5 = .ok (.iload_n 0, 1) := by decide +kernel
theorem dX2_isIn_6 : decode cX2_isIn 6 = .ok (.iload_n 2, 1) := by decide +kernel
theorem dX2_isIn_7 : decode cX2_isIn 7 = .ok (.if_icmp .gt 7, 3) := by decide +kernel
theorem dX2_isIn_10 : decode cX2_isIn 10 = .ok (.iconst 1, 1) := by decide +kernel
theorem dX2_isIn_11 : decode cX2_isIn 11 = .ok (.goto 4, 3) := by decide +kernel
theorem dX2_isIn_14 : decode cX2_isIn 14 = .ok (.iconst 0, 1) := by decide +kernel
theorem dX2_isIn_15 : decode cX2_isIn 15 = .ok (.ireturn, 1) := by decide +kernel
set_option maxRecDepth 20000 in
theorem ggX2_isRoom_X2_isIn : GoodIn wsX2_isRoom wsX2_isIn := goodIn_r _ [5] (by decide +kernel) (by decide +kernel)
set_option maxRecDepth 20000 in
theorem gX2_isRoom_X2_isIn : GoodIn wsX2_isRoom (va_wsS RX2 52 yX2_isIn wsX2_isIn) := goodIn_app (goodIn_of _ (by decide +kernel)) ggX2_isRoom_X2_isIn
theorem dX2_isRoom_0 : decode cX2_isRoom 0 = .ok (.iload_n 1, 1) := by decide +kernel
theorem dX2_isRoom_1 : decode cX2_isRoom 1 = .ok (.iconst 0, 1) := by decide +kernel
theorem dX2_isRoom_2 : decode cX2_isRoom 2 = .ok (.aload_n 0, 1) := by decide +kernel
theorem dX2_isRoom_3 : decode cX2_isRoom 3 = .ok (.getfield 49, 3) := by decide +kernel
theorem dX2_isRoom_6 : decode cX2_isRoom 6 = .ok (.iconst 1, 1) := by decide +kernel
theorem dX2_isRoom_7 : decode cX2_isRoom 7 = .ok (.isub, 1) := by decide +kernel
theorem dX2_isRoom_8 : decode cX2_isRoom 8 = .ok (.invokestatic 52, 3) := by decide +kernel
theorem dX2_isRoom_11 : decode cX2_isRoom 11 = .ok (.ireturn, 1) := by decide +kernel
set_option maxRecDepth 20000 in
theorem ggX2_isSide_X2_isIn : GoodIn wsX2_isSide wsX2_isIn := goodIn_r _ [4] (by decide +kernel) (by decide +kernel)
set_option maxRecDepth 20000 in
theorem gX2_isSide_X2_isIn : GoodIn wsX2_isSide (va_wsS RX2 52 yX2_isIn wsX2_isIn) := goodIn_app (goodIn_of _ (by decide +kernel)) ggX2_isSide_X2_isIn
theorem dX2_isSide_0 : decode cX2_isSide 0 = .ok (.iload_n 0, 1) := by decide +kernel
theorem dX2_isSide_1 : decode cX2_isSide 1 = .ok (.iconst 0, 1) := by decide +kernel
theorem dX2_isSide_2 : decode cX2_isSide 2 = .ok (.iconst 5, 1) := by decide +kernel
theorem dX2_isSide_3 : decode cX2_isSide 3 = .ok (.invokestatic 52, 3) := by decide +kernel
theorem dX2_isSide_6 : decode cX2_isSide 6 = .ok (.ireturn, 1) := by decide +kernel
set_option maxRecDepth 20000 in
theorem ggX2_isRing_X2_isIn : GoodIn wsX2_isRing wsX2_isIn := goodIn_r _ [5] (by decide +kernel) (by decide +kernel)
set_option maxRecDepth 20000 in
theorem gX2_isRing_X2_isIn : GoodIn wsX2_isRing (va_wsS RX2 52 yX2_isIn wsX2_isIn) := goodIn_app (goodIn_of _ (by decide +kernel)) ggX2_isRing_X2_isIn
theorem dX2_isRing_0 : decode cX2_isRing 0 = .ok (.iload_n 1, 1) := by decide +kernel
theorem dX2_isRing_1 : decode cX2_isRing 1 = .ok (.iconst 0, 1) := by decide +kernel
theorem dX2_isRing_2 : decode cX2_isRing 2 = .ok (.aload_n 0, 1) := by decide +kernel
theorem dX2_isRing_3 : decode cX2_isRing 3 = .ok (.getfield 56, 3) := by decide +kernel
theorem dX2_isRing_6 : decode cX2_isRing 6 = .ok (.invokestatic 52, 3) := by decide +kernel
theorem dX2_isRing_9 : decode cX2_isRing 9 = .ok (.ireturn, 1) := by decide +kernel
theorem dX2_add_0 : decode cX2_add 0 = .ok (.aload_n 0, 1) := by decide +kernel
theorem dX2_add_1 : decode cX2_add 1 = .ok (.getfield 9, 3) := by decide +kernel
theorem dX2_add_4 : decode cX2_add 4 = .ok (.aload_n 0, 1) := by decide +kernel
theorem dX2_add_5 : decode cX2_add 5 = .ok (.getfield 49, 3) := by decide +kernel
theorem dX2_add_8 : decode cX2_add 8 = .ok (.iload_n 1, 1) := by decide +kernel
theorem dX2_add_9 : decode cX2_add 9 = .ok (.iastore, 1) := by decide +kernel
theorem dX2_add_10 : decode cX2_add 10 = .ok (.aload_n 0, 1) := by decide +kernel
theorem dX2_add_11 : decode cX2_add 11 = .ok (.getfield 13, 3) := by decide +kernel
theorem dX2_add_14 : decode cX2_add 14 = .ok (.aload_n 0, 1) := by decide +kernel
theorem dX2_add_15 : decode cX2_add 15 = .ok (.getfield 49, 3) := by decide +kernel
theorem dX2_add_18 : decode cX2_add 18 = .ok (.iload_n 2, 1) := by decide +kernel
theorem dX2_add_19 : decode cX2_add 19 = .ok (.iastore, 1) := by decide +kernel
theorem dX2_add_20 : decode cX2_add 20 = .ok (.aload_n 0, 1) := by decide +kernel
theorem dX2_add_21 : decode cX2_add 21 = .ok (.getfield 16, 3) := by decide +kernel
theorem dX2_add_24 : decode cX2_add 24 = .ok (.aload_n 0, 1) := by decide +kernel
theorem dX2_add_25 : decode cX2_add 25 = .ok (.getfield 49, 3) := by decide +kernel
theorem dX2_add_28 : decode cX2_add 28 = .ok (.iload_n 3, 1) := by decide +kernel
theorem dX2_add_29 : decode cX2_add 29 = .ok (.iastore, 1) := by decide +kernel
theorem dX2_add_30 : decode cX2_add 30 = .ok (.aload_n 0, 1) := by decide +kernel
theorem dX2_add_31 : decode cX2_add 31 = .ok (.getfield 19, 3) := by decide +kernel
theorem dX2_add_34 : decode cX2_add 34 = .ok (.aload_n 0, 1) := by decide +kernel
theorem dX2_add_35 : decode cX2_add 35 = .ok (.getfield 49, 3) := by decide +kernel
theorem dX2_add_38 : decode cX2_add 38 = .ok (.iconst 0, 1) := by decide +kernel
theorem dX2_add_39 : decode cX2_add 39 = .ok (.iastore, 1) := by decide +kernel
theorem dX2_add_40 : decode cX2_add 40 = .ok (.aload_n 0, 1) := by decide +kernel
theorem dX2_add_41 : decode cX2_add 41 = .ok (.getfield 22, 3) := by decide +kernel
theorem dX2_add_44 : decode cX2_add 44 = .ok (.bipush 11, 2) := by decide +kernel
theorem dX2_add_46 : decode cX2_add 46 = .ok (.iload_n 2, 1) := by decide +kernel
theorem dX2_add_47 : decode cX2_add 47 = .ok (.iconst 5, 1) := by decide +kernel
theorem dX2_add_48 : decode cX2_add 48 = .ok (.iadd, 1) := by decide +kernel
theorem dX2_add_49 : decode cX2_add 49 = .ok (.imul, 1) := by decide +kernel
theorem dX2_add_50 : decode cX2_add 50 = .ok (.iload_n 1, 1) := by decide +kernel
theorem dX2_add_51 : decode cX2_add 51 = .ok (.iadd, 1) := by decide +kernel
theorem dX2_add_52 : decode cX2_add 52 = .ok (.iconst 5, 1) := by decide +kernel
theorem dX2_add_53 : decode cX2_add 53 = .ok (.iadd, 1) := by decide +kernel
theorem dX2_add_54 : decode cX2_add 54 = .ok (.aload_n 0, 1) := by decide +kernel
theorem dX2_add_55 : decode cX2_add 55 = .ok (.getfield 49, 3) := by decide +kernel
theorem dX2_add_58 : decode cX2_add 58 = .ok (.iastore, 1) := by decide +kernel
theorem dX2_add_59 : decode cX2_add 59 = .ok (.aload_n 0, 1) := by decide +kernel
theorem dX2_add_60 : decode cX2_add 60 = .ok (.dup, 1) := by decide +kernel
theorem dX2_add_61 : decode cX2_add 61 = .ok (.getfield 49, 3) := by decide +kernel
theorem dX2_add_64 : decode cX2_add 64 = .ok (.iconst 1, 1) := by decide +kernel
theorem dX2_add_65 : decode cX2_add 65 = .ok (.iadd, 1) := by decide +kernel
theorem dX2_add_66 : decode cX2_add 66 = .ok (.putfield 49, 3) := by decide +kernel
theorem dX2_add_69 : decode cX2_add 69 = .ok (.return_, 1) := by decide +kernel
set_option maxRecDepth 20000 in
theorem ggX2_build_X2_add : GoodIn wsX2_build wsX2_add := goodIn_r _ [11, 12, 2, 13, 14, 15, 3, 16, 17, 18, 19, 20, 21, 22, 23, 24, 25, 26, 27, 28] (by decide +kernel) (by decide +kernel)
set_option maxRecDepth 20000 in
theorem gX2_build_X2_add : GoodIn wsX2_build (wsV RX2 59 RX2 yX2_add wsX2_add) := goodIn_app (goodIn_of _ (by decide +kernel)) ggX2_build_X2_add
theorem dX2_build_0 : decode cX2_build 0 = .ok (.aload_n 0, 1) := by decide +kernel
theorem dX2_build_1 : decode cX2_build 1 = .ok (.iload_n 1, 1) := by decide +kernel
theorem dX2_build_2 : decode cX2_build 2 = .ok (.putfield 56, 3) := by decide +kernel
theorem dX2_build_5 : decode cX2_build 5 = .ok (.aload_n 0, 1) := by decide +kernel
theorem dX2_build_6 : decode cX2_build 6 = .ok (.iconst 0, 1) := by decide +kernel
theorem dX2_build_7 : decode cX2_build 7 = .ok (.putfield 49, 3) := by decide +kernel
theorem dX2_build_10 : decode cX2_build 10 = .ok (.iconst 0, 1) := by decide +kernel
theorem dX2_build_11 : decode cX2_build 11 = .ok (.istore_n 2, 1) := by decide +kernel
theorem dX2_build_12 : decode cX2_build 12 = .ok (.iload_n 2, 1) := by decide +kernel
theorem dX2_build_13 : decode cX2_build 13 = .ok (.aload_n 0, 1) := by decide +kernel
theorem dX2_build_14 : decode cX2_build 14 = .ok (.getfield 22, 3) := by decide +kernel
theorem dX2_build_17 : decode cX2_build 17 = .ok (.arraylength, 1) := by decide +kernel
theorem dX2_build_18 : decode cX2_build 18 = .ok (.if_icmp .ge 16, 3) := by decide +kernel
theorem dX2_build_21 : decode cX2_build 21 = .ok (.aload_n 0, 1) := by decide +kernel
theorem dX2_build_22 : decode cX2_build 22 = .ok (.getfield 22, 3) := by decide +kernel
theorem dX2_build_25 : decode cX2_build 25 = .ok (.iload_n 2, 1) := by decide +kernel
theorem dX2_build_26 : decode cX2_build 26 = .ok (.iconst (-1), 1) := by decide +kernel
theorem dX2_build_27 : decode cX2_build 27 = .ok (.iastore, 1) := by decide +kernel
theorem dX2_build_28 : decode cX2_build 28 = .ok (.iinc 2 1, 3) := by decide +kernel
theorem dX2_build_31 : decode cX2_build 31 = .ok (.goto (-19), 3) := by decide +kernel
theorem dX2_build_34 : decode cX2_build 34 = .ok (.iconst 0, 1) := by decide +kernel
theorem dX2_build_35 : decode cX2_build 35 = .ok (.istore_n 2, 1) := by decide +kernel
theorem dX2_build_36 : decode cX2_build 36 = .ok (.iload_n 2, 1) := by decide +kernel
theorem dX2_build_37 : decode cX2_build 37 = .ok (.aload_n 0, 1) := by decide +kernel
theorem dX2_build_38 : decode cX2_build 38 = .ok (.getfield 25, 3) := by decide +kernel
theorem dX2_build_41 : decode cX2_build 41 = .ok (.arraylength, 1) := by decide +kernel
theorem dX2_build_42 : decode cX2_build 42 = .ok (.if_icmp .ge 16, 3) := by decide +kernel
theorem dX2_build_45 : decode cX2_build 45 = .ok (.aload_n 0, 1) := by decide +kernel
theorem dX2_build_46 : decode cX2_build 46 = .ok (.getfield 25, 3) := by decide +kernel
theorem dX2_build_49 : decode cX2_build 49 = .ok (.iload_n 2, 1) := by decide +kernel
theorem dX2_build_50 : decode cX2_build 50 = .ok (.iconst 0, 1) := by decide +kernel
theorem dX2_build_51 : decode cX2_build 51 = .ok (.bastore, 1) := by decide +kernel
theorem dX2_build_52 : decode cX2_build 52 = .ok (.iinc 2 1, 3) := by decide +kernel
theorem dX2_build_55 : decode cX2_build 55 = .ok (.goto (-19), 3) := by decide +kernel
theorem dX2_build_58 : decode cX2_build 58 = .ok (.aload_n 0, 1) := by decide +kernel
theorem dX2_build_59 : decode cX2_build 59 = .ok (.iconst 0, 1) := by decide +kernel
theorem dX2_build_60 : decode cX2_build 60 = .ok (.iconst 0, 1) := by decide +kernel
theorem dX2_build_61 : decode cX2_build 61 = .ok (.iconst 0, 1) := by decide +kernel
theorem dX2_build_62 : decode cX2_build 62 = .ok (.invokevirtual 59, 3) := by decide +kernel
theorem dX2_build_65 : decode cX2_build 65 = .ok (.iconst 1, 1) := by decide +kernel
theorem dX2_build_66 : decode cX2_build 66 = .ok (.istore_n 2, 1) := by decide +kernel
theorem dX2_build_67 : decode cX2_build 67 = .ok (.iload_n 2, 1) := by decide +kernel
theorem dX2_build_68 : decode cX2_build 68 = .ok (.iload_n 1, 1) := by decide +kernel
theorem dX2_build_69 : decode cX2_build 69 = .ok (.if_icmp .gt 79, 3) := by decide +kernel
