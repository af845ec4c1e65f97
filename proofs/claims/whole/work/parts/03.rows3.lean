theorem dX2_reach_7 : decode cX2_reach 7 = .ok (.invokevirtual 98, 3) := by decide +kernel
theorem dX2_reach_10 : decode cX2_reach 10 = .ok (.ifCond .ne 9, 3) := by decide +kernel
theorem dX2_reach_13 : decode cX2_reach 13 = .ok (.aload_n 0, 1) := by decide +kernel
theorem dX2_reach_14 : decode cX2_reach 14 = .ok (.iconst 1, 1) := by decide +kernel
theorem dX2_reach_15 : decode cX2_reach 15 = .ok (.invokevirtual 95, 3) := by decide +kernel
theorem dX2_reach_18 : decode cX2_reach 18 = .ok (.ireturn, 1) := by decide +kernel
theorem dX2_reach_19 : decode cX2_reach 19 = .ok (.iload_n 2, 1) := by decide +kernel
theorem dX2_reach_20 : decode cX2_reach 20 = .ok (.iconst 0, 1) := by decide +kernel
theorem dX2_reach_21 : decode cX2_reach 21 = .ok (.bipush 99, 2) := by decide +kernel
theorem dX2_reach_23 : decode cX2_reach 23 = .ok (.invokestatic 52, 3) := by decide +kernel
theorem dX2_reach_26 : decode cX2_reach 26 = .ok (.ifCond .ne 9, 3) := by decide +kernel
theorem dX2_reach_29 : decode cX2_reach 29 = .ok (.aload_n 0, 1) := by decide +kernel
theorem dX2_reach_30 : decode cX2_reach 30 = .ok (.iconst 2, 1) := by decide +kernel
theorem dX2_reach_31 : decode cX2_reach 31 = .ok (.invokevirtual 95, 3) := by decide +kernel
theorem dX2_reach_34 : decode cX2_reach 34 = .ok (.ireturn, 1) := by decide +kernel
theorem dX2_reach_35 : decode cX2_reach 35 = .ok (.aload_n 0, 1) := by decide +kernel
theorem dX2_reach_36 : decode cX2_reach 36 = .ok (.iload_n 1, 1) := by decide +kernel
theorem dX2_reach_37 : decode cX2_reach 37 = .ok (.invokevirtual 130, 3) := by decide +kernel
theorem dX2_reach_40 : decode cX2_reach 40 = .ok (.pop, 1) := by decide +kernel
theorem dX2_reach_41 : decode cX2_reach 41 = .ok (.iconst 0, 1) := by decide +kernel
theorem dX2_reach_42 : decode cX2_reach 42 = .ok (.istore_n 3, 1) := by decide +kernel
theorem dX2_reach_43 : decode cX2_reach 43 = .ok (.iconst 0, 1) := by decide +kernel
theorem dX2_reach_44 : decode cX2_reach 44 = .ok (.istore 4, 2) := by decide +kernel
theorem dX2_reach_46 : decode cX2_reach 46 = .ok (.iload 4, 2) := by decide +kernel
theorem dX2_reach_48 : decode cX2_reach 48 = .ok (.aload_n 0, 1) := by decide +kernel
theorem dX2_reach_49 : decode cX2_reach 49 = .ok (.getfield 49, 3) := by decide +kernel
theorem dX2_reach_52 : decode cX2_reach 52 = .ok (.if_icmp .ge 39, 3) := by decide +kernel
theorem dX2_reach_55 : decode cX2_reach 55 = .ok (.iload_n 3, 1) := by decide +kernel
theorem dX2_reach_56 : decode cX2_reach 56 = .ok (.aload_n 0, 1) := by decide +kernel
theorem dX2_reach_57 : decode cX2_reach 57 = .ok (.getfield 32, 3) := by decide +kernel
theorem dX2_reach_60 : decode cX2_reach 60 = .ok (.iload 4, 2) := by decide +kernel
theorem dX2_reach_62 : decode cX2_reach 62 = .ok (.iaload, 1) := by decide +kernel
theorem dX2_reach_63 : decode cX2_reach 63 = .ok (.iconst (-1), 1) := by decide +kernel
theorem dX2_reach_64 : decode cX2_reach 64 = .ok (.if_icmp .eq 18, 3) := by decide +kernel
theorem dX2_reach_67 : decode cX2_reach 67 = .ok (.aload_n 0, 1) := by decide +kernel
theorem dX2_reach_68 : decode cX2_reach 68 = .ok (.getfield 32, 3) := by decide +kernel
theorem dX2_reach_71 : decode cX2_reach 71 = .ok (.iload 4, 2) := by decide +kernel
theorem dX2_reach_73 : decode cX2_reach 73 = .ok (.iaload, 1) := by decide +kernel
theorem dX2_reach_74 : decode cX2_reach 74 = .ok (.iload_n 2, 1) := by decide +kernel
theorem dX2_reach_75 : decode cX2_reach 75 = .ok (.if_icmp .gt 7, 3) := by decide +kernel
theorem dX2_reach_78 : decode cX2_reach 78 = .ok (.iconst 1, 1) := by decide +kernel
theorem dX2_reach_79 : decode cX2_reach 79 = .ok (.goto 4, 3) := by decide +kernel
theorem dX2_reach_82 : decode cX2_reach 82 = .ok (.iconst 0, 1) := by decide +kernel
theorem dX2_reach_83 : decode cX2_reach 83 = .ok (.iadd, 1) := by decide +kernel
theorem dX2_reach_84 : decode cX2_reach 84 = .ok (.istore_n 3, 1) := by decide +kernel
theorem dX2_reach_85 : decode cX2_reach 85 = .ok (.iinc 4 1, 3) := by decide +kernel
theorem dX2_reach_88 : decode cX2_reach 88 = .ok (.goto (-42), 3) := by decide +kernel
theorem dX2_reach_91 : decode cX2_reach 91 = .ok (.iload_n 3, 1) := by decide +kernel
theorem dX2_reach_92 : decode cX2_reach 92 = .ok (.ireturn, 1) := by decide +kernel
theorem dX2_standing_0 : decode cX2_standing 0 = .ok (.iconst 0, 1) := by decide +kernel
theorem dX2_standing_1 : decode cX2_standing 1 = .ok (.istore_n 3, 1) := by decide +kernel
theorem dX2_standing_2 : decode cX2_standing 2 = .ok (.iconst 0, 1) := by decide +kernel
theorem dX2_standing_3 : decode cX2_standing 3 = .ok (.istore 4, 2) := by decide +kernel
theorem dX2_standing_5 : decode cX2_standing 5 = .ok (.iload 4, 2) := by decide +kernel
theorem dX2_standing_7 : decode cX2_standing 7 = .ok (.aload_n 0, 1) := by decide +kernel
theorem dX2_standing_8 : decode cX2_standing 8 = .ok (.getfield 49, 3) := by decide +kernel
theorem dX2_standing_11 : decode cX2_standing 11 = .ok (.if_icmp .ge 44, 3) := by decide +kernel
theorem dX2_standing_14 : decode cX2_standing 14 = .ok (.iload_n 3, 1) := by decide +kernel
theorem dX2_standing_15 : decode cX2_standing 15 = .ok (.iload_n 1, 1) := by decide +kernel
theorem dX2_standing_16 : decode cX2_standing 16 = .ok (.iconst (-1), 1) := by decide +kernel
theorem dX2_standing_17 : decode cX2_standing 17 = .ok (.if_icmp .eq 14, 3) := by decide +kernel
theorem dX2_standing_20 : decode cX2_standing 20 = .ok (.aload_n 0, 1) := by decide +kernel
theorem dX2_standing_21 : decode cX2_standing 21 = .ok (.getfield 16, 3) := by decide +kernel
theorem dX2_standing_24 : decode cX2_standing 24 = .ok (.iload 4, 2) := by decide +kernel
theorem dX2_standing_26 : decode cX2_standing 26 = .ok (.iaload, 1) := by decide +kernel
theorem dX2_standing_27 : decode cX2_standing 27 = .ok (.iload_n 1, 1) := by decide +kernel
theorem dX2_standing_28 : decode cX2_standing 28 = .ok (.if_icmp .ne 18, 3) := by decide +kernel
theorem dX2_standing_31 : decode cX2_standing 31 = .ok (.aload_n 0, 1) := by decide +kernel
theorem dX2_standing_32 : decode cX2_standing 32 = .ok (.getfield 19, 3) := by decide +kernel
theorem dX2_standing_35 : decode cX2_standing 35 = .ok (.iload 4, 2) := by decide +kernel
theorem dX2_standing_37 : decode cX2_standing 37 = .ok (.iaload, 1) := by decide +kernel
theorem dX2_standing_38 : decode cX2_standing 38 = .ok (.iload_n 2, 1) := by decide +kernel
theorem dX2_standing_39 : decode cX2_standing 39 = .ok (.if_icmp .ne 7, 3) := by decide +kernel
theorem dX2_standing_42 : decode cX2_standing 42 = .ok (.iconst 1, 1) := by decide +kernel
theorem dX2_standing_43 : decode cX2_standing 43 = .ok (.goto 4, 3) := by decide +kernel
theorem dX2_standing_46 : decode cX2_standing 46 = .ok (.iconst 0, 1) := by decide +kernel
theorem dX2_standing_47 : decode cX2_standing 47 = .ok (.iadd, 1) := by decide +kernel
theorem dX2_standing_48 : decode cX2_standing 48 = .ok (.istore_n 3, 1) := by decide +kernel
theorem dX2_standing_49 : decode cX2_standing 49 = .ok (.iinc 4 1, 3) := by decide +kernel
theorem dX2_standing_52 : decode cX2_standing 52 = .ok (.goto (-47), 3) := by decide +kernel
theorem dX2_standing_55 : decode cX2_standing 55 = .ok (.iload_n 3, 1) := by decide +kernel
theorem dX2_standing_56 : decode cX2_standing 56 = .ok (.ireturn, 1) := by decide +kernel
set_option maxRecDepth 20000 in
theorem ggX2_ringTold_X2_size : GoodIn wsX2_ringTold wsX2_size := goodIn_r _ [5] (by decide +kernel) (by decide +kernel)
set_option maxRecDepth 20000 in
theorem gX2_ringTold_X2_size : GoodIn wsX2_ringTold (va_wsS RX2 82 yX2_size wsX2_size) := goodIn_app (goodIn_of _ (by decide +kernel)) ggX2_ringTold_X2_size
set_option maxRecDepth 20000 in
theorem ggX2_ringTold_X2_standing : GoodIn wsX2_ringTold wsX2_standing := goodIn_r _ [9, 10, 11, 12, 45, 46, 47, 48, 49, 50, 51, 52, 53, 54, 55, 56, 57] (by decide +kernel) (by decide +kernel)
set_option maxRecDepth 20000 in
theorem gX2_ringTold_X2_standing : GoodIn wsX2_ringTold (wsV RX2 133 RX2 yX2_standing wsX2_standing) := goodIn_app (goodIn_of _ (by decide +kernel)) ggX2_ringTold_X2_standing
set_option maxRecDepth 20000 in
theorem ggX2_ringTold_X2_lit : GoodIn wsX2_ringTold wsX2_lit := goodIn_r _ [16, 10, 1, 12, 17, 18, 19, 4, 20, 21, 22, 23, 24, 25, 26, 27, 28, 29, 30, 31, 32, 33, 34, 35, 36, 37, 38, 39, 40, 41, 45, 46, 47, 48, 49, 50, 51, 52, 53, 54, 55, 56, 57] (by decide +kernel) (by decide +kernel)
set_option maxRecDepth 20000 in
theorem gX2_ringTold_X2_lit : GoodIn wsX2_ringTold (wsV RX2 112 RX2 yX2_lit wsX2_lit) := goodIn_app (goodIn_of _ (by decide +kernel)) ggX2_ringTold_X2_lit
set_option maxRecDepth 20000 in
theorem ggX2_ringTold_X2_first : GoodIn wsX2_ringTold wsX2_first := goodIn_r _ [44] (by decide +kernel) (by decide +kernel)
set_option maxRecDepth 20000 in
theorem gX2_ringTold_X2_first : GoodIn wsX2_ringTold (va_wsS RX2 86 yX2_first wsX2_first) := goodIn_app (goodIn_of _ (by decide +kernel)) ggX2_ringTold_X2_first
theorem dX2_ringTold_0 : decode cX2_ringTold 0 = .ok (.iload_n 2, 1) := by decide +kernel
theorem dX2_ringTold_1 : decode cX2_ringTold 1 = .ok (.ifCond .ne 8, 3) := by decide +kernel
theorem dX2_ringTold_4 : decode cX2_ringTold 4 = .ok (.iload_n 1, 1) := by decide +kernel
theorem dX2_ringTold_5 : decode cX2_ringTold 5 = .ok (.invokestatic 82, 3) := by decide +kernel
theorem dX2_ringTold_8 : decode cX2_ringTold 8 = .ok (.ireturn, 1) := by decide +kernel
theorem dX2_ringTold_9 : decode cX2_ringTold 9 = .ok (.iload_n 2, 1) := by decide +kernel
theorem dX2_ringTold_10 : decode cX2_ringTold 10 = .ok (.iconst 3, 1) := by decide +kernel
theorem dX2_ringTold_11 : decode cX2_ringTold 11 = .ok (.if_icmp .ge 19, 3) := by decide +kernel
theorem dX2_ringTold_14 : decode cX2_ringTold 14 = .ok (.aload_n 0, 1) := by decide +kernel
theorem dX2_ringTold_15 : decode cX2_ringTold 15 = .ok (.iload_n 1, 1) := by decide +kernel
theorem dX2_ringTold_16 : decode cX2_ringTold 16 = .ok (.iload_n 2, 1) := by decide +kernel
theorem dX2_ringTold_17 : decode cX2_ringTold 17 = .ok (.iconst 1, 1) := by decide +kernel
theorem dX2_ringTold_18 : decode cX2_ringTold 18 = .ok (.if_icmp .ne 7, 3) := by decide +kernel
theorem dX2_ringTold_21 : decode cX2_ringTold 21 = .ok (.iconst 1, 1) := by decide +kernel
theorem dX2_ringTold_22 : decode cX2_ringTold 22 = .ok (.goto 4, 3) := by decide +kernel
theorem dX2_ringTold_25 : decode cX2_ringTold 25 = .ok (.iconst 2, 1) := by decide +kernel
theorem dX2_ringTold_26 : decode cX2_ringTold 26 = .ok (.invokevirtual 133, 3) := by decide +kernel
theorem dX2_ringTold_29 : decode cX2_ringTold 29 = .ok (.ireturn, 1) := by decide +kernel
theorem dX2_ringTold_30 : decode cX2_ringTold 30 = .ok (.aload_n 0, 1) := by decide +kernel
theorem dX2_ringTold_31 : decode cX2_ringTold 31 = .ok (.invokevirtual 112, 3) := by decide +kernel
theorem dX2_ringTold_34 : decode cX2_ringTold 34 = .ok (.pop, 1) := by decide +kernel
theorem dX2_ringTold_35 : decode cX2_ringTold 35 = .ok (.iconst 0, 1) := by decide +kernel
theorem dX2_ringTold_36 : decode cX2_ringTold 36 = .ok (.istore_n 3, 1) := by decide +kernel
theorem dX2_ringTold_37 : decode cX2_ringTold 37 = .ok (.iconst 0, 1) := by decide +kernel
theorem dX2_ringTold_38 : decode cX2_ringTold 38 = .ok (.istore 4, 2) := by decide +kernel
theorem dX2_ringTold_40 : decode cX2_ringTold 40 = .ok (.iload 4, 2) := by decide +kernel
theorem dX2_ringTold_42 : decode cX2_ringTold 42 = .ok (.iload_n 1, 1) := by decide +kernel
theorem dX2_ringTold_43 : decode cX2_ringTold 43 = .ok (.invokestatic 82, 3) := by decide +kernel
theorem dX2_ringTold_46 : decode cX2_ringTold 46 = .ok (.if_icmp .ge 32, 3) := by decide +kernel
theorem dX2_ringTold_49 : decode cX2_ringTold 49 = .ok (.iload_n 3, 1) := by decide +kernel
theorem dX2_ringTold_50 : decode cX2_ringTold 50 = .ok (.aload_n 0, 1) := by decide +kernel
theorem dX2_ringTold_51 : decode cX2_ringTold 51 = .ok (.getfield 29, 3) := by decide +kernel
theorem dX2_ringTold_54 : decode cX2_ringTold 54 = .ok (.iload_n 1, 1) := by decide +kernel
theorem dX2_ringTold_55 : decode cX2_ringTold 55 = .ok (.invokestatic 86, 3) := by decide +kernel
theorem dX2_ringTold_58 : decode cX2_ringTold 58 = .ok (.iload 4, 2) := by decide +kernel
theorem dX2_ringTold_60 : decode cX2_ringTold 60 = .ok (.iadd, 1) := by decide +kernel
theorem dX2_ringTold_61 : decode cX2_ringTold 61 = .ok (.iaload, 1) := by decide +kernel
theorem dX2_ringTold_62 : decode cX2_ringTold 62 = .ok (.ifCond .le 7, 3) := by decide +kernel
theorem dX2_ringTold_65 : decode cX2_ringTold 65 = .ok (.iconst 1, 1) := by decide +kernel
theorem dX2_ringTold_66 : decode cX2_ringTold 66 = .ok (.goto 4, 3) := by decide +kernel
theorem dX2_ringTold_69 : decode cX2_ringTold 69 = .ok (.iconst 0, 1) := by decide +kernel
theorem dX2_ringTold_70 : decode cX2_ringTold 70 = .ok (.iadd, 1) := by decide +kernel
theorem dX2_ringTold_71 : decode cX2_ringTold 71 = .ok (.istore_n 3, 1) := by decide +kernel
theorem dX2_ringTold_72 : decode cX2_ringTold 72 = .ok (.iinc 4 1, 3) := by decide +kernel
theorem dX2_ringTold_75 : decode cX2_ringTold 75 = .ok (.goto (-35), 3) := by decide +kernel
theorem dX2_ringTold_78 : decode cX2_ringTold 78 = .ok (.iload_n 3, 1) := by decide +kernel
theorem dX2_ringTold_79 : decode cX2_ringTold 79 = .ok (.ireturn, 1) := by decide +kernel
set_option maxRecDepth 20000 in
theorem ggX2_ring_X2_isRing : GoodIn wsX2_ring wsX2_isRing := goodIn_r _ [6, 7, 8, 9, 5, 10, 59, 60, 61, 62, 63, 64, 65, 66, 67, 68, 69, 70, 71] (by decide +kernel) (by decide +kernel)
set_option maxRecDepth 20000 in
theorem gX2_ring_X2_isRing : GoodIn wsX2_ring (wsV RX2 105 RX2 yX2_isRing wsX2_isRing) := goodIn_app (goodIn_of _ (by decide +kernel)) ggX2_ring_X2_isRing
set_option maxRecDepth 20000 in
theorem ggX2_ring_X2_isIn : GoodIn wsX2_ring wsX2_isIn := goodIn_r _ [10] (by decide +kernel) (by decide +kernel)
set_option maxRecDepth 20000 in
theorem gX2_ring_X2_isIn : GoodIn wsX2_ring (va_wsS RX2 52 yX2_isIn wsX2_isIn) := goodIn_app (goodIn_of _ (by decide +kernel)) ggX2_ring_X2_isIn
set_option maxRecDepth 20000 in
theorem ggX2_ring_X2_ringTold : GoodIn wsX2_ring wsX2_ringTold := goodIn_r _ [14, 15, 16, 17, 5, 18, 19, 20, 21, 22, 23, 24, 25, 26, 27, 28, 29, 30, 31, 32, 33, 34, 35, 36, 37, 38, 39, 40, 41, 42, 43, 44, 45, 46, 47, 48, 49, 50, 51, 8, 9, 10, 52, 53, 54, 59, 60, 61, 62, 63, 64, 65, 66, 67, 68, 69, 70, 71] (by decide +kernel) (by decide +kernel)
set_option maxRecDepth 20000 in
theorem gX2_ring_X2_ringTold : GoodIn wsX2_ring (wsV RX2 136 RX2 yX2_ringTold wsX2_ringTold) := goodIn_app (goodIn_of _ (by decide +kernel)) ggX2_ring_X2_ringTold
set_option maxRecDepth 20000 in
theorem ggX2_ring_X2_fail : GoodIn wsX2_ring wsX2_fail := goodIn_r _ [58, 1, 59, 60, 61, 62, 63, 64, 65, 66, 67, 68, 69, 70, 71] (by decide +kernel) (by decide +kernel)
set_option maxRecDepth 20000 in
theorem gX2_ring_X2_fail : GoodIn wsX2_ring (wsV RX2 95 RX2 yX2_fail wsX2_fail) := goodIn_app (goodIn_of _ (by decide +kernel)) ggX2_ring_X2_fail
theorem dX2_ring_0 : decode cX2_ring 0 = .ok (.aload_n 0, 1) := by decide +kernel
theorem dX2_ring_1 : decode cX2_ring 1 = .ok (.iconst 0, 1) := by decide +kernel
theorem dX2_ring_2 : decode cX2_ring 2 = .ok (.putfield 45, 3) := by decide +kernel
theorem dX2_ring_5 : decode cX2_ring 5 = .ok (.aload_n 0, 1) := by decide +kernel
theorem dX2_ring_6 : decode cX2_ring 6 = .ok (.iload_n 1, 1) := by decide +kernel
theorem dX2_ring_7 : decode cX2_ring 7 = .ok (.invokevirtual 105, 3) := by decide +kernel
theorem dX2_ring_10 : decode cX2_ring 10 = .ok (.ifCond .eq 21, 3) := by decide +kernel
theorem dX2_ring_13 : decode cX2_ring 13 = .ok (.iload_n 2, 1) := by decide +kernel
theorem dX2_ring_14 : decode cX2_ring 14 = .ok (.iconst 0, 1) := by decide +kernel
theorem dX2_ring_15 : decode cX2_ring 15 = .ok (.iconst 3, 1) := by decide +kernel
theorem dX2_ring_16 : decode cX2_ring 16 = .ok (.invokestatic 52, 3) := by decide +kernel
theorem dX2_ring_19 : decode cX2_ring 19 = .ok (.ifCond .eq 12, 3) := by decide +kernel
theorem dX2_ring_22 : decode cX2_ring 22 = .ok (.aload_n 0, 1) := by decide +kernel
theorem dX2_ring_23 : decode cX2_ring 23 = .ok (.iload_n 1, 1) := by decide +kernel
theorem dX2_ring_24 : decode cX2_ring 24 = .ok (.iload_n 2, 1) := by decide +kernel
theorem dX2_ring_25 : decode cX2_ring 25 = .ok (.invokevirtual 136, 3) := by decide +kernel
theorem dX2_ring_28 : decode cX2_ring 28 = .ok (.goto 8, 3) := by decide +kernel
theorem dX2_ring_31 : decode cX2_ring 31 = .ok (.aload_n 0, 1) := by decide +kernel
theorem dX2_ring_32 : decode cX2_ring 32 = .ok (.iconst 1, 1) := by decide +kernel
theorem dX2_ring_33 : decode cX2_ring 33 = .ok (.invokevirtual 95, 3) := by decide +kernel
theorem dX2_ring_36 : decode cX2_ring 36 = .ok (.ireturn, 1) := by decide +kernel
set_option maxRecDepth 20000 in
theorem ggX2_parts_X2_spread : GoodIn wsX2_parts wsX2_spread := goodIn_r _ [8, 1, 3, 9, 10, 11, 12, 7, 13, 14, 2, 15, 16, 17, 18, 19, 20, 21, 22, 23, 24, 25, 26, 27, 28, 29, 30, 31, 32, 33, 34, 35, 36, 37, 38, 39, 40, 41, 42, 43] (by decide +kernel) (by decide +kernel)
set_option maxRecDepth 20000 in
theorem gX2_parts_X2_spread : GoodIn wsX2_parts (wsV RX2 130 RX2 yX2_spread wsX2_spread) := goodIn_app (goodIn_of _ (by decide +kernel)) ggX2_parts_X2_spread
theorem dX2_parts_0 : decode cX2_parts 0 = .ok (.iconst 0, 1) := by decide +kernel
theorem dX2_parts_1 : decode cX2_parts 1 = .ok (.istore_n 1, 1) := by decide +kernel
theorem dX2_parts_2 : decode cX2_parts 2 = .ok (.iconst 0, 1) := by decide +kernel
theorem dX2_parts_3 : decode cX2_parts 3 = .ok (.istore_n 2, 1) := by decide +kernel
theorem dX2_parts_4 : decode cX2_parts 4 = .ok (.iload_n 2, 1) := by decide +kernel
theorem dX2_parts_5 : decode cX2_parts 5 = .ok (.aload_n 0, 1) := by decide +kernel
theorem dX2_parts_6 : decode cX2_parts 6 = .ok (.getfield 49, 3) := by decide +kernel
theorem dX2_parts_9 : decode cX2_parts 9 = .ok (.if_icmp .ge 78, 3) := by decide +kernel
theorem dX2_parts_12 : decode cX2_parts 12 = .ok (.aload_n 0, 1) := by decide +kernel
theorem dX2_parts_13 : decode cX2_parts 13 = .ok (.getfield 19, 3) := by decide +kernel
theorem dX2_parts_16 : decode cX2_parts 16 = .ok (.iload_n 2, 1) := by decide +kernel
theorem dX2_parts_17 : decode cX2_parts 17 = .ok (.iaload, 1) := by decide +kernel
theorem dX2_parts_18 : decode cX2_parts 18 = .ok (.iconst 1, 1) := by decide +kernel
theorem dX2_parts_19 : decode cX2_parts 19 = .ok (.if_icmp .ne 6, 3) := by decide +kernel
theorem dX2_parts_22 : decode cX2_parts 22 = .ok (.goto 59, 3) := by decide +kernel
theorem dX2_parts_25 : decode cX2_parts 25 = .ok (.aload_n 0, 1) := by decide +kernel
theorem dX2_parts_26 : decode cX2_parts 26 = .ok (.iload_n 2, 1) := by decide +kernel
theorem dX2_parts_27 : decode cX2_parts 27 = .ok (.invokevirtual 130, 3) := by decide +kernel
theorem dX2_parts_30 : decode cX2_parts 30 = .ok (.pop, 1) := by decide +kernel
theorem dX2_parts_31 : decode cX2_parts 31 = .ok (.iconst 1, 1) := by decide +kernel
theorem dX2_parts_32 : decode cX2_parts 32 = .ok (.istore_n 3, 1) := by decide +kernel
theorem dX2_parts_33 : decode cX2_parts 33 = .ok (.iconst 0, 1) := by decide +kernel
theorem dX2_parts_34 : decode cX2_parts 34 = .ok (.istore 4, 2) := by decide +kernel
theorem dX2_parts_36 : decode cX2_parts 36 = .ok (.iload 4, 2) := by decide +kernel
theorem dX2_parts_38 : decode cX2_parts 38 = .ok (.iload_n 2, 1) := by decide +kernel
theorem dX2_parts_39 : decode cX2_parts 39 = .ok (.if_icmp .ge 30, 3) := by decide +kernel
theorem dX2_parts_42 : decode cX2_parts 42 = .ok (.iload_n 3, 1) := by decide +kernel
theorem dX2_parts_43 : decode cX2_parts 43 = .ok (.ifCond .eq 18, 3) := by decide +kernel
theorem dX2_parts_46 : decode cX2_parts 46 = .ok (.aload_n 0, 1) := by decide +kernel
theorem dX2_parts_47 : decode cX2_parts 47 = .ok (.getfield 32, 3) := by decide +kernel
theorem dX2_parts_50 : decode cX2_parts 50 = .ok (.iload 4, 2) := by decide +kernel
theorem dX2_parts_52 : decode cX2_parts 52 = .ok (.iaload, 1) := by decide +kernel
theorem dX2_parts_53 : decode cX2_parts 53 = .ok (.iconst (-1), 1) := by decide +kernel
theorem dX2_parts_54 : decode cX2_parts 54 = .ok (.if_icmp .ne 7, 3) := by decide +kernel
theorem dX2_parts_57 : decode cX2_parts 57 = .ok (.iconst 1, 1) := by decide +kernel
theorem dX2_parts_58 : decode cX2_parts 58 = .ok (.goto 4, 3) := by decide +kernel
theorem dX2_parts_61 : decode cX2_parts 61 = .ok (.iconst 0, 1) := by decide +kernel
theorem dX2_parts_62 : decode cX2_parts 62 = .ok (.istore_n 3, 1) := by decide +kernel
theorem dX2_parts_63 : decode cX2_parts 63 = .ok (.iinc 4 1, 3) := by decide +kernel
theorem dX2_parts_66 : decode cX2_parts 66 = .ok (.goto (-30), 3) := by decide +kernel
theorem dX2_parts_69 : decode cX2_parts 69 = .ok (.iload_n 1, 1) := by decide +kernel
theorem dX2_parts_70 : decode cX2_parts 70 = .ok (.iload_n 3, 1) := by decide +kernel
theorem dX2_parts_71 : decode cX2_parts 71 = .ok (.ifCond .eq 7, 3) := by decide +kernel
theorem dX2_parts_74 : decode cX2_parts 74 = .ok (.iconst 1, 1) := by decide +kernel
theorem dX2_parts_75 : decode cX2_parts 75 = .ok (.goto 4, 3) := by decide +kernel
theorem dX2_parts_78 : decode cX2_parts 78 = .ok (.iconst 0, 1) := by decide +kernel
theorem dX2_parts_79 : decode cX2_parts 79 = .ok (.iadd, 1) := by decide +kernel
theorem dX2_parts_80 : decode cX2_parts 80 = .ok (.istore_n 1, 1) := by decide +kernel
theorem dX2_parts_81 : decode cX2_parts 81 = .ok (.iinc 2 1, 3) := by decide +kernel
theorem dX2_parts_84 : decode cX2_parts 84 = .ok (.goto (-80), 3) := by decide +kernel
theorem dX2_parts_87 : decode cX2_parts 87 = .ok (.iload_n 1, 1) := by decide +kernel
theorem dX2_parts_88 : decode cX2_parts 88 = .ok (.ireturn, 1) := by decide +kernel
set_option maxRecDepth 20000 in
theorem ggX2_counted_X2_standing : GoodIn wsX2_counted wsX2_standing := goodIn_r _ [8, 1, 9, 10, 50, 51, 52, 53, 54, 55, 56, 57, 58, 59, 60, 61, 62] (by decide +kernel) (by decide +kernel)
set_option maxRecDepth 20000 in
theorem gX2_counted_X2_standing : GoodIn wsX2_counted (wsV RX2 133 RX2 yX2_standing wsX2_standing) := goodIn_app (goodIn_of _ (by decide +kernel)) ggX2_counted_X2_standing
set_option maxRecDepth 20000 in
theorem ggX2_counted_X2_lit : GoodIn wsX2_counted wsX2_lit := goodIn_r _ [14, 1, 15, 10, 16, 17, 18, 7, 19, 20, 21, 22, 23, 3, 24, 25, 26, 27, 28, 29, 30, 31, 32, 33, 34, 35, 36, 37, 38, 39, 50, 51, 52, 53, 54, 55, 56, 57, 58, 59, 60, 61, 62] (by decide +kernel) (by decide +kernel)
set_option maxRecDepth 20000 in
theorem gX2_counted_X2_lit : GoodIn wsX2_counted (wsV RX2 112 RX2 yX2_lit wsX2_lit) := goodIn_app (goodIn_of _ (by decide +kernel)) ggX2_counted_X2_lit
set_option maxRecDepth 20000 in
theorem ggX2_counted_X2_parts : GoodIn wsX2_counted wsX2_parts := goodIn_r _ [43, 1, 10, 44, 45, 46, 47, 7, 48, 49, 20, 21, 22, 23, 3, 24, 25, 26, 27, 28, 29, 30, 31, 32, 33, 34, 35, 36, 37, 38, 39, 50, 51, 52, 53, 54, 55, 56, 57, 58, 59, 60, 61, 62] (by decide +kernel) (by decide +kernel)
set_option maxRecDepth 20000 in
theorem gX2_counted_X2_parts : GoodIn wsX2_counted (wsV RX2 139 RX2 yX2_parts wsX2_parts) := goodIn_app (goodIn_of _ (by decide +kernel)) ggX2_counted_X2_parts
theorem dX2_counted_0 : decode cX2_counted 0 = .ok (.iconst 0, 1) := by decide +kernel
theorem dX2_counted_1 : decode cX2_counted 1 = .ok (.istore_n 2, 1) := by decide +kernel
theorem dX2_counted_2 : decode cX2_counted 2 = .ok (.iload_n 1, 1) := by decide +kernel
theorem dX2_counted_3 : decode cX2_counted 3 = .ok (.tableswitch 106 0 5 #[37, 42, 47, 54, 61, 101], 37) := by decide +kernel
theorem dX2_counted_40 : decode cX2_counted 40 = .ok (.aload_n 0, 1) := by decide +kernel
theorem dX2_counted_41 : decode cX2_counted 41 = .ok (.getfield 49, 3) := by decide +kernel
theorem dX2_counted_44 : decode cX2_counted 44 = .ok (.ireturn, 1) := by decide +kernel
theorem dX2_counted_45 : decode cX2_counted 45 = .ok (.aload_n 0, 1) := by decide +kernel
theorem dX2_counted_46 : decode cX2_counted 46 = .ok (.getfield 56, 3) := by decide +kernel
theorem dX2_counted_49 : decode cX2_counted 49 = .ok (.ireturn, 1) := by decide +kernel
theorem dX2_counted_50 : decode cX2_counted 50 = .ok (.aload_n 0, 1) := by decide +kernel
theorem dX2_counted_51 : decode cX2_counted 51 = .ok (.iconst (-1), 1) := by decide +kernel
theorem dX2_counted_52 : decode cX2_counted 52 = .ok (.iconst 1, 1) := by decide +kernel
theorem dX2_counted_53 : decode cX2_counted 53 = .ok (.invokevirtual 133, 3) := by decide +kernel
theorem dX2_counted_56 : decode cX2_counted 56 = .ok (.ireturn, 1) := by decide +kernel
theorem dX2_counted_57 : decode cX2_counted 57 = .ok (.aload_n 0, 1) := by decide +kernel
theorem dX2_counted_58 : decode cX2_counted 58 = .ok (.iconst (-1), 1) := by decide +kernel
theorem dX2_counted_59 : decode cX2_counted 59 = .ok (.iconst 2, 1) := by decide +kernel
theorem dX2_counted_60 : decode cX2_counted 60 = .ok (.invokevirtual 133, 3) := by decide +kernel
theorem dX2_counted_63 : decode cX2_counted 63 = .ok (.ireturn, 1) := by decide +kernel
theorem dX2_counted_64 : decode cX2_counted 64 = .ok (.iconst 0, 1) := by decide +kernel
theorem dX2_counted_65 : decode cX2_counted 65 = .ok (.istore_n 3, 1) := by decide +kernel
theorem dX2_counted_66 : decode cX2_counted 66 = .ok (.iload_n 3, 1) := by decide +kernel
theorem dX2_counted_67 : decode cX2_counted 67 = .ok (.bipush 6, 2) := by decide +kernel
theorem dX2_counted_69 : decode cX2_counted 69 = .ok (.aload_n 0, 1) := by decide +kernel
theorem dX2_counted_70 : decode cX2_counted 70 = .ok (.getfield 49, 3) := by decide +kernel
theorem dX2_counted_73 : decode cX2_counted 73 = .ok (.imul, 1) := by decide +kernel
theorem dX2_counted_74 : decode cX2_counted 74 = .ok (.if_icmp .ge 26, 3) := by decide +kernel
theorem dX2_counted_77 : decode cX2_counted 77 = .ok (.iload_n 2, 1) := by decide +kernel
theorem dX2_counted_78 : decode cX2_counted 78 = .ok (.aload_n 0, 1) := by decide +kernel
theorem dX2_counted_79 : decode cX2_counted 79 = .ok (.getfield 25, 3) := by decide +kernel
theorem dX2_counted_82 : decode cX2_counted 82 = .ok (.iload_n 3, 1) := by decide +kernel
theorem dX2_counted_83 : decode cX2_counted 83 = .ok (.baload, 1) := by decide +kernel
theorem dX2_counted_84 : decode cX2_counted 84 = .ok (.ifCond .eq 7, 3) := by decide +kernel
theorem dX2_counted_87 : decode cX2_counted 87 = .ok (.iconst 1, 1) := by decide +kernel
theorem dX2_counted_88 : decode cX2_counted 88 = .ok (.goto 4, 3) := by decide +kernel
theorem dX2_counted_91 : decode cX2_counted 91 = .ok (.iconst 0, 1) := by decide +kernel
theorem dX2_counted_92 : decode cX2_counted 92 = .ok (.iadd, 1) := by decide +kernel
theorem dX2_counted_93 : decode cX2_counted 93 = .ok (.istore_n 2, 1) := by decide +kernel
theorem dX2_counted_94 : decode cX2_counted 94 = .ok (.iinc 3 1, 3) := by decide +kernel
theorem dX2_counted_97 : decode cX2_counted 97 = .ok (.goto (-31), 3) := by decide +kernel
theorem dX2_counted_100 : decode cX2_counted 100 = .ok (.iload_n 2, 1) := by decide +kernel
theorem dX2_counted_101 : decode cX2_counted 101 = .ok (.iconst 2, 1) := by decide +kernel
theorem dX2_counted_102 : decode cX2_counted 102 = .ok (.idiv, 1) := by decide +kernel
theorem dX2_counted_103 : decode cX2_counted 103 = .ok (.ireturn, 1) := by decide +kernel
theorem dX2_counted_104 : decode cX2_counted 104 = .ok (.aload_n 0, 1) := by decide +kernel
theorem dX2_counted_105 : decode cX2_counted 105 = .ok (.invokevirtual 112, 3) := by decide +kernel
theorem dX2_counted_108 : decode cX2_counted 108 = .ok (.ireturn, 1) := by decide +kernel
theorem dX2_counted_109 : decode cX2_counted 109 = .ok (.aload_n 0, 1) := by decide +kernel
theorem dX2_counted_110 : decode cX2_counted 110 = .ok (.invokevirtual 139, 3) := by decide +kernel
theorem dX2_counted_113 : decode cX2_counted 113 = .ok (.ireturn, 1) := by decide +kernel
set_option maxRecDepth 20000 in
theorem ggX2_count_X2_isIn : GoodIn wsX2_count wsX2_isIn := goodIn_r _ [5] (by decide +kernel) (by decide +kernel)
set_option maxRecDepth 20000 in
theorem gX2_count_X2_isIn : GoodIn wsX2_count (va_wsS RX2 52 yX2_isIn wsX2_isIn) := goodIn_app (goodIn_of _ (by decide +kernel)) ggX2_count_X2_isIn
set_option maxRecDepth 20000 in
theorem ggX2_count_X2_counted : GoodIn wsX2_count wsX2_counted := goodIn_r _ [9, 10, 11, 12, 13, 14, 15, 4, 16, 17, 18, 19, 20, 21, 22, 23, 24, 25, 26, 27, 28, 29, 30, 31, 32, 33, 34, 35, 36, 37, 38, 39, 40, 41, 42, 43, 44, 2, 3, 5, 45, 46, 47, 48, 49, 50, 51, 52, 53, 54, 59, 60, 61, 62, 63, 64, 65, 66, 67, 68, 69, 70, 71] (by decide +kernel) (by decide +kernel)
set_option maxRecDepth 20000 in
theorem gX2_count_X2_counted : GoodIn wsX2_count (wsV RX2 142 RX2 yX2_counted wsX2_counted) := goodIn_app (goodIn_of _ (by decide +kernel)) ggX2_count_X2_counted
set_option maxRecDepth 20000 in
theorem ggX2_count_X2_fail : GoodIn wsX2_count wsX2_fail := goodIn_r _ [58, 1, 59, 60, 61, 62, 63, 64, 65, 66, 67, 68, 69, 70, 71] (by decide +kernel) (by decide +kernel)
set_option maxRecDepth 20000 in
theorem gX2_count_X2_fail : GoodIn wsX2_count (wsV RX2 95 RX2 yX2_fail wsX2_fail) := goodIn_app (goodIn_of _ (by decide +kernel)) ggX2_count_X2_fail
theorem dX2_count_0 : decode cX2_count 0 = .ok (.aload_n 0, 1) := by decide +kernel
theorem dX2_count_1 : decode cX2_count 1 = .ok (.iconst 0, 1) := by decide +kernel
theorem dX2_count_2 : decode cX2_count 2 = .ok (.putfield 45, 3) := by decide +kernel
theorem dX2_count_5 : decode cX2_count 5 = .ok (.iload_n 1, 1) := by decide +kernel
theorem dX2_count_6 : decode cX2_count 6 = .ok (.iconst 0, 1) := by decide +kernel
theorem dX2_count_7 : decode cX2_count 7 = .ok (.bipush 6, 2) := by decide +kernel
theorem dX2_count_9 : decode cX2_count 9 = .ok (.invokestatic 52, 3) := by decide +kernel
theorem dX2_count_12 : decode cX2_count 12 = .ok (.ifCond .eq 11, 3) := by decide +kernel
theorem dX2_count_15 : decode cX2_count 15 = .ok (.aload_n 0, 1) := by decide +kernel
theorem dX2_count_16 : decode cX2_count 16 = .ok (.iload_n 1, 1) := by decide +kernel
theorem dX2_count_17 : decode cX2_count 17 = .ok (.invokevirtual 142, 3) := by decide +kernel
theorem dX2_count_20 : decode cX2_count 20 = .ok (.goto 8, 3) := by decide +kernel
theorem dX2_count_23 : decode cX2_count 23 = .ok (.aload_n 0, 1) := by decide +kernel
theorem dX2_count_24 : decode cX2_count 24 = .ok (.iconst 1, 1) := by decide +kernel
theorem dX2_count_25 : decode cX2_count 25 = .ok (.invokevirtual 95, 3) := by decide +kernel
theorem dX2_count_28 : decode cX2_count 28 = .ok (.ireturn, 1) := by decide +kernel
set_option maxRecDepth 20000 in
theorem ggX2_isAlike_X2_size : GoodIn wsX2_isAlike wsX2_size := goodIn_r _ [6] (by decide +kernel) (by decide +kernel)
set_option maxRecDepth 20000 in
theorem gX2_isAlike_X2_size : GoodIn wsX2_isAlike (va_wsS RX2 82 yX2_size wsX2_size) := goodIn_app (goodIn_of _ (by decide +kernel)) ggX2_isAlike_X2_size
set_option maxRecDepth 20000 in
theorem ggX2_isAlike_X2_first : GoodIn wsX2_isAlike wsX2_first := goodIn_r _ [9] (by decide +kernel) (by decide +kernel)
set_option maxRecDepth 20000 in
theorem gX2_isAlike_X2_first : GoodIn wsX2_isAlike (va_wsS RX2 86 yX2_first wsX2_first) := goodIn_app (goodIn_of _ (by decide +kernel)) ggX2_isAlike_X2_first
theorem dX2_isAlike_0 : decode cX2_isAlike 0 = .ok (.iconst 1, 1) := by decide +kernel
theorem dX2_isAlike_1 : decode cX2_isAlike 1 = .ok (.istore_n 2, 1) := by decide +kernel
theorem dX2_isAlike_2 : decode cX2_isAlike 2 = .ok (.iload_n 2, 1) := by decide +kernel
theorem dX2_isAlike_3 : decode cX2_isAlike 3 = .ok (.aload_n 0, 1) := by decide +kernel
theorem dX2_isAlike_4 : decode cX2_isAlike 4 = .ok (.getfield 56, 3) := by decide +kernel
theorem dX2_isAlike_7 : decode cX2_isAlike 7 = .ok (.if_icmp .gt 64, 3) := by decide +kernel
theorem dX2_isAlike_10 : decode cX2_isAlike 10 = .ok (.iload_n 2, 1) := by decide +kernel
theorem dX2_isAlike_11 : decode cX2_isAlike 11 = .ok (.invokestatic 82, 3) := by decide +kernel
theorem dX2_isAlike_14 : decode cX2_isAlike 14 = .ok (.istore_n 3, 1) := by decide +kernel
theorem dX2_isAlike_15 : decode cX2_isAlike 15 = .ok (.iconst 0, 1) := by decide +kernel
theorem dX2_isAlike_16 : decode cX2_isAlike 16 = .ok (.istore 4, 2) := by decide +kernel
theorem dX2_isAlike_18 : decode cX2_isAlike 18 = .ok (.iload 4, 2) := by decide +kernel
theorem dX2_isAlike_20 : decode cX2_isAlike 20 = .ok (.iload_n 3, 1) := by decide +kernel
theorem dX2_isAlike_21 : decode cX2_isAlike 21 = .ok (.if_icmp .ge 44, 3) := by decide +kernel
theorem dX2_isAlike_24 : decode cX2_isAlike 24 = .ok (.aload_n 0, 1) := by decide +kernel
theorem dX2_isAlike_25 : decode cX2_isAlike 25 = .ok (.getfield 19, 3) := by decide +kernel
theorem dX2_isAlike_28 : decode cX2_isAlike 28 = .ok (.iload_n 2, 1) := by decide +kernel
theorem dX2_isAlike_29 : decode cX2_isAlike 29 = .ok (.invokestatic 86, 3) := by decide +kernel
theorem dX2_isAlike_32 : decode cX2_isAlike 32 = .ok (.iload 4, 2) := by decide +kernel
theorem dX2_isAlike_34 : decode cX2_isAlike 34 = .ok (.iadd, 1) := by decide +kernel
theorem dX2_isAlike_35 : decode cX2_isAlike 35 = .ok (.iaload, 1) := by decide +kernel
theorem dX2_isAlike_36 : decode cX2_isAlike 36 = .ok (.aload_n 0, 1) := by decide +kernel
theorem dX2_isAlike_37 : decode cX2_isAlike 37 = .ok (.getfield 19, 3) := by decide +kernel
theorem dX2_isAlike_40 : decode cX2_isAlike 40 = .ok (.iload_n 2, 1) := by decide +kernel
theorem dX2_isAlike_41 : decode cX2_isAlike 41 = .ok (.invokestatic 86, 3) := by decide +kernel
theorem dX2_isAlike_44 : decode cX2_isAlike 44 = .ok (.iload 4, 2) := by decide +kernel
theorem dX2_isAlike_46 : decode cX2_isAlike 46 = .ok (.iload_n 2, 1) := by decide +kernel
theorem dX2_isAlike_47 : decode cX2_isAlike 47 = .ok (.iload_n 1, 1) := by decide +kernel
theorem dX2_isAlike_48 : decode cX2_isAlike 48 = .ok (.imul, 1) := by decide +kernel
theorem dX2_isAlike_49 : decode cX2_isAlike 49 = .ok (.iadd, 1) := by decide +kernel
theorem dX2_isAlike_50 : decode cX2_isAlike 50 = .ok (.iload_n 3, 1) := by decide +kernel
theorem dX2_isAlike_51 : decode cX2_isAlike 51 = .ok (.irem, 1) := by decide +kernel
theorem dX2_isAlike_52 : decode cX2_isAlike 52 = .ok (.iadd, 1) := by decide +kernel
theorem dX2_isAlike_53 : decode cX2_isAlike 53 = .ok (.iaload, 1) := by decide +kernel
theorem dX2_isAlike_54 : decode cX2_isAlike 54 = .ok (.if_icmp .eq 5, 3) := by decide +kernel
theorem dX2_isAlike_57 : decode cX2_isAlike 57 = .ok (.iconst 0, 1) := by decide +kernel
theorem dX2_isAlike_58 : decode cX2_isAlike 58 = .ok (.ireturn, 1) := by decide +kernel
theorem dX2_isAlike_59 : decode cX2_isAlike 59 = .ok (.iinc 4 1, 3) := by decide +kernel
theorem dX2_isAlike_62 : decode cX2_isAlike 62 = .ok (.goto (-44), 3) := by decide +kernel
theorem dX2_isAlike_65 : decode cX2_isAlike 65 = .ok (.iinc 2 1, 3) := by decide +kernel
theorem dX2_isAlike_68 : decode cX2_isAlike 68 = .ok (.goto (-66), 3) := by decide +kernel
theorem dX2_isAlike_71 : decode cX2_isAlike 71 = .ok (.iconst 1, 1) := by decide +kernel
theorem dX2_isAlike_72 : decode cX2_isAlike 72 = .ok (.ireturn, 1) := by decide +kernel
set_option maxRecDepth 20000 in
theorem ggX2_sixthsToSame_X2_isAlike : GoodIn wsX2_sixthsToSame wsX2_isAlike := goodIn_r _ [6, 7, 8, 9, 10, 5, 11, 12, 13, 14, 15, 16, 17, 18, 19, 20, 21, 22, 23, 24, 25, 26, 27] (by decide +kernel) (by decide +kernel)
set_option maxRecDepth 20000 in
theorem gX2_sixthsToSame_X2_isAlike : GoodIn wsX2_sixthsToSame (wsV RX2 145 RX2 yX2_isAlike wsX2_isAlike) := goodIn_app (goodIn_of _ (by decide +kernel)) ggX2_sixthsToSame_X2_isAlike
theorem dX2_sixthsToSame_0 : decode cX2_sixthsToSame 0 = .ok (.aload_n 0, 1) := by decide +kernel
theorem dX2_sixthsToSame_1 : decode cX2_sixthsToSame 1 = .ok (.iconst 0, 1) := by decide +kernel
theorem dX2_sixthsToSame_2 : decode cX2_sixthsToSame 2 = .ok (.putfield 45, 3) := by decide +kernel
theorem dX2_sixthsToSame_5 : decode cX2_sixthsToSame 5 = .ok (.iconst 1, 1) := by decide +kernel
theorem dX2_sixthsToSame_6 : decode cX2_sixthsToSame 6 = .ok (.istore_n 1, 1) := by decide +kernel
theorem dX2_sixthsToSame_7 : decode cX2_sixthsToSame 7 = .ok (.aload_n 0, 1) := by decide +kernel
theorem dX2_sixthsToSame_8 : decode cX2_sixthsToSame 8 = .ok (.iload_n 1, 1) := by decide +kernel
theorem dX2_sixthsToSame_9 : decode cX2_sixthsToSame 9 = .ok (.invokevirtual 145, 3) := by decide +kernel
theorem dX2_sixthsToSame_12 : decode cX2_sixthsToSame 12 = .ok (.ifCond .ne 9, 3) := by decide +kernel
theorem dX2_sixthsToSame_15 : decode cX2_sixthsToSame 15 = .ok (.iinc 1 1, 3) := by decide +kernel
theorem dX2_sixthsToSame_18 : decode cX2_sixthsToSame 18 = .ok (.goto (-11), 3) := by decide +kernel
theorem dX2_sixthsToSame_21 : decode cX2_sixthsToSame 21 = .ok (.iload_n 1, 1) := by decide +kernel
theorem dX2_sixthsToSame_22 : decode cX2_sixthsToSame 22 = .ok (.ireturn, 1) := by decide +kernel
set_option maxRecDepth 20000 in
theorem ggX2_litBy_X2_move : GoodIn wsX2_litBy wsX2_move := goodIn_r _ [5, 6, 7, 8, 9, 10, 11, 12, 13, 4, 14, 15, 16, 17, 49, 50, 51, 52, 53, 54, 55, 56, 57, 58, 59, 60, 61] (by decide +kernel) (by decide +kernel)
set_option maxRecDepth 20000 in
theorem gX2_litBy_X2_move : GoodIn wsX2_litBy (wsV RX2 108 RX2 yX2_move wsX2_move) := goodIn_app (goodIn_of _ (by decide +kernel)) ggX2_litBy_X2_move
set_option maxRecDepth 20000 in
theorem ggX2_litBy_X2_lit : GoodIn wsX2_litBy wsX2_lit := goodIn_r _ [21, 22, 23, 7, 24, 25, 26, 4, 27, 28, 29, 30, 31, 32, 33, 34, 35, 36, 37, 38, 39, 40, 41, 42, 43, 44, 45, 46, 47, 48, 49, 50, 51, 52, 53, 54, 55, 56, 57, 58, 59, 60, 61] (by decide +kernel) (by decide +kernel)
set_option maxRecDepth 20000 in
theorem gX2_litBy_X2_lit : GoodIn wsX2_litBy (wsV RX2 112 RX2 yX2_lit wsX2_lit) := goodIn_app (goodIn_of _ (by decide +kernel)) ggX2_litBy_X2_lit
set_option maxRecDepth 20000 in
theorem ggX2_litBy_X2_size : GoodIn wsX2_litBy wsX2_size := goodIn_r _ [14] (by decide +kernel) (by decide +kernel)
set_option maxRecDepth 20000 in
theorem gX2_litBy_X2_size : GoodIn wsX2_litBy (va_wsS RX2 82 yX2_size wsX2_size) := goodIn_app (goodIn_of _ (by decide +kernel)) ggX2_litBy_X2_size
theorem dX2_litBy_0 : decode cX2_litBy 0 = .ok (.aload_n 0, 1) := by decide +kernel
theorem dX2_litBy_1 : decode cX2_litBy 1 = .ok (.iload_n 1, 1) := by decide +kernel
theorem dX2_litBy_2 : decode cX2_litBy 2 = .ok (.iload_n 2, 1) := by decide +kernel
theorem dX2_litBy_3 : decode cX2_litBy 3 = .ok (.invokevirtual 108, 3) := by decide +kernel
theorem dX2_litBy_6 : decode cX2_litBy 6 = .ok (.aload_n 0, 1) := by decide +kernel
theorem dX2_litBy_7 : decode cX2_litBy 7 = .ok (.invokevirtual 112, 3) := by decide +kernel
theorem dX2_litBy_10 : decode cX2_litBy 10 = .ok (.istore_n 3, 1) := by decide +kernel
theorem dX2_litBy_11 : decode cX2_litBy 11 = .ok (.aload_n 0, 1) := by decide +kernel
theorem dX2_litBy_12 : decode cX2_litBy 12 = .ok (.iload_n 1, 1) := by decide +kernel
theorem dX2_litBy_13 : decode cX2_litBy 13 = .ok (.iload_n 1, 1) := by decide +kernel
theorem dX2_litBy_14 : decode cX2_litBy 14 = .ok (.invokestatic 82, 3) := by decide +kernel
theorem dX2_litBy_17 : decode cX2_litBy 17 = .ok (.iload_n 2, 1) := by decide +kernel
theorem dX2_litBy_18 : decode cX2_litBy 18 = .ok (.isub, 1) := by decide +kernel
theorem dX2_litBy_19 : decode cX2_litBy 19 = .ok (.invokevirtual 108, 3) := by decide +kernel
theorem dX2_litBy_22 : decode cX2_litBy 22 = .ok (.iload_n 3, 1) := by decide +kernel
theorem dX2_litBy_23 : decode cX2_litBy 23 = .ok (.ireturn, 1) := by decide +kernel
set_option maxRecDepth 20000 in
theorem ggX2_would_X2_isRing : GoodIn wsX2_would wsX2_isRing := goodIn_r _ [6, 7, 8, 9, 5, 10, 63, 64, 65, 66, 67, 68, 69, 70, 71, 72, 73, 74, 75] (by decide +kernel) (by decide +kernel)
set_option maxRecDepth 20000 in
theorem gX2_would_X2_isRing : GoodIn wsX2_would (wsV RX2 105 RX2 yX2_isRing wsX2_isRing) := goodIn_app (goodIn_of _ (by decide +kernel)) ggX2_would_X2_isRing
set_option maxRecDepth 20000 in
theorem ggX2_would_X2_fail : GoodIn wsX2_would wsX2_fail := goodIn_r _ [14, 1, 63, 64, 65, 66, 67, 68, 69, 70, 71, 72, 73, 74, 75] (by decide +kernel) (by decide +kernel)
set_option maxRecDepth 20000 in
theorem gX2_would_X2_fail : GoodIn wsX2_would (wsV RX2 95 RX2 yX2_fail wsX2_fail) := goodIn_app (goodIn_of _ (by decide +kernel)) ggX2_would_X2_fail
set_option maxRecDepth 20000 in
theorem ggX2_would_X2_size : GoodIn wsX2_would wsX2_size := goodIn_r _ [17] (by decide +kernel) (by decide +kernel)
set_option maxRecDepth 20000 in
theorem gX2_would_X2_size : GoodIn wsX2_would (va_wsS RX2 82 yX2_size wsX2_size) := goodIn_app (goodIn_of _ (by decide +kernel)) ggX2_would_X2_size
set_option maxRecDepth 20000 in
theorem ggX2_would_X2_isIn : GoodIn wsX2_would wsX2_isIn := goodIn_r _ [10] (by decide +kernel) (by decide +kernel)
set_option maxRecDepth 20000 in
theorem gX2_would_X2_isIn : GoodIn wsX2_would (va_wsS RX2 52 yX2_isIn wsX2_isIn) := goodIn_app (goodIn_of _ (by decide +kernel)) ggX2_would_X2_isIn
set_option maxRecDepth 20000 in
theorem ggX2_would_X2_litBy : GoodIn wsX2_would wsX2_litBy := goodIn_r _ [21, 22, 23, 24, 5, 25, 26, 27, 28, 29, 30, 31, 15, 16, 17, 32, 33, 34, 35, 36, 37, 38, 39, 40, 41, 42, 43, 44, 45, 46, 47, 48, 49, 50, 51, 52, 53, 54, 55, 56, 57, 58, 59, 60, 61, 62, 8, 9, 10, 63, 64, 65, 66, 67, 68, 69, 70, 71, 72, 73, 74, 75] (by decide +kernel) (by decide +kernel)
set_option maxRecDepth 20000 in
theorem gX2_would_X2_litBy : GoodIn wsX2_would (wsV RX2 148 RX2 yX2_litBy wsX2_litBy) := goodIn_app (goodIn_of _ (by decide +kernel)) ggX2_would_X2_litBy
theorem dX2_would_0 : decode cX2_would 0 = .ok (.aload_n 0, 1) := by decide +kernel
theorem dX2_would_1 : decode cX2_would 1 = .ok (.iconst 0, 1) := by decide +kernel
theorem dX2_would_2 : decode cX2_would 2 = .ok (.putfield 45, 3) := by decide +kernel
theorem dX2_would_5 : decode cX2_would 5 = .ok (.aload_n 0, 1) := by decide +kernel
theorem dX2_would_6 : decode cX2_would 6 = .ok (.iload_n 1, 1) := by decide +kernel
theorem dX2_would_7 : decode cX2_would 7 = .ok (.invokevirtual 105, 3) := by decide +kernel
theorem dX2_would_10 : decode cX2_would 10 = .ok (.ifCond .ne 9, 3) := by decide +kernel
theorem dX2_would_13 : decode cX2_would 13 = .ok (.aload_n 0, 1) := by decide +kernel
theorem dX2_would_14 : decode cX2_would 14 = .ok (.iconst 1, 1) := by decide +kernel
theorem dX2_would_15 : decode cX2_would 15 = .ok (.invokevirtual 95, 3) := by decide +kernel
theorem dX2_would_18 : decode cX2_would 18 = .ok (.ireturn, 1) := by decide +kernel
theorem dX2_would_19 : decode cX2_would 19 = .ok (.iload_n 2, 1) := by decide +kernel
theorem dX2_would_20 : decode cX2_would 20 = .ok (.iconst 0, 1) := by decide +kernel
theorem dX2_would_21 : decode cX2_would 21 = .ok (.iload_n 1, 1) := by decide +kernel
theorem dX2_would_22 : decode cX2_would 22 = .ok (.invokestatic 82, 3) := by decide +kernel
theorem dX2_would_25 : decode cX2_would 25 = .ok (.iconst 1, 1) := by decide +kernel
theorem dX2_would_26 : decode cX2_would 26 = .ok (.isub, 1) := by decide +kernel
theorem dX2_would_27 : decode cX2_would 27 = .ok (.invokestatic 52, 3) := by decide +kernel
theorem dX2_would_30 : decode cX2_would 30 = .ok (.ifCond .eq 12, 3) := by decide +kernel
theorem dX2_would_33 : decode cX2_would 33 = .ok (.aload_n 0, 1) := by decide +kernel
theorem dX2_would_34 : decode cX2_would 34 = .ok (.iload_n 1, 1) := by decide +kernel
theorem dX2_would_35 : decode cX2_would 35 = .ok (.iload_n 2, 1) := by decide +kernel
theorem dX2_would_36 : decode cX2_would 36 = .ok (.invokevirtual 148, 3) := by decide +kernel
theorem dX2_would_39 : decode cX2_would 39 = .ok (.goto 8, 3) := by decide +kernel
theorem dX2_would_42 : decode cX2_would 42 = .ok (.aload_n 0, 1) := by decide +kernel
theorem dX2_would_43 : decode cX2_would 43 = .ok (.iconst 2, 1) := by decide +kernel
theorem dX2_would_44 : decode cX2_would 44 = .ok (.invokevirtual 95, 3) := by decide +kernel
theorem dX2_would_47 : decode cX2_would 47 = .ok (.ireturn, 1) := by decide +kernel
set_option maxRecDepth 20000 in
theorem ggX2_advise_X2_isRing : GoodIn wsX2_advise wsX2_isRing := goodIn_r _ [6, 7, 8, 9, 5, 10, 63, 64, 65, 66, 67, 68, 69, 70, 71, 72, 73, 74, 75] (by decide +kernel) (by decide +kernel)
set_option maxRecDepth 20000 in
theorem gX2_advise_X2_isRing : GoodIn wsX2_advise (wsV RX2 105 RX2 yX2_isRing wsX2_isRing) := goodIn_app (goodIn_of _ (by decide +kernel)) ggX2_advise_X2_isRing
set_option maxRecDepth 20000 in
theorem ggX2_advise_X2_fail : GoodIn wsX2_advise wsX2_fail := goodIn_r _ [14, 1, 63, 64, 65, 66, 67, 68, 69, 70, 71, 72, 73, 74, 75] (by decide +kernel) (by decide +kernel)
set_option maxRecDepth 20000 in
theorem gX2_advise_X2_fail : GoodIn wsX2_advise (wsV RX2 95 RX2 yX2_fail wsX2_fail) := goodIn_app (goodIn_of _ (by decide +kernel)) ggX2_advise_X2_fail
set_option maxRecDepth 20000 in
theorem ggX2_advise_X2_size : GoodIn wsX2_advise wsX2_size := goodIn_r _ [17] (by decide +kernel) (by decide +kernel)
set_option maxRecDepth 20000 in
theorem gX2_advise_X2_size : GoodIn wsX2_advise (va_wsS RX2 82 yX2_size wsX2_size) := goodIn_app (goodIn_of _ (by decide +kernel)) ggX2_advise_X2_size
set_option maxRecDepth 20000 in
theorem ggX2_advise_X2_litBy : GoodIn wsX2_advise wsX2_litBy := goodIn_r _ [21, 22, 23, 24, 5, 25, 26, 27, 28, 29, 30, 31, 15, 16, 17, 32, 33, 34, 35, 36, 37, 38, 39, 40, 41, 42, 43, 44, 45, 46, 47, 48, 49, 50, 51, 52, 53, 54, 55, 56, 57, 58, 59, 60, 61, 62, 8, 9, 10, 63, 64, 65, 66, 67, 68, 69, 70, 71, 72, 73, 74, 75] (by decide +kernel) (by decide +kernel)
set_option maxRecDepth 20000 in
theorem gX2_advise_X2_litBy : GoodIn wsX2_advise (wsV RX2 148 RX2 yX2_litBy wsX2_litBy) := goodIn_app (goodIn_of _ (by decide +kernel)) ggX2_advise_X2_litBy
theorem dX2_advise_0 : decode cX2_advise 0 = .ok (.aload_n 0, 1) := by decide +kernel
theorem dX2_advise_1 : decode cX2_advise 1 = .ok (.iconst 0, 1) := by decide +kernel
theorem dX2_advise_2 : decode cX2_advise 2 = .ok (.putfield 45, 3) := by decide +kernel
theorem dX2_advise_5 : decode cX2_advise 5 = .ok (.aload_n 0, 1) := by decide +kernel
theorem dX2_advise_6 : decode cX2_advise 6 = .ok (.iload_n 1, 1) := by decide +kernel
theorem dX2_advise_7 : decode cX2_advise 7 = .ok (.invokevirtual 105, 3) := by decide +kernel
theorem dX2_advise_10 : decode cX2_advise 10 = .ok (.ifCond .ne 9, 3) := by decide +kernel
theorem dX2_advise_13 : decode cX2_advise 13 = .ok (.aload_n 0, 1) := by decide +kernel
theorem dX2_advise_14 : decode cX2_advise 14 = .ok (.iconst 1, 1) := by decide +kernel
theorem dX2_advise_15 : decode cX2_advise 15 = .ok (.invokevirtual 95, 3) := by decide +kernel
theorem dX2_advise_18 : decode cX2_advise 18 = .ok (.ireturn, 1) := by decide +kernel
theorem dX2_advise_19 : decode cX2_advise 19 = .ok (.iconst (-1), 1) := by decide +kernel
theorem dX2_advise_20 : decode cX2_advise 20 = .ok (.istore_n 2, 1) := by decide +kernel
theorem dX2_advise_21 : decode cX2_advise 21 = .ok (.iconst (-1), 1) := by decide +kernel
theorem dX2_advise_22 : decode cX2_advise 22 = .ok (.istore_n 3, 1) := by decide +kernel
theorem dX2_advise_23 : decode cX2_advise 23 = .ok (.iconst 0, 1) := by decide +kernel
theorem dX2_advise_24 : decode cX2_advise 24 = .ok (.istore 4, 2) := by decide +kernel
theorem dX2_advise_26 : decode cX2_advise 26 = .ok (.iload 4, 2) := by decide +kernel
theorem dX2_advise_28 : decode cX2_advise 28 = .ok (.iload_n 1, 1) := by decide +kernel
theorem dX2_advise_29 : decode cX2_advise 29 = .ok (.invokestatic 82, 3) := by decide +kernel
theorem dX2_advise_32 : decode cX2_advise 32 = .ok (.if_icmp .ge 33, 3) := by decide +kernel
theorem dX2_advise_35 : decode cX2_advise 35 = .ok (.aload_n 0, 1) := by decide +kernel
theorem dX2_advise_36 : decode cX2_advise 36 = .ok (.iload_n 1, 1) := by decide +kernel
theorem dX2_advise_37 : decode cX2_advise 37 = .ok (.iload 4, 2) := by decide +kernel
theorem dX2_advise_39 : decode cX2_advise 39 = .ok (.invokevirtual 148, 3) := by decide +kernel
theorem dX2_advise_42 : decode cX2_advise 42 = .ok (.istore 5, 2) := by decide +kernel
theorem dX2_advise_44 : decode cX2_advise 44 = .ok (.iload 5, 2) := by decide +kernel
theorem dX2_advise_46 : decode cX2_advise 46 = .ok (.iload_n 3, 1) := by decide +kernel
theorem dX2_advise_47 : decode cX2_advise 47 = .ok (.if_icmp .gt 6, 3) := by decide +kernel
theorem dX2_advise_50 : decode cX2_advise 50 = .ok (.goto 9, 3) := by decide +kernel
theorem dX2_advise_53 : decode cX2_advise 53 = .ok (.iload 4, 2) := by decide +kernel
theorem dX2_advise_55 : decode cX2_advise 55 = .ok (.istore_n 2, 1) := by decide +kernel
theorem dX2_advise_56 : decode cX2_advise 56 = .ok (.iload 5, 2) := by decide +kernel
theorem dX2_advise_58 : decode cX2_advise 58 = .ok (.istore_n 3, 1) := by decide +kernel
theorem dX2_advise_59 : decode cX2_advise 59 = .ok (.iinc 4 1, 3) := by decide +kernel
theorem dX2_advise_62 : decode cX2_advise 62 = .ok (.goto (-36), 3) := by decide +kernel
theorem dX2_advise_65 : decode cX2_advise 65 = .ok (.iload_n 2, 1) := by decide +kernel
theorem dX2_advise_66 : decode cX2_advise 66 = .ok (.ireturn, 1) := by decide +kernel
set_option maxRecDepth 20000 in
theorem ggX2_best_X2_lit : GoodIn wsX2_best wsX2_lit := goodIn_r _ [8, 2, 9, 3, 10, 11, 12, 7, 13, 14, 15, 16, 17, 18, 19, 20, 21, 22, 23, 24, 25, 26, 27, 28, 29, 30, 31, 32, 33, 34, 35, 36, 37, 38, 39, 40, 41, 42, 43, 44, 45, 46, 47] (by decide +kernel) (by decide +kernel)
set_option maxRecDepth 20000 in
theorem gX2_best_X2_lit : GoodIn wsX2_best (wsV RX2 112 RX2 yX2_lit wsX2_lit) := goodIn_app (goodIn_of _ (by decide +kernel)) ggX2_best_X2_lit
theorem dX2_best_0 : decode cX2_best 0 = .ok (.aload_n 0, 1) := by decide +kernel
theorem dX2_best_1 : decode cX2_best 1 = .ok (.iconst 0, 1) := by decide +kernel
theorem dX2_best_2 : decode cX2_best 2 = .ok (.putfield 45, 3) := by decide +kernel
theorem dX2_best_5 : decode cX2_best 5 = .ok (.iconst (-1), 1) := by decide +kernel
theorem dX2_best_6 : decode cX2_best 6 = .ok (.istore_n 1, 1) := by decide +kernel
theorem dX2_best_7 : decode cX2_best 7 = .ok (.iconst (-1), 1) := by decide +kernel
theorem dX2_best_8 : decode cX2_best 8 = .ok (.istore_n 2, 1) := by decide +kernel
theorem dX2_best_9 : decode cX2_best 9 = .ok (.iconst 0, 1) := by decide +kernel
theorem dX2_best_10 : decode cX2_best 10 = .ok (.istore_n 3, 1) := by decide +kernel
theorem dX2_best_11 : decode cX2_best 11 = .ok (.iload_n 3, 1) := by decide +kernel
theorem dX2_best_12 : decode cX2_best 12 = .ok (.aload_n 0, 1) := by decide +kernel
theorem dX2_best_13 : decode cX2_best 13 = .ok (.getfield 49, 3) := by decide +kernel
theorem dX2_best_16 : decode cX2_best 16 = .ok (.if_icmp .ge 55, 3) := by decide +kernel
theorem dX2_best_19 : decode cX2_best 19 = .ok (.aload_n 0, 1) := by decide +kernel
theorem dX2_best_20 : decode cX2_best 20 = .ok (.getfield 19, 3) := by decide +kernel
theorem dX2_best_23 : decode cX2_best 23 = .ok (.iload_n 3, 1) := by decide +kernel
theorem dX2_best_24 : decode cX2_best 24 = .ok (.iaload, 1) := by decide +kernel
theorem dX2_best_25 : decode cX2_best 25 = .ok (.ifCond .eq 6, 3) := by decide +kernel
theorem dX2_best_28 : decode cX2_best 28 = .ok (.goto 37, 3) := by decide +kernel
theorem dX2_best_31 : decode cX2_best 31 = .ok (.aload_n 0, 1) := by decide +kernel
theorem dX2_best_32 : decode cX2_best 32 = .ok (.getfield 19, 3) := by decide +kernel
theorem dX2_best_35 : decode cX2_best 35 = .ok (.iload_n 3, 1) := by decide +kernel
theorem dX2_best_36 : decode cX2_best 36 = .ok (.iconst 2, 1) := by decide +kernel
theorem dX2_best_37 : decode cX2_best 37 = .ok (.iastore, 1) := by decide +kernel
theorem dX2_best_38 : decode cX2_best 38 = .ok (.aload_n 0, 1) := by decide +kernel
theorem dX2_best_39 : decode cX2_best 39 = .ok (.invokevirtual 112, 3) := by decide +kernel
theorem dX2_best_42 : decode cX2_best 42 = .ok (.istore 4, 2) := by decide +kernel
theorem dX2_best_44 : decode cX2_best 44 = .ok (.aload_n 0, 1) := by decide +kernel
theorem dX2_best_45 : decode cX2_best 45 = .ok (.getfield 19, 3) := by decide +kernel
theorem dX2_best_48 : decode cX2_best 48 = .ok (.iload_n 3, 1) := by decide +kernel
theorem dX2_best_49 : decode cX2_best 49 = .ok (.iconst 0, 1) := by decide +kernel
theorem dX2_best_50 : decode cX2_best 50 = .ok (.iastore, 1) := by decide +kernel
theorem dX2_best_51 : decode cX2_best 51 = .ok (.iload 4, 2) := by decide +kernel
theorem dX2_best_53 : decode cX2_best 53 = .ok (.iload_n 2, 1) := by decide +kernel
theorem dX2_best_54 : decode cX2_best 54 = .ok (.if_icmp .gt 6, 3) := by decide +kernel
theorem dX2_best_57 : decode cX2_best 57 = .ok (.goto 8, 3) := by decide +kernel
theorem dX2_best_60 : decode cX2_best 60 = .ok (.iload_n 3, 1) := by decide +kernel
theorem dX2_best_61 : decode cX2_best 61 = .ok (.istore_n 1, 1) := by decide +kernel
theorem dX2_best_62 : decode cX2_best 62 = .ok (.iload 4, 2) := by decide +kernel
theorem dX2_best_64 : decode cX2_best 64 = .ok (.istore_n 2, 1) := by decide +kernel
theorem dX2_best_65 : decode cX2_best 65 = .ok (.iinc 3 1, 3) := by decide +kernel
theorem dX2_best_68 : decode cX2_best 68 = .ok (.goto (-57), 3) := by decide +kernel
theorem dX2_best_71 : decode cX2_best 71 = .ok (.iload_n 1, 1) := by decide +kernel
theorem dX2_best_72 : decode cX2_best 72 = .ok (.ireturn, 1) := by decide +kernel
set_option maxRecDepth 20000 in
theorem ggX2_mean_X2_lit : GoodIn wsX2_mean wsX2_lit := goodIn_r _ [8, 2, 3, 9, 10, 11, 12, 7, 13, 14, 15, 16, 17, 18, 19, 20, 21, 22, 23, 24, 25, 26, 27, 28, 29, 30, 31, 32, 33, 34, 35, 36, 37, 38, 39, 40, 41, 42, 43, 44, 45, 46, 47] (by decide +kernel) (by decide +kernel)
set_option maxRecDepth 20000 in
theorem gX2_mean_X2_lit : GoodIn wsX2_mean (wsV RX2 112 RX2 yX2_lit wsX2_lit) := goodIn_app (goodIn_of _ (by decide +kernel)) ggX2_mean_X2_lit
theorem dX2_mean_0 : decode cX2_mean 0 = .ok (.aload_n 0, 1) := by decide +kernel
theorem dX2_mean_1 : decode cX2_mean 1 = .ok (.iconst 0, 1) := by decide +kernel
theorem dX2_mean_2 : decode cX2_mean 2 = .ok (.putfield 45, 3) := by decide +kernel
theorem dX2_mean_5 : decode cX2_mean 5 = .ok (.aload_n 0, 1) := by decide +kernel
theorem dX2_mean_6 : decode cX2_mean 6 = .ok (.invokevirtual 112, 3) := by decide +kernel
theorem dX2_mean_9 : decode cX2_mean 9 = .ok (.istore_n 1, 1) := by decide +kernel
theorem dX2_mean_10 : decode cX2_mean 10 = .ok (.iconst 0, 1) := by decide +kernel
theorem dX2_mean_11 : decode cX2_mean 11 = .ok (.istore_n 2, 1) := by decide +kernel
theorem dX2_mean_12 : decode cX2_mean 12 = .ok (.iconst 0, 1) := by decide +kernel
theorem dX2_mean_13 : decode cX2_mean 13 = .ok (.istore_n 3, 1) := by decide +kernel
theorem dX2_mean_14 : decode cX2_mean 14 = .ok (.iload_n 3, 1) := by decide +kernel
theorem dX2_mean_15 : decode cX2_mean 15 = .ok (.aload_n 0, 1) := by decide +kernel
theorem dX2_mean_16 : decode cX2_mean 16 = .ok (.getfield 49, 3) := by decide +kernel
theorem dX2_mean_19 : decode cX2_mean 19 = .ok (.if_icmp .ge 18, 3) := by decide +kernel
theorem dX2_mean_22 : decode cX2_mean 22 = .ok (.iload_n 2, 1) := by decide +kernel
theorem dX2_mean_23 : decode cX2_mean 23 = .ok (.aload_n 0, 1) := by decide +kernel
theorem dX2_mean_24 : decode cX2_mean 24 = .ok (.getfield 29, 3) := by decide +kernel
theorem dX2_mean_27 : decode cX2_mean 27 = .ok (.iload_n 3, 1) := by decide +kernel
theorem dX2_mean_28 : decode cX2_mean 28 = .ok (.iaload, 1) := by decide +kernel
theorem dX2_mean_29 : decode cX2_mean 29 = .ok (.iadd, 1) := by decide +kernel
theorem dX2_mean_30 : decode cX2_mean 30 = .ok (.istore_n 2, 1) := by decide +kernel
theorem dX2_mean_31 : decode cX2_mean 31 = .ok (.iinc 3 1, 3) := by decide +kernel
theorem dX2_mean_34 : decode cX2_mean 34 = .ok (.goto (-20), 3) := by decide +kernel
theorem dX2_mean_37 : decode cX2_mean 37 = .ok (.iload_n 1, 1) := by decide +kernel
theorem dX2_mean_38 : decode cX2_mean 38 = .ok (.ifCond .ne 7, 3) := by decide +kernel
theorem dX2_mean_41 : decode cX2_mean 41 = .ok (.dconst 0, 1) := by decide +kernel
theorem dX2_mean_42 : decode cX2_mean 42 = .ok (.goto 8, 3) := by decide +kernel
theorem dX2_mean_45 : decode cX2_mean 45 = .ok (.iload_n 2, 1) := by decide +kernel
theorem dX2_mean_46 : decode cX2_mean 46 = .ok (.i2d, 1) := by decide +kernel
theorem dX2_mean_47 : decode cX2_mean 47 = .ok (.iload_n 1, 1) := by decide +kernel
theorem dX2_mean_48 : decode cX2_mean 48 = .ok (.i2d, 1) := by decide +kernel
theorem dX2_mean_49 : decode cX2_mean 49 = .ok (.ddiv, 1) := by decide +kernel
theorem dX2_mean_50 : decode cX2_mean 50 = .ok (.dreturn, 1) := by decide +kernel
set_option maxRecDepth 20000 in
theorem ggX2_digest_X2_counted : GoodIn wsX2_digest wsX2_counted := goodIn_r _ [11, 4, 6, 5, 12, 13, 14, 10, 15, 16, 17, 18, 19, 20, 21, 22, 23, 24, 25, 26, 27, 28, 29, 30, 31, 32, 33, 34, 35, 36, 37, 38, 39, 40, 41, 42, 43, 44, 45, 46, 47, 48, 49, 50, 51, 52, 53, 54, 55, 56, 75, 76, 77, 78, 79, 80, 81, 82, 83, 84, 85, 86, 87] (by decide +kernel) (by decide +kernel)
set_option maxRecDepth 20000 in
theorem gX2_digest_X2_counted : GoodIn wsX2_digest (wsV RX2 142 RX2 yX2_counted wsX2_counted) := goodIn_app (goodIn_of _ (by decide +kernel)) ggX2_digest_X2_counted
set_option maxRecDepth 20000 in
theorem ggX2_digest_X2_lit : GoodIn wsX2_digest wsX2_lit := goodIn_r _ [21, 4, 22, 17, 23, 24, 25, 10, 26, 27, 28, 29, 30, 5, 31, 32, 33, 34, 35, 36, 37, 38, 39, 40, 41, 42, 43, 44, 45, 46, 75, 76, 77, 78, 79, 80, 81, 82, 83, 84, 85, 86, 87] (by decide +kernel) (by decide +kernel)
set_option maxRecDepth 20000 in
theorem gX2_digest_X2_lit : GoodIn wsX2_digest (wsV RX2 112 RX2 yX2_lit wsX2_lit) := goodIn_app (goodIn_of _ (by decide +kernel)) ggX2_digest_X2_lit
set_option maxRecDepth 20000 in
theorem ggX2_digest_X2_roomTold : GoodIn wsX2_digest wsX2_roomTold := goodIn_r _ [60, 35, 37, 16, 17, 22, 61, 62, 63, 10, 64, 27, 28, 29, 30, 5, 31, 32, 33, 34, 36, 38, 39, 40, 41, 42, 43, 44, 45, 46, 75, 76, 77, 78, 79, 80, 81, 82, 83, 84, 85, 86, 87] (by decide +kernel) (by decide +kernel)
set_option maxRecDepth 20000 in
theorem gX2_digest_X2_roomTold : GoodIn wsX2_digest (wsV RX2 122 RX2 yX2_roomTold wsX2_roomTold) := goodIn_app (goodIn_of _ (by decide +kernel)) ggX2_digest_X2_roomTold
set_option maxRecDepth 20000 in
theorem ggX2_digest_X2_ringTold : GoodIn wsX2_digest wsX2_ringTold := goodIn_r _ [68, 22, 69, 70, 10, 71, 12, 13, 14, 15, 4, 16, 17, 18, 19, 20, 21, 23, 24, 25, 26, 27, 28, 29, 30, 5, 31, 32, 33, 34, 35, 36, 37, 38, 39, 40, 41, 42, 43, 44, 45, 46, 72, 73, 74, 75, 76, 77, 78, 79, 80, 81, 82, 83, 84, 85, 86, 87] (by decide +kernel) (by decide +kernel)
set_option maxRecDepth 20000 in
theorem gX2_digest_X2_ringTold : GoodIn wsX2_digest (wsV RX2 136 RX2 yX2_ringTold wsX2_ringTold) := goodIn_app (goodIn_of _ (by decide +kernel)) ggX2_digest_X2_ringTold
theorem dX2_digest_0 : decode cX2_digest 0 = .ok (.aload_n 0, 1) := by decide +kernel
theorem dX2_digest_1 : decode cX2_digest 1 = .ok (.iconst 0, 1) := by decide +kernel
theorem dX2_digest_2 : decode cX2_digest 2 = .ok (.putfield 45, 3) := by decide +kernel
theorem dX2_digest_5 : decode cX2_digest 5 = .ok (.ldc2_w 151, 3) := by decide +kernel
theorem dX2_digest_8 : decode cX2_digest 8 = .ok (.lstore_n 1, 1) := by decide +kernel
theorem dX2_digest_9 : decode cX2_digest 9 = .ok (.iconst 0, 1) := by decide +kernel
theorem dX2_digest_10 : decode cX2_digest 10 = .ok (.istore_n 3, 1) := by decide +kernel
theorem dX2_digest_11 : decode cX2_digest 11 = .ok (.iload_n 3, 1) := by decide +kernel
theorem dX2_digest_12 : decode cX2_digest 12 = .ok (.bipush 7, 2) := by decide +kernel
theorem dX2_digest_14 : decode cX2_digest 14 = .ok (.if_icmp .ge 22, 3) := by decide +kernel
theorem dX2_digest_17 : decode cX2_digest 17 = .ok (.lload_n 1, 1) := by decide +kernel
theorem dX2_digest_18 : decode cX2_digest 18 = .ok (.ldc2_w 153, 3) := by decide +kernel
theorem dX2_digest_21 : decode cX2_digest 21 = .ok (.lmul, 1) := by decide +kernel
theorem dX2_digest_22 : decode cX2_digest 22 = .ok (.aload_n 0, 1) := by decide +kernel
theorem dX2_digest_23 : decode cX2_digest 23 = .ok (.iload_n 3, 1) := by decide +kernel
theorem dX2_digest_24 : decode cX2_digest 24 = .ok (.invokevirtual 142, 3) := by decide +kernel
theorem dX2_digest_27 : decode cX2_digest 27 = .ok (.i2l, 1) := by decide +kernel
theorem dX2_digest_28 : decode cX2_digest 28 = .ok (.ladd, 1) := by decide +kernel
theorem dX2_digest_29 : decode cX2_digest 29 = .ok (.lstore_n 1, 1) := by decide +kernel
theorem dX2_digest_30 : decode cX2_digest 30 = .ok (.iinc 3 1, 3) := by decide +kernel
theorem dX2_digest_33 : decode cX2_digest 33 = .ok (.goto (-22), 3) := by decide +kernel
theorem dX2_digest_36 : decode cX2_digest 36 = .ok (.aload_n 0, 1) := by decide +kernel
theorem dX2_digest_37 : decode cX2_digest 37 = .ok (.invokevirtual 112, 3) := by decide +kernel
theorem dX2_digest_40 : decode cX2_digest 40 = .ok (.pop, 1) := by decide +kernel
theorem dX2_digest_41 : decode cX2_digest 41 = .ok (.iconst 0, 1) := by decide +kernel
theorem dX2_digest_42 : decode cX2_digest 42 = .ok (.istore_n 3, 1) := by decide +kernel
theorem dX2_digest_43 : decode cX2_digest 43 = .ok (.iload_n 3, 1) := by decide +kernel
theorem dX2_digest_44 : decode cX2_digest 44 = .ok (.aload_n 0, 1) := by decide +kernel
theorem dX2_digest_45 : decode cX2_digest 45 = .ok (.getfield 49, 3) := by decide +kernel
theorem dX2_digest_48 : decode cX2_digest 48 = .ok (.if_icmp .ge 84, 3) := by decide +kernel
theorem dX2_digest_51 : decode cX2_digest 51 = .ok (.iconst 0, 1) := by decide +kernel
theorem dX2_digest_52 : decode cX2_digest 52 = .ok (.istore 4, 2) := by decide +kernel
theorem dX2_digest_54 : decode cX2_digest 54 = .ok (.iload 4, 2) := by decide +kernel
theorem dX2_digest_56 : decode cX2_digest 56 = .ok (.bipush 6, 2) := by decide +kernel
theorem dX2_digest_58 : decode cX2_digest 58 = .ok (.if_icmp .ge 24, 3) := by decide +kernel
theorem dX2_digest_61 : decode cX2_digest 61 = .ok (.lload_n 1, 1) := by decide +kernel
theorem dX2_digest_62 : decode cX2_digest 62 = .ok (.ldc2_w 153, 3) := by decide +kernel
theorem dX2_digest_65 : decode cX2_digest 65 = .ok (.lmul, 1) := by decide +kernel
theorem dX2_digest_66 : decode cX2_digest 66 = .ok (.aload_n 0, 1) := by decide +kernel
theorem dX2_digest_67 : decode cX2_digest 67 = .ok (.iload_n 3, 1) := by decide +kernel
theorem dX2_digest_68 : decode cX2_digest 68 = .ok (.iload 4, 2) := by decide +kernel
theorem dX2_digest_70 : decode cX2_digest 70 = .ok (.invokevirtual 122, 3) := by decide +kernel
theorem dX2_digest_73 : decode cX2_digest 73 = .ok (.i2l, 1) := by decide +kernel
theorem dX2_digest_74 : decode cX2_digest 74 = .ok (.ladd, 1) := by decide +kernel
theorem dX2_digest_75 : decode cX2_digest 75 = .ok (.lstore_n 1, 1) := by decide +kernel
theorem dX2_digest_76 : decode cX2_digest 76 = .ok (.iinc 4 1, 3) := by decide +kernel
theorem dX2_digest_79 : decode cX2_digest 79 = .ok (.goto (-25), 3) := by decide +kernel
theorem dX2_digest_82 : decode cX2_digest 82 = .ok (.iconst 0, 1) := by decide +kernel
theorem dX2_digest_83 : decode cX2_digest 83 = .ok (.istore 4, 2) := by decide +kernel
theorem dX2_digest_85 : decode cX2_digest 85 = .ok (.iload 4, 2) := by decide +kernel
theorem dX2_digest_87 : decode cX2_digest 87 = .ok (.bipush 6, 2) := by decide +kernel
theorem dX2_digest_89 : decode cX2_digest 89 = .ok (.if_icmp .ge 37, 3) := by decide +kernel
theorem dX2_digest_92 : decode cX2_digest 92 = .ok (.lload_n 1, 1) := by decide +kernel
theorem dX2_digest_93 : decode cX2_digest 93 = .ok (.ldc2_w 153, 3) := by decide +kernel
theorem dX2_digest_96 : decode cX2_digest 96 = .ok (.lmul, 1) := by decide +kernel
theorem dX2_digest_97 : decode cX2_digest 97 = .ok (.aload_n 0, 1) := by decide +kernel
theorem dX2_digest_98 : decode cX2_digest 98 = .ok (.getfield 25, 3) := by decide +kernel
theorem dX2_digest_101 : decode cX2_digest 101 = .ok (.bipush 6, 2) := by decide +kernel
theorem dX2_digest_103 : decode cX2_digest 103 = .ok (.iload_n 3, 1) := by decide +kernel
theorem dX2_digest_104 : decode cX2_digest 104 = .ok (.imul, 1) := by decide +kernel
theorem dX2_digest_105 : decode cX2_digest 105 = .ok (.iload 4, 2) := by decide +kernel
theorem dX2_digest_107 : decode cX2_digest 107 = .ok (.iadd, 1) := by decide +kernel
theorem dX2_digest_108 : decode cX2_digest 108 = .ok (.baload, 1) := by decide +kernel
theorem dX2_digest_109 : decode cX2_digest 109 = .ok (.ifCond .eq 7, 3) := by decide +kernel
theorem dX2_digest_112 : decode cX2_digest 112 = .ok (.iconst 1, 1) := by decide +kernel
theorem dX2_digest_113 : decode cX2_digest 113 = .ok (.goto 4, 3) := by decide +kernel
theorem dX2_digest_116 : decode cX2_digest 116 = .ok (.iconst 0, 1) := by decide +kernel
theorem dX2_digest_117 : decode cX2_digest 117 = .ok (.i2l, 1) := by decide +kernel
theorem dX2_digest_118 : decode cX2_digest 118 = .ok (.ladd, 1) := by decide +kernel
theorem dX2_digest_119 : decode cX2_digest 119 = .ok (.lstore_n 1, 1) := by decide +kernel
theorem dX2_digest_120 : decode cX2_digest 120 = .ok (.iinc 4 1, 3) := by decide +kernel
theorem dX2_digest_123 : decode cX2_digest 123 = .ok (.goto (-38), 3) := by decide +kernel
theorem dX2_digest_126 : decode cX2_digest 126 = .ok (.iinc 3 1, 3) := by decide +kernel
theorem dX2_digest_129 : decode cX2_digest 129 = .ok (.goto (-86), 3) := by decide +kernel
theorem dX2_digest_132 : decode cX2_digest 132 = .ok (.iconst 0, 1) := by decide +kernel
theorem dX2_digest_133 : decode cX2_digest 133 = .ok (.istore_n 3, 1) := by decide +kernel
theorem dX2_digest_134 : decode cX2_digest 134 = .ok (.iload_n 3, 1) := by decide +kernel
theorem dX2_digest_135 : decode cX2_digest 135 = .ok (.aload_n 0, 1) := by decide +kernel
theorem dX2_digest_136 : decode cX2_digest 136 = .ok (.getfield 56, 3) := by decide +kernel
theorem dX2_digest_139 : decode cX2_digest 139 = .ok (.if_icmp .gt 39, 3) := by decide +kernel
theorem dX2_digest_142 : decode cX2_digest 142 = .ok (.iconst 0, 1) := by decide +kernel
theorem dX2_digest_143 : decode cX2_digest 143 = .ok (.istore 4, 2) := by decide +kernel
theorem dX2_digest_145 : decode cX2_digest 145 = .ok (.iload 4, 2) := by decide +kernel
theorem dX2_digest_147 : decode cX2_digest 147 = .ok (.iconst 4, 1) := by decide +kernel
theorem dX2_digest_148 : decode cX2_digest 148 = .ok (.if_icmp .ge 24, 3) := by decide +kernel
theorem dX2_digest_151 : decode cX2_digest 151 = .ok (.lload_n 1, 1) := by decide +kernel
theorem dX2_digest_152 : decode cX2_digest 152 = .ok (.ldc2_w 153, 3) := by decide +kernel
theorem dX2_digest_155 : decode cX2_digest 155 = .ok (.lmul, 1) := by decide +kernel
theorem dX2_digest_156 : decode cX2_digest 156 = .ok (.aload_n 0, 1) := by decide +kernel
theorem dX2_digest_157 : decode cX2_digest 157 = .ok (.iload_n 3, 1) := by decide +kernel
theorem dX2_digest_158 : decode cX2_digest 158 = .ok (.iload 4, 2) := by decide +kernel
theorem dX2_digest_160 : decode cX2_digest 160 = .ok (.invokevirtual 136, 3) := by decide +kernel
theorem dX2_digest_163 : decode cX2_digest 163 = .ok (.i2l, 1) := by decide +kernel
theorem dX2_digest_164 : decode cX2_digest 164 = .ok (.ladd, 1) := by decide +kernel
theorem dX2_digest_165 : decode cX2_digest 165 = .ok (.lstore_n 1, 1) := by decide +kernel
theorem dX2_digest_166 : decode cX2_digest 166 = .ok (.iinc 4 1, 3) := by decide +kernel
theorem dX2_digest_169 : decode cX2_digest 169 = .ok (.goto (-24), 3) := by decide +kernel
theorem dX2_digest_172 : decode cX2_digest 172 = .ok (.iinc 3 1, 3) := by decide +kernel
theorem dX2_digest_175 : decode cX2_digest 175 = .ok (.goto (-41), 3) := by decide +kernel
theorem dX2_digest_178 : decode cX2_digest 178 = .ok (.lload_n 1, 1) := by decide +kernel
theorem dX2_digest_179 : decode cX2_digest 179 = .ok (.lreturn, 1) := by decide +kernel
theorem dJ9_abs_0f7a4_0 : decode cJ9_abs_0f7a4 0 = .ok (.iload_n 0, 1) := by decide +kernel
theorem dJ9_abs_0f7a4_1 : decode cJ9_abs_0f7a4 1 = .ok (.ifCond .ge 8, 3) := by decide +kernel
theorem dJ9_abs_0f7a4_4 : decode cJ9_abs_0f7a4 4 = .ok (.iload_n 0, 1) := by decide +kernel
theorem dJ9_abs_0f7a4_5 : decode cJ9_abs_0f7a4 5 = .ok (.ineg, 1) := by decide +kernel
theorem dJ9_abs_0f7a4_6 : decode cJ9_abs_0f7a4 6 = .ok (.goto 4, 3) := by decide +kernel
theorem dJ9_abs_0f7a4_9 : decode cJ9_abs_0f7a4 9 = .ok (.iload_n 0, 1) := by decide +kernel
theorem dJ9_abs_0f7a4_10 : decode cJ9_abs_0f7a4 10 = .ok (.ireturn, 1) := by decide +kernel
theorem dJ7_fill_53178_0 : decode cJ7_fill_53178 0 = .ok (.iconst 0, 1) := by decide +kernel
theorem dJ7_fill_53178_1 : decode cJ7_fill_53178 1 = .ok (.istore_n 2, 1) := by decide +kernel
theorem dJ7_fill_53178_2 : decode cJ7_fill_53178 2 = .ok (.aload_n 0, 1) := by decide +kernel
theorem dJ7_fill_53178_3 : decode cJ7_fill_53178 3 = .ok (.arraylength, 1) := by decide +kernel
theorem dJ7_fill_53178_4 : decode cJ7_fill_53178 4 = .ok (.istore_n 3, 1) := by decide +kernel
theorem dJ7_fill_53178_5 : decode cJ7_fill_53178 5 = .ok (.iload_n 2, 1) := by decide +kernel
theorem dJ7_fill_53178_6 : decode cJ7_fill_53178 6 = .ok (.iload_n 3, 1) := by decide +kernel
theorem dJ7_fill_53178_7 : decode cJ7_fill_53178 7 = .ok (.if_icmp .ge 13, 3) := by decide +kernel
theorem dJ7_fill_53178_10 : decode cJ7_fill_53178 10 = .ok (.aload_n 0, 1) := by decide +kernel
theorem dJ7_fill_53178_11 : decode cJ7_fill_53178 11 = .ok (.iload_n 2, 1) := by decide +kernel
theorem dJ7_fill_53178_12 : decode cJ7_fill_53178 12 = .ok (.iload_n 1, 1) := by decide +kernel
theorem dJ7_fill_53178_13 : decode cJ7_fill_53178 13 = .ok (.iastore, 1) := by decide +kernel
theorem dJ7_fill_53178_14 : decode cJ7_fill_53178 14 = .ok (.iinc 2 1, 3) := by decide +kernel
theorem dJ7_fill_53178_17 : decode cJ7_fill_53178 17 = .ok (.goto (-12), 3) := by decide +kernel
theorem dJ7_fill_53178_20 : decode cJ7_fill_53178 20 = .ok (.return_, 1) := by decide +kernel
set_option maxRecDepth 20000 in
theorem ggL_setRings_X1_setRings : GoodIn wsL_setRings wsX1_setRings := goodIn_ca (goodIn_r _ [6, 7, 8, 9, 5, 10, 11, 12, 13, 14, 15, 16, 17, 18, 19, 20, 21, 22, 23, 24, 25, 26, 27, 28, 29, 30, 31, 32, 33, 34, 35, 36, 37, 38, 39] (by decide +kernel) (by decide +kernel)) (goodIn_sub (fun _ h => List.mem_cons_of_mem _ (List.mem_append_right _ h)) (by decide +kernel))
set_option maxRecDepth 20000 in
theorem gL_setRings_X1_setRings : GoodIn wsL_setRings (wsV RL 7 RX1 yX1_setRings wsX1_setRings) := goodIn_app (goodIn_of _ (by decide +kernel)) ggL_setRings_X1_setRings
theorem dL_setRings_0 : decode cL_setRings 0 = .ok (.aload_n 2, 1) := by decide +kernel
theorem dL_setRings_1 : decode cL_setRings 1 = .ok (.iconst 0, 1) := by decide +kernel
theorem dL_setRings_2 : decode cL_setRings 2 = .ok (.aload_n 0, 1) := by decide +kernel
theorem dL_setRings_3 : decode cL_setRings 3 = .ok (.iload_n 1, 1) := by decide +kernel
theorem dL_setRings_4 : decode cL_setRings 4 = .ok (.invokevirtual 7, 3) := by decide +kernel
theorem dL_setRings_7 : decode cL_setRings 7 = .ok (.i2l, 1) := by decide +kernel
theorem dL_setRings_8 : decode cL_setRings 8 = .ok (.lastore, 1) := by decide +kernel
theorem dL_setRings_9 : decode cL_setRings 9 = .ok (.goto 6, 3) := by decide +kernel
theorem dL_setRings_12 : decode cL_setRings 12 = .ok (.astore_n 3, 1) := by decide +kernel
theorem dL_setRings_13 : decode cL_setRings 13 = .ok (.iconst 1, 1) := by decide +kernel
theorem dL_setRings_14 : decode cL_setRings 14 = .ok (.ireturn, 1) := by decide +kernel
theorem dL_setRings_15 : decode cL_setRings 15 = .ok (.iconst 0, 1) := by decide +kernel
theorem dL_setRings_16 : decode cL_setRings 16 = .ok (.ireturn, 1) := by decide +kernel
set_option maxRecDepth 20000 in
theorem ggL_put_X1_put : GoodIn wsL_put wsX1_put := goodIn_ca (goodIn_r _ [6, 7, 8, 9, 10, 5, 11, 12, 13, 14, 15, 16, 17, 18, 19, 20, 21, 22, 23, 24, 25, 26, 27, 28, 29, 30, 31, 32, 33, 34, 35, 36, 37, 38, 39, 40, 41, 42, 43, 44, 45, 46, 47, 48, 49, 50, 51, 52, 53, 54, 55, 56, 57, 58, 59, 60, 61, 62, 63, 64, 65, 66, 67, 68, 69, 70, 71, 72, 73, 74, 75, 76, 77] (by decide +kernel) (by decide +kernel)) (goodIn_sub (fun _ h => List.mem_cons_of_mem _ (List.mem_append_right _ h)) (by decide +kernel))
set_option maxRecDepth 20000 in
theorem gL_put_X1_put : GoodIn wsL_put (wsV RL 15 RX1 yX1_put wsX1_put) := goodIn_app (goodIn_of _ (by decide +kernel)) ggL_put_X1_put
theorem dL_put_0 : decode cL_put 0 = .ok (.aload_n 3, 1) := by decide +kernel
theorem dL_put_1 : decode cL_put 1 = .ok (.iconst 0, 1) := by decide +kernel
theorem dL_put_2 : decode cL_put 2 = .ok (.aload_n 0, 1) := by decide +kernel
theorem dL_put_3 : decode cL_put 3 = .ok (.iload_n 1, 1) := by decide +kernel
theorem dL_put_4 : decode cL_put 4 = .ok (.iload_n 2, 1) := by decide +kernel
theorem dL_put_5 : decode cL_put 5 = .ok (.invokevirtual 15, 3) := by decide +kernel
theorem dL_put_8 : decode cL_put 8 = .ok (.i2l, 1) := by decide +kernel
theorem dL_put_9 : decode cL_put 9 = .ok (.lastore, 1) := by decide +kernel
theorem dL_put_10 : decode cL_put 10 = .ok (.goto 7, 3) := by decide +kernel
theorem dL_put_13 : decode cL_put 13 = .ok (.astore 4, 2) := by decide +kernel
theorem dL_put_15 : decode cL_put 15 = .ok (.iconst 1, 1) := by decide +kernel
theorem dL_put_16 : decode cL_put 16 = .ok (.ireturn, 1) := by decide +kernel
theorem dL_put_17 : decode cL_put 17 = .ok (.iconst 0, 1) := by decide +kernel
theorem dL_put_18 : decode cL_put 18 = .ok (.ireturn, 1) := by decide +kernel
set_option maxRecDepth 20000 in
theorem ggL_shut_X1_shut : GoodIn wsL_shut wsX1_shut := goodIn_ca (goodIn_ca (goodIn_r _ [7, 8, 9, 10, 11, 6, 12, 13, 14, 15, 16, 17, 18, 19, 20, 21, 22, 23, 24, 25, 26, 27, 28, 29, 30, 31, 32, 33, 34, 35, 36, 37, 38, 39, 40, 41, 42, 43, 44, 45, 46, 47, 48, 49, 50, 51, 52, 53, 54, 55, 56, 57, 58, 59, 60, 61, 62, 63, 64, 65, 66, 67, 68, 69, 70, 71, 72, 73, 74, 75, 76, 77, 78, 79, 80, 81, 82, 83, 84, 85, 86, 87] (by decide +kernel) (by decide +kernel)) (goodIn_sub (fun _ h => List.mem_cons_of_mem _ (List.mem_append_left _ (List.mem_append_right _ h))) (by decide +kernel))) (goodIn_sub (fun _ h => List.mem_cons_of_mem _ (List.mem_append_right _ h)) (by decide +kernel))
set_option maxRecDepth 20000 in
theorem gL_shut_X1_shut : GoodIn wsL_shut (wsV RL 21 RX1 yX1_shut wsX1_shut) := goodIn_app (goodIn_of _ (by decide +kernel)) ggL_shut_X1_shut
theorem dL_shut_0 : decode cL_shut 0 = .ok (.aload 4, 2) := by decide +kernel
theorem dL_shut_2 : decode cL_shut 2 = .ok (.iconst 0, 1) := by decide +kernel
theorem dL_shut_3 : decode cL_shut 3 = .ok (.aload_n 0, 1) := by decide +kernel
theorem dL_shut_4 : decode cL_shut 4 = .ok (.iload_n 1, 1) := by decide +kernel
theorem dL_shut_5 : decode cL_shut 5 = .ok (.iload_n 2, 1) := by decide +kernel
theorem dL_shut_6 : decode cL_shut 6 = .ok (.iload_n 3, 1) := by decide +kernel
theorem dL_shut_7 : decode cL_shut 7 = .ok (.invokevirtual 21, 3) := by decide +kernel
theorem dL_shut_10 : decode cL_shut 10 = .ok (.ifCond .eq 7, 3) := by decide +kernel
theorem dL_shut_13 : decode cL_shut 13 = .ok (.lconst 1, 1) := by decide +kernel
theorem dL_shut_14 : decode cL_shut 14 = .ok (.goto 4, 3) := by decide +kernel
theorem dL_shut_17 : decode cL_shut 17 = .ok (.lconst 0, 1) := by decide +kernel
theorem dL_shut_18 : decode cL_shut 18 = .ok (.lastore, 1) := by decide +kernel
theorem dL_shut_19 : decode cL_shut 19 = .ok (.goto 11, 3) := by decide +kernel
theorem dL_shut_22 : decode cL_shut 22 = .ok (.astore 5, 2) := by decide +kernel
theorem dL_shut_24 : decode cL_shut 24 = .ok (.iconst 1, 1) := by decide +kernel
theorem dL_shut_25 : decode cL_shut 25 = .ok (.ireturn, 1) := by decide +kernel
theorem dL_shut_26 : decode cL_shut 26 = .ok (.astore 5, 2) := by decide +kernel
theorem dL_shut_28 : decode cL_shut 28 = .ok (.iconst 2, 1) := by decide +kernel
theorem dL_shut_29 : decode cL_shut 29 = .ok (.ireturn, 1) := by decide +kernel
theorem dL_shut_30 : decode cL_shut 30 = .ok (.iconst 0, 1) := by decide +kernel
theorem dL_shut_31 : decode cL_shut 31 = .ok (.ireturn, 1) := by decide +kernel
set_option maxRecDepth 20000 in
theorem ggL_turn_X1_turn : GoodIn wsL_turn wsX1_turn := goodIn_ca (goodIn_ca (goodIn_r _ [7, 8, 9, 10, 11, 12, 13, 14, 15, 16, 6, 17, 18, 19, 20, 21, 22, 23, 24, 25, 26, 27, 28, 29, 30, 31, 32, 33, 34, 35, 36, 37, 38, 39, 40, 41, 42, 43, 44, 45, 46, 47, 48, 49, 50, 51, 52, 53, 54, 55, 56, 57, 58, 59, 60, 61, 62, 63, 64, 65, 66, 67, 68, 69, 70, 71, 72, 73, 74, 75, 76, 77, 78, 79, 80, 81, 82, 83, 84, 85, 86, 87, 88, 89, 90, 91, 92, 93, 94, 95, 96, 97, 98, 99] (by decide +kernel) (by decide +kernel)) (goodIn_sub (fun _ h => List.mem_cons_of_mem _ (List.mem_append_left _ (List.mem_append_right _ h))) (by decide +kernel))) (goodIn_sub (fun _ h => List.mem_cons_of_mem _ (List.mem_append_right _ h)) (by decide +kernel))
set_option maxRecDepth 20000 in
theorem gL_turn_X1_turn : GoodIn wsL_turn (wsV RL 27 RX1 yX1_turn wsX1_turn) := goodIn_app (goodIn_of _ (by decide +kernel)) ggL_turn_X1_turn
theorem dL_turn_0 : decode cL_turn 0 = .ok (.aload_n 3, 1) := by decide +kernel
theorem dL_turn_1 : decode cL_turn 1 = .ok (.iconst 0, 1) := by decide +kernel
theorem dL_turn_2 : decode cL_turn 2 = .ok (.aload_n 0, 1) := by decide +kernel
theorem dL_turn_3 : decode cL_turn 3 = .ok (.iload_n 1, 1) := by decide +kernel
theorem dL_turn_4 : decode cL_turn 4 = .ok (.iload_n 2, 1) := by decide +kernel
theorem dL_turn_5 : decode cL_turn 5 = .ok (.invokevirtual 27, 3) := by decide +kernel
theorem dL_turn_8 : decode cL_turn 8 = .ok (.i2l, 1) := by decide +kernel
theorem dL_turn_9 : decode cL_turn 9 = .ok (.lastore, 1) := by decide +kernel
theorem dL_turn_10 : decode cL_turn 10 = .ok (.goto 11, 3) := by decide +kernel
theorem dL_turn_13 : decode cL_turn 13 = .ok (.astore 4, 2) := by decide +kernel
theorem dL_turn_15 : decode cL_turn 15 = .ok (.iconst 1, 1) := by decide +kernel
theorem dL_turn_16 : decode cL_turn 16 = .ok (.ireturn, 1) := by decide +kernel
theorem dL_turn_17 : decode cL_turn 17 = .ok (.astore 4, 2) := by decide +kernel
theorem dL_turn_19 : decode cL_turn 19 = .ok (.iconst 2, 1) := by decide +kernel
theorem dL_turn_20 : decode cL_turn 20 = .ok (.ireturn, 1) := by decide +kernel
theorem dL_turn_21 : decode cL_turn 21 = .ok (.iconst 0, 1) := by decide +kernel
theorem dL_turn_22 : decode cL_turn 22 = .ok (.ireturn, 1) := by decide +kernel
set_option maxRecDepth 20000 in
theorem ggL_turnAll_X1_turnAll : GoodIn wsL_turnAll wsX1_turnAll := goodIn_ca (goodIn_r _ [6, 7, 8, 9, 10, 11, 12, 13, 14, 15, 5, 16, 17, 18, 19, 20, 21, 22, 23, 24, 25, 26, 27, 28, 29, 30, 31, 32, 33, 34, 35, 36, 37, 38, 39, 40, 41, 42, 43, 44, 45, 46, 47, 48, 49, 50, 51, 52, 53, 54, 55, 56, 57, 58, 59, 60, 61, 62, 63, 64, 65, 66, 67, 68, 69, 70, 71, 72, 73, 74, 75, 76, 77, 78, 79, 80, 81, 82, 83, 84, 85, 86, 87, 88, 89, 90, 91, 92, 93] (by decide +kernel) (by decide +kernel)) (goodIn_sub (fun _ h => List.mem_cons_of_mem _ (List.mem_append_right _ h)) (by decide +kernel))
set_option maxRecDepth 20000 in
theorem gL_turnAll_X1_turnAll : GoodIn wsL_turnAll (wsV RL 30 RX1 yX1_turnAll wsX1_turnAll) := goodIn_app (goodIn_of _ (by decide +kernel)) ggL_turnAll_X1_turnAll
theorem dL_turnAll_0 : decode cL_turnAll 0 = .ok (.aload_n 2, 1) := by decide +kernel
theorem dL_turnAll_1 : decode cL_turnAll 1 = .ok (.iconst 0, 1) := by decide +kernel
theorem dL_turnAll_2 : decode cL_turnAll 2 = .ok (.aload_n 0, 1) := by decide +kernel
theorem dL_turnAll_3 : decode cL_turnAll 3 = .ok (.iload_n 1, 1) := by decide +kernel
theorem dL_turnAll_4 : decode cL_turnAll 4 = .ok (.invokevirtual 30, 3) := by decide +kernel
theorem dL_turnAll_7 : decode cL_turnAll 7 = .ok (.i2l, 1) := by decide +kernel
theorem dL_turnAll_8 : decode cL_turnAll 8 = .ok (.lastore, 1) := by decide +kernel
theorem dL_turnAll_9 : decode cL_turnAll 9 = .ok (.goto 6, 3) := by decide +kernel
theorem dL_turnAll_12 : decode cL_turnAll 12 = .ok (.astore_n 3, 1) := by decide +kernel
theorem dL_turnAll_13 : decode cL_turnAll 13 = .ok (.iconst 1, 1) := by decide +kernel
theorem dL_turnAll_14 : decode cL_turnAll 14 = .ok (.ireturn, 1) := by decide +kernel
theorem dL_turnAll_15 : decode cL_turnAll 15 = .ok (.iconst 0, 1) := by decide +kernel
theorem dL_turnAll_16 : decode cL_turnAll 16 = .ok (.ireturn, 1) := by decide +kernel
set_option maxRecDepth 20000 in
theorem ggL_about_X1_about : GoodIn wsL_about wsX1_about := goodIn_ca (goodIn_r _ [6, 7, 8, 9, 10, 11, 12, 5, 13, 14, 15, 16, 17, 18, 19, 20, 21, 22, 23, 24, 25, 26, 27, 28, 29, 30, 31, 32, 33, 34, 35, 36, 37, 38, 39, 40, 41, 42, 43, 44, 45, 46, 47, 48, 49, 50, 51, 52, 53, 54, 55, 56, 57, 58, 59, 60, 61, 62, 63, 64, 65, 66, 67, 68, 69, 70, 71, 72, 73, 74, 75, 76] (by decide +kernel) (by decide +kernel)) (goodIn_sub (fun _ h => List.mem_cons_of_mem _ (List.mem_append_right _ h)) (by decide +kernel))
set_option maxRecDepth 20000 in
theorem gL_about_X1_about : GoodIn wsL_about (wsV RL 33 RX1 yX1_about wsX1_about) := goodIn_app (goodIn_of _ (by decide +kernel)) ggL_about_X1_about
theorem dL_about_0 : decode cL_about 0 = .ok (.aload_n 3, 1) := by decide +kernel
theorem dL_about_1 : decode cL_about 1 = .ok (.iconst 0, 1) := by decide +kernel
theorem dL_about_2 : decode cL_about 2 = .ok (.aload_n 0, 1) := by decide +kernel
theorem dL_about_3 : decode cL_about 3 = .ok (.iload_n 1, 1) := by decide +kernel
theorem dL_about_4 : decode cL_about 4 = .ok (.iload_n 2, 1) := by decide +kernel
theorem dL_about_5 : decode cL_about 5 = .ok (.invokevirtual 33, 3) := by decide +kernel
theorem dL_about_8 : decode cL_about 8 = .ok (.i2l, 1) := by decide +kernel
theorem dL_about_9 : decode cL_about 9 = .ok (.lastore, 1) := by decide +kernel
theorem dL_about_10 : decode cL_about 10 = .ok (.goto 7, 3) := by decide +kernel
theorem dL_about_13 : decode cL_about 13 = .ok (.astore 4, 2) := by decide +kernel
theorem dL_about_15 : decode cL_about 15 = .ok (.iconst 1, 1) := by decide +kernel
theorem dL_about_16 : decode cL_about 16 = .ok (.ireturn, 1) := by decide +kernel
theorem dL_about_17 : decode cL_about 17 = .ok (.iconst 0, 1) := by decide +kernel
theorem dL_about_18 : decode cL_about 18 = .ok (.ireturn, 1) := by decide +kernel
set_option maxRecDepth 20000 in
theorem ggL_beside_X1_beside : GoodIn wsL_beside wsX1_beside := goodIn_ca (goodIn_r _ [6, 7, 8, 9, 5, 10, 11, 12, 13, 14, 15, 16, 17, 18, 19, 20, 21, 22, 23, 24, 25, 26, 27, 28, 29, 30, 31, 32, 33, 34, 35, 36, 37, 38, 39, 40, 41, 42, 43, 44, 45, 46, 47, 48, 49] (by decide +kernel) (by decide +kernel)) (goodIn_sub (fun _ h => List.mem_cons_of_mem _ (List.mem_append_right _ h)) (by decide +kernel))
set_option maxRecDepth 20000 in
theorem gL_beside_X1_beside : GoodIn wsL_beside (wsV RL 36 RX1 yX1_beside wsX1_beside) := goodIn_app (goodIn_of _ (by decide +kernel)) ggL_beside_X1_beside
theorem dL_beside_0 : decode cL_beside 0 = .ok (.aload_n 3, 1) := by decide +kernel
theorem dL_beside_1 : decode cL_beside 1 = .ok (.iconst 0, 1) := by decide +kernel
theorem dL_beside_2 : decode cL_beside 2 = .ok (.aload_n 0, 1) := by decide +kernel
theorem dL_beside_3 : decode cL_beside 3 = .ok (.iload_n 1, 1) := by decide +kernel
theorem dL_beside_4 : decode cL_beside 4 = .ok (.iload_n 2, 1) := by decide +kernel
theorem dL_beside_5 : decode cL_beside 5 = .ok (.invokevirtual 36, 3) := by decide +kernel
theorem dL_beside_8 : decode cL_beside 8 = .ok (.i2l, 1) := by decide +kernel
theorem dL_beside_9 : decode cL_beside 9 = .ok (.lastore, 1) := by decide +kernel
theorem dL_beside_10 : decode cL_beside 10 = .ok (.goto 7, 3) := by decide +kernel
theorem dL_beside_13 : decode cL_beside 13 = .ok (.astore 4, 2) := by decide +kernel
theorem dL_beside_15 : decode cL_beside 15 = .ok (.iconst 1, 1) := by decide +kernel
theorem dL_beside_16 : decode cL_beside 16 = .ok (.ireturn, 1) := by decide +kernel
theorem dL_beside_17 : decode cL_beside 17 = .ok (.iconst 0, 1) := by decide +kernel
theorem dL_beside_18 : decode cL_beside 18 = .ok (.ireturn, 1) := by decide +kernel
set_option maxRecDepth 20000 in
theorem ggL_isShut_X1_isShut : GoodIn wsL_isShut wsX1_isShut := goodIn_ca (goodIn_ca (goodIn_r _ [7, 8, 9, 10, 11, 6, 12, 13, 14, 15, 16, 17, 18, 19, 20, 21, 22, 23, 24, 25, 26, 27, 28, 29, 30, 31, 32, 33, 34, 35, 36, 37, 38, 39, 40, 41, 42, 43, 44, 45, 46, 47, 48, 49, 50, 51, 52, 53, 54, 55, 56, 57, 58] (by decide +kernel) (by decide +kernel)) (goodIn_sub (fun _ h => List.mem_cons_of_mem _ (List.mem_append_left _ (List.mem_append_right _ h))) (by decide +kernel))) (goodIn_sub (fun _ h => List.mem_cons_of_mem _ (List.mem_append_right _ h)) (by decide +kernel))
set_option maxRecDepth 20000 in
theorem gL_isShut_X1_isShut : GoodIn wsL_isShut (wsV RL 39 RX1 yX1_isShut wsX1_isShut) := goodIn_app (goodIn_of _ (by decide +kernel)) ggL_isShut_X1_isShut
theorem dL_isShut_0 : decode cL_isShut 0 = .ok (.aload_n 3, 1) := by decide +kernel
theorem dL_isShut_1 : decode cL_isShut 1 = .ok (.iconst 0, 1) := by decide +kernel
theorem dL_isShut_2 : decode cL_isShut 2 = .ok (.aload_n 0, 1) := by decide +kernel
theorem dL_isShut_3 : decode cL_isShut 3 = .ok (.iload_n 1, 1) := by decide +kernel
theorem dL_isShut_4 : decode cL_isShut 4 = .ok (.iload_n 2, 1) := by decide +kernel
theorem dL_isShut_5 : decode cL_isShut 5 = .ok (.invokevirtual 39, 3) := by decide +kernel
theorem dL_isShut_8 : decode cL_isShut 8 = .ok (.ifCond .eq 7, 3) := by decide +kernel
theorem dL_isShut_11 : decode cL_isShut 11 = .ok (.lconst 1, 1) := by decide +kernel
theorem dL_isShut_12 : decode cL_isShut 12 = .ok (.goto 4, 3) := by decide +kernel
theorem dL_isShut_15 : decode cL_isShut 15 = .ok (.lconst 0, 1) := by decide +kernel
theorem dL_isShut_16 : decode cL_isShut 16 = .ok (.lastore, 1) := by decide +kernel
theorem dL_isShut_17 : decode cL_isShut 17 = .ok (.goto 11, 3) := by decide +kernel
theorem dL_isShut_20 : decode cL_isShut 20 = .ok (.astore 4, 2) := by decide +kernel
theorem dL_isShut_22 : decode cL_isShut 22 = .ok (.iconst 1, 1) := by decide +kernel
theorem dL_isShut_23 : decode cL_isShut 23 = .ok (.ireturn, 1) := by decide +kernel
theorem dL_isShut_24 : decode cL_isShut 24 = .ok (.astore 4, 2) := by decide +kernel
theorem dL_isShut_26 : decode cL_isShut 26 = .ok (.iconst 2, 1) := by decide +kernel
theorem dL_isShut_27 : decode cL_isShut 27 = .ok (.ireturn, 1) := by decide +kernel
theorem dL_isShut_28 : decode cL_isShut 28 = .ok (.iconst 0, 1) := by decide +kernel
theorem dL_isShut_29 : decode cL_isShut 29 = .ok (.ireturn, 1) := by decide +kernel
set_option maxRecDepth 20000 in
theorem ggL_far_X1_far : GoodIn wsL_far wsX1_far := goodIn_ca (goodIn_r _ [6, 7, 8, 9, 10, 11, 12, 13, 14, 5, 15, 16, 17, 18, 19, 20, 21, 22, 23, 24, 25, 26, 27, 28, 29, 30, 31, 32, 33, 34, 35, 36, 37, 38, 39, 40, 41, 42, 43, 44, 45, 46, 47, 48] (by decide +kernel) (by decide +kernel)) (goodIn_sub (fun _ h => List.mem_cons_of_mem _ (List.mem_append_right _ h)) (by decide +kernel))
set_option maxRecDepth 20000 in
theorem gL_far_X1_far : GoodIn wsL_far (wsV RL 43 RX1 yX1_far wsX1_far) := goodIn_app (goodIn_of _ (by decide +kernel)) ggL_far_X1_far
theorem dL_far_0 : decode cL_far 0 = .ok (.aload_n 3, 1) := by decide +kernel
theorem dL_far_1 : decode cL_far 1 = .ok (.iconst 0, 1) := by decide +kernel
theorem dL_far_2 : decode cL_far 2 = .ok (.aload_n 0, 1) := by decide +kernel
theorem dL_far_3 : decode cL_far 3 = .ok (.iload_n 1, 1) := by decide +kernel
theorem dL_far_4 : decode cL_far 4 = .ok (.iload_n 2, 1) := by decide +kernel
theorem dL_far_5 : decode cL_far 5 = .ok (.invokevirtual 43, 3) := by decide +kernel
theorem dL_far_8 : decode cL_far 8 = .ok (.i2l, 1) := by decide +kernel
theorem dL_far_9 : decode cL_far 9 = .ok (.lastore, 1) := by decide +kernel
theorem dL_far_10 : decode cL_far 10 = .ok (.goto 7, 3) := by decide +kernel
theorem dL_far_13 : decode cL_far 13 = .ok (.astore 4, 2) := by decide +kernel
theorem dL_far_15 : decode cL_far 15 = .ok (.iconst 1, 1) := by decide +kernel
theorem dL_far_16 : decode cL_far 16 = .ok (.ireturn, 1) := by decide +kernel
theorem dL_far_17 : decode cL_far 17 = .ok (.iconst 0, 1) := by decide +kernel
theorem dL_far_18 : decode cL_far 18 = .ok (.ireturn, 1) := by decide +kernel
set_option maxRecDepth 20000 in
theorem ggL_sees_X1_sees : GoodIn wsL_sees wsX1_sees := goodIn_ca (goodIn_r _ [6, 7, 8, 9, 10, 11, 5, 12, 13, 14, 15, 16, 17, 18, 19, 20, 21, 22, 23, 24, 25, 26, 27, 28, 29, 30, 31, 32, 33, 34, 35, 36, 37, 38, 39, 40, 41, 42, 43, 44, 45, 46, 47, 48, 49, 50, 51, 52, 53, 54, 55, 56, 57, 58, 59, 60, 61] (by decide +kernel) (by decide +kernel)) (goodIn_sub (fun _ h => List.mem_cons_of_mem _ (List.mem_append_right _ h)) (by decide +kernel))
set_option maxRecDepth 20000 in
theorem gL_sees_X1_sees : GoodIn wsL_sees (wsV RL 46 RX1 yX1_sees wsX1_sees) := goodIn_app (goodIn_of _ (by decide +kernel)) ggL_sees_X1_sees
theorem dL_sees_0 : decode cL_sees 0 = .ok (.aload_n 3, 1) := by decide +kernel
theorem dL_sees_1 : decode cL_sees 1 = .ok (.iconst 0, 1) := by decide +kernel
theorem dL_sees_2 : decode cL_sees 2 = .ok (.aload_n 0, 1) := by decide +kernel
theorem dL_sees_3 : decode cL_sees 3 = .ok (.iload_n 1, 1) := by decide +kernel
theorem dL_sees_4 : decode cL_sees 4 = .ok (.iload_n 2, 1) := by decide +kernel
theorem dL_sees_5 : decode cL_sees 5 = .ok (.invokevirtual 46, 3) := by decide +kernel
theorem dL_sees_8 : decode cL_sees 8 = .ok (.ifCond .eq 7, 3) := by decide +kernel
theorem dL_sees_11 : decode cL_sees 11 = .ok (.lconst 1, 1) := by decide +kernel
theorem dL_sees_12 : decode cL_sees 12 = .ok (.goto 4, 3) := by decide +kernel
theorem dL_sees_15 : decode cL_sees 15 = .ok (.lconst 0, 1) := by decide +kernel
theorem dL_sees_16 : decode cL_sees 16 = .ok (.lastore, 1) := by decide +kernel
theorem dL_sees_17 : decode cL_sees 17 = .ok (.goto 7, 3) := by decide +kernel
theorem dL_sees_20 : decode cL_sees 20 = .ok (.astore 4, 2) := by decide +kernel
theorem dL_sees_22 : decode cL_sees 22 = .ok (.iconst 1, 1) := by decide +kernel
theorem dL_sees_23 : decode cL_sees 23 = .ok (.ireturn, 1) := by decide +kernel
theorem dL_sees_24 : decode cL_sees 24 = .ok (.iconst 0, 1) := by decide +kernel
theorem dL_sees_25 : decode cL_sees 25 = .ok (.ireturn, 1) := by decide +kernel
set_option maxRecDepth 20000 in
theorem ggL_way_X1_way : GoodIn wsL_way wsX1_way := goodIn_ca (goodIn_r _ [6, 7, 8, 9, 5, 10, 11, 12, 13, 14, 15, 16, 17, 18, 19, 20, 21, 22, 23, 24, 25, 26, 27, 28, 29, 30, 31, 32, 33, 34, 35, 36, 37, 38, 39, 40, 41, 42, 43, 44, 45, 46, 47, 48, 49, 50, 51, 52, 53, 54, 55, 56, 57, 58, 59, 60, 61, 62, 63, 64, 65, 66, 67, 68, 69, 70, 71, 72, 73, 74] (by decide +kernel) (by decide +kernel)) (goodIn_sub (fun _ h => List.mem_cons_of_mem _ (List.mem_append_right _ h)) (by decide +kernel))
set_option maxRecDepth 20000 in
theorem gL_way_X1_way : GoodIn wsL_way (wsV RL 49 RX1 yX1_way wsX1_way) := goodIn_app (goodIn_of _ (by decide +kernel)) ggL_way_X1_way
theorem dL_way_0 : decode cL_way 0 = .ok (.aload_n 3, 1) := by decide +kernel
theorem dL_way_1 : decode cL_way 1 = .ok (.iconst 0, 1) := by decide +kernel
theorem dL_way_2 : decode cL_way 2 = .ok (.aload_n 0, 1) := by decide +kernel
theorem dL_way_3 : decode cL_way 3 = .ok (.iload_n 1, 1) := by decide +kernel
theorem dL_way_4 : decode cL_way 4 = .ok (.iload_n 2, 1) := by decide +kernel
theorem dL_way_5 : decode cL_way 5 = .ok (.invokevirtual 49, 3) := by decide +kernel
theorem dL_way_8 : decode cL_way 8 = .ok (.i2l, 1) := by decide +kernel
theorem dL_way_9 : decode cL_way 9 = .ok (.lastore, 1) := by decide +kernel
theorem dL_way_10 : decode cL_way 10 = .ok (.goto 7, 3) := by decide +kernel
theorem dL_way_13 : decode cL_way 13 = .ok (.astore 4, 2) := by decide +kernel
theorem dL_way_15 : decode cL_way 15 = .ok (.iconst 1, 1) := by decide +kernel
theorem dL_way_16 : decode cL_way 16 = .ok (.ireturn, 1) := by decide +kernel
theorem dL_way_17 : decode cL_way 17 = .ok (.iconst 0, 1) := by decide +kernel
theorem dL_way_18 : decode cL_way 18 = .ok (.ireturn, 1) := by decide +kernel
set_option maxRecDepth 20000 in
theorem ggL_side_X1_side : GoodIn wsL_side wsX1_side := goodIn_ca (goodIn_r _ [6, 7, 8, 9, 10, 5, 11, 12, 13, 14, 15, 16, 17, 18, 19, 20, 21, 22, 23, 24, 25, 26, 27, 28, 29, 30, 31, 32, 33, 34, 35, 36, 37, 38, 39, 40, 41, 42, 43, 44, 45, 46, 47, 48, 49, 50, 51, 52, 53, 54, 55, 56, 57, 58, 59, 60, 61, 62, 63, 64, 65, 66, 67, 68, 69, 70, 71, 72, 73, 74] (by decide +kernel) (by decide +kernel)) (goodIn_sub (fun _ h => List.mem_cons_of_mem _ (List.mem_append_right _ h)) (by decide +kernel))
set_option maxRecDepth 20000 in
theorem gL_side_X1_side : GoodIn wsL_side (wsV RL 52 RX1 yX1_side wsX1_side) := goodIn_app (goodIn_of _ (by decide +kernel)) ggL_side_X1_side
theorem dL_side_0 : decode cL_side 0 = .ok (.aload_n 3, 1) := by decide +kernel
theorem dL_side_1 : decode cL_side 1 = .ok (.iconst 0, 1) := by decide +kernel
theorem dL_side_2 : decode cL_side 2 = .ok (.aload_n 0, 1) := by decide +kernel
theorem dL_side_3 : decode cL_side 3 = .ok (.iload_n 1, 1) := by decide +kernel
theorem dL_side_4 : decode cL_side 4 = .ok (.iload_n 2, 1) := by decide +kernel
theorem dL_side_5 : decode cL_side 5 = .ok (.invokevirtual 52, 3) := by decide +kernel
theorem dL_side_8 : decode cL_side 8 = .ok (.i2l, 1) := by decide +kernel
theorem dL_side_9 : decode cL_side 9 = .ok (.lastore, 1) := by decide +kernel
theorem dL_side_10 : decode cL_side 10 = .ok (.goto 7, 3) := by decide +kernel
theorem dL_side_13 : decode cL_side 13 = .ok (.astore 4, 2) := by decide +kernel
theorem dL_side_15 : decode cL_side 15 = .ok (.iconst 1, 1) := by decide +kernel
theorem dL_side_16 : decode cL_side 16 = .ok (.ireturn, 1) := by decide +kernel
theorem dL_side_17 : decode cL_side 17 = .ok (.iconst 0, 1) := by decide +kernel
theorem dL_side_18 : decode cL_side 18 = .ok (.ireturn, 1) := by decide +kernel
set_option maxRecDepth 20000 in
theorem ggL_reach_X1_reach : GoodIn wsL_reach wsX1_reach := goodIn_ca (goodIn_ca (goodIn_r _ [7, 8, 9, 10, 11, 12, 6, 13, 14, 15, 16, 17, 18, 19, 20, 21, 22, 23, 24, 25, 26, 27, 28, 29, 30, 31, 32, 33, 34, 35, 36, 37, 38, 39, 40, 41, 42, 43, 44, 45, 46, 47, 48, 49, 50, 51, 52, 53, 54, 55, 56, 57, 58, 59, 60, 61, 62, 63, 64, 65, 66, 67, 68, 69, 70, 71, 72, 73, 74, 75, 76] (by decide +kernel) (by decide +kernel)) (goodIn_sub (fun _ h => List.mem_cons_of_mem _ (List.mem_append_left _ (List.mem_append_right _ h))) (by decide +kernel))) (goodIn_sub (fun _ h => List.mem_cons_of_mem _ (List.mem_append_right _ h)) (by decide +kernel))
set_option maxRecDepth 20000 in
theorem gL_reach_X1_reach : GoodIn wsL_reach (wsV RL 55 RX1 yX1_reach wsX1_reach) := goodIn_app (goodIn_of _ (by decide +kernel)) ggL_reach_X1_reach
theorem dL_reach_0 : decode cL_reach 0 = .ok (.aload_n 3, 1) := by decide +kernel
theorem dL_reach_1 : decode cL_reach 1 = .ok (.iconst 0, 1) := by decide +kernel
theorem dL_reach_2 : decode cL_reach 2 = .ok (.aload_n 0, 1) := by decide +kernel
theorem dL_reach_3 : decode cL_reach 3 = .ok (.iload_n 1, 1) := by decide +kernel
theorem dL_reach_4 : decode cL_reach 4 = .ok (.iload_n 2, 1) := by decide +kernel
theorem dL_reach_5 : decode cL_reach 5 = .ok (.invokevirtual 55, 3) := by decide +kernel
theorem dL_reach_8 : decode cL_reach 8 = .ok (.i2l, 1) := by decide +kernel
theorem dL_reach_9 : decode cL_reach 9 = .ok (.lastore, 1) := by decide +kernel
theorem dL_reach_10 : decode cL_reach 10 = .ok (.goto 11, 3) := by decide +kernel
theorem dL_reach_13 : decode cL_reach 13 = .ok (.astore 4, 2) := by decide +kernel
theorem dL_reach_15 : decode cL_reach 15 = .ok (.iconst 1, 1) := by decide +kernel
theorem dL_reach_16 : decode cL_reach 16 = .ok (.ireturn, 1) := by decide +kernel
theorem dL_reach_17 : decode cL_reach 17 = .ok (.astore 4, 2) := by decide +kernel
theorem dL_reach_19 : decode cL_reach 19 = .ok (.iconst 2, 1) := by decide +kernel
theorem dL_reach_20 : decode cL_reach 20 = .ok (.ireturn, 1) := by decide +kernel
theorem dL_reach_21 : decode cL_reach 21 = .ok (.iconst 0, 1) := by decide +kernel
theorem dL_reach_22 : decode cL_reach 22 = .ok (.ireturn, 1) := by decide +kernel
set_option maxRecDepth 20000 in
theorem ggL_ring_X1_ring : GoodIn wsL_ring wsX1_ring := goodIn_ca (goodIn_r _ [6, 7, 8, 9, 10, 5, 11, 12, 13, 14, 15, 16, 17, 18, 19, 20, 21, 22, 23, 24, 25, 26, 27, 28, 29, 30, 31, 32, 33, 34, 35, 36, 37, 38, 39, 40, 41, 42, 43] (by decide +kernel) (by decide +kernel)) (goodIn_sub (fun _ h => List.mem_cons_of_mem _ (List.mem_append_right _ h)) (by decide +kernel))
set_option maxRecDepth 20000 in
theorem gL_ring_X1_ring : GoodIn wsL_ring (wsV RL 58 RX1 yX1_ring wsX1_ring) := goodIn_app (goodIn_of _ (by decide +kernel)) ggL_ring_X1_ring
theorem dL_ring_0 : decode cL_ring 0 = .ok (.aload_n 3, 1) := by decide +kernel
theorem dL_ring_1 : decode cL_ring 1 = .ok (.iconst 0, 1) := by decide +kernel
theorem dL_ring_2 : decode cL_ring 2 = .ok (.aload_n 0, 1) := by decide +kernel
theorem dL_ring_3 : decode cL_ring 3 = .ok (.iload_n 1, 1) := by decide +kernel
theorem dL_ring_4 : decode cL_ring 4 = .ok (.iload_n 2, 1) := by decide +kernel
theorem dL_ring_5 : decode cL_ring 5 = .ok (.invokevirtual 58, 3) := by decide +kernel
theorem dL_ring_8 : decode cL_ring 8 = .ok (.i2l, 1) := by decide +kernel
theorem dL_ring_9 : decode cL_ring 9 = .ok (.lastore, 1) := by decide +kernel
theorem dL_ring_10 : decode cL_ring 10 = .ok (.goto 7, 3) := by decide +kernel
theorem dL_ring_13 : decode cL_ring 13 = .ok (.astore 4, 2) := by decide +kernel
theorem dL_ring_15 : decode cL_ring 15 = .ok (.iconst 1, 1) := by decide +kernel
theorem dL_ring_16 : decode cL_ring 16 = .ok (.ireturn, 1) := by decide +kernel
theorem dL_ring_17 : decode cL_ring 17 = .ok (.iconst 0, 1) := by decide +kernel
theorem dL_ring_18 : decode cL_ring 18 = .ok (.ireturn, 1) := by decide +kernel
set_option maxRecDepth 20000 in
theorem ggL_count_X1_count : GoodIn wsL_count wsX1_count := goodIn_ca (goodIn_r _ [6, 7, 8, 9, 10, 11, 5, 12, 13, 14, 15, 16, 17, 18, 19, 20, 21, 22, 23, 24, 25, 26, 27, 28, 29, 30, 31, 32, 33, 34, 35, 36, 37, 38, 39, 40, 41, 42, 43, 44, 45, 46, 47, 48, 49, 50, 51, 52, 53, 54, 55, 56, 57, 58, 59, 60, 61, 62, 63, 64, 65, 66, 67, 68, 69, 70, 71, 72, 73, 74, 75, 76, 77, 78, 79, 80, 81, 82, 83] (by decide +kernel) (by decide +kernel)) (goodIn_sub (fun _ h => List.mem_cons_of_mem _ (List.mem_append_right _ h)) (by decide +kernel))
set_option maxRecDepth 20000 in
theorem gL_count_X1_count : GoodIn wsL_count (wsV RL 61 RX1 yX1_count wsX1_count) := goodIn_app (goodIn_of _ (by decide +kernel)) ggL_count_X1_count
theorem dL_count_0 : decode cL_count 0 = .ok (.aload_n 2, 1) := by decide +kernel
theorem dL_count_1 : decode cL_count 1 = .ok (.iconst 0, 1) := by decide +kernel
theorem dL_count_2 : decode cL_count 2 = .ok (.aload_n 0, 1) := by decide +kernel
theorem dL_count_3 : decode cL_count 3 = .ok (.iload_n 1, 1) := by decide +kernel
theorem dL_count_4 : decode cL_count 4 = .ok (.invokevirtual 61, 3) := by decide +kernel
theorem dL_count_7 : decode cL_count 7 = .ok (.i2l, 1) := by decide +kernel
theorem dL_count_8 : decode cL_count 8 = .ok (.lastore, 1) := by decide +kernel
theorem dL_count_9 : decode cL_count 9 = .ok (.goto 6, 3) := by decide +kernel
theorem dL_count_12 : decode cL_count 12 = .ok (.astore_n 3, 1) := by decide +kernel
theorem dL_count_13 : decode cL_count 13 = .ok (.iconst 1, 1) := by decide +kernel
theorem dL_count_14 : decode cL_count 14 = .ok (.ireturn, 1) := by decide +kernel
theorem dL_count_15 : decode cL_count 15 = .ok (.iconst 0, 1) := by decide +kernel
theorem dL_count_16 : decode cL_count 16 = .ok (.ireturn, 1) := by decide +kernel
set_option maxRecDepth 20000 in
theorem ggL_would_X1_would : GoodIn wsL_would wsX1_would := goodIn_ca (goodIn_ca (goodIn_r _ [7, 8, 9, 10, 6, 11, 12, 13, 14, 15, 16, 17, 18, 19, 20, 21, 22, 23, 24, 25, 26, 27, 28, 29, 30, 31, 32, 33, 34, 35, 36, 37, 38, 39, 40, 41, 42, 43, 44, 45, 46, 47, 48, 49, 50, 51, 52, 53, 54, 55, 56, 57, 58, 59, 60, 61, 62, 63, 64, 65, 66, 67, 68, 69, 70, 71, 72, 73, 74, 75, 76, 77, 78, 79, 80, 81, 82, 83, 84, 85, 86, 87, 88, 89, 90, 91, 92, 93, 94, 95, 96, 97, 98, 99] (by decide +kernel) (by decide +kernel)) (goodIn_sub (fun _ h => List.mem_cons_of_mem _ (List.mem_append_left _ (List.mem_append_right _ h))) (by decide +kernel))) (goodIn_sub (fun _ h => List.mem_cons_of_mem _ (List.mem_append_right _ h)) (by decide +kernel))
set_option maxRecDepth 20000 in
theorem gL_would_X1_would : GoodIn wsL_would (wsV RL 64 RX1 yX1_would wsX1_would) := goodIn_app (goodIn_of _ (by decide +kernel)) ggL_would_X1_would
theorem dL_would_0 : decode cL_would 0 = .ok (.aload_n 3, 1) := by decide +kernel
theorem dL_would_1 : decode cL_would 1 = .ok (.iconst 0, 1) := by decide +kernel
theorem dL_would_2 : decode cL_would 2 = .ok (.aload_n 0, 1) := by decide +kernel
theorem dL_would_3 : decode cL_would 3 = .ok (.iload_n 1, 1) := by decide +kernel
theorem dL_would_4 : decode cL_would 4 = .ok (.iload_n 2, 1) := by decide +kernel
theorem dL_would_5 : decode cL_would 5 = .ok (.invokevirtual 64, 3) := by decide +kernel
theorem dL_would_8 : decode cL_would 8 = .ok (.i2l, 1) := by decide +kernel
theorem dL_would_9 : decode cL_would 9 = .ok (.lastore, 1) := by decide +kernel
theorem dL_would_10 : decode cL_would 10 = .ok (.goto 11, 3) := by decide +kernel
theorem dL_would_13 : decode cL_would 13 = .ok (.astore 4, 2) := by decide +kernel
theorem dL_would_15 : decode cL_would 15 = .ok (.iconst 1, 1) := by decide +kernel
theorem dL_would_16 : decode cL_would 16 = .ok (.ireturn, 1) := by decide +kernel
theorem dL_would_17 : decode cL_would 17 = .ok (.astore 4, 2) := by decide +kernel
theorem dL_would_19 : decode cL_would 19 = .ok (.iconst 2, 1) := by decide +kernel
theorem dL_would_20 : decode cL_would 20 = .ok (.ireturn, 1) := by decide +kernel
theorem dL_would_21 : decode cL_would 21 = .ok (.iconst 0, 1) := by decide +kernel
