set_option maxRecDepth 20000 in
theorem ggX0_init_J7_fill_53178 : GoodIn wsX0_init wsJ7_fill_53178 := goodIn_r _ [13] (by decide +kernel) (by decide +kernel)
set_option maxRecDepth 20000 in
theorem gX0_init_J7_fill_53178 : GoodIn wsX0_init (va_wsS RX0 27 yJ7_fill_53178 wsJ7_fill_53178) := goodIn_app (goodIn_of _ (by decide +kernel)) ggX0_init_J7_fill_53178
set_option maxRecDepth 20000 in
theorem ggX0_init_X0_placeRoom : GoodIn wsX0_init wsX0_placeRoom := goodIn_r _ [18, 5, 6, 7, 8, 19, 20, 17, 21, 45, 46, 47, 48, 49] (by decide +kernel) (by decide +kernel)
set_option maxRecDepth 20000 in
theorem gX0_init_X0_placeRoom : GoodIn wsX0_init (wsV RX0 33 RX0 yX0_placeRoom wsX0_placeRoom) := goodIn_app (goodIn_of _ (by decide +kernel)) ggX0_init_X0_placeRoom
set_option maxRecDepth 20000 in
theorem ggX0_init_X0_placeRing : GoodIn wsX0_init wsX0_placeRing := goodIn_r _ [25, 26, 27, 28, 29, 17, 30, 14, 15, 16, 18, 5, 6, 7, 8, 19, 20, 21, 45, 46, 47, 48, 49] (by decide +kernel) (by decide +kernel)
set_option maxRecDepth 20000 in
theorem gX0_init_X0_placeRing : GoodIn wsX0_init (wsV RX0 37 RX0 yX0_placeRing wsX0_placeRing) := goodIn_app (goodIn_of _ (by decide +kernel)) ggX0_init_X0_placeRing
set_option maxRecDepth 20000 in
theorem ggX0_init_X0_joinRooms : GoodIn wsX0_init wsX0_joinRooms := goodIn_r _ [34, 5, 26, 6, 27, 9, 35, 36, 37, 38, 39, 40, 17, 41, 8, 42, 43, 44, 19, 20, 21, 45, 46, 47, 48, 49] (by decide +kernel) (by decide +kernel)
set_option maxRecDepth 20000 in
theorem gX0_init_X0_joinRooms : GoodIn wsX0_init (wsV RX0 41 RX0 yX0_joinRooms wsX0_joinRooms) := goodIn_app (goodIn_of _ (by decide +kernel)) ggX0_init_X0_joinRooms
theorem dX0_init_0 : decode cX0_init 0 = .ok (.aload_n 0, 1) := by decide +kernel
theorem dX0_init_1 : decode cX0_init 1 = .ok (.invokespecial 3, 3) := by decide +kernel
theorem dX0_init_4 : decode cX0_init 4 = .ok (.aload_n 0, 1) := by decide +kernel
theorem dX0_init_5 : decode cX0_init 5 = .ok (.bipush 91, 2) := by decide +kernel
theorem dX0_init_7 : decode cX0_init 7 = .ok (.newarray .int, 2) := by decide +kernel
theorem dX0_init_9 : decode cX0_init 9 = .ok (.putfield 9, 3) := by decide +kernel
theorem dX0_init_12 : decode cX0_init 12 = .ok (.aload_n 0, 1) := by decide +kernel
theorem dX0_init_13 : decode cX0_init 13 = .ok (.bipush 91, 2) := by decide +kernel
theorem dX0_init_15 : decode cX0_init 15 = .ok (.newarray .int, 2) := by decide +kernel
theorem dX0_init_17 : decode cX0_init 17 = .ok (.putfield 15, 3) := by decide +kernel
theorem dX0_init_20 : decode cX0_init 20 = .ok (.aload_n 0, 1) := by decide +kernel
theorem dX0_init_21 : decode cX0_init 21 = .ok (.bipush 91, 2) := by decide +kernel
theorem dX0_init_23 : decode cX0_init 23 = .ok (.newarray .int, 2) := by decide +kernel
theorem dX0_init_25 : decode cX0_init 25 = .ok (.putfield 18, 3) := by decide +kernel
theorem dX0_init_28 : decode cX0_init 28 = .ok (.aload_n 0, 1) := by decide +kernel
theorem dX0_init_29 : decode cX0_init 29 = .ok (.bipush 121, 2) := by decide +kernel
theorem dX0_init_31 : decode cX0_init 31 = .ok (.newarray .int, 2) := by decide +kernel
theorem dX0_init_33 : decode cX0_init 33 = .ok (.putfield 21, 3) := by decide +kernel
theorem dX0_init_36 : decode cX0_init 36 = .ok (.aload_n 0, 1) := by decide +kernel
theorem dX0_init_37 : decode cX0_init 37 = .ok (.sipush 546, 3) := by decide +kernel
theorem dX0_init_40 : decode cX0_init 40 = .ok (.newarray .int, 2) := by decide +kernel
theorem dX0_init_42 : decode cX0_init 42 = .ok (.putfield 24, 3) := by decide +kernel
theorem dX0_init_45 : decode cX0_init 45 = .ok (.aload_n 0, 1) := by decide +kernel
theorem dX0_init_46 : decode cX0_init 46 = .ok (.getfield 21, 3) := by decide +kernel
theorem dX0_init_49 : decode cX0_init 49 = .ok (.iconst (-1), 1) := by decide +kernel
theorem dX0_init_50 : decode cX0_init 50 = .ok (.invokestatic 27, 3) := by decide +kernel
theorem dX0_init_53 : decode cX0_init 53 = .ok (.aload_n 0, 1) := by decide +kernel
theorem dX0_init_54 : decode cX0_init 54 = .ok (.iconst 0, 1) := by decide +kernel
theorem dX0_init_55 : decode cX0_init 55 = .ok (.iconst 0, 1) := by decide +kernel
theorem dX0_init_56 : decode cX0_init 56 = .ok (.iconst 0, 1) := by decide +kernel
theorem dX0_init_57 : decode cX0_init 57 = .ok (.iconst 0, 1) := by decide +kernel
theorem dX0_init_58 : decode cX0_init 58 = .ok (.invokevirtual 33, 3) := by decide +kernel
theorem dX0_init_61 : decode cX0_init 61 = .ok (.iconst 1, 1) := by decide +kernel
theorem dX0_init_62 : decode cX0_init 62 = .ok (.istore_n 1, 1) := by decide +kernel
theorem dX0_init_63 : decode cX0_init 63 = .ok (.iload_n 1, 1) := by decide +kernel
theorem dX0_init_64 : decode cX0_init 64 = .ok (.iconst 5, 1) := by decide +kernel
theorem dX0_init_65 : decode cX0_init 65 = .ok (.if_icmp .gt 14, 3) := by decide +kernel
theorem dX0_init_68 : decode cX0_init 68 = .ok (.aload_n 0, 1) := by decide +kernel
theorem dX0_init_69 : decode cX0_init 69 = .ok (.iload_n 1, 1) := by decide +kernel
theorem dX0_init_70 : decode cX0_init 70 = .ok (.invokevirtual 37, 3) := by decide +kernel
theorem dX0_init_73 : decode cX0_init 73 = .ok (.iinc 1 1, 3) := by decide +kernel
theorem dX0_init_76 : decode cX0_init 76 = .ok (.goto (-13), 3) := by decide +kernel
theorem dX0_init_79 : decode cX0_init 79 = .ok (.aload_n 0, 1) := by decide +kernel
theorem dX0_init_80 : decode cX0_init 80 = .ok (.invokevirtual 41, 3) := by decide +kernel
theorem dX0_init_83 : decode cX0_init 83 = .ok (.return_, 1) := by decide +kernel
theorem dX0_firstRoomOf_0 : decode cX0_firstRoomOf 0 = .ok (.iload_n 0, 1) := by decide +kernel
theorem dX0_firstRoomOf_1 : decode cX0_firstRoomOf 1 = .ok (.iconst 1, 1) := by decide +kernel
theorem dX0_firstRoomOf_2 : decode cX0_firstRoomOf 2 = .ok (.if_icmp .ge 7, 3) := by decide +kernel
theorem dX0_firstRoomOf_5 : decode cX0_firstRoomOf 5 = .ok (.iconst 0, 1) := by decide +kernel
theorem dX0_firstRoomOf_6 : decode cX0_firstRoomOf 6 = .ok (.goto 12, 3) := by decide +kernel
theorem dX0_firstRoomOf_9 : decode cX0_firstRoomOf 9 = .ok (.iconst 1, 1) := by decide +kernel
theorem dX0_firstRoomOf_10 : decode cX0_firstRoomOf 10 = .ok (.iconst 3, 1) := by decide +kernel
theorem dX0_firstRoomOf_11 : decode cX0_firstRoomOf 11 = .ok (.iload_n 0, 1) := by decide +kernel
theorem dX0_firstRoomOf_12 : decode cX0_firstRoomOf 12 = .ok (.imul, 1) := by decide +kernel
theorem dX0_firstRoomOf_13 : decode cX0_firstRoomOf 13 = .ok (.iload_n 0, 1) := by decide +kernel
theorem dX0_firstRoomOf_14 : decode cX0_firstRoomOf 14 = .ok (.iconst 1, 1) := by decide +kernel
theorem dX0_firstRoomOf_15 : decode cX0_firstRoomOf 15 = .ok (.isub, 1) := by decide +kernel
theorem dX0_firstRoomOf_16 : decode cX0_firstRoomOf 16 = .ok (.imul, 1) := by decide +kernel
theorem dX0_firstRoomOf_17 : decode cX0_firstRoomOf 17 = .ok (.iadd, 1) := by decide +kernel
theorem dX0_firstRoomOf_18 : decode cX0_firstRoomOf 18 = .ok (.ireturn, 1) := by decide +kernel
theorem dX0_sizeOf_0 : decode cX0_sizeOf 0 = .ok (.iload_n 0, 1) := by decide +kernel
theorem dX0_sizeOf_1 : decode cX0_sizeOf 1 = .ok (.iconst 1, 1) := by decide +kernel
theorem dX0_sizeOf_2 : decode cX0_sizeOf 2 = .ok (.if_icmp .ge 7, 3) := by decide +kernel
theorem dX0_sizeOf_5 : decode cX0_sizeOf 5 = .ok (.iconst 1, 1) := by decide +kernel
theorem dX0_sizeOf_6 : decode cX0_sizeOf 6 = .ok (.goto 7, 3) := by decide +kernel
theorem dX0_sizeOf_9 : decode cX0_sizeOf 9 = .ok (.bipush 6, 2) := by decide +kernel
theorem dX0_sizeOf_11 : decode cX0_sizeOf 11 = .ok (.iload_n 0, 1) := by decide +kernel
theorem dX0_sizeOf_12 : decode cX0_sizeOf 12 = .ok (.imul, 1) := by decide +kernel
theorem dX0_sizeOf_13 : decode cX0_sizeOf 13 = .ok (.ireturn, 1) := by decide +kernel
theorem dX0_acrossOf_0 : decode cX0_acrossOf 0 = .ok (.aload_n 0, 1) := by decide +kernel
theorem dX0_acrossOf_1 : decode cX0_acrossOf 1 = .ok (.getfield 9, 3) := by decide +kernel
theorem dX0_acrossOf_4 : decode cX0_acrossOf 4 = .ok (.iload_n 1, 1) := by decide +kernel
theorem dX0_acrossOf_5 : decode cX0_acrossOf 5 = .ok (.iaload, 1) := by decide +kernel
theorem dX0_acrossOf_6 : decode cX0_acrossOf 6 = .ok (.ireturn, 1) := by decide +kernel
theorem dX0_downOf_0 : decode cX0_downOf 0 = .ok (.aload_n 0, 1) := by decide +kernel
theorem dX0_downOf_1 : decode cX0_downOf 1 = .ok (.getfield 15, 3) := by decide +kernel
theorem dX0_downOf_4 : decode cX0_downOf 4 = .ok (.iload_n 1, 1) := by decide +kernel
theorem dX0_downOf_5 : decode cX0_downOf 5 = .ok (.iaload, 1) := by decide +kernel
theorem dX0_downOf_6 : decode cX0_downOf 6 = .ok (.ireturn, 1) := by decide +kernel
theorem dX0_ringOf_0 : decode cX0_ringOf 0 = .ok (.aload_n 0, 1) := by decide +kernel
theorem dX0_ringOf_1 : decode cX0_ringOf 1 = .ok (.getfield 18, 3) := by decide +kernel
theorem dX0_ringOf_4 : decode cX0_ringOf 4 = .ok (.iload_n 1, 1) := by decide +kernel
theorem dX0_ringOf_5 : decode cX0_ringOf 5 = .ok (.iaload, 1) := by decide +kernel
theorem dX0_ringOf_6 : decode cX0_ringOf 6 = .ok (.ireturn, 1) := by decide +kernel
set_option maxRecDepth 20000 in
theorem ggX0_nextTo_X1_doorOf : GoodIn wsX0_nextTo wsX1_doorOf := goodIn_r _ [4] (by decide +kernel) (by decide +kernel)
set_option maxRecDepth 20000 in
theorem gX0_nextTo_X1_doorOf_n44 : GoodIn wsX0_nextTo (wsX1_doorOf) := ggX0_nextTo_X1_doorOf
theorem dX0_nextTo_0 : decode cX0_nextTo 0 = .ok (.aload_n 0, 1) := by decide +kernel
theorem dX0_nextTo_1 : decode cX0_nextTo 1 = .ok (.getfield 24, 3) := by decide +kernel
theorem dX0_nextTo_4 : decode cX0_nextTo 4 = .ok (.iload_n 1, 1) := by decide +kernel
theorem dX0_nextTo_5 : decode cX0_nextTo 5 = .ok (.iload_n 2, 1) := by decide +kernel
theorem dX0_nextTo_6 : decode cX0_nextTo 6 = .ok (.invokestatic 44, 3) := by decide +kernel
theorem dX0_nextTo_9 : decode cX0_nextTo 9 = .ok (.iaload, 1) := by decide +kernel
theorem dX0_nextTo_10 : decode cX0_nextTo 10 = .ok (.ireturn, 1) := by decide +kernel
set_option maxRecDepth 20000 in
theorem ggX0_roomAt_X0_isOnPlan : GoodIn wsX0_roomAt wsX0_isOnPlan := goodIn_r _ [5] (by decide +kernel) (by decide +kernel)
set_option maxRecDepth 20000 in
theorem gX0_roomAt_X0_isOnPlan : GoodIn wsX0_roomAt (va_wsS RX0 48 yX0_isOnPlan wsX0_isOnPlan) := goodIn_app (goodIn_of _ (by decide +kernel)) ggX0_roomAt_X0_isOnPlan
set_option maxRecDepth 20000 in
theorem ggX0_roomAt_X0_cellOf : GoodIn wsX0_roomAt wsX0_cellOf := goodIn_r _ [8] (by decide +kernel) (by decide +kernel)
set_option maxRecDepth 20000 in
theorem gX0_roomAt_X0_cellOf : GoodIn wsX0_roomAt (va_wsS RX0 52 yX0_cellOf wsX0_cellOf) := goodIn_app (goodIn_of _ (by decide +kernel)) ggX0_roomAt_X0_cellOf
theorem dX0_roomAt_0 : decode cX0_roomAt 0 = .ok (.iload_n 1, 1) := by decide +kernel
theorem dX0_roomAt_1 : decode cX0_roomAt 1 = .ok (.invokestatic 48, 3) := by decide +kernel
theorem dX0_roomAt_4 : decode cX0_roomAt 4 = .ok (.ifCond .eq 23, 3) := by decide +kernel
theorem dX0_roomAt_7 : decode cX0_roomAt 7 = .ok (.iload_n 2, 1) := by decide +kernel
theorem dX0_roomAt_8 : decode cX0_roomAt 8 = .ok (.invokestatic 48, 3) := by decide +kernel
theorem dX0_roomAt_11 : decode cX0_roomAt 11 = .ok (.ifCond .eq 16, 3) := by decide +kernel
theorem dX0_roomAt_14 : decode cX0_roomAt 14 = .ok (.aload_n 0, 1) := by decide +kernel
theorem dX0_roomAt_15 : decode cX0_roomAt 15 = .ok (.getfield 21, 3) := by decide +kernel
theorem dX0_roomAt_18 : decode cX0_roomAt 18 = .ok (.iload_n 1, 1) := by decide +kernel
theorem dX0_roomAt_19 : decode cX0_roomAt 19 = .ok (.iload_n 2, 1) := by decide +kernel
theorem dX0_roomAt_20 : decode cX0_roomAt 20 = .ok (.invokestatic 52, 3) := by decide +kernel
theorem dX0_roomAt_23 : decode cX0_roomAt 23 = .ok (.iaload, 1) := by decide +kernel
theorem dX0_roomAt_24 : decode cX0_roomAt 24 = .ok (.goto 4, 3) := by decide +kernel
theorem dX0_roomAt_27 : decode cX0_roomAt 27 = .ok (.iconst (-1), 1) := by decide +kernel
theorem dX0_roomAt_28 : decode cX0_roomAt 28 = .ok (.ireturn, 1) := by decide +kernel
theorem dX0_isOnPlan_0 : decode cX0_isOnPlan 0 = .ok (.iload_n 0, 1) := by decide +kernel
theorem dX0_isOnPlan_1 : decode cX0_isOnPlan 1 = .ok (.bipush (-5), 2) := by decide +kernel
theorem dX0_isOnPlan_3 : decode cX0_isOnPlan 3 = .ok (.if_icmp .lt 12, 3) := by decide +kernel
theorem dX0_isOnPlan_6 : decode cX0_isOnPlan 6 = .ok (.iload_n 0, 1) := by decide +kernel
theorem dX0_isOnPlan_7 : decode cX0_isOnPlan 7 = .ok (.iconst 5, 1) := by decide +kernel
theorem dX0_isOnPlan_8 : decode cX0_isOnPlan 8 = .ok (.if_icmp .gt 7, 3) := by decide +kernel
theorem dX0_isOnPlan_11 : decode cX0_isOnPlan 11 = .ok (.iconst 1, 1) := by decide +kernel
theorem dX0_isOnPlan_12 : decode cX0_isOnPlan 12 = .ok (.goto 4, 3) := by decide +kernel
theorem dX0_isOnPlan_15 : decode cX0_isOnPlan 15 = .ok (.iconst 0, 1) := by decide +kernel
theorem dX0_isOnPlan_16 : decode cX0_isOnPlan 16 = .ok (.ireturn, 1) := by decide +kernel
theorem dX0_cellOf_0 : decode cX0_cellOf 0 = .ok (.iload_n 1, 1) := by decide +kernel
theorem dX0_cellOf_1 : decode cX0_cellOf 1 = .ok (.iconst 5, 1) := by decide +kernel
theorem dX0_cellOf_2 : decode cX0_cellOf 2 = .ok (.iadd, 1) := by decide +kernel
theorem dX0_cellOf_3 : decode cX0_cellOf 3 = .ok (.bipush 11, 2) := by decide +kernel
theorem dX0_cellOf_5 : decode cX0_cellOf 5 = .ok (.imul, 1) := by decide +kernel
theorem dX0_cellOf_6 : decode cX0_cellOf 6 = .ok (.iload_n 0, 1) := by decide +kernel
theorem dX0_cellOf_7 : decode cX0_cellOf 7 = .ok (.iadd, 1) := by decide +kernel
theorem dX0_cellOf_8 : decode cX0_cellOf 8 = .ok (.iconst 5, 1) := by decide +kernel
theorem dX0_cellOf_9 : decode cX0_cellOf 9 = .ok (.iadd, 1) := by decide +kernel
theorem dX0_cellOf_10 : decode cX0_cellOf 10 = .ok (.ireturn, 1) := by decide +kernel
set_option maxRecDepth 20000 in
theorem ggX0_placeRing_X0_firstRoomOf : GoodIn wsX0_placeRing wsX0_firstRoomOf := goodIn_r _ [6] (by decide +kernel) (by decide +kernel)
set_option maxRecDepth 20000 in
theorem gX0_placeRing_X0_firstRoomOf : GoodIn wsX0_placeRing (va_wsS RX0 55 yX0_firstRoomOf wsX0_firstRoomOf) := goodIn_app (goodIn_of _ (by decide +kernel)) ggX0_placeRing_X0_firstRoomOf
set_option maxRecDepth 20000 in
theorem ggX0_placeRing_X0_placeRoom : GoodIn wsX0_placeRing wsX0_placeRoom := goodIn_r _ [10, 11, 12, 13, 14, 15, 16, 5, 17, 18, 19, 20, 21, 22] (by decide +kernel) (by decide +kernel)
set_option maxRecDepth 20000 in
theorem gX0_placeRing_X0_placeRoom : GoodIn wsX0_placeRing (wsV RX0 33 RX0 yX0_placeRoom wsX0_placeRoom) := goodIn_app (goodIn_of _ (by decide +kernel)) ggX0_placeRing_X0_placeRoom
theorem dX0_placeRing_0 : decode cX0_placeRing 0 = .ok (.iload_n 1, 1) := by decide +kernel
theorem dX0_placeRing_1 : decode cX0_placeRing 1 = .ok (.invokestatic 55, 3) := by decide +kernel
theorem dX0_placeRing_4 : decode cX0_placeRing 4 = .ok (.istore_n 2, 1) := by decide +kernel
theorem dX0_placeRing_5 : decode cX0_placeRing 5 = .ok (.iload_n 1, 1) := by decide +kernel
theorem dX0_placeRing_6 : decode cX0_placeRing 6 = .ok (.istore_n 3, 1) := by decide +kernel
theorem dX0_placeRing_7 : decode cX0_placeRing 7 = .ok (.iconst 0, 1) := by decide +kernel
theorem dX0_placeRing_8 : decode cX0_placeRing 8 = .ok (.istore 4, 2) := by decide +kernel
theorem dX0_placeRing_10 : decode cX0_placeRing 10 = .ok (.iconst 0, 1) := by decide +kernel
theorem dX0_placeRing_11 : decode cX0_placeRing 11 = .ok (.istore 5, 2) := by decide +kernel
theorem dX0_placeRing_13 : decode cX0_placeRing 13 = .ok (.iload 5, 2) := by decide +kernel
theorem dX0_placeRing_15 : decode cX0_placeRing 15 = .ok (.bipush 6, 2) := by decide +kernel
theorem dX0_placeRing_17 : decode cX0_placeRing 17 = .ok (.if_icmp .ge 65, 3) := by decide +kernel
theorem dX0_placeRing_20 : decode cX0_placeRing 20 = .ok (.iload 5, 2) := by decide +kernel
theorem dX0_placeRing_22 : decode cX0_placeRing 22 = .ok (.iconst 2, 1) := by decide +kernel
theorem dX0_placeRing_23 : decode cX0_placeRing 23 = .ok (.iadd, 1) := by decide +kernel
theorem dX0_placeRing_24 : decode cX0_placeRing 24 = .ok (.bipush 6, 2) := by decide +kernel
theorem dX0_placeRing_26 : decode cX0_placeRing 26 = .ok (.irem, 1) := by decide +kernel
theorem dX0_placeRing_27 : decode cX0_placeRing 27 = .ok (.istore 6, 2) := by decide +kernel
theorem dX0_placeRing_29 : decode cX0_placeRing 29 = .ok (.iconst 0, 1) := by decide +kernel
theorem dX0_placeRing_30 : decode cX0_placeRing 30 = .ok (.istore 7, 2) := by decide +kernel
theorem dX0_placeRing_32 : decode cX0_placeRing 32 = .ok (.iload 7, 2) := by decide +kernel
theorem dX0_placeRing_34 : decode cX0_placeRing 34 = .ok (.iload_n 1, 1) := by decide +kernel
theorem dX0_placeRing_35 : decode cX0_placeRing 35 = .ok (.if_icmp .ge 41, 3) := by decide +kernel
theorem dX0_placeRing_38 : decode cX0_placeRing 38 = .ok (.aload_n 0, 1) := by decide +kernel
theorem dX0_placeRing_39 : decode cX0_placeRing 39 = .ok (.iload_n 2, 1) := by decide +kernel
theorem dX0_placeRing_40 : decode cX0_placeRing 40 = .ok (.iload_n 3, 1) := by decide +kernel
theorem dX0_placeRing_41 : decode cX0_placeRing 41 = .ok (.iload 4, 2) := by decide +kernel
theorem dX0_placeRing_43 : decode cX0_placeRing 43 = .ok (.iload_n 1, 1) := by decide +kernel
theorem dX0_placeRing_44 : decode cX0_placeRing 44 = .ok (.invokevirtual 33, 3) := by decide +kernel
theorem dX0_placeRing_47 : decode cX0_placeRing 47 = .ok (.iinc 2 1, 3) := by decide +kernel
theorem dX0_placeRing_50 : decode cX0_placeRing 50 = .ok (.iload_n 3, 1) := by decide +kernel
theorem dX0_placeRing_51 : decode cX0_placeRing 51 = .ok (.getstatic 59, 3) := by decide +kernel
theorem dX0_placeRing_54 : decode cX0_placeRing 54 = .ok (.iload 6, 2) := by decide +kernel
theorem dX0_placeRing_56 : decode cX0_placeRing 56 = .ok (.iaload, 1) := by decide +kernel
theorem dX0_placeRing_57 : decode cX0_placeRing 57 = .ok (.iadd, 1) := by decide +kernel
theorem dX0_placeRing_58 : decode cX0_placeRing 58 = .ok (.istore_n 3, 1) := by decide +kernel
theorem dX0_placeRing_59 : decode cX0_placeRing 59 = .ok (.iload 4, 2) := by decide +kernel
theorem dX0_placeRing_61 : decode cX0_placeRing 61 = .ok (.getstatic 62, 3) := by decide +kernel
theorem dX0_placeRing_64 : decode cX0_placeRing 64 = .ok (.iload 6, 2) := by decide +kernel
theorem dX0_placeRing_66 : decode cX0_placeRing 66 = .ok (.iaload, 1) := by decide +kernel
theorem dX0_placeRing_67 : decode cX0_placeRing 67 = .ok (.iadd, 1) := by decide +kernel
theorem dX0_placeRing_68 : decode cX0_placeRing 68 = .ok (.istore 4, 2) := by decide +kernel
theorem dX0_placeRing_70 : decode cX0_placeRing 70 = .ok (.iinc 7 1, 3) := by decide +kernel
theorem dX0_placeRing_73 : decode cX0_placeRing 73 = .ok (.goto (-41), 3) := by decide +kernel
theorem dX0_placeRing_76 : decode cX0_placeRing 76 = .ok (.iinc 5 1, 3) := by decide +kernel
theorem dX0_placeRing_79 : decode cX0_placeRing 79 = .ok (.goto (-66), 3) := by decide +kernel
theorem dX0_placeRing_82 : decode cX0_placeRing 82 = .ok (.return_, 1) := by decide +kernel
set_option maxRecDepth 20000 in
theorem ggX0_placeRoom_X0_cellOf : GoodIn wsX0_placeRoom wsX0_cellOf := goodIn_r _ [8] (by decide +kernel) (by decide +kernel)
set_option maxRecDepth 20000 in
theorem gX0_placeRoom_X0_cellOf : GoodIn wsX0_placeRoom (va_wsS RX0 52 yX0_cellOf wsX0_cellOf) := goodIn_app (goodIn_of _ (by decide +kernel)) ggX0_placeRoom_X0_cellOf
theorem dX0_placeRoom_0 : decode cX0_placeRoom 0 = .ok (.aload_n 0, 1) := by decide +kernel
theorem dX0_placeRoom_1 : decode cX0_placeRoom 1 = .ok (.getfield 9, 3) := by decide +kernel
theorem dX0_placeRoom_4 : decode cX0_placeRoom 4 = .ok (.iload_n 1, 1) := by decide +kernel
theorem dX0_placeRoom_5 : decode cX0_placeRoom 5 = .ok (.iload_n 2, 1) := by decide +kernel
theorem dX0_placeRoom_6 : decode cX0_placeRoom 6 = .ok (.iastore, 1) := by decide +kernel
theorem dX0_placeRoom_7 : decode cX0_placeRoom 7 = .ok (.aload_n 0, 1) := by decide +kernel
theorem dX0_placeRoom_8 : decode cX0_placeRoom 8 = .ok (.getfield 15, 3) := by decide +kernel
theorem dX0_placeRoom_11 : decode cX0_placeRoom 11 = .ok (.iload_n 1, 1) := by decide +kernel
theorem dX0_placeRoom_12 : decode cX0_placeRoom 12 = .ok (.iload_n 3, 1) := by decide +kernel
theorem dX0_placeRoom_13 : decode cX0_placeRoom 13 = .ok (.iastore, 1) := by decide +kernel
theorem dX0_placeRoom_14 : decode cX0_placeRoom 14 = .ok (.aload_n 0, 1) := by decide +kernel
theorem dX0_placeRoom_15 : decode cX0_placeRoom 15 = .ok (.getfield 18, 3) := by decide +kernel
theorem dX0_placeRoom_18 : decode cX0_placeRoom 18 = .ok (.iload_n 1, 1) := by decide +kernel
theorem dX0_placeRoom_19 : decode cX0_placeRoom 19 = .ok (.iload 4, 2) := by decide +kernel
theorem dX0_placeRoom_21 : decode cX0_placeRoom 21 = .ok (.iastore, 1) := by decide +kernel
theorem dX0_placeRoom_22 : decode cX0_placeRoom 22 = .ok (.aload_n 0, 1) := by decide +kernel
theorem dX0_placeRoom_23 : decode cX0_placeRoom 23 = .ok (.getfield 21, 3) := by decide +kernel
theorem dX0_placeRoom_26 : decode cX0_placeRoom 26 = .ok (.iload_n 2, 1) := by decide +kernel
theorem dX0_placeRoom_27 : decode cX0_placeRoom 27 = .ok (.iload_n 3, 1) := by decide +kernel
theorem dX0_placeRoom_28 : decode cX0_placeRoom 28 = .ok (.invokestatic 52, 3) := by decide +kernel
theorem dX0_placeRoom_31 : decode cX0_placeRoom 31 = .ok (.iload_n 1, 1) := by decide +kernel
theorem dX0_placeRoom_32 : decode cX0_placeRoom 32 = .ok (.iastore, 1) := by decide +kernel
theorem dX0_placeRoom_33 : decode cX0_placeRoom 33 = .ok (.return_, 1) := by decide +kernel
set_option maxRecDepth 20000 in
theorem ggX0_joinRooms_X1_doorOf : GoodIn wsX0_joinRooms wsX1_doorOf := goodIn_r _ [8] (by decide +kernel) (by decide +kernel)
set_option maxRecDepth 20000 in
theorem gX0_joinRooms_X1_doorOf_n44 : GoodIn wsX0_joinRooms (wsX1_doorOf) := ggX0_joinRooms_X1_doorOf
set_option maxRecDepth 20000 in
theorem ggX0_joinRooms_X0_roomAt : GoodIn wsX0_joinRooms wsX0_roomAt := goodIn_r _ [13, 14, 15, 16, 12, 17, 18, 19, 20, 21, 22, 23, 24, 25] (by decide +kernel) (by decide +kernel)
set_option maxRecDepth 20000 in
theorem gX0_joinRooms_X0_roomAt : GoodIn wsX0_joinRooms (wsV RX0 65 RX0 yX0_roomAt wsX0_roomAt) := goodIn_app (goodIn_of _ (by decide +kernel)) ggX0_joinRooms_X0_roomAt
theorem dX0_joinRooms_0 : decode cX0_joinRooms 0 = .ok (.iconst 0, 1) := by decide +kernel
theorem dX0_joinRooms_1 : decode cX0_joinRooms 1 = .ok (.istore_n 1, 1) := by decide +kernel
theorem dX0_joinRooms_2 : decode cX0_joinRooms 2 = .ok (.iload_n 1, 1) := by decide +kernel
theorem dX0_joinRooms_3 : decode cX0_joinRooms 3 = .ok (.bipush 91, 2) := by decide +kernel
theorem dX0_joinRooms_5 : decode cX0_joinRooms 5 = .ok (.if_icmp .ge 67, 3) := by decide +kernel
theorem dX0_joinRooms_8 : decode cX0_joinRooms 8 = .ok (.iconst 0, 1) := by decide +kernel
theorem dX0_joinRooms_9 : decode cX0_joinRooms 9 = .ok (.istore_n 2, 1) := by decide +kernel
theorem dX0_joinRooms_10 : decode cX0_joinRooms 10 = .ok (.iload_n 2, 1) := by decide +kernel
theorem dX0_joinRooms_11 : decode cX0_joinRooms 11 = .ok (.bipush 6, 2) := by decide +kernel
theorem dX0_joinRooms_13 : decode cX0_joinRooms 13 = .ok (.if_icmp .ge 53, 3) := by decide +kernel
theorem dX0_joinRooms_16 : decode cX0_joinRooms 16 = .ok (.aload_n 0, 1) := by decide +kernel
theorem dX0_joinRooms_17 : decode cX0_joinRooms 17 = .ok (.getfield 9, 3) := by decide +kernel
theorem dX0_joinRooms_20 : decode cX0_joinRooms 20 = .ok (.iload_n 1, 1) := by decide +kernel
theorem dX0_joinRooms_21 : decode cX0_joinRooms 21 = .ok (.iaload, 1) := by decide +kernel
theorem dX0_joinRooms_22 : decode cX0_joinRooms 22 = .ok (.getstatic 59, 3) := by decide +kernel
theorem dX0_joinRooms_25 : decode cX0_joinRooms 25 = .ok (.iload_n 2, 1) := by decide +kernel
theorem dX0_joinRooms_26 : decode cX0_joinRooms 26 = .ok (.iaload, 1) := by decide +kernel
theorem dX0_joinRooms_27 : decode cX0_joinRooms 27 = .ok (.iadd, 1) := by decide +kernel
theorem dX0_joinRooms_28 : decode cX0_joinRooms 28 = .ok (.istore_n 3, 1) := by decide +kernel
theorem dX0_joinRooms_29 : decode cX0_joinRooms 29 = .ok (.aload_n 0, 1) := by decide +kernel
theorem dX0_joinRooms_30 : decode cX0_joinRooms 30 = .ok (.getfield 15, 3) := by decide +kernel
theorem dX0_joinRooms_33 : decode cX0_joinRooms 33 = .ok (.iload_n 1, 1) := by decide +kernel
theorem dX0_joinRooms_34 : decode cX0_joinRooms 34 = .ok (.iaload, 1) := by decide +kernel
theorem dX0_joinRooms_35 : decode cX0_joinRooms 35 = .ok (.getstatic 62, 3) := by decide +kernel
theorem dX0_joinRooms_38 : decode cX0_joinRooms 38 = .ok (.iload_n 2, 1) := by decide +kernel
theorem dX0_joinRooms_39 : decode cX0_joinRooms 39 = .ok (.iaload, 1) := by decide +kernel
theorem dX0_joinRooms_40 : decode cX0_joinRooms 40 = .ok (.iadd, 1) := by decide +kernel
theorem dX0_joinRooms_41 : decode cX0_joinRooms 41 = .ok (.istore 4, 2) := by decide +kernel
theorem dX0_joinRooms_43 : decode cX0_joinRooms 43 = .ok (.aload_n 0, 1) := by decide +kernel
theorem dX0_joinRooms_44 : decode cX0_joinRooms 44 = .ok (.getfield 24, 3) := by decide +kernel
theorem dX0_joinRooms_47 : decode cX0_joinRooms 47 = .ok (.iload_n 1, 1) := by decide +kernel
theorem dX0_joinRooms_48 : decode cX0_joinRooms 48 = .ok (.iload_n 2, 1) := by decide +kernel
theorem dX0_joinRooms_49 : decode cX0_joinRooms 49 = .ok (.invokestatic 44, 3) := by decide +kernel
theorem dX0_joinRooms_52 : decode cX0_joinRooms 52 = .ok (.aload_n 0, 1) := by decide +kernel
theorem dX0_joinRooms_53 : decode cX0_joinRooms 53 = .ok (.iload_n 3, 1) := by decide +kernel
theorem dX0_joinRooms_54 : decode cX0_joinRooms 54 = .ok (.iload 4, 2) := by decide +kernel
theorem dX0_joinRooms_56 : decode cX0_joinRooms 56 = .ok (.invokevirtual 65, 3) := by decide +kernel
theorem dX0_joinRooms_59 : decode cX0_joinRooms 59 = .ok (.iastore, 1) := by decide +kernel
theorem dX0_joinRooms_60 : decode cX0_joinRooms 60 = .ok (.iinc 2 1, 3) := by decide +kernel
theorem dX0_joinRooms_63 : decode cX0_joinRooms 63 = .ok (.goto (-53), 3) := by decide +kernel
theorem dX0_joinRooms_66 : decode cX0_joinRooms 66 = .ok (.iinc 1 1, 3) := by decide +kernel
theorem dX0_joinRooms_69 : decode cX0_joinRooms 69 = .ok (.goto (-67), 3) := by decide +kernel
theorem dX0_joinRooms_72 : decode cX0_joinRooms 72 = .ok (.return_, 1) := by decide +kernel
set_option maxRecDepth 20000 in
theorem ggX1_init_X0_init : GoodIn wsX1_init wsX0_init := goodIn_r _ [20, 21, 2, 3, 8, 22, 23, 24, 25, 26, 27, 28, 29, 30, 31, 32, 33, 6, 34, 35, 36, 37, 38, 39, 40, 41, 42, 43, 44, 45, 46, 47, 48, 49, 50, 51, 52, 53, 54, 55, 56, 57, 58, 59, 60, 69, 70, 71, 72, 73] (by decide +kernel) (by decide +kernel)
set_option maxRecDepth 20000 in
theorem gX1_init_X0_init : GoodIn wsX1_init (wsX0_init) := ggX1_init_X0_init
set_option maxRecDepth 20000 in
theorem ggX1_init_X1_build : GoodIn wsX1_init wsX1_build := goodIn_r _ [64, 65, 66, 9, 11, 12, 67, 45, 6, 46, 68, 28, 29, 30, 74, 75, 76, 77, 78, 79, 80, 81, 82, 83, 84] (by decide +kernel) (by decide +kernel)
set_option maxRecDepth 20000 in
theorem gX1_init_X1_build : GoodIn wsX1_init (wsV RX1 42 RX1 yX1_build wsX1_build) := goodIn_app (goodIn_of _ (by decide +kernel)) ggX1_init_X1_build
theorem dX1_init_0 : decode cX1_init 0 = .ok (.aload_n 0, 1) := by decide +kernel
theorem dX1_init_1 : decode cX1_init 1 = .ok (.invokespecial 3, 3) := by decide +kernel
theorem dX1_init_4 : decode cX1_init 4 = .ok (.aload_n 0, 1) := by decide +kernel
theorem dX1_init_5 : decode cX1_init 5 = .ok (.new 9, 3) := by decide +kernel
theorem dX1_init_8 : decode cX1_init 8 = .ok (.dup, 1) := by decide +kernel
theorem dX1_init_9 : decode cX1_init 9 = .ok (.invokespecial 11, 3) := by decide +kernel
theorem dX1_init_12 : decode cX1_init 12 = .ok (.putfield 12, 3) := by decide +kernel
theorem dX1_init_15 : decode cX1_init 15 = .ok (.aload_n 0, 1) := by decide +kernel
theorem dX1_init_16 : decode cX1_init 16 = .ok (.bipush 91, 2) := by decide +kernel
theorem dX1_init_18 : decode cX1_init 18 = .ok (.newarray .int, 2) := by decide +kernel
theorem dX1_init_20 : decode cX1_init 20 = .ok (.putfield 16, 3) := by decide +kernel
theorem dX1_init_23 : decode cX1_init 23 = .ok (.aload_n 0, 1) := by decide +kernel
theorem dX1_init_24 : decode cX1_init 24 = .ok (.sipush 546, 3) := by decide +kernel
theorem dX1_init_27 : decode cX1_init 27 = .ok (.newarray .boolean, 2) := by decide +kernel
theorem dX1_init_29 : decode cX1_init 29 = .ok (.putfield 20, 3) := by decide +kernel
theorem dX1_init_32 : decode cX1_init 32 = .ok (.aload_n 0, 1) := by decide +kernel
theorem dX1_init_33 : decode cX1_init 33 = .ok (.bipush 91, 2) := by decide +kernel
theorem dX1_init_35 : decode cX1_init 35 = .ok (.newarray .int, 2) := by decide +kernel
theorem dX1_init_37 : decode cX1_init 37 = .ok (.putfield 24, 3) := by decide +kernel
theorem dX1_init_40 : decode cX1_init 40 = .ok (.aload_n 0, 1) := by decide +kernel
theorem dX1_init_41 : decode cX1_init 41 = .ok (.bipush 91, 2) := by decide +kernel
theorem dX1_init_43 : decode cX1_init 43 = .ok (.newarray .int, 2) := by decide +kernel
theorem dX1_init_45 : decode cX1_init 45 = .ok (.putfield 27, 3) := by decide +kernel
theorem dX1_init_48 : decode cX1_init 48 = .ok (.aload_n 0, 1) := by decide +kernel
theorem dX1_init_49 : decode cX1_init 49 = .ok (.bipush 91, 2) := by decide +kernel
theorem dX1_init_51 : decode cX1_init 51 = .ok (.newarray .int, 2) := by decide +kernel
theorem dX1_init_53 : decode cX1_init 53 = .ok (.putfield 30, 3) := by decide +kernel
theorem dX1_init_56 : decode cX1_init 56 = .ok (.aload_n 0, 1) := by decide +kernel
theorem dX1_init_57 : decode cX1_init 57 = .ok (.bipush 91, 2) := by decide +kernel
theorem dX1_init_59 : decode cX1_init 59 = .ok (.newarray .int, 2) := by decide +kernel
theorem dX1_init_61 : decode cX1_init 61 = .ok (.putfield 33, 3) := by decide +kernel
theorem dX1_init_64 : decode cX1_init 64 = .ok (.aload_n 0, 1) := by decide +kernel
theorem dX1_init_65 : decode cX1_init 65 = .ok (.bipush 91, 2) := by decide +kernel
theorem dX1_init_67 : decode cX1_init 67 = .ok (.newarray .int, 2) := by decide +kernel
theorem dX1_init_69 : decode cX1_init 69 = .ok (.putfield 36, 3) := by decide +kernel
theorem dX1_init_72 : decode cX1_init 72 = .ok (.aload_n 0, 1) := by decide +kernel
theorem dX1_init_73 : decode cX1_init 73 = .ok (.bipush 91, 2) := by decide +kernel
theorem dX1_init_75 : decode cX1_init 75 = .ok (.newarray .int, 2) := by decide +kernel
theorem dX1_init_77 : decode cX1_init 77 = .ok (.putfield 39, 3) := by decide +kernel
theorem dX1_init_80 : decode cX1_init 80 = .ok (.aload_n 0, 1) := by decide +kernel
theorem dX1_init_81 : decode cX1_init 81 = .ok (.iconst 2, 1) := by decide +kernel
theorem dX1_init_82 : decode cX1_init 82 = .ok (.invokevirtual 42, 3) := by decide +kernel
theorem dX1_init_85 : decode cX1_init 85 = .ok (.return_, 1) := by decide +kernel
set_option maxRecDepth 20000 in
theorem ggX1_setRings_X1_needNumber : GoodIn wsX1_setRings wsX1_needNumber := goodIn_ca (goodIn_r _ [5, 6, 7] (by decide +kernel) (by decide +kernel)) (goodIn_sub (fun _ h => List.mem_cons_of_mem _ (List.mem_append_right _ h)) (by decide +kernel))
set_option maxRecDepth 20000 in
theorem gX1_setRings_X1_needNumber : GoodIn wsX1_setRings (va_wsS RX1 46 yX1_needNumber wsX1_needNumber) := goodIn_app (goodIn_of _ (by decide +kernel)) ggX1_setRings_X1_needNumber
set_option maxRecDepth 20000 in
theorem ggX1_setRings_X1_build : GoodIn wsX1_setRings wsX1_build := goodIn_r _ [11, 12, 1, 13, 14, 15, 16, 17, 18, 19, 20, 21, 22, 23, 24, 25, 26, 27, 28, 29, 30, 31, 32, 33, 34] (by decide +kernel) (by decide +kernel)
set_option maxRecDepth 20000 in
theorem gX1_setRings_X1_build : GoodIn wsX1_setRings (wsV RX1 42 RX1 yX1_build wsX1_build) := goodIn_app (goodIn_of _ (by decide +kernel)) ggX1_setRings_X1_build
theorem dX1_setRings_0 : decode cX1_setRings 0 = .ok (.iload_n 1, 1) := by decide +kernel
theorem dX1_setRings_1 : decode cX1_setRings 1 = .ok (.iconst 1, 1) := by decide +kernel
theorem dX1_setRings_2 : decode cX1_setRings 2 = .ok (.iconst 5, 1) := by decide +kernel
theorem dX1_setRings_3 : decode cX1_setRings 3 = .ok (.invokestatic 46, 3) := by decide +kernel
theorem dX1_setRings_6 : decode cX1_setRings 6 = .ok (.aload_n 0, 1) := by decide +kernel
theorem dX1_setRings_7 : decode cX1_setRings 7 = .ok (.iload_n 1, 1) := by decide +kernel
theorem dX1_setRings_8 : decode cX1_setRings 8 = .ok (.invokevirtual 42, 3) := by decide +kernel
theorem dX1_setRings_11 : decode cX1_setRings 11 = .ok (.aload_n 0, 1) := by decide +kernel
theorem dX1_setRings_12 : decode cX1_setRings 12 = .ok (.getfield 50, 3) := by decide +kernel
theorem dX1_setRings_15 : decode cX1_setRings 15 = .ok (.ireturn, 1) := by decide +kernel
set_option maxRecDepth 20000 in
theorem ggX1_put_X1_needRoom : GoodIn wsX1_put wsX1_needRoom := goodIn_ca (goodIn_r _ [6, 7, 8, 9, 5, 10, 11, 12, 57, 58, 59, 60, 61, 62, 63, 64, 65, 66, 67] (by decide +kernel) (by decide +kernel)) (goodIn_sub (fun _ h => List.mem_cons_of_mem _ (List.mem_append_right _ h)) (by decide +kernel))
set_option maxRecDepth 20000 in
theorem gX1_put_X1_needRoom : GoodIn wsX1_put (wsV RX1 54 RX1 yX1_needRoom wsX1_needRoom) := goodIn_app (goodIn_of _ (by decide +kernel)) ggX1_put_X1_needRoom
set_option maxRecDepth 20000 in
theorem ggX1_put_X1_needIndex : GoodIn wsX1_put wsX1_needIndex := goodIn_ca (goodIn_r _ [10, 11, 12] (by decide +kernel) (by decide +kernel)) (goodIn_sub (fun _ h => List.mem_cons_of_mem _ (List.mem_append_right _ h)) (by decide +kernel))
set_option maxRecDepth 20000 in
theorem gX1_put_X1_needIndex : GoodIn wsX1_put (va_wsS RX1 57 yX1_needIndex wsX1_needIndex) := goodIn_app (goodIn_of _ (by decide +kernel)) ggX1_put_X1_needIndex
set_option maxRecDepth 20000 in
theorem ggX1_put_X1_relight : GoodIn wsX1_put wsX1_relight := goodIn_r _ [16, 1, 17, 18, 19, 20, 5, 21, 7, 22, 23, 24, 25, 26, 27, 28, 29, 30, 31, 32, 33, 34, 35, 36, 37, 38, 39, 40, 41, 42, 43, 44, 45, 46, 47, 48, 49, 50, 51, 52, 53, 54, 55, 56, 57, 58, 59, 60, 61, 62, 63, 64, 65, 66, 67, 68, 69, 70, 71, 72] (by decide +kernel) (by decide +kernel)
set_option maxRecDepth 20000 in
theorem gX1_put_X1_relight : GoodIn wsX1_put (wsV RX1 61 RX1 yX1_relight wsX1_relight) := goodIn_app (goodIn_of _ (by decide +kernel)) ggX1_put_X1_relight
theorem dX1_put_0 : decode cX1_put 0 = .ok (.aload_n 0, 1) := by decide +kernel
theorem dX1_put_1 : decode cX1_put 1 = .ok (.iload_n 1, 1) := by decide +kernel
theorem dX1_put_2 : decode cX1_put 2 = .ok (.invokevirtual 54, 3) := by decide +kernel
theorem dX1_put_5 : decode cX1_put 5 = .ok (.iload_n 2, 1) := by decide +kernel
theorem dX1_put_6 : decode cX1_put 6 = .ok (.iconst 3, 1) := by decide +kernel
theorem dX1_put_7 : decode cX1_put 7 = .ok (.invokestatic 57, 3) := by decide +kernel
theorem dX1_put_10 : decode cX1_put 10 = .ok (.aload_n 0, 1) := by decide +kernel
theorem dX1_put_11 : decode cX1_put 11 = .ok (.getfield 16, 3) := by decide +kernel
theorem dX1_put_14 : decode cX1_put 14 = .ok (.iload_n 1, 1) := by decide +kernel
theorem dX1_put_15 : decode cX1_put 15 = .ok (.iaload, 1) := by decide +kernel
theorem dX1_put_16 : decode cX1_put 16 = .ok (.istore_n 3, 1) := by decide +kernel
theorem dX1_put_17 : decode cX1_put 17 = .ok (.aload_n 0, 1) := by decide +kernel
theorem dX1_put_18 : decode cX1_put 18 = .ok (.getfield 16, 3) := by decide +kernel
theorem dX1_put_21 : decode cX1_put 21 = .ok (.iload_n 1, 1) := by decide +kernel
theorem dX1_put_22 : decode cX1_put 22 = .ok (.iload_n 2, 1) := by decide +kernel
theorem dX1_put_23 : decode cX1_put 23 = .ok (.iastore, 1) := by decide +kernel
theorem dX1_put_24 : decode cX1_put 24 = .ok (.aload_n 0, 1) := by decide +kernel
theorem dX1_put_25 : decode cX1_put 25 = .ok (.invokevirtual 61, 3) := by decide +kernel
theorem dX1_put_28 : decode cX1_put 28 = .ok (.pop, 1) := by decide +kernel
theorem dX1_put_29 : decode cX1_put 29 = .ok (.iload_n 3, 1) := by decide +kernel
theorem dX1_put_30 : decode cX1_put 30 = .ok (.ireturn, 1) := by decide +kernel
set_option maxRecDepth 20000 in
theorem ggX1_shut_X1_needDoor : GoodIn wsX1_shut wsX1_needDoor := goodIn_ca (goodIn_ca (goodIn_r _ [6, 7, 8, 9, 10, 11, 5, 12, 13, 14, 15, 16, 17, 18, 19, 20, 21, 22, 23, 24, 25, 26, 27, 28, 29, 30, 31, 32, 33, 34, 35, 66, 67, 68, 69, 70, 71, 72, 73, 74, 75, 76, 77, 78, 79, 80, 81] (by decide +kernel) (by decide +kernel)) (goodIn_sub (fun _ h => List.mem_cons_of_mem _ (List.mem_append_left _ (List.mem_append_right _ h))) (by decide +kernel))) (goodIn_sub (fun _ h => List.mem_cons_of_mem _ (List.mem_append_right _ h)) (by decide +kernel))
set_option maxRecDepth 20000 in
theorem gX1_shut_X1_needDoor : GoodIn wsX1_shut (wsV RX1 65 RX1 yX1_needDoor wsX1_needDoor) := goodIn_app (goodIn_of _ (by decide +kernel)) ggX1_shut_X1_needDoor
set_option maxRecDepth 20000 in
theorem ggX1_shut_X1_doorOf : GoodIn wsX1_shut wsX1_doorOf := goodIn_r _ [31] (by decide +kernel) (by decide +kernel)
set_option maxRecDepth 20000 in
theorem gX1_shut_X1_doorOf : GoodIn wsX1_shut (va_wsS RX1 69 yX1_doorOf wsX1_doorOf) := goodIn_app (goodIn_of _ (by decide +kernel)) ggX1_shut_X1_doorOf
set_option maxRecDepth 20000 in
theorem ggX1_shut_X1_opposite : GoodIn wsX1_shut wsX1_opposite := goodIn_r _ [39] (by decide +kernel) (by decide +kernel)
set_option maxRecDepth 20000 in
theorem gX1_shut_X1_opposite : GoodIn wsX1_shut (va_wsS RX1 72 yX1_opposite wsX1_opposite) := goodIn_app (goodIn_of _ (by decide +kernel)) ggX1_shut_X1_opposite
set_option maxRecDepth 20000 in
theorem ggX1_shut_X1_relight : GoodIn wsX1_shut wsX1_relight := goodIn_r _ [43, 44, 45, 46, 47, 48, 5, 49, 13, 50, 51, 52, 53, 54, 55, 56, 57, 58, 59, 60, 61, 62, 1, 19, 20, 21, 22, 23, 24, 25, 26, 27, 28, 29, 30, 31, 32, 33, 34, 35, 36, 63, 64, 65, 66, 67, 68, 69, 70, 71, 72, 73, 74, 75, 76, 77, 78, 79, 80, 81] (by decide +kernel) (by decide +kernel)
set_option maxRecDepth 20000 in
theorem gX1_shut_X1_relight : GoodIn wsX1_shut (wsV RX1 61 RX1 yX1_relight wsX1_relight) := goodIn_app (goodIn_of _ (by decide +kernel)) ggX1_shut_X1_relight
theorem dX1_shut_0 : decode cX1_shut 0 = .ok (.aload_n 0, 1) := by decide +kernel
theorem dX1_shut_1 : decode cX1_shut 1 = .ok (.iload_n 1, 1) := by decide +kernel
theorem dX1_shut_2 : decode cX1_shut 2 = .ok (.iload_n 2, 1) := by decide +kernel
theorem dX1_shut_3 : decode cX1_shut 3 = .ok (.invokevirtual 65, 3) := by decide +kernel
theorem dX1_shut_6 : decode cX1_shut 6 = .ok (.istore 4, 2) := by decide +kernel
theorem dX1_shut_8 : decode cX1_shut 8 = .ok (.aload_n 0, 1) := by decide +kernel
theorem dX1_shut_9 : decode cX1_shut 9 = .ok (.getfield 20, 3) := by decide +kernel
theorem dX1_shut_12 : decode cX1_shut 12 = .ok (.iload_n 1, 1) := by decide +kernel
theorem dX1_shut_13 : decode cX1_shut 13 = .ok (.iload_n 2, 1) := by decide +kernel
theorem dX1_shut_14 : decode cX1_shut 14 = .ok (.invokestatic 69, 3) := by decide +kernel
theorem dX1_shut_17 : decode cX1_shut 17 = .ok (.baload, 1) := by decide +kernel
theorem dX1_shut_18 : decode cX1_shut 18 = .ok (.istore 5, 2) := by decide +kernel
theorem dX1_shut_20 : decode cX1_shut 20 = .ok (.aload_n 0, 1) := by decide +kernel
theorem dX1_shut_21 : decode cX1_shut 21 = .ok (.getfield 20, 3) := by decide +kernel
theorem dX1_shut_24 : decode cX1_shut 24 = .ok (.iload_n 1, 1) := by decide +kernel
theorem dX1_shut_25 : decode cX1_shut 25 = .ok (.iload_n 2, 1) := by decide +kernel
theorem dX1_shut_26 : decode cX1_shut 26 = .ok (.invokestatic 69, 3) := by decide +kernel
theorem dX1_shut_29 : decode cX1_shut 29 = .ok (.iload_n 3, 1) := by decide +kernel
theorem dX1_shut_30 : decode cX1_shut 30 = .ok (.bastore, 1) := by decide +kernel
theorem dX1_shut_31 : decode cX1_shut 31 = .ok (.aload_n 0, 1) := by decide +kernel
theorem dX1_shut_32 : decode cX1_shut 32 = .ok (.getfield 20, 3) := by decide +kernel
theorem dX1_shut_35 : decode cX1_shut 35 = .ok (.iload 4, 2) := by decide +kernel
theorem dX1_shut_37 : decode cX1_shut 37 = .ok (.iload_n 2, 1) := by decide +kernel
theorem dX1_shut_38 : decode cX1_shut 38 = .ok (.invokestatic 72, 3) := by decide +kernel
theorem dX1_shut_41 : decode cX1_shut 41 = .ok (.invokestatic 69, 3) := by decide +kernel
theorem dX1_shut_44 : decode cX1_shut 44 = .ok (.iload_n 3, 1) := by decide +kernel
theorem dX1_shut_45 : decode cX1_shut 45 = .ok (.bastore, 1) := by decide +kernel
theorem dX1_shut_46 : decode cX1_shut 46 = .ok (.aload_n 0, 1) := by decide +kernel
theorem dX1_shut_47 : decode cX1_shut 47 = .ok (.invokevirtual 61, 3) := by decide +kernel
theorem dX1_shut_50 : decode cX1_shut 50 = .ok (.pop, 1) := by decide +kernel
theorem dX1_shut_51 : decode cX1_shut 51 = .ok (.iload 5, 2) := by decide +kernel
theorem dX1_shut_53 : decode cX1_shut 53 = .ok (.ireturn, 1) := by decide +kernel
set_option maxRecDepth 20000 in
theorem ggX1_turn_X1_needRing : GoodIn wsX1_turn wsX1_needRing := goodIn_ca (goodIn_r _ [11, 12, 13, 14, 10, 15, 16, 17, 78, 79, 80, 81, 82, 83, 84, 85, 86, 87, 88] (by decide +kernel) (by decide +kernel)) (goodIn_sub (fun _ h => List.mem_cons_of_mem _ (List.mem_append_left _ (List.mem_append_right _ h))) (by decide +kernel))
set_option maxRecDepth 20000 in
theorem gX1_turn_X1_needRing : GoodIn wsX1_turn (wsV RX1 76 RX1 yX1_needRing wsX1_needRing) := goodIn_app (goodIn_of _ (by decide +kernel)) ggX1_turn_X1_needRing
set_option maxRecDepth 20000 in
theorem ggX1_turn_X1_needNumber : GoodIn wsX1_turn wsX1_needNumber := goodIn_ca (goodIn_r _ [20, 21, 22] (by decide +kernel) (by decide +kernel)) (goodIn_sub (fun _ h => List.mem_cons_of_mem _ (List.mem_append_right _ h)) (by decide +kernel))
set_option maxRecDepth 20000 in
theorem gX1_turn_X1_needNumber : GoodIn wsX1_turn (va_wsS RX1 46 yX1_needNumber wsX1_needNumber) := goodIn_app (goodIn_of _ (by decide +kernel)) ggX1_turn_X1_needNumber
set_option maxRecDepth 20000 in
theorem ggX1_turn_X1_turnRingInto : GoodIn wsX1_turn wsX1_turnRingInto := goodIn_r _ [26, 2, 27, 28, 29, 30, 31, 32, 33, 78, 79, 80, 81, 82, 83, 84, 85, 86, 87, 88] (by decide +kernel) (by decide +kernel)
set_option maxRecDepth 20000 in
theorem gX1_turn_X1_turnRingInto : GoodIn wsX1_turn (wsV RX1 79 RX1 yX1_turnRingInto wsX1_turnRingInto) := goodIn_app (goodIn_of _ (by decide +kernel)) ggX1_turn_X1_turnRingInto
set_option maxRecDepth 20000 in
theorem ggX1_turn_X0_firstRoomOf : GoodIn wsX1_turn wsX0_firstRoomOf := goodIn_r _ [30] (by decide +kernel) (by decide +kernel)
set_option maxRecDepth 20000 in
theorem gX1_turn_X0_firstRoomOf : GoodIn wsX1_turn (va_wsS RX1 83 yX0_firstRoomOf wsX0_firstRoomOf) := goodIn_app (goodIn_of _ (by decide +kernel)) ggX1_turn_X0_firstRoomOf
set_option maxRecDepth 20000 in
theorem ggX1_turn_X0_sizeOf : GoodIn wsX1_turn wsX0_sizeOf := goodIn_r _ [33] (by decide +kernel) (by decide +kernel)
set_option maxRecDepth 20000 in
theorem gX1_turn_X0_sizeOf : GoodIn wsX1_turn (va_wsS RX1 86 yX0_sizeOf wsX0_sizeOf) := goodIn_app (goodIn_of _ (by decide +kernel)) ggX1_turn_X0_sizeOf
set_option maxRecDepth 20000 in
theorem ggX1_turn_X1_relight : GoodIn wsX1_turn wsX1_relight := goodIn_r _ [37, 2, 38, 39, 40, 41, 10, 42, 43, 44, 45, 46, 47, 48, 49, 50, 51, 52, 53, 54, 55, 56, 57, 58, 59, 60, 61, 62, 63, 64, 65, 29, 66, 67, 68, 69, 70, 71, 72, 73, 74, 75, 76, 77, 78, 79, 80, 81, 82, 83, 84, 85, 86, 87, 88, 89, 90, 91, 92, 93] (by decide +kernel) (by decide +kernel)
set_option maxRecDepth 20000 in
theorem gX1_turn_X1_relight : GoodIn wsX1_turn (wsV RX1 61 RX1 yX1_relight wsX1_relight) := goodIn_app (goodIn_of _ (by decide +kernel)) ggX1_turn_X1_relight
theorem dX1_turn_0 : decode cX1_turn 0 = .ok (.aload_n 0, 1) := by decide +kernel
theorem dX1_turn_1 : decode cX1_turn 1 = .ok (.iload_n 1, 1) := by decide +kernel
theorem dX1_turn_2 : decode cX1_turn 2 = .ok (.invokevirtual 76, 3) := by decide +kernel
theorem dX1_turn_5 : decode cX1_turn 5 = .ok (.iload_n 2, 1) := by decide +kernel
theorem dX1_turn_6 : decode cX1_turn 6 = .ok (.iconst 0, 1) := by decide +kernel
theorem dX1_turn_7 : decode cX1_turn 7 = .ok (.bipush 29, 2) := by decide +kernel
theorem dX1_turn_9 : decode cX1_turn 9 = .ok (.invokestatic 46, 3) := by decide +kernel
theorem dX1_turn_12 : decode cX1_turn 12 = .ok (.aload_n 0, 1) := by decide +kernel
theorem dX1_turn_13 : decode cX1_turn 13 = .ok (.iload_n 1, 1) := by decide +kernel
theorem dX1_turn_14 : decode cX1_turn 14 = .ok (.iload_n 2, 1) := by decide +kernel
theorem dX1_turn_15 : decode cX1_turn 15 = .ok (.aload_n 0, 1) := by decide +kernel
theorem dX1_turn_16 : decode cX1_turn 16 = .ok (.getfield 27, 3) := by decide +kernel
theorem dX1_turn_19 : decode cX1_turn 19 = .ok (.invokevirtual 79, 3) := by decide +kernel
theorem dX1_turn_22 : decode cX1_turn 22 = .ok (.iload_n 1, 1) := by decide +kernel
theorem dX1_turn_23 : decode cX1_turn 23 = .ok (.invokestatic 83, 3) := by decide +kernel
theorem dX1_turn_26 : decode cX1_turn 26 = .ok (.istore_n 3, 1) := by decide +kernel
theorem dX1_turn_27 : decode cX1_turn 27 = .ok (.aload_n 0, 1) := by decide +kernel
theorem dX1_turn_28 : decode cX1_turn 28 = .ok (.getfield 27, 3) := by decide +kernel
theorem dX1_turn_31 : decode cX1_turn 31 = .ok (.iload_n 3, 1) := by decide +kernel
theorem dX1_turn_32 : decode cX1_turn 32 = .ok (.aload_n 0, 1) := by decide +kernel
theorem dX1_turn_33 : decode cX1_turn 33 = .ok (.getfield 16, 3) := by decide +kernel
theorem dX1_turn_36 : decode cX1_turn 36 = .ok (.iload_n 3, 1) := by decide +kernel
theorem dX1_turn_37 : decode cX1_turn 37 = .ok (.iload_n 1, 1) := by decide +kernel
theorem dX1_turn_38 : decode cX1_turn 38 = .ok (.invokestatic 86, 3) := by decide +kernel
theorem dX1_turn_41 : decode cX1_turn 41 = .ok (.invokestatic 89, 3) := by decide +kernel
theorem dX1_turn_44 : decode cX1_turn 44 = .ok (.aload_n 0, 1) := by decide +kernel
theorem dX1_turn_45 : decode cX1_turn 45 = .ok (.invokevirtual 61, 3) := by decide +kernel
theorem dX1_turn_48 : decode cX1_turn 48 = .ok (.ireturn, 1) := by decide +kernel
set_option maxRecDepth 20000 in
theorem ggX1_turnAll_X1_needNumber : GoodIn wsX1_turnAll wsX1_needNumber := goodIn_ca (goodIn_r _ [11, 12, 13] (by decide +kernel) (by decide +kernel)) (goodIn_sub (fun _ h => List.mem_cons_of_mem _ (List.mem_append_right _ h)) (by decide +kernel))
set_option maxRecDepth 20000 in
theorem gX1_turnAll_X1_needNumber : GoodIn wsX1_turnAll (va_wsS RX1 46 yX1_needNumber wsX1_needNumber) := goodIn_app (goodIn_of _ (by decide +kernel)) ggX1_turnAll_X1_needNumber
set_option maxRecDepth 20000 in
theorem ggX1_turnAll_X1_turnAllInto : GoodIn wsX1_turnAll wsX1_turnAllInto := goodIn_r _ [17, 18, 19, 20, 21, 10, 22, 2, 23, 24, 25, 26, 27, 28, 29, 73, 74, 75, 76, 77, 78, 79, 80, 81, 82, 83] (by decide +kernel) (by decide +kernel)
set_option maxRecDepth 20000 in
theorem gX1_turnAll_X1_turnAllInto : GoodIn wsX1_turnAll (wsV RX1 95 RX1 yX1_turnAllInto wsX1_turnAllInto) := goodIn_app (goodIn_of _ (by decide +kernel)) ggX1_turnAll_X1_turnAllInto
set_option maxRecDepth 20000 in
theorem ggX1_turnAll_X1_relight : GoodIn wsX1_turnAll wsX1_relight := goodIn_r _ [33, 2, 34, 35, 36, 37, 10, 38, 3, 39, 40, 41, 42, 43, 44, 45, 46, 47, 48, 49, 50, 51, 52, 53, 54, 55, 56, 57, 58, 59, 60, 25, 61, 62, 63, 64, 65, 66, 67, 68, 69, 70, 71, 72, 73, 74, 75, 76, 77, 78, 79, 80, 81, 82, 83, 84, 85, 86, 87, 88] (by decide +kernel) (by decide +kernel)
set_option maxRecDepth 20000 in
theorem gX1_turnAll_X1_relight : GoodIn wsX1_turnAll (wsV RX1 61 RX1 yX1_relight wsX1_relight) := goodIn_app (goodIn_of _ (by decide +kernel)) ggX1_turnAll_X1_relight
theorem dX1_turnAll_0 : decode cX1_turnAll 0 = .ok (.iload_n 1, 1) := by decide +kernel
theorem dX1_turnAll_1 : decode cX1_turnAll 1 = .ok (.iconst 0, 1) := by decide +kernel
theorem dX1_turnAll_2 : decode cX1_turnAll 2 = .ok (.iconst 5, 1) := by decide +kernel
theorem dX1_turnAll_3 : decode cX1_turnAll 3 = .ok (.invokestatic 46, 3) := by decide +kernel
theorem dX1_turnAll_6 : decode cX1_turnAll 6 = .ok (.aload_n 0, 1) := by decide +kernel
theorem dX1_turnAll_7 : decode cX1_turnAll 7 = .ok (.iload_n 1, 1) := by decide +kernel
theorem dX1_turnAll_8 : decode cX1_turnAll 8 = .ok (.aload_n 0, 1) := by decide +kernel
theorem dX1_turnAll_9 : decode cX1_turnAll 9 = .ok (.getfield 27, 3) := by decide +kernel
theorem dX1_turnAll_12 : decode cX1_turnAll 12 = .ok (.invokevirtual 95, 3) := by decide +kernel
theorem dX1_turnAll_15 : decode cX1_turnAll 15 = .ok (.aload_n 0, 1) := by decide +kernel
theorem dX1_turnAll_16 : decode cX1_turnAll 16 = .ok (.getfield 27, 3) := by decide +kernel
theorem dX1_turnAll_19 : decode cX1_turnAll 19 = .ok (.iconst 0, 1) := by decide +kernel
theorem dX1_turnAll_20 : decode cX1_turnAll 20 = .ok (.aload_n 0, 1) := by decide +kernel
theorem dX1_turnAll_21 : decode cX1_turnAll 21 = .ok (.getfield 16, 3) := by decide +kernel
theorem dX1_turnAll_24 : decode cX1_turnAll 24 = .ok (.iconst 0, 1) := by decide +kernel
theorem dX1_turnAll_25 : decode cX1_turnAll 25 = .ok (.aload_n 0, 1) := by decide +kernel
theorem dX1_turnAll_26 : decode cX1_turnAll 26 = .ok (.getfield 50, 3) := by decide +kernel
theorem dX1_turnAll_29 : decode cX1_turnAll 29 = .ok (.invokestatic 89, 3) := by decide +kernel
theorem dX1_turnAll_32 : decode cX1_turnAll 32 = .ok (.aload_n 0, 1) := by decide +kernel
theorem dX1_turnAll_33 : decode cX1_turnAll 33 = .ok (.invokevirtual 61, 3) := by decide +kernel
theorem dX1_turnAll_36 : decode cX1_turnAll 36 = .ok (.ireturn, 1) := by decide +kernel
set_option maxRecDepth 20000 in
theorem ggX1_at_X0_roomAt : GoodIn wsX1_at wsX0_roomAt := goodIn_r _ [6, 7, 8, 9, 5, 10, 11, 12, 13, 31, 32, 33, 34, 35] (by decide +kernel) (by decide +kernel)
set_option maxRecDepth 20000 in
theorem gX1_at_X0_roomAt : GoodIn wsX1_at (wsV RX1 99 RX0 yX0_roomAt wsX0_roomAt) := goodIn_app (goodIn_of _ (by decide +kernel)) ggX1_at_X0_roomAt
set_option maxRecDepth 20000 in
theorem ggX1_at_X1_orNone : GoodIn wsX1_at wsX1_orNone := goodIn_r _ [18, 19, 20, 21, 22, 23, 24, 25, 26, 27, 28, 29, 30] (by decide +kernel) (by decide +kernel)
set_option maxRecDepth 20000 in
theorem gX1_at_X1_orNone : GoodIn wsX1_at (wsV RX1 102 RX1 yX1_orNone wsX1_orNone) := goodIn_app (goodIn_of _ (by decide +kernel)) ggX1_at_X1_orNone
theorem dX1_at_0 : decode cX1_at 0 = .ok (.aload_n 0, 1) := by decide +kernel
theorem dX1_at_1 : decode cX1_at 1 = .ok (.aload_n 0, 1) := by decide +kernel
theorem dX1_at_2 : decode cX1_at 2 = .ok (.getfield 12, 3) := by decide +kernel
theorem dX1_at_5 : decode cX1_at 5 = .ok (.iload_n 1, 1) := by decide +kernel
theorem dX1_at_6 : decode cX1_at 6 = .ok (.iload_n 2, 1) := by decide +kernel
theorem dX1_at_7 : decode cX1_at 7 = .ok (.invokevirtual 99, 3) := by decide +kernel
theorem dX1_at_10 : decode cX1_at 10 = .ok (.invokevirtual 102, 3) := by decide +kernel
theorem dX1_at_13 : decode cX1_at 13 = .ok (.ireturn, 1) := by decide +kernel
set_option maxRecDepth 20000 in
theorem ggX1_about_X1_needRoom : GoodIn wsX1_about wsX1_needRoom := goodIn_ca (goodIn_r _ [8, 9, 10, 11, 7, 12, 13, 14, 56, 57, 58, 59, 60, 61, 62, 63, 64, 65, 66] (by decide +kernel) (by decide +kernel)) (goodIn_sub (fun _ h => List.mem_cons_of_mem _ (List.mem_append_right _ h)) (by decide +kernel))
set_option maxRecDepth 20000 in
theorem gX1_about_X1_needRoom : GoodIn wsX1_about (wsV RX1 54 RX1 yX1_needRoom wsX1_needRoom) := goodIn_app (goodIn_of _ (by decide +kernel)) ggX1_about_X1_needRoom
set_option maxRecDepth 20000 in
theorem ggX1_about_X1_needIndex : GoodIn wsX1_about wsX1_needIndex := goodIn_ca (goodIn_r _ [12, 13, 14] (by decide +kernel) (by decide +kernel)) (goodIn_sub (fun _ h => List.mem_cons_of_mem _ (List.mem_append_right _ h)) (by decide +kernel))
set_option maxRecDepth 20000 in
theorem gX1_about_X1_needIndex : GoodIn wsX1_about (va_wsS RX1 57 yX1_needIndex wsX1_needIndex) := goodIn_app (goodIn_of _ (by decide +kernel)) ggX1_about_X1_needIndex
set_option maxRecDepth 20000 in
theorem ggX1_about_X0_acrossOf : GoodIn wsX1_about wsX0_acrossOf := goodIn_r _ [19, 20, 67, 68, 69, 70, 71] (by decide +kernel) (by decide +kernel)
set_option maxRecDepth 20000 in
theorem gX1_about_X0_acrossOf : GoodIn wsX1_about (wsV RX1 105 RX0 yX0_acrossOf wsX0_acrossOf) := goodIn_app (goodIn_of _ (by decide +kernel)) ggX1_about_X0_acrossOf
set_option maxRecDepth 20000 in
theorem ggX1_about_X0_downOf : GoodIn wsX1_about wsX0_downOf := goodIn_r _ [24, 25, 67, 68, 69, 70, 71] (by decide +kernel) (by decide +kernel)
set_option maxRecDepth 20000 in
theorem gX1_about_X0_downOf : GoodIn wsX1_about (wsV RX1 108 RX0 yX0_downOf wsX0_downOf) := goodIn_app (goodIn_of _ (by decide +kernel)) ggX1_about_X0_downOf
set_option maxRecDepth 20000 in
theorem ggX1_about_X0_ringOf : GoodIn wsX1_about wsX0_ringOf := goodIn_r _ [29, 30, 67, 68, 69, 70, 71] (by decide +kernel) (by decide +kernel)
set_option maxRecDepth 20000 in
theorem gX1_about_X0_ringOf : GoodIn wsX1_about (wsV RX1 111 RX0 yX0_ringOf wsX0_ringOf) := goodIn_app (goodIn_of _ (by decide +kernel)) ggX1_about_X0_ringOf
set_option maxRecDepth 20000 in
theorem ggX1_about_X1_sidesOnward : GoodIn wsX1_about wsX1_sidesOnward := goodIn_r _ [34, 2, 35, 36, 37, 7, 38, 39, 40, 41, 42, 43, 1, 44, 45, 46, 18, 47, 48, 49, 50, 51, 52, 53, 54, 9, 55, 56, 57, 58, 59, 60, 61, 62, 63, 64, 65, 66, 67, 68, 69, 70, 71] (by decide +kernel) (by decide +kernel)
set_option maxRecDepth 20000 in
theorem gX1_about_X1_sidesOnward : GoodIn wsX1_about (wsV RX1 114 RX1 yX1_sidesOnward wsX1_sidesOnward) := goodIn_app (goodIn_of _ (by decide +kernel)) ggX1_about_X1_sidesOnward
theorem dX1_about_0 : decode cX1_about 0 = .ok (.aload_n 0, 1) := by decide +kernel
theorem dX1_about_1 : decode cX1_about 1 = .ok (.iload_n 1, 1) := by decide +kernel
theorem dX1_about_2 : decode cX1_about 2 = .ok (.invokevirtual 54, 3) := by decide +kernel
theorem dX1_about_5 : decode cX1_about 5 = .ok (.iload_n 2, 1) := by decide +kernel
theorem dX1_about_6 : decode cX1_about 6 = .ok (.bipush 6, 2) := by decide +kernel
theorem dX1_about_8 : decode cX1_about 8 = .ok (.invokestatic 57, 3) := by decide +kernel
theorem dX1_about_11 : decode cX1_about 11 = .ok (.iload_n 2, 1) := by decide +kernel
theorem dX1_about_12 : decode cX1_about 12 = .ok (.tableswitch 77 0 4 #[36, 45, 54, 63, 70], 36) := by decide +kernel
theorem dX1_about_48 : decode cX1_about 48 = .ok (.aload_n 0, 1) := by decide +kernel
theorem dX1_about_49 : decode cX1_about 49 = .ok (.getfield 12, 3) := by decide +kernel
theorem dX1_about_52 : decode cX1_about 52 = .ok (.iload_n 1, 1) := by decide +kernel
theorem dX1_about_53 : decode cX1_about 53 = .ok (.invokevirtual 105, 3) := by decide +kernel
theorem dX1_about_56 : decode cX1_about 56 = .ok (.ireturn, 1) := by decide +kernel
theorem dX1_about_57 : decode cX1_about 57 = .ok (.aload_n 0, 1) := by decide +kernel
theorem dX1_about_58 : decode cX1_about 58 = .ok (.getfield 12, 3) := by decide +kernel
theorem dX1_about_61 : decode cX1_about 61 = .ok (.iload_n 1, 1) := by decide +kernel
theorem dX1_about_62 : decode cX1_about 62 = .ok (.invokevirtual 108, 3) := by decide +kernel
theorem dX1_about_65 : decode cX1_about 65 = .ok (.ireturn, 1) := by decide +kernel
theorem dX1_about_66 : decode cX1_about 66 = .ok (.aload_n 0, 1) := by decide +kernel
theorem dX1_about_67 : decode cX1_about 67 = .ok (.getfield 12, 3) := by decide +kernel
theorem dX1_about_70 : decode cX1_about 70 = .ok (.iload_n 1, 1) := by decide +kernel
theorem dX1_about_71 : decode cX1_about 71 = .ok (.invokevirtual 111, 3) := by decide +kernel
theorem dX1_about_74 : decode cX1_about 74 = .ok (.ireturn, 1) := by decide +kernel
theorem dX1_about_75 : decode cX1_about 75 = .ok (.aload_n 0, 1) := by decide +kernel
theorem dX1_about_76 : decode cX1_about 76 = .ok (.getfield 16, 3) := by decide +kernel
theorem dX1_about_79 : decode cX1_about 79 = .ok (.iload_n 1, 1) := by decide +kernel
theorem dX1_about_80 : decode cX1_about 80 = .ok (.iaload, 1) := by decide +kernel
theorem dX1_about_81 : decode cX1_about 81 = .ok (.ireturn, 1) := by decide +kernel
theorem dX1_about_82 : decode cX1_about 82 = .ok (.aload_n 0, 1) := by decide +kernel
theorem dX1_about_83 : decode cX1_about 83 = .ok (.getfield 24, 3) := by decide +kernel
theorem dX1_about_86 : decode cX1_about 86 = .ok (.iload_n 1, 1) := by decide +kernel
theorem dX1_about_87 : decode cX1_about 87 = .ok (.iaload, 1) := by decide +kernel
theorem dX1_about_88 : decode cX1_about 88 = .ok (.ireturn, 1) := by decide +kernel
theorem dX1_about_89 : decode cX1_about 89 = .ok (.aload_n 0, 1) := by decide +kernel
theorem dX1_about_90 : decode cX1_about 90 = .ok (.iload_n 1, 1) := by decide +kernel
theorem dX1_about_91 : decode cX1_about 91 = .ok (.invokevirtual 114, 3) := by decide +kernel
theorem dX1_about_94 : decode cX1_about 94 = .ok (.ireturn, 1) := by decide +kernel
set_option maxRecDepth 20000 in
theorem ggX1_beside_X1_needRoom : GoodIn wsX1_beside wsX1_needRoom := goodIn_ca (goodIn_r _ [5, 6, 7, 8, 4, 9, 10, 11, 29, 30, 31, 32, 33, 34, 35, 36, 37, 38, 39] (by decide +kernel) (by decide +kernel)) (goodIn_sub (fun _ h => List.mem_cons_of_mem _ (List.mem_append_right _ h)) (by decide +kernel))
set_option maxRecDepth 20000 in
theorem gX1_beside_X1_needRoom : GoodIn wsX1_beside (wsV RX1 54 RX1 yX1_needRoom wsX1_needRoom) := goodIn_app (goodIn_of _ (by decide +kernel)) ggX1_beside_X1_needRoom
set_option maxRecDepth 20000 in
theorem ggX1_beside_X1_needIndex : GoodIn wsX1_beside wsX1_needIndex := goodIn_ca (goodIn_r _ [9, 10, 11] (by decide +kernel) (by decide +kernel)) (goodIn_sub (fun _ h => List.mem_cons_of_mem _ (List.mem_append_right _ h)) (by decide +kernel))
set_option maxRecDepth 20000 in
theorem gX1_beside_X1_needIndex : GoodIn wsX1_beside (va_wsS RX1 57 yX1_needIndex wsX1_needIndex) := goodIn_app (goodIn_of _ (by decide +kernel)) ggX1_beside_X1_needIndex
set_option maxRecDepth 20000 in
theorem ggX1_beside_X1_neighbour : GoodIn wsX1_beside wsX1_neighbour := goodIn_r _ [15, 16, 17, 18, 19, 20, 21, 22, 23, 4, 24, 25, 26, 27, 28, 6, 29, 30, 31, 32, 33, 34, 35, 36, 37, 38, 39, 40, 41, 42, 43, 44] (by decide +kernel) (by decide +kernel)
set_option maxRecDepth 20000 in
theorem gX1_beside_X1_neighbour : GoodIn wsX1_beside (wsV RX1 117 RX1 yX1_neighbour wsX1_neighbour) := goodIn_app (goodIn_of _ (by decide +kernel)) ggX1_beside_X1_neighbour
theorem dX1_beside_0 : decode cX1_beside 0 = .ok (.aload_n 0, 1) := by decide +kernel
theorem dX1_beside_1 : decode cX1_beside 1 = .ok (.iload_n 1, 1) := by decide +kernel
theorem dX1_beside_2 : decode cX1_beside 2 = .ok (.invokevirtual 54, 3) := by decide +kernel
theorem dX1_beside_5 : decode cX1_beside 5 = .ok (.iload_n 2, 1) := by decide +kernel
theorem dX1_beside_6 : decode cX1_beside 6 = .ok (.bipush 6, 2) := by decide +kernel
theorem dX1_beside_8 : decode cX1_beside 8 = .ok (.invokestatic 57, 3) := by decide +kernel
theorem dX1_beside_11 : decode cX1_beside 11 = .ok (.aload_n 0, 1) := by decide +kernel
theorem dX1_beside_12 : decode cX1_beside 12 = .ok (.iload_n 1, 1) := by decide +kernel
theorem dX1_beside_13 : decode cX1_beside 13 = .ok (.iload_n 2, 1) := by decide +kernel
theorem dX1_beside_14 : decode cX1_beside 14 = .ok (.invokevirtual 117, 3) := by decide +kernel
theorem dX1_beside_17 : decode cX1_beside 17 = .ok (.ireturn, 1) := by decide +kernel
set_option maxRecDepth 20000 in
theorem ggX1_isShut_X1_needDoor : GoodIn wsX1_isShut wsX1_needDoor := goodIn_ca (goodIn_ca (goodIn_r _ [6, 7, 8, 9, 10, 11, 5, 12, 13, 14, 15, 16, 17, 18, 19, 20, 21, 22, 23, 24, 25, 26, 27, 28, 29, 30, 31, 32, 33, 34, 35, 37, 38, 39, 40, 41, 42, 43, 44, 45, 46, 47, 48, 49, 50, 51, 52] (by decide +kernel) (by decide +kernel)) (goodIn_sub (fun _ h => List.mem_cons_of_mem _ (List.mem_append_left _ (List.mem_append_right _ h))) (by decide +kernel))) (goodIn_sub (fun _ h => List.mem_cons_of_mem _ (List.mem_append_right _ h)) (by decide +kernel))
set_option maxRecDepth 20000 in
theorem gX1_isShut_X1_needDoor : GoodIn wsX1_isShut (wsV RX1 65 RX1 yX1_needDoor wsX1_needDoor) := goodIn_app (goodIn_of _ (by decide +kernel)) ggX1_isShut_X1_needDoor
set_option maxRecDepth 20000 in
theorem ggX1_isShut_X1_doorOf : GoodIn wsX1_isShut wsX1_doorOf := goodIn_r _ [31] (by decide +kernel) (by decide +kernel)
set_option maxRecDepth 20000 in
theorem gX1_isShut_X1_doorOf : GoodIn wsX1_isShut (va_wsS RX1 69 yX1_doorOf wsX1_doorOf) := goodIn_app (goodIn_of _ (by decide +kernel)) ggX1_isShut_X1_doorOf
theorem dX1_isShut_0 : decode cX1_isShut 0 = .ok (.aload_n 0, 1) := by decide +kernel
theorem dX1_isShut_1 : decode cX1_isShut 1 = .ok (.iload_n 1, 1) := by decide +kernel
theorem dX1_isShut_2 : decode cX1_isShut 2 = .ok (.iload_n 2, 1) := by decide +kernel
theorem dX1_isShut_3 : decode cX1_isShut 3 = .ok (.invokevirtual 65, 3) := by decide +kernel
theorem dX1_isShut_6 : decode cX1_isShut 6 = .ok (.pop, 1) := by decide +kernel
theorem dX1_isShut_7 : decode cX1_isShut 7 = .ok (.aload_n 0, 1) := by decide +kernel
theorem dX1_isShut_8 : decode cX1_isShut 8 = .ok (.getfield 20, 3) := by decide +kernel
theorem dX1_isShut_11 : decode cX1_isShut 11 = .ok (.iload_n 1, 1) := by decide +kernel
theorem dX1_isShut_12 : decode cX1_isShut 12 = .ok (.iload_n 2, 1) := by decide +kernel
theorem dX1_isShut_13 : decode cX1_isShut 13 = .ok (.invokestatic 69, 3) := by decide +kernel
theorem dX1_isShut_16 : decode cX1_isShut 16 = .ok (.baload, 1) := by decide +kernel
theorem dX1_isShut_17 : decode cX1_isShut 17 = .ok (.ireturn, 1) := by decide +kernel
set_option maxRecDepth 20000 in
theorem ggX1_far_X1_needRoom : GoodIn wsX1_far wsX1_needRoom := goodIn_ca (goodIn_r _ [10, 11, 12, 13, 9, 14, 15, 16, 28, 29, 30, 31, 32, 33, 34, 35, 36, 37, 38] (by decide +kernel) (by decide +kernel)) (goodIn_sub (fun _ h => List.mem_cons_of_mem _ (List.mem_append_right _ h)) (by decide +kernel))
set_option maxRecDepth 20000 in
theorem gX1_far_X1_needRoom : GoodIn wsX1_far (wsV RX1 54 RX1 yX1_needRoom wsX1_needRoom) := goodIn_app (goodIn_of _ (by decide +kernel)) ggX1_far_X1_needRoom
set_option maxRecDepth 20000 in
theorem ggX1_far_X0_acrossOf : GoodIn wsX1_far wsX0_acrossOf := goodIn_r _ [21, 22, 39, 40, 41, 42, 43] (by decide +kernel) (by decide +kernel)
set_option maxRecDepth 20000 in
theorem gX1_far_X0_acrossOf : GoodIn wsX1_far (wsV RX1 105 RX0 yX0_acrossOf wsX0_acrossOf) := goodIn_app (goodIn_of _ (by decide +kernel)) ggX1_far_X0_acrossOf
set_option maxRecDepth 20000 in
theorem ggX1_far_X0_downOf : GoodIn wsX1_far wsX0_downOf := goodIn_r _ [26, 27, 39, 40, 41, 42, 43] (by decide +kernel) (by decide +kernel)
set_option maxRecDepth 20000 in
theorem gX1_far_X0_downOf : GoodIn wsX1_far (wsV RX1 108 RX0 yX0_downOf wsX0_downOf) := goodIn_app (goodIn_of _ (by decide +kernel)) ggX1_far_X0_downOf
theorem dX1_far_0 : decode cX1_far 0 = .ok (.aload_n 0, 1) := by decide +kernel
theorem dX1_far_1 : decode cX1_far 1 = .ok (.iload_n 1, 1) := by decide +kernel
theorem dX1_far_2 : decode cX1_far 2 = .ok (.invokevirtual 54, 3) := by decide +kernel
theorem dX1_far_5 : decode cX1_far 5 = .ok (.aload_n 0, 1) := by decide +kernel
theorem dX1_far_6 : decode cX1_far 6 = .ok (.iload_n 2, 1) := by decide +kernel
theorem dX1_far_7 : decode cX1_far 7 = .ok (.invokevirtual 54, 3) := by decide +kernel
theorem dX1_far_10 : decode cX1_far 10 = .ok (.aload_n 0, 1) := by decide +kernel
theorem dX1_far_11 : decode cX1_far 11 = .ok (.getfield 12, 3) := by decide +kernel
theorem dX1_far_14 : decode cX1_far 14 = .ok (.iload_n 1, 1) := by decide +kernel
theorem dX1_far_15 : decode cX1_far 15 = .ok (.invokevirtual 105, 3) := by decide +kernel
theorem dX1_far_18 : decode cX1_far 18 = .ok (.aload_n 0, 1) := by decide +kernel
theorem dX1_far_19 : decode cX1_far 19 = .ok (.getfield 12, 3) := by decide +kernel
theorem dX1_far_22 : decode cX1_far 22 = .ok (.iload_n 2, 1) := by decide +kernel
theorem dX1_far_23 : decode cX1_far 23 = .ok (.invokevirtual 105, 3) := by decide +kernel
theorem dX1_far_26 : decode cX1_far 26 = .ok (.isub, 1) := by decide +kernel
theorem dX1_far_27 : decode cX1_far 27 = .ok (.istore_n 3, 1) := by decide +kernel
theorem dX1_far_28 : decode cX1_far 28 = .ok (.aload_n 0, 1) := by decide +kernel
theorem dX1_far_29 : decode cX1_far 29 = .ok (.getfield 12, 3) := by decide +kernel
theorem dX1_far_32 : decode cX1_far 32 = .ok (.iload_n 1, 1) := by decide +kernel
theorem dX1_far_33 : decode cX1_far 33 = .ok (.invokevirtual 108, 3) := by decide +kernel
theorem dX1_far_36 : decode cX1_far 36 = .ok (.aload_n 0, 1) := by decide +kernel
theorem dX1_far_37 : decode cX1_far 37 = .ok (.getfield 12, 3) := by decide +kernel
theorem dX1_far_40 : decode cX1_far 40 = .ok (.iload_n 2, 1) := by decide +kernel
theorem dX1_far_41 : decode cX1_far 41 = .ok (.invokevirtual 108, 3) := by decide +kernel
theorem dX1_far_44 : decode cX1_far 44 = .ok (.isub, 1) := by decide +kernel
theorem dX1_far_45 : decode cX1_far 45 = .ok (.istore 4, 2) := by decide +kernel
theorem dX1_far_47 : decode cX1_far 47 = .ok (.iload_n 3, 1) := by decide +kernel
theorem dX1_far_48 : decode cX1_far 48 = .ok (.invokestatic 120, 3) := by decide +kernel
theorem dX1_far_51 : decode cX1_far 51 = .ok (.iload 4, 2) := by decide +kernel
theorem dX1_far_53 : decode cX1_far 53 = .ok (.invokestatic 120, 3) := by decide +kernel
theorem dX1_far_56 : decode cX1_far 56 = .ok (.iadd, 1) := by decide +kernel
theorem dX1_far_57 : decode cX1_far 57 = .ok (.iload_n 3, 1) := by decide +kernel
theorem dX1_far_58 : decode cX1_far 58 = .ok (.iload 4, 2) := by decide +kernel
theorem dX1_far_60 : decode cX1_far 60 = .ok (.iadd, 1) := by decide +kernel
theorem dX1_far_61 : decode cX1_far 61 = .ok (.invokestatic 120, 3) := by decide +kernel
theorem dX1_far_64 : decode cX1_far 64 = .ok (.iadd, 1) := by decide +kernel
theorem dX1_far_65 : decode cX1_far 65 = .ok (.iconst 2, 1) := by decide +kernel
theorem dX1_far_66 : decode cX1_far 66 = .ok (.idiv, 1) := by decide +kernel
theorem dX1_far_67 : decode cX1_far 67 = .ok (.ireturn, 1) := by decide +kernel
set_option maxRecDepth 20000 in
theorem ggX1_sees_X1_needRoom : GoodIn wsX1_sees wsX1_needRoom := goodIn_ca (goodIn_r _ [7, 8, 9, 10, 6, 11, 12, 13, 41, 42, 43, 44, 45, 46, 47, 48, 49, 50, 51] (by decide +kernel) (by decide +kernel)) (goodIn_sub (fun _ h => List.mem_cons_of_mem _ (List.mem_append_right _ h)) (by decide +kernel))
set_option maxRecDepth 20000 in
theorem gX1_sees_X1_needRoom : GoodIn wsX1_sees (wsV RX1 54 RX1 yX1_needRoom wsX1_needRoom) := goodIn_app (goodIn_of _ (by decide +kernel)) ggX1_sees_X1_needRoom
set_option maxRecDepth 20000 in
theorem ggX1_sees_X1_beamFrom : GoodIn wsX1_sees wsX1_beamFrom := goodIn_r _ [17, 2, 18, 19, 20, 6, 21, 22, 23, 24, 25, 26, 27, 28, 29, 30, 31, 32, 33, 34, 35, 36, 37, 38, 39, 8, 40, 41, 42, 43, 44, 45, 46, 47, 48, 49, 50, 51, 52, 53, 54, 55, 56] (by decide +kernel) (by decide +kernel)
set_option maxRecDepth 20000 in
theorem gX1_sees_X1_beamFrom : GoodIn wsX1_sees (wsV RX1 125 RX1 yX1_beamFrom wsX1_beamFrom) := goodIn_app (goodIn_of _ (by decide +kernel)) ggX1_sees_X1_beamFrom
theorem dX1_sees_0 : decode cX1_sees 0 = .ok (.aload_n 0, 1) := by decide +kernel
theorem dX1_sees_1 : decode cX1_sees 1 = .ok (.iload_n 1, 1) := by decide +kernel
theorem dX1_sees_2 : decode cX1_sees 2 = .ok (.invokevirtual 54, 3) := by decide +kernel
theorem dX1_sees_5 : decode cX1_sees 5 = .ok (.aload_n 0, 1) := by decide +kernel
theorem dX1_sees_6 : decode cX1_sees 6 = .ok (.iload_n 2, 1) := by decide +kernel
theorem dX1_sees_7 : decode cX1_sees 7 = .ok (.invokevirtual 54, 3) := by decide +kernel
theorem dX1_sees_10 : decode cX1_sees 10 = .ok (.aload_n 0, 1) := by decide +kernel
theorem dX1_sees_11 : decode cX1_sees 11 = .ok (.aload_n 0, 1) := by decide +kernel
theorem dX1_sees_12 : decode cX1_sees 12 = .ok (.getfield 16, 3) := by decide +kernel
theorem dX1_sees_15 : decode cX1_sees 15 = .ok (.iload_n 1, 1) := by decide +kernel
theorem dX1_sees_16 : decode cX1_sees 16 = .ok (.invokevirtual 125, 3) := by decide +kernel
theorem dX1_sees_19 : decode cX1_sees 19 = .ok (.istore_n 3, 1) := by decide +kernel
theorem dX1_sees_20 : decode cX1_sees 20 = .ok (.iconst 0, 1) := by decide +kernel
theorem dX1_sees_21 : decode cX1_sees 21 = .ok (.istore 4, 2) := by decide +kernel
theorem dX1_sees_23 : decode cX1_sees 23 = .ok (.iload 4, 2) := by decide +kernel
theorem dX1_sees_25 : decode cX1_sees 25 = .ok (.iload_n 3, 1) := by decide +kernel
theorem dX1_sees_26 : decode cX1_sees 26 = .ok (.if_icmp .ge 22, 3) := by decide +kernel
theorem dX1_sees_29 : decode cX1_sees 29 = .ok (.aload_n 0, 1) := by decide +kernel
theorem dX1_sees_30 : decode cX1_sees 30 = .ok (.getfield 33, 3) := by decide +kernel
theorem dX1_sees_33 : decode cX1_sees 33 = .ok (.iload 4, 2) := by decide +kernel
theorem dX1_sees_35 : decode cX1_sees 35 = .ok (.iaload, 1) := by decide +kernel
theorem dX1_sees_36 : decode cX1_sees 36 = .ok (.iload_n 2, 1) := by decide +kernel
theorem dX1_sees_37 : decode cX1_sees 37 = .ok (.if_icmp .ne 5, 3) := by decide +kernel
theorem dX1_sees_40 : decode cX1_sees 40 = .ok (.iconst 1, 1) := by decide +kernel
theorem dX1_sees_41 : decode cX1_sees 41 = .ok (.ireturn, 1) := by decide +kernel
theorem dX1_sees_42 : decode cX1_sees 42 = .ok (.iinc 4 1, 3) := by decide +kernel
theorem dX1_sees_45 : decode cX1_sees 45 = .ok (.goto (-22), 3) := by decide +kernel
theorem dX1_sees_48 : decode cX1_sees 48 = .ok (.iconst 0, 1) := by decide +kernel
theorem dX1_sees_49 : decode cX1_sees 49 = .ok (.ireturn, 1) := by decide +kernel
set_option maxRecDepth 20000 in
theorem ggX1_way_X1_needRoom : GoodIn wsX1_way wsX1_needRoom := goodIn_ca (goodIn_r _ [5, 6, 7, 8, 4, 9, 10, 11, 54, 55, 56, 57, 58, 59, 60, 61, 62, 63, 64] (by decide +kernel) (by decide +kernel)) (goodIn_sub (fun _ h => List.mem_cons_of_mem _ (List.mem_append_right _ h)) (by decide +kernel))
set_option maxRecDepth 20000 in
theorem gX1_way_X1_needRoom : GoodIn wsX1_way (wsV RX1 54 RX1 yX1_needRoom wsX1_needRoom) := goodIn_app (goodIn_of _ (by decide +kernel)) ggX1_way_X1_needRoom
set_option maxRecDepth 20000 in
theorem ggX1_way_X1_stepsBetween : GoodIn wsX1_way wsX1_stepsBetween := goodIn_r _ [15, 16, 17, 18, 19, 4, 20, 21, 22, 23, 24, 25, 26, 27, 28, 29, 30, 31, 32, 33, 34, 35, 36, 37, 38, 39, 40, 41, 42, 43, 44, 45, 46, 47, 48, 49, 50, 51, 52, 6, 53, 54, 55, 56, 57, 58, 59, 60, 61, 62, 63, 64, 65, 66, 67, 68, 69] (by decide +kernel) (by decide +kernel)
set_option maxRecDepth 20000 in
theorem gX1_way_X1_stepsBetween : GoodIn wsX1_way (wsV RX1 129 RX1 yX1_stepsBetween wsX1_stepsBetween) := goodIn_app (goodIn_of _ (by decide +kernel)) ggX1_way_X1_stepsBetween
theorem dX1_way_0 : decode cX1_way 0 = .ok (.aload_n 0, 1) := by decide +kernel
theorem dX1_way_1 : decode cX1_way 1 = .ok (.iload_n 1, 1) := by decide +kernel
theorem dX1_way_2 : decode cX1_way 2 = .ok (.invokevirtual 54, 3) := by decide +kernel
theorem dX1_way_5 : decode cX1_way 5 = .ok (.aload_n 0, 1) := by decide +kernel
theorem dX1_way_6 : decode cX1_way 6 = .ok (.iload_n 2, 1) := by decide +kernel
theorem dX1_way_7 : decode cX1_way 7 = .ok (.invokevirtual 54, 3) := by decide +kernel
theorem dX1_way_10 : decode cX1_way 10 = .ok (.aload_n 0, 1) := by decide +kernel
theorem dX1_way_11 : decode cX1_way 11 = .ok (.iload_n 1, 1) := by decide +kernel
theorem dX1_way_12 : decode cX1_way 12 = .ok (.iload_n 2, 1) := by decide +kernel
theorem dX1_way_13 : decode cX1_way 13 = .ok (.invokevirtual 129, 3) := by decide +kernel
theorem dX1_way_16 : decode cX1_way 16 = .ok (.ireturn, 1) := by decide +kernel
set_option maxRecDepth 20000 in
theorem ggX1_side_X1_needRoom : GoodIn wsX1_side wsX1_needRoom := goodIn_ca (goodIn_r _ [6, 7, 8, 9, 5, 10, 11, 12, 54, 55, 56, 57, 58, 59, 60, 61, 62, 63, 64] (by decide +kernel) (by decide +kernel)) (goodIn_sub (fun _ h => List.mem_cons_of_mem _ (List.mem_append_right _ h)) (by decide +kernel))
set_option maxRecDepth 20000 in
theorem gX1_side_X1_needRoom : GoodIn wsX1_side (wsV RX1 54 RX1 yX1_needRoom wsX1_needRoom) := goodIn_app (goodIn_of _ (by decide +kernel)) ggX1_side_X1_needRoom
set_option maxRecDepth 20000 in
theorem ggX1_side_X1_onward : GoodIn wsX1_side wsX1_onward := goodIn_r _ [16, 17, 18, 19, 20, 5, 21, 22, 23, 24, 25, 26, 27, 28, 29, 30, 31, 32, 33, 34, 7, 35, 54, 55, 56, 57, 58, 59, 60, 61, 62, 63, 64, 65, 66, 67, 68, 69] (by decide +kernel) (by decide +kernel)
set_option maxRecDepth 20000 in
theorem gX1_side_X1_onward : GoodIn wsX1_side (wsV RX1 132 RX1 yX1_onward wsX1_onward) := goodIn_app (goodIn_of _ (by decide +kernel)) ggX1_side_X1_onward
set_option maxRecDepth 20000 in
theorem ggX1_side_X1_stepsBetween : GoodIn wsX1_side wsX1_stepsBetween := goodIn_r _ [39, 40, 41, 42, 43, 5, 44, 45, 46, 47, 48, 49, 50, 51, 52, 53, 1, 13, 14, 15, 16, 17, 18, 19, 20, 21, 22, 23, 24, 25, 26, 27, 28, 29, 30, 31, 32, 33, 34, 7, 35, 54, 55, 56, 57, 58, 59, 60, 61, 62, 63, 64, 65, 66, 67, 68, 69] (by decide +kernel) (by decide +kernel)
set_option maxRecDepth 20000 in
theorem gX1_side_X1_stepsBetween : GoodIn wsX1_side (wsV RX1 129 RX1 yX1_stepsBetween wsX1_stepsBetween) := goodIn_app (goodIn_of _ (by decide +kernel)) ggX1_side_X1_stepsBetween
theorem dX1_side_0 : decode cX1_side 0 = .ok (.aload_n 0, 1) := by decide +kernel
theorem dX1_side_1 : decode cX1_side 1 = .ok (.iload_n 1, 1) := by decide +kernel
theorem dX1_side_2 : decode cX1_side 2 = .ok (.invokevirtual 54, 3) := by decide +kernel
theorem dX1_side_5 : decode cX1_side 5 = .ok (.aload_n 0, 1) := by decide +kernel
theorem dX1_side_6 : decode cX1_side 6 = .ok (.iload_n 2, 1) := by decide +kernel
theorem dX1_side_7 : decode cX1_side 7 = .ok (.invokevirtual 54, 3) := by decide +kernel
theorem dX1_side_10 : decode cX1_side 10 = .ok (.iload_n 1, 1) := by decide +kernel
theorem dX1_side_11 : decode cX1_side 11 = .ok (.iload_n 2, 1) := by decide +kernel
theorem dX1_side_12 : decode cX1_side 12 = .ok (.if_icmp .ne 5, 3) := by decide +kernel
theorem dX1_side_15 : decode cX1_side 15 = .ok (.iconst (-1), 1) := by decide +kernel
theorem dX1_side_16 : decode cX1_side 16 = .ok (.ireturn, 1) := by decide +kernel
theorem dX1_side_17 : decode cX1_side 17 = .ok (.iconst (-1), 1) := by decide +kernel
theorem dX1_side_18 : decode cX1_side 18 = .ok (.istore_n 3, 1) := by decide +kernel
theorem dX1_side_19 : decode cX1_side 19 = .ok (.bipush 91, 2) := by decide +kernel
theorem dX1_side_21 : decode cX1_side 21 = .ok (.istore 4, 2) := by decide +kernel
theorem dX1_side_23 : decode cX1_side 23 = .ok (.iconst 0, 1) := by decide +kernel
theorem dX1_side_24 : decode cX1_side 24 = .ok (.istore 5, 2) := by decide +kernel
theorem dX1_side_26 : decode cX1_side 26 = .ok (.iload 5, 2) := by decide +kernel
theorem dX1_side_28 : decode cX1_side 28 = .ok (.bipush 6, 2) := by decide +kernel
theorem dX1_side_30 : decode cX1_side 30 = .ok (.if_icmp .ge 61, 3) := by decide +kernel
theorem dX1_side_33 : decode cX1_side 33 = .ok (.aload_n 0, 1) := by decide +kernel
theorem dX1_side_34 : decode cX1_side 34 = .ok (.aload_n 0, 1) := by decide +kernel
theorem dX1_side_35 : decode cX1_side 35 = .ok (.getfield 16, 3) := by decide +kernel
theorem dX1_side_38 : decode cX1_side 38 = .ok (.iload_n 1, 1) := by decide +kernel
theorem dX1_side_39 : decode cX1_side 39 = .ok (.iload 5, 2) := by decide +kernel
theorem dX1_side_41 : decode cX1_side 41 = .ok (.invokevirtual 132, 3) := by decide +kernel
theorem dX1_side_44 : decode cX1_side 44 = .ok (.istore 6, 2) := by decide +kernel
theorem dX1_side_46 : decode cX1_side 46 = .ok (.iload 6, 2) := by decide +kernel
theorem dX1_side_48 : decode cX1_side 48 = .ok (.iconst (-1), 1) := by decide +kernel
theorem dX1_side_49 : decode cX1_side 49 = .ok (.if_icmp .ne 7, 3) := by decide +kernel
theorem dX1_side_52 : decode cX1_side 52 = .ok (.iconst (-1), 1) := by decide +kernel
theorem dX1_side_53 : decode cX1_side 53 = .ok (.goto 10, 3) := by decide +kernel
theorem dX1_side_56 : decode cX1_side 56 = .ok (.aload_n 0, 1) := by decide +kernel
theorem dX1_side_57 : decode cX1_side 57 = .ok (.iload 6, 2) := by decide +kernel
theorem dX1_side_59 : decode cX1_side 59 = .ok (.iload_n 2, 1) := by decide +kernel
theorem dX1_side_60 : decode cX1_side 60 = .ok (.invokevirtual 129, 3) := by decide +kernel
theorem dX1_side_63 : decode cX1_side 63 = .ok (.istore 7, 2) := by decide +kernel
theorem dX1_side_65 : decode cX1_side 65 = .ok (.iload 7, 2) := by decide +kernel
theorem dX1_side_67 : decode cX1_side 67 = .ok (.iconst (-1), 1) := by decide +kernel
theorem dX1_side_68 : decode cX1_side 68 = .ok (.if_icmp .eq 17, 3) := by decide +kernel
theorem dX1_side_71 : decode cX1_side 71 = .ok (.iload 7, 2) := by decide +kernel
theorem dX1_side_73 : decode cX1_side 73 = .ok (.iload 4, 2) := by decide +kernel
theorem dX1_side_75 : decode cX1_side 75 = .ok (.if_icmp .ge 10, 3) := by decide +kernel
theorem dX1_side_78 : decode cX1_side 78 = .ok (.iload 7, 2) := by decide +kernel
theorem dX1_side_80 : decode cX1_side 80 = .ok (.istore 4, 2) := by decide +kernel
theorem dX1_side_82 : decode cX1_side 82 = .ok (.iload 5, 2) := by decide +kernel
theorem dX1_side_84 : decode cX1_side 84 = .ok (.istore_n 3, 1) := by decide +kernel
theorem dX1_side_85 : decode cX1_side 85 = .ok (.iinc 5 1, 3) := by decide +kernel
theorem dX1_side_88 : decode cX1_side 88 = .ok (.goto (-62), 3) := by decide +kernel
theorem dX1_side_91 : decode cX1_side 91 = .ok (.iload_n 3, 1) := by decide +kernel
theorem dX1_side_92 : decode cX1_side 92 = .ok (.ireturn, 1) := by decide +kernel
set_option maxRecDepth 20000 in
theorem ggX1_reach_X1_needRoom : GoodIn wsX1_reach wsX1_needRoom := goodIn_ca (goodIn_r _ [7, 1, 8, 9, 6, 10, 11, 12, 55, 56, 57, 58, 59, 60, 61, 62, 63, 64, 65] (by decide +kernel) (by decide +kernel)) (goodIn_sub (fun _ h => List.mem_cons_of_mem _ (List.mem_append_left _ (List.mem_append_right _ h))) (by decide +kernel))
set_option maxRecDepth 20000 in
theorem gX1_reach_X1_needRoom : GoodIn wsX1_reach (wsV RX1 54 RX1 yX1_needRoom wsX1_needRoom) := goodIn_app (goodIn_of _ (by decide +kernel)) ggX1_reach_X1_needRoom
set_option maxRecDepth 20000 in
theorem ggX1_reach_X1_needNumber : GoodIn wsX1_reach wsX1_needNumber := goodIn_ca (goodIn_r _ [15, 16, 17] (by decide +kernel) (by decide +kernel)) (goodIn_sub (fun _ h => List.mem_cons_of_mem _ (List.mem_append_right _ h)) (by decide +kernel))
set_option maxRecDepth 20000 in
theorem gX1_reach_X1_needNumber : GoodIn wsX1_reach (va_wsS RX1 46 yX1_needNumber wsX1_needNumber) := goodIn_app (goodIn_of _ (by decide +kernel)) ggX1_reach_X1_needNumber
set_option maxRecDepth 20000 in
theorem ggX1_reach_X1_forgetSteps : GoodIn wsX1_reach wsX1_forgetSteps := goodIn_r _ [21, 2, 22, 23, 24, 25, 55, 56, 57, 58, 59, 60, 61, 62, 63, 64, 65] (by decide +kernel) (by decide +kernel)
set_option maxRecDepth 20000 in
theorem gX1_reach_X1_forgetSteps : GoodIn wsX1_reach (wsV RX1 136 RX1 yX1_forgetSteps wsX1_forgetSteps) := goodIn_app (goodIn_of _ (by decide +kernel)) ggX1_reach_X1_forgetSteps
set_option maxRecDepth 20000 in
theorem ggX1_reach_X1_spreadFrom : GoodIn wsX1_reach wsX1_spreadFrom := goodIn_r _ [29, 2, 30, 31, 32, 33, 34, 6, 35, 36, 37, 38, 39, 40, 41, 42, 43, 44, 45, 46, 47, 48, 49, 50, 51, 52, 53, 1, 54, 55, 56, 57, 58, 59, 60, 61, 62, 63, 64, 65, 66, 67, 68, 69, 70] (by decide +kernel) (by decide +kernel)
set_option maxRecDepth 20000 in
theorem gX1_reach_X1_spreadFrom : GoodIn wsX1_reach (wsV RX1 139 RX1 yX1_spreadFrom wsX1_spreadFrom) := goodIn_app (goodIn_of _ (by decide +kernel)) ggX1_reach_X1_spreadFrom
theorem dX1_reach_0 : decode cX1_reach 0 = .ok (.aload_n 0, 1) := by decide +kernel
theorem dX1_reach_1 : decode cX1_reach 1 = .ok (.iload_n 1, 1) := by decide +kernel
theorem dX1_reach_2 : decode cX1_reach 2 = .ok (.invokevirtual 54, 3) := by decide +kernel
theorem dX1_reach_5 : decode cX1_reach 5 = .ok (.iload_n 2, 1) := by decide +kernel
theorem dX1_reach_6 : decode cX1_reach 6 = .ok (.iconst 0, 1) := by decide +kernel
theorem dX1_reach_7 : decode cX1_reach 7 = .ok (.bipush 99, 2) := by decide +kernel
theorem dX1_reach_9 : decode cX1_reach 9 = .ok (.invokestatic 46, 3) := by decide +kernel
theorem dX1_reach_12 : decode cX1_reach 12 = .ok (.aload_n 0, 1) := by decide +kernel
theorem dX1_reach_13 : decode cX1_reach 13 = .ok (.invokevirtual 136, 3) := by decide +kernel
theorem dX1_reach_16 : decode cX1_reach 16 = .ok (.aload_n 0, 1) := by decide +kernel
theorem dX1_reach_17 : decode cX1_reach 17 = .ok (.iload_n 1, 1) := by decide +kernel
theorem dX1_reach_18 : decode cX1_reach 18 = .ok (.invokevirtual 139, 3) := by decide +kernel
theorem dX1_reach_21 : decode cX1_reach 21 = .ok (.iconst 0, 1) := by decide +kernel
theorem dX1_reach_22 : decode cX1_reach 22 = .ok (.istore_n 3, 1) := by decide +kernel
theorem dX1_reach_23 : decode cX1_reach 23 = .ok (.iconst 0, 1) := by decide +kernel
theorem dX1_reach_24 : decode cX1_reach 24 = .ok (.istore 4, 2) := by decide +kernel
theorem dX1_reach_26 : decode cX1_reach 26 = .ok (.iload 4, 2) := by decide +kernel
theorem dX1_reach_28 : decode cX1_reach 28 = .ok (.aload_n 0, 1) := by decide +kernel
theorem dX1_reach_29 : decode cX1_reach 29 = .ok (.getfield 50, 3) := by decide +kernel
theorem dX1_reach_32 : decode cX1_reach 32 = .ok (.if_icmp .ge 34, 3) := by decide +kernel
theorem dX1_reach_35 : decode cX1_reach 35 = .ok (.aload_n 0, 1) := by decide +kernel
theorem dX1_reach_36 : decode cX1_reach 36 = .ok (.getfield 36, 3) := by decide +kernel
theorem dX1_reach_39 : decode cX1_reach 39 = .ok (.iload 4, 2) := by decide +kernel
theorem dX1_reach_41 : decode cX1_reach 41 = .ok (.iaload, 1) := by decide +kernel
theorem dX1_reach_42 : decode cX1_reach 42 = .ok (.iconst (-1), 1) := by decide +kernel
theorem dX1_reach_43 : decode cX1_reach 43 = .ok (.if_icmp .eq 17, 3) := by decide +kernel
theorem dX1_reach_46 : decode cX1_reach 46 = .ok (.aload_n 0, 1) := by decide +kernel
theorem dX1_reach_47 : decode cX1_reach 47 = .ok (.getfield 36, 3) := by decide +kernel
theorem dX1_reach_50 : decode cX1_reach 50 = .ok (.iload 4, 2) := by decide +kernel
theorem dX1_reach_52 : decode cX1_reach 52 = .ok (.iaload, 1) := by decide +kernel
theorem dX1_reach_53 : decode cX1_reach 53 = .ok (.iload_n 2, 1) := by decide +kernel
theorem dX1_reach_54 : decode cX1_reach 54 = .ok (.if_icmp .gt 6, 3) := by decide +kernel
theorem dX1_reach_57 : decode cX1_reach 57 = .ok (.iinc 3 1, 3) := by decide +kernel
theorem dX1_reach_60 : decode cX1_reach 60 = .ok (.iinc 4 1, 3) := by decide +kernel
theorem dX1_reach_63 : decode cX1_reach 63 = .ok (.goto (-37), 3) := by decide +kernel
theorem dX1_reach_66 : decode cX1_reach 66 = .ok (.iload_n 3, 1) := by decide +kernel
theorem dX1_reach_67 : decode cX1_reach 67 = .ok (.ireturn, 1) := by decide +kernel
set_option maxRecDepth 20000 in
theorem ggX1_ring_X1_needRing : GoodIn wsX1_ring wsX1_needRing := goodIn_ca (goodIn_r _ [6, 7, 8, 9, 5, 10, 11, 12, 28, 29, 30, 31, 32, 33, 34, 35, 36, 37, 38] (by decide +kernel) (by decide +kernel)) (goodIn_sub (fun _ h => List.mem_cons_of_mem _ (List.mem_append_right _ h)) (by decide +kernel))
set_option maxRecDepth 20000 in
theorem gX1_ring_X1_needRing : GoodIn wsX1_ring (wsV RX1 76 RX1 yX1_needRing wsX1_needRing) := goodIn_app (goodIn_of _ (by decide +kernel)) ggX1_ring_X1_needRing
set_option maxRecDepth 20000 in
theorem ggX1_ring_X1_needIndex : GoodIn wsX1_ring wsX1_needIndex := goodIn_ca (goodIn_r _ [10, 11, 12] (by decide +kernel) (by decide +kernel)) (goodIn_sub (fun _ h => List.mem_cons_of_mem _ (List.mem_append_right _ h)) (by decide +kernel))
set_option maxRecDepth 20000 in
theorem gX1_ring_X1_needIndex : GoodIn wsX1_ring (va_wsS RX1 57 yX1_needIndex wsX1_needIndex) := goodIn_app (goodIn_of _ (by decide +kernel)) ggX1_ring_X1_needIndex
set_option maxRecDepth 20000 in
theorem ggX1_ring_X0_firstRoomOf : GoodIn wsX1_ring wsX0_firstRoomOf := goodIn_r _ [16] (by decide +kernel) (by decide +kernel)
set_option maxRecDepth 20000 in
theorem gX1_ring_X0_firstRoomOf : GoodIn wsX1_ring (va_wsS RX1 83 yX0_firstRoomOf wsX0_firstRoomOf) := goodIn_app (goodIn_of _ (by decide +kernel)) ggX1_ring_X0_firstRoomOf
set_option maxRecDepth 20000 in
theorem ggX1_ring_X0_sizeOf : GoodIn wsX1_ring wsX0_sizeOf := goodIn_r _ [19] (by decide +kernel) (by decide +kernel)
set_option maxRecDepth 20000 in
theorem gX1_ring_X0_sizeOf : GoodIn wsX1_ring (va_wsS RX1 86 yX0_sizeOf wsX0_sizeOf) := goodIn_app (goodIn_of _ (by decide +kernel)) ggX1_ring_X0_sizeOf
set_option maxRecDepth 20000 in
theorem ggX1_ring_X1_standing : GoodIn wsX1_ring wsX1_standing := goodIn_r _ [23, 24, 28, 29, 30, 31, 32, 33, 34, 35, 36, 37, 38] (by decide +kernel) (by decide +kernel)
set_option maxRecDepth 20000 in
theorem gX1_ring_X1_standing : GoodIn wsX1_ring (wsV RX1 142 RX1 yX1_standing wsX1_standing) := goodIn_app (goodIn_of _ (by decide +kernel)) ggX1_ring_X1_standing
set_option maxRecDepth 20000 in
theorem ggX1_ring_X1_litAmong : GoodIn wsX1_ring wsX1_litAmong := goodIn_r _ [27] (by decide +kernel) (by decide +kernel)
set_option maxRecDepth 20000 in
theorem gX1_ring_X1_litAmong : GoodIn wsX1_ring (va_wsS RX1 146 yX1_litAmong wsX1_litAmong) := goodIn_app (goodIn_of _ (by decide +kernel)) ggX1_ring_X1_litAmong
theorem dX1_ring_0 : decode cX1_ring 0 = .ok (.aload_n 0, 1) := by decide +kernel
theorem dX1_ring_1 : decode cX1_ring 1 = .ok (.iload_n 1, 1) := by decide +kernel
theorem dX1_ring_2 : decode cX1_ring 2 = .ok (.invokevirtual 76, 3) := by decide +kernel
theorem dX1_ring_5 : decode cX1_ring 5 = .ok (.iload_n 2, 1) := by decide +kernel
theorem dX1_ring_6 : decode cX1_ring 6 = .ok (.iconst 4, 1) := by decide +kernel
theorem dX1_ring_7 : decode cX1_ring 7 = .ok (.invokestatic 57, 3) := by decide +kernel
theorem dX1_ring_10 : decode cX1_ring 10 = .ok (.iload_n 1, 1) := by decide +kernel
theorem dX1_ring_11 : decode cX1_ring 11 = .ok (.invokestatic 83, 3) := by decide +kernel
theorem dX1_ring_14 : decode cX1_ring 14 = .ok (.istore_n 3, 1) := by decide +kernel
theorem dX1_ring_15 : decode cX1_ring 15 = .ok (.iload_n 3, 1) := by decide +kernel
theorem dX1_ring_16 : decode cX1_ring 16 = .ok (.iload_n 1, 1) := by decide +kernel
theorem dX1_ring_17 : decode cX1_ring 17 = .ok (.invokestatic 86, 3) := by decide +kernel
theorem dX1_ring_20 : decode cX1_ring 20 = .ok (.iadd, 1) := by decide +kernel
theorem dX1_ring_21 : decode cX1_ring 21 = .ok (.istore 4, 2) := by decide +kernel
theorem dX1_ring_23 : decode cX1_ring 23 = .ok (.iload_n 2, 1) := by decide +kernel
theorem dX1_ring_24 : decode cX1_ring 24 = .ok (.tableswitch 51 0 2 #[28, 33, 42], 28) := by decide +kernel
theorem dX1_ring_52 : decode cX1_ring 52 = .ok (.iload 4, 2) := by decide +kernel
theorem dX1_ring_54 : decode cX1_ring 54 = .ok (.iload_n 3, 1) := by decide +kernel
theorem dX1_ring_55 : decode cX1_ring 55 = .ok (.isub, 1) := by decide +kernel
theorem dX1_ring_56 : decode cX1_ring 56 = .ok (.ireturn, 1) := by decide +kernel
theorem dX1_ring_57 : decode cX1_ring 57 = .ok (.aload_n 0, 1) := by decide +kernel
theorem dX1_ring_58 : decode cX1_ring 58 = .ok (.iconst 1, 1) := by decide +kernel
theorem dX1_ring_59 : decode cX1_ring 59 = .ok (.iload_n 3, 1) := by decide +kernel
theorem dX1_ring_60 : decode cX1_ring 60 = .ok (.iload 4, 2) := by decide +kernel
theorem dX1_ring_62 : decode cX1_ring 62 = .ok (.invokevirtual 142, 3) := by decide +kernel
theorem dX1_ring_65 : decode cX1_ring 65 = .ok (.ireturn, 1) := by decide +kernel
theorem dX1_ring_66 : decode cX1_ring 66 = .ok (.aload_n 0, 1) := by decide +kernel
theorem dX1_ring_67 : decode cX1_ring 67 = .ok (.iconst 2, 1) := by decide +kernel
theorem dX1_ring_68 : decode cX1_ring 68 = .ok (.iload_n 3, 1) := by decide +kernel
theorem dX1_ring_69 : decode cX1_ring 69 = .ok (.iload 4, 2) := by decide +kernel
theorem dX1_ring_71 : decode cX1_ring 71 = .ok (.invokevirtual 142, 3) := by decide +kernel
theorem dX1_ring_74 : decode cX1_ring 74 = .ok (.ireturn, 1) := by decide +kernel
theorem dX1_ring_75 : decode cX1_ring 75 = .ok (.aload_n 0, 1) := by decide +kernel
theorem dX1_ring_76 : decode cX1_ring 76 = .ok (.getfield 24, 3) := by decide +kernel
theorem dX1_ring_79 : decode cX1_ring 79 = .ok (.iload_n 3, 1) := by decide +kernel
theorem dX1_ring_80 : decode cX1_ring 80 = .ok (.iload 4, 2) := by decide +kernel
theorem dX1_ring_82 : decode cX1_ring 82 = .ok (.invokestatic 146, 3) := by decide +kernel
theorem dX1_ring_85 : decode cX1_ring 85 = .ok (.ireturn, 1) := by decide +kernel
set_option maxRecDepth 20000 in
theorem ggX1_count_X1_needIndex : GoodIn wsX1_count wsX1_needIndex := goodIn_ca (goodIn_r _ [7, 8, 9] (by decide +kernel) (by decide +kernel)) (goodIn_sub (fun _ h => List.mem_cons_of_mem _ (List.mem_append_right _ h)) (by decide +kernel))
set_option maxRecDepth 20000 in
theorem gX1_count_X1_needIndex : GoodIn wsX1_count (va_wsS RX1 57 yX1_needIndex wsX1_needIndex) := goodIn_app (goodIn_of _ (by decide +kernel)) ggX1_count_X1_needIndex
set_option maxRecDepth 20000 in
theorem ggX1_count_X1_standing : GoodIn wsX1_count wsX1_standing := goodIn_r _ [13, 14, 63, 64, 65, 66, 67, 68, 69, 70, 71, 72, 73] (by decide +kernel) (by decide +kernel)
set_option maxRecDepth 20000 in
theorem gX1_count_X1_standing : GoodIn wsX1_count (wsV RX1 142 RX1 yX1_standing wsX1_standing) := goodIn_app (goodIn_of _ (by decide +kernel)) ggX1_count_X1_standing
set_option maxRecDepth 20000 in
theorem ggX1_count_X1_doorsShut : GoodIn wsX1_count wsX1_doorsShut := goodIn_r _ [18, 1, 19, 20, 21, 6, 22, 63, 64, 65, 66, 67, 68, 69, 70, 71, 72, 73] (by decide +kernel) (by decide +kernel)
set_option maxRecDepth 20000 in
theorem gX1_count_X1_doorsShut : GoodIn wsX1_count (wsV RX1 152 RX1 yX1_doorsShut wsX1_doorsShut) := goodIn_app (goodIn_of _ (by decide +kernel)) ggX1_count_X1_doorsShut
set_option maxRecDepth 20000 in
theorem ggX1_count_X1_litAmong : GoodIn wsX1_count wsX1_litAmong := goodIn_r _ [25] (by decide +kernel) (by decide +kernel)
set_option maxRecDepth 20000 in
theorem gX1_count_X1_litAmong : GoodIn wsX1_count (va_wsS RX1 146 yX1_litAmong wsX1_litAmong) := goodIn_app (goodIn_of _ (by decide +kernel)) ggX1_count_X1_litAmong
set_option maxRecDepth 20000 in
theorem ggX1_count_X1_parts : GoodIn wsX1_count wsX1_parts := goodIn_r _ [29, 1, 14, 30, 31, 32, 33, 6, 34, 35, 36, 37, 38, 39, 40, 41, 42, 43, 44, 45, 46, 47, 19, 48, 49, 50, 51, 52, 53, 54, 55, 56, 57, 58, 21, 22, 59, 60, 61, 62, 20, 63, 64, 65, 66, 67, 68, 69, 70, 71, 72, 73, 74, 75, 76, 77, 78] (by decide +kernel) (by decide +kernel)
set_option maxRecDepth 20000 in
theorem gX1_count_X1_parts : GoodIn wsX1_count (wsV RX1 155 RX1 yX1_parts wsX1_parts) := goodIn_app (goodIn_of _ (by decide +kernel)) ggX1_count_X1_parts
theorem dX1_count_0 : decode cX1_count 0 = .ok (.iload_n 1, 1) := by decide +kernel
theorem dX1_count_1 : decode cX1_count 1 = .ok (.bipush 7, 2) := by decide +kernel
theorem dX1_count_3 : decode cX1_count 3 = .ok (.invokestatic 57, 3) := by decide +kernel
theorem dX1_count_6 : decode cX1_count 6 = .ok (.iload_n 1, 1) := by decide +kernel
theorem dX1_count_7 : decode cX1_count 7 = .ok (.tableswitch 87 0 5 #[37, 42, 47, 58, 69, 74], 37) := by decide +kernel
theorem dX1_count_44 : decode cX1_count 44 = .ok (.aload_n 0, 1) := by decide +kernel
theorem dX1_count_45 : decode cX1_count 45 = .ok (.getfield 50, 3) := by decide +kernel
theorem dX1_count_48 : decode cX1_count 48 = .ok (.ireturn, 1) := by decide +kernel
theorem dX1_count_49 : decode cX1_count 49 = .ok (.aload_n 0, 1) := by decide +kernel
theorem dX1_count_50 : decode cX1_count 50 = .ok (.getfield 149, 3) := by decide +kernel
theorem dX1_count_53 : decode cX1_count 53 = .ok (.ireturn, 1) := by decide +kernel
theorem dX1_count_54 : decode cX1_count 54 = .ok (.aload_n 0, 1) := by decide +kernel
theorem dX1_count_55 : decode cX1_count 55 = .ok (.iconst 1, 1) := by decide +kernel
theorem dX1_count_56 : decode cX1_count 56 = .ok (.iconst 0, 1) := by decide +kernel
theorem dX1_count_57 : decode cX1_count 57 = .ok (.aload_n 0, 1) := by decide +kernel
theorem dX1_count_58 : decode cX1_count 58 = .ok (.getfield 50, 3) := by decide +kernel
theorem dX1_count_61 : decode cX1_count 61 = .ok (.invokevirtual 142, 3) := by decide +kernel
theorem dX1_count_64 : decode cX1_count 64 = .ok (.ireturn, 1) := by decide +kernel
theorem dX1_count_65 : decode cX1_count 65 = .ok (.aload_n 0, 1) := by decide +kernel
theorem dX1_count_66 : decode cX1_count 66 = .ok (.iconst 2, 1) := by decide +kernel
theorem dX1_count_67 : decode cX1_count 67 = .ok (.iconst 0, 1) := by decide +kernel
theorem dX1_count_68 : decode cX1_count 68 = .ok (.aload_n 0, 1) := by decide +kernel
theorem dX1_count_69 : decode cX1_count 69 = .ok (.getfield 50, 3) := by decide +kernel
theorem dX1_count_72 : decode cX1_count 72 = .ok (.invokevirtual 142, 3) := by decide +kernel
theorem dX1_count_75 : decode cX1_count 75 = .ok (.ireturn, 1) := by decide +kernel
theorem dX1_count_76 : decode cX1_count 76 = .ok (.aload_n 0, 1) := by decide +kernel
theorem dX1_count_77 : decode cX1_count 77 = .ok (.invokevirtual 152, 3) := by decide +kernel
theorem dX1_count_80 : decode cX1_count 80 = .ok (.ireturn, 1) := by decide +kernel
theorem dX1_count_81 : decode cX1_count 81 = .ok (.aload_n 0, 1) := by decide +kernel
theorem dX1_count_82 : decode cX1_count 82 = .ok (.getfield 24, 3) := by decide +kernel
theorem dX1_count_85 : decode cX1_count 85 = .ok (.iconst 0, 1) := by decide +kernel
theorem dX1_count_86 : decode cX1_count 86 = .ok (.aload_n 0, 1) := by decide +kernel
theorem dX1_count_87 : decode cX1_count 87 = .ok (.getfield 50, 3) := by decide +kernel
theorem dX1_count_90 : decode cX1_count 90 = .ok (.invokestatic 146, 3) := by decide +kernel
theorem dX1_count_93 : decode cX1_count 93 = .ok (.ireturn, 1) := by decide +kernel
theorem dX1_count_94 : decode cX1_count 94 = .ok (.aload_n 0, 1) := by decide +kernel
theorem dX1_count_95 : decode cX1_count 95 = .ok (.invokevirtual 155, 3) := by decide +kernel
theorem dX1_count_98 : decode cX1_count 98 = .ok (.ireturn, 1) := by decide +kernel
set_option maxRecDepth 20000 in
theorem ggX1_sixthsToSame_X1_turnAllInto : GoodIn wsX1_sixthsToSame wsX1_turnAllInto := goodIn_r _ [6, 7, 8, 9, 10, 5, 11, 12, 13, 14, 15, 16, 17, 18, 19, 25, 26, 27, 28, 29, 30, 31, 32, 33, 34, 35] (by decide +kernel) (by decide +kernel)
set_option maxRecDepth 20000 in
theorem gX1_sixthsToSame_X1_turnAllInto : GoodIn wsX1_sixthsToSame (wsV RX1 95 RX1 yX1_turnAllInto wsX1_turnAllInto) := goodIn_app (goodIn_of _ (by decide +kernel)) ggX1_sixthsToSame_X1_turnAllInto
set_option maxRecDepth 20000 in
theorem ggX1_sixthsToSame_X1_isTrialAsNow : GoodIn wsX1_sixthsToSame wsX1_isTrialAsNow := goodIn_r _ [23, 24, 1, 12, 25, 26, 27, 28, 29, 30, 31, 32, 33, 34, 35] (by decide +kernel) (by decide +kernel)
set_option maxRecDepth 20000 in
theorem gX1_sixthsToSame_X1_isTrialAsNow : GoodIn wsX1_sixthsToSame (wsV RX1 158 RX1 yX1_isTrialAsNow wsX1_isTrialAsNow) := goodIn_app (goodIn_of _ (by decide +kernel)) ggX1_sixthsToSame_X1_isTrialAsNow
theorem dX1_sixthsToSame_0 : decode cX1_sixthsToSame 0 = .ok (.iconst 1, 1) := by decide +kernel
theorem dX1_sixthsToSame_1 : decode cX1_sixthsToSame 1 = .ok (.istore_n 1, 1) := by decide +kernel
theorem dX1_sixthsToSame_2 : decode cX1_sixthsToSame 2 = .ok (.iload_n 1, 1) := by decide +kernel
theorem dX1_sixthsToSame_3 : decode cX1_sixthsToSame 3 = .ok (.bipush 6, 2) := by decide +kernel
theorem dX1_sixthsToSame_5 : decode cX1_sixthsToSame 5 = .ok (.if_icmp .ge 27, 3) := by decide +kernel
theorem dX1_sixthsToSame_8 : decode cX1_sixthsToSame 8 = .ok (.aload_n 0, 1) := by decide +kernel
theorem dX1_sixthsToSame_9 : decode cX1_sixthsToSame 9 = .ok (.iload_n 1, 1) := by decide +kernel
theorem dX1_sixthsToSame_10 : decode cX1_sixthsToSame 10 = .ok (.aload_n 0, 1) := by decide +kernel
theorem dX1_sixthsToSame_11 : decode cX1_sixthsToSame 11 = .ok (.getfield 27, 3) := by decide +kernel
theorem dX1_sixthsToSame_14 : decode cX1_sixthsToSame 14 = .ok (.invokevirtual 95, 3) := by decide +kernel
theorem dX1_sixthsToSame_17 : decode cX1_sixthsToSame 17 = .ok (.aload_n 0, 1) := by decide +kernel
theorem dX1_sixthsToSame_18 : decode cX1_sixthsToSame 18 = .ok (.invokevirtual 158, 3) := by decide +kernel
theorem dX1_sixthsToSame_21 : decode cX1_sixthsToSame 21 = .ok (.ifCond .eq 5, 3) := by decide +kernel
theorem dX1_sixthsToSame_24 : decode cX1_sixthsToSame 24 = .ok (.iload_n 1, 1) := by decide +kernel
theorem dX1_sixthsToSame_25 : decode cX1_sixthsToSame 25 = .ok (.ireturn, 1) := by decide +kernel
theorem dX1_sixthsToSame_26 : decode cX1_sixthsToSame 26 = .ok (.iinc 1 1, 3) := by decide +kernel
theorem dX1_sixthsToSame_29 : decode cX1_sixthsToSame 29 = .ok (.goto (-27), 3) := by decide +kernel
theorem dX1_sixthsToSame_32 : decode cX1_sixthsToSame 32 = .ok (.bipush 6, 2) := by decide +kernel
theorem dX1_sixthsToSame_34 : decode cX1_sixthsToSame 34 = .ok (.ireturn, 1) := by decide +kernel
set_option maxRecDepth 20000 in
theorem ggX1_would_X1_needRing : GoodIn wsX1_would wsX1_needRing := goodIn_ca (goodIn_r _ [5, 6, 7, 8, 4, 9, 10, 11, 78, 79, 80, 81, 82, 83, 84, 85, 86, 87, 88] (by decide +kernel) (by decide +kernel)) (goodIn_sub (fun _ h => List.mem_cons_of_mem _ (List.mem_append_left _ (List.mem_append_right _ h))) (by decide +kernel))
set_option maxRecDepth 20000 in
theorem gX1_would_X1_needRing : GoodIn wsX1_would (wsV RX1 76 RX1 yX1_needRing wsX1_needRing) := goodIn_app (goodIn_of _ (by decide +kernel)) ggX1_would_X1_needRing
set_option maxRecDepth 20000 in
theorem ggX1_would_X0_sizeOf : GoodIn wsX1_would wsX0_sizeOf := goodIn_r _ [15] (by decide +kernel) (by decide +kernel)
set_option maxRecDepth 20000 in
theorem gX1_would_X0_sizeOf : GoodIn wsX1_would (va_wsS RX1 86 yX0_sizeOf wsX0_sizeOf) := goodIn_app (goodIn_of _ (by decide +kernel)) ggX1_would_X0_sizeOf
set_option maxRecDepth 20000 in
theorem ggX1_would_X1_needNumber : GoodIn wsX1_would wsX1_needNumber := goodIn_ca (goodIn_r _ [18, 19, 20] (by decide +kernel) (by decide +kernel)) (goodIn_sub (fun _ h => List.mem_cons_of_mem _ (List.mem_append_right _ h)) (by decide +kernel))
set_option maxRecDepth 20000 in
theorem gX1_would_X1_needNumber : GoodIn wsX1_would (va_wsS RX1 46 yX1_needNumber wsX1_needNumber) := goodIn_app (goodIn_of _ (by decide +kernel)) ggX1_would_X1_needNumber
set_option maxRecDepth 20000 in
theorem ggX1_would_X1_litAfterTurn : GoodIn wsX1_would wsX1_litAfterTurn := goodIn_r _ [24, 25, 26, 27, 28, 29, 30, 31, 32, 33, 34, 35, 4, 36, 37, 38, 14, 39, 12, 13, 15, 40, 41, 42, 43, 44, 45, 46, 47, 48, 49, 50, 51, 52, 53, 54, 55, 56, 57, 58, 59, 60, 61, 62, 63, 64, 65, 66, 67, 68, 69, 70, 71, 72, 73, 74, 75, 76, 77, 78, 79, 80, 81, 82, 83, 84, 85, 86, 87, 88, 89, 90, 91, 92, 93] (by decide +kernel) (by decide +kernel)
set_option maxRecDepth 20000 in
theorem gX1_would_X1_litAfterTurn : GoodIn wsX1_would (wsV RX1 162 RX1 yX1_litAfterTurn wsX1_litAfterTurn) := goodIn_app (goodIn_of _ (by decide +kernel)) ggX1_would_X1_litAfterTurn
theorem dX1_would_0 : decode cX1_would 0 = .ok (.aload_n 0, 1) := by decide +kernel
theorem dX1_would_1 : decode cX1_would 1 = .ok (.iload_n 1, 1) := by decide +kernel
theorem dX1_would_2 : decode cX1_would 2 = .ok (.invokevirtual 76, 3) := by decide +kernel
theorem dX1_would_5 : decode cX1_would 5 = .ok (.iload_n 2, 1) := by decide +kernel
theorem dX1_would_6 : decode cX1_would 6 = .ok (.iconst 0, 1) := by decide +kernel
theorem dX1_would_7 : decode cX1_would 7 = .ok (.iload_n 1, 1) := by decide +kernel
theorem dX1_would_8 : decode cX1_would 8 = .ok (.invokestatic 86, 3) := by decide +kernel
theorem dX1_would_11 : decode cX1_would 11 = .ok (.iconst 1, 1) := by decide +kernel
theorem dX1_would_12 : decode cX1_would 12 = .ok (.isub, 1) := by decide +kernel
theorem dX1_would_13 : decode cX1_would 13 = .ok (.invokestatic 46, 3) := by decide +kernel
theorem dX1_would_16 : decode cX1_would 16 = .ok (.aload_n 0, 1) := by decide +kernel
theorem dX1_would_17 : decode cX1_would 17 = .ok (.iload_n 1, 1) := by decide +kernel
theorem dX1_would_18 : decode cX1_would 18 = .ok (.iload_n 2, 1) := by decide +kernel
theorem dX1_would_19 : decode cX1_would 19 = .ok (.invokevirtual 162, 3) := by decide +kernel
theorem dX1_would_22 : decode cX1_would 22 = .ok (.ireturn, 1) := by decide +kernel
set_option maxRecDepth 20000 in
theorem ggX1_advise_X1_needRing : GoodIn wsX1_advise wsX1_needRing := goodIn_ca (goodIn_r _ [5, 6, 7, 8, 4, 9, 10, 11, 73, 74, 75, 76, 77, 78, 79, 80, 81, 82, 83] (by decide +kernel) (by decide +kernel)) (goodIn_sub (fun _ h => List.mem_cons_of_mem _ (List.mem_append_right _ h)) (by decide +kernel))
set_option maxRecDepth 20000 in
theorem gX1_advise_X1_needRing : GoodIn wsX1_advise (wsV RX1 76 RX1 yX1_needRing wsX1_needRing) := goodIn_app (goodIn_of _ (by decide +kernel)) ggX1_advise_X1_needRing
set_option maxRecDepth 20000 in
theorem ggX1_advise_X0_sizeOf : GoodIn wsX1_advise wsX0_sizeOf := goodIn_r _ [15] (by decide +kernel) (by decide +kernel)
set_option maxRecDepth 20000 in
theorem gX1_advise_X0_sizeOf : GoodIn wsX1_advise (va_wsS RX1 86 yX0_sizeOf wsX0_sizeOf) := goodIn_app (goodIn_of _ (by decide +kernel)) ggX1_advise_X0_sizeOf
set_option maxRecDepth 20000 in
theorem ggX1_advise_X1_litAfterTurn : GoodIn wsX1_advise wsX1_litAfterTurn := goodIn_r _ [19, 20, 21, 22, 23, 24, 25, 26, 27, 28, 29, 30, 4, 31, 32, 33, 14, 34, 12, 13, 15, 35, 36, 37, 38, 39, 40, 41, 42, 43, 44, 45, 46, 47, 48, 49, 50, 51, 52, 53, 54, 55, 56, 57, 58, 59, 60, 61, 62, 63, 64, 65, 66, 67, 68, 69, 70, 71, 72, 73, 74, 75, 76, 77, 78, 79, 80, 81, 82, 83, 84, 85, 86, 87, 88] (by decide +kernel) (by decide +kernel)
set_option maxRecDepth 20000 in
theorem gX1_advise_X1_litAfterTurn : GoodIn wsX1_advise (wsV RX1 162 RX1 yX1_litAfterTurn wsX1_litAfterTurn) := goodIn_app (goodIn_of _ (by decide +kernel)) ggX1_advise_X1_litAfterTurn
theorem dX1_advise_0 : decode cX1_advise 0 = .ok (.aload_n 0, 1) := by decide +kernel
theorem dX1_advise_1 : decode cX1_advise 1 = .ok (.iload_n 1, 1) := by decide +kernel
theorem dX1_advise_2 : decode cX1_advise 2 = .ok (.invokevirtual 76, 3) := by decide +kernel
theorem dX1_advise_5 : decode cX1_advise 5 = .ok (.iconst 0, 1) := by decide +kernel
theorem dX1_advise_6 : decode cX1_advise 6 = .ok (.istore_n 2, 1) := by decide +kernel
