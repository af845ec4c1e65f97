set_option maxHeartbeats 4000000 in
set_option maxRecDepth 100000 in
theorem c_X1_doorOf (l : Launch) (K : KK) (ws : va_W) (r t : Int) : hMI l yX1_doorOf wsX1_doorOf (rmL 0) K [.int (iI r), .int (iI t)] ws (fun z w => z = r * 6 + t ∧ w = ws) := by
  refine in_MI (cc := cX1_doorOf) (maxL := 2) (rt := (some .int)) (lv := [(0, .int (iI r)), (1, .int (iI t))]) (by decide) rfl (Nat.le_of_ble_eq_true rfl) rfl ?_
  intro p e s m args below meth c A C
  refine g_iload_n (pc := 0) C dX1_doorOf_0 rfl rfl ?_
  refine g_bipush (pc := 1) C dX1_doorOf_1 (by decide +kernel) ?_
  refine g_imul (pc := 3) C dX1_doorOf_3 ?_
  refine g_iload_n (pc := 4) C dX1_doorOf_4 rfl rfl ?_
  refine g_iadd (pc := 5) C dX1_doorOf_5 ?_
  exact g_ireturn (pc := 6) C rfl dX1_doorOf_6 ⟨by omega, rfl⟩

set_option maxHeartbeats 4000000 in
set_option maxRecDepth 100000 in
theorem c_X1_opposite (l : Launch) (K : KK) (ws : va_W) (t : Int) (ht : 0 ≤ t ∧ t < 6) : hMI l yX1_opposite wsX1_opposite (rmL 0) K [.int (iI t)] ws (fun z w => z = (t + 3) % 6 ∧ w = ws) := by
  refine in_MI (cc := cX1_opposite) (maxL := 1) (rt := (some .int)) (lv := [(0, .int (iI t))]) (by decide) rfl (Nat.le_of_ble_eq_true rfl) rfl ?_
  intro p e s m args below meth c A C
  refine g_iload_n (pc := 0) C dX1_opposite_0 rfl rfl ?_
  refine g_iconst (pc := 1) C dX1_opposite_1 ?_
  refine g_iadd (pc := 2) C dX1_opposite_2 ?_
  refine g_bipush (pc := 3) C dX1_opposite_3 (by decide +kernel) ?_
  refine g_irem (pc := 5) C dX1_opposite_5 (by omega) (by omega) ?_
  exact g_ireturn (pc := 6) C rfl dX1_opposite_6 ⟨by omega, rfl⟩

set_option maxHeartbeats 4000000 in
set_option maxRecDepth 100000 in
theorem c_X0_cellOf (l : Launch) (K : KK) (ws : va_W) (x y : Int) : hMI l yX0_cellOf wsX0_cellOf (rmL 0) K [.int (iI x), .int (iI y)] ws (fun z w => z = (y + 5) * 11 + x + 5 ∧ w = ws) := by
  refine in_MI (cc := cX0_cellOf) (maxL := 2) (rt := (some .int)) (lv := [(0, .int (iI x)), (1, .int (iI y))]) (by decide) rfl (Nat.le_of_ble_eq_true rfl) rfl ?_
  intro p e s m args below meth c A C
  refine g_iload_n (pc := 0) C dX0_cellOf_0 rfl rfl ?_
  refine g_iconst (pc := 1) C dX0_cellOf_1 ?_
  refine g_iadd (pc := 2) C dX0_cellOf_2 ?_
  refine g_bipush (pc := 3) C dX0_cellOf_3 (by decide +kernel) ?_
  refine g_imul (pc := 5) C dX0_cellOf_5 ?_
  refine g_iload_n (pc := 6) C dX0_cellOf_6 rfl rfl ?_
  refine g_iadd (pc := 7) C dX0_cellOf_7 ?_
  refine g_iconst (pc := 8) C dX0_cellOf_8 ?_
  refine g_iadd (pc := 9) C dX0_cellOf_9 ?_
  exact g_ireturn (pc := 10) C rfl dX0_cellOf_10 ⟨by omega, rfl⟩

set_option maxHeartbeats 4000000 in
set_option maxRecDepth 100000 in
theorem c_X0_isOnPlan (l : Launch) (K : KK) (ws : va_W) (x : Int) (hx : -2147483648 ≤ x ∧ x < 2147483648) : hMI l yX0_isOnPlan wsX0_isOnPlan (rmL 0) K [.int (iI x)] ws (fun z w => z = (if -5 ≤ x ∧ x ≤ 5 then 1 else 0) ∧ w = ws) := by
  refine in_MI (cc := cX0_isOnPlan) (maxL := 1) (rt := (some .boolean)) (lv := [(0, .int (iI x))]) (by decide) rfl (Nat.le_of_ble_eq_true rfl) rfl ?_
  intro p e s m args below meth c A C
  refine g_iload_n (pc := 0) C dX0_isOnPlan_0 rfl rfl ?_
  refine g_bipush (pc := 1) C dX0_isOnPlan_1 (by decide +kernel) ?_
  refine g_icmp_lt (pc := 3) (tgt := 15) C dX0_isOnPlan_3 (by decide) (by omega) (by omega) (fun c1 => ?_) (fun c1 => ?_)
  · refine g_iconst (pc := 15) C dX0_isOnPlan_15 ?_
    exact g_zreturn (pc := 16) C rfl (by omega) dX0_isOnPlan_16 ⟨by split <;> omega, rfl⟩
  · refine g_iload_n (pc := 6) C dX0_isOnPlan_6 rfl rfl ?_
    refine g_iconst (pc := 7) C dX0_isOnPlan_7 ?_
    refine g_icmp_gt (pc := 8) (tgt := 15) C dX0_isOnPlan_8 (by decide) (by omega) (by omega) (fun c2 => ?_) (fun c2 => ?_)
    · refine g_iconst (pc := 15) C dX0_isOnPlan_15 ?_
      exact g_zreturn (pc := 16) C rfl (by omega) dX0_isOnPlan_16 ⟨by split <;> omega, rfl⟩
    · refine g_iconst (pc := 11) C dX0_isOnPlan_11 ?_
      refine g_goto (pc := 12) (tgt := 16) C dX0_isOnPlan_12 (by decide) ?_
      exact g_zreturn (pc := 16) C rfl (by omega) dX0_isOnPlan_16 ⟨by split <;> omega, rfl⟩

set_option maxHeartbeats 4000000 in
set_option maxRecDepth 100000 in
theorem c_X0_firstRoomOf (l : Launch) (K : KK) (ws : va_W) (k : Int) (hk : -1000 ≤ k ∧ k < 1000) : hMI l yX0_firstRoomOf wsX0_firstRoomOf (rmL 0) K [.int (iI k)] ws (fun z w => z = FR k ∧ w = ws) := by
  refine in_MI (cc := cX0_firstRoomOf) (maxL := 1) (rt := (some .int)) (lv := [(0, .int (iI k))]) (by decide) rfl (Nat.le_of_ble_eq_true rfl) rfl ?_
  intro p e s m args below meth c A C
  refine g_iload_n (pc := 0) C dX0_firstRoomOf_0 rfl rfl ?_
  refine g_iconst (pc := 1) C dX0_firstRoomOf_1 ?_
  refine g_icmp_ge (pc := 2) (tgt := 9) C dX0_firstRoomOf_2 (by decide) (by omega) (by omega) (fun c1 => ?_) (fun c1 => ?_)
  · refine g_iconst (pc := 9) C dX0_firstRoomOf_9 ?_
    refine g_iconst (pc := 10) C dX0_firstRoomOf_10 ?_
    refine g_iload_n (pc := 11) C dX0_firstRoomOf_11 rfl rfl ?_
    refine g_imul (pc := 12) C dX0_firstRoomOf_12 ?_
    refine g_iload_n (pc := 13) C dX0_firstRoomOf_13 rfl rfl ?_
    refine g_iconst (pc := 14) C dX0_firstRoomOf_14 ?_
    refine g_isub (pc := 15) C dX0_firstRoomOf_15 ?_
    refine g_imul (pc := 16) C dX0_firstRoomOf_16 ?_
    refine g_iadd (pc := 17) C dX0_firstRoomOf_17 ?_
    exact g_ireturn (pc := 18) C rfl dX0_firstRoomOf_18 ⟨by unfold FR; split <;> omega, rfl⟩
  · refine g_iconst (pc := 5) C dX0_firstRoomOf_5 ?_
    refine g_goto (pc := 6) (tgt := 18) C dX0_firstRoomOf_6 (by decide) ?_
    exact g_ireturn (pc := 18) C rfl dX0_firstRoomOf_18 ⟨by unfold FR; split <;> omega, rfl⟩

set_option maxHeartbeats 4000000 in
set_option maxRecDepth 100000 in
theorem c_X0_sizeOf (l : Launch) (K : KK) (ws : va_W) (k : Int) (hk : -1000 ≤ k ∧ k < 1000) : hMI l yX0_sizeOf wsX0_sizeOf (rmL 0) K [.int (iI k)] ws (fun z w => z = SZ k ∧ w = ws) := by
  refine in_MI (cc := cX0_sizeOf) (maxL := 1) (rt := (some .int)) (lv := [(0, .int (iI k))]) (by decide) rfl (Nat.le_of_ble_eq_true rfl) rfl ?_
  intro p e s m args below meth c A C
  refine g_iload_n (pc := 0) C dX0_sizeOf_0 rfl rfl ?_
  refine g_iconst (pc := 1) C dX0_sizeOf_1 ?_
  refine g_icmp_ge (pc := 2) (tgt := 9) C dX0_sizeOf_2 (by decide) (by omega) (by omega) (fun c1 => ?_) (fun c1 => ?_)
  · refine g_bipush (pc := 9) C dX0_sizeOf_9 (by decide +kernel) ?_
    refine g_iload_n (pc := 11) C dX0_sizeOf_11 rfl rfl ?_
    refine g_imul (pc := 12) C dX0_sizeOf_12 ?_
    exact g_ireturn (pc := 13) C rfl dX0_sizeOf_13 ⟨by unfold SZ; split <;> omega, rfl⟩
  · refine g_iconst (pc := 5) C dX0_sizeOf_5 ?_
    refine g_goto (pc := 6) (tgt := 13) C dX0_sizeOf_6 (by decide) ?_
    exact g_ireturn (pc := 13) C rfl dX0_sizeOf_13 ⟨by unfold SZ; split <;> omega, rfl⟩

set_option maxHeartbeats 4000000 in
set_option maxRecDepth 100000 in
theorem c_X0_acrossOf (l : Launch) (K : KK) (q : Nat → Nat) (S : Nat → Int → Int) (r : Int) (hr : 0 ≤ r ∧ r < 91) : hMI l yX0_acrossOf wsX0_acrossOf (rmL 0) K [.ref (q 1), .int (iI r)] (wX K q S) (fun z w => z = TA r ∧ w = (wX K q S)) := by
  refine in_MI (cc := cX0_acrossOf) (maxL := 2) (rt := (some .int)) (lv := [(0, .ref (q 1)), (1, .int (iI r))]) (by decide) rfl (Nat.le_of_ble_eq_true rfl) rfl ?_
  intro p e s m args below meth c A C
  have hinX0 : ∀ w ∈ wsX00, w ∈ wsX0_acrossOf := by decide +kernel
  refine g_aload_n (pc := 0) C dX0_acrossOf_0 rfl rfl ?_
  refine g_get (pc := 1) (ref := "HexRooms$Plan") (ci := 0) (N := 5) C 1 rfl rfl hinX0 0 (by decide) (by decide +kernel) rfl rfl dX0_acrossOf_1 ?_
  refine g_iload_n (pc := 4) C dX0_acrossOf_4 rfl rfl ?_
  refine g_iaload (pc := 5) C 2 rfl (by omega) dX0_acrossOf_5 ?_
  exact g_ireturn (pc := 6) C rfl dX0_acrossOf_6 ⟨by omega, rfl⟩

set_option maxHeartbeats 4000000 in
set_option maxRecDepth 100000 in
theorem c_X0_downOf (l : Launch) (K : KK) (q : Nat → Nat) (S : Nat → Int → Int) (r : Int) (hr : 0 ≤ r ∧ r < 91) : hMI l yX0_downOf wsX0_downOf (rmL 0) K [.ref (q 1), .int (iI r)] (wX K q S) (fun z w => z = TD r ∧ w = (wX K q S)) := by
  refine in_MI (cc := cX0_downOf) (maxL := 2) (rt := (some .int)) (lv := [(0, .ref (q 1)), (1, .int (iI r))]) (by decide) rfl (Nat.le_of_ble_eq_true rfl) rfl ?_
  intro p e s m args below meth c A C
  have hinX0 : ∀ w ∈ wsX00, w ∈ wsX0_downOf := by decide +kernel
  refine g_aload_n (pc := 0) C dX0_downOf_0 rfl rfl ?_
  refine g_get (pc := 1) (ref := "HexRooms$Plan") (ci := 0) (N := 5) C 1 rfl rfl hinX0 1 (by decide) (by decide +kernel) rfl rfl dX0_downOf_1 ?_
  refine g_iload_n (pc := 4) C dX0_downOf_4 rfl rfl ?_
  refine g_iaload (pc := 5) C 3 rfl (by omega) dX0_downOf_5 ?_
  exact g_ireturn (pc := 6) C rfl dX0_downOf_6 ⟨by omega, rfl⟩

set_option maxHeartbeats 4000000 in
set_option maxRecDepth 100000 in
theorem c_X0_ringOf (l : Launch) (K : KK) (q : Nat → Nat) (S : Nat → Int → Int) (r : Int) (hr : 0 ≤ r ∧ r < 91) : hMI l yX0_ringOf wsX0_ringOf (rmL 0) K [.ref (q 1), .int (iI r)] (wX K q S) (fun z w => z = TR r ∧ w = (wX K q S)) := by
  refine in_MI (cc := cX0_ringOf) (maxL := 2) (rt := (some .int)) (lv := [(0, .ref (q 1)), (1, .int (iI r))]) (by decide) rfl (Nat.le_of_ble_eq_true rfl) rfl ?_
  intro p e s m args below meth c A C
  have hinX0 : ∀ w ∈ wsX00, w ∈ wsX0_ringOf := by decide +kernel
  refine g_aload_n (pc := 0) C dX0_ringOf_0 rfl rfl ?_
  refine g_get (pc := 1) (ref := "HexRooms$Plan") (ci := 0) (N := 5) C 1 rfl rfl hinX0 2 (by decide) (by decide +kernel) rfl rfl dX0_ringOf_1 ?_
  refine g_iload_n (pc := 4) C dX0_ringOf_4 rfl rfl ?_
  refine g_iaload (pc := 5) C 4 rfl (by omega) dX0_ringOf_5 ?_
  exact g_ireturn (pc := 6) C rfl dX0_ringOf_6 ⟨by omega, rfl⟩

set_option maxHeartbeats 4000000 in
set_option maxRecDepth 100000 in
theorem c_X0_nextTo (l : Launch) (K : KK) (q : Nat → Nat) (S : Nat → Int → Int) (r t : Int) (hr : 0 ≤ r ∧ r < 91) (ht : 0 ≤ t ∧ t < 6) : hMI l yX0_nextTo wsX0_nextTo (rmL 1) K [.ref (q 1), .int (iI r), .int (iI t)] (wX K q S) (fun z w => z = TN (r * 6 + t) ∧ w = (wX K q S)) := by
  refine in_MI (cc := cX0_nextTo) (maxL := 3) (rt := (some .int)) (lv := [(0, .ref (q 1)), (1, .int (iI r)), (2, .int (iI t))]) (by decide) rfl (Nat.le_of_ble_eq_true rfl) rfl ?_
  intro p e s m args below meth c A C
  have hinX0 : ∀ w ∈ wsX00, w ∈ wsX0_nextTo := by decide +kernel
  refine g_aload_n (pc := 0) C dX0_nextTo_0 rfl rfl ?_
  refine g_get (pc := 1) (ref := "HexRooms$Plan") (ci := 0) (N := 5) C 1 rfl rfl hinX0 4 (by decide) (by decide +kernel) rfl rfl dX0_nextTo_1 ?_
  refine g_iload_n (pc := 4) C dX0_nextTo_4 rfl rfl ?_
  refine g_iload_n (pc := 5) C dX0_nextTo_5 rfl rfl ?_
  refine g_callNI (pc := 6) (As := [.int (iI r), .int (iI t)]) (rest := [.ref (q 6)]) C (c_X1_doorOf l K _ r t) ⟨va_cnB 2 C.hts ggX0_nextTo_X1_doorOf rfl rfl rfl C.hZ.2.2.2.2.2.2 (C.hts _ (by decide +kernel)) (by decide +kernel) ⟨by decide, by decide⟩, C.hts _ (by decide +kernel), trivial⟩ dX0_nextTo_6 rfl (Nat.le_of_ble_eq_true rfl) ⟨Nat.zero_le _, Nat.zero_le _⟩ (fun z w hp => ?_)
  obtain ⟨rfl, rfl⟩ := hp
  refine g_iaload (pc := 9) C 6 rfl (by omega) dX0_nextTo_9 ?_
  exact g_ireturn (pc := 10) C rfl dX0_nextTo_10 ⟨by omega, rfl⟩

set_option maxHeartbeats 4000000 in
set_option maxRecDepth 100000 in
theorem c_X0_roomAt (l : Launch) (K : KK) (q : Nat → Nat) (S : Nat → Int → Int) (x y : Int) (hx : -2147483648 ≤ x ∧ x < 2147483648) (hy : -2147483648 ≤ y ∧ y < 2147483648) : hMI l yX0_roomAt wsX0_roomAt (rmL 1) K [.ref (q 1), .int (iI x), .int (iI y)] (wX K q S) (fun z w => z = (if (-5 ≤ x ∧ x ≤ 5) ∧ (-5 ≤ y ∧ y ≤ 5) then TC ((y + 5) * 11 + x + 5) else -1) ∧ w = (wX K q S)) := by
  refine in_MI (cc := cX0_roomAt) (maxL := 3) (rt := (some .int)) (lv := [(0, .ref (q 1)), (1, .int (iI x)), (2, .int (iI y))]) (by decide) rfl (Nat.le_of_ble_eq_true rfl) rfl ?_
  intro p e s m args below meth c A C
  have hinX0 : ∀ w ∈ wsX00, w ∈ wsX0_roomAt := by decide +kernel
  refine g_iload_n (pc := 0) C dX0_roomAt_0 rfl rfl ?_
  refine g_callSI (pc := 1) (As := [.int (iI x)]) (rest := []) C (c_X0_isOnPlan l K _ x (by omega)) (cwS 1 C.hts gX0_roomAt_X0_isOnPlan rfl rfl rfl (by decide +kernel) ⟨by decide, by decide⟩) dX0_roomAt_1 rfl (Nat.le_of_ble_eq_true rfl) ⟨Nat.zero_le _, Nat.zero_le _⟩ (fun z w hp => ?_)
  obtain ⟨rfl, rfl⟩ := hp
  refine g_if_eq (pc := 4) (tgt := 27) C dX0_roomAt_4 (by decide) (by split <;> omega) (fun c1 => ?_) (fun c1 => ?_)
  · refine g_iconst (pc := 27) C dX0_roomAt_27 ?_
    exact g_ireturn (pc := 28) C rfl dX0_roomAt_28 ⟨by split <;> omega, rfl⟩
  · refine g_iload_n (pc := 7) C dX0_roomAt_7 rfl rfl ?_
    refine g_callSI (pc := 8) (As := [.int (iI y)]) (rest := []) C (c_X0_isOnPlan l K _ y (by omega)) (cwS 1 C.hts gX0_roomAt_X0_isOnPlan rfl rfl rfl (by decide +kernel) ⟨by decide, by decide⟩) dX0_roomAt_8 rfl (Nat.le_of_ble_eq_true rfl) ⟨Nat.zero_le _, Nat.zero_le _⟩ (fun z w hp => ?_)
    obtain ⟨rfl, rfl⟩ := hp
    refine g_if_eq (pc := 11) (tgt := 27) C dX0_roomAt_11 (by decide) (by split <;> omega) (fun c2 => ?_) (fun c2 => ?_)
    · refine g_iconst (pc := 27) C dX0_roomAt_27 ?_
      exact g_ireturn (pc := 28) C rfl dX0_roomAt_28 ⟨by split <;> omega, rfl⟩
    · refine g_aload_n (pc := 14) C dX0_roomAt_14 rfl rfl ?_
      refine g_get (pc := 15) (ref := "HexRooms$Plan") (ci := 0) (N := 5) C 1 rfl rfl hinX0 3 (by decide) (by decide +kernel) rfl rfl dX0_roomAt_15 ?_
      refine g_iload_n (pc := 18) C dX0_roomAt_18 rfl rfl ?_
      refine g_iload_n (pc := 19) C dX0_roomAt_19 rfl rfl ?_
      refine g_callSI (pc := 20) (As := [.int (iI x), .int (iI y)]) (rest := [.ref (q 5)]) C (c_X0_cellOf l K _ x y) (cwS 2 C.hts gX0_roomAt_X0_cellOf rfl rfl rfl (by decide +kernel) ⟨by decide, by decide⟩) dX0_roomAt_20 rfl (Nat.le_of_ble_eq_true rfl) ⟨Nat.zero_le _, Nat.zero_le _⟩ (fun z w hp => ?_)
      obtain ⟨rfl, rfl⟩ := hp
      refine g_iaload (pc := 23) C 5 rfl (by omega) dX0_roomAt_23 ?_
      refine g_goto (pc := 24) (tgt := 28) C dX0_roomAt_24 (by decide) ?_
      exact g_ireturn (pc := 28) C rfl dX0_roomAt_28 ⟨by split <;> omega, rfl⟩

set_option maxHeartbeats 4000000 in
set_option maxRecDepth 100000 in
theorem c_X1_orNone (l : Launch) (K : KK) (q : Nat → Nat) (S : Nat → Int → Int) (hn : 7 ≤ S 0 10 ∧ S 0 10 ≤ 91) (x : Int) (hx : -1 ≤ x ∧ x ≤ 90) : hMI l yX1_orNone wsX1_orNone (rmL 0) K [.ref (q 0), .int (iI x)] (wX K q S) (fun z w => z = (if x < S 0 10 then x else -1) ∧ w = (wX K q S)) := by
  refine in_MI (cc := cX1_orNone) (maxL := 2) (rt := (some .int)) (lv := [(0, .ref (q 0)), (1, .int (iI x))]) (by decide) rfl (Nat.le_of_ble_eq_true rfl) rfl ?_
  intro p e s m args below meth c A C
  have hinX1 : ∀ w ∈ wsX10, w ∈ wsX1_orNone := by decide +kernel
  refine g_iload_n (pc := 0) C dX1_orNone_0 rfl rfl ?_
  refine g_aload_n (pc := 1) C dX1_orNone_1 rfl rfl ?_
  refine g_get (pc := 2) (ref := "HexRooms") (ci := 1) (N := 11) C 0 rfl rfl hinX1 10 (by decide) (by decide +kernel) rfl rfl dX1_orNone_2 ?_
  refine g_icmp_ge (pc := 5) (tgt := 12) C dX1_orNone_5 (by decide) (by omega) (by omega) (fun c1 => ?_) (fun c1 => ?_)
  · refine g_iconst (pc := 12) C dX1_orNone_12 ?_
    exact g_ireturn (pc := 13) C rfl dX1_orNone_13 ⟨by split <;> omega, rfl⟩
  · refine g_iload_n (pc := 8) C dX1_orNone_8 rfl rfl ?_
    refine g_goto (pc := 9) (tgt := 13) C dX1_orNone_9 (by decide) ?_
    exact g_ireturn (pc := 13) C rfl dX1_orNone_13 ⟨by split <;> omega, rfl⟩

set_option maxHeartbeats 4000000 in
set_option maxRecDepth 100000 in
theorem c_X1_neighbour (l : Launch) (K : KK) (q : Nat → Nat) (S : Nat → Int → Int) (hn : 7 ≤ S 0 10 ∧ S 0 10 ≤ 91) (r t : Int) (hr : 0 ≤ r ∧ r < 91) (ht : 0 ≤ t ∧ t < 6) : hMI l yX1_neighbour wsX1_neighbour (rmL 2) K [.ref (q 0), .int (iI r), .int (iI t)] (wX K q S) (fun z w => z = NX (S 0 10) r t ∧ w = (wX K q S)) := by
  refine in_MI (cc := cX1_neighbour) (maxL := 3) (rt := (some .int)) (lv := [(0, .ref (q 0)), (1, .int (iI r)), (2, .int (iI t))]) (by decide) rfl (Nat.le_of_ble_eq_true rfl) rfl ?_
  intro p e s m args below meth c A C
  have hinX1 : ∀ w ∈ wsX10, w ∈ wsX1_neighbour := by decide +kernel
  refine g_aload_n (pc := 0) C dX1_neighbour_0 rfl rfl ?_
  refine g_aload_n (pc := 1) C dX1_neighbour_1 rfl rfl ?_
  refine g_get (pc := 2) (ref := "HexRooms") (ci := 1) (N := 11) C 0 rfl rfl hinX1 0 (by decide) (by decide +kernel) rfl rfl dX1_neighbour_2 ?_
  refine g_iload_n (pc := 5) C dX1_neighbour_5 rfl rfl ?_
  refine g_iload_n (pc := 6) C dX1_neighbour_6 rfl rfl ?_
  refine g_callVI (pc := 7) (As := [.int (iI r), .int (iI t)]) (rest := [.ref (q 0)]) C (c_X0_nextTo l K q S r t hr ht) (cwV 2 C.hts gX1_neighbour_X0_nextTo rfl rfl rfl (by decide +kernel) ⟨by decide, by decide⟩) 1 rfl rfl dX1_neighbour_7 rfl (Nat.le_of_ble_eq_true rfl) ⟨Nat.zero_le _, Nat.zero_le _⟩ (fun z w hp => ?_)
  obtain ⟨rfl, rfl⟩ := hp
  refine g_callVI (pc := 10) (As := [.int (iI (TN (r * 6 + t)))]) (rest := []) C (c_X1_orNone l K q S hn (TN (r * 6 + t)) (TN_b _)) (cwV 1 C.hts gX1_neighbour_X1_orNone rfl rfl rfl (by decide +kernel) ⟨by decide, by decide⟩) 0 rfl rfl dX1_neighbour_10 rfl (Nat.le_of_ble_eq_true rfl) ⟨Nat.zero_le _, Nat.zero_le _⟩ (fun z w hp => ?_)
  obtain ⟨rfl, rfl⟩ := hp
  exact g_ireturn (pc := 13) C rfl dX1_neighbour_13 ⟨rfl, rfl⟩

set_option maxHeartbeats 4000000 in
set_option maxRecDepth 100000 in
theorem c_X1_onward_7 (l : Launch) (K : KK) (q : Nat → Nat) (S : Nat → Int → Int) (hn : 7 ≤ S 0 10 ∧ S 0 10 ≤ 91) (hf : ∀ j, 0 ≤ j → j < S 0 10 → 0 ≤ S 7 j ∧ S 7 j ≤ 2) (hh : ∀ j, 0 ≤ j → j < 546 → 0 ≤ S 8 j ∧ S 8 j ≤ 1) (r t : Int) (hr : 0 ≤ r ∧ r < 91) (ht : 0 ≤ t ∧ t < 6) : hMI l yX1_onward wsX1_onward (rmL 3) K [.ref (q 0), .ref (q 7), .int (iI r), .int (iI t)] (wX K q S) (fun z w => z = ON (S 0 10) (S 7) (S 8) r t ∧ w = (wX K q S)) := by
  refine in_MI (cc := cX1_onward) (maxL := 5) (rt := (some .int)) (lv := [(0, .ref (q 0)), (1, .ref (q 7)), (2, .int (iI r)), (3, .int (iI t))]) (by decide) rfl (Nat.le_of_ble_eq_true rfl) rfl ?_
  intro p e s m args below meth c A C
  have hinX1 : ∀ w ∈ wsX10, w ∈ wsX1_onward := by decide +kernel
  refine g_aload_n (pc := 0) C dX1_onward_0 rfl rfl ?_
  refine g_iload_n (pc := 1) C dX1_onward_1 rfl rfl ?_
  refine g_iload_n (pc := 2) C dX1_onward_2 rfl rfl ?_
  refine g_callVI (pc := 3) (As := [.int (iI r), .int (iI t)]) (rest := []) C (c_X1_neighbour l K q S hn r t hr ht) (cwV 2 C.hts gX1_onward_X1_neighbour rfl rfl rfl (by decide +kernel) ⟨by decide, by decide⟩) 0 rfl rfl dX1_onward_3 rfl (Nat.le_of_ble_eq_true rfl) ⟨Nat.zero_le _, Nat.zero_le _⟩ (fun z w hp => ?_)
  obtain ⟨rfl, rfl⟩ := hp
  have hb := NX_b (S 0 10) r t
  refine g_istore (pc := 6) (lv' := [(4, .int (iI (NX (S 0 10) r t))), (0, .ref (q 0)), (1, .ref (q 7)), (2, .int (iI r)), (3, .int (iI t))]) C dX1_onward_6 (by decide) rfl ?_
  refine g_iload (pc := 8) C dX1_onward_8 rfl ?_
  refine g_iconst (pc := 10) C dX1_onward_10 ?_
  refine g_icmp_eq (pc := 11) (tgt := 35) C dX1_onward_11 (by decide) (by omega) (by omega) (fun c1 => ?_) (fun c1 => ?_)
  · refine g_iconst (pc := 35) C dX1_onward_35 ?_
    exact g_ireturn (pc := 36) C rfl dX1_onward_36 ⟨by unfold ON; split <;> omega, rfl⟩
  · refine g_aload_n (pc := 14) C dX1_onward_14 rfl rfl ?_
    refine g_get (pc := 15) (ref := "HexRooms") (ci := 1) (N := 11) C 0 rfl rfl hinX1 2 (by decide) (by decide +kernel) rfl rfl dX1_onward_15 ?_
    refine g_iload_n (pc := 18) C dX1_onward_18 rfl rfl ?_
    refine g_iload_n (pc := 19) C dX1_onward_19 rfl rfl ?_
    refine g_callSI (pc := 20) (As := [.int (iI r), .int (iI t)]) (rest := [.ref (q 8)]) C (c_X1_doorOf l K _ r t) (cwS 2 C.hts gX1_onward_X1_doorOf rfl rfl rfl (by decide +kernel) ⟨by decide, by decide⟩) dX1_onward_20 rfl (Nat.le_of_ble_eq_true rfl) ⟨Nat.zero_le _, Nat.zero_le _⟩ (fun z w hp => ?_)
    obtain ⟨rfl, rfl⟩ := hp
    refine g_baload (pc := 23) C 8 rfl (by omega) dX1_onward_23 ?_
    have bd2 := hh (r * 6 + t) (by omega) (by omega)
    refine g_if_ne (pc := 24) (tgt := 35) C dX1_onward_24 (by decide) (by omega) (fun c3 => ?_) (fun c3 => ?_)
    · refine g_iconst (pc := 35) C dX1_onward_35 ?_
      exact g_ireturn (pc := 36) C rfl dX1_onward_36 ⟨by unfold ON; split <;> omega, rfl⟩
    · refine g_aload_n (pc := 27) C dX1_onward_27 rfl rfl ?_
      refine g_iload (pc := 28) C dX1_onward_28 rfl ?_
      refine g_iaload (pc := 30) C 7 rfl (by omega) dX1_onward_30 ?_
      have bd4 := hf (NX (S 0 10) r t) (by omega) (by omega)
      refine g_iconst (pc := 31) C dX1_onward_31 ?_
      refine g_icmp_ne (pc := 32) (tgt := 37) C dX1_onward_32 (by decide) (by omega) (by omega) (fun c5 => ?_) (fun c5 => ?_)
      · refine g_iload (pc := 37) C dX1_onward_37 rfl ?_
        exact g_ireturn (pc := 39) C rfl dX1_onward_39 ⟨by unfold ON; split <;> omega, rfl⟩
      · refine g_iconst (pc := 35) C dX1_onward_35 ?_
        exact g_ireturn (pc := 36) C rfl dX1_onward_36 ⟨by unfold ON; split <;> omega, rfl⟩

set_option maxHeartbeats 4000000 in
set_option maxRecDepth 100000 in
theorem c_X1_onward_10 (l : Launch) (K : KK) (q : Nat → Nat) (S : Nat → Int → Int) (hn : 7 ≤ S 0 10 ∧ S 0 10 ≤ 91) (hf : ∀ j, 0 ≤ j → j < S 0 10 → 0 ≤ S 10 j ∧ S 10 j ≤ 2) (hh : ∀ j, 0 ≤ j → j < 546 → 0 ≤ S 8 j ∧ S 8 j ≤ 1) (r t : Int) (hr : 0 ≤ r ∧ r < 91) (ht : 0 ≤ t ∧ t < 6) : hMI l yX1_onward wsX1_onward (rmL 3) K [.ref (q 0), .ref (q 10), .int (iI r), .int (iI t)] (wX K q S) (fun z w => z = ON (S 0 10) (S 10) (S 8) r t ∧ w = (wX K q S)) := by
  refine in_MI (cc := cX1_onward) (maxL := 5) (rt := (some .int)) (lv := [(0, .ref (q 0)), (1, .ref (q 10)), (2, .int (iI r)), (3, .int (iI t))]) (by decide) rfl (Nat.le_of_ble_eq_true rfl) rfl ?_
  intro p e s m args below meth c A C
  have hinX1 : ∀ w ∈ wsX10, w ∈ wsX1_onward := by decide +kernel
  refine g_aload_n (pc := 0) C dX1_onward_0 rfl rfl ?_
  refine g_iload_n (pc := 1) C dX1_onward_1 rfl rfl ?_
  refine g_iload_n (pc := 2) C dX1_onward_2 rfl rfl ?_
  refine g_callVI (pc := 3) (As := [.int (iI r), .int (iI t)]) (rest := []) C (c_X1_neighbour l K q S hn r t hr ht) (cwV 2 C.hts gX1_onward_X1_neighbour rfl rfl rfl (by decide +kernel) ⟨by decide, by decide⟩) 0 rfl rfl dX1_onward_3 rfl (Nat.le_of_ble_eq_true rfl) ⟨Nat.zero_le _, Nat.zero_le _⟩ (fun z w hp => ?_)
  obtain ⟨rfl, rfl⟩ := hp
  have hb := NX_b (S 0 10) r t
  refine g_istore (pc := 6) (lv' := [(4, .int (iI (NX (S 0 10) r t))), (0, .ref (q 0)), (1, .ref (q 10)), (2, .int (iI r)), (3, .int (iI t))]) C dX1_onward_6 (by decide) rfl ?_
  refine g_iload (pc := 8) C dX1_onward_8 rfl ?_
  refine g_iconst (pc := 10) C dX1_onward_10 ?_
  refine g_icmp_eq (pc := 11) (tgt := 35) C dX1_onward_11 (by decide) (by omega) (by omega) (fun c1 => ?_) (fun c1 => ?_)
  · refine g_iconst (pc := 35) C dX1_onward_35 ?_
    exact g_ireturn (pc := 36) C rfl dX1_onward_36 ⟨by unfold ON; split <;> omega, rfl⟩
  · refine g_aload_n (pc := 14) C dX1_onward_14 rfl rfl ?_
    refine g_get (pc := 15) (ref := "HexRooms") (ci := 1) (N := 11) C 0 rfl rfl hinX1 2 (by decide) (by decide +kernel) rfl rfl dX1_onward_15 ?_
    refine g_iload_n (pc := 18) C dX1_onward_18 rfl rfl ?_
    refine g_iload_n (pc := 19) C dX1_onward_19 rfl rfl ?_
    refine g_callSI (pc := 20) (As := [.int (iI r), .int (iI t)]) (rest := [.ref (q 8)]) C (c_X1_doorOf l K _ r t) (cwS 2 C.hts gX1_onward_X1_doorOf rfl rfl rfl (by decide +kernel) ⟨by decide, by decide⟩) dX1_onward_20 rfl (Nat.le_of_ble_eq_true rfl) ⟨Nat.zero_le _, Nat.zero_le _⟩ (fun z w hp => ?_)
    obtain ⟨rfl, rfl⟩ := hp
    refine g_baload (pc := 23) C 8 rfl (by omega) dX1_onward_23 ?_
    have bd2 := hh (r * 6 + t) (by omega) (by omega)
    refine g_if_ne (pc := 24) (tgt := 35) C dX1_onward_24 (by decide) (by omega) (fun c3 => ?_) (fun c3 => ?_)
    · refine g_iconst (pc := 35) C dX1_onward_35 ?_
      exact g_ireturn (pc := 36) C rfl dX1_onward_36 ⟨by unfold ON; split <;> omega, rfl⟩
    · refine g_aload_n (pc := 27) C dX1_onward_27 rfl rfl ?_
      refine g_iload (pc := 28) C dX1_onward_28 rfl ?_
      refine g_iaload (pc := 30) C 10 rfl (by omega) dX1_onward_30 ?_
      have bd4 := hf (NX (S 0 10) r t) (by omega) (by omega)
      refine g_iconst (pc := 31) C dX1_onward_31 ?_
      refine g_icmp_ne (pc := 32) (tgt := 37) C dX1_onward_32 (by decide) (by omega) (by omega) (fun c5 => ?_) (fun c5 => ?_)
      · refine g_iload (pc := 37) C dX1_onward_37 rfl ?_
        exact g_ireturn (pc := 39) C rfl dX1_onward_39 ⟨by unfold ON; split <;> omega, rfl⟩
      · refine g_iconst (pc := 35) C dX1_onward_35 ?_
        exact g_ireturn (pc := 36) C rfl dX1_onward_36 ⟨by unfold ON; split <;> omega, rfl⟩
