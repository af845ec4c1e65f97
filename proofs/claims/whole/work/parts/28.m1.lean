set_option maxHeartbeats 400000 in
set_option maxRecDepth 100000 in
theorem c_X2_isIn (l : Launch) (K : KK) (ws : va_W) (v a b : Int) (hv : -2147483648 ≤ v ∧ v < 2147483648) (hab : -100000 ≤ a ∧ a ≤ 100000 ∧ -100000 ≤ b ∧ b ≤ 100000) : hMI l yX2_isIn wsX2_isIn (rmL 0) K [.int (iI v), .int (iI a), .int (iI b)] ws (fun z w => ((z = 1 ∧ (a ≤ v ∧ v ≤ b)) ∨ (z = 0 ∧ ¬ (a ≤ v ∧ v ≤ b))) ∧ w = ws) := by
  refine in_MI (cc := cX2_isIn) (maxL := 3) (rt := (some .boolean)) (lv := [(0, .int (iI v)), (1, .int (iI a)), (2, .int (iI b))]) (by decide) rfl (Nat.le_of_ble_eq_true rfl) rfl ?_
  intro p e s m args below meth c A C
  refine g_iload_n (pc := 0) C dX2_isIn_0 rfl rfl ?_
  refine g_iload_n (pc := 1) C dX2_isIn_1 rfl rfl ?_
  refine g_icmp_lt (pc := 2) (tgt := 14) C dX2_isIn_2 (by decide) (by omega) (by omega) (fun c1 => ?_) (fun c1 => ?_)
  · refine g_iconst (pc := 14) C dX2_isIn_14 ?_
    exact g_zreturn (pc := 15) C rfl (by omega) dX2_isIn_15 ⟨by omega, rfl⟩
  · refine g_iload_n (pc := 5) C dX2_isIn_5 rfl rfl ?_
    refine g_iload_n (pc := 6) C dX2_isIn_6 rfl rfl ?_
    refine g_icmp_gt (pc := 7) (tgt := 14) C dX2_isIn_7 (by decide) (by omega) (by omega) (fun c2 => ?_) (fun c2 => ?_)
    · refine g_iconst (pc := 14) C dX2_isIn_14 ?_
      exact g_zreturn (pc := 15) C rfl (by omega) dX2_isIn_15 ⟨by omega, rfl⟩
    · refine g_iconst (pc := 10) C dX2_isIn_10 ?_
      refine g_goto (pc := 11) (tgt := 15) C dX2_isIn_11 (by decide) ?_
      exact g_zreturn (pc := 15) C rfl (by omega) dX2_isIn_15 ⟨by omega, rfl⟩

set_option maxHeartbeats 400000 in
set_option maxRecDepth 100000 in
theorem c_X2_isRoom (l : Launch) (K : KK) (q : Nat → Nat) (S : Nat → Int → Int) (hn : 7 ≤ S 0 2 ∧ S 0 2 ≤ 91) (r : Int) (hr : -2147483648 ≤ r ∧ r < 2147483648) : hMI l yX2_isRoom wsX2_isRoom (rmL 1) K [.ref (q 0), .int (iI r)] (wM K q S) (fun z w => ((z = 1 ∧ (0 ≤ r ∧ r < S 0 2)) ∨ (z = 0 ∧ ¬ (0 ≤ r ∧ r < S 0 2))) ∧ w = wM K q S) := by
  refine in_MI (cc := cX2_isRoom) (maxL := 2) (rt := (some .boolean)) (lv := [(0, .ref (q 0)), (1, .int (iI r))]) (by decide) rfl (Nat.le_of_ble_eq_true rfl) rfl ?_
  intro p e s m args below meth c A C
  have hinX2 : ∀ w ∈ wsX20, w ∈ wsX2_isRoom := by decide +kernel
  refine g_iload_n (pc := 0) C dX2_isRoom_0 rfl rfl ?_
  refine g_iconst (pc := 1) C dX2_isRoom_1 ?_
  refine g_aload_n (pc := 2) C dX2_isRoom_2 rfl rfl ?_
  refine g_get (pc := 3) (ref := "HexRoomsModel") (ci := 2) (N := 13) C 0 rfl rfl hinX2 2 (by decide) (by decide +kernel) rfl rfl dX2_isRoom_3 ?_
  refine g_iconst (pc := 6) C dX2_isRoom_6 ?_
  refine g_isub (pc := 7) C dX2_isRoom_7 ?_
  refine g_callSI (pc := 8) (As := [.int (iI r), .int (iI 0), .int (iI (((S 0) 2) - 1))]) (rest := []) C (c_X2_isIn l K _ r 0 (((S 0) 2) - 1) (by omega) (by omega)) (cwS 3 C.hts gX2_isRoom_X2_isIn rfl rfl rfl (by decide +kernel) ⟨by decide, by decide⟩) dX2_isRoom_8 rfl (Nat.le_of_ble_eq_true rfl) ⟨Nat.zero_le _, Nat.zero_le _⟩ (fun iz8 w hp => ?_)
  obtain ⟨hz8, rfl⟩ := hp
  have hz8 : (iz8 = 1 ∧ (0 ≤ r ∧ r ≤ (((S 0) 2) - 1))) ∨ (iz8 = 0 ∧ ¬ (0 ≤ r ∧ r ≤ (((S 0) 2) - 1))) := hz8
  exact g_zreturn (pc := 11) C rfl (by omega) dX2_isRoom_11 ⟨by omega, rfl⟩

set_option maxHeartbeats 400000 in
set_option maxRecDepth 100000 in
theorem c_X2_isSide (l : Launch) (K : KK) (ws : va_W) (v : Int) (hv : -2147483648 ≤ v ∧ v < 2147483648) : hMI l yX2_isSide wsX2_isSide (rmL 1) K [.int (iI v)] ws (fun z w => ((z = 1 ∧ (0 ≤ v ∧ v < 6)) ∨ (z = 0 ∧ ¬ (0 ≤ v ∧ v < 6))) ∧ w = ws) := by
  refine in_MI (cc := cX2_isSide) (maxL := 1) (rt := (some .boolean)) (lv := [(0, .int (iI v))]) (by decide) rfl (Nat.le_of_ble_eq_true rfl) rfl ?_
  intro p e s m args below meth c A C
  refine g_iload_n (pc := 0) C dX2_isSide_0 rfl rfl ?_
  refine g_iconst (pc := 1) C dX2_isSide_1 ?_
  refine g_iconst (pc := 2) C dX2_isSide_2 ?_
  refine g_callSI (pc := 3) (As := [.int (iI v), .int (iI 0), .int (iI 5)]) (rest := []) C (c_X2_isIn l K _ v 0 5 (by omega) (by omega)) (cwS 3 C.hts gX2_isSide_X2_isIn rfl rfl rfl (by decide +kernel) ⟨by decide, by decide⟩) dX2_isSide_3 rfl (Nat.le_of_ble_eq_true rfl) ⟨Nat.zero_le _, Nat.zero_le _⟩ (fun iz3 w hp => ?_)
  obtain ⟨hz3, rfl⟩ := hp
  have hz3 : (iz3 = 1 ∧ (0 ≤ v ∧ v ≤ 5)) ∨ (iz3 = 0 ∧ ¬ (0 ≤ v ∧ v ≤ 5)) := hz3
  exact g_zreturn (pc := 6) C rfl (by omega) dX2_isSide_6 ⟨by omega, rfl⟩

set_option maxHeartbeats 400000 in
set_option maxRecDepth 100000 in
theorem c_X2_isRing (l : Launch) (K : KK) (q : Nat → Nat) (S : Nat → Int → Int) (hk9 : 1 ≤ S 0 1 ∧ S 0 1 ≤ 5) (r : Int) (hr : -2147483648 ≤ r ∧ r < 2147483648) : hMI l yX2_isRing wsX2_isRing (rmL 1) K [.ref (q 0), .int (iI r)] (wM K q S) (fun z w => ((z = 1 ∧ (0 ≤ r ∧ r ≤ S 0 1)) ∨ (z = 0 ∧ ¬ (0 ≤ r ∧ r ≤ S 0 1))) ∧ w = wM K q S) := by
  refine in_MI (cc := cX2_isRing) (maxL := 2) (rt := (some .boolean)) (lv := [(0, .ref (q 0)), (1, .int (iI r))]) (by decide) rfl (Nat.le_of_ble_eq_true rfl) rfl ?_
  intro p e s m args below meth c A C
  have hinX2 : ∀ w ∈ wsX20, w ∈ wsX2_isRing := by decide +kernel
  refine g_iload_n (pc := 0) C dX2_isRing_0 rfl rfl ?_
  refine g_iconst (pc := 1) C dX2_isRing_1 ?_
  refine g_aload_n (pc := 2) C dX2_isRing_2 rfl rfl ?_
  refine g_get (pc := 3) (ref := "HexRoomsModel") (ci := 2) (N := 13) C 0 rfl rfl hinX2 1 (by decide) (by decide +kernel) rfl rfl dX2_isRing_3 ?_
  refine g_callSI (pc := 6) (As := [.int (iI r), .int (iI 0), .int (iI ((S 0) 1))]) (rest := []) C (c_X2_isIn l K _ r 0 ((S 0) 1) (by omega) (by omega)) (cwS 3 C.hts gX2_isRing_X2_isIn rfl rfl rfl (by decide +kernel) ⟨by decide, by decide⟩) dX2_isRing_6 rfl (Nat.le_of_ble_eq_true rfl) ⟨Nat.zero_le _, Nat.zero_le _⟩ (fun iz6 w hp => ?_)
  obtain ⟨hz6, rfl⟩ := hp
  have hz6 : (iz6 = 1 ∧ (0 ≤ r ∧ r ≤ ((S 0) 1))) ∨ (iz6 = 0 ∧ ¬ (0 ≤ r ∧ r ≤ ((S 0) 1))) := hz6
  exact g_zreturn (pc := 9) C rfl (by omega) dX2_isRing_9 ⟨by omega, rfl⟩

set_option maxHeartbeats 400000 in
set_option maxRecDepth 100000 in
theorem c_X2_thrown (l : Launch) (K : KK) (q : Nat → Nat) (S : Nat → Int → Int) : hMI l yX2_thrown wsX2_thrown (rmL 0) K [.ref (q 0)] (wM K q S) (fun z w => z = S 0 0 ∧ w = wM K q S) := by
  refine in_MI (cc := cX2_thrown) (maxL := 1) (rt := (some .int)) (lv := [(0, .ref (q 0))]) (by decide) rfl (Nat.le_of_ble_eq_true rfl) rfl ?_
  intro p e s m args below meth c A C
  have hinX2 : ∀ w ∈ wsX20, w ∈ wsX2_thrown := by decide +kernel
  refine g_aload_n (pc := 0) C dX2_thrown_0 rfl rfl ?_
  refine g_get (pc := 1) (ref := "HexRoomsModel") (ci := 2) (N := 13) C 0 rfl rfl hinX2 0 (by decide) (by decide +kernel) rfl rfl dX2_thrown_1 ?_
  exact g_ireturn (pc := 4) C rfl dX2_thrown_4 ⟨rfl, rfl⟩

set_option maxHeartbeats 400000 in
set_option maxRecDepth 100000 in
theorem c_X2_fail (l : Launch) (K : KK) (q : Nat → Nat) (S : Nat → Int → Int) (v : Int) : hMI l yX2_fail wsX2_fail (rmL 0) K [.ref (q 0), .int (iI v)] (wM K q S) (fun z w => z = 0 ∧ w = wM K q (sA S 0 (fU (S 0) 0 v))) := by
  refine in_MI (cc := cX2_fail) (maxL := 2) (rt := (some .int)) (lv := [(0, .ref (q 0)), (1, .int (iI v))]) (by decide) rfl (Nat.le_of_ble_eq_true rfl) rfl ?_
  intro p e s m args below meth c A C
  have hinX2 : ∀ w ∈ wsX20, w ∈ wsX2_fail := by decide +kernel
  refine g_aload_n (pc := 0) C dX2_fail_0 rfl rfl ?_
  refine g_iload_n (pc := 1) C dX2_fail_1 rfl rfl ?_
  refine g_put (pc := 2) (ref := "HexRoomsModel") (ci := 2) (N := 13) (ws' := (wM K q (sA S 0 (fU (S 0) 0 v)))) C 0 rfl rfl hinX2 tyX2 tyX2_ok nmX2 0 (by decide) (by decide +kernel) rfl rfl rfl (Nat.le_of_ble_eq_true rfl) dX2_fail_2 rfl ?_
  refine g_iconst (pc := 5) C dX2_fail_5 ?_
  exact g_ireturn (pc := 6) C rfl dX2_fail_6 ⟨rfl, rfl⟩

set_option maxHeartbeats 400000 in
set_option maxRecDepth 100000 in
theorem c_X2_size (l : Launch) (K : KK) (ws : va_W) (k : Int) (hk : 0 ≤ k ∧ k < 1000) : hMI l yX2_size wsX2_size (rmL 0) K [.int (iI k)] ws (fun z w => z = SZ k ∧ w = ws) := by
  refine in_MI (cc := cX2_size) (maxL := 1) (rt := (some .int)) (lv := [(0, .int (iI k))]) (by decide) rfl (Nat.le_of_ble_eq_true rfl) rfl ?_
  intro p e s m args below meth c A C
  refine g_iload_n (pc := 0) C dX2_size_0 rfl rfl ?_
  refine g_if_ne (pc := 1) (tgt := 8) C dX2_size_1 (by decide) (by omega) (fun c1 => ?_) (fun c1 => ?_)
  · refine g_bipush (pc := 8) C dX2_size_8 (by decide +kernel) ?_
    refine g_iload_n (pc := 10) C dX2_size_10 rfl rfl ?_
    refine g_imul (pc := 11) C dX2_size_11 ?_
    exact g_ireturn (pc := 12) C rfl dX2_size_12 ⟨by unfold SZ; split <;> omega, rfl⟩
  · refine g_iconst (pc := 4) C dX2_size_4 ?_
    refine g_goto (pc := 5) (tgt := 12) C dX2_size_5 (by decide) ?_
    exact g_ireturn (pc := 12) C rfl dX2_size_12 ⟨by unfold SZ; split <;> omega, rfl⟩

set_option maxHeartbeats 400000 in
set_option maxRecDepth 100000 in
theorem c_X2_first (l : Launch) (K : KK) (ws : va_W) (k : Int) (hk : 0 ≤ k ∧ k < 1000) : hMI l yX2_first wsX2_first (rmL 0) K [.int (iI k)] ws (fun z w => z = FR k ∧ w = ws) := by
  refine in_MI (cc := cX2_first) (maxL := 1) (rt := (some .int)) (lv := [(0, .int (iI k))]) (by decide) rfl (Nat.le_of_ble_eq_true rfl) rfl ?_
  intro p e s m args below meth c A C
  refine g_iload_n (pc := 0) C dX2_first_0 rfl rfl ?_
  refine g_if_ne (pc := 1) (tgt := 8) C dX2_first_1 (by decide) (by omega) (fun c1 => ?_) (fun c1 => ?_)
  · refine g_iconst (pc := 8) C dX2_first_8 ?_
    refine g_iconst (pc := 9) C dX2_first_9 ?_
    refine g_iload_n (pc := 10) C dX2_first_10 rfl rfl ?_
    refine g_imul (pc := 11) C dX2_first_11 ?_
    refine g_iload_n (pc := 12) C dX2_first_12 rfl rfl ?_
    refine g_iconst (pc := 13) C dX2_first_13 ?_
    refine g_isub (pc := 14) C dX2_first_14 ?_
    refine g_imul (pc := 15) C dX2_first_15 ?_
    refine g_iadd (pc := 16) C dX2_first_16 ?_
    exact g_ireturn (pc := 17) C rfl dX2_first_17 ⟨by unfold FR; split <;> omega, rfl⟩
  · refine g_iconst (pc := 4) C dX2_first_4 ?_
    refine g_goto (pc := 5) (tgt := 17) C dX2_first_5 (by decide) ?_
    exact g_ireturn (pc := 17) C rfl dX2_first_17 ⟨by unfold FR; split <;> omega, rfl⟩

set_option maxHeartbeats 400000 in
set_option maxRecDepth 100000 in
theorem c_X2_found (l : Launch) (K : KK) (q : Nat → Nat) (S : Nat → Int → Int) (H : HT S) (x y : Int) (hx : -2147483648 ≤ x ∧ x < 2147483648) (hy : -2147483648 ≤ y ∧ y < 2147483648) : hMI l yX2_found wsX2_found (rmL 1) K [.ref (q 0), .int (iI x), .int (iI y)] (wM K q S) (fun z w => z = RXY (S 0 2) x y ∧ w = wM K q S) := by
  have hn := H.n
  refine in_MI (cc := cX2_found) (maxL := 3) (rt := (some .int)) (lv := [(0, .ref (q 0)), (1, .int (iI x)), (2, .int (iI y))]) (by decide) rfl (Nat.le_of_ble_eq_true rfl) rfl ?_
  intro p e s m args below meth c A C
  have hinX2 : ∀ w ∈ wsX20, w ∈ wsX2_found := by decide +kernel
  refine g_iload_n (pc := 0) C dX2_found_0 rfl rfl ?_
  refine g_bipush (pc := 1) C dX2_found_1 (by decide +kernel) ?_
  refine g_iconst (pc := 3) C dX2_found_3 ?_
  refine g_callSI (pc := 4) (As := [.int (iI x), .int (iI (-5)), .int (iI 5)]) (rest := []) C (c_X2_isIn l K _ x (-5) 5 (by omega) (by omega)) (cwS 3 C.hts gX2_found_X2_isIn rfl rfl rfl (by decide +kernel) ⟨by decide, by decide⟩) dX2_found_4 rfl (Nat.le_of_ble_eq_true rfl) ⟨Nat.zero_le _, Nat.zero_le _⟩ (fun iz4 w hp => ?_)
  obtain ⟨hz4, rfl⟩ := hp
  have hz4 : (iz4 = 1 ∧ ((-5) ≤ x ∧ x ≤ 5)) ∨ (iz4 = 0 ∧ ¬ ((-5) ≤ x ∧ x ≤ 5)) := hz4
  refine g_if_eq (pc := 7) (tgt := 38) C dX2_found_7 (by decide) (by omega) (fun c1 => ?_) (fun c1 => ?_)
  · refine g_iconst (pc := 38) C dX2_found_38 ?_
    exact g_ireturn (pc := 39) C rfl dX2_found_39 ⟨by
      unfold RXY
      first
      | (rw [if_pos (show (-5 ≤ x ∧ x ≤ 5) ∧ (-5 ≤ y ∧ y ≤ 5) by omega), H.2.2.2 (11 * (y + 5) + x + 5) (by omega) (by omega), show (y + 5) * 11 + x + 5 = 11 * (y + 5) + x + 5 by omega])
      | (rw [if_neg (show ¬ ((-5 ≤ x ∧ x ≤ 5) ∧ (-5 ≤ y ∧ y ≤ 5)) by omega), if_pos (by omega)]), rfl⟩
  · refine g_iload_n (pc := 10) C dX2_found_10 rfl rfl ?_
    refine g_bipush (pc := 11) C dX2_found_11 (by decide +kernel) ?_
    refine g_iconst (pc := 13) C dX2_found_13 ?_
    refine g_callSI (pc := 14) (As := [.int (iI y), .int (iI (-5)), .int (iI 5)]) (rest := []) C (c_X2_isIn l K _ y (-5) 5 (by omega) (by omega)) (cwS 3 C.hts gX2_found_X2_isIn rfl rfl rfl (by decide +kernel) ⟨by decide, by decide⟩) dX2_found_14 rfl (Nat.le_of_ble_eq_true rfl) ⟨Nat.zero_le _, Nat.zero_le _⟩ (fun iz14 w hp => ?_)
    obtain ⟨hz14, rfl⟩ := hp
    have hz14 : (iz14 = 1 ∧ ((-5) ≤ y ∧ y ≤ 5)) ∨ (iz14 = 0 ∧ ¬ ((-5) ≤ y ∧ y ≤ 5)) := hz14
    refine g_if_eq (pc := 17) (tgt := 38) C dX2_found_17 (by decide) (by omega) (fun c2 => ?_) (fun c2 => ?_)
    · refine g_iconst (pc := 38) C dX2_found_38 ?_
      exact g_ireturn (pc := 39) C rfl dX2_found_39 ⟨by
        unfold RXY
        first
        | (rw [if_pos (show (-5 ≤ x ∧ x ≤ 5) ∧ (-5 ≤ y ∧ y ≤ 5) by omega), H.2.2.2 (11 * (y + 5) + x + 5) (by omega) (by omega), show (y + 5) * 11 + x + 5 = 11 * (y + 5) + x + 5 by omega])
        | (rw [if_neg (show ¬ ((-5 ≤ x ∧ x ≤ 5) ∧ (-5 ≤ y ∧ y ≤ 5)) by omega), if_pos (by omega)]), rfl⟩
    · refine g_aload_n (pc := 20) C dX2_found_20 rfl rfl ?_
      refine g_get (pc := 21) (ref := "HexRoomsModel") (ci := 2) (N := 13) C 0 rfl rfl hinX2 7 (by decide) (by decide +kernel) rfl rfl dX2_found_21 ?_
      refine g_bipush (pc := 24) C dX2_found_24 (by decide +kernel) ?_
      refine g_iload_n (pc := 26) C dX2_found_26 rfl rfl ?_
      refine g_iconst (pc := 27) C dX2_found_27 ?_
      refine g_iadd (pc := 28) C dX2_found_28 ?_
      refine g_imul (pc := 29) C dX2_found_29 ?_
      refine g_iload_n (pc := 30) C dX2_found_30 rfl rfl ?_
      refine g_iadd (pc := 31) C dX2_found_31 ?_
      refine g_iconst (pc := 32) C dX2_found_32 ?_
      refine g_iadd (pc := 33) C dX2_found_33 ?_
      refine g_iaload (pc := 34) C 5 rfl (by omega) dX2_found_34 ?_
      refine g_goto (pc := 35) (tgt := 39) C dX2_found_35 (by decide) ?_
      exact g_ireturn (pc := 39) C rfl dX2_found_39 ⟨by
        unfold RXY
        first
        | (rw [if_pos (show (-5 ≤ x ∧ x ≤ 5) ∧ (-5 ≤ y ∧ y ≤ 5) by omega), H.2.2.2 (11 * (y + 5) + x + 5) (by omega) (by omega), show (y + 5) * 11 + x + 5 = 11 * (y + 5) + x + 5 by omega])
        | (rw [if_neg (show ¬ ((-5 ≤ x ∧ x ≤ 5) ∧ (-5 ≤ y ∧ y ≤ 5)) by omega), if_pos (by omega)]), rfl⟩

set_option maxHeartbeats 400000 in
set_option maxRecDepth 100000 in
theorem c_X2_next (l : Launch) (K : KK) (q : Nat → Nat) (S : Nat → Int → Int) (H : HT S) (r t : Int) (hr : 0 ≤ r ∧ r < S 0 2) (ht : 0 ≤ t ∧ t < 6) : hMI l yX2_next wsX2_next (rmL 2) K [.ref (q 0), .int (iI r), .int (iI t)] (wM K q S) (fun z w => z = NX (S 0 2) r t ∧ w = wM K q S) := by
  have hn := H.n
  have ht1 := H.2.2.1 r hr.1 hr.2
  have b1 := TA_b r
  have b2 := TD_b r
  have b3 := stX_b t
  have b4 := stY_b t
  refine in_MI (cc := cX2_next) (maxL := 3) (rt := (some .int)) (lv := [(0, .ref (q 0)), (1, .int (iI r)), (2, .int (iI t))]) (by decide) rfl (Nat.le_of_ble_eq_true rfl) rfl ?_
  intro p e s m args below meth c A C
  have hinX2 : ∀ w ∈ wsX20, w ∈ wsX2_next := by decide +kernel
  refine g_aload_n (pc := 0) C dX2_next_0 rfl rfl ?_
  refine g_aload_n (pc := 1) C dX2_next_1 rfl rfl ?_
  refine g_get (pc := 2) (ref := "HexRoomsModel") (ci := 2) (N := 13) C 0 rfl rfl hinX2 3 (by decide) (by decide +kernel) rfl rfl dX2_next_2 ?_
  refine g_iload_n (pc := 5) C dX2_next_5 rfl rfl ?_
  refine g_iaload (pc := 6) C 1 rfl (by omega) dX2_next_6 ?_
  refine g_getS (pc := 7) C C.hZ.2.2.1 (by decide +kernel) dX2_next_7 ?_
  refine g_iload_n (pc := 10) C dX2_next_10 rfl rfl ?_
  refine g_ialoadS (pc := 11) C C.hZ.2.2.1 (by omega) dX2_next_11 ?_
  refine g_iadd (pc := 12) C dX2_next_12 ?_
  refine g_aload_n (pc := 13) C dX2_next_13 rfl rfl ?_
  refine g_get (pc := 14) (ref := "HexRoomsModel") (ci := 2) (N := 13) C 0 rfl rfl hinX2 4 (by decide) (by decide +kernel) rfl rfl dX2_next_14 ?_
  refine g_iload_n (pc := 17) C dX2_next_17 rfl rfl ?_
  refine g_iaload (pc := 18) C 2 rfl (by omega) dX2_next_18 ?_
  refine g_getS (pc := 19) C C.hZ.2.2.2.1 (by decide +kernel) dX2_next_19 ?_
  refine g_iload_n (pc := 22) C dX2_next_22 rfl rfl ?_
  refine g_ialoadS (pc := 23) C C.hZ.2.2.2.1 (by omega) dX2_next_23 ?_
  refine g_iadd (pc := 24) C dX2_next_24 ?_
  refine g_callVI (pc := 25) (As := [.int (iI (((S 1) r) + (stX t))), .int (iI (((S 2) r) + (stY t)))]) (rest := []) C (c_X2_found l K q S H (((S 1) r) + (stX t)) (((S 2) r) + (stY t)) (by omega) (by omega)) (cwV 2 C.hts gX2_next_X2_found rfl rfl rfl (by decide +kernel) ⟨by decide, by decide⟩) 0 rfl rfl dX2_next_25 rfl (Nat.le_of_ble_eq_true rfl) ⟨Nat.zero_le _, Nat.zero_le _⟩ (fun z w hp => ?_)
  obtain ⟨rfl, rfl⟩ := hp
  exact g_ireturn (pc := 28) C rfl dX2_next_28 ⟨by rw [ht1.1, ht1.2.1]; exact NX_RXY _ (by omega) ht, rfl⟩

set_option maxHeartbeats 400000 in
set_option maxRecDepth 100000 in
theorem c_X2_on (l : Launch) (K : KK) (q : Nat → Nat) (S : Nat → Int → Int) (H : HT S) (hf : ∀ j, 0 ≤ j → j < S 0 2 → 0 ≤ S 4 j ∧ S 4 j ≤ 2) (hh : ∀ j, 0 ≤ j → j < 546 → 0 ≤ S 6 j ∧ S 6 j ≤ 1) (r t : Int) (hr : 0 ≤ r ∧ r < S 0 2) (ht : 0 ≤ t ∧ t < 6) : hMI l yX2_on wsX2_on (rmL 3) K [.ref (q 0), .int (iI r), .int (iI t)] (wM K q S) (fun z w => z = ON (S 0 2) (S 4) (S 6) r t ∧ w = wM K q S) := by
  have hn := H.n
  refine in_MI (cc := cX2_on) (maxL := 4) (rt := (some .int)) (lv := [(0, .ref (q 0)), (1, .int (iI r)), (2, .int (iI t))]) (by decide) rfl (Nat.le_of_ble_eq_true rfl) rfl ?_
  intro p e s m args below meth c A C
  have hinX2 : ∀ w ∈ wsX20, w ∈ wsX2_on := by decide +kernel
  refine g_aload_n (pc := 0) C dX2_on_0 rfl rfl ?_
  refine g_iload_n (pc := 1) C dX2_on_1 rfl rfl ?_
  refine g_iload_n (pc := 2) C dX2_on_2 rfl rfl ?_
  refine g_callVI (pc := 3) (As := [.int (iI r), .int (iI t)]) (rest := []) C (c_X2_next l K q S H r t (by omega) (by omega)) (cwV 2 C.hts gX2_on_X2_next rfl rfl rfl (by decide +kernel) ⟨by decide, by decide⟩) 0 rfl rfl dX2_on_3 rfl (Nat.le_of_ble_eq_true rfl) ⟨Nat.zero_le _, Nat.zero_le _⟩ (fun y3 w hp => ?_)
  obtain ⟨hy3, rfl⟩ := hp
  have hy3 : y3 = NX (S 0 2) r t := hy3
  have hyb3 := NX_b (S 0 2) r t
  rw [← hy3] at hyb3
  refine g_istore_n (pc := 6) (lv' := [(3, .int (iI y3)), (0, .ref (q 0)), (1, .int (iI r)), (2, .int (iI t))]) C dX2_on_6 rfl (by decide) rfl ?_
  refine g_iload_n (pc := 7) C dX2_on_7 rfl rfl ?_
  refine g_iconst (pc := 8) C dX2_on_8 ?_
  refine g_icmp_eq (pc := 9) (tgt := 36) C dX2_on_9 (by decide) (by omega) (by omega) (fun c1 => ?_) (fun c1 => ?_)
  · refine g_iconst (pc := 36) C dX2_on_36 ?_
    refine g_goto (pc := 37) (tgt := 41) C dX2_on_37 (by decide) ?_
    exact g_ireturn (pc := 41) C rfl dX2_on_41 ⟨by
      unfold ON
      rw [← hy3, show r * 6 + t = 6 * r + t by omega]
      split <;> omega, rfl⟩
  · refine g_aload_n (pc := 12) C dX2_on_12 rfl rfl ?_
    refine g_get (pc := 13) (ref := "HexRoomsModel") (ci := 2) (N := 13) C 0 rfl rfl hinX2 8 (by decide) (by decide +kernel) rfl rfl dX2_on_13 ?_
    refine g_bipush (pc := 16) C dX2_on_16 (by decide +kernel) ?_
    refine g_iload_n (pc := 18) C dX2_on_18 rfl rfl ?_
    refine g_imul (pc := 19) C dX2_on_19 ?_
    refine g_iload_n (pc := 20) C dX2_on_20 rfl rfl ?_
    refine g_iadd (pc := 21) C dX2_on_21 ?_
    refine g_baload (pc := 22) C 6 rfl (by omega) dX2_on_22 ?_
    have bd2 := hh ((6 * r) + t) (by omega) (by omega)
    refine g_if_ne (pc := 23) (tgt := 36) C dX2_on_23 (by decide) (by omega) (fun c3 => ?_) (fun c3 => ?_)
    · refine g_iconst (pc := 36) C dX2_on_36 ?_
      refine g_goto (pc := 37) (tgt := 41) C dX2_on_37 (by decide) ?_
      exact g_ireturn (pc := 41) C rfl dX2_on_41 ⟨by
        unfold ON
        rw [← hy3, show r * 6 + t = 6 * r + t by omega]
        split <;> omega, rfl⟩
    · refine g_aload_n (pc := 26) C dX2_on_26 rfl rfl ?_
      refine g_get (pc := 27) (ref := "HexRoomsModel") (ci := 2) (N := 13) C 0 rfl rfl hinX2 6 (by decide) (by decide +kernel) rfl rfl dX2_on_27 ?_
      refine g_iload_n (pc := 30) C dX2_on_30 rfl rfl ?_
      refine g_iaload (pc := 31) C 4 rfl (by omega) dX2_on_31 ?_
      have bd4 := hf y3 (by omega) (by omega)
      refine g_iconst (pc := 32) C dX2_on_32 ?_
      refine g_icmp_ne (pc := 33) (tgt := 40) C dX2_on_33 (by decide) (by omega) (by omega) (fun c5 => ?_) (fun c5 => ?_)
      · refine g_iload_n (pc := 40) C dX2_on_40 rfl rfl ?_
        exact g_ireturn (pc := 41) C rfl dX2_on_41 ⟨by
          unfold ON
          rw [← hy3, show r * 6 + t = 6 * r + t by omega]
          split <;> omega, rfl⟩
      · refine g_iconst (pc := 36) C dX2_on_36 ?_
        refine g_goto (pc := 37) (tgt := 41) C dX2_on_37 (by decide) ?_
        exact g_ireturn (pc := 41) C rfl dX2_on_41 ⟨by
          unfold ON
          rw [← hy3, show r * 6 + t = 6 * r + t by omega]
          split <;> omega, rfl⟩

set_option maxHeartbeats 400000 in
set_option maxRecDepth 100000 in
theorem c_X2_sidesOn (l : Launch) (K : KK) (q : Nat → Nat) (S : Nat → Int → Int) (H : HT S) (hf : ∀ j, 0 ≤ j → j < S 0 2 → 0 ≤ S 4 j ∧ S 4 j ≤ 2) (hh : ∀ j, 0 ≤ j → j < 546 → 0 ≤ S 6 j ∧ S 6 j ≤ 1) (r : Int) (hr : 0 ≤ r ∧ r < S 0 2) : hMI l yX2_sidesOn wsX2_sidesOn (rmL 4) K [.ref (q 0), .int (iI r)] (wM K q S) (fun z w => z = sm (fun t => if ON (S 0 2) (S 4) (S 6) r t = -1 then 0 else 1) 0 6 ∧ w = wM K q S) := by
  have hn := H.n
  refine in_MI (cc := cX2_sidesOn) (maxL := 4) (rt := (some .int)) (lv := [(0, .ref (q 0)), (1, .int (iI r))]) (by decide) rfl (Nat.le_of_ble_eq_true rfl) rfl ?_
  intro p e s m args below meth c A C
  refine g_iconst (pc := 0) C dX2_sidesOn_0 ?_
  refine g_istore_n (pc := 1) (lv' := [(2, .int (iI 0)), (0, .ref (q 0)), (1, .int (iI r))]) C dX2_sidesOn_1 rfl (by decide) rfl ?_
  refine g_iconst (pc := 2) C dX2_sidesOn_2 ?_
  refine g_istore_n (pc := 3) (lv' := [(3, .int (iI 0)), (2, .int (iI 0)), (0, .ref (q 0)), (1, .int (iI r))]) C dX2_sidesOn_3 rfl (by decide) rfl ?_
  have loop4 : ∀ (fu : Nat) (acc : Int) (t : Int), (0 ≤ t ∧ t ≤ 6) → (acc = sm (fun t => if ON (S 0 2) (S 4) (S 6) r t = -1 then 0 else 1) 0 t) → 6 - t < (fu : Int) → hG p l e (rmL 4) s m args below meth c 4 K A 0 0 (QI K A below args s (fun z w => z = sm (fun t => if ON (S 0 2) (S 4) (S 6) r t = -1 then 0 else 1) 0 6 ∧ w = wM K q S)) 4 [(3, .int (iI t)), (2, .int (iI acc)), (0, .ref (q 0)), (1, .int (iI r))] [] (wM K q S) := by
    intro fu
    induction fu with
    | zero =>
      intro acc t h1 h2 hm
      exact absurd hm (by omega)
    | succ fu ih4 =>
      intro acc t h1 h2 hm
      refine g_iload_n (pc := 4) C dX2_sidesOn_4 rfl rfl ?_
      refine g_bipush (pc := 5) C dX2_sidesOn_5 (by decide +kernel) ?_
      refine g_icmp_ge (pc := 7) (tgt := 34) C dX2_sidesOn_7 (by decide) (by omega) (by omega) (fun c1 => ?_) (fun c1 => ?_)
      · refine g_iload_n (pc := 34) C dX2_sidesOn_34 rfl rfl ?_
        exact g_ireturn (pc := 35) C rfl dX2_sidesOn_35 ⟨by rw [h2, show t = 6 by omega], rfl⟩
      · refine g_iload_n (pc := 10) C dX2_sidesOn_10 rfl rfl ?_
        refine g_aload_n (pc := 11) C dX2_sidesOn_11 rfl rfl ?_
        refine g_iload_n (pc := 12) C dX2_sidesOn_12 rfl rfl ?_
        refine g_iload_n (pc := 13) C dX2_sidesOn_13 rfl rfl ?_
        refine g_callVI (pc := 14) (As := [.int (iI r), .int (iI t)]) (rest := [.int (iI acc)]) C (c_X2_on l K q S H hf hh r t (show 0 ≤ r ∧ r < S 0 2 by omega) (by omega)) (cwV 2 C.hts gX2_sidesOn_X2_on rfl rfl rfl (by decide +kernel) ⟨by decide, by decide⟩) 0 rfl rfl dX2_sidesOn_14 rfl (Nat.le_of_ble_eq_true rfl) ⟨Nat.zero_le _, Nat.zero_le _⟩ (fun z w hp => ?_)
        obtain ⟨hz, rfl⟩ := hp
        have hz : z = ON (S 0 2) (S 4) (S 6) r t := hz
        subst hz
        have hb := ON_b (S 0 2) (S 4) (S 6) r t
        refine g_iconst (pc := 17) C dX2_sidesOn_17 ?_
        refine g_icmp_ne (pc := 18) (tgt := 25) C dX2_sidesOn_18 (by decide) (by omega) (by omega) (fun c2 => ?_) (fun c2 => ?_)
        · refine g_iconst (pc := 25) C dX2_sidesOn_25 ?_
          refine g_iadd (pc := 26) C dX2_sidesOn_26 ?_
          refine g_istore_n (pc := 27) (lv' := [(2, .int (iI (acc + 1))), (3, .int (iI t)), (0, .ref (q 0)), (1, .int (iI r))]) C dX2_sidesOn_27 rfl (by decide) rfl ?_
          refine g_iinc (pc := 28) (lv' := [(3, .int (iI (t + 1))), (2, .int (iI (acc + 1))), (0, .ref (q 0)), (1, .int (iI r))]) C dX2_sidesOn_28 rfl (by decide) rfl ?_
          refine g_goto (pc := 31) (tgt := 4) C dX2_sidesOn_31 (by decide) ?_
          exact ih4 (acc + 1) (t + 1) (by omega) (by rw [sm_s _ h1.1, ← h2]; split <;> omega) (by omega)
        · refine g_iconst (pc := 21) C dX2_sidesOn_21 ?_
          refine g_goto (pc := 22) (tgt := 26) C dX2_sidesOn_22 (by decide) ?_
          refine g_iadd (pc := 26) C dX2_sidesOn_26 ?_
          refine g_istore_n (pc := 27) (lv' := [(2, .int (iI (acc + 0))), (3, .int (iI t)), (0, .ref (q 0)), (1, .int (iI r))]) C dX2_sidesOn_27 rfl (by decide) rfl ?_
          refine g_iinc (pc := 28) (lv' := [(3, .int (iI (t + 1))), (2, .int (iI (acc + 0))), (0, .ref (q 0)), (1, .int (iI r))]) C dX2_sidesOn_28 rfl (by decide) rfl ?_
          refine g_goto (pc := 31) (tgt := 4) C dX2_sidesOn_31 (by decide) ?_
          exact ih4 (acc + 0) (t + 1) (by omega) (by rw [sm_s _ h1.1, ← h2]; split <;> omega) (by omega)
  exact loop4 (7) 0 0 (by omega) (by rw [sm_0]) (by omega)

set_option maxHeartbeats 400000 in
set_option maxRecDepth 100000 in
theorem c_X2_shine (l : Launch) (K : KK) (q : Nat → Nat) (S : Nat → Int → Int) (H : HT S) (hf : ∀ j, 0 ≤ j → j < S 0 2 → 0 ≤ S 4 j ∧ S 4 j ≤ 2) (hh : ∀ j, 0 ≤ j → j < 546 → 0 ≤ S 6 j ∧ S 6 j ≤ 1) (r : Int) (hr : 0 ≤ r ∧ r < S 0 2) : hMV l yX2_shine wsX2_shine (rmL 4) K [.ref (q 0), .int (iI r)] (wM K q S) (fun w => ∃ L : Int → Int, w = wM K q (sA S 7 L) ∧ ∀ j, 0 ≤ j → j < S 0 2 → L j = S 7 j + sL (ind j) (beam (S 0 2) (S 4) (S 6) r)) := by
  have hn := H.n
  refine in_MV (cc := cX2_shine) (maxL := 4) (rt := none) (lv := [(0, .ref (q 0)), (1, .int (iI r))]) (by decide) rfl (Nat.le_of_ble_eq_true rfl) rfl ?_
  intro p e s m args below meth c A C
  have hinX2 : ∀ w ∈ wsX20, w ∈ wsX2_shine := by decide +kernel
  refine g_aload_n (pc := 0) C dX2_shine_0 rfl rfl ?_
  refine g_get (pc := 1) (ref := "HexRoomsModel") (ci := 2) (N := 13) C 0 rfl rfl hinX2 9 (by decide) (by decide +kernel) rfl rfl dX2_shine_1 ?_
  refine g_iload_n (pc := 4) C dX2_shine_4 rfl rfl ?_
  refine g_dup2 (pc := 5) C dX2_shine_5 rfl rfl ?_
  refine g_iaload (pc := 6) C 7 rfl (by omega) dX2_shine_6 ?_
  refine g_iconst (pc := 7) C dX2_shine_7 ?_
  refine g_iadd (pc := 8) C dX2_shine_8 ?_
  refine g_iastore (pc := 9) (f := (S 7)) (ws' := (wM K q (sA S 7 (fU (S 7) r (((S 7) r) + 1))))) C 7 rfl (by omega) dX2_shine_9 rfl ?_
  refine g_iconst (pc := 10) C dX2_shine_10 ?_
  refine g_istore_n (pc := 11) (lv' := [(2, .int (iI 0)), (0, .ref (q 0)), (1, .int (iI r))]) C dX2_shine_11 rfl (by decide) rfl ?_
  have loop12 : ∀ (fu : Nat) (L : Int → Int) (t : Int), (0 ≤ t ∧ t ≤ 6) → (∀ j, 0 ≤ j → j < S 0 2 → L j = S 7 j + sL (ind j) (bm (S 0 2) (S 4) (S 6) r t.toNat)) → 6 - t < (fu : Int) → hG p l e (rmL 4) s m args below meth c 4 K A 0 0 (QV K A below args s (fun w => ∃ L : Int → Int, w = wM K q (sA S 7 L) ∧ ∀ j, 0 ≤ j → j < S 0 2 → L j = S 7 j + sL (ind j) (beam (S 0 2) (S 4) (S 6) r))) 12 [(2, .int (iI t)), (0, .ref (q 0)), (1, .int (iI r))] [] (wM K q (sA S 7 L)) := by
    intro fu
    induction fu with
    | zero =>
      intro L t h1 h2 hm
      exact absurd hm (by omega)
    | succ fu ih12 =>
      intro L t h1 h2 hm
      refine g_iload_n (pc := 12) C dX2_shine_12 rfl rfl ?_
      refine g_bipush (pc := 13) C dX2_shine_13 (by decide +kernel) ?_
      refine g_icmp_ge (pc := 15) (tgt := 56) C dX2_shine_15 (by decide) (by omega) (by omega) (fun c1 => ?_) (fun c1 => ?_)
      · exact g_return (pc := 56) C rfl dX2_shine_56 ⟨L, rfl, by rw [show t = 6 by omega] at h2; exact h2⟩
      · refine g_aload_n (pc := 18) C dX2_shine_18 rfl rfl ?_
        refine g_iload_n (pc := 19) C dX2_shine_19 rfl rfl ?_
        refine g_iload_n (pc := 20) C dX2_shine_20 rfl rfl ?_
        refine g_callVI (pc := 21) (As := [.int (iI r), .int (iI t)]) (rest := []) C (c_X2_on l K q (sA S 7 L) H hf hh r t (show 0 ≤ r ∧ r < S 0 2 by omega) (by omega)) (cwV 2 C.hts gX2_shine_X2_on rfl rfl rfl (by decide +kernel) ⟨by decide, by decide⟩) 0 rfl rfl dX2_shine_21 rfl (Nat.le_of_ble_eq_true rfl) ⟨Nat.zero_le _, Nat.zero_le _⟩ (fun z w hp => ?_)
        obtain ⟨hz, rfl⟩ := hp
        have hz : z = ON (S 0 2) (S 4) (S 6) r t := hz
        subst hz
        have hb := ON_b (S 0 2) (S 4) (S 6) r t
        refine g_istore_n (pc := 24) (lv' := [(3, .int (iI (ON (S 0 2) (S 4) (S 6) r t))), (2, .int (iI t)), (0, .ref (q 0)), (1, .int (iI r))]) C dX2_shine_24 rfl (by decide) rfl ?_
        have loop25 : ∀ (fu : Nat) (L2 : Int → Int) (x : Int) (l0 : List Int) (k : Nat), (x = -1 ∨ (0 ≤ x ∧ x < S 0 2)) → (∀ j, 0 ≤ j → j < S 0 2 → L2 j = S 7 j + sL (ind j) l0) → (l0 ++ rayN (S 0 2) (S 4) (S 6) t k x = bm (S 0 2) (S 4) (S 6) r (t.toNat + 1)) → (MU x t ≤ k) → (k : Int) - 0 < (fu : Int) → hG p l e (rmL 4) s m args below meth c 4 K A 0 0 (QV K A below args s (fun w => ∃ L : Int → Int, w = wM K q (sA S 7 L) ∧ ∀ j, 0 ≤ j → j < S 0 2 → L j = S 7 j + sL (ind j) (beam (S 0 2) (S 4) (S 6) r))) 25 [(3, .int (iI x)), (2, .int (iI t)), (0, .ref (q 0)), (1, .int (iI r))] [] (wM K q (sA S 7 L2)) := by
          intro fu
          induction fu with
          | zero =>
            intro L2 x l0 k h4 h6 h7 h8 hm
            exact absurd hm (by omega)
          | succ fu ih25 =>
            intro L2 x l0 k h4 h6 h7 h8 hm
            refine g_iload_n (pc := 25) C dX2_shine_25 rfl rfl ?_
            refine g_iconst (pc := 26) C dX2_shine_26 ?_
            refine g_icmp_eq (pc := 27) (tgt := 50) C dX2_shine_27 (by decide) (by omega) (by omega) (fun c2 => ?_) (fun c2 => ?_)
            · refine g_iinc (pc := 50) (lv' := [(2, .int (iI (t + 1))), (3, .int (iI x)), (0, .ref (q 0)), (1, .int (iI r))]) C dX2_shine_50 rfl (by decide) rfl ?_
              refine g_goto (pc := 53) (tgt := 12) C dX2_shine_53 (by decide) ?_
              refine g_sub (lv' := [(2, .int (iI (t + 1))), (0, .ref (q 0)), (1, .int (iI r))]) [0, 2, 3] rfl ?_
              have hl0 : l0 = bm (S 0 2) (S 4) (S 6) r (t.toNat + 1) := by
                have e := h7
                rw [show x = -1 by omega, rayN_none, List.append_nil] at e
                exact e
              exact ih12 L2 (t + 1) (by omega) (fun j h3 h4 => by rw [h6 j h3 h4, hl0, show (t + 1).toNat = t.toNat + 1 by omega]) (by omega)
            · have hk1 : ∃ k2, k = k2 + 1 := by
                have h11 : ¬ MU x t ≤ 0 := by
                  have h12 := (TP_f (r := x) (t := t) (by omega) (by omega)).2.1
                  unfold MU
                  rw [if_neg (by omega)]
                  omega
                exact ⟨k - 1, by omega⟩
              obtain ⟨k2, rfl⟩ := hk1
              refine g_aload_n (pc := 30) C dX2_shine_30 rfl rfl ?_
              refine g_get (pc := 31) (ref := "HexRoomsModel") (ci := 2) (N := 13) C 0 rfl rfl hinX2 9 (by decide) (by decide +kernel) rfl rfl dX2_shine_31 ?_
              refine g_iload_n (pc := 34) C dX2_shine_34 rfl rfl ?_
              refine g_dup2 (pc := 35) C dX2_shine_35 rfl rfl ?_
              refine g_iaload (pc := 36) (f := L2) C 7 rfl (by omega) dX2_shine_36 ?_
              refine g_iconst (pc := 37) C dX2_shine_37 ?_
              refine g_iadd (pc := 38) C dX2_shine_38 ?_
              refine g_iastore (pc := 39) (f := L2) (ws' := (wM K q (sA S 7 (fU L2 x ((L2 x) + 1))))) C 7 rfl (by omega) dX2_shine_39 rfl ?_
              refine g_aload_n (pc := 40) C dX2_shine_40 rfl rfl ?_
              refine g_iload_n (pc := 41) C dX2_shine_41 rfl rfl ?_
              refine g_iload_n (pc := 42) C dX2_shine_42 rfl rfl ?_
              refine g_callVI (pc := 43) (As := [.int (iI x), .int (iI t)]) (rest := []) C (c_X2_on l K q (sA S 7 (fU L2 x ((L2 x) + 1))) H hf hh x t (show 0 ≤ x ∧ x < S 0 2 by omega) (by omega)) (cwV 2 C.hts gX2_shine_X2_on rfl rfl rfl (by decide +kernel) ⟨by decide, by decide⟩) 0 rfl rfl dX2_shine_43 rfl (Nat.le_of_ble_eq_true rfl) ⟨Nat.zero_le _, Nat.zero_le _⟩ (fun z w hp => ?_)
              obtain ⟨hz, rfl⟩ := hp
              have hz : z = ON (S 0 2) (S 4) (S 6) x t := hz
              subst hz
              have hb := ON_b (S 0 2) (S 4) (S 6) x t
              refine g_istore_n (pc := 46) (lv' := [(3, .int (iI (ON (S 0 2) (S 4) (S 6) x t))), (2, .int (iI t)), (0, .ref (q 0)), (1, .int (iI r))]) C dX2_shine_46 rfl (by decide) rfl ?_
              refine g_goto (pc := 47) (tgt := 25) C dX2_shine_47 (by decide) ?_
              exact ih25 (fU L2 x ((L2 x) + 1)) (ON (S 0 2) (S 4) (S 6) x t) (l0 ++ [x]) k2 (by omega) (fun j h10 h11 => by
                rw [sL_app]
                show fU L2 x (L2 x + 1) j = S 7 j + (sL (ind j) l0 + (ind j x + 0))
                unfold fU ind
                by_cases e : j = x
                · have := h6 x (by omega) (by omega)
                  unfold ind at this
                  rw [if_pos e, if_pos e.symm, e]
                  omega
                · have := h6 j h10 h11
                  unfold ind at this
                  rw [if_neg e, if_neg (fun w => e w.symm)]
                  omega) (by rw [← h7, rayN_some _ _ _ _ _ (by omega : ¬ x = -1), List.append_assoc]; rfl) (by have := MU_s (S 0 2) (S 4) (S 6) (x := x) (t := t) (by omega) (by omega); omega) (by omega)
        exact loop25 (12) L (ON (S 0 2) (S 4) (S 6) r t) (bm (S 0 2) (S 4) (S 6) r t.toNat) 11 (by omega) h2 (by show _ = bm (S 0 2) (S 4) (S 6) r t.toNat ++ ray (S 0 2) (S 4) (S 6) r t.toNat; rw [show ((t.toNat : Nat) : Int) = t by omega]; rfl) (MU_b (by omega) (by omega)).2 (by omega)
  exact loop12 (7) (fU (S 7) r (((S 7) r) + 1)) 0 (by omega) (fun j h3 h4 => by
    show fU (S 7) r (S 7 r + 1) j = S 7 j + (ind j r + 0)
    unfold fU ind
    by_cases e : j = r
    · rw [if_pos e, if_pos e.symm, e]; omega
    · rw [if_neg e, if_neg (fun w => e w.symm)]; omega) (by omega)

set_option maxHeartbeats 400000 in
set_option maxRecDepth 100000 in
theorem c_X2_lit (l : Launch) (K : KK) (q : Nat → Nat) (S : Nat → Int → Int) (H : HT S) (hf : ∀ j, 0 ≤ j → j < S 0 2 → 0 ≤ S 4 j ∧ S 4 j ≤ 2) (hh : ∀ j, 0 ≤ j → j < 546 → 0 ≤ S 6 j ∧ S 6 j ≤ 1) : hMI l yX2_lit wsX2_lit (rmL 5) K [.ref (q 0)] (wM K q S) (fun z w => z = LIT (S 0 2) (S 4) (S 6) ∧ ∃ L : Int → Int, w = wM K q (sA S 7 L) ∧ ∀ j, 0 ≤ j → j < S 0 2 → L j = LT (S 0 2) (S 4) (S 6) (S 0 2) j) := by
  have hn := H.n
  refine in_MI (cc := cX2_lit) (maxL := 3) (rt := (some .int)) (lv := [(0, .ref (q 0))]) (by decide) rfl (Nat.le_of_ble_eq_true rfl) rfl ?_
  intro p e s m args below meth c A C
  have hinX2 : ∀ w ∈ wsX20, w ∈ wsX2_lit := by decide +kernel
  refine g_iconst (pc := 0) C dX2_lit_0 ?_
  refine g_istore_n (pc := 1) (lv' := [(1, .int (iI 0)), (0, .ref (q 0))]) C dX2_lit_1 rfl (by decide) rfl ?_
  have loop2 : ∀ (fu : Nat) (i : Int), (0 ≤ i ∧ i ≤ S 0 2) → S 0 2 - i < (fu : Int) → hG p l e (rmL 5) s m args below meth c 3 K A 0 0 (QI K A below args s (fun z w => z = LIT (S 0 2) (S 4) (S 6) ∧ ∃ L : Int → Int, w = wM K q (sA S 7 L) ∧ ∀ j, 0 ≤ j → j < S 0 2 → L j = LT (S 0 2) (S 4) (S 6) (S 0 2) j)) 2 [(1, .int (iI i)), (0, .ref (q 0))] [] (wM K q (sA S 7 (fF (S 7) i 0))) := by
    intro fu
    induction fu with
    | zero =>
      intro i h1 hm
      exact absurd hm (by omega)
    | succ fu ih2 =>
      intro i h1 hm
      refine g_iload_n (pc := 2) C dX2_lit_2 rfl rfl ?_
      refine g_aload_n (pc := 3) C dX2_lit_3 rfl rfl ?_
      refine g_get (pc := 4) (v := .int (iI ((S 0) 2))) (ref := "HexRoomsModel") (ci := 2) (N := 13) C 0 rfl rfl hinX2 2 (by decide) (by decide +kernel) rfl rfl dX2_lit_4 ?_
      refine g_icmp_ge (pc := 7) (tgt := 23) C dX2_lit_7 (by decide) (by omega) (by omega) (fun c1 => ?_) (fun c1 => ?_)
      · refine g_iconst (pc := 23) C dX2_lit_23 ?_
        refine g_istore_n (pc := 24) (lv' := [(1, .int (iI 0)), (0, .ref (q 0))]) C dX2_lit_24 rfl (by decide) rfl ?_
        have loop25 : ∀ (fu : Nat) (L : Int → Int) (r : Int), (0 ≤ r ∧ r ≤ S 0 2) → (∀ j, 0 ≤ j → j < S 0 2 → L j = LT (S 0 2) (S 4) (S 6) r j) → S 0 2 - r < (fu : Int) → hG p l e (rmL 5) s m args below meth c 3 K A 0 0 (QI K A below args s (fun z w => z = LIT (S 0 2) (S 4) (S 6) ∧ ∃ L : Int → Int, w = wM K q (sA S 7 L) ∧ ∀ j, 0 ≤ j → j < S 0 2 → L j = LT (S 0 2) (S 4) (S 6) (S 0 2) j)) 25 [(1, .int (iI r)), (0, .ref (q 0))] [] (wM K q (sA S 7 L)) := by
          intro fu
          induction fu with
          | zero =>
            intro L r h2 h3 hm
            exact absurd hm (by omega)
          | succ fu ih25 =>
            intro L r h2 h3 hm
            refine g_iload_n (pc := 25) C dX2_lit_25 rfl rfl ?_
            refine g_aload_n (pc := 26) C dX2_lit_26 rfl rfl ?_
            refine g_get (pc := 27) (v := .int (iI ((S 0) 2))) (ref := "HexRoomsModel") (ci := 2) (N := 13) C 0 rfl rfl hinX2 2 (by decide) (by decide +kernel) rfl rfl dX2_lit_27 ?_
            refine g_icmp_ge (pc := 30) (tgt := 54) C dX2_lit_30 (by decide) (by omega) (by omega) (fun c2 => ?_) (fun c2 => ?_)
            · have hrn : r = S 0 2 := by omega
              subst hrn
              have hLb : ∀ j, 0 ≤ j → j < S 0 2 → 0 ≤ L j ∧ L j ≤ 100000 := by
                intro j h4 h5
                have h8 := LT_b (S 0 2) (S 4) (S 6) (m := S 0 2) (by omega) j
                have h9 := h3 j h4 h5
                omega
              refine g_iconst (pc := 54) C dX2_lit_54 ?_
              refine g_istore_n (pc := 55) (lv' := [(1, .int (iI 0)), (0, .ref (q 0))]) C dX2_lit_55 rfl (by decide) rfl ?_
              refine g_iconst (pc := 56) C dX2_lit_56 ?_
              refine g_istore_n (pc := 57) (lv' := [(2, .int (iI 0)), (1, .int (iI 0)), (0, .ref (q 0))]) C dX2_lit_57 rfl (by decide) rfl ?_
              have loop58 : ∀ (fu : Nat) (many : Int) (k : Int), (0 ≤ k ∧ k ≤ S 0 2) → (many = sm (fun j => if 0 < LT (S 0 2) (S 4) (S 6) (S 0 2) j then 1 else 0) 0 k) → S 0 2 - k < (fu : Int) → hG p l e (rmL 5) s m args below meth c 3 K A 0 0 (QI K A below args s (fun z w => z = LIT (S 0 2) (S 4) (S 6) ∧ ∃ L : Int → Int, w = wM K q (sA S 7 L) ∧ ∀ j, 0 ≤ j → j < S 0 2 → L j = LT (S 0 2) (S 4) (S 6) (S 0 2) j)) 58 [(2, .int (iI k)), (1, .int (iI many)), (0, .ref (q 0))] [] (wM K q (sA S 7 L)) := by
                intro fu
                induction fu with
                | zero =>
                  intro many k h6 h7 hm
                  exact absurd hm (by omega)
                | succ fu ih58 =>
                  intro many k h6 h7 hm
                  refine g_iload_n (pc := 58) C dX2_lit_58 rfl rfl ?_
                  refine g_aload_n (pc := 59) C dX2_lit_59 rfl rfl ?_
                  refine g_get (pc := 60) (v := .int (iI ((S 0) 2))) (ref := "HexRoomsModel") (ci := 2) (N := 13) C 0 rfl rfl hinX2 2 (by decide) (by decide +kernel) rfl rfl dX2_lit_60 ?_
                  refine g_icmp_ge (pc := 63) (tgt := 89) C dX2_lit_63 (by decide) (by omega) (by omega) (fun c3 => ?_) (fun c3 => ?_)
                  · refine g_iload_n (pc := 89) C dX2_lit_89 rfl rfl ?_
                    exact g_ireturn (pc := 90) C rfl dX2_lit_90 ⟨by rw [h7, show k = S 0 2 by omega]; rfl, L, rfl, h3⟩
                  · refine g_iload_n (pc := 66) C dX2_lit_66 rfl rfl ?_
                    refine g_aload_n (pc := 67) C dX2_lit_67 rfl rfl ?_
                    refine g_get (pc := 68) (ref := "HexRoomsModel") (ci := 2) (N := 13) C 0 rfl rfl hinX2 9 (by decide) (by decide +kernel) rfl rfl dX2_lit_68 ?_
                    refine g_iload_n (pc := 71) C dX2_lit_71 rfl rfl ?_
                    refine g_iaload (pc := 72) (f := L) C 7 rfl (by omega) dX2_lit_72 ?_
                    have bd4 := hLb k (by omega) (by omega)
                    refine g_if_le (pc := 73) (tgt := 80) C dX2_lit_73 (by decide) (by omega) (fun c5 => ?_) (fun c5 => ?_)
                    · refine g_iconst (pc := 80) C dX2_lit_80 ?_
                      refine g_iadd (pc := 81) C dX2_lit_81 ?_
                      refine g_istore_n (pc := 82) (lv' := [(1, .int (iI (many + 0))), (2, .int (iI k)), (0, .ref (q 0))]) C dX2_lit_82 rfl (by decide) rfl ?_
                      refine g_iinc (pc := 83) (lv' := [(2, .int (iI (k + 1))), (1, .int (iI (many + 0))), (0, .ref (q 0))]) C dX2_lit_83 rfl (by decide) rfl ?_
                      refine g_goto (pc := 86) (tgt := 58) C dX2_lit_86 (by decide) ?_
                      exact ih58 (many + 0) (k + 1) (by omega) (by rw [sm_s _ h6.1, ← h7, ← h3 k h6.1 (by omega)]; split <;> omega) (by omega)
                    · refine g_iconst (pc := 76) C dX2_lit_76 ?_
                      refine g_goto (pc := 77) (tgt := 81) C dX2_lit_77 (by decide) ?_
                      refine g_iadd (pc := 81) C dX2_lit_81 ?_
                      refine g_istore_n (pc := 82) (lv' := [(1, .int (iI (many + 1))), (2, .int (iI k)), (0, .ref (q 0))]) C dX2_lit_82 rfl (by decide) rfl ?_
                      refine g_iinc (pc := 83) (lv' := [(2, .int (iI (k + 1))), (1, .int (iI (many + 1))), (0, .ref (q 0))]) C dX2_lit_83 rfl (by decide) rfl ?_
                      refine g_goto (pc := 86) (tgt := 58) C dX2_lit_86 (by decide) ?_
                      exact ih58 (many + 1) (k + 1) (by omega) (by rw [sm_s _ h6.1, ← h7, ← h3 k h6.1 (by omega)]; split <;> omega) (by omega)
              exact loop58 (92) 0 0 (by omega) (by rw [sm_0]) (by omega)
            · refine g_aload_n (pc := 33) C dX2_lit_33 rfl rfl ?_
              refine g_get (pc := 34) (ref := "HexRoomsModel") (ci := 2) (N := 13) C 0 rfl rfl hinX2 6 (by decide) (by decide +kernel) rfl rfl dX2_lit_34 ?_
              refine g_iload_n (pc := 37) C dX2_lit_37 rfl rfl ?_
              refine g_iaload (pc := 38) (f := (S 4)) C 4 rfl (by omega) dX2_lit_38 ?_
              have bd6 := hf r (by omega) (by omega)
              refine g_iconst (pc := 39) C dX2_lit_39 ?_
              refine g_icmp_ne (pc := 40) (tgt := 48) C dX2_lit_40 (by decide) (by omega) (by omega) (fun c7 => ?_) (fun c7 => ?_)
              · refine g_iinc (pc := 48) (lv' := [(1, .int (iI (r + 1))), (0, .ref (q 0))]) C dX2_lit_48 rfl (by decide) rfl ?_
                refine g_goto (pc := 51) (tgt := 25) C dX2_lit_51 (by decide) ?_
                exact ih25 L (r + 1) (by omega) (fun j h4 h5 => by rw [LT_s _ _ _ h2.1, if_neg (by omega), h3 j h4 h5]; omega) (by omega)
              · refine g_aload_n (pc := 43) C dX2_lit_43 rfl rfl ?_
                refine g_iload_n (pc := 44) C dX2_lit_44 rfl rfl ?_
                refine g_callVV (pc := 45) (As := [.int (iI r)]) (rest := []) C (c_X2_shine l K q (sA S 7 L) H hf hh r (show 0 ≤ r ∧ r < S 0 2 by omega)) (cwV 1 C.hts gX2_lit_X2_shine rfl rfl rfl (by decide +kernel) ⟨by decide, by decide⟩) 0 rfl rfl dX2_lit_45 rfl (Nat.le_of_ble_eq_true rfl) ⟨Nat.zero_le _, Nat.zero_le _⟩ (fun w hp => ?_)
                obtain ⟨L1, rfl, hL1⟩ := hp
                have hL1 : ∀ j, 0 ≤ j → j < S 0 2 → L1 j = L j + sL (ind j) (beam (S 0 2) (S 4) (S 6) r) := hL1
                refine g_iinc (pc := 48) (lv' := [(1, .int (iI (r + 1))), (0, .ref (q 0))]) C dX2_lit_48 rfl (by decide) rfl ?_
                refine g_goto (pc := 51) (tgt := 25) C dX2_lit_51 (by decide) ?_
                exact ih25 L1 (r + 1) (by omega) (fun j h4 h5 => by rw [hL1 j h4 h5, LT_s _ _ _ h2.1, if_pos (by omega), h3 j h4 h5]) (by omega)
        exact loop25 (92) (fF (S 7) i 0) 0 (by omega) (fun j h4 h5 => by rw [LT_0]; exact if_pos (by omega)) (by omega)
      · refine g_aload_n (pc := 10) C dX2_lit_10 rfl rfl ?_
        refine g_get (pc := 11) (ref := "HexRoomsModel") (ci := 2) (N := 13) C 0 rfl rfl hinX2 9 (by decide) (by decide +kernel) rfl rfl dX2_lit_11 ?_
        refine g_iload_n (pc := 14) C dX2_lit_14 rfl rfl ?_
        refine g_iconst (pc := 15) C dX2_lit_15 ?_
        refine g_iastore (pc := 16) (f := (fF (S 7) i 0)) (ws' := (wM K q (sA S 7 (fU (fF (S 7) i 0) i 0)))) C 7 rfl (by omega) dX2_lit_16 rfl ?_
        rw [fF_s (S 7) 0 h1.1]
        refine g_iinc (pc := 17) (lv' := [(1, .int (iI (i + 1))), (0, .ref (q 0))]) C dX2_lit_17 rfl (by decide) rfl ?_
        refine g_goto (pc := 20) (tgt := 2) C dX2_lit_20 (by decide) ?_
        exact ih2 (i + 1) (by omega) (by omega)
  have h0 := loop2 (92) 0 (by omega) (by omega)
  rw [fF_0, sA_self] at h0
  exact h0

set_option maxHeartbeats 400000 in
set_option maxRecDepth 100000 in
theorem c_X2_move (l : Launch) (K : KK) (q : Nat → Nat) (S : Nat → Int → Int) (k b : Int) (hk : 0 ≤ k ∧ k ≤ 5) (hb : 0 ≤ b ∧ b < 1000) : hMV l yX2_move wsX2_move (rmL 1) K [.ref (q 0), .int (iI k), .int (iI b)] (wM K q S) (fun w => ∃ v : Int → Int, w = wM K q (sA (sA S 10 v) 4 (rot k b (S 4) (S 4)))) := by
  have hfs := FR_SZ hk
  refine in_MV (cc := cX2_move) (maxL := 6) (rt := none) (lv := [(0, .ref (q 0)), (1, .int (iI k)), (2, .int (iI b))]) (by decide) rfl (Nat.le_of_ble_eq_true rfl) rfl ?_
  intro p e s m args below meth c A C
  have hinX2 : ∀ w ∈ wsX20, w ∈ wsX2_move := by decide +kernel
  refine g_iload_n (pc := 0) C dX2_move_0 rfl rfl ?_
  refine g_callSI (pc := 1) (As := [.int (iI k)]) (rest := []) C (c_X2_size l K _ k (by omega)) (cwS 1 C.hts gX2_move_X2_size rfl rfl rfl (by decide +kernel) ⟨by decide, by decide⟩) dX2_move_1 rfl (Nat.le_of_ble_eq_true rfl) ⟨Nat.zero_le _, Nat.zero_le _⟩ (fun z w hp => ?_)
  obtain ⟨rfl, rfl⟩ := hp
  refine g_istore_n (pc := 4) (lv' := [(3, .int (iI (SZ k))), (0, .ref (q 0)), (1, .int (iI k)), (2, .int (iI b))]) C dX2_move_4 rfl (by decide) rfl ?_
  refine g_iload_n (pc := 5) C dX2_move_5 rfl rfl ?_
  refine g_callSI (pc := 6) (As := [.int (iI k)]) (rest := []) C (c_X2_first l K _ k (by omega)) (cwS 1 C.hts gX2_move_X2_first rfl rfl rfl (by decide +kernel) ⟨by decide, by decide⟩) dX2_move_6 rfl (Nat.le_of_ble_eq_true rfl) ⟨Nat.zero_le _, Nat.zero_le _⟩ (fun z w hp => ?_)
  obtain ⟨rfl, rfl⟩ := hp
  refine g_istore (pc := 9) (lv' := [(4, .int (iI (FR k))), (3, .int (iI (SZ k))), (0, .ref (q 0)), (1, .int (iI k)), (2, .int (iI b))]) C dX2_move_9 (by decide) rfl ?_
  refine g_iconst (pc := 11) C dX2_move_11 ?_
  refine g_istore (pc := 12) (lv' := [(5, .int (iI 0)), (4, .int (iI (FR k))), (3, .int (iI (SZ k))), (0, .ref (q 0)), (1, .int (iI k)), (2, .int (iI b))]) C dX2_move_12 (by decide) rfl ?_
  have loop14 : ∀ (fu : Nat) (i : Int), (0 ≤ i ∧ i ≤ SZ k) → SZ k - i < (fu : Int) → hG p l e (rmL 1) s m args below meth c 6 K A 0 0 (QV K A below args s (fun w => ∃ v : Int → Int, w = wM K q (sA (sA S 10 v) 4 (rot k b (S 4) (S 4))))) 14 [(5, .int (iI i)), (4, .int (iI (FR k))), (3, .int (iI (SZ k))), (0, .ref (q 0)), (1, .int (iI k)), (2, .int (iI b))] [] (wM K q (sA S 10 (mvP k b (S 4) (S 10) i))) := by
    intro fu
    induction fu with
    | zero =>
      intro i h1 hm
      exact absurd hm (by omega)
    | succ fu ih14 =>
      intro i h1 hm
      refine g_iload (pc := 14) C dX2_move_14 rfl ?_
      refine g_iload_n (pc := 16) C dX2_move_16 rfl rfl ?_
      refine g_icmp_ge (pc := 17) (tgt := 47) C dX2_move_17 (by decide) (by omega) (by omega) (fun c1 => ?_) (fun c1 => ?_)
      · refine g_aload_n (pc := 47) C dX2_move_47 rfl rfl ?_
        refine g_get (pc := 48) (ref := "HexRoomsModel") (ci := 2) (N := 13) C 0 rfl rfl hinX2 12 (by decide) (by decide +kernel) rfl rfl dX2_move_48 ?_
        refine g_iconst (pc := 51) C dX2_move_51 ?_
        refine g_aload_n (pc := 52) C dX2_move_52 rfl rfl ?_
        refine g_get (pc := 53) (ref := "HexRoomsModel") (ci := 2) (N := 13) C 0 rfl rfl hinX2 6 (by decide) (by decide +kernel) rfl rfl dX2_move_53 ?_
        refine g_iload (pc := 56) C dX2_move_56 rfl ?_
        refine g_iload_n (pc := 58) C dX2_move_58 rfl rfl ?_
        refine g_copy (pc := 59) (f := (mvP k b (S 4) (S 10) i)) (g := (S 4)) (ws' := (wM K q (sA (sA S 10 (mvP k b (S 4) (S 10) i)) 4 (fC (mvP k b (S 4) (S 10) i) (S 4) 0 (FR k) (SZ k))))) C (by decide +kernel) (by decide +kernel) (by decide +kernel) (by decide +kernel) 10 4 rfl rfl (by omega) (by omega) (by omega) (by decide) (by decide) (by decide +kernel) dX2_move_59 rfl ?_
        exact g_return (pc := 62) C rfl dX2_move_62 ⟨mvP k b (S 4) (S 10) (SZ k), by rw [show i = SZ k by omega, mvP_n _ _ _ _ hk]⟩
      · refine g_aload_n (pc := 20) C dX2_move_20 rfl rfl ?_
        refine g_get (pc := 21) (ref := "HexRoomsModel") (ci := 2) (N := 13) C 0 rfl rfl hinX2 12 (by decide) (by decide +kernel) rfl rfl dX2_move_21 ?_
        refine g_iload (pc := 24) C dX2_move_24 rfl ?_
        refine g_iload_n (pc := 26) C dX2_move_26 rfl rfl ?_
        refine g_iadd (pc := 27) C dX2_move_27 ?_
        have hm := rot_m (b := b) hk (i + b)
        refine g_iload_n (pc := 28) C dX2_move_28 rfl rfl ?_
        refine g_irem (pc := 29) C dX2_move_29 (by omega) (by omega) ?_
        refine g_aload_n (pc := 30) C dX2_move_30 rfl rfl ?_
        refine g_get (pc := 31) (ref := "HexRoomsModel") (ci := 2) (N := 13) C 0 rfl rfl hinX2 6 (by decide) (by decide +kernel) rfl rfl dX2_move_31 ?_
        refine g_iload (pc := 34) C dX2_move_34 rfl ?_
        refine g_iload (pc := 36) C dX2_move_36 rfl ?_
        refine g_iadd (pc := 38) C dX2_move_38 ?_
        refine g_iaload (pc := 39) (f := (S 4)) C 4 rfl (by omega) dX2_move_39 ?_
        refine g_iastore (pc := 40) (f := (mvP k b (S 4) (S 10) i)) (ws' := (wM K q (sA S 10 (fU (mvP k b (S 4) (S 10) i) ((i + b) % (SZ k)) ((S 4) ((FR k) + i)))))) C 10 rfl (by omega) dX2_move_40 rfl ?_
        rw [mvP_s (S 4) (S 10) hk (by omega)]
        refine g_iinc (pc := 41) (lv' := [(5, .int (iI (i + 1))), (4, .int (iI (FR k))), (3, .int (iI (SZ k))), (0, .ref (q 0)), (1, .int (iI k)), (2, .int (iI b))]) C dX2_move_41 rfl (by decide) rfl ?_
        refine g_goto (pc := 44) (tgt := 14) C dX2_move_44 (by decide) ?_
        exact ih14 (i + 1) (by omega) (by omega)
  have h0 := loop14 (31) 0 (by omega) (by omega)
  rw [mvP_0 k b (S 4) (S 10) hk, sA_self] at h0
  exact h0

set_option maxHeartbeats 400000 in
set_option maxRecDepth 100000 in
theorem c_X2_moveAll (l : Launch) (K : KK) (q : Nat → Nat) (S : Nat → Int → Int) (H : HT S) (b : Int) (hb : 0 ≤ b ∧ b ≤ 5) : hMV l yX2_moveAll wsX2_moveAll (rmL 2) K [.ref (q 0), .int (iI b)] (wM K q S) (fun w => ∃ v F : Int → Int, w = wM K q (sA (sA S 10 v) 4 F) ∧ ∀ j, 0 ≤ j → j < S 0 2 → F j = AT (S 4) b j) := by
  have hn := H.n
  have hk9 := H.1
  refine in_MV (cc := cX2_moveAll) (maxL := 3) (rt := none) (lv := [(0, .ref (q 0)), (1, .int (iI b))]) (by decide) rfl (Nat.le_of_ble_eq_true rfl) rfl ?_
  intro p e s m args below meth c A C
  have hinX2 : ∀ w ∈ wsX20, w ∈ wsX2_moveAll := by decide +kernel
  refine g_iconst (pc := 0) C dX2_moveAll_0 ?_
  refine g_istore_n (pc := 1) (lv' := [(2, .int (iI 1)), (0, .ref (q 0)), (1, .int (iI b))]) C dX2_moveAll_1 rfl (by decide) rfl ?_
  have loop2 : ∀ (fu : Nat) (v : Int → Int) (F : Int → Int) (k : Int), (1 ≤ k ∧ k ≤ S 0 1 + 1) → (∀ j, 0 ≤ j → j < FR k → F j = AT (S 4) b j) → (∀ j, FR k ≤ j → F j = S 4 j) → S 0 1 + 1 - k < (fu : Int) → hG p l e (rmL 2) s m args below meth c 3 K A 0 0 (QV K A below args s (fun w => ∃ v F : Int → Int, w = wM K q (sA (sA S 10 v) 4 F) ∧ ∀ j, 0 ≤ j → j < S 0 2 → F j = AT (S 4) b j)) 2 [(2, .int (iI k)), (0, .ref (q 0)), (1, .int (iI b))] [] (wM K q (sA (sA S 10 v) 4 F)) := by
    intro fu
    induction fu with
    | zero =>
      intro v F k h1 h2 h3 hm
      exact absurd hm (by omega)
    | succ fu ih2 =>
      intro v F k h1 h2 h3 hm
      refine g_iload_n (pc := 2) C dX2_moveAll_2 rfl rfl ?_
      refine g_aload_n (pc := 3) C dX2_moveAll_3 rfl rfl ?_
      refine g_get (pc := 4) (v := .int (iI ((S 0) 1))) (ref := "HexRoomsModel") (ci := 2) (N := 13) C 0 rfl rfl hinX2 1 (by decide) (by decide +kernel) rfl rfl dX2_moveAll_4 ?_
      refine g_icmp_gt (pc := 7) (tgt := 24) C dX2_moveAll_7 (by decide) (by omega) (by omega) (fun c1 => ?_) (fun c1 => ?_)
      · exact g_return (pc := 24) C rfl dX2_moveAll_24 ⟨v, F, rfl, fun j h4 h5 => h2 j h4 (by rw [show k = S 0 1 + 1 by omega, ← H.2.1]; exact h5)⟩
      · refine g_aload_n (pc := 10) C dX2_moveAll_10 rfl rfl ?_
        refine g_iload_n (pc := 11) C dX2_moveAll_11 rfl rfl ?_
        refine g_iload_n (pc := 12) C dX2_moveAll_12 rfl rfl ?_
        refine g_iload_n (pc := 13) C dX2_moveAll_13 rfl rfl ?_
        refine g_imul (pc := 14) C dX2_moveAll_14 ?_
        have hmm := mul_5 (x := k) (y := b) (by omega) hb
        have hfz := FR_SZ (k := k) (by omega)
        have hfs := FR_s (k := k) (by omega)
        refine g_callVV (pc := 15) (As := [.int (iI k), .int (iI (k * b))]) (rest := []) C (c_X2_move l K q (sA (sA S 10 v) 4 F) k (k * b) (by omega) (by omega)) (cwV 2 C.hts gX2_moveAll_X2_move rfl rfl rfl (by decide +kernel) ⟨by decide, by decide⟩) 0 rfl rfl dX2_moveAll_15 rfl (Nat.le_of_ble_eq_true rfl) ⟨Nat.zero_le _, Nat.zero_le _⟩ (fun w hp => ?_)
        obtain ⟨v15, rfl⟩ := hp
        refine g_iinc (pc := 18) (lv' := [(2, .int (iI (k + 1))), (0, .ref (q 0)), (1, .int (iI b))]) C dX2_moveAll_18 rfl (by decide) rfl ?_
        refine g_goto (pc := 21) (tgt := 2) C dX2_moveAll_21 (by decide) ?_
        exact ih2 v15 (rot k (k * b) F F) (k + 1) (by omega) (fun j h4 h5 => by
          by_cases g : FR k ≤ j ∧ j < FR k + SZ k
          · exact AT_rot2 (by omega) g (fun i g0 _ => h3 i g0)
          · rw [rot_out g]
            exact h2 j h4 (by omega)) (fun j h4 => by
          rw [rot_out (by omega)]
          exact h3 j (by omega)) (by omega)
  exact loop2 (7) (S 10) (S 4) 1 (by omega) (fun j h4 h5 => by
    have : j = 0 := by
      have e : FR 1 = 1 := by decide
      omega
    rw [this, AT_0]) (fun j h4 => rfl) (by omega)
