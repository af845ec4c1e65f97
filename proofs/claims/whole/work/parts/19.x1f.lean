set_option maxHeartbeats 400000 in
set_option maxRecDepth 100000 in
theorem c_X1_needIndex_ok (l : Launch) (K : KK) (ws : va_W) (i b : Int) (hi : 0 ≤ i ∧ i < b ∧ b < 2147483648) : hMV l yX1_needIndex wsX1_needIndex (rmL 0) K [.int (iI i), .int (iI b)] ws (fun w => w = ws) := by
  refine in_MV (cc := cX1_needIndex) (maxL := 2) (rt := none) (lv := [(0, .int (iI i)), (1, .int (iI b))]) (by decide) rfl (Nat.le_of_ble_eq_true rfl) rfl ?_
  intro p e s m args below meth c A C
  refine g_iload_n (pc := 0) C dX1_needIndex_0 rfl rfl ?_
  refine g_if_lt (pc := 1) (tgt := 9) C dX1_needIndex_1 (by decide) (by omega) (fun c1 => ?_) (fun c1 => ?_)
  · exact absurd c1 (by omega)
  · refine g_iload_n (pc := 4) C dX1_needIndex_4 rfl rfl ?_
    refine g_iload_n (pc := 5) C dX1_needIndex_5 rfl rfl ?_
    refine g_icmp_lt (pc := 6) (tgt := 17) C dX1_needIndex_6 (by decide) (by omega) (by omega) (fun c2 => ?_) (fun c2 => ?_)
    · exact g_return (pc := 17) C rfl dX1_needIndex_17 rfl
    · exact absurd c2 (by omega)

set_option maxHeartbeats 400000 in
set_option maxRecDepth 100000 in
theorem c_X1_needNumber_ok (l : Launch) (K : KK) (ws : va_W) (i a b : Int) (hi : a ≤ i ∧ i ≤ b ∧ -2147483648 ≤ a ∧ b < 2147483648) : hMV l yX1_needNumber wsX1_needNumber (rmL 0) K [.int (iI i), .int (iI a), .int (iI b)] ws (fun w => w = ws) := by
  refine in_MV (cc := cX1_needNumber) (maxL := 3) (rt := none) (lv := [(0, .int (iI i)), (1, .int (iI a)), (2, .int (iI b))]) (by decide) rfl (Nat.le_of_ble_eq_true rfl) rfl ?_
  intro p e s m args below meth c A C
  refine g_iload_n (pc := 0) C dX1_needNumber_0 rfl rfl ?_
  refine g_iload_n (pc := 1) C dX1_needNumber_1 rfl rfl ?_
  refine g_icmp_lt (pc := 2) (tgt := 10) C dX1_needNumber_2 (by decide) (by omega) (by omega) (fun c1 => ?_) (fun c1 => ?_)
  · exact absurd c1 (by omega)
  · refine g_iload_n (pc := 5) C dX1_needNumber_5 rfl rfl ?_
    refine g_iload_n (pc := 6) C dX1_needNumber_6 rfl rfl ?_
    refine g_icmp_le (pc := 7) (tgt := 18) C dX1_needNumber_7 (by decide) (by omega) (by omega) (fun c2 => ?_) (fun c2 => ?_)
    · exact g_return (pc := 18) C rfl dX1_needNumber_18 rfl
    · exact absurd c2 (by omega)

set_option maxHeartbeats 400000 in
set_option maxRecDepth 100000 in
theorem c_X1_needRoom_ok (l : Launch) (K : KK) (q : Nat → Nat) (S : Nat → Int → Int) (hn : 7 ≤ S 0 10 ∧ S 0 10 ≤ 91) (r : Int) (hr : 0 ≤ r ∧ r < S 0 10) : hMV l yX1_needRoom wsX1_needRoom (rmL 1) K [.ref (q 0), .int (iI r)] (wX K q S) (fun w => w = wX K q S) := by
  refine in_MV (cc := cX1_needRoom) (maxL := 2) (rt := none) (lv := [(0, .ref (q 0)), (1, .int (iI r))]) (by decide) rfl (Nat.le_of_ble_eq_true rfl) rfl ?_
  intro p e s m args below meth c A C
  have hinX1 : ∀ w ∈ wsX10, w ∈ wsX1_needRoom := by decide +kernel
  refine g_iload_n (pc := 0) C dX1_needRoom_0 rfl rfl ?_
  refine g_aload_n (pc := 1) C dX1_needRoom_1 rfl rfl ?_
  refine g_get (pc := 2) (ref := "HexRooms") (ci := 1) (N := 11) C 0 rfl rfl hinX1 10 (by decide) (by decide +kernel) rfl rfl dX1_needRoom_2 ?_
  refine g_callSV (pc := 5) (As := [.int (iI r), .int (iI ((S 0) 10))]) (rest := []) C (c_X1_needIndex_ok l K _ r ((S 0) 10) (by omega)) (cwS 2 C.hts gX1_needRoom_X1_needIndex rfl rfl rfl (by decide +kernel) ⟨by decide, by decide⟩) dX1_needRoom_5 rfl (Nat.le_of_ble_eq_true rfl) ⟨Nat.zero_le _, Nat.zero_le _⟩ (fun w hp => ?_)
  subst hp
  exact g_return (pc := 8) C rfl dX1_needRoom_8 rfl

set_option maxHeartbeats 400000 in
set_option maxRecDepth 100000 in
theorem c_X1_needRing_ok (l : Launch) (K : KK) (q : Nat → Nat) (S : Nat → Int → Int) (hk9 : 1 ≤ S 0 9 ∧ S 0 9 ≤ 5) (r : Int) (hr : 0 ≤ r ∧ r ≤ S 0 9) : hMV l yX1_needRing wsX1_needRing (rmL 1) K [.ref (q 0), .int (iI r)] (wX K q S) (fun w => w = wX K q S) := by
  refine in_MV (cc := cX1_needRing) (maxL := 2) (rt := none) (lv := [(0, .ref (q 0)), (1, .int (iI r))]) (by decide) rfl (Nat.le_of_ble_eq_true rfl) rfl ?_
  intro p e s m args below meth c A C
  have hinX1 : ∀ w ∈ wsX10, w ∈ wsX1_needRing := by decide +kernel
  refine g_iload_n (pc := 0) C dX1_needRing_0 rfl rfl ?_
  refine g_aload_n (pc := 1) C dX1_needRing_1 rfl rfl ?_
  refine g_get (pc := 2) (ref := "HexRooms") (ci := 1) (N := 11) C 0 rfl rfl hinX1 9 (by decide) (by decide +kernel) rfl rfl dX1_needRing_2 ?_
  refine g_iconst (pc := 5) C dX1_needRing_5 ?_
  refine g_iadd (pc := 6) C dX1_needRing_6 ?_
  refine g_callSV (pc := 7) (As := [.int (iI r), .int (iI (((S 0) 9) + 1))]) (rest := []) C (c_X1_needIndex_ok l K _ r (((S 0) 9) + 1) (by omega)) (cwS 2 C.hts gX1_needRing_X1_needIndex rfl rfl rfl (by decide +kernel) ⟨by decide, by decide⟩) dX1_needRing_7 rfl (Nat.le_of_ble_eq_true rfl) ⟨Nat.zero_le _, Nat.zero_le _⟩ (fun w hp => ?_)
  subst hp
  exact g_return (pc := 10) C rfl dX1_needRing_10 rfl

set_option maxHeartbeats 400000 in
set_option maxRecDepth 100000 in
theorem c_X1_needDoor_ok (l : Launch) (K : KK) (q : Nat → Nat) (S : Nat → Int → Int) (hn : 7 ≤ S 0 10 ∧ S 0 10 ≤ 91) (r t : Int) (hr : 0 ≤ r ∧ r < S 0 10) (ht : 0 ≤ t ∧ t < 6) (hd : ¬ NX (S 0 10) r t = -1) : hMI l yX1_needDoor wsX1_needDoor (rmL 3) K [.ref (q 0), .int (iI r), .int (iI t)] (wX K q S) (fun z w => z = NX (S 0 10) r t ∧ w = (wX K q S)) := by
  refine in_MI (cc := cX1_needDoor) (maxL := 4) (rt := (some .int)) (lv := [(0, .ref (q 0)), (1, .int (iI r)), (2, .int (iI t))]) (by decide) rfl (Nat.le_of_ble_eq_true rfl) rfl ?_
  intro p e s m args below meth c A C
  refine g_aload_n (pc := 0) C dX1_needDoor_0 rfl rfl ?_
  refine g_iload_n (pc := 1) C dX1_needDoor_1 rfl rfl ?_
  refine g_callVV (pc := 2) (As := [.int (iI r)]) (rest := []) C (c_X1_needRoom_ok l K q S hn r (by omega)) (cwV 1 C.hts gX1_needDoor_X1_needRoom rfl rfl rfl (by decide +kernel) ⟨by decide, by decide⟩) 0 rfl rfl dX1_needDoor_2 rfl (Nat.le_of_ble_eq_true rfl) ⟨Nat.zero_le _, Nat.zero_le _⟩ (fun w hp => ?_)
  subst hp
  refine g_iload_n (pc := 5) C dX1_needDoor_5 rfl rfl ?_
  refine g_bipush (pc := 6) C dX1_needDoor_6 (by decide +kernel) ?_
  refine g_callSV (pc := 8) (As := [.int (iI t), .int (iI 6)]) (rest := []) C (c_X1_needIndex_ok l K _ t 6 (by omega)) (cwS 2 C.hts gX1_needDoor_X1_needIndex rfl rfl rfl (by decide +kernel) ⟨by decide, by decide⟩) dX1_needDoor_8 rfl (Nat.le_of_ble_eq_true rfl) ⟨Nat.zero_le _, Nat.zero_le _⟩ (fun w hp => ?_)
  subst hp
  refine g_aload_n (pc := 11) C dX1_needDoor_11 rfl rfl ?_
  refine g_iload_n (pc := 12) C dX1_needDoor_12 rfl rfl ?_
  refine g_iload_n (pc := 13) C dX1_needDoor_13 rfl rfl ?_
  refine g_callVI (pc := 14) (As := [.int (iI r), .int (iI t)]) (rest := []) C (c_X1_neighbour l K q S hn r t (by omega) ht) (cwV 2 C.hts gX1_needDoor_X1_neighbour rfl rfl rfl (by decide +kernel) ⟨by decide, by decide⟩) 0 rfl rfl dX1_needDoor_14 rfl (Nat.le_of_ble_eq_true rfl) ⟨Nat.zero_le _, Nat.zero_le _⟩ (fun z w hp => ?_)
  obtain ⟨rfl, rfl⟩ := hp
  have hb := NX_b (S 0 10) r t
  refine g_istore_n (pc := 17) (lv' := [(3, .int (iI (NX (S 0 10) r t))), (0, .ref (q 0)), (1, .int (iI r)), (2, .int (iI t))]) C dX1_needDoor_17 rfl (by decide) rfl ?_
  refine g_iload_n (pc := 18) C dX1_needDoor_18 rfl rfl ?_
  refine g_iconst (pc := 19) C dX1_needDoor_19 ?_
  refine g_icmp_ne (pc := 20) (tgt := 31) C dX1_needDoor_20 (by decide) (by omega) (by omega) (fun c1 => ?_) (fun c1 => ?_)
  · refine g_iload_n (pc := 31) C dX1_needDoor_31 rfl rfl ?_
    exact g_ireturn (pc := 32) C rfl dX1_needDoor_32 ⟨by omega, rfl⟩
  · exact absurd c1 (by omega)

set_option maxHeartbeats 400000 in
set_option maxRecDepth 100000 in
theorem c_X1_stepsBetween (l : Launch) (K : KK) (q : Nat → Nat) (S : Nat → Int → Int) (hn : 7 ≤ S 0 10 ∧ S 0 10 ≤ 91) (hf : ∀ j, 0 ≤ j → j < S 0 10 → 0 ≤ S 7 j ∧ S 7 j ≤ 2) (hh : ∀ j, 0 ≤ j → j < 546 → 0 ≤ S 8 j ∧ S 8 j ≤ 1) (a b : Int) (ha : 0 ≤ a ∧ a < S 0 10) (hb : 0 ≤ b ∧ b < S 0 10) : hMI l yX1_stepsBetween wsX1_stepsBetween (rmL 5) K [.ref (q 0), .int (iI a), .int (iI b)] (wX K q S) (fun z w => dR (S 0 10) (S 7) (S 8) a b z ∧ ∃ D u : Int → Int, w = wX K q (sA (sA S 13 D) 14 u)) := by
  refine in_MI (cc := cX1_stepsBetween) (maxL := 3) (rt := (some .int)) (lv := [(0, .ref (q 0)), (1, .int (iI a)), (2, .int (iI b))]) (by decide) rfl (Nat.le_of_ble_eq_true rfl) rfl ?_
  intro p e s m args below meth c A C
  have hinX1 : ∀ w ∈ wsX10, w ∈ wsX1_stepsBetween := by decide +kernel
  refine g_aload_n (pc := 0) C dX1_stepsBetween_0 rfl rfl ?_
  refine g_callVV (pc := 1) (As := []) (rest := []) C (c_X1_forgetSteps l K q S) (cwV 0 C.hts gX1_stepsBetween_X1_forgetSteps rfl rfl rfl (by decide +kernel) ⟨by decide, by decide⟩) 0 rfl rfl dX1_stepsBetween_1 rfl (Nat.le_of_ble_eq_true rfl) ⟨Nat.zero_le _, Nat.zero_le _⟩ (fun w hp => ?_)
  subst hp
  refine g_aload_n (pc := 4) C dX1_stepsBetween_4 rfl rfl ?_
  refine g_iload_n (pc := 5) C dX1_stepsBetween_5 rfl rfl ?_
  refine g_callVV (pc := 6) (As := [.int (iI a)]) (rest := []) C (c_X1_spreadFrom l K q (sA S 13 (fF (S 13) 91 (-1))) hn hf hh (fun j h0 h1 => fFm (S 13) ⟨h0, Int.lt_of_lt_of_le h1 hn.2⟩) a (show 0 ≤ a ∧ a < S 0 10 by omega) (if_pos (by omega))) (cwV 1 C.hts gX1_stepsBetween_X1_spreadFrom rfl rfl rfl (by decide +kernel) ⟨by decide, by decide⟩) 0 rfl rfl dX1_stepsBetween_6 rfl (Nat.le_of_ble_eq_true rfl) ⟨Nat.zero_le _, Nat.zero_le _⟩ (fun w hp => ?_)
  obtain ⟨D1, u1, e1, rfl, hB⟩ := hp
  have hB : BI (S 0 10) (S 7) (S 8) a (fF (S 13) 91 (-1)) D1 u1 e1 e1 := hB
  refine g_aload_n (pc := 9) C dX1_stepsBetween_9 rfl rfl ?_
  refine g_get (pc := 10) (ref := "HexRooms") (ci := 1) (N := 11) C 0 rfl rfl hinX1 7 (by decide) (by decide +kernel) rfl rfl dX1_stepsBetween_10 ?_
  refine g_iload_n (pc := 13) C dX1_stepsBetween_13 rfl rfl ?_
  refine g_iaload (pc := 14) (f := D1) C 13 rfl (by omega) dX1_stepsBetween_14 ?_
  exact g_ireturn (pc := 15) C rfl dX1_stepsBetween_15 ⟨BI_dR hB (by omega) (fun j h0 h1 => if_pos (by omega)) ha hb, D1, u1, rfl⟩

set_option maxHeartbeats 400000 in
set_option maxRecDepth 100000 in
theorem c_X1_parts (l : Launch) (K : KK) (q : Nat → Nat) (S : Nat → Int → Int) (hn : 7 ≤ S 0 10 ∧ S 0 10 ≤ 91) (hf : ∀ j, 0 ≤ j → j < S 0 10 → 0 ≤ S 7 j ∧ S 7 j ≤ 2) (hh : ∀ j, 0 ≤ j → j < 546 → 0 ≤ S 8 j ∧ S 8 j ≤ 1) : hMI l yX1_parts wsX1_parts (rmL 5) K [.ref (q 0)] (wX K q S) (fun z w => z = PC (S 0 10) (S 7) (S 8) (S 0 10) ∧ ∃ D u : Int → Int, w = wX K q (sA (sA S 13 D) 14 u)) := by
  refine in_MI (cc := cX1_parts) (maxL := 3) (rt := (some .int)) (lv := [(0, .ref (q 0))]) (by decide) rfl (Nat.le_of_ble_eq_true rfl) rfl ?_
  intro p e s m args below meth c A C
  have hinX1 : ∀ w ∈ wsX10, w ∈ wsX1_parts := by decide +kernel
  refine g_aload_n (pc := 0) C dX1_parts_0 rfl rfl ?_
  refine g_callVV (pc := 1) (As := []) (rest := []) C (c_X1_forgetSteps l K q S) (cwV 0 C.hts gX1_parts_X1_forgetSteps rfl rfl rfl (by decide +kernel) ⟨by decide, by decide⟩) 0 rfl rfl dX1_parts_1 rfl (Nat.le_of_ble_eq_true rfl) ⟨Nat.zero_le _, Nat.zero_le _⟩ (fun w hp => ?_)
  subst hp
  refine g_iconst (pc := 4) C dX1_parts_4 ?_
  refine g_istore_n (pc := 5) (lv' := [(1, .int (iI 0)), (0, .ref (q 0))]) C dX1_parts_5 rfl (by decide) rfl ?_
  refine g_iconst (pc := 6) C dX1_parts_6 ?_
  refine g_istore_n (pc := 7) (lv' := [(2, .int (iI 0)), (1, .int (iI 0)), (0, .ref (q 0))]) C dX1_parts_7 rfl (by decide) rfl ?_
  have loop8 : ∀ (fu : Nat) (D : Int → Int) (u : Int → Int) (acc : Int) (r : Int), (0 ≤ r ∧ r ≤ S 0 10) → (∀ j, 0 ≤ j → j < S 0 10 → -1 ≤ D j ∧ D j ≤ 90) → (VS (S 0 10) (S 7) (S 8) D r) → (acc = PC (S 0 10) (S 7) (S 8) r) → S 0 10 - r < (fu : Int) → hG p l e (rmL 5) s m args below meth c 3 K A 0 0 (QI K A below args s (fun z w => z = PC (S 0 10) (S 7) (S 8) (S 0 10) ∧ ∃ D u : Int → Int, w = wX K q (sA (sA S 13 D) 14 u))) 8 [(2, .int (iI r)), (1, .int (iI acc)), (0, .ref (q 0))] [] (wX K q (sA (sA S 13 D) 14 u)) := by
    intro fu
    induction fu with
    | zero =>
      intro D u acc r h1 hD hV hacc hm
      exact absurd hm (by omega)
    | succ fu ih8 =>
      intro D u acc r h1 hD hV hacc hm
      refine g_iload_n (pc := 8) C dX1_parts_8 rfl rfl ?_
      refine g_aload_n (pc := 9) C dX1_parts_9 rfl rfl ?_
      refine g_get (pc := 10) (v := .int (iI ((S 0) 10))) (ref := "HexRooms") (ci := 1) (N := 11) C 0 rfl rfl hinX1 10 (by decide) (by decide +kernel) rfl rfl dX1_parts_10 ?_
      refine g_icmp_ge (pc := 13) (tgt := 50) C dX1_parts_13 (by decide) (by omega) (by omega) (fun c1 => ?_) (fun c1 => ?_)
      · refine g_iload_n (pc := 50) C dX1_parts_50 rfl rfl ?_
        exact g_ireturn (pc := 51) C rfl dX1_parts_51 ⟨by rw [hacc, show r = S 0 10 by omega], D, u, rfl⟩
      · refine g_aload_n (pc := 16) C dX1_parts_16 rfl rfl ?_
        refine g_get (pc := 17) (ref := "HexRooms") (ci := 1) (N := 11) C 0 rfl rfl hinX1 1 (by decide) (by decide +kernel) rfl rfl dX1_parts_17 ?_
        refine g_iload_n (pc := 20) C dX1_parts_20 rfl rfl ?_
        refine g_iaload (pc := 21) (f := (S 7)) C 7 rfl (by omega) dX1_parts_21 ?_
        have bd2 := hf r (by omega) (by omega)
        refine g_iconst (pc := 22) C dX1_parts_22 ?_
        refine g_icmp_eq (pc := 23) (tgt := 44) C dX1_parts_23 (by decide) (by omega) (by omega) (fun c3 => ?_) (fun c3 => ?_)
        · refine g_iinc (pc := 44) (lv' := [(2, .int (iI (r + 1))), (1, .int (iI acc)), (0, .ref (q 0))]) C dX1_parts_44 rfl (by decide) rfl ?_
          refine g_goto (pc := 47) (tgt := 8) C dX1_parts_47 (by decide) ?_
          exact ih8 D u acc (r + 1) (by omega) hD (by first | exact VS_wall hV (by omega) | exact VS_old hV (by omega) (by omega)) (by first | rw [PC_s _ _ _ h1.1, pI_0 (fun w => VS_yes hV (by omega) (by omega) w.2), hacc]; omega | rw [PC_s _ _ _ h1.1, pI_0 (fun w => w.1 (by omega)), hacc]; omega) (by omega)
        · refine g_aload_n (pc := 26) C dX1_parts_26 rfl rfl ?_
          refine g_get (pc := 27) (ref := "HexRooms") (ci := 1) (N := 11) C 0 rfl rfl hinX1 7 (by decide) (by decide +kernel) rfl rfl dX1_parts_27 ?_
          refine g_iload_n (pc := 30) C dX1_parts_30 rfl rfl ?_
          refine g_iaload (pc := 31) (f := D) C 13 rfl (by omega) dX1_parts_31 ?_
          have bd4 := hD r (by omega) (by omega)
          refine g_iconst (pc := 32) C dX1_parts_32 ?_
          refine g_icmp_ne (pc := 33) (tgt := 44) C dX1_parts_33 (by decide) (by omega) (by omega) (fun c5 => ?_) (fun c5 => ?_)
          · refine g_iinc (pc := 44) (lv' := [(2, .int (iI (r + 1))), (1, .int (iI acc)), (0, .ref (q 0))]) C dX1_parts_44 rfl (by decide) rfl ?_
            refine g_goto (pc := 47) (tgt := 8) C dX1_parts_47 (by decide) ?_
            exact ih8 D u acc (r + 1) (by omega) hD (by first | exact VS_wall hV (by omega) | exact VS_old hV (by omega) (by omega)) (by first | rw [PC_s _ _ _ h1.1, pI_0 (fun w => VS_yes hV (by omega) (by omega) w.2), hacc]; omega | rw [PC_s _ _ _ h1.1, pI_0 (fun w => w.1 (by omega)), hacc]; omega) (by omega)
          · refine g_iinc (pc := 36) (lv' := [(1, .int (iI (acc + 1))), (2, .int (iI r)), (0, .ref (q 0))]) C dX1_parts_36 rfl (by decide) rfl ?_
            refine g_aload_n (pc := 39) C dX1_parts_39 rfl rfl ?_
            refine g_iload_n (pc := 40) C dX1_parts_40 rfl rfl ?_
            refine g_callVV (pc := 41) (As := [.int (iI r)]) (rest := []) C (c_X1_spreadFrom l K q (sA (sA S 13 D) 14 u) hn hf hh hD r (show 0 ≤ r ∧ r < S 0 10 by omega) (show D r = -1 by omega)) (cwV 1 C.hts gX1_parts_X1_spreadFrom rfl rfl rfl (by decide +kernel) ⟨by decide, by decide⟩) 0 rfl rfl dX1_parts_41 rfl (Nat.le_of_ble_eq_true rfl) ⟨Nat.zero_le _, Nat.zero_le _⟩ (fun w hp => ?_)
            obtain ⟨D1, u1, e1, rfl, hB⟩ := hp
            have hB : BI (S 0 10) (S 7) (S 8) r D D1 u1 e1 e1 := hB
            refine g_iinc (pc := 44) (lv' := [(2, .int (iI (r + 1))), (1, .int (iI (acc + 1))), (0, .ref (q 0))]) C dX1_parts_44 rfl (by decide) rfl ?_
            refine g_goto (pc := 47) (tgt := 8) C dX1_parts_47 (by decide) ?_
            exact ih8 D1 u1 (acc + 1) (r + 1) (by omega) (BI_rng hB (by omega) hD) (VS_new hV (by omega) (by omega) hB) (by rw [PC_s _ _ _ h1.1, pI_1 ⟨by omega, VS_no hV (by omega) (by omega)⟩, hacc]) (by omega)
  exact loop8 (92) (fF (S 13) 91 (-1)) (S 14) 0 0 (by omega) (fun j h0 h1 => fFm (S 13) (by omega)) (VS_0 _ _ _ _ (fun j h0 h1 => if_pos (by omega))) (by unfold PC; rw [sm_0]) (by omega)

set_option maxHeartbeats 400000 in
set_option maxRecDepth 100000 in
theorem c_X1_turnAllInto (l : Launch) (K : KK) (q : Nat → Nat) (S : Nat → Int → Int) (H : HS S) (b : Int) (hb : 0 ≤ b ∧ b ≤ 5) : hMV l yX1_turnAllInto wsX1_turnAllInto (rmL 2) K [.ref (q 0), .int (iI b), .ref (q 10)] (wX K q S) (fun w => ∃ f : Int → Int, w = wX K q (sA S 10 f) ∧ ∀ j, 0 ≤ j → j < S 0 10 → f j = AT (S 7) b j) := by
  have hk9 := H.1
  refine in_MV (cc := cX1_turnAllInto) (maxL := 4) (rt := none) (lv := [(0, .ref (q 0)), (1, .int (iI b)), (2, .ref (q 10))]) (by decide) rfl (Nat.le_of_ble_eq_true rfl) rfl ?_
  intro p e s m args below meth c A C
  have hinX1 : ∀ w ∈ wsX10, w ∈ wsX1_turnAllInto := by decide +kernel
  refine g_iconst (pc := 0) C dX1_turnAllInto_0 ?_
  refine g_istore_n (pc := 1) (lv' := [(3, .int (iI 0)), (0, .ref (q 0)), (1, .int (iI b)), (2, .ref (q 10))]) C dX1_turnAllInto_1 rfl (by decide) rfl ?_
  have loop2 : ∀ (fu : Nat) (f : Int → Int) (k : Int), (0 ≤ k ∧ k ≤ S 0 9 + 1) → (∀ j, 0 ≤ j → j < FR k → f j = AT (S 7) b j) → S 0 9 + 1 - k < (fu : Int) → hG p l e (rmL 2) s m args below meth c 4 K A 0 0 (QV K A below args s (fun w => ∃ f : Int → Int, w = wX K q (sA S 10 f) ∧ ∀ j, 0 ≤ j → j < S 0 10 → f j = AT (S 7) b j)) 2 [(3, .int (iI k)), (0, .ref (q 0)), (1, .int (iI b)), (2, .ref (q 10))] [] (wX K q (sA S 10 f)) := by
    intro fu
    induction fu with
    | zero =>
      intro f k h1 h2 hm
      exact absurd hm (by omega)
    | succ fu ih2 =>
      intro f k h1 h2 hm
      refine g_iload_n (pc := 2) C dX1_turnAllInto_2 rfl rfl ?_
      refine g_aload_n (pc := 3) C dX1_turnAllInto_3 rfl rfl ?_
      refine g_get (pc := 4) (v := .int (iI ((S 0) 9))) (ref := "HexRooms") (ci := 1) (N := 11) C 0 rfl rfl hinX1 9 (by decide) (by decide +kernel) rfl rfl dX1_turnAllInto_4 ?_
      refine g_icmp_gt (pc := 7) (tgt := 25) C dX1_turnAllInto_7 (by decide) (by omega) (by omega) (fun c1 => ?_) (fun c1 => ?_)
      · exact g_return (pc := 25) C rfl dX1_turnAllInto_25 ⟨f, rfl, fun j h3 h4 => h2 j h3 (by rw [show k = S 0 9 + 1 by omega, ← H.2.1]; exact h4)⟩
      · refine g_aload_n (pc := 10) C dX1_turnAllInto_10 rfl rfl ?_
        refine g_iload_n (pc := 11) C dX1_turnAllInto_11 rfl rfl ?_
        refine g_iload_n (pc := 12) C dX1_turnAllInto_12 rfl rfl ?_
        refine g_iload_n (pc := 13) C dX1_turnAllInto_13 rfl rfl ?_
        refine g_imul (pc := 14) C dX1_turnAllInto_14 ?_
        refine g_aload_n (pc := 15) C dX1_turnAllInto_15 rfl rfl ?_
        have hmm := mul_5 (x := k) (y := b) (by omega) hb
        have hfz := FR_SZ (k := k) (by omega)
        have hfs := FR_s (k := k) (by omega)
        refine g_callVV (pc := 16) (As := [.int (iI k), .int (iI (k * b)), .ref (q 10)]) (rest := []) C (c_X1_turnRingInto l K q (sA S 10 f) k (k * b) (by omega) (by omega)) (cwV 3 C.hts gX1_turnAllInto_X1_turnRingInto rfl rfl rfl (by decide +kernel) ⟨by decide, by decide⟩) 0 rfl rfl dX1_turnAllInto_16 rfl (Nat.le_of_ble_eq_true rfl) ⟨Nat.zero_le _, Nat.zero_le _⟩ (fun w hp => ?_)
        subst hp
        refine g_iinc (pc := 19) (lv' := [(3, .int (iI (k + 1))), (0, .ref (q 0)), (1, .int (iI b)), (2, .ref (q 10))]) C dX1_turnAllInto_19 rfl (by decide) rfl ?_
        refine g_goto (pc := 22) (tgt := 2) C dX1_turnAllInto_22 (by decide) ?_
        exact ih2 (rot k (k * b) (S 7) f) (k + 1) (by omega) (fun j h3 h4 => by
          by_cases g : FR k ≤ j ∧ j < FR k + SZ k
          · exact AT_rot (by omega) g
          · show (if FR k ≤ j ∧ j < FR k + SZ k then _ else f j) = _
            rw [if_neg g]
            exact h2 j h3 (by omega)) (by omega)
  exact loop2 (7) (S 10) 0 (by omega) (fun j h3 h4 => by rw [FR_0] at h4; omega) (by omega)

set_option maxHeartbeats 400000 in
set_option maxRecDepth 100000 in
theorem c_X1_litAfterTurn (l : Launch) (K : KK) (q : Nat → Nat) (S : Nat → Int → Int) (H : HS S) (k b : Int) (hk : 0 ≤ k ∧ k ≤ S 0 9) (hb : 0 ≤ b ∧ b < 1000) : hMI l yX1_litAfterTurn wsX1_litAfterTurn (rmL 6) K [.ref (q 0), .int (iI k), .int (iI b)] (wX K q S) (fun z w => z = LIT (S 0 10) (rot k b (S 7) (S 7)) (S 8) ∧ ∃ f b2 L : Int → Int, w = wX K q (sA (sA (sA S 10 f) 12 b2) 11 L)) := by
  have hk9 := H.1
  have hn := H.n
  have hf := H.hf
  have hh := H.hh
  have hfr := FR_m (k := k) (m := S 0 9) hk hk9.2
  rw [← H.2.1] at hfr
  have hc : ∀ j, 0 ≤ j → j < S 0 10 → fC (S 7) (S 10) 0 0 (S 0 10) j = S 7 j := by
    intro j h0 h1
    unfold fC
    rw [if_pos (by omega)]
    congr 1
    omega
  have hf10 : ∀ j, 0 ≤ j → j < S 0 10 → 0 ≤ rot k b (S 7) (fC (S 7) (S 10) 0 0 (S 0 10)) j ∧ rot k b (S 7) (fC (S 7) (S 10) 0 0 (S 0 10)) j ≤ 2 := rot_in (by omega) hfr hf (fun j h0 h1 => by rw [hc j h0 h1]; exact hf j h0 h1)
  have hcg : ∀ j, 0 ≤ j → j < S 0 10 → rot k b (S 7) (fC (S 7) (S 10) 0 0 (S 0 10)) j = rot k b (S 7) (S 7) j := by
    intro j h0 h1
    unfold rot
    split
    · rfl
    · exact hc j h0 h1
  refine in_MI (cc := cX1_litAfterTurn) (maxL := 3) (rt := (some .int)) (lv := [(0, .ref (q 0)), (1, .int (iI k)), (2, .int (iI b))]) (by decide) rfl (Nat.le_of_ble_eq_true rfl) rfl ?_
  intro p e s m args below meth c A C
  have hinX1 : ∀ w ∈ wsX10, w ∈ wsX1_litAfterTurn := by decide +kernel
  refine g_aload_n (pc := 0) C dX1_litAfterTurn_0 rfl rfl ?_
  refine g_get (pc := 1) (ref := "HexRooms") (ci := 1) (N := 11) C 0 rfl rfl hinX1 1 (by decide) (by decide +kernel) rfl rfl dX1_litAfterTurn_1 ?_
  refine g_iconst (pc := 4) C dX1_litAfterTurn_4 ?_
  refine g_aload_n (pc := 5) C dX1_litAfterTurn_5 rfl rfl ?_
  refine g_get (pc := 6) (ref := "HexRooms") (ci := 1) (N := 11) C 0 rfl rfl hinX1 4 (by decide) (by decide +kernel) rfl rfl dX1_litAfterTurn_6 ?_
  refine g_iconst (pc := 9) C dX1_litAfterTurn_9 ?_
  refine g_aload_n (pc := 10) C dX1_litAfterTurn_10 rfl rfl ?_
  refine g_get (pc := 11) (ref := "HexRooms") (ci := 1) (N := 11) C 0 rfl rfl hinX1 10 (by decide) (by decide +kernel) rfl rfl dX1_litAfterTurn_11 ?_
  refine g_copy (pc := 14) (f := (S 7)) (g := (S 10)) (ws' := (wX K q (sA S 10 (fC (S 7) (S 10) 0 0 ((S 0) 10))))) C (by decide +kernel) (by decide +kernel) (by decide +kernel) (by decide +kernel) 7 10 rfl rfl (by omega) (by omega) (by omega) (by decide) (by decide) (by decide +kernel) dX1_litAfterTurn_14 rfl ?_
  refine g_aload_n (pc := 17) C dX1_litAfterTurn_17 rfl rfl ?_
  refine g_iload_n (pc := 18) C dX1_litAfterTurn_18 rfl rfl ?_
  refine g_iload_n (pc := 19) C dX1_litAfterTurn_19 rfl rfl ?_
  refine g_aload_n (pc := 20) C dX1_litAfterTurn_20 rfl rfl ?_
  refine g_get (pc := 21) (ref := "HexRooms") (ci := 1) (N := 11) C 0 rfl rfl hinX1 4 (by decide) (by decide +kernel) rfl rfl dX1_litAfterTurn_21 ?_
  refine g_callVV (pc := 24) (As := [.int (iI k), .int (iI b), .ref (q 10)]) (rest := []) C (c_X1_turnRingInto l K q (sA S 10 (fC (S 7) (S 10) 0 0 ((S 0) 10))) k b (by omega) (by omega)) (cwV 3 C.hts gX1_litAfterTurn_X1_turnRingInto rfl rfl rfl (by decide +kernel) ⟨by decide, by decide⟩) 0 rfl rfl dX1_litAfterTurn_24 rfl (Nat.le_of_ble_eq_true rfl) ⟨Nat.zero_le _, Nat.zero_le _⟩ (fun w hp => ?_)
  subst hp
  refine g_aload_n (pc := 27) C dX1_litAfterTurn_27 rfl rfl ?_
  refine g_aload_n (pc := 28) C dX1_litAfterTurn_28 rfl rfl ?_
  refine g_get (pc := 29) (ref := "HexRooms") (ci := 1) (N := 11) C 0 rfl rfl hinX1 4 (by decide) (by decide +kernel) rfl rfl dX1_litAfterTurn_29 ?_
  refine g_aload_n (pc := 32) C dX1_litAfterTurn_32 rfl rfl ?_
  refine g_get (pc := 33) (ref := "HexRooms") (ci := 1) (N := 11) C 0 rfl rfl hinX1 5 (by decide) (by decide +kernel) rfl rfl dX1_litAfterTurn_33 ?_
  refine g_callVI (pc := 36) (As := [.ref (q 10), .ref (q 11)]) (rest := []) C (c_X1_shine_10 l K q (sA S 10 (rot k b (S 7) (fC (S 7) (S 10) 0 0 ((S 0) 10)))) hn hf10 hh) (cwV 2 C.hts gX1_litAfterTurn_X1_shine rfl rfl rfl (by decide +kernel) ⟨by decide, by decide⟩) 0 rfl rfl dX1_litAfterTurn_36 rfl (Nat.le_of_ble_eq_true rfl) ⟨Nat.zero_le _, Nat.zero_le _⟩ (fun z w hp => ?_)
  obtain ⟨hz, b2, L, rfl, -⟩ := hp
  have hz : z = LIT (S 0 10) (rot k b (S 7) (fC (S 7) (S 10) 0 0 (S 0 10))) (S 8) := hz
  exact g_ireturn (pc := 39) C rfl dX1_litAfterTurn_39 ⟨by rw [hz]; exact LIT_cong hcg (fun _ _ _ => rfl), _, b2, L, rfl⟩

set_option maxHeartbeats 400000 in
set_option maxRecDepth 100000 in
theorem c_X1_build (l : Launch) (K : KK) (q : Nat → Nat) (S : Nat → Int → Int) (k : Int) (hk : 1 ≤ k ∧ k ≤ 5) : hMV l yX1_build wsX1_build (rmL 1) K [.ref (q 0), .int (iI k)] (wX K q S) (fun w => w = wX K q (sA (sA (sA (sA S 0 (fU (fU (S 0) 9 k) 10 (FR (k + 1)))) 7 (fF (S 7) 91 0)) 8 (fF (S 8) 546 0)) 9 (fF (S 9) 91 0))) := by
  refine in_MV (cc := cX1_build) (maxL := 3) (rt := none) (lv := [(0, .ref (q 0)), (1, .int (iI k))]) (by decide) rfl (Nat.le_of_ble_eq_true rfl) rfl ?_
  intro p e s m args below meth c A C
  have hinX1 : ∀ w ∈ wsX10, w ∈ wsX1_build := by decide +kernel
  refine g_aload_n (pc := 0) C dX1_build_0 rfl rfl ?_
  refine g_iload_n (pc := 1) C dX1_build_1 rfl rfl ?_
  refine g_put (pc := 2) (ref := "HexRooms") (ci := 1) (N := 11) (ws' := (wX K q (sA S 0 (fU (S 0) 9 k)))) C 0 rfl rfl hinX1 tyX1 tyX1_ok nmX1 9 (by decide) (by decide +kernel) rfl rfl rfl (Nat.le_of_ble_eq_true rfl) dX1_build_2 rfl ?_
  refine g_aload_n (pc := 5) C dX1_build_5 rfl rfl ?_
  refine g_iload_n (pc := 6) C dX1_build_6 rfl rfl ?_
  refine g_iconst (pc := 7) C dX1_build_7 ?_
  refine g_iadd (pc := 8) C dX1_build_8 ?_
  refine g_callSI (pc := 9) (As := [.int (iI (k + 1))]) (rest := [.ref (q 0)]) C (c_X0_firstRoomOf l K _ (k + 1) (by omega)) (va_cwS 1 C.hts gX1_build_X0_firstRoomOf rfl rfl rfl (by decide +kernel) ⟨by decide, by decide⟩) dX1_build_9 rfl (Nat.le_of_ble_eq_true rfl) ⟨Nat.zero_le _, Nat.zero_le _⟩ (fun z w hp => ?_)
  obtain ⟨rfl, rfl⟩ := hp
  refine g_put (pc := 12) (ref := "HexRooms") (ci := 1) (N := 11) (ws' := (wX K q (sA S 0 (fU (fU (S 0) 9 k) 10 (FR (k + 1)))))) C 0 rfl rfl hinX1 tyX1 tyX1_ok nmX1 10 (by decide) (by decide +kernel) rfl rfl rfl (Nat.le_of_ble_eq_true rfl) dX1_build_12 rfl ?_
  refine g_aload_n (pc := 15) C dX1_build_15 rfl rfl ?_
  refine g_get (pc := 16) (ref := "HexRooms") (ci := 1) (N := 11) C 0 rfl rfl hinX1 1 (by decide) (by decide +kernel) rfl rfl dX1_build_16 ?_
  refine g_iconst (pc := 19) C dX1_build_19 ?_
  refine g_callSV (pc := 20) (As := [.ref (q 7), .int (iI 0)]) (rest := []) C (c_J7_fill l K (wX K q (sA S 0 (fU (fU (S 0) 9 k) 10 (FR (k + 1))))) (wX K q (sA (sA S 0 (fU (fU (S 0) 9 k) 10 (FR (k + 1)))) 7 (fF (S 7) 91 0))) 7 0 rfl rfl (by decide)) (va_cwS 2 C.hts gX1_build_J7_fill_53178 rfl rfl rfl (by decide +kernel) ⟨by decide, by decide⟩) dX1_build_20 rfl (Nat.le_of_ble_eq_true rfl) ⟨Nat.zero_le _, Nat.zero_le _⟩ (fun w hp => ?_)
  subst hp
  refine g_iconst (pc := 23) C dX1_build_23 ?_
  refine g_istore_n (pc := 24) (lv' := [(2, .int (iI 0)), (0, .ref (q 0)), (1, .int (iI k))]) C dX1_build_24 rfl (by decide) rfl ?_
  have loop25 : ∀ (fu : Nat) (i : Int), (0 ≤ i ∧ i ≤ 546) → 546 - i < (fu : Int) → hG p l e (rmL 1) s m args below meth c 3 K A 0 0 (QV K A below args s (fun w => w = wX K q (sA (sA (sA (sA S 0 (fU (fU (S 0) 9 k) 10 (FR (k + 1)))) 7 (fF (S 7) 91 0)) 8 (fF (S 8) 546 0)) 9 (fF (S 9) 91 0)))) 25 [(2, .int (iI i)), (0, .ref (q 0)), (1, .int (iI k))] [] (wX K q (sA (sA (sA S 0 (fU (fU (S 0) 9 k) 10 (FR (k + 1)))) 7 (fF (S 7) 91 0)) 8 (fF (S 8) i 0))) := by
    intro fu
    induction fu with
    | zero =>
      intro i h1 hm
      exact absurd hm (by omega)
    | succ fu ih25 =>
      intro i h1 hm
      refine g_iload_n (pc := 25) C dX1_build_25 rfl rfl ?_
      refine g_aload_n (pc := 26) C dX1_build_26 rfl rfl ?_
      refine g_get (pc := 27) (ref := "HexRooms") (ci := 1) (N := 11) C 0 rfl rfl hinX1 2 (by decide) (by decide +kernel) rfl rfl dX1_build_27 ?_
      refine g_alenZ (pc := 30) C 8 rfl dX1_build_30 ?_
      refine g_icmp_ge (pc := 31) (tgt := 47) C dX1_build_31 (by decide) (by omega) (by omega) (fun c1 => ?_) (fun c1 => ?_)
      · refine g_aload_n (pc := 47) C dX1_build_47 rfl rfl ?_
        refine g_get (pc := 48) (ref := "HexRooms") (ci := 1) (N := 11) C 0 rfl rfl hinX1 3 (by decide) (by decide +kernel) rfl rfl dX1_build_48 ?_
        refine g_iconst (pc := 51) C dX1_build_51 ?_
        refine g_callSV (pc := 52) (As := [.ref (q 9), .int (iI 0)]) (rest := []) C (c_J7_fill l K (wX K q (sA (sA (sA S 0 (fU (fU (S 0) 9 k) 10 (FR (k + 1)))) 7 (fF (S 7) 91 0)) 8 (fF (S 8) i 0))) (wX K q (sA (sA (sA (sA S 0 (fU (fU (S 0) 9 k) 10 (FR (k + 1)))) 7 (fF (S 7) 91 0)) 8 (fF (S 8) i 0)) 9 (fF (S 9) 91 0))) 9 0 rfl rfl (by decide)) (va_cwS 2 C.hts gX1_build_J7_fill_53178 rfl rfl rfl (by decide +kernel) ⟨by decide, by decide⟩) dX1_build_52 rfl (Nat.le_of_ble_eq_true rfl) ⟨Nat.zero_le _, Nat.zero_le _⟩ (fun w hp => ?_)
        subst hp
        exact g_return (pc := 55) C rfl dX1_build_55 (by rw [show i = 546 by omega])
      · refine g_aload_n (pc := 34) C dX1_build_34 rfl rfl ?_
        refine g_get (pc := 35) (ref := "HexRooms") (ci := 1) (N := 11) C 0 rfl rfl hinX1 2 (by decide) (by decide +kernel) rfl rfl dX1_build_35 ?_
        refine g_iload_n (pc := 38) C dX1_build_38 rfl rfl ?_
        refine g_iconst (pc := 39) C dX1_build_39 ?_
        refine g_bastore (pc := 40) (f := (fF (S 8) i 0)) (ws' := (wX K q (sA (sA (sA S 0 (fU (fU (S 0) 9 k) 10 (FR (k + 1)))) 7 (fF (S 7) 91 0)) 8 (fU (fF (S 8) i 0) i 0)))) C 8 rfl (by omega) (by omega) dX1_build_40 rfl ?_
        rw [fF_s (S 8) 0 h1.1]
        refine g_iinc (pc := 41) (lv' := [(2, .int (iI (i + 1))), (0, .ref (q 0)), (1, .int (iI k))]) C dX1_build_41 rfl (by decide) rfl ?_
        refine g_goto (pc := 44) (tgt := 25) C dX1_build_44 (by decide) ?_
        exact ih25 (i + 1) (by omega) (by omega)
  have h0 := loop25 (547) 0 (by omega) (by omega)
  rw [fF_0] at h0
  exact h0
