set_option maxHeartbeats 400000 in
set_option maxRecDepth 100000 in
theorem c_P_roomAt (l : Launch) (K : KK) (q : Nat → Nat) (S : Nat → Int → Int) (x y : Int) (gx : -2147483648 ≤ x ∧ x < 2147483648) (gy : -2147483648 ≤ y ∧ y < 2147483648) (hb5 : ∀ j, 0 ≤ j → j < 121 → -1 ≤ S 4 j ∧ S 4 j ≤ 90) : hMI l yX0_roomAt wsX0_roomAt (rmL 1) K [.ref (q 0), .int (iI x), .int (iI y)] (wP K q S) (fun z w => z = (if (-5 ≤ x ∧ x ≤ 5) ∧ (-5 ≤ y ∧ y ≤ 5) then S 4 ((y + 5) * 11 + x + 5) else -1) ∧ w = wP K q S) := by
  refine in_MI (cc := cX0_roomAt) (maxL := 3) (rt := (some .int)) (lv := [(0, .ref (q 0)), (1, .int (iI x)), (2, .int (iI y))]) (by decide) rfl (Nat.le_of_ble_eq_true rfl) rfl ?_
  intro p e s m args below meth c A C
  have hinX0 : ∀ w ∈ wsX00, w ∈ wsX0_roomAt := by decide +kernel
  refine g_iload_n (pc := 0) C dX0_roomAt_0 rfl rfl ?_
  refine g_callSI (pc := 1) (As := [.int (iI x)]) (rest := []) C (c_X0_isOnPlan l K _ x (by omega)) (cwS 1 C.hts gX0_roomAt_X0_isOnPlan rfl rfl rfl (by decide +kernel) ⟨by decide, by decide⟩) dX0_roomAt_1 rfl (Nat.le_of_ble_eq_true rfl) ⟨Nat.zero_le _, Nat.zero_le _⟩ (fun z w hp => ?_)
  obtain ⟨rfl, rfl⟩ := hp
  refine g_if_eq (pc := 4) (tgt := 27) C dX0_roomAt_4 (by decide) (by split <;> omega) (fun c1 => ?_) (fun c1 => ?_)
  · refine g_iconst (pc := 27) C dX0_roomAt_27 ?_
    exact g_ireturn (pc := 28) C rfl dX0_roomAt_28 ⟨by split <;> omega, rfl⟩
  · refine g_iload_n (pc := 7) C dX0_roomAt_7 rfl rfl ?_
    refine g_callSI (pc := 8) (As := [.int (iI y)]) (rest := []) C (c_X0_isOnPlan l K _ y (by omega)) (cwS 1 C.hts gX0_roomAt_X0_isOnPlan rfl rfl rfl (by decide +kernel) ⟨by decide, by decide⟩) dX0_roomAt_8 rfl (Nat.le_of_ble_eq_true rfl) ⟨Nat.zero_le _, Nat.zero_le _⟩ (fun z w hp => ?_)
    obtain ⟨rfl, rfl⟩ := hp
    refine g_if_eq (pc := 11) (tgt := 27) C dX0_roomAt_11 (by decide) (by split <;> omega) (fun c2 => ?_) (fun c2 => ?_)
    · refine g_iconst (pc := 27) C dX0_roomAt_27 ?_
      exact g_ireturn (pc := 28) C rfl dX0_roomAt_28 ⟨by split <;> omega, rfl⟩
    · refine g_aload_n (pc := 14) C dX0_roomAt_14 rfl rfl ?_
      refine g_get (pc := 15) (ref := "HexRooms$Plan") (ci := 0) (N := 5) C 0 rfl rfl hinX0 3 (by decide) (by decide +kernel) rfl rfl dX0_roomAt_15 ?_
      refine g_iload_n (pc := 18) C dX0_roomAt_18 rfl rfl ?_
      refine g_iload_n (pc := 19) C dX0_roomAt_19 rfl rfl ?_
      refine g_callSI (pc := 20) (As := [.int (iI x), .int (iI y)]) (rest := [.ref (q 4)]) C (c_X0_cellOf l K _ x y) (cwS 2 C.hts gX0_roomAt_X0_cellOf rfl rfl rfl (by decide +kernel) ⟨by decide, by decide⟩) dX0_roomAt_20 rfl (Nat.le_of_ble_eq_true rfl) ⟨Nat.zero_le _, Nat.zero_le _⟩ (fun z w hp => ?_)
      obtain ⟨rfl, rfl⟩ := hp
      refine g_iaload (pc := 23) C 4 rfl (by omega) dX0_roomAt_23 ?_
      have bd3 := hb5 ((y + 5) * 11 + x + 5) (by omega) (by omega)
      refine g_goto (pc := 24) (tgt := 28) C dX0_roomAt_24 (by decide) ?_
      exact g_ireturn (pc := 28) C rfl dX0_roomAt_28 ⟨by split <;> omega, rfl⟩

set_option maxHeartbeats 400000 in
set_option maxRecDepth 100000 in
theorem c_P_placeRoom (l : Launch) (K : KK) (q : Nat → Nat) (S : Nat → Int → Int) (mm x y g : Int) (B : PLI S mm) (hm : 0 ≤ mm ∧ mm < 91) (hx : x = TA mm) (hy : y = TD mm) (hg : g = TR mm) : hMV l yX0_placeRoom wsX0_placeRoom (rmL 1) K [.ref (q 0), .int (iI mm), .int (iI x), .int (iI y), .int (iI g)] (wP K q S) (fun w => ∃ T, w = wP K q T ∧ PLI T (mm + 1)) := by
  have t1 := TC1 hm
  have t2 := TA_b mm
  have t3 := TD_b mm
  refine in_MV (cc := cX0_placeRoom) (maxL := 5) (rt := none) (lv := [(0, .ref (q 0)), (1, .int (iI mm)), (2, .int (iI x)), (3, .int (iI y)), (4, .int (iI g))]) (by decide) rfl (Nat.le_of_ble_eq_true rfl) rfl ?_
  intro p e s m args below meth c A C
  have hinX0 : ∀ w ∈ wsX00, w ∈ wsX0_placeRoom := by decide +kernel
  refine g_aload_n (pc := 0) C dX0_placeRoom_0 rfl rfl ?_
  refine g_get (pc := 1) (ref := "HexRooms$Plan") (ci := 0) (N := 5) C 0 rfl rfl hinX0 0 (by decide) (by decide +kernel) rfl rfl dX0_placeRoom_1 ?_
  refine g_iload_n (pc := 4) C dX0_placeRoom_4 rfl rfl ?_
  refine g_iload_n (pc := 5) C dX0_placeRoom_5 rfl rfl ?_
  refine g_iastore (pc := 6) (f := (S 1)) (ws' := (wP K q (sA S 1 (fU (S 1) mm x)))) C 1 rfl (by omega) dX0_placeRoom_6 rfl ?_
  refine g_aload_n (pc := 7) C dX0_placeRoom_7 rfl rfl ?_
  refine g_get (pc := 8) (ref := "HexRooms$Plan") (ci := 0) (N := 5) C 0 rfl rfl hinX0 1 (by decide) (by decide +kernel) rfl rfl dX0_placeRoom_8 ?_
  refine g_iload_n (pc := 11) C dX0_placeRoom_11 rfl rfl ?_
  refine g_iload_n (pc := 12) C dX0_placeRoom_12 rfl rfl ?_
  refine g_iastore (pc := 13) (f := (S 2)) (ws' := (wP K q (sA (sA S 1 (fU (S 1) mm x)) 2 (fU (S 2) mm y)))) C 2 rfl (by omega) dX0_placeRoom_13 rfl ?_
  refine g_aload_n (pc := 14) C dX0_placeRoom_14 rfl rfl ?_
  refine g_get (pc := 15) (ref := "HexRooms$Plan") (ci := 0) (N := 5) C 0 rfl rfl hinX0 2 (by decide) (by decide +kernel) rfl rfl dX0_placeRoom_15 ?_
  refine g_iload_n (pc := 18) C dX0_placeRoom_18 rfl rfl ?_
  refine g_iload (pc := 19) C dX0_placeRoom_19 rfl ?_
  refine g_iastore (pc := 21) (f := (S 3)) (ws' := (wP K q (sA (sA (sA S 1 (fU (S 1) mm x)) 2 (fU (S 2) mm y)) 3 (fU (S 3) mm g)))) C 3 rfl (by omega) dX0_placeRoom_21 rfl ?_
  refine g_aload_n (pc := 22) C dX0_placeRoom_22 rfl rfl ?_
  refine g_get (pc := 23) (ref := "HexRooms$Plan") (ci := 0) (N := 5) C 0 rfl rfl hinX0 3 (by decide) (by decide +kernel) rfl rfl dX0_placeRoom_23 ?_
  refine g_iload_n (pc := 26) C dX0_placeRoom_26 rfl rfl ?_
  refine g_iload_n (pc := 27) C dX0_placeRoom_27 rfl rfl ?_
  refine g_callSI (pc := 28) (As := [.int (iI x), .int (iI y)]) (rest := [.ref (q 4)]) C (c_X0_cellOf l K _ x y) (cwS 2 C.hts gX0_placeRoom_X0_cellOf rfl rfl rfl (by decide +kernel) ⟨by decide, by decide⟩) dX0_placeRoom_28 rfl (Nat.le_of_ble_eq_true rfl) ⟨Nat.zero_le _, Nat.zero_le _⟩ (fun z w hp => ?_)
  obtain ⟨rfl, rfl⟩ := hp
  refine g_iload_n (pc := 31) C dX0_placeRoom_31 rfl rfl ?_
  refine g_iastore (pc := 32) (f := (S 4)) (ws' := (wP K q (sA (sA (sA (sA S 1 (fU (S 1) mm x)) 2 (fU (S 2) mm y)) 3 (fU (S 3) mm g)) 4 (fU (S 4) ((y + 5) * 11 + x + 5) mm)))) C 4 rfl (by omega) dX0_placeRoom_32 rfl ?_
  exact g_return (pc := 33) C rfl dX0_placeRoom_33 ⟨_, rfl, by
    subst hx hy hg
    exact PL_add B hm⟩

set_option maxHeartbeats 400000 in
set_option maxRecDepth 100000 in
theorem c_P_placeRing (l : Launch) (K : KK) (q : Nat → Nat) (S : Nat → Int → Int) (g : Int) (B : PLI S (FR g)) (hg : 1 ≤ g ∧ g ≤ 5) : hMV l yX0_placeRing wsX0_placeRing (rmL 2) K [.ref (q 0), .int (iI g)] (wP K q S) (fun w => ∃ T, w = wP K q T ∧ PLI T (FR (g + 1))) := by
  refine in_MV (cc := cX0_placeRing) (maxL := 8) (rt := none) (lv := [(0, .ref (q 0)), (1, .int (iI g))]) (by decide) rfl (Nat.le_of_ble_eq_true rfl) rfl ?_
  intro p e s m args below meth c A C
  refine g_iload_n (pc := 0) C dX0_placeRing_0 rfl rfl ?_
  refine g_callSI (pc := 1) (As := [.int (iI g)]) (rest := []) C (c_X0_firstRoomOf l K _ g (by omega)) (cwS 1 C.hts gX0_placeRing_X0_firstRoomOf rfl rfl rfl (by decide +kernel) ⟨by decide, by decide⟩) dX0_placeRing_1 rfl (Nat.le_of_ble_eq_true rfl) ⟨Nat.zero_le _, Nat.zero_le _⟩ (fun z w hp => ?_)
  obtain ⟨rfl, rfl⟩ := hp
  refine g_istore_n (pc := 4) (lv' := [(2, .int (iI (FR g))), (0, .ref (q 0)), (1, .int (iI g))]) C dX0_placeRing_4 rfl (by decide) rfl ?_
  refine g_iload_n (pc := 5) C dX0_placeRing_5 rfl rfl ?_
  refine g_istore_n (pc := 6) (lv' := [(3, .int (iI g)), (2, .int (iI (FR g))), (0, .ref (q 0)), (1, .int (iI g))]) C dX0_placeRing_6 rfl (by decide) rfl ?_
  refine g_iconst (pc := 7) C dX0_placeRing_7 ?_
  refine g_istore (pc := 8) (lv' := [(4, .int (iI 0)), (3, .int (iI g)), (2, .int (iI (FR g))), (0, .ref (q 0)), (1, .int (iI g))]) C dX0_placeRing_8 (by decide) rfl ?_
  refine g_iconst (pc := 10) C dX0_placeRing_10 ?_
  refine g_istore (pc := 11) (lv' := [(5, .int (iI 0)), (4, .int (iI 0)), (3, .int (iI g)), (2, .int (iI (FR g))), (0, .ref (q 0)), (1, .int (iI g))]) C dX0_placeRing_11 (by decide) rfl ?_
  have loop13 : ∀ (fu : Nat) (T2 : Nat → Int → Int) (rm : Int) (x : Int) (y : Int) (l5 : Int), (0 ≤ l5 ∧ l5 ≤ 6) → (rm = FR g + l5 * g) → (PLI T2 (FR g + l5 * g)) → (FR g + l5 * g < FR (g + 1) → x = TA (FR g + l5 * g) ∧ y = TD (FR g + l5 * g)) → 6 - l5 < (fu : Int) → hG p l e (rmL 2) s m args below meth c 8 K A 0 0 (QV K A below args s (fun w => ∃ T, w = wP K q T ∧ PLI T (FR (g + 1)))) 13 [(5, .int (iI l5)), (4, .int (iI y)), (3, .int (iI x)), (2, .int (iI rm)), (0, .ref (q 0)), (1, .int (iI g))] [] (wP K q T2) := by
    intro fu
    induction fu with
    | zero =>
      intro T2 rm x y l5 t1 hrm hB2 hxy hm
      exact absurd hm (by omega)
    | succ fu ih13 =>
      intro T2 rm x y l5 t1 hrm hB2 hxy hm
      refine g_iload (pc := 13) C dX0_placeRing_13 rfl ?_
      refine g_bipush (pc := 15) C dX0_placeRing_15 (by decide +kernel) ?_
      refine g_icmp_ge (pc := 17) (tgt := 82) C dX0_placeRing_17 (by decide) (by omega) (by omega) (fun c1 => ?_) (fun c1 => ?_)
      · exact g_return (pc := 82) C rfl dX0_placeRing_82 ⟨T2, rfl, by
          have e := hB2
          have hfs := FR_s (k := g) (by omega)
          have hfz := FR_SZ (k := g) (by omega)
          rw [show l5 = 6 by omega, show FR g + 6 * g = FR (g + 1) by omega] at e
          exact e⟩
      · refine g_iload (pc := 20) C dX0_placeRing_20 rfl ?_
        refine g_iconst (pc := 22) C dX0_placeRing_22 ?_
        refine g_iadd (pc := 23) C dX0_placeRing_23 ?_
        refine g_bipush (pc := 24) C dX0_placeRing_24 (by decide +kernel) ?_
        refine g_irem (pc := 26) C dX0_placeRing_26 (by omega) (by omega) ?_
        refine g_istore (pc := 27) (lv' := [(6, .int (iI ((l5 + 2) % 6))), (5, .int (iI l5)), (4, .int (iI y)), (3, .int (iI x)), (2, .int (iI rm)), (0, .ref (q 0)), (1, .int (iI g))]) C dX0_placeRing_27 (by decide) rfl ?_
        refine g_iconst (pc := 29) C dX0_placeRing_29 ?_
        refine g_istore (pc := 30) (lv' := [(7, .int (iI 0)), (6, .int (iI ((l5 + 2) % 6))), (5, .int (iI l5)), (4, .int (iI y)), (3, .int (iI x)), (2, .int (iI rm)), (0, .ref (q 0)), (1, .int (iI g))]) C dX0_placeRing_30 (by decide) rfl ?_
        have loop32 : ∀ (fu : Nat) (T3 : Nat → Int → Int) (rm3 : Int) (x3 : Int) (y3 : Int) (i : Int), (0 ≤ i ∧ i ≤ g) → (rm3 = FR g + l5 * g + i) → (PLI T3 (FR g + l5 * g + i)) → (FR g + l5 * g + i < FR (g + 1) → x3 = TA (FR g + l5 * g + i) ∧ y3 = TD (FR g + l5 * g + i)) → g - i < (fu : Int) → hG p l e (rmL 2) s m args below meth c 8 K A 0 0 (QV K A below args s (fun w => ∃ T, w = wP K q T ∧ PLI T (FR (g + 1)))) 32 [(7, .int (iI i)), (6, .int (iI ((l5 + 2) % 6))), (5, .int (iI l5)), (4, .int (iI y3)), (3, .int (iI x3)), (2, .int (iI rm3)), (0, .ref (q 0)), (1, .int (iI g))] [] (wP K q T3) := by
          intro fu
          induction fu with
          | zero =>
            intro T3 rm3 x3 y3 i i1 hrm3 hB3 hxy3 hm
            exact absurd hm (by omega)
          | succ fu ih32 =>
            intro T3 rm3 x3 y3 i i1 hrm3 hB3 hxy3 hm
            rw [← hrm3] at hB3 hxy3
            have hm := hrm3
            refine g_iload (pc := 32) C dX0_placeRing_32 rfl ?_
            refine g_iload_n (pc := 34) C dX0_placeRing_34 rfl rfl ?_
            refine g_icmp_ge (pc := 35) (tgt := 76) C dX0_placeRing_35 (by decide) (by omega) (by omega) (fun c2 => ?_) (fun c2 => ?_)
            · refine g_iinc (pc := 76) (lv' := [(5, .int (iI (l5 + 1))), (7, .int (iI i)), (6, .int (iI ((l5 + 2) % 6))), (4, .int (iI y3)), (3, .int (iI x3)), (2, .int (iI rm3)), (0, .ref (q 0)), (1, .int (iI g))]) C dX0_placeRing_76 rfl (by decide) rfl ?_
              refine g_goto (pc := 79) (tgt := 13) C dX0_placeRing_79 (by decide) ?_
              refine g_sub (lv' := [(5, .int (iI (l5 + 1))), (4, .int (iI y3)), (3, .int (iI x3)), (2, .int (iI rm3)), (0, .ref (q 0)), (1, .int (iI g))]) [0, 3, 4, 5, 6, 7] rfl ?_
              exact ih13 T3 rm3 x3 y3 (l5 + 1) (by omega) (by rw [l5_s]; omega) (by rw [l5_s, ← Int.add_assoc]; rw [show i = g by omega] at hm; rw [← hm]; exact hB3) (by rw [l5_s, ← Int.add_assoc]; rw [show i = g by omega] at hm; rw [← hm]; exact hxy3) (by omega)
            · have hbt := BT (g := g) (tu := l5 + 2) (i := i) (m := rm3) hg (by omega) (by omega) (by rw [show l5 + 2 - 2 = l5 by omega]; exact hm)
              obtain ⟨ex, ey⟩ := hxy3 hbt.2.1
              have htr := hbt.1
              refine g_aload_n (pc := 38) C dX0_placeRing_38 rfl rfl ?_
              refine g_iload_n (pc := 39) C dX0_placeRing_39 rfl rfl ?_
              refine g_iload_n (pc := 40) C dX0_placeRing_40 rfl rfl ?_
              refine g_iload (pc := 41) C dX0_placeRing_41 rfl ?_
              refine g_iload_n (pc := 43) C dX0_placeRing_43 rfl rfl ?_
              refine g_callVV (pc := 44) (As := [.int (iI rm3), .int (iI x3), .int (iI y3), .int (iI g)]) (rest := []) C (c_P_placeRoom l K q T3 rm3 x3 y3 g hB3 (by omega) ex ey htr.symm) (cwV 4 C.hts gX0_placeRing_X0_placeRoom rfl rfl rfl (by decide +kernel) ⟨by decide, by decide⟩) 0 rfl rfl dX0_placeRing_44 rfl (Nat.le_of_ble_eq_true rfl) ⟨Nat.zero_le _, Nat.zero_le _⟩ (fun w hp => ?_)
              obtain ⟨T44, rfl, hT44⟩ := hp
              refine g_iinc (pc := 47) (lv' := [(2, .int (iI (rm3 + 1))), (7, .int (iI i)), (6, .int (iI ((l5 + 2) % 6))), (5, .int (iI l5)), (4, .int (iI y3)), (3, .int (iI x3)), (0, .ref (q 0)), (1, .int (iI g))]) C dX0_placeRing_47 rfl (by decide) rfl ?_
              refine g_iload_n (pc := 50) C dX0_placeRing_50 rfl rfl ?_
              refine g_getS (pc := 51) C C.hZ.1 (by decide +kernel) dX0_placeRing_51 ?_
              refine g_iload (pc := 54) C dX0_placeRing_54 rfl ?_
              refine g_ialoadS (pc := 56) C C.hZ.1 (by omega) dX0_placeRing_56 ?_
              refine g_iadd (pc := 57) C dX0_placeRing_57 ?_
              refine g_istore_n (pc := 58) (lv' := [(3, .int (iI (x3 + (stX ((l5 + 2) % 6))))), (2, .int (iI (rm3 + 1))), (7, .int (iI i)), (6, .int (iI ((l5 + 2) % 6))), (5, .int (iI l5)), (4, .int (iI y3)), (0, .ref (q 0)), (1, .int (iI g))]) C dX0_placeRing_58 rfl (by decide) rfl ?_
              refine g_iload (pc := 59) C dX0_placeRing_59 rfl ?_
              refine g_getS (pc := 61) C C.hZ.2.1 (by decide +kernel) dX0_placeRing_61 ?_
              refine g_iload (pc := 64) C dX0_placeRing_64 rfl ?_
              refine g_ialoadS (pc := 66) C C.hZ.2.1 (by omega) dX0_placeRing_66 ?_
              refine g_iadd (pc := 67) C dX0_placeRing_67 ?_
              refine g_istore (pc := 68) (lv' := [(4, .int (iI (y3 + (stY ((l5 + 2) % 6))))), (3, .int (iI (x3 + (stX ((l5 + 2) % 6))))), (2, .int (iI (rm3 + 1))), (7, .int (iI i)), (6, .int (iI ((l5 + 2) % 6))), (5, .int (iI l5)), (0, .ref (q 0)), (1, .int (iI g))]) C dX0_placeRing_68 (by decide) rfl ?_
              refine g_iinc (pc := 70) (lv' := [(7, .int (iI (i + 1))), (4, .int (iI (y3 + (stY ((l5 + 2) % 6))))), (3, .int (iI (x3 + (stX ((l5 + 2) % 6))))), (2, .int (iI (rm3 + 1))), (6, .int (iI ((l5 + 2) % 6))), (5, .int (iI l5)), (0, .ref (q 0)), (1, .int (iI g))]) C dX0_placeRing_70 rfl (by decide) rfl ?_
              refine g_goto (pc := 73) (tgt := 32) C dX0_placeRing_73 (by decide) ?_
              refine g_sub (lv' := [(7, .int (iI (i + 1))), (6, .int (iI ((l5 + 2) % 6))), (5, .int (iI l5)), (4, .int (iI (y3 + (stY ((l5 + 2) % 6))))), (3, .int (iI (x3 + (stX ((l5 + 2) % 6))))), (2, .int (iI (rm3 + 1))), (0, .ref (q 0)), (1, .int (iI g))]) [0, 4, 5, 1, 2, 3, 6, 7] rfl ?_
              exact ih32 T44 (rm3 + 1) (x3 + (stX ((l5 + 2) % 6))) (y3 + (stY ((l5 + 2) % 6))) (i + 1) (by omega) (by omega) (by rw [← Int.add_assoc, ← hm]; exact hT44) (by rw [← Int.add_assoc, ← hm]; intro hlt; have hq := hbt.2.2.2.2 hlt; rw [ex, ey]; exact ⟨hq.1.symm, hq.2.symm⟩) (by omega)
        exact loop32 (7) T2 rm x y 0 (by omega) (by omega) (by rw [Int.add_zero]; exact hB2) (by rw [Int.add_zero]; exact hxy) (by omega)
  exact loop13 (7) S (FR g) g 0 0 (by omega) (by omega) (by rw [show FR g + 0 * g = FR g by omega]; exact B) (fun _ => by rw [show FR g + 0 * g = FR g by omega]; exact ⟨(BT_0 hg).1.symm, (BT_0 hg).2.symm⟩) (by omega)

set_option maxHeartbeats 400000 in
set_option maxRecDepth 100000 in
theorem c_P_joinRooms (l : Launch) (K : KK) (q : Nat → Nat) (S : Nat → Int → Int) (B : PLI S 91) : hMV l yX0_joinRooms wsX0_joinRooms (rmL 2) K [.ref (q 0)] (wP K q S) (fun w => ∃ f : Int → Int, w = wP K q (sA S 5 f) ∧ ∀ j, 0 ≤ j → j < 546 → f j = TN j) := by
  have hb5 : ∀ j, 0 ≤ j → j < 121 → -1 ≤ S 4 j ∧ S 4 j ≤ 90 := by
    intro j h0 h1
    have := TC_b j
    rw [B.2 j h0 h1]
    split <;> omega
  refine in_MV (cc := cX0_joinRooms) (maxL := 5) (rt := none) (lv := [(0, .ref (q 0))]) (by decide) rfl (Nat.le_of_ble_eq_true rfl) rfl ?_
  intro p e s m args below meth c A C
  have hinX0 : ∀ w ∈ wsX00, w ∈ wsX0_joinRooms := by decide +kernel
  refine g_iconst (pc := 0) C dX0_joinRooms_0 ?_
  refine g_istore_n (pc := 1) (lv' := [(1, .int (iI 0)), (0, .ref (q 0))]) C dX0_joinRooms_1 rfl (by decide) rfl ?_
  have loop2 : ∀ (fu : Nat) (f : Int → Int) (r : Int), (0 ≤ r ∧ r ≤ 91) → (∀ j, 0 ≤ j → j < r * 6 → f j = TN j) → 91 - r < (fu : Int) → hG p l e (rmL 2) s m args below meth c 5 K A 0 0 (QV K A below args s (fun w => ∃ f : Int → Int, w = wP K q (sA S 5 f) ∧ ∀ j, 0 ≤ j → j < 546 → f j = TN j)) 2 [(1, .int (iI r)), (0, .ref (q 0))] [] (wP K q (sA S 5 f)) := by
    intro fu
    induction fu with
    | zero =>
      intro f r h1 h2 hm
      exact absurd hm (by omega)
    | succ fu ih2 =>
      intro f r h1 h2 hm
      refine g_iload_n (pc := 2) C dX0_joinRooms_2 rfl rfl ?_
      refine g_bipush (pc := 3) C dX0_joinRooms_3 (by decide +kernel) ?_
      refine g_icmp_ge (pc := 5) (tgt := 72) C dX0_joinRooms_5 (by decide) (by omega) (by omega) (fun c1 => ?_) (fun c1 => ?_)
      · exact g_return (pc := 72) C rfl dX0_joinRooms_72 ⟨f, rfl, fun j h7 h8 => h2 j h7 (by omega)⟩
      · refine g_iconst (pc := 8) C dX0_joinRooms_8 ?_
        refine g_istore_n (pc := 9) (lv' := [(2, .int (iI 0)), (1, .int (iI r)), (0, .ref (q 0))]) C dX0_joinRooms_9 rfl (by decide) rfl ?_
        have loop10 : ∀ (fu : Nat) (f : Int → Int) (t : Int), (0 ≤ t ∧ t ≤ 6) → (∀ j, 0 ≤ j → j < r * 6 + t → f j = TN j) → 6 - t < (fu : Int) → hG p l e (rmL 2) s m args below meth c 5 K A 0 0 (QV K A below args s (fun w => ∃ f : Int → Int, w = wP K q (sA S 5 f) ∧ ∀ j, 0 ≤ j → j < 546 → f j = TN j)) 10 [(2, .int (iI t)), (1, .int (iI r)), (0, .ref (q 0))] [] (wP K q (sA S 5 f)) := by
          intro fu
          induction fu with
          | zero =>
            intro f t h5 h6 hm
            exact absurd hm (by omega)
          | succ fu ih10 =>
            intro f t h5 h6 hm
            refine g_iload_n (pc := 10) C dX0_joinRooms_10 rfl rfl ?_
            refine g_bipush (pc := 11) C dX0_joinRooms_11 (by decide +kernel) ?_
            refine g_icmp_ge (pc := 13) (tgt := 66) C dX0_joinRooms_13 (by decide) (by omega) (by omega) (fun c2 => ?_) (fun c2 => ?_)
            · refine g_iinc (pc := 66) (lv' := [(1, .int (iI (r + 1))), (2, .int (iI t)), (0, .ref (q 0))]) C dX0_joinRooms_66 rfl (by decide) rfl ?_
              refine g_goto (pc := 69) (tgt := 2) C dX0_joinRooms_69 (by decide) ?_
              refine g_sub (lv' := [(1, .int (iI (r + 1))), (0, .ref (q 0))]) [0, 2] rfl ?_
              exact ih2 f (r + 1) (by omega) (fun j h7 h8 => h6 j h7 (by omega)) (by omega)
            · have ta := TA_b r
              have td := TD_b r
              have sx := stX_b t
              have sy := stY_b t
              refine g_aload_n (pc := 16) C dX0_joinRooms_16 rfl rfl ?_
              refine g_get (pc := 17) (ref := "HexRooms$Plan") (ci := 0) (N := 5) C 0 rfl rfl hinX0 0 (by decide) (by decide +kernel) rfl rfl dX0_joinRooms_17 ?_
              refine g_iload_n (pc := 20) C dX0_joinRooms_20 rfl rfl ?_
              refine g_iaload (pc := 21) (f := (S 1)) C 1 rfl (by omega) dX0_joinRooms_21 ?_
              have bd3 := (B.1 r (by omega) (by omega)).1
              refine g_getS (pc := 22) C C.hZ.1 (by decide +kernel) dX0_joinRooms_22 ?_
              refine g_iload_n (pc := 25) C dX0_joinRooms_25 rfl rfl ?_
              refine g_ialoadS (pc := 26) C C.hZ.1 (by omega) dX0_joinRooms_26 ?_
              refine g_iadd (pc := 27) C dX0_joinRooms_27 ?_
              refine g_istore_n (pc := 28) (lv' := [(3, .int (iI (((S 1) r) + (stX t)))), (2, .int (iI t)), (1, .int (iI r)), (0, .ref (q 0))]) C dX0_joinRooms_28 rfl (by decide) rfl ?_
              refine g_aload_n (pc := 29) C dX0_joinRooms_29 rfl rfl ?_
              refine g_get (pc := 30) (ref := "HexRooms$Plan") (ci := 0) (N := 5) C 0 rfl rfl hinX0 1 (by decide) (by decide +kernel) rfl rfl dX0_joinRooms_30 ?_
              refine g_iload_n (pc := 33) C dX0_joinRooms_33 rfl rfl ?_
              refine g_iaload (pc := 34) (f := (S 2)) C 2 rfl (by omega) dX0_joinRooms_34 ?_
              have bd4 := (B.1 r (by omega) (by omega)).2.1
              refine g_getS (pc := 35) C C.hZ.2.1 (by decide +kernel) dX0_joinRooms_35 ?_
              refine g_iload_n (pc := 38) C dX0_joinRooms_38 rfl rfl ?_
              refine g_ialoadS (pc := 39) C C.hZ.2.1 (by omega) dX0_joinRooms_39 ?_
              refine g_iadd (pc := 40) C dX0_joinRooms_40 ?_
              refine g_istore (pc := 41) (lv' := [(4, .int (iI (((S 2) r) + (stY t)))), (3, .int (iI (((S 1) r) + (stX t)))), (2, .int (iI t)), (1, .int (iI r)), (0, .ref (q 0))]) C dX0_joinRooms_41 (by decide) rfl ?_
              refine g_aload_n (pc := 43) C dX0_joinRooms_43 rfl rfl ?_
              refine g_get (pc := 44) (ref := "HexRooms$Plan") (ci := 0) (N := 5) C 0 rfl rfl hinX0 4 (by decide) (by decide +kernel) rfl rfl dX0_joinRooms_44 ?_
              refine g_iload_n (pc := 47) C dX0_joinRooms_47 rfl rfl ?_
              refine g_iload_n (pc := 48) C dX0_joinRooms_48 rfl rfl ?_
              refine g_callNI (pc := 49) (As := [.int (iI r), .int (iI t)]) (rest := [.ref (q 5)]) C (c_X1_doorOf l K _ r t) ⟨va_cnB 2 C.hts ggX0_joinRooms_X1_doorOf rfl rfl rfl C.hZ.2.2.2.2.2.2 (C.hts _ (by decide +kernel)) (by decide +kernel) ⟨by decide, by decide⟩, C.hts _ (by decide +kernel), trivial⟩ dX0_joinRooms_49 rfl (Nat.le_of_ble_eq_true rfl) ⟨Nat.zero_le _, Nat.zero_le _⟩ (fun z w hp => ?_)
              obtain ⟨rfl, rfl⟩ := hp
              refine g_aload_n (pc := 52) C dX0_joinRooms_52 rfl rfl ?_
              refine g_iload_n (pc := 53) C dX0_joinRooms_53 rfl rfl ?_
              refine g_iload (pc := 54) C dX0_joinRooms_54 rfl ?_
              refine g_callVI (pc := 56) (As := [.int (iI (((S 1) r) + (stX t))), .int (iI (((S 2) r) + (stY t)))]) (rest := [.int (iI (r * 6 + t)), .ref (q 5)]) C (c_P_roomAt l K q (sA S 5 f) (((S 1) r) + (stX t)) (((S 2) r) + (stY t)) (by omega) (by omega) hb5) (cwV 2 C.hts gX0_joinRooms_X0_roomAt rfl rfl rfl (by decide +kernel) ⟨by decide, by decide⟩) 0 rfl rfl dX0_joinRooms_56 rfl (Nat.le_of_ble_eq_true rfl) ⟨Nat.zero_le _, Nat.zero_le _⟩ (fun z w hp => ?_)
              obtain ⟨hz, rfl⟩ := hp
              have hz : z = TN (r * 6 + t) := hz.trans (PL_TN B (by omega) (by omega))
              refine g_iastore (pc := 59) (f := f) (ws' := (wP K q (sA S 5 (fU f (r * 6 + t) z)))) C 5 rfl (by omega) dX0_joinRooms_59 rfl ?_
              refine g_iinc (pc := 60) (lv' := [(2, .int (iI (t + 1))), (4, .int (iI (((S 2) r) + (stY t)))), (3, .int (iI (((S 1) r) + (stX t)))), (1, .int (iI r)), (0, .ref (q 0))]) C dX0_joinRooms_60 rfl (by decide) rfl ?_
              refine g_goto (pc := 63) (tgt := 10) C dX0_joinRooms_63 (by decide) ?_
              refine g_sub (lv' := [(2, .int (iI (t + 1))), (1, .int (iI r)), (0, .ref (q 0))]) [0, 3, 4] rfl ?_
              exact ih10 (fU f (r * 6 + t) z) (t + 1) (by omega) (fun j h7 h8 => by
                by_cases e : j = r * 6 + t
                · rw [e, fU_at, hz]
                · rw [fU_ne _ _ _ e]
                  exact h6 j h7 (by omega)) (by omega)
        exact loop10 (7) f 0 (by omega) (fun j h7 h8 => h2 j h7 (by omega)) (by omega)
  exact loop2 (92) (S 5) 0 (by omega) (fun j h3 h4 => by omega) (by omega)
