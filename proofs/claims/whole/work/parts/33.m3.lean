set_option maxHeartbeats 400000 in
set_option maxRecDepth 100000 in
theorem c_X2_put (l : Launch) (K : KK) (q : Nat → Nat) (S : Nat → Int → Int) (H : HT S) (hf : ∀ j, 0 ≤ j → j < S 0 2 → 0 ≤ S 4 j ∧ S 4 j ≤ 2) (hh : ∀ j, 0 ≤ j → j < 546 → 0 ≤ S 6 j ∧ S 6 j ≤ 1) (r v : Int) (gr : -2147483648 ≤ r ∧ r < 2147483648) (gv : -2147483648 ≤ v ∧ v < 2147483648) : hMI l yX2_put wsX2_put (rmL 8) K [.ref (q 0), .int (iI r), .int (iI v)] (wM K q S) (fun z w => (((0 ≤ r ∧ r < S 0 2) ∧ (0 ≤ v ∧ v ≤ 2)) ∧ (z = S 4 r) ∧ ∃ S2, w = wM K q S2 ∧ UM S S2 (fU (S 4) r v) (S 6) 0) ∨ ((¬ ((0 ≤ r ∧ r < S 0 2) ∧ (0 ≤ v ∧ v ≤ 2))) ∧ (z = 0) ∧ ∃ S2, w = wM K q S2 ∧ UM S S2 (S 4) (S 6) 1)) := by
  have hn := H.n
  have hk9 := H.1
  refine in_MI (cc := cX2_put) (maxL := 4) (rt := (some .int)) (lv := [(0, .ref (q 0)), (1, .int (iI r)), (2, .int (iI v))]) (by decide) rfl (Nat.le_of_ble_eq_true rfl) rfl ?_
  intro p e s m args below meth c A C
  have hinX2 : ∀ w ∈ wsX20, w ∈ wsX2_put := by decide +kernel
  refine g_aload_n (pc := 0) C dX2_put_0 rfl rfl ?_
  refine g_iconst (pc := 1) C dX2_put_1 ?_
  refine g_put (pc := 2) (ref := "HexRoomsModel") (ci := 2) (N := 13) (ws' := (wM K q (sA S 0 (fU (S 0) 0 0)))) C 0 rfl rfl hinX2 tyX2 tyX2_ok nmX2 0 (by decide) (by decide +kernel) rfl rfl rfl (Nat.le_of_ble_eq_true rfl) dX2_put_2 rfl ?_
  refine g_aload_n (pc := 5) C dX2_put_5 rfl rfl ?_
  refine g_iload_n (pc := 6) C dX2_put_6 rfl rfl ?_
  refine g_callVI (pc := 7) (As := [.int (iI r)]) (rest := []) C (c_X2_isRoom l K q (sA S 0 (fU (S 0) 0 0)) (show 7 ≤ S 0 2 ∧ S 0 2 ≤ 91 by omega) r (by omega)) (cwV 1 C.hts gX2_put_X2_isRoom rfl rfl rfl (by decide +kernel) ⟨by decide, by decide⟩) 0 rfl rfl dX2_put_7 rfl (Nat.le_of_ble_eq_true rfl) ⟨Nat.zero_le _, Nat.zero_le _⟩ (fun iz7 w hp => ?_)
  obtain ⟨hz7, rfl⟩ := hp
  have hz7 : (iz7 = 1 ∧ (0 ≤ r ∧ r < S 0 2)) ∨ (iz7 = 0 ∧ ¬ (0 ≤ r ∧ r < S 0 2)) := hz7
  refine g_if_eq (pc := 10) (tgt := 22) C dX2_put_10 (by decide) (by omega) (fun c1 => ?_) (fun c1 => ?_)
  · refine g_aload_n (pc := 22) C dX2_put_22 rfl rfl ?_
    refine g_iconst (pc := 23) C dX2_put_23 ?_
    refine g_callVI (pc := 24) (As := [.int (iI 1)]) (rest := []) C (c_X2_fail l K q (sA S 0 (fU (S 0) 0 0)) 1) (cwV 1 C.hts gX2_put_X2_fail rfl rfl rfl (by decide +kernel) ⟨by decide, by decide⟩) 0 rfl rfl dX2_put_24 rfl (Nat.le_of_ble_eq_true rfl) ⟨Nat.zero_le _, Nat.zero_le _⟩ (fun z w hp => ?_)
    obtain ⟨rfl, rfl⟩ := hp
    exact g_ireturn (pc := 27) C rfl dX2_put_27 (Or.inr (⟨by omega, rfl, _, rfl, (by first | rfl | exact fU_fU _ _ _ _), rfl, rfl, rfl, rfl, rfl, rfl⟩))
  · refine g_iload_n (pc := 13) C dX2_put_13 rfl rfl ?_
    refine g_iconst (pc := 14) C dX2_put_14 ?_
    refine g_iconst (pc := 15) C dX2_put_15 ?_
    refine g_callSI (pc := 16) (As := [.int (iI v), .int (iI 0), .int (iI 2)]) (rest := []) C (c_X2_isIn l K _ v 0 2 (by omega) (by omega)) (cwS 3 C.hts gX2_put_X2_isIn rfl rfl rfl (by decide +kernel) ⟨by decide, by decide⟩) dX2_put_16 rfl (Nat.le_of_ble_eq_true rfl) ⟨Nat.zero_le _, Nat.zero_le _⟩ (fun iz16 w hp => ?_)
    obtain ⟨hz16, rfl⟩ := hp
    have hz16 : (iz16 = 1 ∧ (0 ≤ v ∧ v ≤ 2)) ∨ (iz16 = 0 ∧ ¬ (0 ≤ v ∧ v ≤ 2)) := hz16
    refine g_if_ne (pc := 19) (tgt := 28) C dX2_put_19 (by decide) (by omega) (fun c2 => ?_) (fun c2 => ?_)
    · refine g_aload_n (pc := 28) C dX2_put_28 rfl rfl ?_
      refine g_get (pc := 29) (ref := "HexRoomsModel") (ci := 2) (N := 13) C 0 rfl rfl hinX2 6 (by decide) (by decide +kernel) rfl rfl dX2_put_29 ?_
      refine g_iload_n (pc := 32) C dX2_put_32 rfl rfl ?_
      refine g_iaload (pc := 33) (f := (S 4)) C 4 rfl (by omega) dX2_put_33 ?_
      refine g_istore_n (pc := 34) (lv' := [(3, .int (iI ((S 4) r))), (0, .ref (q 0)), (1, .int (iI r)), (2, .int (iI v))]) C dX2_put_34 rfl (by decide) rfl ?_
      refine g_aload_n (pc := 35) C dX2_put_35 rfl rfl ?_
      refine g_get (pc := 36) (ref := "HexRoomsModel") (ci := 2) (N := 13) C 0 rfl rfl hinX2 6 (by decide) (by decide +kernel) rfl rfl dX2_put_36 ?_
      refine g_iload_n (pc := 39) C dX2_put_39 rfl rfl ?_
      refine g_iload_n (pc := 40) C dX2_put_40 rfl rfl ?_
      refine g_iastore (pc := 41) (f := (S 4)) (ws' := (wM K q (sA (sA S 0 (fU (S 0) 0 0)) 4 (fU (S 4) r v)))) C 4 rfl (by omega) dX2_put_41 rfl ?_
      refine g_iload_n (pc := 42) C dX2_put_42 rfl rfl ?_
      exact g_ireturn (pc := 43) C rfl dX2_put_43 (Or.inl (⟨by omega, rfl, _, rfl, (by first | rfl | exact fU_fU _ _ _ _), rfl, rfl, rfl, rfl, rfl, rfl⟩))
    · refine g_aload_n (pc := 22) C dX2_put_22 rfl rfl ?_
      refine g_iconst (pc := 23) C dX2_put_23 ?_
      refine g_callVI (pc := 24) (As := [.int (iI 1)]) (rest := []) C (c_X2_fail l K q (sA S 0 (fU (S 0) 0 0)) 1) (cwV 1 C.hts gX2_put_X2_fail rfl rfl rfl (by decide +kernel) ⟨by decide, by decide⟩) 0 rfl rfl dX2_put_24 rfl (Nat.le_of_ble_eq_true rfl) ⟨Nat.zero_le _, Nat.zero_le _⟩ (fun z w hp => ?_)
      obtain ⟨rfl, rfl⟩ := hp
      exact g_ireturn (pc := 27) C rfl dX2_put_27 (Or.inr (⟨by omega, rfl, _, rfl, (by first | rfl | exact fU_fU _ _ _ _), rfl, rfl, rfl, rfl, rfl, rfl⟩))

set_option maxHeartbeats 400000 in
set_option maxRecDepth 100000 in
theorem c_X2_shut (l : Launch) (K : KK) (q : Nat → Nat) (S : Nat → Int → Int) (H : HT S) (hf : ∀ j, 0 ≤ j → j < S 0 2 → 0 ≤ S 4 j ∧ S 4 j ≤ 2) (hh : ∀ j, 0 ≤ j → j < 546 → 0 ≤ S 6 j ∧ S 6 j ≤ 1) (r t b : Int) (gr : -2147483648 ≤ r ∧ r < 2147483648) (gt : -2147483648 ≤ t ∧ t < 2147483648) (hb2 : b = 0 ∨ b = 1) : hMI l yX2_shut wsX2_shut (rmL 8) K [.ref (q 0), .int (iI r), .int (iI t), .int (iI b)] (wM K q S) (fun z w => (((0 ≤ r ∧ r < S 0 2) ∧ (0 ≤ t ∧ t < 6) ∧ ¬ NX (S 0 2) r t = -1) ∧ (z = S 6 (6 * r + t)) ∧ ∃ S2, w = wM K q S2 ∧ UM S S2 (S 4) (fU (fU (S 6) (6 * r + t) b) (6 * NX (S 0 2) r t + (t + 3) % 6) b) 0) ∨ ((¬ ((0 ≤ r ∧ r < S 0 2) ∧ (0 ≤ t ∧ t < 6))) ∧ (z = 0) ∧ ∃ S2, w = wM K q S2 ∧ UM S S2 (S 4) (S 6) 1) ∨ ((((0 ≤ r ∧ r < S 0 2) ∧ (0 ≤ t ∧ t < 6)) ∧ NX (S 0 2) r t = -1) ∧ (z = 0) ∧ ∃ S2, w = wM K q S2 ∧ UM S S2 (S 4) (S 6) 2)) := by
  have hn := H.n
  have hk9 := H.1
  refine in_MI (cc := cX2_shut) (maxL := 5) (rt := (some .boolean)) (lv := [(0, .ref (q 0)), (1, .int (iI r)), (2, .int (iI t)), (3, .int (iI b))]) (by decide) rfl (Nat.le_of_ble_eq_true rfl) rfl ?_
  intro p e s m args below meth c A C
  have hinX2 : ∀ w ∈ wsX20, w ∈ wsX2_shut := by decide +kernel
  refine g_aload_n (pc := 0) C dX2_shut_0 rfl rfl ?_
  refine g_aload_n (pc := 1) C dX2_shut_1 rfl rfl ?_
  refine g_iload_n (pc := 2) C dX2_shut_2 rfl rfl ?_
  refine g_callVI (pc := 3) (As := [.int (iI r)]) (rest := [.ref (q 0)]) C (c_X2_isRoom l K q S (show 7 ≤ S 0 2 ∧ S 0 2 ≤ 91 by omega) r (by omega)) (cwV 1 C.hts gX2_shut_X2_isRoom rfl rfl rfl (by decide +kernel) ⟨by decide, by decide⟩) 0 rfl rfl dX2_shut_3 rfl (Nat.le_of_ble_eq_true rfl) ⟨Nat.zero_le _, Nat.zero_le _⟩ (fun iz3 w hp => ?_)
  obtain ⟨hz3, rfl⟩ := hp
  have hz3 : (iz3 = 1 ∧ (0 ≤ r ∧ r < S 0 2)) ∨ (iz3 = 0 ∧ ¬ (0 ≤ r ∧ r < S 0 2)) := hz3
  refine g_if_eq (pc := 6) (tgt := 16) C dX2_shut_6 (by decide) (by omega) (fun c1 => ?_) (fun c1 => ?_)
  · refine g_iconst (pc := 16) C dX2_shut_16 ?_
    refine g_goto (pc := 17) (tgt := 35) C dX2_shut_17 (by decide) ?_
    refine g_put (pc := 35) (ref := "HexRoomsModel") (ci := 2) (N := 13) (ws' := (wM K q (sA S 0 (fU (S 0) 0 1)))) C 0 rfl rfl hinX2 tyX2 tyX2_ok nmX2 0 (by decide) (by decide +kernel) rfl rfl rfl (Nat.le_of_ble_eq_true rfl) dX2_shut_35 rfl ?_
    refine g_aload_n (pc := 38) C dX2_shut_38 rfl rfl ?_
    refine g_get (pc := 39) (v := .int (iI (1))) (ref := "HexRoomsModel") (ci := 2) (N := 13) C 0 rfl rfl hinX2 0 (by decide) (by decide +kernel) rfl rfl dX2_shut_39 ?_
    refine g_if_eq (pc := 42) (tgt := 47) C dX2_shut_42 (by decide) (by omega) (fun c2 => ?_) (fun c2 => ?_)
    · exact False.elim (by omega)
    · refine g_iconst (pc := 45) C dX2_shut_45 ?_
      exact g_zreturn (pc := 46) C rfl (by omega) dX2_shut_46 (Or.inr (Or.inl (⟨by omega, rfl, _, rfl, (by first | rfl | exact fU_fU _ _ _ _), rfl, rfl, rfl, rfl, rfl, rfl⟩)))
  · refine g_iload_n (pc := 9) C dX2_shut_9 rfl rfl ?_
    refine g_callSI (pc := 10) (As := [.int (iI t)]) (rest := [.ref (q 0)]) C (c_X2_isSide l K _ t (by omega)) (cwS 1 C.hts gX2_shut_X2_isSide rfl rfl rfl (by decide +kernel) ⟨by decide, by decide⟩) dX2_shut_10 rfl (Nat.le_of_ble_eq_true rfl) ⟨Nat.zero_le _, Nat.zero_le _⟩ (fun iz10 w hp => ?_)
    obtain ⟨hz10, rfl⟩ := hp
    have hz10 : (iz10 = 1 ∧ (0 ≤ t ∧ t < 6)) ∨ (iz10 = 0 ∧ ¬ (0 ≤ t ∧ t < 6)) := hz10
    refine g_if_ne (pc := 13) (tgt := 20) C dX2_shut_13 (by decide) (by omega) (fun c3 => ?_) (fun c3 => ?_)
    · refine g_aload_n (pc := 20) C dX2_shut_20 rfl rfl ?_
      refine g_iload_n (pc := 21) C dX2_shut_21 rfl rfl ?_
      refine g_iload_n (pc := 22) C dX2_shut_22 rfl rfl ?_
      refine g_callVI (pc := 23) (As := [.int (iI r), .int (iI t)]) (rest := [.ref (q 0)]) C (c_X2_next l K q S H r t (show 0 ≤ r ∧ r < S 0 2 by omega) (by omega)) (cwV 2 C.hts gX2_shut_X2_next rfl rfl rfl (by decide +kernel) ⟨by decide, by decide⟩) 0 rfl rfl dX2_shut_23 rfl (Nat.le_of_ble_eq_true rfl) ⟨Nat.zero_le _, Nat.zero_le _⟩ (fun z w hp => ?_)
      obtain ⟨hz, rfl⟩ := hp
      have hz : z = NX (S 0 2) r t := hz
      subst hz
      have hb23 := NX_b (S 0 2) r t
      refine g_iconst (pc := 26) C dX2_shut_26 ?_
      refine g_icmp_ne (pc := 27) (tgt := 34) C dX2_shut_27 (by decide) (by omega) (by omega) (fun c4 => ?_) (fun c4 => ?_)
      · refine g_iconst (pc := 34) C dX2_shut_34 ?_
        refine g_put (pc := 35) (ref := "HexRoomsModel") (ci := 2) (N := 13) (ws' := (wM K q (sA S 0 (fU (S 0) 0 0)))) C 0 rfl rfl hinX2 tyX2 tyX2_ok nmX2 0 (by decide) (by decide +kernel) rfl rfl rfl (Nat.le_of_ble_eq_true rfl) dX2_shut_35 rfl ?_
        refine g_aload_n (pc := 38) C dX2_shut_38 rfl rfl ?_
        refine g_get (pc := 39) (v := .int (iI (0))) (ref := "HexRoomsModel") (ci := 2) (N := 13) C 0 rfl rfl hinX2 0 (by decide) (by decide +kernel) rfl rfl dX2_shut_39 ?_
        refine g_if_eq (pc := 42) (tgt := 47) C dX2_shut_42 (by decide) (by omega) (fun c5 => ?_) (fun c5 => ?_)
        · refine g_aload_n (pc := 47) C dX2_shut_47 rfl rfl ?_
          refine g_get (pc := 48) (ref := "HexRoomsModel") (ci := 2) (N := 13) C 0 rfl rfl hinX2 8 (by decide) (by decide +kernel) rfl rfl dX2_shut_48 ?_
          refine g_bipush (pc := 51) C dX2_shut_51 (by decide +kernel) ?_
          refine g_iload_n (pc := 53) C dX2_shut_53 rfl rfl ?_
          refine g_imul (pc := 54) C dX2_shut_54 ?_
          refine g_iload_n (pc := 55) C dX2_shut_55 rfl rfl ?_
          refine g_iadd (pc := 56) C dX2_shut_56 ?_
          refine g_baload (pc := 57) (f := (S 6)) C 6 rfl (by omega) dX2_shut_57 ?_
          have bd6 := hh ((6 * r) + t) (by omega) (by omega)
          refine g_istore (pc := 58) (lv' := [(4, .int (iI ((S 6) ((6 * r) + t)))), (0, .ref (q 0)), (1, .int (iI r)), (2, .int (iI t)), (3, .int (iI b))]) C dX2_shut_58 (by decide) rfl ?_
          refine g_aload_n (pc := 60) C dX2_shut_60 rfl rfl ?_
          refine g_get (pc := 61) (ref := "HexRoomsModel") (ci := 2) (N := 13) C 0 rfl rfl hinX2 8 (by decide) (by decide +kernel) rfl rfl dX2_shut_61 ?_
          refine g_bipush (pc := 64) C dX2_shut_64 (by decide +kernel) ?_
          refine g_iload_n (pc := 66) C dX2_shut_66 rfl rfl ?_
          refine g_imul (pc := 67) C dX2_shut_67 ?_
          refine g_iload_n (pc := 68) C dX2_shut_68 rfl rfl ?_
          refine g_iadd (pc := 69) C dX2_shut_69 ?_
          refine g_iload_n (pc := 70) C dX2_shut_70 rfl rfl ?_
          refine g_bastore (pc := 71) (f := (S 6)) (ws' := (wM K q (sA (sA S 0 (fU (S 0) 0 0)) 6 (fU (S 6) ((6 * r) + t) b)))) C 6 rfl (by omega) (by omega) dX2_shut_71 rfl ?_
          refine g_aload_n (pc := 72) C dX2_shut_72 rfl rfl ?_
          refine g_get (pc := 73) (ref := "HexRoomsModel") (ci := 2) (N := 13) C 0 rfl rfl hinX2 8 (by decide) (by decide +kernel) rfl rfl dX2_shut_73 ?_
          refine g_bipush (pc := 76) C dX2_shut_76 (by decide +kernel) ?_
          refine g_aload_n (pc := 78) C dX2_shut_78 rfl rfl ?_
          refine g_iload_n (pc := 79) C dX2_shut_79 rfl rfl ?_
          refine g_iload_n (pc := 80) C dX2_shut_80 rfl rfl ?_
          refine g_callVI (pc := 81) (As := [.int (iI r), .int (iI t)]) (rest := [.int (iI 6), .ref (q 6)]) C (c_X2_next l K q (sA (sA S 0 (fU (S 0) 0 0)) 6 (fU (S 6) ((6 * r) + t) b)) H r t (show 0 ≤ r ∧ r < S 0 2 by omega) (by omega)) (cwV 2 C.hts gX2_shut_X2_next rfl rfl rfl (by decide +kernel) ⟨by decide, by decide⟩) 0 rfl rfl dX2_shut_81 rfl (Nat.le_of_ble_eq_true rfl) ⟨Nat.zero_le _, Nat.zero_le _⟩ (fun z w hp => ?_)
          obtain ⟨hz, rfl⟩ := hp
          have hz : z = NX (S 0 2) r t := hz
          subst hz
          have hb81 := NX_b (S 0 2) r t
          refine g_imul (pc := 84) C dX2_shut_84 ?_
          refine g_iload_n (pc := 85) C dX2_shut_85 rfl rfl ?_
          refine g_iconst (pc := 86) C dX2_shut_86 ?_
          refine g_iadd (pc := 87) C dX2_shut_87 ?_
          refine g_bipush (pc := 88) C dX2_shut_88 (by decide +kernel) ?_
          refine g_irem (pc := 90) C dX2_shut_90 (by omega) (by omega) ?_
          refine g_iadd (pc := 91) C dX2_shut_91 ?_
          refine g_iload_n (pc := 92) C dX2_shut_92 rfl rfl ?_
          refine g_bastore (pc := 93) (f := (fU (S 6) ((6 * r) + t) b)) (ws' := (wM K q (sA (sA S 0 (fU (S 0) 0 0)) 6 (fU (fU (S 6) ((6 * r) + t) b) ((6 * (NX (S 0 2) r t)) + ((t + 3) % 6)) b)))) C 6 rfl (by omega) (by omega) dX2_shut_93 rfl ?_
          refine g_iload (pc := 94) C dX2_shut_94 rfl ?_
          exact g_zreturn (pc := 96) C rfl (by omega) dX2_shut_96 (Or.inl (⟨by omega, rfl, _, rfl, (by first | rfl | exact fU_fU _ _ _ _), rfl, rfl, rfl, rfl, rfl, rfl⟩))
        · exact False.elim (by omega)
      · refine g_iconst (pc := 30) C dX2_shut_30 ?_
        refine g_goto (pc := 31) (tgt := 35) C dX2_shut_31 (by decide) ?_
        refine g_put (pc := 35) (ref := "HexRoomsModel") (ci := 2) (N := 13) (ws' := (wM K q (sA S 0 (fU (S 0) 0 2)))) C 0 rfl rfl hinX2 tyX2 tyX2_ok nmX2 0 (by decide) (by decide +kernel) rfl rfl rfl (Nat.le_of_ble_eq_true rfl) dX2_shut_35 rfl ?_
        refine g_aload_n (pc := 38) C dX2_shut_38 rfl rfl ?_
        refine g_get (pc := 39) (v := .int (iI (2))) (ref := "HexRoomsModel") (ci := 2) (N := 13) C 0 rfl rfl hinX2 0 (by decide) (by decide +kernel) rfl rfl dX2_shut_39 ?_
        refine g_if_eq (pc := 42) (tgt := 47) C dX2_shut_42 (by decide) (by omega) (fun c7 => ?_) (fun c7 => ?_)
        · exact False.elim (by omega)
        · refine g_iconst (pc := 45) C dX2_shut_45 ?_
          exact g_zreturn (pc := 46) C rfl (by omega) dX2_shut_46 (Or.inr (Or.inr (⟨by omega, rfl, _, rfl, (by first | rfl | exact fU_fU _ _ _ _), rfl, rfl, rfl, rfl, rfl, rfl⟩)))
    · refine g_iconst (pc := 16) C dX2_shut_16 ?_
      refine g_goto (pc := 17) (tgt := 35) C dX2_shut_17 (by decide) ?_
      refine g_put (pc := 35) (ref := "HexRoomsModel") (ci := 2) (N := 13) (ws' := (wM K q (sA S 0 (fU (S 0) 0 1)))) C 0 rfl rfl hinX2 tyX2 tyX2_ok nmX2 0 (by decide) (by decide +kernel) rfl rfl rfl (Nat.le_of_ble_eq_true rfl) dX2_shut_35 rfl ?_
      refine g_aload_n (pc := 38) C dX2_shut_38 rfl rfl ?_
      refine g_get (pc := 39) (v := .int (iI (1))) (ref := "HexRoomsModel") (ci := 2) (N := 13) C 0 rfl rfl hinX2 0 (by decide) (by decide +kernel) rfl rfl dX2_shut_39 ?_
      refine g_if_eq (pc := 42) (tgt := 47) C dX2_shut_42 (by decide) (by omega) (fun c8 => ?_) (fun c8 => ?_)
      · exact False.elim (by omega)
      · refine g_iconst (pc := 45) C dX2_shut_45 ?_
        exact g_zreturn (pc := 46) C rfl (by omega) dX2_shut_46 (Or.inr (Or.inl (⟨by omega, rfl, _, rfl, (by first | rfl | exact fU_fU _ _ _ _), rfl, rfl, rfl, rfl, rfl, rfl⟩)))

set_option maxHeartbeats 400000 in
set_option maxRecDepth 100000 in
theorem c_X2_isShut (l : Launch) (K : KK) (q : Nat → Nat) (S : Nat → Int → Int) (H : HT S) (hf : ∀ j, 0 ≤ j → j < S 0 2 → 0 ≤ S 4 j ∧ S 4 j ≤ 2) (hh : ∀ j, 0 ≤ j → j < 546 → 0 ≤ S 6 j ∧ S 6 j ≤ 1) (r t : Int) (gr : -2147483648 ≤ r ∧ r < 2147483648) (gt : -2147483648 ≤ t ∧ t < 2147483648) : hMI l yX2_isShut wsX2_isShut (rmL 8) K [.ref (q 0), .int (iI r), .int (iI t)] (wM K q S) (fun z w => (((0 ≤ r ∧ r < S 0 2) ∧ (0 ≤ t ∧ t < 6) ∧ ¬ NX (S 0 2) r t = -1) ∧ (z = S 6 (6 * r + t)) ∧ ∃ S2, w = wM K q S2 ∧ UM S S2 (S 4) (S 6) 0) ∨ ((¬ ((0 ≤ r ∧ r < S 0 2) ∧ (0 ≤ t ∧ t < 6))) ∧ (z = 0) ∧ ∃ S2, w = wM K q S2 ∧ UM S S2 (S 4) (S 6) 1) ∨ ((((0 ≤ r ∧ r < S 0 2) ∧ (0 ≤ t ∧ t < 6)) ∧ NX (S 0 2) r t = -1) ∧ (z = 0) ∧ ∃ S2, w = wM K q S2 ∧ UM S S2 (S 4) (S 6) 2)) := by
  have hn := H.n
  have hk9 := H.1
  refine in_MI (cc := cX2_isShut) (maxL := 3) (rt := (some .boolean)) (lv := [(0, .ref (q 0)), (1, .int (iI r)), (2, .int (iI t))]) (by decide) rfl (Nat.le_of_ble_eq_true rfl) rfl ?_
  intro p e s m args below meth c A C
  have hinX2 : ∀ w ∈ wsX20, w ∈ wsX2_isShut := by decide +kernel
  refine g_aload_n (pc := 0) C dX2_isShut_0 rfl rfl ?_
  refine g_aload_n (pc := 1) C dX2_isShut_1 rfl rfl ?_
  refine g_iload_n (pc := 2) C dX2_isShut_2 rfl rfl ?_
  refine g_callVI (pc := 3) (As := [.int (iI r)]) (rest := [.ref (q 0)]) C (c_X2_isRoom l K q S (show 7 ≤ S 0 2 ∧ S 0 2 ≤ 91 by omega) r (by omega)) (cwV 1 C.hts gX2_isShut_X2_isRoom rfl rfl rfl (by decide +kernel) ⟨by decide, by decide⟩) 0 rfl rfl dX2_isShut_3 rfl (Nat.le_of_ble_eq_true rfl) ⟨Nat.zero_le _, Nat.zero_le _⟩ (fun iz3 w hp => ?_)
  obtain ⟨hz3, rfl⟩ := hp
  have hz3 : (iz3 = 1 ∧ (0 ≤ r ∧ r < S 0 2)) ∨ (iz3 = 0 ∧ ¬ (0 ≤ r ∧ r < S 0 2)) := hz3
  refine g_if_eq (pc := 6) (tgt := 16) C dX2_isShut_6 (by decide) (by omega) (fun c1 => ?_) (fun c1 => ?_)
  · refine g_iconst (pc := 16) C dX2_isShut_16 ?_
    refine g_goto (pc := 17) (tgt := 35) C dX2_isShut_17 (by decide) ?_
    refine g_put (pc := 35) (ref := "HexRoomsModel") (ci := 2) (N := 13) (ws' := (wM K q (sA S 0 (fU (S 0) 0 1)))) C 0 rfl rfl hinX2 tyX2 tyX2_ok nmX2 0 (by decide) (by decide +kernel) rfl rfl rfl (Nat.le_of_ble_eq_true rfl) dX2_isShut_35 rfl ?_
    refine g_aload_n (pc := 38) C dX2_isShut_38 rfl rfl ?_
    refine g_get (pc := 39) (v := .int (iI (1))) (ref := "HexRoomsModel") (ci := 2) (N := 13) C 0 rfl rfl hinX2 0 (by decide) (by decide +kernel) rfl rfl dX2_isShut_39 ?_
    refine g_if_ne (pc := 42) (tgt := 63) C dX2_isShut_42 (by decide) (by omega) (fun c2 => ?_) (fun c2 => ?_)
    · refine g_iconst (pc := 63) C dX2_isShut_63 ?_
      exact g_zreturn (pc := 64) C rfl (by omega) dX2_isShut_64 (Or.inr (Or.inl (⟨by omega, rfl, _, rfl, (by first | rfl | exact fU_fU _ _ _ _), rfl, rfl, rfl, rfl, rfl, rfl⟩)))
    · exact False.elim (by omega)
  · refine g_iload_n (pc := 9) C dX2_isShut_9 rfl rfl ?_
    refine g_callSI (pc := 10) (As := [.int (iI t)]) (rest := [.ref (q 0)]) C (c_X2_isSide l K _ t (by omega)) (cwS 1 C.hts gX2_isShut_X2_isSide rfl rfl rfl (by decide +kernel) ⟨by decide, by decide⟩) dX2_isShut_10 rfl (Nat.le_of_ble_eq_true rfl) ⟨Nat.zero_le _, Nat.zero_le _⟩ (fun iz10 w hp => ?_)
    obtain ⟨hz10, rfl⟩ := hp
    have hz10 : (iz10 = 1 ∧ (0 ≤ t ∧ t < 6)) ∨ (iz10 = 0 ∧ ¬ (0 ≤ t ∧ t < 6)) := hz10
    refine g_if_ne (pc := 13) (tgt := 20) C dX2_isShut_13 (by decide) (by omega) (fun c3 => ?_) (fun c3 => ?_)
    · refine g_aload_n (pc := 20) C dX2_isShut_20 rfl rfl ?_
      refine g_iload_n (pc := 21) C dX2_isShut_21 rfl rfl ?_
      refine g_iload_n (pc := 22) C dX2_isShut_22 rfl rfl ?_
      refine g_callVI (pc := 23) (As := [.int (iI r), .int (iI t)]) (rest := [.ref (q 0)]) C (c_X2_next l K q S H r t (show 0 ≤ r ∧ r < S 0 2 by omega) (by omega)) (cwV 2 C.hts gX2_isShut_X2_next rfl rfl rfl (by decide +kernel) ⟨by decide, by decide⟩) 0 rfl rfl dX2_isShut_23 rfl (Nat.le_of_ble_eq_true rfl) ⟨Nat.zero_le _, Nat.zero_le _⟩ (fun z w hp => ?_)
      obtain ⟨hz, rfl⟩ := hp
      have hz : z = NX (S 0 2) r t := hz
      subst hz
      have hb23 := NX_b (S 0 2) r t
      refine g_iconst (pc := 26) C dX2_isShut_26 ?_
      refine g_icmp_ne (pc := 27) (tgt := 34) C dX2_isShut_27 (by decide) (by omega) (by omega) (fun c4 => ?_) (fun c4 => ?_)
      · refine g_iconst (pc := 34) C dX2_isShut_34 ?_
        refine g_put (pc := 35) (ref := "HexRoomsModel") (ci := 2) (N := 13) (ws' := (wM K q (sA S 0 (fU (S 0) 0 0)))) C 0 rfl rfl hinX2 tyX2 tyX2_ok nmX2 0 (by decide) (by decide +kernel) rfl rfl rfl (Nat.le_of_ble_eq_true rfl) dX2_isShut_35 rfl ?_
        refine g_aload_n (pc := 38) C dX2_isShut_38 rfl rfl ?_
        refine g_get (pc := 39) (v := .int (iI (0))) (ref := "HexRoomsModel") (ci := 2) (N := 13) C 0 rfl rfl hinX2 0 (by decide) (by decide +kernel) rfl rfl dX2_isShut_39 ?_
        refine g_if_ne (pc := 42) (tgt := 63) C dX2_isShut_42 (by decide) (by omega) (fun c5 => ?_) (fun c5 => ?_)
        · exact False.elim (by omega)
        · refine g_aload_n (pc := 45) C dX2_isShut_45 rfl rfl ?_
          refine g_get (pc := 46) (ref := "HexRoomsModel") (ci := 2) (N := 13) C 0 rfl rfl hinX2 8 (by decide) (by decide +kernel) rfl rfl dX2_isShut_46 ?_
          refine g_bipush (pc := 49) C dX2_isShut_49 (by decide +kernel) ?_
          refine g_iload_n (pc := 51) C dX2_isShut_51 rfl rfl ?_
          refine g_imul (pc := 52) C dX2_isShut_52 ?_
          refine g_iload_n (pc := 53) C dX2_isShut_53 rfl rfl ?_
          refine g_iadd (pc := 54) C dX2_isShut_54 ?_
          refine g_baload (pc := 55) (f := (S 6)) C 6 rfl (by omega) dX2_isShut_55 ?_
          have bd6 := hh ((6 * r) + t) (by omega) (by omega)
          refine g_if_eq (pc := 56) (tgt := 63) C dX2_isShut_56 (by decide) (by omega) (fun c7 => ?_) (fun c7 => ?_)
          · refine g_iconst (pc := 63) C dX2_isShut_63 ?_
            exact g_zreturn (pc := 64) C rfl (by omega) dX2_isShut_64 (Or.inl (⟨by omega, by omega, _, rfl, (by first | rfl | exact fU_fU _ _ _ _), rfl, rfl, rfl, rfl, rfl, rfl⟩))
          · refine g_iconst (pc := 59) C dX2_isShut_59 ?_
            refine g_goto (pc := 60) (tgt := 64) C dX2_isShut_60 (by decide) ?_
            exact g_zreturn (pc := 64) C rfl (by omega) dX2_isShut_64 (Or.inl (⟨by omega, by omega, _, rfl, (by first | rfl | exact fU_fU _ _ _ _), rfl, rfl, rfl, rfl, rfl, rfl⟩))
      · refine g_iconst (pc := 30) C dX2_isShut_30 ?_
        refine g_goto (pc := 31) (tgt := 35) C dX2_isShut_31 (by decide) ?_
        refine g_put (pc := 35) (ref := "HexRoomsModel") (ci := 2) (N := 13) (ws' := (wM K q (sA S 0 (fU (S 0) 0 2)))) C 0 rfl rfl hinX2 tyX2 tyX2_ok nmX2 0 (by decide) (by decide +kernel) rfl rfl rfl (Nat.le_of_ble_eq_true rfl) dX2_isShut_35 rfl ?_
        refine g_aload_n (pc := 38) C dX2_isShut_38 rfl rfl ?_
        refine g_get (pc := 39) (v := .int (iI (2))) (ref := "HexRoomsModel") (ci := 2) (N := 13) C 0 rfl rfl hinX2 0 (by decide) (by decide +kernel) rfl rfl dX2_isShut_39 ?_
        refine g_if_ne (pc := 42) (tgt := 63) C dX2_isShut_42 (by decide) (by omega) (fun c8 => ?_) (fun c8 => ?_)
        · refine g_iconst (pc := 63) C dX2_isShut_63 ?_
          exact g_zreturn (pc := 64) C rfl (by omega) dX2_isShut_64 (Or.inr (Or.inr (⟨by omega, rfl, _, rfl, (by first | rfl | exact fU_fU _ _ _ _), rfl, rfl, rfl, rfl, rfl, rfl⟩)))
        · exact False.elim (by omega)
    · refine g_iconst (pc := 16) C dX2_isShut_16 ?_
      refine g_goto (pc := 17) (tgt := 35) C dX2_isShut_17 (by decide) ?_
      refine g_put (pc := 35) (ref := "HexRoomsModel") (ci := 2) (N := 13) (ws' := (wM K q (sA S 0 (fU (S 0) 0 1)))) C 0 rfl rfl hinX2 tyX2 tyX2_ok nmX2 0 (by decide) (by decide +kernel) rfl rfl rfl (Nat.le_of_ble_eq_true rfl) dX2_isShut_35 rfl ?_
      refine g_aload_n (pc := 38) C dX2_isShut_38 rfl rfl ?_
      refine g_get (pc := 39) (v := .int (iI (1))) (ref := "HexRoomsModel") (ci := 2) (N := 13) C 0 rfl rfl hinX2 0 (by decide) (by decide +kernel) rfl rfl dX2_isShut_39 ?_
      refine g_if_ne (pc := 42) (tgt := 63) C dX2_isShut_42 (by decide) (by omega) (fun c9 => ?_) (fun c9 => ?_)
      · refine g_iconst (pc := 63) C dX2_isShut_63 ?_
        exact g_zreturn (pc := 64) C rfl (by omega) dX2_isShut_64 (Or.inr (Or.inl (⟨by omega, rfl, _, rfl, (by first | rfl | exact fU_fU _ _ _ _), rfl, rfl, rfl, rfl, rfl, rfl⟩)))
      · exact False.elim (by omega)

set_option maxHeartbeats 400000 in
set_option maxRecDepth 100000 in
theorem c_X2_turn (l : Launch) (K : KK) (q : Nat → Nat) (S : Nat → Int → Int) (H : HT S) (hf : ∀ j, 0 ≤ j → j < S 0 2 → 0 ≤ S 4 j ∧ S 4 j ≤ 2) (hh : ∀ j, 0 ≤ j → j < 546 → 0 ≤ S 6 j ∧ S 6 j ≤ 1) (k b : Int) (gk : -2147483648 ≤ k ∧ k < 2147483648) (gb : -2147483648 ≤ b ∧ b < 2147483648) : hMI l yX2_turn wsX2_turn (rmL 8) K [.ref (q 0), .int (iI k), .int (iI b)] (wM K q S) (fun z w => (((0 ≤ k ∧ k ≤ S 0 1) ∧ (0 ≤ b ∧ b ≤ 29)) ∧ (z = LIT (S 0 2) (rot k b (S 4) (S 4)) (S 6)) ∧ ∃ S2, w = wM K q S2 ∧ UM S S2 (rot k b (S 4) (S 4)) (S 6) 0) ∨ ((¬ (0 ≤ k ∧ k ≤ S 0 1)) ∧ (z = 0) ∧ ∃ S2, w = wM K q S2 ∧ UM S S2 (S 4) (S 6) 1) ∨ (((0 ≤ k ∧ k ≤ S 0 1) ∧ ¬ (0 ≤ b ∧ b ≤ 29)) ∧ (z = 0) ∧ ∃ S2, w = wM K q S2 ∧ UM S S2 (S 4) (S 6) 2)) := by
  have hn := H.n
  have hk9 := H.1
  refine in_MI (cc := cX2_turn) (maxL := 3) (rt := (some .int)) (lv := [(0, .ref (q 0)), (1, .int (iI k)), (2, .int (iI b))]) (by decide) rfl (Nat.le_of_ble_eq_true rfl) rfl ?_
  intro p e s m args below meth c A C
  have hinX2 : ∀ w ∈ wsX20, w ∈ wsX2_turn := by decide +kernel
  refine g_aload_n (pc := 0) C dX2_turn_0 rfl rfl ?_
  refine g_iconst (pc := 1) C dX2_turn_1 ?_
  refine g_put (pc := 2) (ref := "HexRoomsModel") (ci := 2) (N := 13) (ws' := (wM K q (sA S 0 (fU (S 0) 0 0)))) C 0 rfl rfl hinX2 tyX2 tyX2_ok nmX2 0 (by decide) (by decide +kernel) rfl rfl rfl (Nat.le_of_ble_eq_true rfl) dX2_turn_2 rfl ?_
  refine g_aload_n (pc := 5) C dX2_turn_5 rfl rfl ?_
  refine g_iload_n (pc := 6) C dX2_turn_6 rfl rfl ?_
  refine g_callVI (pc := 7) (As := [.int (iI k)]) (rest := []) C (c_X2_isRing l K q (sA S 0 (fU (S 0) 0 0)) (show 1 ≤ S 0 1 ∧ S 0 1 ≤ 5 by omega) k (by omega)) (cwV 1 C.hts gX2_turn_X2_isRing rfl rfl rfl (by decide +kernel) ⟨by decide, by decide⟩) 0 rfl rfl dX2_turn_7 rfl (Nat.le_of_ble_eq_true rfl) ⟨Nat.zero_le _, Nat.zero_le _⟩ (fun iz7 w hp => ?_)
  obtain ⟨hz7, rfl⟩ := hp
  have hz7 : (iz7 = 1 ∧ (0 ≤ k ∧ k ≤ S 0 1)) ∨ (iz7 = 0 ∧ ¬ (0 ≤ k ∧ k ≤ S 0 1)) := hz7
  refine g_if_ne (pc := 10) (tgt := 19) C dX2_turn_10 (by decide) (by omega) (fun c1 => ?_) (fun c1 => ?_)
  · refine g_iload_n (pc := 19) C dX2_turn_19 rfl rfl ?_
    refine g_iconst (pc := 20) C dX2_turn_20 ?_
    refine g_bipush (pc := 21) C dX2_turn_21 (by decide +kernel) ?_
    refine g_callSI (pc := 23) (As := [.int (iI b), .int (iI 0), .int (iI 29)]) (rest := []) C (c_X2_isIn l K _ b 0 29 (by omega) (by omega)) (cwS 3 C.hts gX2_turn_X2_isIn rfl rfl rfl (by decide +kernel) ⟨by decide, by decide⟩) dX2_turn_23 rfl (Nat.le_of_ble_eq_true rfl) ⟨Nat.zero_le _, Nat.zero_le _⟩ (fun iz23 w hp => ?_)
    obtain ⟨hz23, rfl⟩ := hp
    have hz23 : (iz23 = 1 ∧ (0 ≤ b ∧ b ≤ 29)) ∨ (iz23 = 0 ∧ ¬ (0 ≤ b ∧ b ≤ 29)) := hz23
    refine g_if_ne (pc := 26) (tgt := 35) C dX2_turn_26 (by decide) (by omega) (fun c2 => ?_) (fun c2 => ?_)
    · refine g_aload_n (pc := 35) C dX2_turn_35 rfl rfl ?_
      have hfr := FR_m (k := k) (m := S 0 1) (by omega) hk9.2
      rw [← H.2.1] at hfr
      have hf2 := rot_in (k := k) (b := b) (f := S 4) (g := S 4) (by omega) hfr hf hf
      refine g_iload_n (pc := 36) C dX2_turn_36 rfl rfl ?_
      refine g_iload_n (pc := 37) C dX2_turn_37 rfl rfl ?_
      refine g_callVV (pc := 38) (As := [.int (iI k), .int (iI b)]) (rest := []) C (c_X2_move l K q (sA S 0 (fU (S 0) 0 0)) k b (by omega) (by omega)) (cwV 2 C.hts gX2_turn_X2_move rfl rfl rfl (by decide +kernel) ⟨by decide, by decide⟩) 0 rfl rfl dX2_turn_38 rfl (Nat.le_of_ble_eq_true rfl) ⟨Nat.zero_le _, Nat.zero_le _⟩ (fun w hp => ?_)
      obtain ⟨v38, rfl⟩ := hp
      refine g_aload_n (pc := 41) C dX2_turn_41 rfl rfl ?_
      refine g_callVI (pc := 42) (As := []) (rest := []) C (c_X2_lit l K q (sA (sA (sA S 0 (fU (S 0) 0 0)) 10 v38) 4 (rot k b (S 4) (S 4))) H hf2 hh) (cwV 0 C.hts gX2_turn_X2_lit rfl rfl rfl (by decide +kernel) ⟨by decide, by decide⟩) 0 rfl rfl dX2_turn_42 rfl (Nat.le_of_ble_eq_true rfl) ⟨Nat.zero_le _, Nat.zero_le _⟩ (fun lz w hp => ?_)
      obtain ⟨hlz, L42, rfl, hL42⟩ := hp
      have hlz : lz = LIT (S 0 2) (rot k b (S 4) (S 4)) (S 6) := hlz
      have hlb := LIT_b (n := S 0 2) (by omega) (rot k b (S 4) (S 4)) (S 6)
      rw [← hlz] at hlb
      have hL42 : ∀ j, 0 ≤ j → j < S 0 2 → L42 j = LT (S 0 2) (rot k b (S 4) (S 4)) (S 6) (S 0 2) j := hL42
      exact g_ireturn (pc := 45) C rfl dX2_turn_45 (Or.inl (⟨by omega, hlz, _, rfl, (by first | rfl | exact fU_fU _ _ _ _), rfl, rfl, rfl, rfl, rfl, rfl⟩))
    · refine g_aload_n (pc := 29) C dX2_turn_29 rfl rfl ?_
      refine g_iconst (pc := 30) C dX2_turn_30 ?_
      refine g_callVI (pc := 31) (As := [.int (iI 2)]) (rest := []) C (c_X2_fail l K q (sA S 0 (fU (S 0) 0 0)) 2) (cwV 1 C.hts gX2_turn_X2_fail rfl rfl rfl (by decide +kernel) ⟨by decide, by decide⟩) 0 rfl rfl dX2_turn_31 rfl (Nat.le_of_ble_eq_true rfl) ⟨Nat.zero_le _, Nat.zero_le _⟩ (fun z w hp => ?_)
      obtain ⟨rfl, rfl⟩ := hp
      exact g_ireturn (pc := 34) C rfl dX2_turn_34 (Or.inr (Or.inr (⟨by omega, rfl, _, rfl, (by first | rfl | exact fU_fU _ _ _ _), rfl, rfl, rfl, rfl, rfl, rfl⟩)))
  · refine g_aload_n (pc := 13) C dX2_turn_13 rfl rfl ?_
    refine g_iconst (pc := 14) C dX2_turn_14 ?_
    refine g_callVI (pc := 15) (As := [.int (iI 1)]) (rest := []) C (c_X2_fail l K q (sA S 0 (fU (S 0) 0 0)) 1) (cwV 1 C.hts gX2_turn_X2_fail rfl rfl rfl (by decide +kernel) ⟨by decide, by decide⟩) 0 rfl rfl dX2_turn_15 rfl (Nat.le_of_ble_eq_true rfl) ⟨Nat.zero_le _, Nat.zero_le _⟩ (fun z w hp => ?_)
    obtain ⟨rfl, rfl⟩ := hp
    exact g_ireturn (pc := 18) C rfl dX2_turn_18 (Or.inr (Or.inl (⟨by omega, rfl, _, rfl, (by first | rfl | exact fU_fU _ _ _ _), rfl, rfl, rfl, rfl, rfl, rfl⟩)))

set_option maxHeartbeats 400000 in
set_option maxRecDepth 100000 in
theorem c_X2_turnAll (l : Launch) (K : KK) (q : Nat → Nat) (S : Nat → Int → Int) (H : HT S) (hf : ∀ j, 0 ≤ j → j < S 0 2 → 0 ≤ S 4 j ∧ S 4 j ≤ 2) (hh : ∀ j, 0 ≤ j → j < 546 → 0 ≤ S 6 j ∧ S 6 j ≤ 1) (b : Int) (gb : -2147483648 ≤ b ∧ b < 2147483648) : hMI l yX2_turnAll wsX2_turnAll (rmL 8) K [.ref (q 0), .int (iI b)] (wM K q S) (fun z w => ((0 ≤ b ∧ b ≤ 5) ∧ ∃ F : Int → Int, z = LIT (S 0 2) F (S 6) ∧ (∀ j, 0 ≤ j → j < S 0 2 → F j = AT (S 4) b j) ∧ ∃ S2, w = wM K q S2 ∧ UM S S2 F (S 6) 0) ∨ (¬ (0 ≤ b ∧ b ≤ 5) ∧ z = 0 ∧ ∃ S2, w = wM K q S2 ∧ UM S S2 (S 4) (S 6) 1)) := by
  have hn := H.n
  have hk9 := H.1
  refine in_MI (cc := cX2_turnAll) (maxL := 2) (rt := (some .int)) (lv := [(0, .ref (q 0)), (1, .int (iI b))]) (by decide) rfl (Nat.le_of_ble_eq_true rfl) rfl ?_
  intro p e s m args below meth c A C
  have hinX2 : ∀ w ∈ wsX20, w ∈ wsX2_turnAll := by decide +kernel
  refine g_aload_n (pc := 0) C dX2_turnAll_0 rfl rfl ?_
  refine g_iconst (pc := 1) C dX2_turnAll_1 ?_
  refine g_put (pc := 2) (ref := "HexRoomsModel") (ci := 2) (N := 13) (ws' := (wM K q (sA S 0 (fU (S 0) 0 0)))) C 0 rfl rfl hinX2 tyX2 tyX2_ok nmX2 0 (by decide) (by decide +kernel) rfl rfl rfl (Nat.le_of_ble_eq_true rfl) dX2_turnAll_2 rfl ?_
  refine g_iload_n (pc := 5) C dX2_turnAll_5 rfl rfl ?_
  refine g_iconst (pc := 6) C dX2_turnAll_6 ?_
  refine g_iconst (pc := 7) C dX2_turnAll_7 ?_
  refine g_callSI (pc := 8) (As := [.int (iI b), .int (iI 0), .int (iI 5)]) (rest := []) C (c_X2_isIn l K _ b 0 5 (by omega) (by omega)) (cwS 3 C.hts gX2_turnAll_X2_isIn rfl rfl rfl (by decide +kernel) ⟨by decide, by decide⟩) dX2_turnAll_8 rfl (Nat.le_of_ble_eq_true rfl) ⟨Nat.zero_le _, Nat.zero_le _⟩ (fun iz8 w hp => ?_)
  obtain ⟨hz8, rfl⟩ := hp
  have hz8 : (iz8 = 1 ∧ (0 ≤ b ∧ b ≤ 5)) ∨ (iz8 = 0 ∧ ¬ (0 ≤ b ∧ b ≤ 5)) := hz8
  refine g_if_ne (pc := 11) (tgt := 20) C dX2_turnAll_11 (by decide) (by omega) (fun c1 => ?_) (fun c1 => ?_)
  · refine g_aload_n (pc := 20) C dX2_turnAll_20 rfl rfl ?_
    refine g_iload_n (pc := 21) C dX2_turnAll_21 rfl rfl ?_
    refine g_callVV (pc := 22) (As := [.int (iI b)]) (rest := []) C (c_X2_moveAll l K q (sA S 0 (fU (S 0) 0 0)) H b (by omega)) (cwV 1 C.hts gX2_turnAll_X2_moveAll rfl rfl rfl (by decide +kernel) ⟨by decide, by decide⟩) 0 rfl rfl dX2_turnAll_22 rfl (Nat.le_of_ble_eq_true rfl) ⟨Nat.zero_le _, Nat.zero_le _⟩ (fun w hp => ?_)
    obtain ⟨v22, F22, rfl, hF⟩ := hp
    have hF : ∀ j, 0 ≤ j → j < S 0 2 → F22 j = AT (S 4) b j := hF
    have hf2 := AT_in2 hk9 H.2.1 (f := S 4) (b := b) hf hF
    refine g_aload_n (pc := 25) C dX2_turnAll_25 rfl rfl ?_
    refine g_callVI (pc := 26) (As := []) (rest := []) C (c_X2_lit l K q (sA (sA (sA S 0 (fU (S 0) 0 0)) 10 v22) 4 F22) H hf2 hh) (cwV 0 C.hts gX2_turnAll_X2_lit rfl rfl rfl (by decide +kernel) ⟨by decide, by decide⟩) 0 rfl rfl dX2_turnAll_26 rfl (Nat.le_of_ble_eq_true rfl) ⟨Nat.zero_le _, Nat.zero_le _⟩ (fun lz w hp => ?_)
    obtain ⟨hlz, L26, rfl, hL26⟩ := hp
    have hlz : lz = LIT (S 0 2) F22 (S 6) := hlz
    have hlb := LIT_b (n := S 0 2) (by omega) F22 (S 6)
    rw [← hlz] at hlb
    have hL26 : ∀ j, 0 ≤ j → j < S 0 2 → L26 j = LT (S 0 2) F22 (S 6) (S 0 2) j := hL26
    exact g_ireturn (pc := 29) C rfl dX2_turnAll_29 (Or.inl ⟨by omega, F22, hlz, hF, _, rfl, (by first | rfl | exact fU_fU _ _ _ _), rfl, rfl, rfl, rfl, rfl, rfl⟩)
  · refine g_aload_n (pc := 14) C dX2_turnAll_14 rfl rfl ?_
    refine g_iconst (pc := 15) C dX2_turnAll_15 ?_
    refine g_callVI (pc := 16) (As := [.int (iI 1)]) (rest := []) C (c_X2_fail l K q (sA S 0 (fU (S 0) 0 0)) 1) (cwV 1 C.hts gX2_turnAll_X2_fail rfl rfl rfl (by decide +kernel) ⟨by decide, by decide⟩) 0 rfl rfl dX2_turnAll_16 rfl (Nat.le_of_ble_eq_true rfl) ⟨Nat.zero_le _, Nat.zero_le _⟩ (fun z w hp => ?_)
    obtain ⟨rfl, rfl⟩ := hp
    exact g_ireturn (pc := 19) C rfl dX2_turnAll_19 (Or.inr ⟨by omega, rfl, _, rfl, (by first | rfl | exact fU_fU _ _ _ _), rfl, rfl, rfl, rfl, rfl, rfl⟩)

set_option maxHeartbeats 400000 in
set_option maxRecDepth 100000 in
theorem c_X2_at (l : Launch) (K : KK) (q : Nat → Nat) (S : Nat → Int → Int) (H : HT S) (hf : ∀ j, 0 ≤ j → j < S 0 2 → 0 ≤ S 4 j ∧ S 4 j ≤ 2) (hh : ∀ j, 0 ≤ j → j < 546 → 0 ≤ S 6 j ∧ S 6 j ≤ 1) (x y : Int) (gx : -2147483648 ≤ x ∧ x < 2147483648) (gy : -2147483648 ≤ y ∧ y < 2147483648) : hMI l yX2_at wsX2_at (rmL 8) K [.ref (q 0), .int (iI x), .int (iI y)] (wM K q S) (fun z w => ((0 = 0) ∧ (z = RXY (S 0 2) x y) ∧ ∃ S2, w = wM K q S2 ∧ UM S S2 (S 4) (S 6) 0)) := by
  have hn := H.n
  have hk9 := H.1
  refine in_MI (cc := cX2_at) (maxL := 3) (rt := (some .int)) (lv := [(0, .ref (q 0)), (1, .int (iI x)), (2, .int (iI y))]) (by decide) rfl (Nat.le_of_ble_eq_true rfl) rfl ?_
  intro p e s m args below meth c A C
  have hinX2 : ∀ w ∈ wsX20, w ∈ wsX2_at := by decide +kernel
  refine g_aload_n (pc := 0) C dX2_at_0 rfl rfl ?_
  refine g_iconst (pc := 1) C dX2_at_1 ?_
  refine g_put (pc := 2) (ref := "HexRoomsModel") (ci := 2) (N := 13) (ws' := (wM K q (sA S 0 (fU (S 0) 0 0)))) C 0 rfl rfl hinX2 tyX2 tyX2_ok nmX2 0 (by decide) (by decide +kernel) rfl rfl rfl (Nat.le_of_ble_eq_true rfl) dX2_at_2 rfl ?_
  refine g_aload_n (pc := 5) C dX2_at_5 rfl rfl ?_
  refine g_iload_n (pc := 6) C dX2_at_6 rfl rfl ?_
  refine g_iload_n (pc := 7) C dX2_at_7 rfl rfl ?_
  refine g_callVI (pc := 8) (As := [.int (iI x), .int (iI y)]) (rest := []) C (c_X2_found l K q (sA S 0 (fU (S 0) 0 0)) H x y (by omega) (by omega)) (cwV 2 C.hts gX2_at_X2_found rfl rfl rfl (by decide +kernel) ⟨by decide, by decide⟩) 0 rfl rfl dX2_at_8 rfl (Nat.le_of_ble_eq_true rfl) ⟨Nat.zero_le _, Nat.zero_le _⟩ (fun z w hp => ?_)
  obtain ⟨rfl, rfl⟩ := hp
  exact g_ireturn (pc := 11) C rfl dX2_at_11 (⟨by omega, rfl, _, rfl, (by first | rfl | exact fU_fU _ _ _ _), rfl, rfl, rfl, rfl, rfl, rfl⟩)

set_option maxHeartbeats 400000 in
set_option maxRecDepth 100000 in
theorem c_X2_about (l : Launch) (K : KK) (q : Nat → Nat) (S : Nat → Int → Int) (H : HT S) (hf : ∀ j, 0 ≤ j → j < S 0 2 → 0 ≤ S 4 j ∧ S 4 j ≤ 2) (hh : ∀ j, 0 ≤ j → j < 546 → 0 ≤ S 6 j ∧ S 6 j ≤ 1) (r v : Int) (gr : -2147483648 ≤ r ∧ r < 2147483648) (gv : -2147483648 ≤ v ∧ v < 2147483648) : hMI l yX2_about wsX2_about (rmL 8) K [.ref (q 0), .int (iI r), .int (iI v)] (wM K q S) (fun z w => (((0 ≤ r ∧ r < S 0 2) ∧ (0 ≤ v ∧ v ≤ 5)) ∧ (z = ABT (S 0 2) (S 4) (S 6) r v) ∧ ∃ S2, w = wM K q S2 ∧ UM S S2 (S 4) (S 6) 0) ∨ ((¬ ((0 ≤ r ∧ r < S 0 2) ∧ (0 ≤ v ∧ v ≤ 5))) ∧ (z = 0) ∧ ∃ S2, w = wM K q S2 ∧ UM S S2 (S 4) (S 6) 1)) := by
  have hn := H.n
  have hk9 := H.1
  refine in_MI (cc := cX2_about) (maxL := 3) (rt := (some .int)) (lv := [(0, .ref (q 0)), (1, .int (iI r)), (2, .int (iI v))]) (by decide) rfl (Nat.le_of_ble_eq_true rfl) rfl ?_
  intro p e s m args below meth c A C
  have hinX2 : ∀ w ∈ wsX20, w ∈ wsX2_about := by decide +kernel
  refine g_aload_n (pc := 0) C dX2_about_0 rfl rfl ?_
  refine g_iconst (pc := 1) C dX2_about_1 ?_
  refine g_put (pc := 2) (ref := "HexRoomsModel") (ci := 2) (N := 13) (ws' := (wM K q (sA S 0 (fU (S 0) 0 0)))) C 0 rfl rfl hinX2 tyX2 tyX2_ok nmX2 0 (by decide) (by decide +kernel) rfl rfl rfl (Nat.le_of_ble_eq_true rfl) dX2_about_2 rfl ?_
  refine g_aload_n (pc := 5) C dX2_about_5 rfl rfl ?_
  refine g_iload_n (pc := 6) C dX2_about_6 rfl rfl ?_
  refine g_callVI (pc := 7) (As := [.int (iI r)]) (rest := []) C (c_X2_isRoom l K q (sA S 0 (fU (S 0) 0 0)) (show 7 ≤ S 0 2 ∧ S 0 2 ≤ 91 by omega) r (by omega)) (cwV 1 C.hts gX2_about_X2_isRoom rfl rfl rfl (by decide +kernel) ⟨by decide, by decide⟩) 0 rfl rfl dX2_about_7 rfl (Nat.le_of_ble_eq_true rfl) ⟨Nat.zero_le _, Nat.zero_le _⟩ (fun iz7 w hp => ?_)
  obtain ⟨hz7, rfl⟩ := hp
  have hz7 : (iz7 = 1 ∧ (0 ≤ r ∧ r < S 0 2)) ∨ (iz7 = 0 ∧ ¬ (0 ≤ r ∧ r < S 0 2)) := hz7
  refine g_if_eq (pc := 10) (tgt := 22) C dX2_about_10 (by decide) (by omega) (fun c1 => ?_) (fun c1 => ?_)
  · refine g_aload_n (pc := 22) C dX2_about_22 rfl rfl ?_
    refine g_iconst (pc := 23) C dX2_about_23 ?_
    refine g_callVI (pc := 24) (As := [.int (iI 1)]) (rest := []) C (c_X2_fail l K q (sA S 0 (fU (S 0) 0 0)) 1) (cwV 1 C.hts gX2_about_X2_fail rfl rfl rfl (by decide +kernel) ⟨by decide, by decide⟩) 0 rfl rfl dX2_about_24 rfl (Nat.le_of_ble_eq_true rfl) ⟨Nat.zero_le _, Nat.zero_le _⟩ (fun z w hp => ?_)
    obtain ⟨rfl, rfl⟩ := hp
    exact g_ireturn (pc := 27) C rfl dX2_about_27 (Or.inr (⟨by omega, rfl, _, rfl, (by first | rfl | exact fU_fU _ _ _ _), rfl, rfl, rfl, rfl, rfl, rfl⟩))
  · refine g_iload_n (pc := 13) C dX2_about_13 rfl rfl ?_
    refine g_iconst (pc := 14) C dX2_about_14 ?_
    refine g_iconst (pc := 15) C dX2_about_15 ?_
    refine g_callSI (pc := 16) (As := [.int (iI v), .int (iI 0), .int (iI 5)]) (rest := []) C (c_X2_isIn l K _ v 0 5 (by omega) (by omega)) (cwS 3 C.hts gX2_about_X2_isIn rfl rfl rfl (by decide +kernel) ⟨by decide, by decide⟩) dX2_about_16 rfl (Nat.le_of_ble_eq_true rfl) ⟨Nat.zero_le _, Nat.zero_le _⟩ (fun iz16 w hp => ?_)
    obtain ⟨hz16, rfl⟩ := hp
    have hz16 : (iz16 = 1 ∧ (0 ≤ v ∧ v ≤ 5)) ∨ (iz16 = 0 ∧ ¬ (0 ≤ v ∧ v ≤ 5)) := hz16
    refine g_if_ne (pc := 19) (tgt := 28) C dX2_about_19 (by decide) (by omega) (fun c2 => ?_) (fun c2 => ?_)
    · refine g_iload_n (pc := 28) C dX2_about_28 rfl rfl ?_
      refine g_iconst (pc := 29) C dX2_about_29 ?_
      refine g_icmp_ne (pc := 30) (tgt := 38) C dX2_about_30 (by decide) (by omega) (by omega) (fun c3 => ?_) (fun c3 => ?_)
      · refine g_aload_n (pc := 38) C dX2_about_38 rfl rfl ?_
        refine g_iload_n (pc := 39) C dX2_about_39 rfl rfl ?_
        refine g_iload_n (pc := 40) C dX2_about_40 rfl rfl ?_
        refine g_callVI (pc := 41) (As := [.int (iI r), .int (iI v)]) (rest := []) C (c_X2_roomTold l K q (sA S 0 (fU (S 0) 0 0)) H hf hh r v (show 0 ≤ r ∧ r < S 0 2 by omega) (by omega) (fun e => by first | exact absurd e (by omega) | exact hL34 r (by omega) (by omega))) (cwV 2 C.hts gX2_about_X2_roomTold rfl rfl rfl (by decide +kernel) ⟨by decide, by decide⟩) 0 rfl rfl dX2_about_41 rfl (Nat.le_of_ble_eq_true rfl) ⟨Nat.zero_le _, Nat.zero_le _⟩ (fun vz w hp => ?_)
        obtain ⟨hvz, rfl⟩ := hp
        have hvz : vz = ABT (S 0 2) (S 4) (S 6) r v := hvz
        exact g_ireturn (pc := 44) C rfl dX2_about_44 (Or.inl (⟨by omega, hvz, _, rfl, (by first | rfl | exact fU_fU _ _ _ _), rfl, rfl, rfl, rfl, rfl, rfl⟩))
      · refine g_aload_n (pc := 33) C dX2_about_33 rfl rfl ?_
        refine g_callVI (pc := 34) (As := []) (rest := []) C (c_X2_lit l K q (sA S 0 (fU (S 0) 0 0)) H hf hh) (cwV 0 C.hts gX2_about_X2_lit rfl rfl rfl (by decide +kernel) ⟨by decide, by decide⟩) 0 rfl rfl dX2_about_34 rfl (Nat.le_of_ble_eq_true rfl) ⟨Nat.zero_le _, Nat.zero_le _⟩ (fun lz w hp => ?_)
        obtain ⟨hlz, L34, rfl, hL34⟩ := hp
        have hlz : lz = LIT (S 0 2) (S 4) (S 6) := hlz
        have hlb := LIT_b (n := S 0 2) (by omega) (S 4) (S 6)
        rw [← hlz] at hlb
        have hL34 : ∀ j, 0 ≤ j → j < S 0 2 → L34 j = LT (S 0 2) (S 4) (S 6) (S 0 2) j := hL34
        refine g_pop (pc := 37) C dX2_about_37 rfl ?_
        refine g_aload_n (pc := 38) C dX2_about_38 rfl rfl ?_
        refine g_iload_n (pc := 39) C dX2_about_39 rfl rfl ?_
        refine g_iload_n (pc := 40) C dX2_about_40 rfl rfl ?_
        refine g_callVI (pc := 41) (As := [.int (iI r), .int (iI v)]) (rest := []) C (c_X2_roomTold l K q (sA (sA S 0 (fU (S 0) 0 0)) 7 L34) H hf hh r v (show 0 ≤ r ∧ r < S 0 2 by omega) (by omega) (fun e => by first | exact absurd e (by omega) | exact hL34 r (by omega) (by omega))) (cwV 2 C.hts gX2_about_X2_roomTold rfl rfl rfl (by decide +kernel) ⟨by decide, by decide⟩) 0 rfl rfl dX2_about_41 rfl (Nat.le_of_ble_eq_true rfl) ⟨Nat.zero_le _, Nat.zero_le _⟩ (fun vz w hp => ?_)
        obtain ⟨hvz, rfl⟩ := hp
        have hvz : vz = ABT (S 0 2) (S 4) (S 6) r v := hvz
        exact g_ireturn (pc := 44) C rfl dX2_about_44 (Or.inl (⟨by omega, hvz, _, rfl, (by first | rfl | exact fU_fU _ _ _ _), rfl, rfl, rfl, rfl, rfl, rfl⟩))
    · refine g_aload_n (pc := 22) C dX2_about_22 rfl rfl ?_
      refine g_iconst (pc := 23) C dX2_about_23 ?_
      refine g_callVI (pc := 24) (As := [.int (iI 1)]) (rest := []) C (c_X2_fail l K q (sA S 0 (fU (S 0) 0 0)) 1) (cwV 1 C.hts gX2_about_X2_fail rfl rfl rfl (by decide +kernel) ⟨by decide, by decide⟩) 0 rfl rfl dX2_about_24 rfl (Nat.le_of_ble_eq_true rfl) ⟨Nat.zero_le _, Nat.zero_le _⟩ (fun z w hp => ?_)
      obtain ⟨rfl, rfl⟩ := hp
      exact g_ireturn (pc := 27) C rfl dX2_about_27 (Or.inr (⟨by omega, rfl, _, rfl, (by first | rfl | exact fU_fU _ _ _ _), rfl, rfl, rfl, rfl, rfl, rfl⟩))

set_option maxHeartbeats 400000 in
set_option maxRecDepth 100000 in
theorem c_X2_beside (l : Launch) (K : KK) (q : Nat → Nat) (S : Nat → Int → Int) (H : HT S) (hf : ∀ j, 0 ≤ j → j < S 0 2 → 0 ≤ S 4 j ∧ S 4 j ≤ 2) (hh : ∀ j, 0 ≤ j → j < 546 → 0 ≤ S 6 j ∧ S 6 j ≤ 1) (r t : Int) (gr : -2147483648 ≤ r ∧ r < 2147483648) (gt : -2147483648 ≤ t ∧ t < 2147483648) : hMI l yX2_beside wsX2_beside (rmL 8) K [.ref (q 0), .int (iI r), .int (iI t)] (wM K q S) (fun z w => (((0 ≤ r ∧ r < S 0 2) ∧ (0 ≤ t ∧ t < 6)) ∧ (z = NX (S 0 2) r t) ∧ ∃ S2, w = wM K q S2 ∧ UM S S2 (S 4) (S 6) 0) ∨ ((¬ ((0 ≤ r ∧ r < S 0 2) ∧ (0 ≤ t ∧ t < 6))) ∧ (z = 0) ∧ ∃ S2, w = wM K q S2 ∧ UM S S2 (S 4) (S 6) 1)) := by
  have hn := H.n
  have hk9 := H.1
  refine in_MI (cc := cX2_beside) (maxL := 3) (rt := (some .int)) (lv := [(0, .ref (q 0)), (1, .int (iI r)), (2, .int (iI t))]) (by decide) rfl (Nat.le_of_ble_eq_true rfl) rfl ?_
  intro p e s m args below meth c A C
  have hinX2 : ∀ w ∈ wsX20, w ∈ wsX2_beside := by decide +kernel
  refine g_aload_n (pc := 0) C dX2_beside_0 rfl rfl ?_
  refine g_iconst (pc := 1) C dX2_beside_1 ?_
  refine g_put (pc := 2) (ref := "HexRoomsModel") (ci := 2) (N := 13) (ws' := (wM K q (sA S 0 (fU (S 0) 0 0)))) C 0 rfl rfl hinX2 tyX2 tyX2_ok nmX2 0 (by decide) (by decide +kernel) rfl rfl rfl (Nat.le_of_ble_eq_true rfl) dX2_beside_2 rfl ?_
  refine g_aload_n (pc := 5) C dX2_beside_5 rfl rfl ?_
  refine g_iload_n (pc := 6) C dX2_beside_6 rfl rfl ?_
  refine g_callVI (pc := 7) (As := [.int (iI r)]) (rest := []) C (c_X2_isRoom l K q (sA S 0 (fU (S 0) 0 0)) (show 7 ≤ S 0 2 ∧ S 0 2 ≤ 91 by omega) r (by omega)) (cwV 1 C.hts gX2_beside_X2_isRoom rfl rfl rfl (by decide +kernel) ⟨by decide, by decide⟩) 0 rfl rfl dX2_beside_7 rfl (Nat.le_of_ble_eq_true rfl) ⟨Nat.zero_le _, Nat.zero_le _⟩ (fun iz7 w hp => ?_)
  obtain ⟨hz7, rfl⟩ := hp
  have hz7 : (iz7 = 1 ∧ (0 ≤ r ∧ r < S 0 2)) ∨ (iz7 = 0 ∧ ¬ (0 ≤ r ∧ r < S 0 2)) := hz7
  refine g_if_eq (pc := 10) (tgt := 29) C dX2_beside_10 (by decide) (by omega) (fun c1 => ?_) (fun c1 => ?_)
  · refine g_aload_n (pc := 29) C dX2_beside_29 rfl rfl ?_
    refine g_iconst (pc := 30) C dX2_beside_30 ?_
    refine g_callVI (pc := 31) (As := [.int (iI 1)]) (rest := []) C (c_X2_fail l K q (sA S 0 (fU (S 0) 0 0)) 1) (cwV 1 C.hts gX2_beside_X2_fail rfl rfl rfl (by decide +kernel) ⟨by decide, by decide⟩) 0 rfl rfl dX2_beside_31 rfl (Nat.le_of_ble_eq_true rfl) ⟨Nat.zero_le _, Nat.zero_le _⟩ (fun z w hp => ?_)
    obtain ⟨rfl, rfl⟩ := hp
    exact g_ireturn (pc := 34) C rfl dX2_beside_34 (Or.inr (⟨by omega, rfl, _, rfl, (by first | rfl | exact fU_fU _ _ _ _), rfl, rfl, rfl, rfl, rfl, rfl⟩))
  · refine g_iload_n (pc := 13) C dX2_beside_13 rfl rfl ?_
    refine g_callSI (pc := 14) (As := [.int (iI t)]) (rest := []) C (c_X2_isSide l K _ t (by omega)) (cwS 1 C.hts gX2_beside_X2_isSide rfl rfl rfl (by decide +kernel) ⟨by decide, by decide⟩) dX2_beside_14 rfl (Nat.le_of_ble_eq_true rfl) ⟨Nat.zero_le _, Nat.zero_le _⟩ (fun iz14 w hp => ?_)
    obtain ⟨hz14, rfl⟩ := hp
    have hz14 : (iz14 = 1 ∧ (0 ≤ t ∧ t < 6)) ∨ (iz14 = 0 ∧ ¬ (0 ≤ t ∧ t < 6)) := hz14
    refine g_if_eq (pc := 17) (tgt := 29) C dX2_beside_17 (by decide) (by omega) (fun c2 => ?_) (fun c2 => ?_)
    · refine g_aload_n (pc := 29) C dX2_beside_29 rfl rfl ?_
      refine g_iconst (pc := 30) C dX2_beside_30 ?_
      refine g_callVI (pc := 31) (As := [.int (iI 1)]) (rest := []) C (c_X2_fail l K q (sA S 0 (fU (S 0) 0 0)) 1) (cwV 1 C.hts gX2_beside_X2_fail rfl rfl rfl (by decide +kernel) ⟨by decide, by decide⟩) 0 rfl rfl dX2_beside_31 rfl (Nat.le_of_ble_eq_true rfl) ⟨Nat.zero_le _, Nat.zero_le _⟩ (fun z w hp => ?_)
      obtain ⟨rfl, rfl⟩ := hp
      exact g_ireturn (pc := 34) C rfl dX2_beside_34 (Or.inr (⟨by omega, rfl, _, rfl, (by first | rfl | exact fU_fU _ _ _ _), rfl, rfl, rfl, rfl, rfl, rfl⟩))
    · refine g_aload_n (pc := 20) C dX2_beside_20 rfl rfl ?_
      refine g_iload_n (pc := 21) C dX2_beside_21 rfl rfl ?_
      refine g_iload_n (pc := 22) C dX2_beside_22 rfl rfl ?_
      refine g_callVI (pc := 23) (As := [.int (iI r), .int (iI t)]) (rest := []) C (c_X2_next l K q (sA S 0 (fU (S 0) 0 0)) H r t (show 0 ≤ r ∧ r < S 0 2 by omega) (by omega)) (cwV 2 C.hts gX2_beside_X2_next rfl rfl rfl (by decide +kernel) ⟨by decide, by decide⟩) 0 rfl rfl dX2_beside_23 rfl (Nat.le_of_ble_eq_true rfl) ⟨Nat.zero_le _, Nat.zero_le _⟩ (fun z w hp => ?_)
      obtain ⟨hz, rfl⟩ := hp
      have hz : z = NX (S 0 2) r t := hz
      subst hz
      have hb23 := NX_b (S 0 2) r t
      refine g_goto (pc := 26) (tgt := 34) C dX2_beside_26 (by decide) ?_
      exact g_ireturn (pc := 34) C rfl dX2_beside_34 (Or.inl (⟨by omega, rfl, _, rfl, (by first | rfl | exact fU_fU _ _ _ _), rfl, rfl, rfl, rfl, rfl, rfl⟩))

set_option maxHeartbeats 400000 in
set_option maxRecDepth 100000 in
theorem c_X2_far (l : Launch) (K : KK) (q : Nat → Nat) (S : Nat → Int → Int) (H : HT S) (hf : ∀ j, 0 ≤ j → j < S 0 2 → 0 ≤ S 4 j ∧ S 4 j ≤ 2) (hh : ∀ j, 0 ≤ j → j < 546 → 0 ≤ S 6 j ∧ S 6 j ≤ 1) (a b : Int) (ga : -2147483648 ≤ a ∧ a < 2147483648) (gb : -2147483648 ≤ b ∧ b < 2147483648) : hMI l yX2_far wsX2_far (rmL 8) K [.ref (q 0), .int (iI a), .int (iI b)] (wM K q S) (fun z w => (((0 ≤ a ∧ a < S 0 2) ∧ (0 ≤ b ∧ b < S 0 2)) ∧ (z = FA a b) ∧ ∃ S2, w = wM K q S2 ∧ UM S S2 (S 4) (S 6) 0) ∨ ((¬ ((0 ≤ a ∧ a < S 0 2) ∧ (0 ≤ b ∧ b < S 0 2))) ∧ (z = 0) ∧ ∃ S2, w = wM K q S2 ∧ UM S S2 (S 4) (S 6) 1)) := by
  have hn := H.n
  have hk9 := H.1
  refine in_MI (cc := cX2_far) (maxL := 5) (rt := (some .int)) (lv := [(0, .ref (q 0)), (1, .int (iI a)), (2, .int (iI b))]) (by decide) rfl (Nat.le_of_ble_eq_true rfl) rfl ?_
  intro p e s m args below meth c A C
  have hinX2 : ∀ w ∈ wsX20, w ∈ wsX2_far := by decide +kernel
  refine g_aload_n (pc := 0) C dX2_far_0 rfl rfl ?_
  refine g_iconst (pc := 1) C dX2_far_1 ?_
  refine g_put (pc := 2) (ref := "HexRoomsModel") (ci := 2) (N := 13) (ws' := (wM K q (sA S 0 (fU (S 0) 0 0)))) C 0 rfl rfl hinX2 tyX2 tyX2_ok nmX2 0 (by decide) (by decide +kernel) rfl rfl rfl (Nat.le_of_ble_eq_true rfl) dX2_far_2 rfl ?_
  refine g_aload_n (pc := 5) C dX2_far_5 rfl rfl ?_
  refine g_iload_n (pc := 6) C dX2_far_6 rfl rfl ?_
  refine g_callVI (pc := 7) (As := [.int (iI a)]) (rest := []) C (c_X2_isRoom l K q (sA S 0 (fU (S 0) 0 0)) (show 7 ≤ S 0 2 ∧ S 0 2 ≤ 91 by omega) a (by omega)) (cwV 1 C.hts gX2_far_X2_isRoom rfl rfl rfl (by decide +kernel) ⟨by decide, by decide⟩) 0 rfl rfl dX2_far_7 rfl (Nat.le_of_ble_eq_true rfl) ⟨Nat.zero_le _, Nat.zero_le _⟩ (fun iz7 w hp => ?_)
  obtain ⟨hz7, rfl⟩ := hp
  have hz7 : (iz7 = 1 ∧ (0 ≤ a ∧ a < S 0 2)) ∨ (iz7 = 0 ∧ ¬ (0 ≤ a ∧ a < S 0 2)) := hz7
  refine g_if_eq (pc := 10) (tgt := 21) C dX2_far_10 (by decide) (by omega) (fun c1 => ?_) (fun c1 => ?_)
  · refine g_aload_n (pc := 21) C dX2_far_21 rfl rfl ?_
    refine g_iconst (pc := 22) C dX2_far_22 ?_
    refine g_callVI (pc := 23) (As := [.int (iI 1)]) (rest := []) C (c_X2_fail l K q (sA S 0 (fU (S 0) 0 0)) 1) (cwV 1 C.hts gX2_far_X2_fail rfl rfl rfl (by decide +kernel) ⟨by decide, by decide⟩) 0 rfl rfl dX2_far_23 rfl (Nat.le_of_ble_eq_true rfl) ⟨Nat.zero_le _, Nat.zero_le _⟩ (fun z w hp => ?_)
    obtain ⟨rfl, rfl⟩ := hp
    exact g_ireturn (pc := 26) C rfl dX2_far_26 (Or.inr (⟨by omega, rfl, _, rfl, (by first | rfl | exact fU_fU _ _ _ _), rfl, rfl, rfl, rfl, rfl, rfl⟩))
  · refine g_aload_n (pc := 13) C dX2_far_13 rfl rfl ?_
    refine g_iload_n (pc := 14) C dX2_far_14 rfl rfl ?_
    refine g_callVI (pc := 15) (As := [.int (iI b)]) (rest := []) C (c_X2_isRoom l K q (sA S 0 (fU (S 0) 0 0)) (show 7 ≤ S 0 2 ∧ S 0 2 ≤ 91 by omega) b (by omega)) (cwV 1 C.hts gX2_far_X2_isRoom rfl rfl rfl (by decide +kernel) ⟨by decide, by decide⟩) 0 rfl rfl dX2_far_15 rfl (Nat.le_of_ble_eq_true rfl) ⟨Nat.zero_le _, Nat.zero_le _⟩ (fun iz15 w hp => ?_)
    obtain ⟨hz15, rfl⟩ := hp
    have hz15 : (iz15 = 1 ∧ (0 ≤ b ∧ b < S 0 2)) ∨ (iz15 = 0 ∧ ¬ (0 ≤ b ∧ b < S 0 2)) := hz15
    refine g_if_ne (pc := 18) (tgt := 27) C dX2_far_18 (by decide) (by omega) (fun c2 => ?_) (fun c2 => ?_)
    · have e1 := (H.2.2.1 a (by omega) (by omega)).1
      have e2 := (H.2.2.1 b (by omega) (by omega)).1
      have e3 := (H.2.2.1 a (by omega) (by omega)).2.1
      have e4 := (H.2.2.1 b (by omega) (by omega)).2.1
      have t1 := TA_b a
      have t2 := TA_b b
      have t3 := TD_b a
      have t4 := TD_b b
      have a1 := ab_b (S 1 a - S 1 b)
      have a2 := ab_b (S 2 a - S 2 b)
      have a3 := ab_b ((S 1 a - S 1 b) + (S 2 a - S 2 b))
      refine g_aload_n (pc := 27) C dX2_far_27 rfl rfl ?_
      refine g_get (pc := 28) (ref := "HexRoomsModel") (ci := 2) (N := 13) C 0 rfl rfl hinX2 3 (by decide) (by decide +kernel) rfl rfl dX2_far_28 ?_
      refine g_iload_n (pc := 31) C dX2_far_31 rfl rfl ?_
      refine g_iaload (pc := 32) (f := (S 1)) C 1 rfl (by omega) dX2_far_32 ?_
      refine g_aload_n (pc := 33) C dX2_far_33 rfl rfl ?_
      refine g_get (pc := 34) (ref := "HexRoomsModel") (ci := 2) (N := 13) C 0 rfl rfl hinX2 3 (by decide) (by decide +kernel) rfl rfl dX2_far_34 ?_
      refine g_iload_n (pc := 37) C dX2_far_37 rfl rfl ?_
      refine g_iaload (pc := 38) (f := (S 1)) C 1 rfl (by omega) dX2_far_38 ?_
      refine g_isub (pc := 39) C dX2_far_39 ?_
      refine g_istore_n (pc := 40) (lv' := [(3, .int (iI (((S 1) a) - ((S 1) b)))), (0, .ref (q 0)), (1, .int (iI a)), (2, .int (iI b))]) C dX2_far_40 rfl (by decide) rfl ?_
      refine g_aload_n (pc := 41) C dX2_far_41 rfl rfl ?_
      refine g_get (pc := 42) (ref := "HexRoomsModel") (ci := 2) (N := 13) C 0 rfl rfl hinX2 4 (by decide) (by decide +kernel) rfl rfl dX2_far_42 ?_
      refine g_iload_n (pc := 45) C dX2_far_45 rfl rfl ?_
      refine g_iaload (pc := 46) (f := (S 2)) C 2 rfl (by omega) dX2_far_46 ?_
      refine g_aload_n (pc := 47) C dX2_far_47 rfl rfl ?_
      refine g_get (pc := 48) (ref := "HexRoomsModel") (ci := 2) (N := 13) C 0 rfl rfl hinX2 4 (by decide) (by decide +kernel) rfl rfl dX2_far_48 ?_
      refine g_iload_n (pc := 51) C dX2_far_51 rfl rfl ?_
      refine g_iaload (pc := 52) (f := (S 2)) C 2 rfl (by omega) dX2_far_52 ?_
      refine g_isub (pc := 53) C dX2_far_53 ?_
      refine g_istore (pc := 54) (lv' := [(4, .int (iI (((S 2) a) - ((S 2) b)))), (3, .int (iI (((S 1) a) - ((S 1) b)))), (0, .ref (q 0)), (1, .int (iI a)), (2, .int (iI b))]) C dX2_far_54 (by decide) rfl ?_
      refine g_iload_n (pc := 56) C dX2_far_56 rfl rfl ?_
      refine g_ab (pc := 57) C (by decide +kernel) (by decide +kernel) (by decide +kernel) (by decide +kernel) (by decide) (Nat.le_of_ble_eq_true rfl) ⟨Nat.zero_le _, Nat.zero_le _⟩ (by omega) dX2_far_57 ?_
      refine g_iload (pc := 60) C dX2_far_60 rfl ?_
      refine g_ab (pc := 62) C (by decide +kernel) (by decide +kernel) (by decide +kernel) (by decide +kernel) (by decide) (Nat.le_of_ble_eq_true rfl) ⟨Nat.zero_le _, Nat.zero_le _⟩ (by omega) dX2_far_62 ?_
      refine g_iadd (pc := 65) C dX2_far_65 ?_
      refine g_iload_n (pc := 66) C dX2_far_66 rfl rfl ?_
      refine g_iload (pc := 67) C dX2_far_67 rfl ?_
      refine g_iadd (pc := 69) C dX2_far_69 ?_
      refine g_ab (pc := 70) C (by decide +kernel) (by decide +kernel) (by decide +kernel) (by decide +kernel) (by decide) (Nat.le_of_ble_eq_true rfl) ⟨Nat.zero_le _, Nat.zero_le _⟩ (by omega) dX2_far_70 ?_
      refine g_iadd (pc := 73) C dX2_far_73 ?_
      refine g_iconst (pc := 74) C dX2_far_74 ?_
      refine g_idiv (pc := 75) C dX2_far_75 (by omega) (by omega) ?_
      exact g_ireturn (pc := 76) C rfl dX2_far_76 (Or.inl (⟨by omega, by rw [e1, e2, e3, e4]; rfl, _, rfl, (by first | rfl | exact fU_fU _ _ _ _), rfl, rfl, rfl, rfl, rfl, rfl⟩))
    · refine g_aload_n (pc := 21) C dX2_far_21 rfl rfl ?_
      refine g_iconst (pc := 22) C dX2_far_22 ?_
      refine g_callVI (pc := 23) (As := [.int (iI 1)]) (rest := []) C (c_X2_fail l K q (sA S 0 (fU (S 0) 0 0)) 1) (cwV 1 C.hts gX2_far_X2_fail rfl rfl rfl (by decide +kernel) ⟨by decide, by decide⟩) 0 rfl rfl dX2_far_23 rfl (Nat.le_of_ble_eq_true rfl) ⟨Nat.zero_le _, Nat.zero_le _⟩ (fun z w hp => ?_)
      obtain ⟨rfl, rfl⟩ := hp
      exact g_ireturn (pc := 26) C rfl dX2_far_26 (Or.inr (⟨by omega, rfl, _, rfl, (by first | rfl | exact fU_fU _ _ _ _), rfl, rfl, rfl, rfl, rfl, rfl⟩))

set_option maxHeartbeats 400000 in
set_option maxRecDepth 100000 in
theorem c_X2_sees (l : Launch) (K : KK) (q : Nat → Nat) (S : Nat → Int → Int) (H : HT S) (hf : ∀ j, 0 ≤ j → j < S 0 2 → 0 ≤ S 4 j ∧ S 4 j ≤ 2) (hh : ∀ j, 0 ≤ j → j < 546 → 0 ≤ S 6 j ∧ S 6 j ≤ 1) (a b : Int) (ga : -2147483648 ≤ a ∧ a < 2147483648) (gb : -2147483648 ≤ b ∧ b < 2147483648) : hMI l yX2_sees wsX2_sees (rmL 8) K [.ref (q 0), .int (iI a), .int (iI b)] (wM K q S) (fun z w => (((0 ≤ a ∧ a < S 0 2) ∧ (0 ≤ b ∧ b < S 0 2)) ∧ (z = if 0 < sL (ind b) (beam (S 0 2) (S 4) (S 6) a) then 1 else 0) ∧ ∃ S2, w = wM K q S2 ∧ UM S S2 (S 4) (S 6) 0) ∨ ((¬ ((0 ≤ a ∧ a < S 0 2) ∧ (0 ≤ b ∧ b < S 0 2))) ∧ (z = 0) ∧ ∃ S2, w = wM K q S2 ∧ UM S S2 (S 4) (S 6) 1)) := by
  have hn := H.n
  have hk9 := H.1
  refine in_MI (cc := cX2_sees) (maxL := 4) (rt := (some .boolean)) (lv := [(0, .ref (q 0)), (1, .int (iI a)), (2, .int (iI b))]) (by decide) rfl (Nat.le_of_ble_eq_true rfl) rfl ?_
  intro p e s m args below meth c A C
  have hinX2 : ∀ w ∈ wsX20, w ∈ wsX2_sees := by decide +kernel
  refine g_aload_n (pc := 0) C dX2_sees_0 rfl rfl ?_
  refine g_aload_n (pc := 1) C dX2_sees_1 rfl rfl ?_
  refine g_iload_n (pc := 2) C dX2_sees_2 rfl rfl ?_
  refine g_callVI (pc := 3) (As := [.int (iI a)]) (rest := [.ref (q 0)]) C (c_X2_isRoom l K q S (show 7 ≤ S 0 2 ∧ S 0 2 ≤ 91 by omega) a (by omega)) (cwV 1 C.hts gX2_sees_X2_isRoom rfl rfl rfl (by decide +kernel) ⟨by decide, by decide⟩) 0 rfl rfl dX2_sees_3 rfl (Nat.le_of_ble_eq_true rfl) ⟨Nat.zero_le _, Nat.zero_le _⟩ (fun iz3 w hp => ?_)
  obtain ⟨hz3, rfl⟩ := hp
  have hz3 : (iz3 = 1 ∧ (0 ≤ a ∧ a < S 0 2)) ∨ (iz3 = 0 ∧ ¬ (0 ≤ a ∧ a < S 0 2)) := hz3
  refine g_if_eq (pc := 6) (tgt := 21) C dX2_sees_6 (by decide) (by omega) (fun c1 => ?_) (fun c1 => ?_)
  · refine g_iconst (pc := 21) C dX2_sees_21 ?_
    refine g_put (pc := 22) (ref := "HexRoomsModel") (ci := 2) (N := 13) (ws' := (wM K q (sA S 0 (fU (S 0) 0 1)))) C 0 rfl rfl hinX2 tyX2 tyX2_ok nmX2 0 (by decide) (by decide +kernel) rfl rfl rfl (Nat.le_of_ble_eq_true rfl) dX2_sees_22 rfl ?_
    refine g_aload_n (pc := 25) C dX2_sees_25 rfl rfl ?_
    refine g_get (pc := 26) (v := .int (iI (1))) (ref := "HexRoomsModel") (ci := 2) (N := 13) C 0 rfl rfl hinX2 0 (by decide) (by decide +kernel) rfl rfl dX2_sees_26 ?_
    refine g_if_eq (pc := 29) (tgt := 34) C dX2_sees_29 (by decide) (by omega) (fun c2 => ?_) (fun c2 => ?_)
    · exact False.elim (by omega)
    · refine g_iconst (pc := 32) C dX2_sees_32 ?_
      exact g_zreturn (pc := 33) C rfl (by omega) dX2_sees_33 (Or.inr (⟨by omega, rfl, _, rfl, (by first | rfl | exact fU_fU _ _ _ _), rfl, rfl, rfl, rfl, rfl, rfl⟩))
  · refine g_aload_n (pc := 9) C dX2_sees_9 rfl rfl ?_
    refine g_iload_n (pc := 10) C dX2_sees_10 rfl rfl ?_
    refine g_callVI (pc := 11) (As := [.int (iI b)]) (rest := [.ref (q 0)]) C (c_X2_isRoom l K q S (show 7 ≤ S 0 2 ∧ S 0 2 ≤ 91 by omega) b (by omega)) (cwV 1 C.hts gX2_sees_X2_isRoom rfl rfl rfl (by decide +kernel) ⟨by decide, by decide⟩) 0 rfl rfl dX2_sees_11 rfl (Nat.le_of_ble_eq_true rfl) ⟨Nat.zero_le _, Nat.zero_le _⟩ (fun iz11 w hp => ?_)
    obtain ⟨hz11, rfl⟩ := hp
    have hz11 : (iz11 = 1 ∧ (0 ≤ b ∧ b < S 0 2)) ∨ (iz11 = 0 ∧ ¬ (0 ≤ b ∧ b < S 0 2)) := hz11
    refine g_if_eq (pc := 14) (tgt := 21) C dX2_sees_14 (by decide) (by omega) (fun c3 => ?_) (fun c3 => ?_)
    · refine g_iconst (pc := 21) C dX2_sees_21 ?_
      refine g_put (pc := 22) (ref := "HexRoomsModel") (ci := 2) (N := 13) (ws' := (wM K q (sA S 0 (fU (S 0) 0 1)))) C 0 rfl rfl hinX2 tyX2 tyX2_ok nmX2 0 (by decide) (by decide +kernel) rfl rfl rfl (Nat.le_of_ble_eq_true rfl) dX2_sees_22 rfl ?_
      refine g_aload_n (pc := 25) C dX2_sees_25 rfl rfl ?_
      refine g_get (pc := 26) (v := .int (iI (1))) (ref := "HexRoomsModel") (ci := 2) (N := 13) C 0 rfl rfl hinX2 0 (by decide) (by decide +kernel) rfl rfl dX2_sees_26 ?_
      refine g_if_eq (pc := 29) (tgt := 34) C dX2_sees_29 (by decide) (by omega) (fun c4 => ?_) (fun c4 => ?_)
      · exact False.elim (by omega)
      · refine g_iconst (pc := 32) C dX2_sees_32 ?_
        exact g_zreturn (pc := 33) C rfl (by omega) dX2_sees_33 (Or.inr (⟨by omega, rfl, _, rfl, (by first | rfl | exact fU_fU _ _ _ _), rfl, rfl, rfl, rfl, rfl, rfl⟩))
    · refine g_iconst (pc := 17) C dX2_sees_17 ?_
      refine g_goto (pc := 18) (tgt := 22) C dX2_sees_18 (by decide) ?_
      refine g_put (pc := 22) (ref := "HexRoomsModel") (ci := 2) (N := 13) (ws' := (wM K q (sA S 0 (fU (S 0) 0 0)))) C 0 rfl rfl hinX2 tyX2 tyX2_ok nmX2 0 (by decide) (by decide +kernel) rfl rfl rfl (Nat.le_of_ble_eq_true rfl) dX2_sees_22 rfl ?_
      refine g_aload_n (pc := 25) C dX2_sees_25 rfl rfl ?_
      refine g_get (pc := 26) (v := .int (iI (0))) (ref := "HexRoomsModel") (ci := 2) (N := 13) C 0 rfl rfl hinX2 0 (by decide) (by decide +kernel) rfl rfl dX2_sees_26 ?_
      refine g_if_eq (pc := 29) (tgt := 34) C dX2_sees_29 (by decide) (by omega) (fun c5 => ?_) (fun c5 => ?_)
      · refine g_iconst (pc := 34) C dX2_sees_34 ?_
        refine g_istore_n (pc := 35) (lv' := [(3, .int (iI 0)), (0, .ref (q 0)), (1, .int (iI a)), (2, .int (iI b))]) C dX2_sees_35 rfl (by decide) rfl ?_
        have loop36 : ∀ (fu : Nat) (i : Int), (0 ≤ i ∧ i ≤ S 0 2) → S 0 2 - i < (fu : Int) → hG p l e (rmL 8) s m args below meth c 4 K A 0 0 (QI K A below args s (fun z w => (((0 ≤ a ∧ a < S 0 2) ∧ (0 ≤ b ∧ b < S 0 2)) ∧ (z = if 0 < sL (ind b) (beam (S 0 2) (S 4) (S 6) a) then 1 else 0) ∧ ∃ S2, w = wM K q S2 ∧ UM S S2 (S 4) (S 6) 0) ∨ ((¬ ((0 ≤ a ∧ a < S 0 2) ∧ (0 ≤ b ∧ b < S 0 2))) ∧ (z = 0) ∧ ∃ S2, w = wM K q S2 ∧ UM S S2 (S 4) (S 6) 1))) 36 [(3, .int (iI i)), (0, .ref (q 0)), (1, .int (iI a)), (2, .int (iI b))] [] (wM K q (sA (sA S 0 (fU (S 0) 0 0)) 7 (fF (S 7) i 0))) := by
          intro fu
          induction fu with
          | zero =>
            intro i h1 hm
            exact absurd hm (by omega)
          | succ fu ih36 =>
            intro i h1 hm
            refine g_iload_n (pc := 36) C dX2_sees_36 rfl rfl ?_
            refine g_aload_n (pc := 37) C dX2_sees_37 rfl rfl ?_
            refine g_get (pc := 38) (v := .int (iI ((S 0) 2))) (ref := "HexRoomsModel") (ci := 2) (N := 13) C 0 rfl rfl hinX2 2 (by decide) (by decide +kernel) rfl rfl dX2_sees_38 ?_
            refine g_icmp_ge (pc := 41) (tgt := 57) C dX2_sees_41 (by decide) (by omega) (by omega) (fun c6 => ?_) (fun c6 => ?_)
            · refine g_aload_n (pc := 57) C dX2_sees_57 rfl rfl ?_
              refine g_iload_n (pc := 58) C dX2_sees_58 rfl rfl ?_
              refine g_callVV (pc := 59) (As := [.int (iI a)]) (rest := []) C (c_X2_shine l K q (sA (sA S 0 (fU (S 0) 0 0)) 7 (fF (S 7) i 0)) H hf hh a (show 0 ≤ a ∧ a < S 0 2 by omega)) (cwV 1 C.hts gX2_sees_X2_shine rfl rfl rfl (by decide +kernel) ⟨by decide, by decide⟩) 0 rfl rfl dX2_sees_59 rfl (Nat.le_of_ble_eq_true rfl) ⟨Nat.zero_le _, Nat.zero_le _⟩ (fun w hp => ?_)
              obtain ⟨L1, rfl, hL1⟩ := hp
              have hL1 : ∀ j, 0 ≤ j → j < S 0 2 → L1 j = (fF (S 7) i 0) j + sL (ind j) (beam (S 0 2) (S 4) (S 6) a) := hL1
              have hbL : L1 b = sL (ind b) (beam (S 0 2) (S 4) (S 6) a) := by
                rw [hL1 b (by omega) (by omega), show fF (S 7) i 0 b = 0 from if_pos (by omega)]
                omega
              have hsb := sL_b (ind b) (ind_b b) (beam (S 0 2) (S 4) (S 6) a)
              have hbl := beam_len (S 0 2) (S 4) (S 6) a
              refine g_aload_n (pc := 62) C dX2_sees_62 rfl rfl ?_
              refine g_get (pc := 63) (ref := "HexRoomsModel") (ci := 2) (N := 13) C 0 rfl rfl hinX2 9 (by decide) (by decide +kernel) rfl rfl dX2_sees_63 ?_
              refine g_iload_n (pc := 66) C dX2_sees_66 rfl rfl ?_
              refine g_iaload (pc := 67) (f := L1) C 7 rfl (by omega) dX2_sees_67 ?_
              refine g_if_le (pc := 68) (tgt := 75) C dX2_sees_68 (by decide) (by omega) (fun c7 => ?_) (fun c7 => ?_)
              · refine g_iconst (pc := 75) C dX2_sees_75 ?_
                exact g_zreturn (pc := 76) C rfl (by omega) dX2_sees_76 (Or.inl (⟨by omega, (if_neg (by omega)).symm, _, rfl, (by first | rfl | exact fU_fU _ _ _ _), rfl, rfl, rfl, rfl, rfl, rfl⟩))
              · refine g_iconst (pc := 71) C dX2_sees_71 ?_
                refine g_goto (pc := 72) (tgt := 76) C dX2_sees_72 (by decide) ?_
                exact g_zreturn (pc := 76) C rfl (by omega) dX2_sees_76 (Or.inl (⟨by omega, (if_pos (by omega)).symm, _, rfl, (by first | rfl | exact fU_fU _ _ _ _), rfl, rfl, rfl, rfl, rfl, rfl⟩))
            · refine g_aload_n (pc := 44) C dX2_sees_44 rfl rfl ?_
              refine g_get (pc := 45) (ref := "HexRoomsModel") (ci := 2) (N := 13) C 0 rfl rfl hinX2 9 (by decide) (by decide +kernel) rfl rfl dX2_sees_45 ?_
              refine g_iload_n (pc := 48) C dX2_sees_48 rfl rfl ?_
              refine g_iconst (pc := 49) C dX2_sees_49 ?_
              refine g_iastore (pc := 50) (f := (fF (S 7) i 0)) (ws' := (wM K q (sA (sA S 0 (fU (S 0) 0 0)) 7 (fU (fF (S 7) i 0) i 0)))) C 7 rfl (by omega) dX2_sees_50 rfl ?_
              rw [fF_s (S 7) 0 h1.1]
              refine g_iinc (pc := 51) (lv' := [(3, .int (iI (i + 1))), (0, .ref (q 0)), (1, .int (iI a)), (2, .int (iI b))]) C dX2_sees_51 rfl (by decide) rfl ?_
              refine g_goto (pc := 54) (tgt := 36) C dX2_sees_54 (by decide) ?_
              exact ih36 (i + 1) (by omega) (by omega)
        have h0 := loop36 (92) 0 (by omega) (by omega)
        rw [fF_0, show sA (sA S 0 (fU (S 0) 0 0)) 7 (S 7) = sA S 0 (fU (S 0) 0 0) from sA_self (sA S 0 (fU (S 0) 0 0)) 7] at h0
        exact h0
      · exact False.elim (by omega)

set_option maxHeartbeats 400000 in
set_option maxRecDepth 100000 in
theorem c_X2_way (l : Launch) (K : KK) (q : Nat → Nat) (S : Nat → Int → Int) (H : HT S) (hf : ∀ j, 0 ≤ j → j < S 0 2 → 0 ≤ S 4 j ∧ S 4 j ≤ 2) (hh : ∀ j, 0 ≤ j → j < 546 → 0 ≤ S 6 j ∧ S 6 j ≤ 1) (a b : Int) (ga : -2147483648 ≤ a ∧ a < 2147483648) (gb : -2147483648 ≤ b ∧ b < 2147483648) : hMI l yX2_way wsX2_way (rmL 8) K [.ref (q 0), .int (iI a), .int (iI b)] (wM K q S) (fun z w => (((0 ≤ a ∧ a < S 0 2) ∧ (0 ≤ b ∧ b < S 0 2)) ∧ (dR (S 0 2) (S 4) (S 6) a b z) ∧ ∃ S2, w = wM K q S2 ∧ UM S S2 (S 4) (S 6) 0) ∨ ((¬ ((0 ≤ a ∧ a < S 0 2) ∧ (0 ≤ b ∧ b < S 0 2))) ∧ (z = 0) ∧ ∃ S2, w = wM K q S2 ∧ UM S S2 (S 4) (S 6) 1)) := by
  have hn := H.n
  have hk9 := H.1
  refine in_MI (cc := cX2_way) (maxL := 3) (rt := (some .int)) (lv := [(0, .ref (q 0)), (1, .int (iI a)), (2, .int (iI b))]) (by decide) rfl (Nat.le_of_ble_eq_true rfl) rfl ?_
  intro p e s m args below meth c A C
  have hinX2 : ∀ w ∈ wsX20, w ∈ wsX2_way := by decide +kernel
  refine g_aload_n (pc := 0) C dX2_way_0 rfl rfl ?_
  refine g_iconst (pc := 1) C dX2_way_1 ?_
  refine g_put (pc := 2) (ref := "HexRoomsModel") (ci := 2) (N := 13) (ws' := (wM K q (sA S 0 (fU (S 0) 0 0)))) C 0 rfl rfl hinX2 tyX2 tyX2_ok nmX2 0 (by decide) (by decide +kernel) rfl rfl rfl (Nat.le_of_ble_eq_true rfl) dX2_way_2 rfl ?_
  refine g_aload_n (pc := 5) C dX2_way_5 rfl rfl ?_
  refine g_iload_n (pc := 6) C dX2_way_6 rfl rfl ?_
  refine g_callVI (pc := 7) (As := [.int (iI a)]) (rest := []) C (c_X2_isRoom l K q (sA S 0 (fU (S 0) 0 0)) (show 7 ≤ S 0 2 ∧ S 0 2 ≤ 91 by omega) a (by omega)) (cwV 1 C.hts gX2_way_X2_isRoom rfl rfl rfl (by decide +kernel) ⟨by decide, by decide⟩) 0 rfl rfl dX2_way_7 rfl (Nat.le_of_ble_eq_true rfl) ⟨Nat.zero_le _, Nat.zero_le _⟩ (fun iz7 w hp => ?_)
  obtain ⟨hz7, rfl⟩ := hp
  have hz7 : (iz7 = 1 ∧ (0 ≤ a ∧ a < S 0 2)) ∨ (iz7 = 0 ∧ ¬ (0 ≤ a ∧ a < S 0 2)) := hz7
  refine g_if_eq (pc := 10) (tgt := 21) C dX2_way_10 (by decide) (by omega) (fun c1 => ?_) (fun c1 => ?_)
  · refine g_aload_n (pc := 21) C dX2_way_21 rfl rfl ?_
    refine g_iconst (pc := 22) C dX2_way_22 ?_
    refine g_callVI (pc := 23) (As := [.int (iI 1)]) (rest := []) C (c_X2_fail l K q (sA S 0 (fU (S 0) 0 0)) 1) (cwV 1 C.hts gX2_way_X2_fail rfl rfl rfl (by decide +kernel) ⟨by decide, by decide⟩) 0 rfl rfl dX2_way_23 rfl (Nat.le_of_ble_eq_true rfl) ⟨Nat.zero_le _, Nat.zero_le _⟩ (fun z w hp => ?_)
    obtain ⟨rfl, rfl⟩ := hp
    exact g_ireturn (pc := 26) C rfl dX2_way_26 (Or.inr (⟨by omega, rfl, _, rfl, (by first | rfl | exact fU_fU _ _ _ _), rfl, rfl, rfl, rfl, rfl, rfl⟩))
  · refine g_aload_n (pc := 13) C dX2_way_13 rfl rfl ?_
    refine g_iload_n (pc := 14) C dX2_way_14 rfl rfl ?_
    refine g_callVI (pc := 15) (As := [.int (iI b)]) (rest := []) C (c_X2_isRoom l K q (sA S 0 (fU (S 0) 0 0)) (show 7 ≤ S 0 2 ∧ S 0 2 ≤ 91 by omega) b (by omega)) (cwV 1 C.hts gX2_way_X2_isRoom rfl rfl rfl (by decide +kernel) ⟨by decide, by decide⟩) 0 rfl rfl dX2_way_15 rfl (Nat.le_of_ble_eq_true rfl) ⟨Nat.zero_le _, Nat.zero_le _⟩ (fun iz15 w hp => ?_)
    obtain ⟨hz15, rfl⟩ := hp
    have hz15 : (iz15 = 1 ∧ (0 ≤ b ∧ b < S 0 2)) ∨ (iz15 = 0 ∧ ¬ (0 ≤ b ∧ b < S 0 2)) := hz15
    refine g_if_ne (pc := 18) (tgt := 27) C dX2_way_18 (by decide) (by omega) (fun c2 => ?_) (fun c2 => ?_)
    · refine g_aload_n (pc := 27) C dX2_way_27 rfl rfl ?_
      refine g_iload_n (pc := 28) C dX2_way_28 rfl rfl ?_
      refine g_callVI (pc := 29) (As := [.int (iI a)]) (rest := []) C (c_X2_spread l K q (sA S 0 (fU (S 0) 0 0)) H hf hh a (show 0 ≤ a ∧ a < S 0 2 by omega)) (cwV 1 C.hts gX2_way_X2_spread rfl rfl rfl (by decide +kernel) ⟨by decide, by decide⟩) 0 rfl rfl dX2_way_29 rfl (Nat.le_of_ble_eq_true rfl) ⟨Nat.zero_le _, Nat.zero_le _⟩ (fun sz w hp => ?_)
      obtain ⟨D29, u29, rfl, hD29⟩ := hp
      have hD29 : ∀ j, 0 ≤ j → j < S 0 2 → dR (S 0 2) (S 4) (S 6) a j (D29 j) := hD29
      refine g_pop (pc := 32) C dX2_way_32 rfl ?_
      refine g_aload_n (pc := 33) C dX2_way_33 rfl rfl ?_
      refine g_get (pc := 34) (ref := "HexRoomsModel") (ci := 2) (N := 13) C 0 rfl rfl hinX2 10 (by decide) (by decide +kernel) rfl rfl dX2_way_34 ?_
      refine g_iload_n (pc := 37) C dX2_way_37 rfl rfl ?_
      refine g_iaload (pc := 38) (f := D29) C 8 rfl (by omega) dX2_way_38 ?_
      exact g_ireturn (pc := 39) C rfl dX2_way_39 (Or.inl (⟨by omega, hD29 b (by omega) (by omega), _, rfl, (by first | rfl | exact fU_fU _ _ _ _), rfl, rfl, rfl, rfl, rfl, rfl⟩))
    · refine g_aload_n (pc := 21) C dX2_way_21 rfl rfl ?_
      refine g_iconst (pc := 22) C dX2_way_22 ?_
      refine g_callVI (pc := 23) (As := [.int (iI 1)]) (rest := []) C (c_X2_fail l K q (sA S 0 (fU (S 0) 0 0)) 1) (cwV 1 C.hts gX2_way_X2_fail rfl rfl rfl (by decide +kernel) ⟨by decide, by decide⟩) 0 rfl rfl dX2_way_23 rfl (Nat.le_of_ble_eq_true rfl) ⟨Nat.zero_le _, Nat.zero_le _⟩ (fun z w hp => ?_)
      obtain ⟨rfl, rfl⟩ := hp
      exact g_ireturn (pc := 26) C rfl dX2_way_26 (Or.inr (⟨by omega, rfl, _, rfl, (by first | rfl | exact fU_fU _ _ _ _), rfl, rfl, rfl, rfl, rfl, rfl⟩))

set_option maxHeartbeats 400000 in
set_option maxRecDepth 100000 in
theorem c_X2_side (l : Launch) (K : KK) (q : Nat → Nat) (S : Nat → Int → Int) (H : HT S) (hf : ∀ j, 0 ≤ j → j < S 0 2 → 0 ≤ S 4 j ∧ S 4 j ≤ 2) (hh : ∀ j, 0 ≤ j → j < 546 → 0 ≤ S 6 j ∧ S 6 j ≤ 1) (a b : Int) (ga : -2147483648 ≤ a ∧ a < 2147483648) (gb : -2147483648 ≤ b ∧ b < 2147483648) : hMI l yX2_side wsX2_side (rmL 8) K [.ref (q 0), .int (iI a), .int (iI b)] (wM K q S) (fun z w => (((0 ≤ a ∧ a < S 0 2) ∧ (0 ≤ b ∧ b < S 0 2)) ∧ (SDm (S 0 2) (S 4) (S 6) a b z) ∧ ∃ S2, w = wM K q S2 ∧ UM S S2 (S 4) (S 6) 0) ∨ ((¬ ((0 ≤ a ∧ a < S 0 2) ∧ (0 ≤ b ∧ b < S 0 2))) ∧ (z = 0) ∧ ∃ S2, w = wM K q S2 ∧ UM S S2 (S 4) (S 6) 1)) := by
  have hn := H.n
  have hk9 := H.1
  refine in_MI (cc := cX2_side) (maxL := 6) (rt := (some .int)) (lv := [(0, .ref (q 0)), (1, .int (iI a)), (2, .int (iI b))]) (by decide) rfl (Nat.le_of_ble_eq_true rfl) rfl ?_
  intro p e s m args below meth c A C
  have hinX2 : ∀ w ∈ wsX20, w ∈ wsX2_side := by decide +kernel
  refine g_aload_n (pc := 0) C dX2_side_0 rfl rfl ?_
  refine g_iconst (pc := 1) C dX2_side_1 ?_
  refine g_put (pc := 2) (ref := "HexRoomsModel") (ci := 2) (N := 13) (ws' := (wM K q (sA S 0 (fU (S 0) 0 0)))) C 0 rfl rfl hinX2 tyX2 tyX2_ok nmX2 0 (by decide) (by decide +kernel) rfl rfl rfl (Nat.le_of_ble_eq_true rfl) dX2_side_2 rfl ?_
  refine g_aload_n (pc := 5) C dX2_side_5 rfl rfl ?_
  refine g_iload_n (pc := 6) C dX2_side_6 rfl rfl ?_
  refine g_callVI (pc := 7) (As := [.int (iI a)]) (rest := []) C (c_X2_isRoom l K q (sA S 0 (fU (S 0) 0 0)) (show 7 ≤ S 0 2 ∧ S 0 2 ≤ 91 by omega) a (by omega)) (cwV 1 C.hts gX2_side_X2_isRoom rfl rfl rfl (by decide +kernel) ⟨by decide, by decide⟩) 0 rfl rfl dX2_side_7 rfl (Nat.le_of_ble_eq_true rfl) ⟨Nat.zero_le _, Nat.zero_le _⟩ (fun iz7 w hp => ?_)
  obtain ⟨hz7, rfl⟩ := hp
  have hz7 : (iz7 = 1 ∧ (0 ≤ a ∧ a < S 0 2)) ∨ (iz7 = 0 ∧ ¬ (0 ≤ a ∧ a < S 0 2)) := hz7
  refine g_if_eq (pc := 10) (tgt := 21) C dX2_side_10 (by decide) (by omega) (fun c1 => ?_) (fun c1 => ?_)
  · refine g_aload_n (pc := 21) C dX2_side_21 rfl rfl ?_
    refine g_iconst (pc := 22) C dX2_side_22 ?_
    refine g_callVI (pc := 23) (As := [.int (iI 1)]) (rest := []) C (c_X2_fail l K q (sA S 0 (fU (S 0) 0 0)) 1) (cwV 1 C.hts gX2_side_X2_fail rfl rfl rfl (by decide +kernel) ⟨by decide, by decide⟩) 0 rfl rfl dX2_side_23 rfl (Nat.le_of_ble_eq_true rfl) ⟨Nat.zero_le _, Nat.zero_le _⟩ (fun z w hp => ?_)
    obtain ⟨rfl, rfl⟩ := hp
    exact g_ireturn (pc := 26) C rfl dX2_side_26 (Or.inr (⟨by omega, rfl, _, rfl, (by first | rfl | exact fU_fU _ _ _ _), rfl, rfl, rfl, rfl, rfl, rfl⟩))
  · refine g_aload_n (pc := 13) C dX2_side_13 rfl rfl ?_
    refine g_iload_n (pc := 14) C dX2_side_14 rfl rfl ?_
    refine g_callVI (pc := 15) (As := [.int (iI b)]) (rest := []) C (c_X2_isRoom l K q (sA S 0 (fU (S 0) 0 0)) (show 7 ≤ S 0 2 ∧ S 0 2 ≤ 91 by omega) b (by omega)) (cwV 1 C.hts gX2_side_X2_isRoom rfl rfl rfl (by decide +kernel) ⟨by decide, by decide⟩) 0 rfl rfl dX2_side_15 rfl (Nat.le_of_ble_eq_true rfl) ⟨Nat.zero_le _, Nat.zero_le _⟩ (fun iz15 w hp => ?_)
    obtain ⟨hz15, rfl⟩ := hp
    have hz15 : (iz15 = 1 ∧ (0 ≤ b ∧ b < S 0 2)) ∨ (iz15 = 0 ∧ ¬ (0 ≤ b ∧ b < S 0 2)) := hz15
    refine g_if_ne (pc := 18) (tgt := 27) C dX2_side_18 (by decide) (by omega) (fun c2 => ?_) (fun c2 => ?_)
    · refine g_aload_n (pc := 27) C dX2_side_27 rfl rfl ?_
      refine g_iload_n (pc := 28) C dX2_side_28 rfl rfl ?_
      refine g_callVI (pc := 29) (As := [.int (iI a)]) (rest := []) C (c_X2_spread l K q (sA S 0 (fU (S 0) 0 0)) H hf hh a (show 0 ≤ a ∧ a < S 0 2 by omega)) (cwV 1 C.hts gX2_side_X2_spread rfl rfl rfl (by decide +kernel) ⟨by decide, by decide⟩) 0 rfl rfl dX2_side_29 rfl (Nat.le_of_ble_eq_true rfl) ⟨Nat.zero_le _, Nat.zero_le _⟩ (fun sz w hp => ?_)
      obtain ⟨D29, u29, rfl, hD29⟩ := hp
      have hD29 : ∀ j, 0 ≤ j → j < S 0 2 → dR (S 0 2) (S 4) (S 6) a j (D29 j) := hD29
      refine g_pop (pc := 32) C dX2_side_32 rfl ?_
      refine g_aload_n (pc := 33) C dX2_side_33 rfl rfl ?_
      refine g_get (pc := 34) (ref := "HexRoomsModel") (ci := 2) (N := 13) C 0 rfl rfl hinX2 10 (by decide) (by decide +kernel) rfl rfl dX2_side_34 ?_
      refine g_iload_n (pc := 37) C dX2_side_37 rfl rfl ?_
      refine g_iaload (pc := 38) (f := D29) C 8 rfl (by omega) dX2_side_38 ?_
      have bd3 := dR_b (hD29 b (by omega) (by omega))
      refine g_istore_n (pc := 39) (lv' := [(3, .int (iI (D29 b))), (0, .ref (q 0)), (1, .int (iI a)), (2, .int (iI b))]) C dX2_side_39 rfl (by decide) rfl ?_
      refine g_iload_n (pc := 40) C dX2_side_40 rfl rfl ?_
      refine g_iconst (pc := 41) C dX2_side_41 ?_
      refine g_icmp_ge (pc := 42) (tgt := 47) C dX2_side_42 (by decide) (by omega) (by omega) (fun c4 => ?_) (fun c4 => ?_)
      · refine g_iconst (pc := 47) C dX2_side_47 ?_
        refine g_istore (pc := 48) (lv' := [(4, .int (iI 0)), (3, .int (iI (D29 b))), (0, .ref (q 0)), (1, .int (iI a)), (2, .int (iI b))]) C dX2_side_48 (by decide) rfl ?_
        have loop50 : ∀ (fu : Nat) (D : Int → Int) (u : Int → Int) (t : Int), (0 ≤ t ∧ t ≤ 6) → (∀ s, 0 ≤ s → s < t → ON (S 0 2) (S 4) (S 6) a s = -1 ∨ ∃ d2, dR (S 0 2) (S 4) (S 6) (ON (S 0 2) (S 4) (S 6) a s) b d2 ∧ ¬ d2 = D29 b - 1) → 6 - t < (fu : Int) → hG p l e (rmL 8) s m args below meth c 6 K A 0 0 (QI K A below args s (fun z w => (((0 ≤ a ∧ a < S 0 2) ∧ (0 ≤ b ∧ b < S 0 2)) ∧ (SDm (S 0 2) (S 4) (S 6) a b z) ∧ ∃ S2, w = wM K q S2 ∧ UM S S2 (S 4) (S 6) 0) ∨ ((¬ ((0 ≤ a ∧ a < S 0 2) ∧ (0 ≤ b ∧ b < S 0 2))) ∧ (z = 0) ∧ ∃ S2, w = wM K q S2 ∧ UM S S2 (S 4) (S 6) 1))) 50 [(4, .int (iI t)), (3, .int (iI (D29 b))), (0, .ref (q 0)), (1, .int (iI a)), (2, .int (iI b))] [] (wM K q (sA (sA (sA S 0 (fU (S 0) 0 0)) 8 D) 9 u)) := by
          intro fu
          induction fu with
          | zero =>
            intro D u t h1 h2 hm
            exact absurd hm (by omega)
          | succ fu ih50 =>
            intro D u t h1 h2 hm
            refine g_iload (pc := 50) C dX2_side_50 rfl ?_
            refine g_bipush (pc := 52) C dX2_side_52 (by decide +kernel) ?_
            refine g_icmp_ge (pc := 54) (tgt := 103) C dX2_side_54 (by decide) (by omega) (by omega) (fun c5 => ?_) (fun c5 => ?_)
            · refine g_iconst (pc := 103) C dX2_side_103 ?_
              exact g_ireturn (pc := 104) C rfl dX2_side_104 (Or.inl (⟨by omega, ⟨D29 b, hD29 b (by omega) (by omega), Or.inr (Or.inr ⟨by omega, rfl, fun s h3 h4 => h2 s h3 (by omega)⟩)⟩, _, rfl, (by first | rfl | exact fU_fU _ _ _ _), rfl, rfl, rfl, rfl, rfl, rfl⟩))
            · refine g_aload_n (pc := 57) C dX2_side_57 rfl rfl ?_
              refine g_iload_n (pc := 58) C dX2_side_58 rfl rfl ?_
              refine g_iload (pc := 59) C dX2_side_59 rfl ?_
              refine g_callVI (pc := 61) (As := [.int (iI a), .int (iI t)]) (rest := []) C (c_X2_on l K q (sA (sA (sA S 0 (fU (S 0) 0 0)) 8 D) 9 u) H hf hh a t (show 0 ≤ a ∧ a < S 0 2 by omega) (by omega)) (cwV 2 C.hts gX2_side_X2_on rfl rfl rfl (by decide +kernel) ⟨by decide, by decide⟩) 0 rfl rfl dX2_side_61 rfl (Nat.le_of_ble_eq_true rfl) ⟨Nat.zero_le _, Nat.zero_le _⟩ (fun z w hp => ?_)
              obtain ⟨hz, rfl⟩ := hp
              have hz : z = ON (S 0 2) (S 4) (S 6) a t := hz
              subst hz
              have hb := ON_b (S 0 2) (S 4) (S 6) a t
              obtain ⟨y, hy⟩ : ∃ y, y = ON (S 0 2) (S 4) (S 6) a t := ⟨_, rfl⟩
              rw [← hy] at hb ⊢
              refine g_istore (pc := 64) (lv' := [(5, .int (iI y)), (4, .int (iI t)), (3, .int (iI (D29 b))), (0, .ref (q 0)), (1, .int (iI a)), (2, .int (iI b))]) C dX2_side_64 (by decide) rfl ?_
              refine g_iload (pc := 66) C dX2_side_66 rfl ?_
              refine g_iconst (pc := 68) C dX2_side_68 ?_
              refine g_icmp_ne (pc := 69) (tgt := 75) C dX2_side_69 (by decide) (by omega) (by omega) (fun c6 => ?_) (fun c6 => ?_)
              · refine g_aload_n (pc := 75) C dX2_side_75 rfl rfl ?_
                refine g_iload (pc := 76) C dX2_side_76 rfl ?_
                refine g_callVI (pc := 78) (As := [.int (iI y)]) (rest := []) C (c_X2_spread l K q (sA (sA (sA S 0 (fU (S 0) 0 0)) 8 D) 9 u) H hf hh y (show 0 ≤ y ∧ y < S 0 2 by omega)) (cwV 1 C.hts gX2_side_X2_spread rfl rfl rfl (by decide +kernel) ⟨by decide, by decide⟩) 0 rfl rfl dX2_side_78 rfl (Nat.le_of_ble_eq_true rfl) ⟨Nat.zero_le _, Nat.zero_le _⟩ (fun sz w hp => ?_)
                obtain ⟨D78, u78, rfl, hD78⟩ := hp
                have hD78 : ∀ j, 0 ≤ j → j < S 0 2 → dR (S 0 2) (S 4) (S 6) y j (D78 j) := hD78
                refine g_pop (pc := 81) C dX2_side_81 rfl ?_
                refine g_aload_n (pc := 82) C dX2_side_82 rfl rfl ?_
                refine g_get (pc := 83) (ref := "HexRoomsModel") (ci := 2) (N := 13) C 0 rfl rfl hinX2 10 (by decide) (by decide +kernel) rfl rfl dX2_side_83 ?_
                refine g_iload_n (pc := 86) C dX2_side_86 rfl rfl ?_
                refine g_iaload (pc := 87) (f := D78) C 8 rfl (by omega) dX2_side_87 ?_
                have bd7 := dR_b (hD78 b (by omega) (by omega))
                refine g_iload_n (pc := 88) C dX2_side_88 rfl rfl ?_
                refine g_iconst (pc := 89) C dX2_side_89 ?_
                refine g_isub (pc := 90) C dX2_side_90 ?_
                refine g_icmp_ne (pc := 91) (tgt := 97) C dX2_side_91 (by decide) (by omega) (by omega) (fun c8 => ?_) (fun c8 => ?_)
                · refine g_iinc (pc := 97) (lv' := [(4, .int (iI (t + 1))), (5, .int (iI y)), (3, .int (iI (D29 b))), (0, .ref (q 0)), (1, .int (iI a)), (2, .int (iI b))]) C dX2_side_97 rfl (by decide) rfl ?_
                  refine g_goto (pc := 100) (tgt := 50) C dX2_side_100 (by decide) ?_
                  refine g_sub (lv' := [(4, .int (iI (t + 1))), (3, .int (iI (D29 b))), (0, .ref (q 0)), (1, .int (iI a)), (2, .int (iI b))]) [0, 2, 3, 4, 5] rfl ?_
                  exact ih50 D78 u78 (t + 1) (by omega) (fun s h3 h4 => by
                    by_cases g : s = t
                    · rw [g, ← hy]
                      exact Or.inr ⟨D78 b, hD78 b (by omega) (by omega), by omega⟩
                    · exact h2 s h3 (by omega)) (by omega)
                · refine g_iload (pc := 94) C dX2_side_94 rfl ?_
                  exact g_ireturn (pc := 96) C rfl dX2_side_96 (Or.inl (⟨by omega, ⟨D29 b, hD29 b (by omega) (by omega), Or.inr (Or.inl ⟨by omega, by omega, by rw [← hy]; omega, by
                    have hds := hD78 b (by omega) (by omega)
                    rw [← hy, show D29 b - 1 = D78 b by omega]
                    exact hds, h2⟩)⟩, _, rfl, (by first | rfl | exact fU_fU _ _ _ _), rfl, rfl, rfl, rfl, rfl, rfl⟩))
              · refine g_goto (pc := 72) (tgt := 97) C dX2_side_72 (by decide) ?_
                refine g_iinc (pc := 97) (lv' := [(4, .int (iI (t + 1))), (5, .int (iI y)), (3, .int (iI (D29 b))), (0, .ref (q 0)), (1, .int (iI a)), (2, .int (iI b))]) C dX2_side_97 rfl (by decide) rfl ?_
                refine g_goto (pc := 100) (tgt := 50) C dX2_side_100 (by decide) ?_
                refine g_sub (lv' := [(4, .int (iI (t + 1))), (3, .int (iI (D29 b))), (0, .ref (q 0)), (1, .int (iI a)), (2, .int (iI b))]) [0, 2, 3, 4, 5] rfl ?_
                exact ih50 D u (t + 1) (by omega) (fun s h3 h4 => by
                  by_cases g : s = t
                  · rw [g, ← hy]
                    exact Or.inl (by omega)
                  · exact h2 s h3 (by omega)) (by omega)
        exact loop50 (7) D29 u29 0 (by omega) (fun s h3 h4 => by omega) (by omega)
      · refine g_iconst (pc := 45) C dX2_side_45 ?_
        exact g_ireturn (pc := 46) C rfl dX2_side_46 (Or.inl (⟨by omega, ⟨D29 b, hD29 b (by omega) (by omega), Or.inl ⟨by omega, rfl⟩⟩, _, rfl, (by first | rfl | exact fU_fU _ _ _ _), rfl, rfl, rfl, rfl, rfl, rfl⟩))
    · refine g_aload_n (pc := 21) C dX2_side_21 rfl rfl ?_
      refine g_iconst (pc := 22) C dX2_side_22 ?_
      refine g_callVI (pc := 23) (As := [.int (iI 1)]) (rest := []) C (c_X2_fail l K q (sA S 0 (fU (S 0) 0 0)) 1) (cwV 1 C.hts gX2_side_X2_fail rfl rfl rfl (by decide +kernel) ⟨by decide, by decide⟩) 0 rfl rfl dX2_side_23 rfl (Nat.le_of_ble_eq_true rfl) ⟨Nat.zero_le _, Nat.zero_le _⟩ (fun z w hp => ?_)
      obtain ⟨rfl, rfl⟩ := hp
      exact g_ireturn (pc := 26) C rfl dX2_side_26 (Or.inr (⟨by omega, rfl, _, rfl, (by first | rfl | exact fU_fU _ _ _ _), rfl, rfl, rfl, rfl, rfl, rfl⟩))

set_option maxHeartbeats 400000 in
set_option maxRecDepth 100000 in
theorem c_X2_reach (l : Launch) (K : KK) (q : Nat → Nat) (S : Nat → Int → Int) (H : HT S) (hf : ∀ j, 0 ≤ j → j < S 0 2 → 0 ≤ S 4 j ∧ S 4 j ≤ 2) (hh : ∀ j, 0 ≤ j → j < 546 → 0 ≤ S 6 j ∧ S 6 j ≤ 1) (r t : Int) (gr : -2147483648 ≤ r ∧ r < 2147483648) (gt : -2147483648 ≤ t ∧ t < 2147483648) : hMI l yX2_reach wsX2_reach (rmL 8) K [.ref (q 0), .int (iI r), .int (iI t)] (wM K q S) (fun z w => (((0 ≤ r ∧ r < S 0 2) ∧ (0 ≤ t ∧ t ≤ 99)) ∧ (∃ D : Int → Int, (∀ j, 0 ≤ j → j < S 0 2 → dR (S 0 2) (S 4) (S 6) r j (D j)) ∧ z = sm (fun j => if ¬ D j = -1 ∧ D j ≤ t then 1 else 0) 0 (S 0 2)) ∧ ∃ S2, w = wM K q S2 ∧ UM S S2 (S 4) (S 6) 0) ∨ ((¬ (0 ≤ r ∧ r < S 0 2)) ∧ (z = 0) ∧ ∃ S2, w = wM K q S2 ∧ UM S S2 (S 4) (S 6) 1) ∨ (((0 ≤ r ∧ r < S 0 2) ∧ ¬ (0 ≤ t ∧ t ≤ 99)) ∧ (z = 0) ∧ ∃ S2, w = wM K q S2 ∧ UM S S2 (S 4) (S 6) 2)) := by
  have hn := H.n
  have hk9 := H.1
  refine in_MI (cc := cX2_reach) (maxL := 5) (rt := (some .int)) (lv := [(0, .ref (q 0)), (1, .int (iI r)), (2, .int (iI t))]) (by decide) rfl (Nat.le_of_ble_eq_true rfl) rfl ?_
  intro p e s m args below meth c A C
  have hinX2 : ∀ w ∈ wsX20, w ∈ wsX2_reach := by decide +kernel
  refine g_aload_n (pc := 0) C dX2_reach_0 rfl rfl ?_
  refine g_iconst (pc := 1) C dX2_reach_1 ?_
  refine g_put (pc := 2) (ref := "HexRoomsModel") (ci := 2) (N := 13) (ws' := (wM K q (sA S 0 (fU (S 0) 0 0)))) C 0 rfl rfl hinX2 tyX2 tyX2_ok nmX2 0 (by decide) (by decide +kernel) rfl rfl rfl (Nat.le_of_ble_eq_true rfl) dX2_reach_2 rfl ?_
  refine g_aload_n (pc := 5) C dX2_reach_5 rfl rfl ?_
  refine g_iload_n (pc := 6) C dX2_reach_6 rfl rfl ?_
  refine g_callVI (pc := 7) (As := [.int (iI r)]) (rest := []) C (c_X2_isRoom l K q (sA S 0 (fU (S 0) 0 0)) (show 7 ≤ S 0 2 ∧ S 0 2 ≤ 91 by omega) r (by omega)) (cwV 1 C.hts gX2_reach_X2_isRoom rfl rfl rfl (by decide +kernel) ⟨by decide, by decide⟩) 0 rfl rfl dX2_reach_7 rfl (Nat.le_of_ble_eq_true rfl) ⟨Nat.zero_le _, Nat.zero_le _⟩ (fun iz7 w hp => ?_)
  obtain ⟨hz7, rfl⟩ := hp
  have hz7 : (iz7 = 1 ∧ (0 ≤ r ∧ r < S 0 2)) ∨ (iz7 = 0 ∧ ¬ (0 ≤ r ∧ r < S 0 2)) := hz7
  refine g_if_ne (pc := 10) (tgt := 19) C dX2_reach_10 (by decide) (by omega) (fun c1 => ?_) (fun c1 => ?_)
  · refine g_iload_n (pc := 19) C dX2_reach_19 rfl rfl ?_
    refine g_iconst (pc := 20) C dX2_reach_20 ?_
    refine g_bipush (pc := 21) C dX2_reach_21 (by decide +kernel) ?_
    refine g_callSI (pc := 23) (As := [.int (iI t), .int (iI 0), .int (iI 99)]) (rest := []) C (c_X2_isIn l K _ t 0 99 (by omega) (by omega)) (cwS 3 C.hts gX2_reach_X2_isIn rfl rfl rfl (by decide +kernel) ⟨by decide, by decide⟩) dX2_reach_23 rfl (Nat.le_of_ble_eq_true rfl) ⟨Nat.zero_le _, Nat.zero_le _⟩ (fun iz23 w hp => ?_)
    obtain ⟨hz23, rfl⟩ := hp
    have hz23 : (iz23 = 1 ∧ (0 ≤ t ∧ t ≤ 99)) ∨ (iz23 = 0 ∧ ¬ (0 ≤ t ∧ t ≤ 99)) := hz23
    refine g_if_ne (pc := 26) (tgt := 35) C dX2_reach_26 (by decide) (by omega) (fun c2 => ?_) (fun c2 => ?_)
    · refine g_aload_n (pc := 35) C dX2_reach_35 rfl rfl ?_
      refine g_iload_n (pc := 36) C dX2_reach_36 rfl rfl ?_
      refine g_callVI (pc := 37) (As := [.int (iI r)]) (rest := []) C (c_X2_spread l K q (sA S 0 (fU (S 0) 0 0)) H hf hh r (show 0 ≤ r ∧ r < S 0 2 by omega)) (cwV 1 C.hts gX2_reach_X2_spread rfl rfl rfl (by decide +kernel) ⟨by decide, by decide⟩) 0 rfl rfl dX2_reach_37 rfl (Nat.le_of_ble_eq_true rfl) ⟨Nat.zero_le _, Nat.zero_le _⟩ (fun sz w hp => ?_)
      obtain ⟨D37, u37, rfl, hD37⟩ := hp
      have hD37 : ∀ j, 0 ≤ j → j < S 0 2 → dR (S 0 2) (S 4) (S 6) r j (D37 j) := hD37
      refine g_pop (pc := 40) C dX2_reach_40 rfl ?_
      refine g_iconst (pc := 41) C dX2_reach_41 ?_
      refine g_istore_n (pc := 42) (lv' := [(3, .int (iI 0)), (0, .ref (q 0)), (1, .int (iI r)), (2, .int (iI t))]) C dX2_reach_42 rfl (by decide) rfl ?_
      refine g_iconst (pc := 43) C dX2_reach_43 ?_
      refine g_istore (pc := 44) (lv' := [(4, .int (iI 0)), (3, .int (iI 0)), (0, .ref (q 0)), (1, .int (iI r)), (2, .int (iI t))]) C dX2_reach_44 (by decide) rfl ?_
      have loop46 : ∀ (fu : Nat) (acc : Int) (i : Int), (0 ≤ i ∧ i ≤ S 0 2) → (acc = sm (fun j => if ¬ D37 j = -1 ∧ D37 j ≤ t then 1 else 0) 0 i) → S 0 2 - i < (fu : Int) → hG p l e (rmL 8) s m args below meth c 5 K A 0 0 (QI K A below args s (fun z w => (((0 ≤ r ∧ r < S 0 2) ∧ (0 ≤ t ∧ t ≤ 99)) ∧ (∃ D : Int → Int, (∀ j, 0 ≤ j → j < S 0 2 → dR (S 0 2) (S 4) (S 6) r j (D j)) ∧ z = sm (fun j => if ¬ D j = -1 ∧ D j ≤ t then 1 else 0) 0 (S 0 2)) ∧ ∃ S2, w = wM K q S2 ∧ UM S S2 (S 4) (S 6) 0) ∨ ((¬ (0 ≤ r ∧ r < S 0 2)) ∧ (z = 0) ∧ ∃ S2, w = wM K q S2 ∧ UM S S2 (S 4) (S 6) 1) ∨ (((0 ≤ r ∧ r < S 0 2) ∧ ¬ (0 ≤ t ∧ t ≤ 99)) ∧ (z = 0) ∧ ∃ S2, w = wM K q S2 ∧ UM S S2 (S 4) (S 6) 2))) 46 [(4, .int (iI i)), (3, .int (iI acc)), (0, .ref (q 0)), (1, .int (iI r)), (2, .int (iI t))] [] (wM K q (sA (sA (sA S 0 (fU (S 0) 0 0)) 8 D37) 9 u37)) := by
        intro fu
        induction fu with
        | zero =>
          intro acc i h1 h2 hm
          exact absurd hm (by omega)
        | succ fu ih46 =>
          intro acc i h1 h2 hm
          refine g_iload (pc := 46) C dX2_reach_46 rfl ?_
          refine g_aload_n (pc := 48) C dX2_reach_48 rfl rfl ?_
          refine g_get (pc := 49) (v := .int (iI ((S 0) 2))) (ref := "HexRoomsModel") (ci := 2) (N := 13) C 0 rfl rfl hinX2 2 (by decide) (by decide +kernel) rfl rfl dX2_reach_49 ?_
          refine g_icmp_ge (pc := 52) (tgt := 91) C dX2_reach_52 (by decide) (by omega) (by omega) (fun c3 => ?_) (fun c3 => ?_)
          · refine g_iload_n (pc := 91) C dX2_reach_91 rfl rfl ?_
            exact g_ireturn (pc := 92) C rfl dX2_reach_92 (Or.inl (⟨by omega, ⟨D37, hD37, by rw [h2, show i = S 0 2 by omega]⟩, _, rfl, (by first | rfl | exact fU_fU _ _ _ _), rfl, rfl, rfl, rfl, rfl, rfl⟩))
          · refine g_iload_n (pc := 55) C dX2_reach_55 rfl rfl ?_
            refine g_aload_n (pc := 56) C dX2_reach_56 rfl rfl ?_
            refine g_get (pc := 57) (ref := "HexRoomsModel") (ci := 2) (N := 13) C 0 rfl rfl hinX2 10 (by decide) (by decide +kernel) rfl rfl dX2_reach_57 ?_
            refine g_iload (pc := 60) C dX2_reach_60 rfl ?_
            refine g_iaload (pc := 62) (f := D37) C 8 rfl (by omega) dX2_reach_62 ?_
            have bd4 := dR_b (hD37 i (by omega) (by omega))
            refine g_iconst (pc := 63) C dX2_reach_63 ?_
            refine g_icmp_eq (pc := 64) (tgt := 82) C dX2_reach_64 (by decide) (by omega) (by omega) (fun c5 => ?_) (fun c5 => ?_)
            · refine g_iconst (pc := 82) C dX2_reach_82 ?_
              refine g_iadd (pc := 83) C dX2_reach_83 ?_
              refine g_istore_n (pc := 84) (lv' := [(3, .int (iI (acc + 0))), (4, .int (iI i)), (0, .ref (q 0)), (1, .int (iI r)), (2, .int (iI t))]) C dX2_reach_84 rfl (by decide) rfl ?_
              refine g_iinc (pc := 85) (lv' := [(4, .int (iI (i + 1))), (3, .int (iI (acc + 0))), (0, .ref (q 0)), (1, .int (iI r)), (2, .int (iI t))]) C dX2_reach_85 rfl (by decide) rfl ?_
              refine g_goto (pc := 88) (tgt := 46) C dX2_reach_88 (by decide) ?_
              exact ih46 (acc + 0) (i + 1) (by omega) (by rw [sm_s _ h1.1, ← h2]; split <;> omega) (by omega)
            · refine g_aload_n (pc := 67) C dX2_reach_67 rfl rfl ?_
              refine g_get (pc := 68) (ref := "HexRoomsModel") (ci := 2) (N := 13) C 0 rfl rfl hinX2 10 (by decide) (by decide +kernel) rfl rfl dX2_reach_68 ?_
              refine g_iload (pc := 71) C dX2_reach_71 rfl ?_
              refine g_iaload (pc := 73) (f := D37) C 8 rfl (by omega) dX2_reach_73 ?_
              have bd6 := dR_b (hD37 i (by omega) (by omega))
              refine g_iload_n (pc := 74) C dX2_reach_74 rfl rfl ?_
              refine g_icmp_gt (pc := 75) (tgt := 82) C dX2_reach_75 (by decide) (by omega) (by omega) (fun c7 => ?_) (fun c7 => ?_)
              · refine g_iconst (pc := 82) C dX2_reach_82 ?_
                refine g_iadd (pc := 83) C dX2_reach_83 ?_
                refine g_istore_n (pc := 84) (lv' := [(3, .int (iI (acc + 0))), (4, .int (iI i)), (0, .ref (q 0)), (1, .int (iI r)), (2, .int (iI t))]) C dX2_reach_84 rfl (by decide) rfl ?_
                refine g_iinc (pc := 85) (lv' := [(4, .int (iI (i + 1))), (3, .int (iI (acc + 0))), (0, .ref (q 0)), (1, .int (iI r)), (2, .int (iI t))]) C dX2_reach_85 rfl (by decide) rfl ?_
                refine g_goto (pc := 88) (tgt := 46) C dX2_reach_88 (by decide) ?_
                exact ih46 (acc + 0) (i + 1) (by omega) (by rw [sm_s _ h1.1, ← h2]; split <;> omega) (by omega)
              · refine g_iconst (pc := 78) C dX2_reach_78 ?_
                refine g_goto (pc := 79) (tgt := 83) C dX2_reach_79 (by decide) ?_
                refine g_iadd (pc := 83) C dX2_reach_83 ?_
                refine g_istore_n (pc := 84) (lv' := [(3, .int (iI (acc + 1))), (4, .int (iI i)), (0, .ref (q 0)), (1, .int (iI r)), (2, .int (iI t))]) C dX2_reach_84 rfl (by decide) rfl ?_
                refine g_iinc (pc := 85) (lv' := [(4, .int (iI (i + 1))), (3, .int (iI (acc + 1))), (0, .ref (q 0)), (1, .int (iI r)), (2, .int (iI t))]) C dX2_reach_85 rfl (by decide) rfl ?_
                refine g_goto (pc := 88) (tgt := 46) C dX2_reach_88 (by decide) ?_
                exact ih46 (acc + 1) (i + 1) (by omega) (by rw [sm_s _ h1.1, ← h2]; split <;> omega) (by omega)
      exact loop46 (92) 0 0 (by omega) (by rw [sm_0]) (by omega)
    · refine g_aload_n (pc := 29) C dX2_reach_29 rfl rfl ?_
      refine g_iconst (pc := 30) C dX2_reach_30 ?_
      refine g_callVI (pc := 31) (As := [.int (iI 2)]) (rest := []) C (c_X2_fail l K q (sA S 0 (fU (S 0) 0 0)) 2) (cwV 1 C.hts gX2_reach_X2_fail rfl rfl rfl (by decide +kernel) ⟨by decide, by decide⟩) 0 rfl rfl dX2_reach_31 rfl (Nat.le_of_ble_eq_true rfl) ⟨Nat.zero_le _, Nat.zero_le _⟩ (fun z w hp => ?_)
      obtain ⟨rfl, rfl⟩ := hp
      exact g_ireturn (pc := 34) C rfl dX2_reach_34 (Or.inr (Or.inr (⟨by omega, rfl, _, rfl, (by first | rfl | exact fU_fU _ _ _ _), rfl, rfl, rfl, rfl, rfl, rfl⟩)))
  · refine g_aload_n (pc := 13) C dX2_reach_13 rfl rfl ?_
    refine g_iconst (pc := 14) C dX2_reach_14 ?_
    refine g_callVI (pc := 15) (As := [.int (iI 1)]) (rest := []) C (c_X2_fail l K q (sA S 0 (fU (S 0) 0 0)) 1) (cwV 1 C.hts gX2_reach_X2_fail rfl rfl rfl (by decide +kernel) ⟨by decide, by decide⟩) 0 rfl rfl dX2_reach_15 rfl (Nat.le_of_ble_eq_true rfl) ⟨Nat.zero_le _, Nat.zero_le _⟩ (fun z w hp => ?_)
    obtain ⟨rfl, rfl⟩ := hp
    exact g_ireturn (pc := 18) C rfl dX2_reach_18 (Or.inr (Or.inl (⟨by omega, rfl, _, rfl, (by first | rfl | exact fU_fU _ _ _ _), rfl, rfl, rfl, rfl, rfl, rfl⟩)))

set_option maxHeartbeats 400000 in
set_option maxRecDepth 100000 in
theorem c_X2_ring (l : Launch) (K : KK) (q : Nat → Nat) (S : Nat → Int → Int) (H : HT S) (hf : ∀ j, 0 ≤ j → j < S 0 2 → 0 ≤ S 4 j ∧ S 4 j ≤ 2) (hh : ∀ j, 0 ≤ j → j < 546 → 0 ≤ S 6 j ∧ S 6 j ≤ 1) (k v : Int) (gk : -2147483648 ≤ k ∧ k < 2147483648) (gv : -2147483648 ≤ v ∧ v < 2147483648) : hMI l yX2_ring wsX2_ring (rmL 8) K [.ref (q 0), .int (iI k), .int (iI v)] (wM K q S) (fun z w => (((0 ≤ k ∧ k ≤ S 0 1) ∧ (0 ≤ v ∧ v ≤ 3)) ∧ (z = RNG (S 0 2) (S 4) (S 6) k v) ∧ ∃ S2, w = wM K q S2 ∧ UM S S2 (S 4) (S 6) 0) ∨ ((¬ ((0 ≤ k ∧ k ≤ S 0 1) ∧ (0 ≤ v ∧ v ≤ 3))) ∧ (z = 0) ∧ ∃ S2, w = wM K q S2 ∧ UM S S2 (S 4) (S 6) 1)) := by
  have hn := H.n
  have hk9 := H.1
  refine in_MI (cc := cX2_ring) (maxL := 3) (rt := (some .int)) (lv := [(0, .ref (q 0)), (1, .int (iI k)), (2, .int (iI v))]) (by decide) rfl (Nat.le_of_ble_eq_true rfl) rfl ?_
  intro p e s m args below meth c A C
  have hinX2 : ∀ w ∈ wsX20, w ∈ wsX2_ring := by decide +kernel
  refine g_aload_n (pc := 0) C dX2_ring_0 rfl rfl ?_
  refine g_iconst (pc := 1) C dX2_ring_1 ?_
  refine g_put (pc := 2) (ref := "HexRoomsModel") (ci := 2) (N := 13) (ws' := (wM K q (sA S 0 (fU (S 0) 0 0)))) C 0 rfl rfl hinX2 tyX2 tyX2_ok nmX2 0 (by decide) (by decide +kernel) rfl rfl rfl (Nat.le_of_ble_eq_true rfl) dX2_ring_2 rfl ?_
  refine g_aload_n (pc := 5) C dX2_ring_5 rfl rfl ?_
  refine g_iload_n (pc := 6) C dX2_ring_6 rfl rfl ?_
  refine g_callVI (pc := 7) (As := [.int (iI k)]) (rest := []) C (c_X2_isRing l K q (sA S 0 (fU (S 0) 0 0)) (show 1 ≤ S 0 1 ∧ S 0 1 ≤ 5 by omega) k (by omega)) (cwV 1 C.hts gX2_ring_X2_isRing rfl rfl rfl (by decide +kernel) ⟨by decide, by decide⟩) 0 rfl rfl dX2_ring_7 rfl (Nat.le_of_ble_eq_true rfl) ⟨Nat.zero_le _, Nat.zero_le _⟩ (fun iz7 w hp => ?_)
  obtain ⟨hz7, rfl⟩ := hp
  have hz7 : (iz7 = 1 ∧ (0 ≤ k ∧ k ≤ S 0 1)) ∨ (iz7 = 0 ∧ ¬ (0 ≤ k ∧ k ≤ S 0 1)) := hz7
  refine g_if_eq (pc := 10) (tgt := 31) C dX2_ring_10 (by decide) (by omega) (fun c1 => ?_) (fun c1 => ?_)
  · refine g_aload_n (pc := 31) C dX2_ring_31 rfl rfl ?_
    refine g_iconst (pc := 32) C dX2_ring_32 ?_
    refine g_callVI (pc := 33) (As := [.int (iI 1)]) (rest := []) C (c_X2_fail l K q (sA S 0 (fU (S 0) 0 0)) 1) (cwV 1 C.hts gX2_ring_X2_fail rfl rfl rfl (by decide +kernel) ⟨by decide, by decide⟩) 0 rfl rfl dX2_ring_33 rfl (Nat.le_of_ble_eq_true rfl) ⟨Nat.zero_le _, Nat.zero_le _⟩ (fun z w hp => ?_)
    obtain ⟨rfl, rfl⟩ := hp
    exact g_ireturn (pc := 36) C rfl dX2_ring_36 (Or.inr (⟨by omega, rfl, _, rfl, (by first | rfl | exact fU_fU _ _ _ _), rfl, rfl, rfl, rfl, rfl, rfl⟩))
  · refine g_iload_n (pc := 13) C dX2_ring_13 rfl rfl ?_
    refine g_iconst (pc := 14) C dX2_ring_14 ?_
    refine g_iconst (pc := 15) C dX2_ring_15 ?_
    refine g_callSI (pc := 16) (As := [.int (iI v), .int (iI 0), .int (iI 3)]) (rest := []) C (c_X2_isIn l K _ v 0 3 (by omega) (by omega)) (cwS 3 C.hts gX2_ring_X2_isIn rfl rfl rfl (by decide +kernel) ⟨by decide, by decide⟩) dX2_ring_16 rfl (Nat.le_of_ble_eq_true rfl) ⟨Nat.zero_le _, Nat.zero_le _⟩ (fun iz16 w hp => ?_)
    obtain ⟨hz16, rfl⟩ := hp
    have hz16 : (iz16 = 1 ∧ (0 ≤ v ∧ v ≤ 3)) ∨ (iz16 = 0 ∧ ¬ (0 ≤ v ∧ v ≤ 3)) := hz16
    refine g_if_eq (pc := 19) (tgt := 31) C dX2_ring_19 (by decide) (by omega) (fun c2 => ?_) (fun c2 => ?_)
    · refine g_aload_n (pc := 31) C dX2_ring_31 rfl rfl ?_
      refine g_iconst (pc := 32) C dX2_ring_32 ?_
      refine g_callVI (pc := 33) (As := [.int (iI 1)]) (rest := []) C (c_X2_fail l K q (sA S 0 (fU (S 0) 0 0)) 1) (cwV 1 C.hts gX2_ring_X2_fail rfl rfl rfl (by decide +kernel) ⟨by decide, by decide⟩) 0 rfl rfl dX2_ring_33 rfl (Nat.le_of_ble_eq_true rfl) ⟨Nat.zero_le _, Nat.zero_le _⟩ (fun z w hp => ?_)
      obtain ⟨rfl, rfl⟩ := hp
      exact g_ireturn (pc := 36) C rfl dX2_ring_36 (Or.inr (⟨by omega, rfl, _, rfl, (by first | rfl | exact fU_fU _ _ _ _), rfl, rfl, rfl, rfl, rfl, rfl⟩))
    · refine g_aload_n (pc := 22) C dX2_ring_22 rfl rfl ?_
      refine g_iload_n (pc := 23) C dX2_ring_23 rfl rfl ?_
      refine g_iload_n (pc := 24) C dX2_ring_24 rfl rfl ?_
      refine g_callVI (pc := 25) (As := [.int (iI k), .int (iI v)]) (rest := []) C (c_X2_ringTold l K q (sA S 0 (fU (S 0) 0 0)) H hf hh k v (show 0 ≤ k ∧ k ≤ S 0 1 by omega) (by omega)) (cwV 2 C.hts gX2_ring_X2_ringTold rfl rfl rfl (by decide +kernel) ⟨by decide, by decide⟩) 0 rfl rfl dX2_ring_25 rfl (Nat.le_of_ble_eq_true rfl) ⟨Nat.zero_le _, Nat.zero_le _⟩ (fun vz w hp => ?_)
      obtain ⟨hvz, L25, rfl⟩ := hp
      have hvz : vz = RNG (S 0 2) (S 4) (S 6) k v := hvz
      refine g_goto (pc := 28) (tgt := 36) C dX2_ring_28 (by decide) ?_
      exact g_ireturn (pc := 36) C rfl dX2_ring_36 (Or.inl (⟨by omega, hvz, _, rfl, (by first | rfl | exact fU_fU _ _ _ _), rfl, rfl, rfl, rfl, rfl, rfl⟩))

set_option maxHeartbeats 400000 in
set_option maxRecDepth 100000 in
theorem c_X2_count (l : Launch) (K : KK) (q : Nat → Nat) (S : Nat → Int → Int) (H : HT S) (hf : ∀ j, 0 ≤ j → j < S 0 2 → 0 ≤ S 4 j ∧ S 4 j ≤ 2) (hh : ∀ j, 0 ≤ j → j < 546 → 0 ≤ S 6 j ∧ S 6 j ≤ 1) (Y : SYM (S 0 2) (S 6)) (v : Int) (gv : -2147483648 ≤ v ∧ v < 2147483648) : hMI l yX2_count wsX2_count (rmL 8) K [.ref (q 0), .int (iI v)] (wM K q S) (fun z w => ((0 ≤ v ∧ v ≤ 6) ∧ (z = CNT (S 0 1) (S 0 2) (S 4) (S 6) v) ∧ ∃ S2, w = wM K q S2 ∧ UM S S2 (S 4) (S 6) 0) ∨ ((¬ (0 ≤ v ∧ v ≤ 6)) ∧ (z = 0) ∧ ∃ S2, w = wM K q S2 ∧ UM S S2 (S 4) (S 6) 1)) := by
  have hn := H.n
  have hk9 := H.1
  refine in_MI (cc := cX2_count) (maxL := 2) (rt := (some .int)) (lv := [(0, .ref (q 0)), (1, .int (iI v))]) (by decide) rfl (Nat.le_of_ble_eq_true rfl) rfl ?_
  intro p e s m args below meth c A C
  have hinX2 : ∀ w ∈ wsX20, w ∈ wsX2_count := by decide +kernel
  refine g_aload_n (pc := 0) C dX2_count_0 rfl rfl ?_
  refine g_iconst (pc := 1) C dX2_count_1 ?_
  refine g_put (pc := 2) (ref := "HexRoomsModel") (ci := 2) (N := 13) (ws' := (wM K q (sA S 0 (fU (S 0) 0 0)))) C 0 rfl rfl hinX2 tyX2 tyX2_ok nmX2 0 (by decide) (by decide +kernel) rfl rfl rfl (Nat.le_of_ble_eq_true rfl) dX2_count_2 rfl ?_
  refine g_iload_n (pc := 5) C dX2_count_5 rfl rfl ?_
  refine g_iconst (pc := 6) C dX2_count_6 ?_
  refine g_bipush (pc := 7) C dX2_count_7 (by decide +kernel) ?_
  refine g_callSI (pc := 9) (As := [.int (iI v), .int (iI 0), .int (iI 6)]) (rest := []) C (c_X2_isIn l K _ v 0 6 (by omega) (by omega)) (cwS 3 C.hts gX2_count_X2_isIn rfl rfl rfl (by decide +kernel) ⟨by decide, by decide⟩) dX2_count_9 rfl (Nat.le_of_ble_eq_true rfl) ⟨Nat.zero_le _, Nat.zero_le _⟩ (fun iz9 w hp => ?_)
  obtain ⟨hz9, rfl⟩ := hp
  have hz9 : (iz9 = 1 ∧ (0 ≤ v ∧ v ≤ 6)) ∨ (iz9 = 0 ∧ ¬ (0 ≤ v ∧ v ≤ 6)) := hz9
  refine g_if_eq (pc := 12) (tgt := 23) C dX2_count_12 (by decide) (by omega) (fun c1 => ?_) (fun c1 => ?_)
  · refine g_aload_n (pc := 23) C dX2_count_23 rfl rfl ?_
    refine g_iconst (pc := 24) C dX2_count_24 ?_
    refine g_callVI (pc := 25) (As := [.int (iI 1)]) (rest := []) C (c_X2_fail l K q (sA S 0 (fU (S 0) 0 0)) 1) (cwV 1 C.hts gX2_count_X2_fail rfl rfl rfl (by decide +kernel) ⟨by decide, by decide⟩) 0 rfl rfl dX2_count_25 rfl (Nat.le_of_ble_eq_true rfl) ⟨Nat.zero_le _, Nat.zero_le _⟩ (fun z w hp => ?_)
    obtain ⟨rfl, rfl⟩ := hp
    exact g_ireturn (pc := 28) C rfl dX2_count_28 (Or.inr (⟨by omega, rfl, _, rfl, (by first | rfl | exact fU_fU _ _ _ _), rfl, rfl, rfl, rfl, rfl, rfl⟩))
  · refine g_aload_n (pc := 15) C dX2_count_15 rfl rfl ?_
    refine g_iload_n (pc := 16) C dX2_count_16 rfl rfl ?_
    refine g_callVI (pc := 17) (As := [.int (iI v)]) (rest := []) C (c_X2_counted l K q (sA S 0 (fU (S 0) 0 0)) H hf hh Y v (by omega)) (cwV 1 C.hts gX2_count_X2_counted rfl rfl rfl (by decide +kernel) ⟨by decide, by decide⟩) 0 rfl rfl dX2_count_17 rfl (Nat.le_of_ble_eq_true rfl) ⟨Nat.zero_le _, Nat.zero_le _⟩ (fun vz w hp => ?_)
    obtain ⟨hvz, L17, D17, u17, rfl⟩ := hp
    have hvz : vz = CNT (S 0 1) (S 0 2) (S 4) (S 6) v := hvz
    refine g_goto (pc := 20) (tgt := 28) C dX2_count_20 (by decide) ?_
    exact g_ireturn (pc := 28) C rfl dX2_count_28 (Or.inl (⟨by omega, hvz, _, rfl, (by first | rfl | exact fU_fU _ _ _ _), rfl, rfl, rfl, rfl, rfl, rfl⟩))

set_option maxHeartbeats 400000 in
set_option maxRecDepth 100000 in
theorem c_X2_sixthsToSame (l : Launch) (K : KK) (q : Nat → Nat) (S : Nat → Int → Int) (H : HT S) (hf : ∀ j, 0 ≤ j → j < S 0 2 → 0 ≤ S 4 j ∧ S 4 j ≤ 2) (hh : ∀ j, 0 ≤ j → j < 546 → 0 ≤ S 6 j ∧ S 6 j ≤ 1) : hMI l yX2_sixthsToSame wsX2_sixthsToSame (rmL 8) K [.ref (q 0)] (wM K q S) (fun z w => ((0 = 0) ∧ (SX (S 0 2) (S 4) z) ∧ ∃ S2, w = wM K q S2 ∧ UM S S2 (S 4) (S 6) 0)) := by
  have hn := H.n
  have hk9 := H.1
  refine in_MI (cc := cX2_sixthsToSame) (maxL := 2) (rt := (some .int)) (lv := [(0, .ref (q 0))]) (by decide) rfl (Nat.le_of_ble_eq_true rfl) rfl ?_
  intro p e s m args below meth c A C
  have hinX2 : ∀ w ∈ wsX20, w ∈ wsX2_sixthsToSame := by decide +kernel
  refine g_aload_n (pc := 0) C dX2_sixthsToSame_0 rfl rfl ?_
  refine g_iconst (pc := 1) C dX2_sixthsToSame_1 ?_
  refine g_put (pc := 2) (ref := "HexRoomsModel") (ci := 2) (N := 13) (ws' := (wM K q (sA S 0 (fU (S 0) 0 0)))) C 0 rfl rfl hinX2 tyX2 tyX2_ok nmX2 0 (by decide) (by decide +kernel) rfl rfl rfl (Nat.le_of_ble_eq_true rfl) dX2_sixthsToSame_2 rfl ?_
  refine g_iconst (pc := 5) C dX2_sixthsToSame_5 ?_
  refine g_istore_n (pc := 6) (lv' := [(1, .int (iI 1)), (0, .ref (q 0))]) C dX2_sixthsToSame_6 rfl (by decide) rfl ?_
  have loop7 : ∀ (fu : Nat) (b : Int), (1 ≤ b ∧ b ≤ 6) → (∀ c, 1 ≤ c → c < b → ¬ SM6 (S 0 2) (S 4) c) → 6 - b < (fu : Int) → hG p l e (rmL 8) s m args below meth c 2 K A 0 0 (QI K A below args s (fun z w => ((0 = 0) ∧ (SX (S 0 2) (S 4) z) ∧ ∃ S2, w = wM K q S2 ∧ UM S S2 (S 4) (S 6) 0))) 7 [(1, .int (iI b)), (0, .ref (q 0))] [] (wM K q (sA S 0 (fU (S 0) 0 0))) := by
    intro fu
    induction fu with
    | zero =>
      intro b h1 h2 hm
      exact absurd hm (by omega)
    | succ fu ih7 =>
      intro b h1 h2 hm
      refine g_aload_n (pc := 7) C dX2_sixthsToSame_7 rfl rfl ?_
      refine g_iload_n (pc := 8) C dX2_sixthsToSame_8 rfl rfl ?_
      refine g_callVI (pc := 9) (As := [.int (iI b)]) (rest := []) C (c_X2_isAlike l K q (sA S 0 (fU (S 0) 0 0)) H hf hh b (by omega)) (cwV 1 C.hts gX2_sixthsToSame_X2_isAlike rfl rfl rfl (by decide +kernel) ⟨by decide, by decide⟩) 0 rfl rfl dX2_sixthsToSame_9 rfl (Nat.le_of_ble_eq_true rfl) ⟨Nat.zero_le _, Nat.zero_le _⟩ (fun iz w hp => ?_)
      obtain ⟨hiz, rfl⟩ := hp
      have hiz : (iz = 1 ∧ SM6 (S 0 2) (S 4) b) ∨ (iz = 0 ∧ ¬ SM6 (S 0 2) (S 4) b) := hiz
      refine g_if_ne (pc := 12) (tgt := 21) C dX2_sixthsToSame_12 (by decide) (by omega) (fun c1 => ?_) (fun c1 => ?_)
      · refine g_iload_n (pc := 21) C dX2_sixthsToSame_21 rfl rfl ?_
        exact g_ireturn (pc := 22) C rfl dX2_sixthsToSame_22 (⟨by omega, ⟨by omega, h2, Or.inr (by
          rcases hiz with ⟨_, e⟩ | ⟨e, _⟩
          · exact e
          · exact absurd e (by omega))⟩, _, rfl, (by first | rfl | exact fU_fU _ _ _ _), rfl, rfl, rfl, rfl, rfl, rfl⟩)
      · have hno : ¬ SM6 (S 0 2) (S 4) b := by
          rcases hiz with ⟨e, _⟩ | ⟨_, e⟩
          · exact absurd e (by omega)
          · exact e
        have hb5 : b ≤ 5 := by
          refine Classical.byContradiction fun g => hno ?_
          rw [show b = 6 by omega]
          exact SM6_6 (by omega) _
        refine g_iinc (pc := 15) (lv' := [(1, .int (iI (b + 1))), (0, .ref (q 0))]) C dX2_sixthsToSame_15 rfl (by decide) rfl ?_
        refine g_goto (pc := 18) (tgt := 7) C dX2_sixthsToSame_18 (by decide) ?_
        exact ih7 (b + 1) (by omega) (fun c h3 h4 => by
          by_cases g : c = b
          · rw [g]; exact hno
          · exact h2 c h3 (by omega)) (by omega)
  exact loop7 (7) 1 (by omega) (fun c h3 h4 => by omega) (by omega)

set_option maxHeartbeats 400000 in
set_option maxRecDepth 100000 in
theorem c_X2_would (l : Launch) (K : KK) (q : Nat → Nat) (S : Nat → Int → Int) (H : HT S) (hf : ∀ j, 0 ≤ j → j < S 0 2 → 0 ≤ S 4 j ∧ S 4 j ≤ 2) (hh : ∀ j, 0 ≤ j → j < 546 → 0 ≤ S 6 j ∧ S 6 j ≤ 1) (k b : Int) (gk : -2147483648 ≤ k ∧ k < 2147483648) (gb : -2147483648 ≤ b ∧ b < 2147483648) : hMI l yX2_would wsX2_would (rmL 8) K [.ref (q 0), .int (iI k), .int (iI b)] (wM K q S) (fun z w => (((0 ≤ k ∧ k ≤ S 0 1) ∧ (0 ≤ b ∧ b < SZ k)) ∧ (z = LIT (S 0 2) (rot k b (S 4) (S 4)) (S 6)) ∧ ∃ S2, w = wM K q S2 ∧ UM S S2 (S 4) (S 6) 0) ∨ ((¬ (0 ≤ k ∧ k ≤ S 0 1)) ∧ (z = 0) ∧ ∃ S2, w = wM K q S2 ∧ UM S S2 (S 4) (S 6) 1) ∨ (((0 ≤ k ∧ k ≤ S 0 1) ∧ ¬ (0 ≤ b ∧ b < SZ k)) ∧ (z = 0) ∧ ∃ S2, w = wM K q S2 ∧ UM S S2 (S 4) (S 6) 2)) := by
  have hn := H.n
  have hk9 := H.1
  refine in_MI (cc := cX2_would) (maxL := 3) (rt := (some .int)) (lv := [(0, .ref (q 0)), (1, .int (iI k)), (2, .int (iI b))]) (by decide) rfl (Nat.le_of_ble_eq_true rfl) rfl ?_
  intro p e s m args below meth c A C
  have hinX2 : ∀ w ∈ wsX20, w ∈ wsX2_would := by decide +kernel
  refine g_aload_n (pc := 0) C dX2_would_0 rfl rfl ?_
  refine g_iconst (pc := 1) C dX2_would_1 ?_
  refine g_put (pc := 2) (ref := "HexRoomsModel") (ci := 2) (N := 13) (ws' := (wM K q (sA S 0 (fU (S 0) 0 0)))) C 0 rfl rfl hinX2 tyX2 tyX2_ok nmX2 0 (by decide) (by decide +kernel) rfl rfl rfl (Nat.le_of_ble_eq_true rfl) dX2_would_2 rfl ?_
  refine g_aload_n (pc := 5) C dX2_would_5 rfl rfl ?_
  refine g_iload_n (pc := 6) C dX2_would_6 rfl rfl ?_
  refine g_callVI (pc := 7) (As := [.int (iI k)]) (rest := []) C (c_X2_isRing l K q (sA S 0 (fU (S 0) 0 0)) (show 1 ≤ S 0 1 ∧ S 0 1 ≤ 5 by omega) k (by omega)) (cwV 1 C.hts gX2_would_X2_isRing rfl rfl rfl (by decide +kernel) ⟨by decide, by decide⟩) 0 rfl rfl dX2_would_7 rfl (Nat.le_of_ble_eq_true rfl) ⟨Nat.zero_le _, Nat.zero_le _⟩ (fun iz7 w hp => ?_)
  obtain ⟨hz7, rfl⟩ := hp
  have hz7 : (iz7 = 1 ∧ (0 ≤ k ∧ k ≤ S 0 1)) ∨ (iz7 = 0 ∧ ¬ (0 ≤ k ∧ k ≤ S 0 1)) := hz7
  refine g_if_ne (pc := 10) (tgt := 19) C dX2_would_10 (by decide) (by omega) (fun c1 => ?_) (fun c1 => ?_)
  · have hfz := FR_SZ (k := k) (by omega)
    refine g_iload_n (pc := 19) C dX2_would_19 rfl rfl ?_
    refine g_iconst (pc := 20) C dX2_would_20 ?_
    refine g_iload_n (pc := 21) C dX2_would_21 rfl rfl ?_
    refine g_callSI (pc := 22) (As := [.int (iI k)]) (rest := [.int (iI 0), .int (iI b)]) C (c_X2_size l K _ k (by omega)) (cwS 1 C.hts gX2_would_X2_size rfl rfl rfl (by decide +kernel) ⟨by decide, by decide⟩) dX2_would_22 rfl (Nat.le_of_ble_eq_true rfl) ⟨Nat.zero_le _, Nat.zero_le _⟩ (fun z w hp => ?_)
    obtain ⟨rfl, rfl⟩ := hp
    refine g_iconst (pc := 25) C dX2_would_25 ?_
    refine g_isub (pc := 26) C dX2_would_26 ?_
    refine g_callSI (pc := 27) (As := [.int (iI b), .int (iI 0), .int (iI ((SZ k) - 1))]) (rest := []) C (c_X2_isIn l K _ b 0 ((SZ k) - 1) (by omega) (by omega)) (cwS 3 C.hts gX2_would_X2_isIn rfl rfl rfl (by decide +kernel) ⟨by decide, by decide⟩) dX2_would_27 rfl (Nat.le_of_ble_eq_true rfl) ⟨Nat.zero_le _, Nat.zero_le _⟩ (fun iz27 w hp => ?_)
    obtain ⟨hz27, rfl⟩ := hp
    have hz27 : (iz27 = 1 ∧ (0 ≤ b ∧ b ≤ ((SZ k) - 1))) ∨ (iz27 = 0 ∧ ¬ (0 ≤ b ∧ b ≤ ((SZ k) - 1))) := hz27
    refine g_if_eq (pc := 30) (tgt := 42) C dX2_would_30 (by decide) (by omega) (fun c2 => ?_) (fun c2 => ?_)
    · refine g_aload_n (pc := 42) C dX2_would_42 rfl rfl ?_
      refine g_iconst (pc := 43) C dX2_would_43 ?_
      refine g_callVI (pc := 44) (As := [.int (iI 2)]) (rest := []) C (c_X2_fail l K q (sA S 0 (fU (S 0) 0 0)) 2) (cwV 1 C.hts gX2_would_X2_fail rfl rfl rfl (by decide +kernel) ⟨by decide, by decide⟩) 0 rfl rfl dX2_would_44 rfl (Nat.le_of_ble_eq_true rfl) ⟨Nat.zero_le _, Nat.zero_le _⟩ (fun z w hp => ?_)
      obtain ⟨rfl, rfl⟩ := hp
      exact g_ireturn (pc := 47) C rfl dX2_would_47 (Or.inr (Or.inr (⟨by omega, rfl, _, rfl, (by first | rfl | exact fU_fU _ _ _ _), rfl, rfl, rfl, rfl, rfl, rfl⟩)))
    · refine g_aload_n (pc := 33) C dX2_would_33 rfl rfl ?_
      refine g_iload_n (pc := 34) C dX2_would_34 rfl rfl ?_
      refine g_iload_n (pc := 35) C dX2_would_35 rfl rfl ?_
      refine g_callVI (pc := 36) (As := [.int (iI k), .int (iI b)]) (rest := []) C (c_X2_litBy l K q (sA S 0 (fU (S 0) 0 0)) H hf hh k b (show 0 ≤ k ∧ k ≤ S 0 1 by omega) (by omega)) (cwV 2 C.hts gX2_would_X2_litBy rfl rfl rfl (by decide +kernel) ⟨by decide, by decide⟩) 0 rfl rfl dX2_would_36 rfl (Nat.le_of_ble_eq_true rfl) ⟨Nat.zero_le _, Nat.zero_le _⟩ (fun lz w hp => ?_)
      obtain ⟨hlz, L36, v36, rfl⟩ := hp
      have hlz : lz = LIT (S 0 2) (rot k b (S 4) (S 4)) (S 6) := hlz
      have hlb := LIT_b (n := S 0 2) (by omega) (rot k b (S 4) (S 4)) (S 6)
      rw [← hlz] at hlb
      refine g_goto (pc := 39) (tgt := 47) C dX2_would_39 (by decide) ?_
      exact g_ireturn (pc := 47) C rfl dX2_would_47 (Or.inl (⟨by omega, hlz, _, rfl, (by first | rfl | exact fU_fU _ _ _ _), rfl, rfl, rfl, rfl, rfl, rfl⟩))
  · refine g_aload_n (pc := 13) C dX2_would_13 rfl rfl ?_
    refine g_iconst (pc := 14) C dX2_would_14 ?_
    refine g_callVI (pc := 15) (As := [.int (iI 1)]) (rest := []) C (c_X2_fail l K q (sA S 0 (fU (S 0) 0 0)) 1) (cwV 1 C.hts gX2_would_X2_fail rfl rfl rfl (by decide +kernel) ⟨by decide, by decide⟩) 0 rfl rfl dX2_would_15 rfl (Nat.le_of_ble_eq_true rfl) ⟨Nat.zero_le _, Nat.zero_le _⟩ (fun z w hp => ?_)
    obtain ⟨rfl, rfl⟩ := hp
    exact g_ireturn (pc := 18) C rfl dX2_would_18 (Or.inr (Or.inl (⟨by omega, rfl, _, rfl, (by first | rfl | exact fU_fU _ _ _ _), rfl, rfl, rfl, rfl, rfl, rfl⟩)))

set_option maxHeartbeats 400000 in
set_option maxRecDepth 100000 in
theorem c_X2_advise (l : Launch) (K : KK) (q : Nat → Nat) (S : Nat → Int → Int) (H : HT S) (hf : ∀ j, 0 ≤ j → j < S 0 2 → 0 ≤ S 4 j ∧ S 4 j ≤ 2) (hh : ∀ j, 0 ≤ j → j < 546 → 0 ≤ S 6 j ∧ S 6 j ≤ 1) (k : Int) (gk : -2147483648 ≤ k ∧ k < 2147483648) : hMI l yX2_advise wsX2_advise (rmL 8) K [.ref (q 0), .int (iI k)] (wM K q S) (fun z w => ((0 ≤ k ∧ k ≤ S 0 1) ∧ (AV (S 0 2) (S 4) (S 6) k z) ∧ ∃ S2, w = wM K q S2 ∧ UM S S2 (S 4) (S 6) 0) ∨ ((¬ (0 ≤ k ∧ k ≤ S 0 1)) ∧ (z = 0) ∧ ∃ S2, w = wM K q S2 ∧ UM S S2 (S 4) (S 6) 1)) := by
  have hn := H.n
  have hk9 := H.1
  refine in_MI (cc := cX2_advise) (maxL := 6) (rt := (some .int)) (lv := [(0, .ref (q 0)), (1, .int (iI k))]) (by decide) rfl (Nat.le_of_ble_eq_true rfl) rfl ?_
  intro p e s m args below meth c A C
  have hinX2 : ∀ w ∈ wsX20, w ∈ wsX2_advise := by decide +kernel
  refine g_aload_n (pc := 0) C dX2_advise_0 rfl rfl ?_
  refine g_iconst (pc := 1) C dX2_advise_1 ?_
  refine g_put (pc := 2) (ref := "HexRoomsModel") (ci := 2) (N := 13) (ws' := (wM K q (sA S 0 (fU (S 0) 0 0)))) C 0 rfl rfl hinX2 tyX2 tyX2_ok nmX2 0 (by decide) (by decide +kernel) rfl rfl rfl (Nat.le_of_ble_eq_true rfl) dX2_advise_2 rfl ?_
  refine g_aload_n (pc := 5) C dX2_advise_5 rfl rfl ?_
  refine g_iload_n (pc := 6) C dX2_advise_6 rfl rfl ?_
  refine g_callVI (pc := 7) (As := [.int (iI k)]) (rest := []) C (c_X2_isRing l K q (sA S 0 (fU (S 0) 0 0)) (show 1 ≤ S 0 1 ∧ S 0 1 ≤ 5 by omega) k (by omega)) (cwV 1 C.hts gX2_advise_X2_isRing rfl rfl rfl (by decide +kernel) ⟨by decide, by decide⟩) 0 rfl rfl dX2_advise_7 rfl (Nat.le_of_ble_eq_true rfl) ⟨Nat.zero_le _, Nat.zero_le _⟩ (fun iz7 w hp => ?_)
  obtain ⟨hz7, rfl⟩ := hp
  have hz7 : (iz7 = 1 ∧ (0 ≤ k ∧ k ≤ S 0 1)) ∨ (iz7 = 0 ∧ ¬ (0 ≤ k ∧ k ≤ S 0 1)) := hz7
  refine g_if_ne (pc := 10) (tgt := 19) C dX2_advise_10 (by decide) (by omega) (fun c1 => ?_) (fun c1 => ?_)
  · have hfz := FR_SZ (k := k) (by omega)
    refine g_iconst (pc := 19) C dX2_advise_19 ?_
    refine g_istore_n (pc := 20) (lv' := [(2, .int (iI (-1))), (0, .ref (q 0)), (1, .int (iI k))]) C dX2_advise_20 rfl (by decide) rfl ?_
    refine g_iconst (pc := 21) C dX2_advise_21 ?_
    refine g_istore_n (pc := 22) (lv' := [(3, .int (iI (-1))), (2, .int (iI (-1))), (0, .ref (q 0)), (1, .int (iI k))]) C dX2_advise_22 rfl (by decide) rfl ?_
    refine g_iconst (pc := 23) C dX2_advise_23 ?_
    refine g_istore (pc := 24) (lv' := [(4, .int (iI 0)), (3, .int (iI (-1))), (2, .int (iI (-1))), (0, .ref (q 0)), (1, .int (iI k))]) C dX2_advise_24 (by decide) rfl ?_
    have loop26 : ∀ (fu : Nat) (L : Int → Int) (v : Int → Int) (ch : Int) (mo : Int) (t : Int), (0 ≤ t ∧ t ≤ SZ k) → ((t = 0 ∧ ch = -1 ∧ mo = -1) ∨ (0 < t ∧ AVI (S 0 2) (S 4) (S 6) k t ch mo)) → SZ k - t < (fu : Int) → hG p l e (rmL 8) s m args below meth c 6 K A 0 0 (QI K A below args s (fun z w => ((0 ≤ k ∧ k ≤ S 0 1) ∧ (AV (S 0 2) (S 4) (S 6) k z) ∧ ∃ S2, w = wM K q S2 ∧ UM S S2 (S 4) (S 6) 0) ∨ ((¬ (0 ≤ k ∧ k ≤ S 0 1)) ∧ (z = 0) ∧ ∃ S2, w = wM K q S2 ∧ UM S S2 (S 4) (S 6) 1))) 26 [(4, .int (iI t)), (3, .int (iI mo)), (2, .int (iI ch)), (0, .ref (q 0)), (1, .int (iI k))] [] (wM K q (sA (sA (sA S 0 (fU (S 0) 0 0)) 7 L) 10 v)) := by
      intro fu
      induction fu with
      | zero =>
        intro L v ch mo t h1 h2 hm
        exact absurd hm (by omega)
      | succ fu ih26 =>
        intro L v ch mo t h1 h2 hm
        have hmo : -1 ≤ mo ∧ mo ≤ 91 := by
          rcases h2 with ⟨_, _, e⟩ | ⟨_, e⟩
          · omega
          · have := AVI_mo (n := S 0 2) (by omega) e
            omega
        refine g_iload (pc := 26) C dX2_advise_26 rfl ?_
        refine g_iload_n (pc := 28) C dX2_advise_28 rfl rfl ?_
        refine g_callSI (pc := 29) (As := [.int (iI k)]) (rest := [.int (iI t)]) C (c_X2_size l K _ k (by omega)) (cwS 1 C.hts gX2_advise_X2_size rfl rfl rfl (by decide +kernel) ⟨by decide, by decide⟩) dX2_advise_29 rfl (Nat.le_of_ble_eq_true rfl) ⟨Nat.zero_le _, Nat.zero_le _⟩ (fun z w hp => ?_)
        obtain ⟨rfl, rfl⟩ := hp
        refine g_icmp_ge (pc := 32) (tgt := 65) C dX2_advise_32 (by decide) (by omega) (by omega) (fun c2 => ?_) (fun c2 => ?_)
        · refine g_iload_n (pc := 65) C dX2_advise_65 rfl rfl ?_
          exact g_ireturn (pc := 66) C rfl dX2_advise_66 (Or.inl (⟨by omega, by
            rcases h2 with ⟨e, _⟩ | ⟨_, e⟩
            · exact absurd e (by omega)
            · exact AVI_end e (by omega) (by omega), _, rfl, (by first | rfl | exact fU_fU _ _ _ _), rfl, rfl, rfl, rfl, rfl, rfl⟩))
        · refine g_aload_n (pc := 35) C dX2_advise_35 rfl rfl ?_
          refine g_iload_n (pc := 36) C dX2_advise_36 rfl rfl ?_
          refine g_iload (pc := 37) C dX2_advise_37 rfl ?_
          refine g_callVI (pc := 39) (As := [.int (iI k), .int (iI t)]) (rest := []) C (c_X2_litBy l K q (sA (sA (sA S 0 (fU (S 0) 0 0)) 7 L) 10 v) H hf hh k t (show 0 ≤ k ∧ k ≤ S 0 1 by omega) (by omega)) (cwV 2 C.hts gX2_advise_X2_litBy rfl rfl rfl (by decide +kernel) ⟨by decide, by decide⟩) 0 rfl rfl dX2_advise_39 rfl (Nat.le_of_ble_eq_true rfl) ⟨Nat.zero_le _, Nat.zero_le _⟩ (fun lz w hp => ?_)
          obtain ⟨hlz, L39, v39, rfl⟩ := hp
          have hlz : lz = LIT (S 0 2) (rot k t (S 4) (S 4)) (S 6) := hlz
          have hlb := LIT_b (n := S 0 2) (by omega) (rot k t (S 4) (S 4)) (S 6)
          rw [← hlz] at hlb
          refine g_istore (pc := 42) (lv' := [(5, .int (iI lz)), (4, .int (iI t)), (3, .int (iI mo)), (2, .int (iI ch)), (0, .ref (q 0)), (1, .int (iI k))]) C dX2_advise_42 (by decide) rfl ?_
          refine g_iload (pc := 44) C dX2_advise_44 rfl ?_
          refine g_iload_n (pc := 46) C dX2_advise_46 rfl rfl ?_
          refine g_icmp_gt (pc := 47) (tgt := 53) C dX2_advise_47 (by decide) (by omega) (by omega) (fun c3 => ?_) (fun c3 => ?_)
          · refine g_iload (pc := 53) C dX2_advise_53 rfl ?_
            refine g_istore_n (pc := 55) (lv' := [(2, .int (iI t)), (5, .int (iI lz)), (4, .int (iI t)), (3, .int (iI mo)), (0, .ref (q 0)), (1, .int (iI k))]) C dX2_advise_55 rfl (by decide) rfl ?_
            refine g_iload (pc := 56) C dX2_advise_56 rfl ?_
            refine g_istore_n (pc := 58) (lv' := [(3, .int (iI lz)), (2, .int (iI t)), (5, .int (iI lz)), (4, .int (iI t)), (0, .ref (q 0)), (1, .int (iI k))]) C dX2_advise_58 rfl (by decide) rfl ?_
            refine g_iinc (pc := 59) (lv' := [(4, .int (iI (t + 1))), (3, .int (iI lz)), (2, .int (iI t)), (5, .int (iI lz)), (0, .ref (q 0)), (1, .int (iI k))]) C dX2_advise_59 rfl (by decide) rfl ?_
            refine g_goto (pc := 62) (tgt := 26) C dX2_advise_62 (by decide) ?_
            refine g_sub (lv' := [(4, .int (iI (t + 1))), (3, .int (iI lz)), (2, .int (iI t)), (0, .ref (q 0)), (1, .int (iI k))]) [0, 1, 2, 4, 5] rfl ?_
            exact ih26 L39 v39 t lz (t + 1) (by omega) (by
              rcases h2 with ⟨e1, e2, e3⟩ | ⟨e1, e2⟩
              · subst e1
                rw [hlz]
                exact Or.inr ⟨by omega, AVI_new (ch := 0) (mo := -1) (by omega) (Or.inl ⟨rfl, rfl, rfl⟩) (by omega)⟩
              · rw [hlz]
                exact Or.inr ⟨by omega, AVI_new h1.1 e2 (by omega)⟩) (by omega)
          · refine g_goto (pc := 50) (tgt := 59) C dX2_advise_50 (by decide) ?_
            refine g_iinc (pc := 59) (lv' := [(4, .int (iI (t + 1))), (5, .int (iI lz)), (3, .int (iI mo)), (2, .int (iI ch)), (0, .ref (q 0)), (1, .int (iI k))]) C dX2_advise_59 rfl (by decide) rfl ?_
            refine g_goto (pc := 62) (tgt := 26) C dX2_advise_62 (by decide) ?_
            refine g_sub (lv' := [(4, .int (iI (t + 1))), (3, .int (iI mo)), (2, .int (iI ch)), (0, .ref (q 0)), (1, .int (iI k))]) [0, 2, 3, 4, 5] rfl ?_
            exact ih26 L39 v39 ch mo (t + 1) (by omega) (by
              rcases h2 with ⟨e1, e2, e3⟩ | ⟨e1, e2⟩
              · exact absurd e3 (by omega)
              · exact Or.inr ⟨by omega, AVI_keep (by omega) e2 (by omega)⟩) (by omega)
    exact loop26 (31) (S 7) (S 10) (-1) (-1) 0 (by omega) (Or.inl ⟨rfl, rfl, rfl⟩) (by omega)
  · refine g_aload_n (pc := 13) C dX2_advise_13 rfl rfl ?_
    refine g_iconst (pc := 14) C dX2_advise_14 ?_
    refine g_callVI (pc := 15) (As := [.int (iI 1)]) (rest := []) C (c_X2_fail l K q (sA S 0 (fU (S 0) 0 0)) 1) (cwV 1 C.hts gX2_advise_X2_fail rfl rfl rfl (by decide +kernel) ⟨by decide, by decide⟩) 0 rfl rfl dX2_advise_15 rfl (Nat.le_of_ble_eq_true rfl) ⟨Nat.zero_le _, Nat.zero_le _⟩ (fun z w hp => ?_)
    obtain ⟨rfl, rfl⟩ := hp
    exact g_ireturn (pc := 18) C rfl dX2_advise_18 (Or.inr (⟨by omega, rfl, _, rfl, (by first | rfl | exact fU_fU _ _ _ _), rfl, rfl, rfl, rfl, rfl, rfl⟩))

set_option maxHeartbeats 400000 in
set_option maxRecDepth 100000 in
theorem c_X2_best (l : Launch) (K : KK) (q : Nat → Nat) (S : Nat → Int → Int) (H : HT S) (hf : ∀ j, 0 ≤ j → j < S 0 2 → 0 ≤ S 4 j ∧ S 4 j ≤ 2) (hh : ∀ j, 0 ≤ j → j < 546 → 0 ≤ S 6 j ∧ S 6 j ≤ 1) : hMI l yX2_best wsX2_best (rmL 8) K [.ref (q 0)] (wM K q S) (fun z w => ((0 = 0) ∧ (BS (S 0 2) (S 4) (S 6) z) ∧ ∃ S2, w = wM K q S2 ∧ UM S S2 (S 4) (S 6) 0)) := by
  have hn := H.n
  have hk9 := H.1
  refine in_MI (cc := cX2_best) (maxL := 5) (rt := (some .int)) (lv := [(0, .ref (q 0))]) (by decide) rfl (Nat.le_of_ble_eq_true rfl) rfl ?_
  intro p e s m args below meth c A C
  have hinX2 : ∀ w ∈ wsX20, w ∈ wsX2_best := by decide +kernel
  refine g_aload_n (pc := 0) C dX2_best_0 rfl rfl ?_
  refine g_iconst (pc := 1) C dX2_best_1 ?_
  refine g_put (pc := 2) (ref := "HexRoomsModel") (ci := 2) (N := 13) (ws' := (wM K q (sA S 0 (fU (S 0) 0 0)))) C 0 rfl rfl hinX2 tyX2 tyX2_ok nmX2 0 (by decide) (by decide +kernel) rfl rfl rfl (Nat.le_of_ble_eq_true rfl) dX2_best_2 rfl ?_
  refine g_iconst (pc := 5) C dX2_best_5 ?_
  refine g_istore_n (pc := 6) (lv' := [(1, .int (iI (-1))), (0, .ref (q 0))]) C dX2_best_6 rfl (by decide) rfl ?_
  refine g_iconst (pc := 7) C dX2_best_7 ?_
  refine g_istore_n (pc := 8) (lv' := [(2, .int (iI (-1))), (1, .int (iI (-1))), (0, .ref (q 0))]) C dX2_best_8 rfl (by decide) rfl ?_
  refine g_iconst (pc := 9) C dX2_best_9 ?_
  refine g_istore_n (pc := 10) (lv' := [(3, .int (iI 0)), (2, .int (iI (-1))), (1, .int (iI (-1))), (0, .ref (q 0))]) C dX2_best_10 rfl (by decide) rfl ?_
  have loop11 : ∀ (fu : Nat) (L : Int → Int) (ch : Int) (mo : Int) (r : Int), (0 ≤ r ∧ r ≤ S 0 2) → (∃ m, BSI (S 0 2) (S 4) (S 6) r ch m ∧ ((ch = -1 ∧ mo = -1) ∨ (0 ≤ ch ∧ mo = LIT (S 0 2) (S 4) (S 6) + m))) → (-1 ≤ mo ∧ mo ≤ 91) → S 0 2 - r < (fu : Int) → hG p l e (rmL 8) s m args below meth c 5 K A 0 0 (QI K A below args s (fun z w => ((0 = 0) ∧ (BS (S 0 2) (S 4) (S 6) z) ∧ ∃ S2, w = wM K q S2 ∧ UM S S2 (S 4) (S 6) 0))) 11 [(3, .int (iI r)), (2, .int (iI mo)), (1, .int (iI ch)), (0, .ref (q 0))] [] (wM K q (sA (sA (sA S 0 (fU (S 0) 0 0)) 7 L) 4 (S 4))) := by
    intro fu
    induction fu with
    | zero =>
      intro L ch mo r h1 h2 hmo hm
      exact absurd hm (by omega)
    | succ fu ih11 =>
      intro L ch mo r h1 h2 hmo hm
      refine g_iload_n (pc := 11) C dX2_best_11 rfl rfl ?_
      refine g_aload_n (pc := 12) C dX2_best_12 rfl rfl ?_
      refine g_get (pc := 13) (v := .int (iI ((S 0) 2))) (ref := "HexRoomsModel") (ci := 2) (N := 13) C 0 rfl rfl hinX2 2 (by decide) (by decide +kernel) rfl rfl dX2_best_13 ?_
      refine g_icmp_ge (pc := 16) (tgt := 71) C dX2_best_16 (by decide) (by omega) (by omega) (fun c1 => ?_) (fun c1 => ?_)
      · refine g_iload_n (pc := 71) C dX2_best_71 rfl rfl ?_
        exact g_ireturn (pc := 72) C rfl dX2_best_72 (⟨by omega, by
          obtain ⟨m, e, _⟩ := h2
          exact BSI_end e (by omega), _, rfl, (by first | rfl | exact fU_fU _ _ _ _), rfl, rfl, rfl, rfl, rfl, rfl⟩)
      · refine g_aload_n (pc := 19) C dX2_best_19 rfl rfl ?_
        refine g_get (pc := 20) (ref := "HexRoomsModel") (ci := 2) (N := 13) C 0 rfl rfl hinX2 6 (by decide) (by decide +kernel) rfl rfl dX2_best_20 ?_
        refine g_iload_n (pc := 23) C dX2_best_23 rfl rfl ?_
        refine g_iaload (pc := 24) (f := (S 4)) C 4 rfl (by omega) dX2_best_24 ?_
        have bd2 := hf r (by omega) (by omega)
        refine g_if_eq (pc := 25) (tgt := 31) C dX2_best_25 (by decide) (by omega) (fun c3 => ?_) (fun c3 => ?_)
        · refine g_aload_n (pc := 31) C dX2_best_31 rfl rfl ?_
          refine g_get (pc := 32) (ref := "HexRoomsModel") (ci := 2) (N := 13) C 0 rfl rfl hinX2 6 (by decide) (by decide +kernel) rfl rfl dX2_best_32 ?_
          refine g_iload_n (pc := 35) C dX2_best_35 rfl rfl ?_
          refine g_iconst (pc := 36) C dX2_best_36 ?_
          refine g_iastore (pc := 37) (f := (S 4)) (ws' := (wM K q (sA (sA (sA S 0 (fU (S 0) 0 0)) 7 L) 4 (fU (S 4) r 2)))) C 4 rfl (by omega) dX2_best_37 rfl ?_
          have hf2 := fU_b (i := r) (v := 2) hf (by omega)
          have hup := LIT_up (n := S 0 2) (by omega) (f := S 4) (h := S 6) (r := r) (by omega) (by omega)
          have hdk := DK_b (S 0 2) (S 4) (S 6) r
          have hl0 := LIT_b (n := S 0 2) (by omega) (S 4) (S 6)
          refine g_aload_n (pc := 38) C dX2_best_38 rfl rfl ?_
          refine g_callVI (pc := 39) (As := []) (rest := []) C (c_X2_lit l K q (sA (sA (sA S 0 (fU (S 0) 0 0)) 7 L) 4 (fU (S 4) r 2)) H hf2 hh) (cwV 0 C.hts gX2_best_X2_lit rfl rfl rfl (by decide +kernel) ⟨by decide, by decide⟩) 0 rfl rfl dX2_best_39 rfl (Nat.le_of_ble_eq_true rfl) ⟨Nat.zero_le _, Nat.zero_le _⟩ (fun lz w hp => ?_)
          obtain ⟨hlz, L39, rfl, hL39⟩ := hp
          have hlz : lz = LIT (S 0 2) (fU (S 4) r 2) (S 6) := hlz
          have hlb := LIT_b (n := S 0 2) (by omega) (fU (S 4) r 2) (S 6)
          rw [← hlz] at hlb
          have hL39 : ∀ j, 0 ≤ j → j < S 0 2 → L39 j = LT (S 0 2) (fU (S 4) r 2) (S 6) (S 0 2) j := hL39
          refine g_istore (pc := 42) (lv' := [(4, .int (iI lz)), (3, .int (iI r)), (2, .int (iI mo)), (1, .int (iI ch)), (0, .ref (q 0))]) C dX2_best_42 (by decide) rfl ?_
          refine g_aload_n (pc := 44) C dX2_best_44 rfl rfl ?_
          refine g_get (pc := 45) (ref := "HexRoomsModel") (ci := 2) (N := 13) C 0 rfl rfl hinX2 6 (by decide) (by decide +kernel) rfl rfl dX2_best_45 ?_
          refine g_iload_n (pc := 48) C dX2_best_48 rfl rfl ?_
          refine g_iconst (pc := 49) C dX2_best_49 ?_
          refine g_iastore (pc := 50) (f := (fU (S 4) r 2)) (ws' := (wM K q (sA (sA (sA S 0 (fU (S 0) 0 0)) 7 L39) 4 (fU (fU (S 4) r 2) r 0)))) C 4 rfl (by omega) dX2_best_50 rfl ?_
          rw [show fU (fU (S 4) r 2) r 0 = S 4 from fU_bk (by omega)]
          refine g_iload (pc := 51) C dX2_best_51 rfl ?_
          refine g_iload_n (pc := 53) C dX2_best_53 rfl rfl ?_
          refine g_icmp_gt (pc := 54) (tgt := 60) C dX2_best_54 (by decide) (by omega) (by omega) (fun c4 => ?_) (fun c4 => ?_)
          · refine g_iload_n (pc := 60) C dX2_best_60 rfl rfl ?_
            refine g_istore_n (pc := 61) (lv' := [(1, .int (iI r)), (4, .int (iI lz)), (3, .int (iI r)), (2, .int (iI mo)), (0, .ref (q 0))]) C dX2_best_61 rfl (by decide) rfl ?_
            refine g_iload (pc := 62) C dX2_best_62 rfl ?_
            refine g_istore_n (pc := 64) (lv' := [(2, .int (iI lz)), (1, .int (iI r)), (4, .int (iI lz)), (3, .int (iI r)), (0, .ref (q 0))]) C dX2_best_64 rfl (by decide) rfl ?_
            refine g_iinc (pc := 65) (lv' := [(3, .int (iI (r + 1))), (2, .int (iI lz)), (1, .int (iI r)), (4, .int (iI lz)), (0, .ref (q 0))]) C dX2_best_65 rfl (by decide) rfl ?_
            refine g_goto (pc := 68) (tgt := 11) C dX2_best_68 (by decide) ?_
            refine g_sub (lv' := [(3, .int (iI (r + 1))), (2, .int (iI lz)), (1, .int (iI r)), (0, .ref (q 0))]) [0, 1, 2, 4] rfl ?_
            exact ih11 L39 r lz (r + 1) (by omega) (by
              obtain ⟨m, e, e2⟩ := h2
              have hm : m < DK (S 0 2) (S 4) (S 6) r := by
                rcases e2 with ⟨e3, e4⟩ | ⟨e3, e4⟩
                · rcases e with ⟨_, g, _⟩ | ⟨g, _⟩
                  · omega
                  · omega
                · omega
              exact ⟨DK (S 0 2) (S 4) (S 6) r, BSI_new h1.1 e (by omega) hm, Or.inr ⟨by omega, by omega⟩⟩) (by omega) (by omega)
          · refine g_goto (pc := 57) (tgt := 65) C dX2_best_57 (by decide) ?_
            refine g_iinc (pc := 65) (lv' := [(3, .int (iI (r + 1))), (4, .int (iI lz)), (2, .int (iI mo)), (1, .int (iI ch)), (0, .ref (q 0))]) C dX2_best_65 rfl (by decide) rfl ?_
            refine g_goto (pc := 68) (tgt := 11) C dX2_best_68 (by decide) ?_
            refine g_sub (lv' := [(3, .int (iI (r + 1))), (2, .int (iI mo)), (1, .int (iI ch)), (0, .ref (q 0))]) [0, 2, 3, 4] rfl ?_
            exact ih11 L39 ch mo (r + 1) (by omega) (by
              obtain ⟨m, e, e2⟩ := h2
              rcases e2 with ⟨e3, e4⟩ | ⟨e3, e4⟩
              · exact absurd e4 (by omega)
              · exact ⟨m, BSI_keep e (by omega), Or.inr ⟨e3, e4⟩⟩) (by omega) (by omega)
        · refine g_goto (pc := 28) (tgt := 65) C dX2_best_28 (by decide) ?_
          refine g_iinc (pc := 65) (lv' := [(3, .int (iI (r + 1))), (2, .int (iI mo)), (1, .int (iI ch)), (0, .ref (q 0))]) C dX2_best_65 rfl (by decide) rfl ?_
          refine g_goto (pc := 68) (tgt := 11) C dX2_best_68 (by decide) ?_
          exact ih11 L ch mo (r + 1) (by omega) (by
            obtain ⟨m, e, e2⟩ := h2
            exact ⟨m, BSI_skip e (by omega), e2⟩) (by omega) (by omega)
  exact loop11 (92) (S 7) (-1) (-1) 0 (by omega) ⟨-1, Or.inl ⟨rfl, rfl, fun j h3 h4 => by omega⟩, Or.inl ⟨rfl, rfl⟩⟩ (by omega) (by omega)
