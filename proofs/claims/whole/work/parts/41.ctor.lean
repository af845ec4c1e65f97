def ST0 : Nat → Int → Int := fun k => match k with
  | 1 => TA
  | 2 => TD
  | 3 => TR
  | 4 => TC
  | 5 => TN
  | _ => fun _ => 0
abbrev Z0 : Nat → Int → Int := fun _ _ => 0
set_option maxHeartbeats 400000 in
set_option maxRecDepth 100000 in
theorem c_X2_init (l : Launch) (K : KK) (a : Nat) : hMC l yX2_init wsX2_init { frames := 3, cells := 10, slots := 1395, locals := 96 } K [.ref a] [(a, .inr (2, [.int (iI 0), .int (iI 0), .int (iI 0), .null, .null, .null, .null, .null, .null, .null, .null, .null, .null]))] (fun w => ∃ (q : Nat → Nat) (T : Nat → Int → Int), q 0 = a ∧ w = wM K q T ∧ BMI 2 0 T (FR 3)) 10 1395 := by
  refine in_MC (cc := cX2_init) (maxL := 1) (rt := none) (lv := [(0, .ref a)]) (by decide) rfl rfl (Nat.le_of_ble_eq_true rfl) rfl ?_
  intro p e s m args below meth c A C hin
  have hinX2 : ∀ w ∈ wsX20, w ∈ wsX2_init := by decide +kernel
  refine g_aload_n (pc := 0) C dX2_init_0 rfl rfl ?_
  refine g_obj (pc := 1) C (by decide +kernel) (by decide +kernel) (by decide +kernel) dX2_init_1 (by decide) (by decide) ?_
  refine g_aload_n (pc := 4) C dX2_init_4 rfl rfl ?_
  refine g_bipush (pc := 5) C dX2_init_5 (by decide +kernel) ?_
  refine g_newI (pc := 7) (N := 91) C (by decide +kernel) (by decide) (Nat.le_of_ble_eq_true rfl) (Nat.le_of_ble_eq_true rfl) dX2_init_7 (fun q1 => ?_)
  refine g_putF (pc := 9) (ref := "HexRoomsModel") (ci := 2) (N := 13) (ws' := [(a, .inr (2, [.int (iI 0), .int (iI 0), .int (iI 0), .ref q1, .null, .null, .null, .null, .null, .null, .null, .null, .null])), (q1, aI K 91 (fun _ => 0))]) C 0 rfl rfl hinX2 tyX2 tyX2_ok nmX2 3 (by decide) (by decide +kernel) rfl rfl hin rfl rfl rfl (Nat.le_of_ble_eq_true rfl) dX2_init_9 rfl ?_
  refine g_aload_n (pc := 12) C dX2_init_12 rfl rfl ?_
  refine g_bipush (pc := 13) C dX2_init_13 (by decide +kernel) ?_
  refine g_newI (pc := 15) (N := 91) C (by decide +kernel) (by decide) (Nat.le_of_ble_eq_true rfl) (Nat.le_of_ble_eq_true rfl) dX2_init_15 (fun q2 => ?_)
  refine g_putF (pc := 17) (ref := "HexRoomsModel") (ci := 2) (N := 13) (ws' := [(a, .inr (2, [.int (iI 0), .int (iI 0), .int (iI 0), .ref q1, .ref q2, .null, .null, .null, .null, .null, .null, .null, .null])), (q1, aI K 91 (fun _ => 0)), (q2, aI K 91 (fun _ => 0))]) C 0 rfl rfl hinX2 tyX2 tyX2_ok nmX2 4 (by decide) (by decide +kernel) rfl rfl hin rfl rfl rfl (Nat.le_of_ble_eq_true rfl) dX2_init_17 rfl ?_
  refine g_aload_n (pc := 20) C dX2_init_20 rfl rfl ?_
  refine g_bipush (pc := 21) C dX2_init_21 (by decide +kernel) ?_
  refine g_newI (pc := 23) (N := 91) C (by decide +kernel) (by decide) (Nat.le_of_ble_eq_true rfl) (Nat.le_of_ble_eq_true rfl) dX2_init_23 (fun q3 => ?_)
  refine g_putF (pc := 25) (ref := "HexRoomsModel") (ci := 2) (N := 13) (ws' := [(a, .inr (2, [.int (iI 0), .int (iI 0), .int (iI 0), .ref q1, .ref q2, .ref q3, .null, .null, .null, .null, .null, .null, .null])), (q1, aI K 91 (fun _ => 0)), (q2, aI K 91 (fun _ => 0)), (q3, aI K 91 (fun _ => 0))]) C 0 rfl rfl hinX2 tyX2 tyX2_ok nmX2 5 (by decide) (by decide +kernel) rfl rfl hin rfl rfl rfl (Nat.le_of_ble_eq_true rfl) dX2_init_25 rfl ?_
  refine g_aload_n (pc := 28) C dX2_init_28 rfl rfl ?_
  refine g_bipush (pc := 29) C dX2_init_29 (by decide +kernel) ?_
  refine g_newI (pc := 31) (N := 91) C (by decide +kernel) (by decide) (Nat.le_of_ble_eq_true rfl) (Nat.le_of_ble_eq_true rfl) dX2_init_31 (fun q4 => ?_)
  refine g_putF (pc := 33) (ref := "HexRoomsModel") (ci := 2) (N := 13) (ws' := [(a, .inr (2, [.int (iI 0), .int (iI 0), .int (iI 0), .ref q1, .ref q2, .ref q3, .ref q4, .null, .null, .null, .null, .null, .null])), (q1, aI K 91 (fun _ => 0)), (q2, aI K 91 (fun _ => 0)), (q3, aI K 91 (fun _ => 0)), (q4, aI K 91 (fun _ => 0))]) C 0 rfl rfl hinX2 tyX2 tyX2_ok nmX2 6 (by decide) (by decide +kernel) rfl rfl hin rfl rfl rfl (Nat.le_of_ble_eq_true rfl) dX2_init_33 rfl ?_
  refine g_aload_n (pc := 36) C dX2_init_36 rfl rfl ?_
  refine g_bipush (pc := 37) C dX2_init_37 (by decide +kernel) ?_
  refine g_newI (pc := 39) (N := 121) C (by decide +kernel) (by decide) (Nat.le_of_ble_eq_true rfl) (Nat.le_of_ble_eq_true rfl) dX2_init_39 (fun q5 => ?_)
  refine g_putF (pc := 41) (ref := "HexRoomsModel") (ci := 2) (N := 13) (ws' := [(a, .inr (2, [.int (iI 0), .int (iI 0), .int (iI 0), .ref q1, .ref q2, .ref q3, .ref q4, .ref q5, .null, .null, .null, .null, .null])), (q1, aI K 91 (fun _ => 0)), (q2, aI K 91 (fun _ => 0)), (q3, aI K 91 (fun _ => 0)), (q4, aI K 91 (fun _ => 0)), (q5, aI K 121 (fun _ => 0))]) C 0 rfl rfl hinX2 tyX2 tyX2_ok nmX2 7 (by decide) (by decide +kernel) rfl rfl hin rfl rfl rfl (Nat.le_of_ble_eq_true rfl) dX2_init_41 rfl ?_
  refine g_aload_n (pc := 44) C dX2_init_44 rfl rfl ?_
  refine g_sipush (pc := 45) C dX2_init_45 (by decide +kernel) ?_
  refine g_newZ (pc := 48) (N := 546) C (by decide +kernel) (by decide) (Nat.le_of_ble_eq_true rfl) (Nat.le_of_ble_eq_true rfl) dX2_init_48 (fun q6 => ?_)
  refine g_putF (pc := 50) (ref := "HexRoomsModel") (ci := 2) (N := 13) (ws' := [(a, .inr (2, [.int (iI 0), .int (iI 0), .int (iI 0), .ref q1, .ref q2, .ref q3, .ref q4, .ref q5, .ref q6, .null, .null, .null, .null])), (q1, aI K 91 (fun _ => 0)), (q2, aI K 91 (fun _ => 0)), (q3, aI K 91 (fun _ => 0)), (q4, aI K 91 (fun _ => 0)), (q5, aI K 121 (fun _ => 0)), (q6, aZ K 546 (fun _ => 0))]) C 0 rfl rfl hinX2 tyX2 tyX2_ok nmX2 8 (by decide) (by decide +kernel) rfl rfl hin rfl rfl rfl (Nat.le_of_ble_eq_true rfl) dX2_init_50 rfl ?_
  refine g_aload_n (pc := 53) C dX2_init_53 rfl rfl ?_
  refine g_bipush (pc := 54) C dX2_init_54 (by decide +kernel) ?_
  refine g_newI (pc := 56) (N := 91) C (by decide +kernel) (by decide) (Nat.le_of_ble_eq_true rfl) (Nat.le_of_ble_eq_true rfl) dX2_init_56 (fun q7 => ?_)
  refine g_putF (pc := 58) (ref := "HexRoomsModel") (ci := 2) (N := 13) (ws' := [(a, .inr (2, [.int (iI 0), .int (iI 0), .int (iI 0), .ref q1, .ref q2, .ref q3, .ref q4, .ref q5, .ref q6, .ref q7, .null, .null, .null])), (q1, aI K 91 (fun _ => 0)), (q2, aI K 91 (fun _ => 0)), (q3, aI K 91 (fun _ => 0)), (q4, aI K 91 (fun _ => 0)), (q5, aI K 121 (fun _ => 0)), (q6, aZ K 546 (fun _ => 0)), (q7, aI K 91 (fun _ => 0))]) C 0 rfl rfl hinX2 tyX2 tyX2_ok nmX2 9 (by decide) (by decide +kernel) rfl rfl hin rfl rfl rfl (Nat.le_of_ble_eq_true rfl) dX2_init_58 rfl ?_
  refine g_aload_n (pc := 61) C dX2_init_61 rfl rfl ?_
  refine g_bipush (pc := 62) C dX2_init_62 (by decide +kernel) ?_
  refine g_newI (pc := 64) (N := 91) C (by decide +kernel) (by decide) (Nat.le_of_ble_eq_true rfl) (Nat.le_of_ble_eq_true rfl) dX2_init_64 (fun q8 => ?_)
  refine g_putF (pc := 66) (ref := "HexRoomsModel") (ci := 2) (N := 13) (ws' := [(a, .inr (2, [.int (iI 0), .int (iI 0), .int (iI 0), .ref q1, .ref q2, .ref q3, .ref q4, .ref q5, .ref q6, .ref q7, .ref q8, .null, .null])), (q1, aI K 91 (fun _ => 0)), (q2, aI K 91 (fun _ => 0)), (q3, aI K 91 (fun _ => 0)), (q4, aI K 91 (fun _ => 0)), (q5, aI K 121 (fun _ => 0)), (q6, aZ K 546 (fun _ => 0)), (q7, aI K 91 (fun _ => 0)), (q8, aI K 91 (fun _ => 0))]) C 0 rfl rfl hinX2 tyX2 tyX2_ok nmX2 10 (by decide) (by decide +kernel) rfl rfl hin rfl rfl rfl (Nat.le_of_ble_eq_true rfl) dX2_init_66 rfl ?_
  refine g_aload_n (pc := 69) C dX2_init_69 rfl rfl ?_
  refine g_bipush (pc := 70) C dX2_init_70 (by decide +kernel) ?_
  refine g_newI (pc := 72) (N := 91) C (by decide +kernel) (by decide) (Nat.le_of_ble_eq_true rfl) (Nat.le_of_ble_eq_true rfl) dX2_init_72 (fun q9 => ?_)
  refine g_putF (pc := 74) (ref := "HexRoomsModel") (ci := 2) (N := 13) (ws' := [(a, .inr (2, [.int (iI 0), .int (iI 0), .int (iI 0), .ref q1, .ref q2, .ref q3, .ref q4, .ref q5, .ref q6, .ref q7, .ref q8, .ref q9, .null])), (q1, aI K 91 (fun _ => 0)), (q2, aI K 91 (fun _ => 0)), (q3, aI K 91 (fun _ => 0)), (q4, aI K 91 (fun _ => 0)), (q5, aI K 121 (fun _ => 0)), (q6, aZ K 546 (fun _ => 0)), (q7, aI K 91 (fun _ => 0)), (q8, aI K 91 (fun _ => 0)), (q9, aI K 91 (fun _ => 0))]) C 0 rfl rfl hinX2 tyX2 tyX2_ok nmX2 11 (by decide) (by decide +kernel) rfl rfl hin rfl rfl rfl (Nat.le_of_ble_eq_true rfl) dX2_init_74 rfl ?_
  refine g_aload_n (pc := 77) C dX2_init_77 rfl rfl ?_
  refine g_bipush (pc := 78) C dX2_init_78 (by decide +kernel) ?_
  refine g_newI (pc := 80) (N := 91) C (by decide +kernel) (by decide) (Nat.le_of_ble_eq_true rfl) (Nat.le_of_ble_eq_true rfl) dX2_init_80 (fun q10 => ?_)
  refine g_putF (pc := 82) (ref := "HexRoomsModel") (ci := 2) (N := 13) (ws' := [(a, .inr (2, [.int (iI 0), .int (iI 0), .int (iI 0), .ref q1, .ref q2, .ref q3, .ref q4, .ref q5, .ref q6, .ref q7, .ref q8, .ref q9, .ref q10])), (q1, aI K 91 (fun _ => 0)), (q2, aI K 91 (fun _ => 0)), (q3, aI K 91 (fun _ => 0)), (q4, aI K 91 (fun _ => 0)), (q5, aI K 121 (fun _ => 0)), (q6, aZ K 546 (fun _ => 0)), (q7, aI K 91 (fun _ => 0)), (q8, aI K 91 (fun _ => 0)), (q9, aI K 91 (fun _ => 0)), (q10, aI K 91 (fun _ => 0))]) C 0 rfl rfl hinX2 tyX2 tyX2_ok nmX2 12 (by decide) (by decide +kernel) rfl rfl hin rfl rfl rfl (Nat.le_of_ble_eq_true rfl) dX2_init_82 rfl ?_
  refine g_aload_n (pc := 85) C dX2_init_85 rfl rfl ?_
  refine g_iconst (pc := 86) C dX2_init_86 ?_
  refine g_callVV (pc := 87) (As := [.int (iI 2)]) (rest := []) C (c_X2_build l K (fun k => [a, q1, q2, q3, q4, q5, q6, q7, q8, q9, q10].getD k 0) Z0 2 (by decide)) (cwV 1 C.hts gX2_init_X2_build rfl rfl rfl (by decide +kernel) ⟨by decide, by decide⟩) 0 rfl rfl dX2_init_87 rfl (Nat.le_of_ble_eq_true rfl) ⟨(Nat.le_of_ble_eq_true rfl), (Nat.le_of_ble_eq_true rfl)⟩ (fun w hp => ?_)
  obtain ⟨T, rfl, hT⟩ := hp
  exact g_returnC (pc := 90) C rfl dX2_init_90 ⟨(fun k => [a, q1, q2, q3, q4, q5, q6, q7, q8, q9, q10].getD k 0), T, rfl, rfl, hT⟩
set_option maxHeartbeats 400000 in
set_option maxRecDepth 100000 in
theorem c_X0_init (l : Launch) (K : KK) (a : Nat) : hMC l yX0_init wsX0_init { frames := 4, cells := 5, slots := 940, locals := 128 } K [.ref a] [(a, .inr (0, [.null, .null, .null, .null, .null]))] (fun w => ∃ q : Nat → Nat, q 0 = a ∧ w = wP K q ST0) 5 940 := by
  refine in_MC (cc := cX0_init) (maxL := 2) (rt := none) (lv := [(0, .ref a)]) (by decide) rfl rfl (Nat.le_of_ble_eq_true rfl) rfl ?_
  intro p e s m args below meth c A C hin
  have hinX0 : ∀ w ∈ wsX00, w ∈ wsX0_init := by decide +kernel
  refine g_aload_n (pc := 0) C dX0_init_0 rfl rfl ?_
  refine g_obj (pc := 1) C (by decide +kernel) (by decide +kernel) (by decide +kernel) dX0_init_1 (by decide) (by decide) ?_
  refine g_aload_n (pc := 4) C dX0_init_4 rfl rfl ?_
  refine g_bipush (pc := 5) C dX0_init_5 (by decide +kernel) ?_
  refine g_newI (pc := 7) (N := 91) C (by decide +kernel) (by decide) (Nat.le_of_ble_eq_true rfl) (Nat.le_of_ble_eq_true rfl) dX0_init_7 (fun q1 => ?_)
  refine g_putF (pc := 9) (ref := "HexRooms$Plan") (ci := 0) (N := 5) (ws' := [(a, .inr (0, [.ref q1, .null, .null, .null, .null])), (q1, aI K 91 (fun _ => 0))]) C 0 rfl rfl hinX0 tyX0 tyX0_ok nmX0 0 (by decide) (by decide +kernel) rfl rfl hin rfl rfl rfl (Nat.le_of_ble_eq_true rfl) dX0_init_9 rfl ?_
  refine g_aload_n (pc := 12) C dX0_init_12 rfl rfl ?_
  refine g_bipush (pc := 13) C dX0_init_13 (by decide +kernel) ?_
  refine g_newI (pc := 15) (N := 91) C (by decide +kernel) (by decide) (Nat.le_of_ble_eq_true rfl) (Nat.le_of_ble_eq_true rfl) dX0_init_15 (fun q2 => ?_)
  refine g_putF (pc := 17) (ref := "HexRooms$Plan") (ci := 0) (N := 5) (ws' := [(a, .inr (0, [.ref q1, .ref q2, .null, .null, .null])), (q1, aI K 91 (fun _ => 0)), (q2, aI K 91 (fun _ => 0))]) C 0 rfl rfl hinX0 tyX0 tyX0_ok nmX0 1 (by decide) (by decide +kernel) rfl rfl hin rfl rfl rfl (Nat.le_of_ble_eq_true rfl) dX0_init_17 rfl ?_
  refine g_aload_n (pc := 20) C dX0_init_20 rfl rfl ?_
  refine g_bipush (pc := 21) C dX0_init_21 (by decide +kernel) ?_
  refine g_newI (pc := 23) (N := 91) C (by decide +kernel) (by decide) (Nat.le_of_ble_eq_true rfl) (Nat.le_of_ble_eq_true rfl) dX0_init_23 (fun q3 => ?_)
  refine g_putF (pc := 25) (ref := "HexRooms$Plan") (ci := 0) (N := 5) (ws' := [(a, .inr (0, [.ref q1, .ref q2, .ref q3, .null, .null])), (q1, aI K 91 (fun _ => 0)), (q2, aI K 91 (fun _ => 0)), (q3, aI K 91 (fun _ => 0))]) C 0 rfl rfl hinX0 tyX0 tyX0_ok nmX0 2 (by decide) (by decide +kernel) rfl rfl hin rfl rfl rfl (Nat.le_of_ble_eq_true rfl) dX0_init_25 rfl ?_
  refine g_aload_n (pc := 28) C dX0_init_28 rfl rfl ?_
  refine g_bipush (pc := 29) C dX0_init_29 (by decide +kernel) ?_
  refine g_newI (pc := 31) (N := 121) C (by decide +kernel) (by decide) (Nat.le_of_ble_eq_true rfl) (Nat.le_of_ble_eq_true rfl) dX0_init_31 (fun q4 => ?_)
  refine g_putF (pc := 33) (ref := "HexRooms$Plan") (ci := 0) (N := 5) (ws' := [(a, .inr (0, [.ref q1, .ref q2, .ref q3, .ref q4, .null])), (q1, aI K 91 (fun _ => 0)), (q2, aI K 91 (fun _ => 0)), (q3, aI K 91 (fun _ => 0)), (q4, aI K 121 (fun _ => 0))]) C 0 rfl rfl hinX0 tyX0 tyX0_ok nmX0 3 (by decide) (by decide +kernel) rfl rfl hin rfl rfl rfl (Nat.le_of_ble_eq_true rfl) dX0_init_33 rfl ?_
  refine g_aload_n (pc := 36) C dX0_init_36 rfl rfl ?_
  refine g_sipush (pc := 37) C dX0_init_37 (by decide +kernel) ?_
  refine g_newI (pc := 40) (N := 546) C (by decide +kernel) (by decide) (Nat.le_of_ble_eq_true rfl) (Nat.le_of_ble_eq_true rfl) dX0_init_40 (fun q5 => ?_)
  refine g_putF (pc := 42) (ref := "HexRooms$Plan") (ci := 0) (N := 5) (ws' := [(a, .inr (0, [.ref q1, .ref q2, .ref q3, .ref q4, .ref q5])), (q1, aI K 91 (fun _ => 0)), (q2, aI K 91 (fun _ => 0)), (q3, aI K 91 (fun _ => 0)), (q4, aI K 121 (fun _ => 0)), (q5, aI K 546 (fun _ => 0))]) C 0 rfl rfl hinX0 tyX0 tyX0_ok nmX0 4 (by decide) (by decide +kernel) rfl rfl hin rfl rfl rfl (Nat.le_of_ble_eq_true rfl) dX0_init_42 rfl ?_
  refine g_aload_n (pc := 45) C dX0_init_45 rfl rfl ?_
  refine g_get (pc := 46) (ref := "HexRooms$Plan") (ci := 0) (N := 5) C 0 rfl rfl hinX0 3 (by decide) (by decide +kernel) rfl rfl dX0_init_46 ?_
  refine g_iconst (pc := 49) C dX0_init_49 ?_
  refine g_callSV (pc := 50) (As := [.ref q4, .int (iI (-1))]) (rest := []) C (c_J7_fill l K (wP K (fun k => [a, q1, q2, q3, q4, q5].getD k 0) Z0) (wP K (fun k => [a, q1, q2, q3, q4, q5].getD k 0) (sA Z0 4 (fF (fun _ => 0) 121 (-1)))) 4 (-1) rfl rfl (by decide)) (va_cwS 2 C.hts gX0_init_J7_fill_53178 rfl rfl rfl (by decide +kernel) ⟨by decide, by decide⟩) dX0_init_50 rfl (Nat.le_of_ble_eq_true rfl) ⟨(Nat.le_of_ble_eq_true rfl), (Nat.le_of_ble_eq_true rfl)⟩ (fun w hp => ?_)
  subst hp
  refine g_aload_n (pc := 53) C dX0_init_53 rfl rfl ?_
  refine g_iconst (pc := 54) C dX0_init_54 ?_
  refine g_iconst (pc := 55) C dX0_init_55 ?_
  refine g_iconst (pc := 56) C dX0_init_56 ?_
  refine g_iconst (pc := 57) C dX0_init_57 ?_
  refine g_callVV (pc := 58) (As := [.int (iI 0), .int (iI 0), .int (iI 0), .int (iI 0)]) (rest := []) C (c_P_placeRoom l K (fun k => [a, q1, q2, q3, q4, q5].getD k 0) (sA Z0 4 (fF (fun _ => 0) 121 (-1))) 0 0 0 0 (PL_0 _ (fun j h0 h1 => if_pos ⟨h0, h1⟩)) (by decide) rfl rfl rfl) (cwV 4 C.hts gX0_init_X0_placeRoom rfl rfl rfl (by decide +kernel) ⟨by decide, by decide⟩) 0 rfl rfl dX0_init_58 rfl (Nat.le_of_ble_eq_true rfl) ⟨(Nat.le_of_ble_eq_true rfl), (Nat.le_of_ble_eq_true rfl)⟩ (fun w hp => ?_)
  obtain ⟨T1, rfl, hT1⟩ := hp
  refine g_iconst (pc := 61) C dX0_init_61 ?_
  refine g_istore_n (pc := 62) (lv' := [(1, .int (iI 1)), (0, .ref a)]) C dX0_init_62 rfl (by decide) rfl ?_
  have loop63 : ∀ (fu : Nat) (T : Nat → Int → Int) (r : Int), (1 ≤ r ∧ r ≤ 6) → PLI T (FR r) → 6 - r < (fu : Int) → hG p l e { frames := 4, cells := 5, slots := 940, locals := 128 } s m args below meth c 2 K A 5 940 (QC K A below args s (fun w => ∃ q : Nat → Nat, q 0 = a ∧ w = wP K q ST0) 5 940) 63 [(1, .int (iI r)), (0, .ref a)] [] (wP K (fun k => [a, q1, q2, q3, q4, q5].getD k 0) T) := by
    intro fu
    induction fu with
    | zero =>
      intro T r h1 hB hm
      exact absurd hm (by omega)
    | succ fu ih =>
      intro T r h1 hB hm
      refine g_iload_n (pc := 63) C dX0_init_63 rfl rfl ?_
      refine g_iconst (pc := 64) C dX0_init_64 ?_
      refine g_icmp_gt (pc := 65) (tgt := 79) C dX0_init_65 (by decide) (by omega) (by omega) (fun c1 => ?_) (fun c1 => ?_)
      · have hB9 : PLI T 91 := by
          rw [show r = 6 by omega, show FR 6 = 91 by decide] at hB
          exact hB
        refine g_aload_n (pc := 79) C dX0_init_79 rfl rfl ?_
        refine g_callVV (pc := 80) (As := []) (rest := []) C (c_P_joinRooms l K (fun k => [a, q1, q2, q3, q4, q5].getD k 0) T hB9) (cwV 0 C.hts gX0_init_X0_joinRooms rfl rfl rfl (by decide +kernel) ⟨by decide, by decide⟩) 0 rfl rfl dX0_init_80 rfl (Nat.le_of_ble_eq_true rfl) ⟨(Nat.le_of_ble_eq_true rfl), (Nat.le_of_ble_eq_true rfl)⟩ (fun w hp => ?_)
        obtain ⟨f, rfl, hf⟩ := hp
        refine g_same (ws' := wP K (fun k => [a, q1, q2, q3, q4, q5].getD k 0) ST0) ⟨Or.inl rfl, Or.inr ⟨_, _, _, _, rfl, rfl, fun j h0 h1 => (hB9.1 j h0 h1).1⟩, Or.inr ⟨_, _, _, _, rfl, rfl, fun j h0 h1 => (hB9.1 j h0 h1).2.1⟩, Or.inr ⟨_, _, _, _, rfl, rfl, fun j h0 h1 => (hB9.1 j h0 h1).2.2⟩, Or.inr ⟨_, _, _, _, rfl, rfl, fun j h0 h1 => (hB9.2 j h0 h1).trans (if_pos (by have := TC_b j; omega))⟩, Or.inr ⟨_, _, _, _, rfl, rfl, fun j h0 h1 => hf j h0 h1⟩, trivial⟩ ?_
        exact g_returnC (pc := 83) C rfl dX0_init_83 ⟨(fun k => [a, q1, q2, q3, q4, q5].getD k 0), rfl, rfl⟩
      · refine g_aload_n (pc := 68) C dX0_init_68 rfl rfl ?_
        refine g_iload_n (pc := 69) C dX0_init_69 rfl rfl ?_
        refine g_callVV (pc := 70) (As := [.int (iI r)]) (rest := []) C (c_P_placeRing l K (fun k => [a, q1, q2, q3, q4, q5].getD k 0) T r hB (by omega)) (cwV 1 C.hts gX0_init_X0_placeRing rfl rfl rfl (by decide +kernel) ⟨by decide, by decide⟩) 0 rfl rfl dX0_init_70 rfl (Nat.le_of_ble_eq_true rfl) ⟨(Nat.le_of_ble_eq_true rfl), (Nat.le_of_ble_eq_true rfl)⟩ (fun w hp => ?_)
        obtain ⟨T2, rfl, hT2⟩ := hp
        refine g_iinc (pc := 73) (lv' := [(1, .int (iI (r + 1))), (0, .ref a)]) C dX0_init_73 rfl (by decide) rfl ?_
        refine g_goto (pc := 76) (tgt := 63) C dX0_init_76 (by decide) ?_
        exact ih T2 (r + 1) (by omega) hT2 (by omega)
  exact loop63 7 T1 1 (by omega) (by rw [show FR 1 = 0 + 1 by decide]; exact hT1) (by omega)
set_option maxHeartbeats 400000 in
set_option maxRecDepth 100000 in
theorem c_X1_init (l : Launch) (K : KK) (a : Nat) : hMC l yX1_init wsX1_init { frames := 5, cells := 14, slots := 2128, locals := 160 } K [.ref a] [(a, .inr (1, [.null, .null, .null, .null, .null, .null, .null, .null, .null, .int (iI 0), .int (iI 0)]))] (fun w => ∃ (q : Nat → Nat) (S : Nat → Int → Int), q 0 = a ∧ w = wX K q S ∧ S 0 9 = 2 ∧ S 0 10 = FR 3 ∧ (∀ j, 0 ≤ j → j < 91 → S 7 j = 0) ∧ (∀ j, 0 ≤ j → j < 546 → S 8 j = 0) ∧ ∀ j, 0 ≤ j → j < 91 → S 9 j = 0) 14 2128 := by
  refine in_MC (cc := cX1_init) (maxL := 1) (rt := none) (lv := [(0, .ref a)]) (by decide) rfl rfl (Nat.le_of_ble_eq_true rfl) rfl ?_
  intro p e s m args below meth c A C hin
  have hinX1 : ∀ w ∈ wsX10, w ∈ wsX1_init := by decide +kernel
  have hinX0 : ∀ w ∈ wsX00, w ∈ wsX1_init := by decide +kernel
  refine g_aload_n (pc := 0) C dX1_init_0 rfl rfl ?_
  refine g_obj (pc := 1) C (by decide +kernel) (by decide +kernel) (by decide +kernel) dX1_init_1 (by decide) (by decide) ?_
  refine g_aload_n (pc := 4) C dX1_init_4 rfl rfl ?_
  refine g_newO (pc := 5) (Cn := RX0) (T := TX0) (N := 5) (ci := 0) (fs := [.null, .null, .null, .null, .null]) C hinX0 tyX0 tyX0_ok (by decide +kernel) (by decide +kernel) (by decide +kernel) rfl (fun j hj => by rcases (show j = 0 ∨ j = 1 ∨ j = 2 ∨ j = 3 ∨ j = 4 by omega) with h | h | h | h | h <;> subst h <;> rfl) (Nat.le_of_ble_eq_true rfl) (Nat.le_of_ble_eq_true rfl) dX1_init_5 (fun q1 => ?_)
  refine g_dup (pc := 8) C dX1_init_8 rfl ?_
  refine g_callIF (pc := 9) (As := []) (rest := [.ref q1, .ref a]) (wc := [(q1, .inr (0, [.null, .null, .null, .null, .null]))]) (wr := [(a, .inr (1, [.null, .null, .null, .null, .null, .null, .null, .null, .null, .int (iI 0), .int (iI 0)]))]) C [1] [0] rfl rfl (by decide) (by decide) (by decide) (c_X0_init l K q1) (cwI 0 C.hts gX1_init_X0_init rfl rfl rfl (C.hts _ (by decide +kernel)) (C.hts _ (by decide +kernel)) (C.hts _ (by decide +kernel)) rfl (by decide +kernel) ⟨by decide, by decide⟩) dX1_init_9 rfl (Nat.le_of_ble_eq_true rfl) ⟨(Nat.le_of_ble_eq_true rfl), (Nat.le_of_ble_eq_true rfl)⟩ (fun w hp => ?_)
  obtain ⟨r, rfl, rfl⟩ := hp
  refine g_putF (pc := 12) (ref := "HexRooms") (ci := 1) (N := 11) (ws' := (a, .inr (1, [.ref (r 0), .null, .null, .null, .null, .null, .null, .null, .null, .int (iI 0), .int (iI 0)])) :: wP K r ST0) C 0 rfl rfl hinX1 tyX1 tyX1_ok nmX1 0 (by decide) (by decide +kernel) rfl rfl hin rfl rfl rfl (Nat.le_of_ble_eq_true rfl) dX1_init_12 rfl ?_
  refine g_aload_n (pc := 15) C dX1_init_15 rfl rfl ?_
  refine g_bipush (pc := 16) C dX1_init_16 (by decide +kernel) ?_
  refine g_newI (pc := 18) (N := 91) C (by decide +kernel) (by decide) (Nat.le_of_ble_eq_true rfl) (Nat.le_of_ble_eq_true rfl) dX1_init_18 (fun q7 => ?_)
  refine g_putF (pc := 20) (ref := "HexRooms") (ci := 1) (N := 11) (ws' := (a, .inr (1, [.ref (r 0), .ref q7, .null, .null, .null, .null, .null, .null, .null, .int (iI 0), .int (iI 0)])) :: (wP K r ST0 ++ [(q7, aI K 91 (fun _ => 0))])) C 0 rfl rfl hinX1 tyX1 tyX1_ok nmX1 1 (by decide) (by decide +kernel) rfl rfl hin rfl rfl rfl (Nat.le_of_ble_eq_true rfl) dX1_init_20 rfl ?_
  refine g_aload_n (pc := 23) C dX1_init_23 rfl rfl ?_
  refine g_sipush (pc := 24) C dX1_init_24 (by decide +kernel) ?_
  refine g_newZ (pc := 27) (N := 546) C (by decide +kernel) (by decide) (Nat.le_of_ble_eq_true rfl) (Nat.le_of_ble_eq_true rfl) dX1_init_27 (fun q8 => ?_)
  refine g_putF (pc := 29) (ref := "HexRooms") (ci := 1) (N := 11) (ws' := (a, .inr (1, [.ref (r 0), .ref q7, .ref q8, .null, .null, .null, .null, .null, .null, .int (iI 0), .int (iI 0)])) :: (wP K r ST0 ++ [(q7, aI K 91 (fun _ => 0)), (q8, aZ K 546 (fun _ => 0))])) C 0 rfl rfl hinX1 tyX1 tyX1_ok nmX1 2 (by decide) (by decide +kernel) rfl rfl hin rfl rfl rfl (Nat.le_of_ble_eq_true rfl) dX1_init_29 rfl ?_
  refine g_aload_n (pc := 32) C dX1_init_32 rfl rfl ?_
  refine g_bipush (pc := 33) C dX1_init_33 (by decide +kernel) ?_
  refine g_newI (pc := 35) (N := 91) C (by decide +kernel) (by decide) (Nat.le_of_ble_eq_true rfl) (Nat.le_of_ble_eq_true rfl) dX1_init_35 (fun q9 => ?_)
  refine g_putF (pc := 37) (ref := "HexRooms") (ci := 1) (N := 11) (ws' := (a, .inr (1, [.ref (r 0), .ref q7, .ref q8, .ref q9, .null, .null, .null, .null, .null, .int (iI 0), .int (iI 0)])) :: (wP K r ST0 ++ [(q7, aI K 91 (fun _ => 0)), (q8, aZ K 546 (fun _ => 0)), (q9, aI K 91 (fun _ => 0))])) C 0 rfl rfl hinX1 tyX1 tyX1_ok nmX1 3 (by decide) (by decide +kernel) rfl rfl hin rfl rfl rfl (Nat.le_of_ble_eq_true rfl) dX1_init_37 rfl ?_
  refine g_aload_n (pc := 40) C dX1_init_40 rfl rfl ?_
  refine g_bipush (pc := 41) C dX1_init_41 (by decide +kernel) ?_
  refine g_newI (pc := 43) (N := 91) C (by decide +kernel) (by decide) (Nat.le_of_ble_eq_true rfl) (Nat.le_of_ble_eq_true rfl) dX1_init_43 (fun q10 => ?_)
  refine g_putF (pc := 45) (ref := "HexRooms") (ci := 1) (N := 11) (ws' := (a, .inr (1, [.ref (r 0), .ref q7, .ref q8, .ref q9, .ref q10, .null, .null, .null, .null, .int (iI 0), .int (iI 0)])) :: (wP K r ST0 ++ [(q7, aI K 91 (fun _ => 0)), (q8, aZ K 546 (fun _ => 0)), (q9, aI K 91 (fun _ => 0)), (q10, aI K 91 (fun _ => 0))])) C 0 rfl rfl hinX1 tyX1 tyX1_ok nmX1 4 (by decide) (by decide +kernel) rfl rfl hin rfl rfl rfl (Nat.le_of_ble_eq_true rfl) dX1_init_45 rfl ?_
  refine g_aload_n (pc := 48) C dX1_init_48 rfl rfl ?_
  refine g_bipush (pc := 49) C dX1_init_49 (by decide +kernel) ?_
  refine g_newI (pc := 51) (N := 91) C (by decide +kernel) (by decide) (Nat.le_of_ble_eq_true rfl) (Nat.le_of_ble_eq_true rfl) dX1_init_51 (fun q11 => ?_)
  refine g_putF (pc := 53) (ref := "HexRooms") (ci := 1) (N := 11) (ws' := (a, .inr (1, [.ref (r 0), .ref q7, .ref q8, .ref q9, .ref q10, .ref q11, .null, .null, .null, .int (iI 0), .int (iI 0)])) :: (wP K r ST0 ++ [(q7, aI K 91 (fun _ => 0)), (q8, aZ K 546 (fun _ => 0)), (q9, aI K 91 (fun _ => 0)), (q10, aI K 91 (fun _ => 0)), (q11, aI K 91 (fun _ => 0))])) C 0 rfl rfl hinX1 tyX1 tyX1_ok nmX1 5 (by decide) (by decide +kernel) rfl rfl hin rfl rfl rfl (Nat.le_of_ble_eq_true rfl) dX1_init_53 rfl ?_
  refine g_aload_n (pc := 56) C dX1_init_56 rfl rfl ?_
  refine g_bipush (pc := 57) C dX1_init_57 (by decide +kernel) ?_
  refine g_newI (pc := 59) (N := 91) C (by decide +kernel) (by decide) (Nat.le_of_ble_eq_true rfl) (Nat.le_of_ble_eq_true rfl) dX1_init_59 (fun q12 => ?_)
  refine g_putF (pc := 61) (ref := "HexRooms") (ci := 1) (N := 11) (ws' := (a, .inr (1, [.ref (r 0), .ref q7, .ref q8, .ref q9, .ref q10, .ref q11, .ref q12, .null, .null, .int (iI 0), .int (iI 0)])) :: (wP K r ST0 ++ [(q7, aI K 91 (fun _ => 0)), (q8, aZ K 546 (fun _ => 0)), (q9, aI K 91 (fun _ => 0)), (q10, aI K 91 (fun _ => 0)), (q11, aI K 91 (fun _ => 0)), (q12, aI K 91 (fun _ => 0))])) C 0 rfl rfl hinX1 tyX1 tyX1_ok nmX1 6 (by decide) (by decide +kernel) rfl rfl hin rfl rfl rfl (Nat.le_of_ble_eq_true rfl) dX1_init_61 rfl ?_
  refine g_aload_n (pc := 64) C dX1_init_64 rfl rfl ?_
  refine g_bipush (pc := 65) C dX1_init_65 (by decide +kernel) ?_
  refine g_newI (pc := 67) (N := 91) C (by decide +kernel) (by decide) (Nat.le_of_ble_eq_true rfl) (Nat.le_of_ble_eq_true rfl) dX1_init_67 (fun q13 => ?_)
  refine g_putF (pc := 69) (ref := "HexRooms") (ci := 1) (N := 11) (ws' := (a, .inr (1, [.ref (r 0), .ref q7, .ref q8, .ref q9, .ref q10, .ref q11, .ref q12, .ref q13, .null, .int (iI 0), .int (iI 0)])) :: (wP K r ST0 ++ [(q7, aI K 91 (fun _ => 0)), (q8, aZ K 546 (fun _ => 0)), (q9, aI K 91 (fun _ => 0)), (q10, aI K 91 (fun _ => 0)), (q11, aI K 91 (fun _ => 0)), (q12, aI K 91 (fun _ => 0)), (q13, aI K 91 (fun _ => 0))])) C 0 rfl rfl hinX1 tyX1 tyX1_ok nmX1 7 (by decide) (by decide +kernel) rfl rfl hin rfl rfl rfl (Nat.le_of_ble_eq_true rfl) dX1_init_69 rfl ?_
  refine g_aload_n (pc := 72) C dX1_init_72 rfl rfl ?_
  refine g_bipush (pc := 73) C dX1_init_73 (by decide +kernel) ?_
  refine g_newI (pc := 75) (N := 91) C (by decide +kernel) (by decide) (Nat.le_of_ble_eq_true rfl) (Nat.le_of_ble_eq_true rfl) dX1_init_75 (fun q14 => ?_)
  refine g_putF (pc := 77) (ref := "HexRooms") (ci := 1) (N := 11) (ws' := (a, .inr (1, [.ref (r 0), .ref q7, .ref q8, .ref q9, .ref q10, .ref q11, .ref q12, .ref q13, .ref q14, .int (iI 0), .int (iI 0)])) :: (wP K r ST0 ++ [(q7, aI K 91 (fun _ => 0)), (q8, aZ K 546 (fun _ => 0)), (q9, aI K 91 (fun _ => 0)), (q10, aI K 91 (fun _ => 0)), (q11, aI K 91 (fun _ => 0)), (q12, aI K 91 (fun _ => 0)), (q13, aI K 91 (fun _ => 0)), (q14, aI K 91 (fun _ => 0))])) C 0 rfl rfl hinX1 tyX1 tyX1_ok nmX1 8 (by decide) (by decide +kernel) rfl rfl hin rfl rfl rfl (Nat.le_of_ble_eq_true rfl) dX1_init_77 rfl ?_
  refine g_aload_n (pc := 80) C dX1_init_80 rfl rfl ?_
  refine g_iconst (pc := 81) C dX1_init_81 ?_
  refine g_callVV (pc := 82) (As := [.int (iI 2)]) (rest := []) C (c_X1_build l K (fun k => [a, r 0, r 1, r 2, r 3, r 4, r 5, q7, q8, q9, q10, q11, q12, q13, q14].getD k 0) Z0 2 (by decide)) (cwV 1 C.hts gX1_init_X1_build rfl rfl rfl (by decide +kernel) ⟨by decide, by decide⟩) 0 rfl rfl dX1_init_82 rfl (Nat.le_of_ble_eq_true rfl) ⟨(Nat.le_of_ble_eq_true rfl), (Nat.le_of_ble_eq_true rfl)⟩ (fun w hp => ?_)
  subst hp
  exact g_returnC (pc := 85) C rfl dX1_init_85 ⟨(fun k => [a, r 0, r 1, r 2, r 3, r 4, r 5, q7, q8, q9, q10, q11, q12, q13, q14].getD k 0), _, rfl, rfl, rfl, rfl, fun j h0 h1 => if_pos ⟨h0, h1⟩, fun j h0 h1 => if_pos ⟨h0, h1⟩, fun j h0 h1 => if_pos ⟨h0, h1⟩⟩
