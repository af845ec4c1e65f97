set_option maxHeartbeats 400000 in
set_option maxRecDepth 100000 in
theorem c_X2_setRings (l : Launch) (K : KK) (q : Nat → Nat) (S : Nat → Int → Int) (r : Int) (gr : -2147483648 ≤ r ∧ r < 2147483648) : hMI l yX2_setRings wsX2_setRings (rmL 8) K [.ref (q 0), .int (iI r)] (wM K q S) (fun z w => ((1 ≤ r ∧ r ≤ 5) ∧ z = FR (r + 1) ∧ ∃ S2, w = wM K q S2 ∧ BMI r 0 S2 (FR (r + 1))) ∨ (¬ (1 ≤ r ∧ r ≤ 5) ∧ z = 0 ∧ ∃ S2, w = wM K q S2 ∧ UM S S2 (S 4) (S 6) 1)) := by
  refine in_MI (cc := cX2_setRings) (maxL := 2) (rt := (some .int)) (lv := [(0, .ref (q 0)), (1, .int (iI r))]) (by decide) rfl (Nat.le_of_ble_eq_true rfl) rfl ?_
  intro p e s m args below meth c A C
  have hinX2 : ∀ w ∈ wsX20, w ∈ wsX2_setRings := by decide +kernel
  refine g_aload_n (pc := 0) C dX2_setRings_0 rfl rfl ?_
  refine g_iconst (pc := 1) C dX2_setRings_1 ?_
  refine g_put (pc := 2) (ref := "HexRoomsModel") (ci := 2) (N := 13) (ws' := (wM K q (sA S 0 (fU (S 0) 0 0)))) C 0 rfl rfl hinX2 tyX2 tyX2_ok nmX2 0 (by decide) (by decide +kernel) rfl rfl rfl (Nat.le_of_ble_eq_true rfl) dX2_setRings_2 rfl ?_
  refine g_iload_n (pc := 5) C dX2_setRings_5 rfl rfl ?_
  refine g_iconst (pc := 6) C dX2_setRings_6 ?_
  refine g_iconst (pc := 7) C dX2_setRings_7 ?_
  refine g_callSI (pc := 8) (As := [.int (iI r), .int (iI 1), .int (iI 5)]) (rest := []) C (c_X2_isIn l K _ r 1 5 (by omega) (by omega)) (cwS 3 C.hts gX2_setRings_X2_isIn rfl rfl rfl (by decide +kernel) ⟨by decide, by decide⟩) dX2_setRings_8 rfl (Nat.le_of_ble_eq_true rfl) ⟨Nat.zero_le _, Nat.zero_le _⟩ (fun iz8 w hp => ?_)
  obtain ⟨hz8, rfl⟩ := hp
  have hz8 : (iz8 = 1 ∧ (1 ≤ r ∧ r ≤ 5)) ∨ (iz8 = 0 ∧ ¬ (1 ≤ r ∧ r ≤ 5)) := hz8
  refine g_if_ne (pc := 11) (tgt := 20) C dX2_setRings_11 (by decide) (by omega) (fun c1 => ?_) (fun c1 => ?_)
  · refine g_aload_n (pc := 20) C dX2_setRings_20 rfl rfl ?_
    refine g_iload_n (pc := 21) C dX2_setRings_21 rfl rfl ?_
    refine g_callVV (pc := 22) (As := [.int (iI r)]) (rest := []) C (c_X2_build l K q (sA S 0 (fU (S 0) 0 0)) r (by omega)) (cwV 1 C.hts gX2_setRings_X2_build rfl rfl rfl (by decide +kernel) ⟨by decide, by decide⟩) 0 rfl rfl dX2_setRings_22 rfl (Nat.le_of_ble_eq_true rfl) ⟨Nat.zero_le _, Nat.zero_le _⟩ (fun w hp => ?_)
    obtain ⟨T22, rfl, hT22⟩ := hp
    refine g_aload_n (pc := 25) C dX2_setRings_25 rfl rfl ?_
    refine g_get (pc := 26) (ref := "HexRoomsModel") (ci := 2) (N := 13) C 0 rfl rfl hinX2 2 (by decide) (by decide +kernel) rfl rfl dX2_setRings_26 ?_
    exact g_ireturn (pc := 29) C rfl dX2_setRings_29 (Or.inl ⟨by omega, hT22.2.2.1, T22, rfl, hT22⟩)
  · refine g_aload_n (pc := 14) C dX2_setRings_14 rfl rfl ?_
    refine g_iconst (pc := 15) C dX2_setRings_15 ?_
    refine g_callVI (pc := 16) (As := [.int (iI 1)]) (rest := []) C (c_X2_fail l K q (sA S 0 (fU (S 0) 0 0)) 1) (cwV 1 C.hts gX2_setRings_X2_fail rfl rfl rfl (by decide +kernel) ⟨by decide, by decide⟩) 0 rfl rfl dX2_setRings_16 rfl (Nat.le_of_ble_eq_true rfl) ⟨Nat.zero_le _, Nat.zero_le _⟩ (fun z w hp => ?_)
    obtain ⟨rfl, rfl⟩ := hp
    exact g_ireturn (pc := 19) C rfl dX2_setRings_19 (Or.inr ⟨by omega, rfl, _, rfl, (by first | rfl | exact fU_fU _ _ _ _), rfl, rfl, rfl, rfl, rfl, rfl⟩)
