set_option maxHeartbeats 4000000 in
set_option maxRecDepth 100000 in
theorem c_X1_forgetSteps (l : Launch) (K : KK) (q : Nat → Nat) (S : Nat → Int → Int) : hMV l yX1_forgetSteps wsX1_forgetSteps (rmL 1) K [.ref (q 0)] (wX K q S) (fun w => w = wX K q (sA S 13 (fF (S 13) 91 (-1)))) := by
  refine in_MV (cc := cX1_forgetSteps) (maxL := 1) (rt := none) (lv := [(0, .ref (q 0))]) (by decide) rfl (Nat.le_of_ble_eq_true rfl) rfl ?_
  intro p e s m args below meth c A C
  have hinX1 : ∀ w ∈ wsX10, w ∈ wsX1_forgetSteps := by decide +kernel
  refine g_aload_n (pc := 0) C dX1_forgetSteps_0 rfl rfl ?_
  refine g_get (pc := 1) (ref := "HexRooms") (ci := 1) (N := 11) C 0 rfl rfl hinX1 7 (by decide) (by decide +kernel) rfl rfl dX1_forgetSteps_1 ?_
  refine g_iconst (pc := 4) C dX1_forgetSteps_4 ?_
  refine g_callSV (pc := 5) (As := [.ref (q 13), .int (iI (-1))]) (rest := []) C (c_J7_fill l K (wX K q S) (wX K q (sA S 13 (fF (S 13) 91 (-1)))) 13 (-1) rfl rfl (by decide)) (va_cwS 2 C.hts gX1_forgetSteps_J7_fill_53178 rfl rfl rfl (by decide +kernel) ⟨by decide, by decide⟩) dX1_forgetSteps_5 rfl (Nat.le_of_ble_eq_true rfl) ⟨Nat.zero_le _, Nat.zero_le _⟩ (fun w hp => ?_)
  subst hp
  exact g_return (pc := 8) C rfl dX1_forgetSteps_8 rfl

set_option maxHeartbeats 4000000 in
set_option maxRecDepth 100000 in
theorem c_X1_isTrialAsNow (l : Launch) (K : KK) (q : Nat → Nat) (S : Nat → Int → Int) (hn : 7 ≤ S 0 10 ∧ S 0 10 ≤ 91) (hf : ∀ j, 0 ≤ j → j < S 0 10 → 0 ≤ S 7 j ∧ S 7 j ≤ 2) (hg : ∀ j, 0 ≤ j → j < S 0 10 → 0 ≤ S 10 j ∧ S 10 j ≤ 2) : hMI l yX1_isTrialAsNow wsX1_isTrialAsNow (rmL 0) K [.ref (q 0)] (wX K q S) (fun z w => ((z = 1 ∧ ∀ j, 0 ≤ j → j < S 0 10 → S 10 j = S 7 j) ∨ (z = 0 ∧ ∃ j, 0 ≤ j ∧ j < S 0 10 ∧ ¬ S 10 j = S 7 j)) ∧ w = wX K q S) := by
  refine in_MI (cc := cX1_isTrialAsNow) (maxL := 2) (rt := (some .boolean)) (lv := [(0, .ref (q 0))]) (by decide) rfl (Nat.le_of_ble_eq_true rfl) rfl ?_
  intro p e s m args below meth c A C
  have hinX1 : ∀ w ∈ wsX10, w ∈ wsX1_isTrialAsNow := by decide +kernel
  refine g_iconst (pc := 0) C dX1_isTrialAsNow_0 ?_
  refine g_istore_n (pc := 1) (lv' := [(1, .int (iI 0)), (0, .ref (q 0))]) C dX1_isTrialAsNow_1 rfl (by decide) rfl ?_
  have loop2 : ∀ (fu : Nat) (i : Int), (0 ≤ i ∧ i ≤ S 0 10) → (∀ j, 0 ≤ j → j < i → S 10 j = S 7 j) → S 0 10 - i < (fu : Int) → hG p l e (rmL 0) s m args below meth c 2 K A 0 0 (QI K A below args s (fun z w => ((z = 1 ∧ ∀ j, 0 ≤ j → j < S 0 10 → S 10 j = S 7 j) ∨ (z = 0 ∧ ∃ j, 0 ≤ j ∧ j < S 0 10 ∧ ¬ S 10 j = S 7 j)) ∧ w = wX K q S)) 2 [(1, .int (iI i)), (0, .ref (q 0))] [] (wX K q S) := by
    intro fu
    induction fu with
    | zero =>
      intro i h1 h2 hm
      exact absurd hm (by omega)
    | succ fu ih2 =>
      intro i h1 h2 hm
      refine g_iload_n (pc := 2) C dX1_isTrialAsNow_2 rfl rfl ?_
      refine g_aload_n (pc := 3) C dX1_isTrialAsNow_3 rfl rfl ?_
      refine g_get (pc := 4) (ref := "HexRooms") (ci := 1) (N := 11) C 0 rfl rfl hinX1 10 (by decide) (by decide +kernel) rfl rfl dX1_isTrialAsNow_4 ?_
      refine g_icmp_ge (pc := 7) (tgt := 33) C dX1_isTrialAsNow_7 (by decide) (by omega) (by omega) (fun c1 => ?_) (fun c1 => ?_)
      · refine g_iconst (pc := 33) C dX1_isTrialAsNow_33 ?_
        exact g_zreturn (pc := 34) C rfl (by omega) dX1_isTrialAsNow_34 ⟨Or.inl ⟨rfl, fun j h3 h4 => h2 j h3 (by omega)⟩, rfl⟩
      · refine g_aload_n (pc := 10) C dX1_isTrialAsNow_10 rfl rfl ?_
        refine g_get (pc := 11) (ref := "HexRooms") (ci := 1) (N := 11) C 0 rfl rfl hinX1 4 (by decide) (by decide +kernel) rfl rfl dX1_isTrialAsNow_11 ?_
        refine g_iload_n (pc := 14) C dX1_isTrialAsNow_14 rfl rfl ?_
        refine g_iaload (pc := 15) C 10 rfl (by omega) dX1_isTrialAsNow_15 ?_
        have bd2 := hg i (by omega) (by omega)
        refine g_aload_n (pc := 16) C dX1_isTrialAsNow_16 rfl rfl ?_
        refine g_get (pc := 17) (ref := "HexRooms") (ci := 1) (N := 11) C 0 rfl rfl hinX1 1 (by decide) (by decide +kernel) rfl rfl dX1_isTrialAsNow_17 ?_
        refine g_iload_n (pc := 20) C dX1_isTrialAsNow_20 rfl rfl ?_
        refine g_iaload (pc := 21) C 7 rfl (by omega) dX1_isTrialAsNow_21 ?_
        have bd3 := hf i (by omega) (by omega)
        refine g_icmp_eq (pc := 22) (tgt := 27) C dX1_isTrialAsNow_22 (by decide) (by omega) (by omega) (fun c4 => ?_) (fun c4 => ?_)
        · refine g_iinc (pc := 27) (lv' := [(1, .int (iI (i + 1))), (0, .ref (q 0))]) C dX1_isTrialAsNow_27 rfl (by decide) rfl ?_
          refine g_goto (pc := 30) (tgt := 2) C dX1_isTrialAsNow_30 (by decide) ?_
          exact ih2 (i + 1) (by omega) (fun j h3 h4 => by
            by_cases e : j = i
            · rw [e]; omega
            · exact h2 j h3 (by omega)) (by omega)
        · refine g_iconst (pc := 25) C dX1_isTrialAsNow_25 ?_
          exact g_zreturn (pc := 26) C rfl (by omega) dX1_isTrialAsNow_26 ⟨Or.inr ⟨rfl, i, h1.1, by omega, by omega⟩, rfl⟩
  exact loop2 (92) 0 (by omega) (fun j h0 h1 => by omega) (by omega)

set_option maxHeartbeats 4000000 in
set_option maxRecDepth 100000 in
theorem c_X1_turnRingInto (l : Launch) (K : KK) (q : Nat → Nat) (S : Nat → Int → Int) (k b : Int) (hk : 0 ≤ k ∧ k ≤ 5) (hb : 0 ≤ b ∧ b < 1000) : hMV l yX1_turnRingInto wsX1_turnRingInto (rmL 1) K [.ref (q 0), .int (iI k), .int (iI b), .ref (q 10)] (wX K q S) (fun w => w = wX K q (sA S 10 (rot k b (S 7) (S 10)))) := by
  have hfs := FR_SZ hk
  refine in_MV (cc := cX1_turnRingInto) (maxL := 7) (rt := none) (lv := [(0, .ref (q 0)), (1, .int (iI k)), (2, .int (iI b)), (3, .ref (q 10))]) (by decide) rfl (Nat.le_of_ble_eq_true rfl) rfl ?_
  intro p e s m args below meth c A C
  have hinX1 : ∀ w ∈ wsX10, w ∈ wsX1_turnRingInto := by decide +kernel
  refine g_iload_n (pc := 0) C dX1_turnRingInto_0 rfl rfl ?_
  refine g_callSI (pc := 1) (As := [.int (iI k)]) (rest := []) C (c_X0_firstRoomOf l K _ k (by omega)) (va_cwS 1 C.hts gX1_turnRingInto_X0_firstRoomOf rfl rfl rfl (by decide +kernel) ⟨by decide, by decide⟩) dX1_turnRingInto_1 rfl (Nat.le_of_ble_eq_true rfl) ⟨Nat.zero_le _, Nat.zero_le _⟩ (fun z w hp => ?_)
  obtain ⟨rfl, rfl⟩ := hp
  refine g_istore (pc := 4) (lv' := [(4, .int (iI (FR k))), (0, .ref (q 0)), (1, .int (iI k)), (2, .int (iI b)), (3, .ref (q 10))]) C dX1_turnRingInto_4 (by decide) rfl ?_
  refine g_iload_n (pc := 6) C dX1_turnRingInto_6 rfl rfl ?_
  refine g_callSI (pc := 7) (As := [.int (iI k)]) (rest := []) C (c_X0_sizeOf l K _ k (by omega)) (va_cwS 1 C.hts gX1_turnRingInto_X0_sizeOf rfl rfl rfl (by decide +kernel) ⟨by decide, by decide⟩) dX1_turnRingInto_7 rfl (Nat.le_of_ble_eq_true rfl) ⟨Nat.zero_le _, Nat.zero_le _⟩ (fun z w hp => ?_)
  obtain ⟨rfl, rfl⟩ := hp
  refine g_istore (pc := 10) (lv' := [(5, .int (iI (SZ k))), (4, .int (iI (FR k))), (0, .ref (q 0)), (1, .int (iI k)), (2, .int (iI b)), (3, .ref (q 10))]) C dX1_turnRingInto_10 (by decide) rfl ?_
  refine g_iconst (pc := 12) C dX1_turnRingInto_12 ?_
  refine g_istore (pc := 13) (lv' := [(6, .int (iI 0)), (5, .int (iI (SZ k))), (4, .int (iI (FR k))), (0, .ref (q 0)), (1, .int (iI k)), (2, .int (iI b)), (3, .ref (q 10))]) C dX1_turnRingInto_13 (by decide) rfl ?_
  have loop15 : ∀ (fu : Nat) (i : Int), (0 ≤ i ∧ i ≤ SZ k) → SZ k - i < (fu : Int) → hG p l e (rmL 1) s m args below meth c 7 K A 0 0 (QV K A below args s (fun w => w = wX K q (sA S 10 (rot k b (S 7) (S 10))))) 15 [(6, .int (iI i)), (5, .int (iI (SZ k))), (4, .int (iI (FR k))), (0, .ref (q 0)), (1, .int (iI k)), (2, .int (iI b)), (3, .ref (q 10))] [] (wX K q (sA S 10 (rotP k b (S 7) (S 10) i))) := by
    intro fu
    induction fu with
    | zero =>
      intro i h1 hm
      exact absurd hm (by omega)
    | succ fu ih15 =>
      intro i h1 hm
      refine g_iload (pc := 15) C dX1_turnRingInto_15 rfl ?_
      refine g_iload (pc := 17) C dX1_turnRingInto_17 rfl ?_
      refine g_icmp_ge (pc := 19) (tgt := 50) C dX1_turnRingInto_19 (by decide) (by omega) (by omega) (fun c1 => ?_) (fun c1 => ?_)
      · exact g_return (pc := 50) C rfl dX1_turnRingInto_50 (by rw [show i = SZ k by omega, rotP_n _ _ _ _ hk])
      · refine g_aload_n (pc := 22) C dX1_turnRingInto_22 rfl rfl ?_
        refine g_iload (pc := 23) C dX1_turnRingInto_23 rfl ?_
        refine g_iload (pc := 25) C dX1_turnRingInto_25 rfl ?_
        refine g_iload_n (pc := 27) C dX1_turnRingInto_27 rfl rfl ?_
        refine g_iadd (pc := 28) C dX1_turnRingInto_28 ?_
        refine g_iload (pc := 29) C dX1_turnRingInto_29 rfl ?_
        have hm := rot_m (b := b) hk (i + b)
        refine g_irem (pc := 31) C dX1_turnRingInto_31 (by omega) (by omega) ?_
        refine g_iadd (pc := 32) C dX1_turnRingInto_32 ?_
        refine g_aload_n (pc := 33) C dX1_turnRingInto_33 rfl rfl ?_
        refine g_get (pc := 34) (ref := "HexRooms") (ci := 1) (N := 11) C 0 rfl rfl hinX1 1 (by decide) (by decide +kernel) rfl rfl dX1_turnRingInto_34 ?_
        refine g_iload (pc := 37) C dX1_turnRingInto_37 rfl ?_
        refine g_iload (pc := 39) C dX1_turnRingInto_39 rfl ?_
        refine g_iadd (pc := 41) C dX1_turnRingInto_41 ?_
        refine g_iaload (pc := 42) C 7 rfl (by omega) dX1_turnRingInto_42 ?_
        refine g_iastore (pc := 43) (ws' := (wX K q (sA S 10 (fU (rotP k b (S 7) (S 10) i) ((FR k) + ((i + b) % (SZ k))) ((S 7) ((FR k) + i)))))) C 10 rfl (by omega) dX1_turnRingInto_43 rfl ?_
        rw [rotP_s (S 7) (S 10) hk (by omega)]
        refine g_iinc (pc := 44) (lv' := [(6, .int (iI (i + 1))), (5, .int (iI (SZ k))), (4, .int (iI (FR k))), (0, .ref (q 0)), (1, .int (iI k)), (2, .int (iI b)), (3, .ref (q 10))]) C dX1_turnRingInto_44 rfl (by decide) rfl ?_
        refine g_goto (pc := 47) (tgt := 15) C dX1_turnRingInto_47 (by decide) ?_
        exact ih15 (i + 1) (by omega) (by omega)
  have h0 := loop15 (31) 0 (by omega) (by omega)
  rw [rotP_0 k b (S 7) (S 10) hk, sA_self] at h0
  exact h0
