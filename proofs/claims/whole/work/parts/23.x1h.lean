set_option maxHeartbeats 400000 in
set_option maxRecDepth 100000 in
theorem c_X1_side (l : Launch) (K : KK) (q : Nat → Nat) (S : Nat → Int → Int) (H : HS S) (Lk : LK S) (a b : Int) (ha : 0 ≤ a ∧ a < S 0 10) (hb : 0 ≤ b ∧ b < S 0 10) : hMI l yX1_side wsX1_side (rmL 6) K [.ref (q 0), .int (iI a), .int (iI b)] (wX K q S) (fun z w => (SDc (S 0 10) (S 7) (S 8) a b z) ∧ ∃ S2, w = wX K q S2 ∧ UP S S2 (S 7) (S 8)) := by
  have hn := H.n
  have hf := H.hf
  have hh := H.hh
  have hk9 := H.1
  have hL := Lk.b hn
  refine in_MI (cc := cX1_side) (maxL := 8) (rt := (some .int)) (lv := [(0, .ref (q 0)), (1, .int (iI a)), (2, .int (iI b))]) (by decide) rfl (Nat.le_of_ble_eq_true rfl) rfl ?_
  intro p e s m args below meth c A C
  have hinX1 : ∀ w ∈ wsX10, w ∈ wsX1_side := by decide +kernel
  refine g_aload_n (pc := 0) C dX1_side_0 rfl rfl ?_
  refine g_iload_n (pc := 1) C dX1_side_1 rfl rfl ?_
  refine g_callVV (pc := 2) (As := [.int (iI a)]) (rest := []) C (c_X1_needRoom_ok l K q S hn a (by omega)) (cwV 1 C.hts gX1_side_X1_needRoom rfl rfl rfl (by decide +kernel) ⟨by decide, by decide⟩) 0 rfl rfl dX1_side_2 rfl (Nat.le_of_ble_eq_true rfl) ⟨Nat.zero_le _, Nat.zero_le _⟩ (fun w hp => ?_)
  subst hp
  refine g_aload_n (pc := 5) C dX1_side_5 rfl rfl ?_
  refine g_iload_n (pc := 6) C dX1_side_6 rfl rfl ?_
  refine g_callVV (pc := 7) (As := [.int (iI b)]) (rest := []) C (c_X1_needRoom_ok l K q S hn b (by omega)) (cwV 1 C.hts gX1_side_X1_needRoom rfl rfl rfl (by decide +kernel) ⟨by decide, by decide⟩) 0 rfl rfl dX1_side_7 rfl (Nat.le_of_ble_eq_true rfl) ⟨Nat.zero_le _, Nat.zero_le _⟩ (fun w hp => ?_)
  subst hp
  refine g_iload_n (pc := 10) C dX1_side_10 rfl rfl ?_
  refine g_iload_n (pc := 11) C dX1_side_11 rfl rfl ?_
  refine g_icmp_ne (pc := 12) (tgt := 17) C dX1_side_12 (by decide) (by omega) (by omega) (fun c1 => ?_) (fun c1 => ?_)
  · refine g_iconst (pc := 17) C dX1_side_17 ?_
    refine g_istore_n (pc := 18) (lv' := [(3, .int (iI (-1))), (0, .ref (q 0)), (1, .int (iI a)), (2, .int (iI b))]) C dX1_side_18 rfl (by decide) rfl ?_
    refine g_bipush (pc := 19) C dX1_side_19 (by decide +kernel) ?_
    refine g_istore (pc := 21) (lv' := [(4, .int (iI 91)), (3, .int (iI (-1))), (0, .ref (q 0)), (1, .int (iI a)), (2, .int (iI b))]) C dX1_side_21 (by decide) rfl ?_
    refine g_iconst (pc := 23) C dX1_side_23 ?_
    refine g_istore (pc := 24) (lv' := [(5, .int (iI 0)), (4, .int (iI 91)), (3, .int (iI (-1))), (0, .ref (q 0)), (1, .int (iI a)), (2, .int (iI b))]) C dX1_side_24 (by decide) rfl ?_
    have loop26 : ∀ (fu : Nat) (D : Int → Int) (u : Int → Int) (ch : Int) (fw : Int) (t : Int), (0 ≤ t ∧ t ≤ 6) → (SDI (S 0 10) (S 7) (S 8) a b t ch fw) → 6 - t < (fu : Int) → hG p l e (rmL 6) s m args below meth c 8 K A 0 0 (QI K A below args s (fun z w => (SDc (S 0 10) (S 7) (S 8) a b z) ∧ ∃ S2, w = wX K q S2 ∧ UP S S2 (S 7) (S 8))) 26 [(5, .int (iI t)), (4, .int (iI fw)), (3, .int (iI ch)), (0, .ref (q 0)), (1, .int (iI a)), (2, .int (iI b))] [] (wX K q (sA (sA S 13 D) 14 u)) := by
      intro fu
      induction fu with
      | zero =>
        intro D u ch fw t h1 h2 hm
        exact absurd hm (by omega)
      | succ fu ih26 =>
        intro D u ch fw t h1 h2 hm
        have hfw := SDI_fw h2
        refine g_iload (pc := 26) C dX1_side_26 rfl ?_
        refine g_bipush (pc := 28) C dX1_side_28 (by decide +kernel) ?_
        refine g_icmp_ge (pc := 30) (tgt := 91) C dX1_side_30 (by decide) (by omega) (by omega) (fun c2 => ?_) (fun c2 => ?_)
        · refine g_iload_n (pc := 91) C dX1_side_91 rfl rfl ?_
          exact g_ireturn (pc := 92) C rfl dX1_side_92 ⟨SDI_end h2 (by omega) (by omega), ⟨_, rfl, rfl, rfl, rfl, Lk⟩⟩
        · refine g_aload_n (pc := 33) C dX1_side_33 rfl rfl ?_
          refine g_aload_n (pc := 34) C dX1_side_34 rfl rfl ?_
          refine g_get (pc := 35) (ref := "HexRooms") (ci := 1) (N := 11) C 0 rfl rfl hinX1 1 (by decide) (by decide +kernel) rfl rfl dX1_side_35 ?_
          refine g_iload_n (pc := 38) C dX1_side_38 rfl rfl ?_
          refine g_iload (pc := 39) C dX1_side_39 rfl ?_
          refine g_callVI (pc := 41) (As := [.ref (q 7), .int (iI a), .int (iI t)]) (rest := []) C (c_X1_onward_7 l K q (sA (sA S 13 D) 14 u) hn hf hh a t (by omega) (by omega)) (cwV 3 C.hts gX1_side_X1_onward rfl rfl rfl (by decide +kernel) ⟨by decide, by decide⟩) 0 rfl rfl dX1_side_41 rfl (Nat.le_of_ble_eq_true rfl) ⟨Nat.zero_le _, Nat.zero_le _⟩ (fun z w hp => ?_)
          obtain ⟨hz, rfl⟩ := hp
          have hz : z = ON (S 0 10) (S 7) (S 8) a t := hz
          subst hz
          have hb := ON_b (S 0 10) (S 7) (S 8) a t
          obtain ⟨y, hy⟩ : ∃ y, y = ON (S 0 10) (S 7) (S 8) a t := ⟨_, rfl⟩
          rw [← hy] at hb ⊢
          refine g_istore (pc := 44) (lv' := [(6, .int (iI y)), (5, .int (iI t)), (4, .int (iI fw)), (3, .int (iI ch)), (0, .ref (q 0)), (1, .int (iI a)), (2, .int (iI b))]) C dX1_side_44 (by decide) rfl ?_
          refine g_iload (pc := 46) C dX1_side_46 rfl ?_
          refine g_iconst (pc := 48) C dX1_side_48 ?_
          refine g_icmp_ne (pc := 49) (tgt := 56) C dX1_side_49 (by decide) (by omega) (by omega) (fun c3 => ?_) (fun c3 => ?_)
          · refine g_aload_n (pc := 56) C dX1_side_56 rfl rfl ?_
            refine g_iload (pc := 57) C dX1_side_57 rfl ?_
            refine g_iload_n (pc := 59) C dX1_side_59 rfl rfl ?_
            refine g_callVI (pc := 60) (As := [.int (iI y), .int (iI b)]) (rest := []) C (c_X1_stepsBetween l K q (sA (sA S 13 D) 14 u) hn hf hh y b (show 0 ≤ y ∧ y < S 0 10 by omega) (show 0 ≤ b ∧ b < S 0 10 by omega)) (cwV 2 C.hts gX1_side_X1_stepsBetween rfl rfl rfl (by decide +kernel) ⟨by decide, by decide⟩) 0 rfl rfl dX1_side_60 rfl (Nat.le_of_ble_eq_true rfl) ⟨Nat.zero_le _, Nat.zero_le _⟩ (fun dz w hp => ?_)
            obtain ⟨hdz, D1, u1, rfl⟩ := hp
            have hdz : dR (S 0 10) (S 7) (S 8) y b dz := hdz
            have hdb := dR_b hdz
            refine g_istore (pc := 63) (lv' := [(7, .int (iI dz)), (6, .int (iI y)), (5, .int (iI t)), (4, .int (iI fw)), (3, .int (iI ch)), (0, .ref (q 0)), (1, .int (iI a)), (2, .int (iI b))]) C dX1_side_63 (by decide) rfl ?_
            refine g_iload (pc := 65) C dX1_side_65 rfl ?_
            refine g_iconst (pc := 67) C dX1_side_67 ?_
            refine g_icmp_eq (pc := 68) (tgt := 85) C dX1_side_68 (by decide) (by omega) (by omega) (fun c4 => ?_) (fun c4 => ?_)
            · refine g_iinc (pc := 85) (lv' := [(5, .int (iI (t + 1))), (7, .int (iI dz)), (6, .int (iI y)), (4, .int (iI fw)), (3, .int (iI ch)), (0, .ref (q 0)), (1, .int (iI a)), (2, .int (iI b))]) C dX1_side_85 rfl (by decide) rfl ?_
              refine g_goto (pc := 88) (tgt := 26) C dX1_side_88 (by decide) ?_
              refine g_sub (lv' := [(5, .int (iI (t + 1))), (4, .int (iI fw)), (3, .int (iI ch)), (0, .ref (q 0)), (1, .int (iI a)), (2, .int (iI b))]) [0, 3, 4, 5, 6, 7] rfl ?_
              exact ih26 D1 u1 ch fw (t + 1) (by omega) (by
                by_cases g : dz = -1
                · refine SDI_none h2 (Or.inr ?_)
                  rw [g] at hdz
                  rw [← hy]
                  exact hdz
                · exact SDI_keep h2 (d := dz) (by rw [← hy]; exact hdz) (by omega)) (by omega)
            · refine g_iload (pc := 71) C dX1_side_71 rfl ?_
              refine g_iload (pc := 73) C dX1_side_73 rfl ?_
              refine g_icmp_ge (pc := 75) (tgt := 85) C dX1_side_75 (by decide) (by omega) (by omega) (fun c5 => ?_) (fun c5 => ?_)
              · refine g_iinc (pc := 85) (lv' := [(5, .int (iI (t + 1))), (7, .int (iI dz)), (6, .int (iI y)), (4, .int (iI fw)), (3, .int (iI ch)), (0, .ref (q 0)), (1, .int (iI a)), (2, .int (iI b))]) C dX1_side_85 rfl (by decide) rfl ?_
                refine g_goto (pc := 88) (tgt := 26) C dX1_side_88 (by decide) ?_
                refine g_sub (lv' := [(5, .int (iI (t + 1))), (4, .int (iI fw)), (3, .int (iI ch)), (0, .ref (q 0)), (1, .int (iI a)), (2, .int (iI b))]) [0, 3, 4, 5, 6, 7] rfl ?_
                exact ih26 D1 u1 ch fw (t + 1) (by omega) (by
                  by_cases g : dz = -1
                  · refine SDI_none h2 (Or.inr ?_)
                    rw [g] at hdz
                    rw [← hy]
                    exact hdz
                  · exact SDI_keep h2 (d := dz) (by rw [← hy]; exact hdz) (by omega)) (by omega)
              · refine g_iload (pc := 78) C dX1_side_78 rfl ?_
                refine g_istore (pc := 80) (lv' := [(4, .int (iI dz)), (7, .int (iI dz)), (6, .int (iI y)), (5, .int (iI t)), (3, .int (iI ch)), (0, .ref (q 0)), (1, .int (iI a)), (2, .int (iI b))]) C dX1_side_80 (by decide) rfl ?_
                refine g_iload (pc := 82) C dX1_side_82 rfl ?_
                refine g_istore_n (pc := 84) (lv' := [(3, .int (iI t)), (4, .int (iI dz)), (7, .int (iI dz)), (6, .int (iI y)), (5, .int (iI t)), (0, .ref (q 0)), (1, .int (iI a)), (2, .int (iI b))]) C dX1_side_84 rfl (by decide) rfl ?_
                refine g_iinc (pc := 85) (lv' := [(5, .int (iI (t + 1))), (3, .int (iI t)), (4, .int (iI dz)), (7, .int (iI dz)), (6, .int (iI y)), (0, .ref (q 0)), (1, .int (iI a)), (2, .int (iI b))]) C dX1_side_85 rfl (by decide) rfl ?_
                refine g_goto (pc := 88) (tgt := 26) C dX1_side_88 (by decide) ?_
                refine g_sub (lv' := [(5, .int (iI (t + 1))), (4, .int (iI dz)), (3, .int (iI t)), (0, .ref (q 0)), (1, .int (iI a)), (2, .int (iI b))]) [0, 2, 1, 5, 6, 7] rfl ?_
                exact ih26 D1 u1 t dz (t + 1) (by omega) (SDI_new h2 h1.1 (by rw [← hy]; omega) (by rw [← hy]; exact hdz) (by omega) (by omega)) (by omega)
          · refine g_iconst (pc := 52) C dX1_side_52 ?_
            refine g_goto (pc := 53) (tgt := 63) C dX1_side_53 (by decide) ?_
            refine g_istore (pc := 63) (lv' := [(7, .int (iI (-1))), (6, .int (iI y)), (5, .int (iI t)), (4, .int (iI fw)), (3, .int (iI ch)), (0, .ref (q 0)), (1, .int (iI a)), (2, .int (iI b))]) C dX1_side_63 (by decide) rfl ?_
            refine g_iload (pc := 65) C dX1_side_65 rfl ?_
            refine g_iconst (pc := 67) C dX1_side_67 ?_
            refine g_icmp_eq (pc := 68) (tgt := 85) C dX1_side_68 (by decide) (by omega) (by omega) (fun c6 => ?_) (fun c6 => ?_)
            · refine g_iinc (pc := 85) (lv' := [(5, .int (iI (t + 1))), (7, .int (iI (-1))), (6, .int (iI y)), (4, .int (iI fw)), (3, .int (iI ch)), (0, .ref (q 0)), (1, .int (iI a)), (2, .int (iI b))]) C dX1_side_85 rfl (by decide) rfl ?_
              refine g_goto (pc := 88) (tgt := 26) C dX1_side_88 (by decide) ?_
              refine g_sub (lv' := [(5, .int (iI (t + 1))), (4, .int (iI fw)), (3, .int (iI ch)), (0, .ref (q 0)), (1, .int (iI a)), (2, .int (iI b))]) [0, 3, 4, 5, 6, 7] rfl ?_
              exact ih26 D u ch fw (t + 1) (by omega) (SDI_none h2 (Or.inl (by omega))) (by omega)
            · exact absurd rfl c6
    exact loop26 (7) (S 13) (S 14) (-1) 91 0 (by omega) (SDI_0 _ _ _ _ _) (by omega)
  · refine g_iconst (pc := 15) C dX1_side_15 ?_
    exact g_ireturn (pc := 16) C rfl dX1_side_16 ⟨Or.inl ⟨by omega, rfl⟩, ⟨_, rfl, rfl, rfl, rfl, Lk⟩⟩

set_option maxHeartbeats 400000 in
set_option maxRecDepth 100000 in
theorem c_X1_reach (l : Launch) (K : KK) (q : Nat → Nat) (S : Nat → Int → Int) (H : HS S) (Lk : LK S) (a t : Int) (ha : 0 ≤ a ∧ a < S 0 10) (ht : 0 ≤ t ∧ t ≤ 99) : hMI l yX1_reach wsX1_reach (rmL 6) K [.ref (q 0), .int (iI a), .int (iI t)] (wX K q S) (fun z w => (∃ D : Int → Int, (∀ j, 0 ≤ j → j < S 0 10 → dR (S 0 10) (S 7) (S 8) a j (D j)) ∧ z = sm (fun j => if ¬ D j = -1 ∧ D j ≤ t then 1 else 0) 0 (S 0 10)) ∧ ∃ S2, w = wX K q S2 ∧ UP S S2 (S 7) (S 8)) := by
  have hn := H.n
  have hf := H.hf
  have hh := H.hh
  have hk9 := H.1
  have hL := Lk.b hn
  refine in_MI (cc := cX1_reach) (maxL := 5) (rt := (some .int)) (lv := [(0, .ref (q 0)), (1, .int (iI a)), (2, .int (iI t))]) (by decide) rfl (Nat.le_of_ble_eq_true rfl) rfl ?_
  intro p e s m args below meth c A C
  have hinX1 : ∀ w ∈ wsX10, w ∈ wsX1_reach := by decide +kernel
  refine g_aload_n (pc := 0) C dX1_reach_0 rfl rfl ?_
  refine g_iload_n (pc := 1) C dX1_reach_1 rfl rfl ?_
  refine g_callVV (pc := 2) (As := [.int (iI a)]) (rest := []) C (c_X1_needRoom_ok l K q S hn a (by omega)) (cwV 1 C.hts gX1_reach_X1_needRoom rfl rfl rfl (by decide +kernel) ⟨by decide, by decide⟩) 0 rfl rfl dX1_reach_2 rfl (Nat.le_of_ble_eq_true rfl) ⟨Nat.zero_le _, Nat.zero_le _⟩ (fun w hp => ?_)
  subst hp
  refine g_iload_n (pc := 5) C dX1_reach_5 rfl rfl ?_
  refine g_iconst (pc := 6) C dX1_reach_6 ?_
  refine g_bipush (pc := 7) C dX1_reach_7 (by decide +kernel) ?_
  refine g_callSV (pc := 9) (As := [.int (iI t), .int (iI 0), .int (iI 99)]) (rest := []) C (c_X1_needNumber_ok l K _ t 0 99 (by omega)) (cwS 3 C.hts gX1_reach_X1_needNumber rfl rfl rfl (by decide +kernel) ⟨by decide, by decide⟩) dX1_reach_9 rfl (Nat.le_of_ble_eq_true rfl) ⟨Nat.zero_le _, Nat.zero_le _⟩ (fun w hp => ?_)
  subst hp
  refine g_aload_n (pc := 12) C dX1_reach_12 rfl rfl ?_
  refine g_callVV (pc := 13) (As := []) (rest := []) C (c_X1_forgetSteps l K q S) (cwV 0 C.hts gX1_reach_X1_forgetSteps rfl rfl rfl (by decide +kernel) ⟨by decide, by decide⟩) 0 rfl rfl dX1_reach_13 rfl (Nat.le_of_ble_eq_true rfl) ⟨Nat.zero_le _, Nat.zero_le _⟩ (fun w hp => ?_)
  subst hp
  refine g_aload_n (pc := 16) C dX1_reach_16 rfl rfl ?_
  refine g_iload_n (pc := 17) C dX1_reach_17 rfl rfl ?_
  refine g_callVV (pc := 18) (As := [.int (iI a)]) (rest := []) C (c_X1_spreadFrom l K q (sA S 13 (fF (S 13) 91 (-1))) hn hf hh (fun j h0 h1 => fFm (S 13) ⟨h0, Int.lt_of_lt_of_le h1 hn.2⟩) a (show 0 ≤ a ∧ a < S 0 10 by omega) (if_pos (by omega))) (cwV 1 C.hts gX1_reach_X1_spreadFrom rfl rfl rfl (by decide +kernel) ⟨by decide, by decide⟩) 0 rfl rfl dX1_reach_18 rfl (Nat.le_of_ble_eq_true rfl) ⟨Nat.zero_le _, Nat.zero_le _⟩ (fun w hp => ?_)
  obtain ⟨D1, u1, e1, rfl, hB⟩ := hp
  have hB : BI (S 0 10) (S 7) (S 8) a (fF (S 13) 91 (-1)) D1 u1 e1 e1 := hB
  have hD : ∀ j, 0 ≤ j → j < S 0 10 → dR (S 0 10) (S 7) (S 8) a j (D1 j) := fun j h0 h1 => BI_dR hB (by omega) (fun j h0 h1 => if_pos (by omega)) ha ⟨h0, h1⟩
  refine g_iconst (pc := 21) C dX1_reach_21 ?_
  refine g_istore_n (pc := 22) (lv' := [(3, .int (iI 0)), (0, .ref (q 0)), (1, .int (iI a)), (2, .int (iI t))]) C dX1_reach_22 rfl (by decide) rfl ?_
  refine g_iconst (pc := 23) C dX1_reach_23 ?_
  refine g_istore (pc := 24) (lv' := [(4, .int (iI 0)), (3, .int (iI 0)), (0, .ref (q 0)), (1, .int (iI a)), (2, .int (iI t))]) C dX1_reach_24 (by decide) rfl ?_
  have loop26 : ∀ (fu : Nat) (acc : Int) (i : Int), (0 ≤ i ∧ i ≤ S 0 10) → (acc = sm (fun j => if ¬ D1 j = -1 ∧ D1 j ≤ t then 1 else 0) 0 i) → S 0 10 - i < (fu : Int) → hG p l e (rmL 6) s m args below meth c 5 K A 0 0 (QI K A below args s (fun z w => (∃ D : Int → Int, (∀ j, 0 ≤ j → j < S 0 10 → dR (S 0 10) (S 7) (S 8) a j (D j)) ∧ z = sm (fun j => if ¬ D j = -1 ∧ D j ≤ t then 1 else 0) 0 (S 0 10)) ∧ ∃ S2, w = wX K q S2 ∧ UP S S2 (S 7) (S 8))) 26 [(4, .int (iI i)), (3, .int (iI acc)), (0, .ref (q 0)), (1, .int (iI a)), (2, .int (iI t))] [] (wX K q (sA (sA S 13 D1) 14 u1)) := by
    intro fu
    induction fu with
    | zero =>
      intro acc i h1 h2 hm
      exact absurd hm (by omega)
    | succ fu ih26 =>
      intro acc i h1 h2 hm
      refine g_iload (pc := 26) C dX1_reach_26 rfl ?_
      refine g_aload_n (pc := 28) C dX1_reach_28 rfl rfl ?_
      refine g_get (pc := 29) (v := .int (iI ((S 0) 10))) (ref := "HexRooms") (ci := 1) (N := 11) C 0 rfl rfl hinX1 10 (by decide) (by decide +kernel) rfl rfl dX1_reach_29 ?_
      refine g_icmp_ge (pc := 32) (tgt := 66) C dX1_reach_32 (by decide) (by omega) (by omega) (fun c1 => ?_) (fun c1 => ?_)
      · refine g_iload_n (pc := 66) C dX1_reach_66 rfl rfl ?_
        exact g_ireturn (pc := 67) C rfl dX1_reach_67 ⟨⟨D1, hD, by rw [h2, show i = S 0 10 by omega]⟩, ⟨_, rfl, rfl, rfl, rfl, Lk⟩⟩
      · refine g_aload_n (pc := 35) C dX1_reach_35 rfl rfl ?_
        refine g_get (pc := 36) (ref := "HexRooms") (ci := 1) (N := 11) C 0 rfl rfl hinX1 7 (by decide) (by decide +kernel) rfl rfl dX1_reach_36 ?_
        refine g_iload (pc := 39) C dX1_reach_39 rfl ?_
        refine g_iaload (pc := 41) (f := D1) C 13 rfl (by omega) dX1_reach_41 ?_
        have bd2 := dR_b (hD i (by omega) (by omega))
        refine g_iconst (pc := 42) C dX1_reach_42 ?_
        refine g_icmp_eq (pc := 43) (tgt := 60) C dX1_reach_43 (by decide) (by omega) (by omega) (fun c3 => ?_) (fun c3 => ?_)
        · refine g_iinc (pc := 60) (lv' := [(4, .int (iI (i + 1))), (3, .int (iI acc)), (0, .ref (q 0)), (1, .int (iI a)), (2, .int (iI t))]) C dX1_reach_60 rfl (by decide) rfl ?_
          refine g_goto (pc := 63) (tgt := 26) C dX1_reach_63 (by decide) ?_
          exact ih26 acc (i + 1) (by omega) (by rw [sm_s _ h1.1, ← h2]; split <;> omega) (by omega)
        · refine g_aload_n (pc := 46) C dX1_reach_46 rfl rfl ?_
          refine g_get (pc := 47) (ref := "HexRooms") (ci := 1) (N := 11) C 0 rfl rfl hinX1 7 (by decide) (by decide +kernel) rfl rfl dX1_reach_47 ?_
          refine g_iload (pc := 50) C dX1_reach_50 rfl ?_
          refine g_iaload (pc := 52) (f := D1) C 13 rfl (by omega) dX1_reach_52 ?_
          have bd4 := dR_b (hD i (by omega) (by omega))
          refine g_iload_n (pc := 53) C dX1_reach_53 rfl rfl ?_
          refine g_icmp_gt (pc := 54) (tgt := 60) C dX1_reach_54 (by decide) (by omega) (by omega) (fun c5 => ?_) (fun c5 => ?_)
          · refine g_iinc (pc := 60) (lv' := [(4, .int (iI (i + 1))), (3, .int (iI acc)), (0, .ref (q 0)), (1, .int (iI a)), (2, .int (iI t))]) C dX1_reach_60 rfl (by decide) rfl ?_
            refine g_goto (pc := 63) (tgt := 26) C dX1_reach_63 (by decide) ?_
            exact ih26 acc (i + 1) (by omega) (by rw [sm_s _ h1.1, ← h2]; split <;> omega) (by omega)
          · refine g_iinc (pc := 57) (lv' := [(3, .int (iI (acc + 1))), (4, .int (iI i)), (0, .ref (q 0)), (1, .int (iI a)), (2, .int (iI t))]) C dX1_reach_57 rfl (by decide) rfl ?_
            refine g_iinc (pc := 60) (lv' := [(4, .int (iI (i + 1))), (3, .int (iI (acc + 1))), (0, .ref (q 0)), (1, .int (iI a)), (2, .int (iI t))]) C dX1_reach_60 rfl (by decide) rfl ?_
            refine g_goto (pc := 63) (tgt := 26) C dX1_reach_63 (by decide) ?_
            exact ih26 (acc + 1) (i + 1) (by omega) (by rw [sm_s _ h1.1, ← h2]; split <;> omega) (by omega)
  exact loop26 (92) 0 0 (by omega) (by rw [sm_0]) (by omega)

set_option maxHeartbeats 400000 in
set_option maxRecDepth 100000 in
theorem c_X1_ring (l : Launch) (K : KK) (q : Nat → Nat) (S : Nat → Int → Int) (H : HS S) (Lk : LK S) (k v : Int) (hk : 0 ≤ k ∧ k ≤ S 0 9) (hv : 0 ≤ v ∧ v < 4) : hMI l yX1_ring wsX1_ring (rmL 2) K [.ref (q 0), .int (iI k), .int (iI v)] (wX K q S) (fun z w => (z = RNG (S 0 10) (S 7) (S 8) k v) ∧ ∃ S2, w = wX K q S2 ∧ UP S S2 (S 7) (S 8)) := by
  have hn := H.n
  have hf := H.hf
  have hh := H.hh
  have hk9 := H.1
  have hL := Lk.b hn
  have hfr := FR_m (k := k) (m := S 0 9) hk hk9.2
  rw [← H.2.1] at hfr
  have hfz := FR_SZ (k := k) (by omega)
  refine in_MI (cc := cX1_ring) (maxL := 5) (rt := (some .int)) (lv := [(0, .ref (q 0)), (1, .int (iI k)), (2, .int (iI v))]) (by decide) rfl (Nat.le_of_ble_eq_true rfl) rfl ?_
  intro p e s m args below meth c A C
  have hinX1 : ∀ w ∈ wsX10, w ∈ wsX1_ring := by decide +kernel
  refine g_aload_n (pc := 0) C dX1_ring_0 rfl rfl ?_
  refine g_iload_n (pc := 1) C dX1_ring_1 rfl rfl ?_
  refine g_callVV (pc := 2) (As := [.int (iI k)]) (rest := []) C (c_X1_needRing_ok l K q S hk9 k (by omega)) (cwV 1 C.hts gX1_ring_X1_needRing rfl rfl rfl (by decide +kernel) ⟨by decide, by decide⟩) 0 rfl rfl dX1_ring_2 rfl (Nat.le_of_ble_eq_true rfl) ⟨Nat.zero_le _, Nat.zero_le _⟩ (fun w hp => ?_)
  subst hp
  refine g_iload_n (pc := 5) C dX1_ring_5 rfl rfl ?_
  refine g_iconst (pc := 6) C dX1_ring_6 ?_
  refine g_callSV (pc := 7) (As := [.int (iI v), .int (iI 4)]) (rest := []) C (c_X1_needIndex_ok l K _ v 4 (by omega)) (cwS 2 C.hts gX1_ring_X1_needIndex rfl rfl rfl (by decide +kernel) ⟨by decide, by decide⟩) dX1_ring_7 rfl (Nat.le_of_ble_eq_true rfl) ⟨Nat.zero_le _, Nat.zero_le _⟩ (fun w hp => ?_)
  subst hp
  refine g_iload_n (pc := 10) C dX1_ring_10 rfl rfl ?_
  refine g_callSI (pc := 11) (As := [.int (iI k)]) (rest := []) C (c_X0_firstRoomOf l K _ k (by omega)) (va_cwS 1 C.hts gX1_ring_X0_firstRoomOf rfl rfl rfl (by decide +kernel) ⟨by decide, by decide⟩) dX1_ring_11 rfl (Nat.le_of_ble_eq_true rfl) ⟨Nat.zero_le _, Nat.zero_le _⟩ (fun z w hp => ?_)
  obtain ⟨rfl, rfl⟩ := hp
  refine g_istore_n (pc := 14) (lv' := [(3, .int (iI (FR k))), (0, .ref (q 0)), (1, .int (iI k)), (2, .int (iI v))]) C dX1_ring_14 rfl (by decide) rfl ?_
  refine g_iload_n (pc := 15) C dX1_ring_15 rfl rfl ?_
  refine g_iload_n (pc := 16) C dX1_ring_16 rfl rfl ?_
  refine g_callSI (pc := 17) (As := [.int (iI k)]) (rest := [.int (iI (FR k))]) C (c_X0_sizeOf l K _ k (by omega)) (va_cwS 1 C.hts gX1_ring_X0_sizeOf rfl rfl rfl (by decide +kernel) ⟨by decide, by decide⟩) dX1_ring_17 rfl (Nat.le_of_ble_eq_true rfl) ⟨Nat.zero_le _, Nat.zero_le _⟩ (fun z w hp => ?_)
  obtain ⟨rfl, rfl⟩ := hp
  refine g_iadd (pc := 20) C dX1_ring_20 ?_
  refine g_istore (pc := 21) (lv' := [(4, .int (iI ((FR k) + (SZ k)))), (3, .int (iI (FR k))), (0, .ref (q 0)), (1, .int (iI k)), (2, .int (iI v))]) C dX1_ring_21 (by decide) rfl ?_
  refine g_iload_n (pc := 23) C dX1_ring_23 rfl rfl ?_
  rcases (by omega : v = 0 ∨ v = 1 ∨ v = 2 ∨ v = 3) with h | h | h | h
  · rw [h]
    refine g_tsw (pc := 24) (tgt := 52) C dX1_ring_24 (by omega) (by omega) (by omega) rfl (by decide) ?_
    refine g_iload (pc := 52) C dX1_ring_52 rfl ?_
    refine g_iload_n (pc := 54) C dX1_ring_54 rfl rfl ?_
    refine g_isub (pc := 55) C dX1_ring_55 ?_
    exact g_ireturn (pc := 56) C rfl dX1_ring_56 ⟨by subst h; show _ = SZ k; omega, ⟨_, rfl, rfl, rfl, rfl, Lk⟩⟩
  · rw [h]
    refine g_tsw (pc := 24) (tgt := 57) C dX1_ring_24 (by omega) (by omega) (by omega) rfl (by decide) ?_
    refine g_aload_n (pc := 57) C dX1_ring_57 rfl rfl ?_
    refine g_iconst (pc := 58) C dX1_ring_58 ?_
    refine g_iload_n (pc := 59) C dX1_ring_59 rfl rfl ?_
    refine g_iload (pc := 60) C dX1_ring_60 rfl ?_
    refine g_callVI (pc := 62) (As := [.int (iI 1), .int (iI (FR k)), .int (iI ((FR k) + (SZ k)))]) (rest := []) C (c_X1_standing l K q S 1 (FR k) ((FR k) + (SZ k)) (by omega) (by omega) (fun j h0 h1 => hf j h0 (by omega))) (cwV 3 C.hts gX1_ring_X1_standing rfl rfl rfl (by decide +kernel) ⟨by decide, by decide⟩) 0 rfl rfl dX1_ring_62 rfl (Nat.le_of_ble_eq_true rfl) ⟨Nat.zero_le _, Nat.zero_le _⟩ (fun z w hp => ?_)
    obtain ⟨rfl, rfl⟩ := hp
    exact g_ireturn (pc := 65) C rfl dX1_ring_65 ⟨by subst h; rfl, ⟨_, rfl, rfl, rfl, rfl, Lk⟩⟩
  · rw [h]
    refine g_tsw (pc := 24) (tgt := 66) C dX1_ring_24 (by omega) (by omega) (by omega) rfl (by decide) ?_
    refine g_aload_n (pc := 66) C dX1_ring_66 rfl rfl ?_
    refine g_iconst (pc := 67) C dX1_ring_67 ?_
    refine g_iload_n (pc := 68) C dX1_ring_68 rfl rfl ?_
    refine g_iload (pc := 69) C dX1_ring_69 rfl ?_
    refine g_callVI (pc := 71) (As := [.int (iI 2), .int (iI (FR k)), .int (iI ((FR k) + (SZ k)))]) (rest := []) C (c_X1_standing l K q S 2 (FR k) ((FR k) + (SZ k)) (by omega) (by omega) (fun j h0 h1 => hf j h0 (by omega))) (cwV 3 C.hts gX1_ring_X1_standing rfl rfl rfl (by decide +kernel) ⟨by decide, by decide⟩) 0 rfl rfl dX1_ring_71 rfl (Nat.le_of_ble_eq_true rfl) ⟨Nat.zero_le _, Nat.zero_le _⟩ (fun z w hp => ?_)
    obtain ⟨rfl, rfl⟩ := hp
    exact g_ireturn (pc := 74) C rfl dX1_ring_74 ⟨by subst h; rfl, ⟨_, rfl, rfl, rfl, rfl, Lk⟩⟩
  · rw [h]
    refine g_tswD (pc := 24) (tgt := 75) C dX1_ring_24 (by omega) (by omega) (by decide) ?_
    refine g_aload_n (pc := 75) C dX1_ring_75 rfl rfl ?_
    refine g_get (pc := 76) (ref := "HexRooms") (ci := 1) (N := 11) C 0 rfl rfl hinX1 3 (by decide) (by decide +kernel) rfl rfl dX1_ring_76 ?_
    refine g_iload_n (pc := 79) C dX1_ring_79 rfl rfl ?_
    refine g_iload (pc := 80) C dX1_ring_80 rfl ?_
    refine g_callSI (pc := 82) (As := [.ref (q 9), .int (iI (FR k)), .int (iI ((FR k) + (SZ k)))]) (rest := []) C (c_X1_litAmong_9 l K q S (FR k) ((FR k) + (SZ k)) (by omega) (fun j h0 h1 => hL j h0 (by omega))) (cwS 3 C.hts gX1_ring_X1_litAmong rfl rfl rfl (by decide +kernel) ⟨by decide, by decide⟩) dX1_ring_82 rfl (Nat.le_of_ble_eq_true rfl) ⟨Nat.zero_le _, Nat.zero_le _⟩ (fun z w hp => ?_)
    obtain ⟨rfl, rfl⟩ := hp
    exact g_ireturn (pc := 85) C rfl dX1_ring_85 ⟨by subst h; exact (sm_cong (fun j h0 h1 => by
      show (if 0 < S 9 j then (1 : Int) else 0) = if 0 < LT (S 0 10) (S 7) (S 8) (S 0 10) j then 1 else 0
      rw [Lk j (by omega) (by omega)])), ⟨_, rfl, rfl, rfl, rfl, Lk⟩⟩

set_option maxHeartbeats 400000 in
set_option maxRecDepth 100000 in
theorem c_X1_count (l : Launch) (K : KK) (q : Nat → Nat) (S : Nat → Int → Int) (H : HS S) (Lk : LK S) (v : Int) (hv : 0 ≤ v ∧ v < 7) : hMI l yX1_count wsX1_count (rmL 6) K [.ref (q 0), .int (iI v)] (wX K q S) (fun z w => (z = CNT (S 0 9) (S 0 10) (S 7) (S 8) v) ∧ ∃ S2, w = wX K q S2 ∧ UP S S2 (S 7) (S 8)) := by
  have hn := H.n
  have hf := H.hf
  have hh := H.hh
  have hk9 := H.1
  have hL := Lk.b hn
  refine in_MI (cc := cX1_count) (maxL := 2) (rt := (some .int)) (lv := [(0, .ref (q 0)), (1, .int (iI v))]) (by decide) rfl (Nat.le_of_ble_eq_true rfl) rfl ?_
  intro p e s m args below meth c A C
  have hinX1 : ∀ w ∈ wsX10, w ∈ wsX1_count := by decide +kernel
  refine g_iload_n (pc := 0) C dX1_count_0 rfl rfl ?_
  refine g_bipush (pc := 1) C dX1_count_1 (by decide +kernel) ?_
  refine g_callSV (pc := 3) (As := [.int (iI v), .int (iI 7)]) (rest := []) C (c_X1_needIndex_ok l K _ v 7 (by omega)) (cwS 2 C.hts gX1_count_X1_needIndex rfl rfl rfl (by decide +kernel) ⟨by decide, by decide⟩) dX1_count_3 rfl (Nat.le_of_ble_eq_true rfl) ⟨Nat.zero_le _, Nat.zero_le _⟩ (fun w hp => ?_)
  subst hp
  refine g_iload_n (pc := 6) C dX1_count_6 rfl rfl ?_
  rcases (by omega : v = 0 ∨ v = 1 ∨ v = 2 ∨ v = 3 ∨ v = 4 ∨ v = 5 ∨ v = 6) with h | h | h | h | h | h | h
  · rw [h]
    refine g_tsw (pc := 7) (tgt := 44) C dX1_count_7 (by omega) (by omega) (by omega) rfl (by decide) ?_
    refine g_aload_n (pc := 44) C dX1_count_44 rfl rfl ?_
    refine g_get (pc := 45) (ref := "HexRooms") (ci := 1) (N := 11) C 0 rfl rfl hinX1 10 (by decide) (by decide +kernel) rfl rfl dX1_count_45 ?_
    exact g_ireturn (pc := 48) C rfl dX1_count_48 ⟨by subst h; rfl, ⟨_, rfl, rfl, rfl, rfl, Lk⟩⟩
  · rw [h]
    refine g_tsw (pc := 7) (tgt := 49) C dX1_count_7 (by omega) (by omega) (by omega) rfl (by decide) ?_
    refine g_aload_n (pc := 49) C dX1_count_49 rfl rfl ?_
    refine g_get (pc := 50) (ref := "HexRooms") (ci := 1) (N := 11) C 0 rfl rfl hinX1 9 (by decide) (by decide +kernel) rfl rfl dX1_count_50 ?_
    exact g_ireturn (pc := 53) C rfl dX1_count_53 ⟨by subst h; rfl, ⟨_, rfl, rfl, rfl, rfl, Lk⟩⟩
  · rw [h]
    refine g_tsw (pc := 7) (tgt := 54) C dX1_count_7 (by omega) (by omega) (by omega) rfl (by decide) ?_
    refine g_aload_n (pc := 54) C dX1_count_54 rfl rfl ?_
    refine g_iconst (pc := 55) C dX1_count_55 ?_
    refine g_iconst (pc := 56) C dX1_count_56 ?_
    refine g_aload_n (pc := 57) C dX1_count_57 rfl rfl ?_
    refine g_get (pc := 58) (ref := "HexRooms") (ci := 1) (N := 11) C 0 rfl rfl hinX1 10 (by decide) (by decide +kernel) rfl rfl dX1_count_58 ?_
    refine g_callVI (pc := 61) (As := [.int (iI 1), .int (iI 0), .int (iI ((S 0) 10))]) (rest := []) C (c_X1_standing l K q S 1 0 ((S 0) 10) (by omega) (by omega) (fun j h0 h1 => hf j h0 (by omega))) (cwV 3 C.hts gX1_count_X1_standing rfl rfl rfl (by decide +kernel) ⟨by decide, by decide⟩) 0 rfl rfl dX1_count_61 rfl (Nat.le_of_ble_eq_true rfl) ⟨Nat.zero_le _, Nat.zero_le _⟩ (fun z w hp => ?_)
    obtain ⟨rfl, rfl⟩ := hp
    exact g_ireturn (pc := 64) C rfl dX1_count_64 ⟨by subst h; rfl, ⟨_, rfl, rfl, rfl, rfl, Lk⟩⟩
  · rw [h]
    refine g_tsw (pc := 7) (tgt := 65) C dX1_count_7 (by omega) (by omega) (by omega) rfl (by decide) ?_
    refine g_aload_n (pc := 65) C dX1_count_65 rfl rfl ?_
    refine g_iconst (pc := 66) C dX1_count_66 ?_
    refine g_iconst (pc := 67) C dX1_count_67 ?_
    refine g_aload_n (pc := 68) C dX1_count_68 rfl rfl ?_
    refine g_get (pc := 69) (ref := "HexRooms") (ci := 1) (N := 11) C 0 rfl rfl hinX1 10 (by decide) (by decide +kernel) rfl rfl dX1_count_69 ?_
    refine g_callVI (pc := 72) (As := [.int (iI 2), .int (iI 0), .int (iI ((S 0) 10))]) (rest := []) C (c_X1_standing l K q S 2 0 ((S 0) 10) (by omega) (by omega) (fun j h0 h1 => hf j h0 (by omega))) (cwV 3 C.hts gX1_count_X1_standing rfl rfl rfl (by decide +kernel) ⟨by decide, by decide⟩) 0 rfl rfl dX1_count_72 rfl (Nat.le_of_ble_eq_true rfl) ⟨Nat.zero_le _, Nat.zero_le _⟩ (fun z w hp => ?_)
    obtain ⟨rfl, rfl⟩ := hp
    exact g_ireturn (pc := 75) C rfl dX1_count_75 ⟨by subst h; rfl, ⟨_, rfl, rfl, rfl, rfl, Lk⟩⟩
  · rw [h]
    refine g_tsw (pc := 7) (tgt := 76) C dX1_count_7 (by omega) (by omega) (by omega) rfl (by decide) ?_
    refine g_aload_n (pc := 76) C dX1_count_76 rfl rfl ?_
    refine g_callVI (pc := 77) (As := []) (rest := []) C (c_X1_doorsShut l K q S hn hh) (cwV 0 C.hts gX1_count_X1_doorsShut rfl rfl rfl (by decide +kernel) ⟨by decide, by decide⟩) 0 rfl rfl dX1_count_77 rfl (Nat.le_of_ble_eq_true rfl) ⟨Nat.zero_le _, Nat.zero_le _⟩ (fun z w hp => ?_)
    obtain ⟨rfl, rfl⟩ := hp
    exact g_ireturn (pc := 80) C rfl dX1_count_80 ⟨by subst h; rfl, ⟨_, rfl, rfl, rfl, rfl, Lk⟩⟩
  · rw [h]
    refine g_tsw (pc := 7) (tgt := 81) C dX1_count_7 (by omega) (by omega) (by omega) rfl (by decide) ?_
    refine g_aload_n (pc := 81) C dX1_count_81 rfl rfl ?_
    refine g_get (pc := 82) (ref := "HexRooms") (ci := 1) (N := 11) C 0 rfl rfl hinX1 3 (by decide) (by decide +kernel) rfl rfl dX1_count_82 ?_
    refine g_iconst (pc := 85) C dX1_count_85 ?_
    refine g_aload_n (pc := 86) C dX1_count_86 rfl rfl ?_
    refine g_get (pc := 87) (ref := "HexRooms") (ci := 1) (N := 11) C 0 rfl rfl hinX1 10 (by decide) (by decide +kernel) rfl rfl dX1_count_87 ?_
    refine g_callSI (pc := 90) (As := [.ref (q 9), .int (iI 0), .int (iI ((S 0) 10))]) (rest := []) C (c_X1_litAmong_9 l K q S 0 ((S 0) 10) (by omega) (fun j h0 h1 => hL j h0 (by omega))) (cwS 3 C.hts gX1_count_X1_litAmong rfl rfl rfl (by decide +kernel) ⟨by decide, by decide⟩) dX1_count_90 rfl (Nat.le_of_ble_eq_true rfl) ⟨Nat.zero_le _, Nat.zero_le _⟩ (fun z w hp => ?_)
    obtain ⟨rfl, rfl⟩ := hp
    exact g_ireturn (pc := 93) C rfl dX1_count_93 ⟨by subst h; exact (sm_cong (fun j h0 h1 => by
      show (if 0 < S 9 j then (1 : Int) else 0) = if 0 < LT (S 0 10) (S 7) (S 8) (S 0 10) j then 1 else 0
      rw [Lk j (by omega) (by omega)])), ⟨_, rfl, rfl, rfl, rfl, Lk⟩⟩
  · rw [h]
    refine g_tswD (pc := 7) (tgt := 94) C dX1_count_7 (by omega) (by omega) (by decide) ?_
    refine g_aload_n (pc := 94) C dX1_count_94 rfl rfl ?_
    refine g_callVI (pc := 95) (As := []) (rest := []) C (c_X1_parts l K q S hn hf hh) (cwV 0 C.hts gX1_count_X1_parts rfl rfl rfl (by decide +kernel) ⟨by decide, by decide⟩) 0 rfl rfl dX1_count_95 rfl (Nat.le_of_ble_eq_true rfl) ⟨Nat.zero_le _, Nat.zero_le _⟩ (fun z w hp => ?_)
    obtain ⟨hz, D1, u1, rfl⟩ := hp
    exact g_ireturn (pc := 98) C rfl dX1_count_98 ⟨by subst h; exact hz, ⟨_, rfl, rfl, rfl, rfl, Lk⟩⟩

set_option maxHeartbeats 400000 in
set_option maxRecDepth 100000 in
theorem c_X1_would (l : Launch) (K : KK) (q : Nat → Nat) (S : Nat → Int → Int) (H : HS S) (Lk : LK S) (k b : Int) (hk : 0 ≤ k ∧ k ≤ S 0 9) (hb : 0 ≤ b ∧ b < SZ k) : hMI l yX1_would wsX1_would (rmL 7) K [.ref (q 0), .int (iI k), .int (iI b)] (wX K q S) (fun z w => (z = LIT (S 0 10) (rot k b (S 7) (S 7)) (S 8)) ∧ ∃ S2, w = wX K q S2 ∧ UP S S2 (S 7) (S 8)) := by
  have hn := H.n
  have hf := H.hf
  have hh := H.hh
  have hk9 := H.1
  have hL := Lk.b hn
  have hfz := FR_SZ (k := k) (by omega)
  refine in_MI (cc := cX1_would) (maxL := 3) (rt := (some .int)) (lv := [(0, .ref (q 0)), (1, .int (iI k)), (2, .int (iI b))]) (by decide) rfl (Nat.le_of_ble_eq_true rfl) rfl ?_
  intro p e s m args below meth c A C
  refine g_aload_n (pc := 0) C dX1_would_0 rfl rfl ?_
  refine g_iload_n (pc := 1) C dX1_would_1 rfl rfl ?_
  refine g_callVV (pc := 2) (As := [.int (iI k)]) (rest := []) C (c_X1_needRing_ok l K q S hk9 k (by omega)) (cwV 1 C.hts gX1_would_X1_needRing rfl rfl rfl (by decide +kernel) ⟨by decide, by decide⟩) 0 rfl rfl dX1_would_2 rfl (Nat.le_of_ble_eq_true rfl) ⟨Nat.zero_le _, Nat.zero_le _⟩ (fun w hp => ?_)
  subst hp
  refine g_iload_n (pc := 5) C dX1_would_5 rfl rfl ?_
  refine g_iconst (pc := 6) C dX1_would_6 ?_
  refine g_iload_n (pc := 7) C dX1_would_7 rfl rfl ?_
  refine g_callSI (pc := 8) (As := [.int (iI k)]) (rest := [.int (iI 0), .int (iI b)]) C (c_X0_sizeOf l K _ k (by omega)) (va_cwS 1 C.hts gX1_would_X0_sizeOf rfl rfl rfl (by decide +kernel) ⟨by decide, by decide⟩) dX1_would_8 rfl (Nat.le_of_ble_eq_true rfl) ⟨Nat.zero_le _, Nat.zero_le _⟩ (fun z w hp => ?_)
  obtain ⟨rfl, rfl⟩ := hp
  refine g_iconst (pc := 11) C dX1_would_11 ?_
  refine g_isub (pc := 12) C dX1_would_12 ?_
  refine g_callSV (pc := 13) (As := [.int (iI b), .int (iI 0), .int (iI ((SZ k) - 1))]) (rest := []) C (c_X1_needNumber_ok l K _ b 0 ((SZ k) - 1) (by omega)) (cwS 3 C.hts gX1_would_X1_needNumber rfl rfl rfl (by decide +kernel) ⟨by decide, by decide⟩) dX1_would_13 rfl (Nat.le_of_ble_eq_true rfl) ⟨Nat.zero_le _, Nat.zero_le _⟩ (fun w hp => ?_)
  subst hp
  refine g_aload_n (pc := 16) C dX1_would_16 rfl rfl ?_
  refine g_iload_n (pc := 17) C dX1_would_17 rfl rfl ?_
  refine g_iload_n (pc := 18) C dX1_would_18 rfl rfl ?_
  refine g_callVI (pc := 19) (As := [.int (iI k), .int (iI b)]) (rest := []) C (c_X1_litAfterTurn l K q S H k b hk (by omega)) (cwV 2 C.hts gX1_would_X1_litAfterTurn rfl rfl rfl (by decide +kernel) ⟨by decide, by decide⟩) 0 rfl rfl dX1_would_19 rfl (Nat.le_of_ble_eq_true rfl) ⟨Nat.zero_le _, Nat.zero_le _⟩ (fun lz w hp => ?_)
  obtain ⟨hlz, f1, b1, L1, rfl⟩ := hp
  have hlz : lz = LIT (S 0 10) (rot k b (S 7) (S 7)) (S 8) := hlz
  have hlb := LIT_b (n := S 0 10) (by omega) (rot k b (S 7) (S 7)) (S 8)
  rw [← hlz] at hlb
  exact g_ireturn (pc := 22) C rfl dX1_would_22 ⟨hlz, ⟨_, rfl, rfl, rfl, rfl, Lk⟩⟩

set_option maxHeartbeats 400000 in
set_option maxRecDepth 100000 in
theorem c_X1_advise (l : Launch) (K : KK) (q : Nat → Nat) (S : Nat → Int → Int) (H : HS S) (Lk : LK S) (k : Int) (hk : 0 ≤ k ∧ k ≤ S 0 9) : hMI l yX1_advise wsX1_advise (rmL 7) K [.ref (q 0), .int (iI k)] (wX K q S) (fun z w => (AV (S 0 10) (S 7) (S 8) k z) ∧ ∃ S2, w = wX K q S2 ∧ UP S S2 (S 7) (S 8)) := by
  have hn := H.n
  have hf := H.hf
  have hh := H.hh
  have hk9 := H.1
  have hL := Lk.b hn
  have hfz := FR_SZ (k := k) (by omega)
  refine in_MI (cc := cX1_advise) (maxL := 6) (rt := (some .int)) (lv := [(0, .ref (q 0)), (1, .int (iI k))]) (by decide) rfl (Nat.le_of_ble_eq_true rfl) rfl ?_
  intro p e s m args below meth c A C
  refine g_aload_n (pc := 0) C dX1_advise_0 rfl rfl ?_
  refine g_iload_n (pc := 1) C dX1_advise_1 rfl rfl ?_
  refine g_callVV (pc := 2) (As := [.int (iI k)]) (rest := []) C (c_X1_needRing_ok l K q S hk9 k (by omega)) (cwV 1 C.hts gX1_advise_X1_needRing rfl rfl rfl (by decide +kernel) ⟨by decide, by decide⟩) 0 rfl rfl dX1_advise_2 rfl (Nat.le_of_ble_eq_true rfl) ⟨Nat.zero_le _, Nat.zero_le _⟩ (fun w hp => ?_)
  subst hp
  refine g_iconst (pc := 5) C dX1_advise_5 ?_
  refine g_istore_n (pc := 6) (lv' := [(2, .int (iI 0)), (0, .ref (q 0)), (1, .int (iI k))]) C dX1_advise_6 rfl (by decide) rfl ?_
  refine g_iconst (pc := 7) C dX1_advise_7 ?_
  refine g_istore_n (pc := 8) (lv' := [(3, .int (iI (-1))), (2, .int (iI 0)), (0, .ref (q 0)), (1, .int (iI k))]) C dX1_advise_8 rfl (by decide) rfl ?_
  refine g_iconst (pc := 9) C dX1_advise_9 ?_
  refine g_istore (pc := 10) (lv' := [(4, .int (iI 0)), (3, .int (iI (-1))), (2, .int (iI 0)), (0, .ref (q 0)), (1, .int (iI k))]) C dX1_advise_10 (by decide) rfl ?_
  have loop12 : ∀ (fu : Nat) (f0 : Int → Int) (b0 : Int → Int) (L0 : Int → Int) (ch : Int) (mo : Int) (t : Int), (0 ≤ t ∧ t ≤ SZ k) → (AVI (S 0 10) (S 7) (S 8) k t ch mo) → SZ k - t < (fu : Int) → hG p l e (rmL 7) s m args below meth c 6 K A 0 0 (QI K A below args s (fun z w => (AV (S 0 10) (S 7) (S 8) k z) ∧ ∃ S2, w = wX K q S2 ∧ UP S S2 (S 7) (S 8))) 12 [(4, .int (iI t)), (3, .int (iI mo)), (2, .int (iI ch)), (0, .ref (q 0)), (1, .int (iI k))] [] (wX K q (sA (sA (sA S 10 f0) 12 b0) 11 L0)) := by
    intro fu
    induction fu with
    | zero =>
      intro f0 b0 L0 ch mo t h1 h2 hm
      exact absurd hm (by omega)
    | succ fu ih12 =>
      intro f0 b0 L0 ch mo t h1 h2 hm
      have hmo := AVI_mo (n := S 0 10) (by omega) h2
      refine g_iload (pc := 12) C dX1_advise_12 rfl ?_
      refine g_iload_n (pc := 14) C dX1_advise_14 rfl rfl ?_
      refine g_callSI (pc := 15) (As := [.int (iI k)]) (rest := [.int (iI t)]) C (c_X0_sizeOf l K _ k (by omega)) (va_cwS 1 C.hts gX1_advise_X0_sizeOf rfl rfl rfl (by decide +kernel) ⟨by decide, by decide⟩) dX1_advise_15 rfl (Nat.le_of_ble_eq_true rfl) ⟨Nat.zero_le _, Nat.zero_le _⟩ (fun z w hp => ?_)
      obtain ⟨rfl, rfl⟩ := hp
      refine g_icmp_ge (pc := 18) (tgt := 48) C dX1_advise_18 (by decide) (by omega) (by omega) (fun c1 => ?_) (fun c1 => ?_)
      · refine g_iload_n (pc := 48) C dX1_advise_48 rfl rfl ?_
        exact g_ireturn (pc := 49) C rfl dX1_advise_49 ⟨AVI_end h2 (by omega) (by omega), ⟨_, rfl, rfl, rfl, rfl, Lk⟩⟩
      · refine g_aload_n (pc := 21) C dX1_advise_21 rfl rfl ?_
        refine g_iload_n (pc := 22) C dX1_advise_22 rfl rfl ?_
        refine g_iload (pc := 23) C dX1_advise_23 rfl ?_
        refine g_callVI (pc := 25) (As := [.int (iI k), .int (iI t)]) (rest := []) C (c_X1_litAfterTurn l K q (sA (sA (sA S 10 f0) 12 b0) 11 L0) H k t hk (by omega)) (cwV 2 C.hts gX1_advise_X1_litAfterTurn rfl rfl rfl (by decide +kernel) ⟨by decide, by decide⟩) 0 rfl rfl dX1_advise_25 rfl (Nat.le_of_ble_eq_true rfl) ⟨Nat.zero_le _, Nat.zero_le _⟩ (fun lz w hp => ?_)
        obtain ⟨hlz, f1, b1, L1, rfl⟩ := hp
        have hlz : lz = LIT (S 0 10) (rot k t (S 7) (S 7)) (S 8) := hlz
        have hlb := LIT_b (n := S 0 10) (by omega) (rot k t (S 7) (S 7)) (S 8)
        rw [← hlz] at hlb
        refine g_istore (pc := 28) (lv' := [(5, .int (iI lz)), (4, .int (iI t)), (3, .int (iI mo)), (2, .int (iI ch)), (0, .ref (q 0)), (1, .int (iI k))]) C dX1_advise_28 (by decide) rfl ?_
        refine g_iload (pc := 30) C dX1_advise_30 rfl ?_
        refine g_iload_n (pc := 32) C dX1_advise_32 rfl rfl ?_
        refine g_icmp_le (pc := 33) (tgt := 42) C dX1_advise_33 (by decide) (by omega) (by omega) (fun c2 => ?_) (fun c2 => ?_)
        · refine g_iinc (pc := 42) (lv' := [(4, .int (iI (t + 1))), (5, .int (iI lz)), (3, .int (iI mo)), (2, .int (iI ch)), (0, .ref (q 0)), (1, .int (iI k))]) C dX1_advise_42 rfl (by decide) rfl ?_
          refine g_goto (pc := 45) (tgt := 12) C dX1_advise_45 (by decide) ?_
          refine g_sub (lv' := [(4, .int (iI (t + 1))), (3, .int (iI mo)), (2, .int (iI ch)), (0, .ref (q 0)), (1, .int (iI k))]) [0, 2, 3, 4, 5] rfl ?_
          exact ih12 f1 b1 L1 ch mo (t + 1) (by omega) (AVI_keep (by omega) h2 (by omega)) (by omega)
        · refine g_iload (pc := 36) C dX1_advise_36 rfl ?_
          refine g_istore_n (pc := 38) (lv' := [(3, .int (iI lz)), (5, .int (iI lz)), (4, .int (iI t)), (2, .int (iI ch)), (0, .ref (q 0)), (1, .int (iI k))]) C dX1_advise_38 rfl (by decide) rfl ?_
          refine g_iload (pc := 39) C dX1_advise_39 rfl ?_
          refine g_istore_n (pc := 41) (lv' := [(2, .int (iI t)), (3, .int (iI lz)), (5, .int (iI lz)), (4, .int (iI t)), (0, .ref (q 0)), (1, .int (iI k))]) C dX1_advise_41 rfl (by decide) rfl ?_
          refine g_iinc (pc := 42) (lv' := [(4, .int (iI (t + 1))), (2, .int (iI t)), (3, .int (iI lz)), (5, .int (iI lz)), (0, .ref (q 0)), (1, .int (iI k))]) C dX1_advise_42 rfl (by decide) rfl ?_
          refine g_goto (pc := 45) (tgt := 12) C dX1_advise_45 (by decide) ?_
          refine g_sub (lv' := [(4, .int (iI (t + 1))), (3, .int (iI lz)), (2, .int (iI t)), (0, .ref (q 0)), (1, .int (iI k))]) [0, 2, 1, 4, 5] rfl ?_
          exact ih12 f1 b1 L1 t lz (t + 1) (by omega) (by rw [hlz]; exact AVI_new h1.1 h2 (by omega)) (by omega)
  exact loop12 (31) (S 10) (S 12) (S 11) 0 (-1) 0 (by omega) (Or.inl ⟨rfl, rfl, rfl⟩) (by omega)

set_option maxHeartbeats 400000 in
set_option maxRecDepth 100000 in
theorem c_X1_best (l : Launch) (K : KK) (q : Nat → Nat) (S : Nat → Int → Int) (H : HS S) (Lk : LK S) : hMI l yX1_best wsX1_best (rmL 6) K [.ref (q 0)] (wX K q S) (fun z w => (BS (S 0 10) (S 7) (S 8) z) ∧ ∃ S2, w = wX K q S2 ∧ UP S S2 (S 7) (S 8)) := by
  have hn := H.n
  have hf := H.hf
  have hh := H.hh
  have hk9 := H.1
  have hL := Lk.b hn
  refine in_MI (cc := cX1_best) (maxL := 5) (rt := (some .int)) (lv := [(0, .ref (q 0))]) (by decide) rfl (Nat.le_of_ble_eq_true rfl) rfl ?_
  intro p e s m args below meth c A C
  have hinX1 : ∀ w ∈ wsX10, w ∈ wsX1_best := by decide +kernel
  refine g_iconst (pc := 0) C dX1_best_0 ?_
  refine g_istore_n (pc := 1) (lv' := [(1, .int (iI (-1))), (0, .ref (q 0))]) C dX1_best_1 rfl (by decide) rfl ?_
  refine g_iconst (pc := 2) C dX1_best_2 ?_
  refine g_istore_n (pc := 3) (lv' := [(2, .int (iI (-1))), (1, .int (iI (-1))), (0, .ref (q 0))]) C dX1_best_3 rfl (by decide) rfl ?_
  refine g_iconst (pc := 4) C dX1_best_4 ?_
  refine g_istore_n (pc := 5) (lv' := [(3, .int (iI 0)), (2, .int (iI (-1))), (1, .int (iI (-1))), (0, .ref (q 0))]) C dX1_best_5 rfl (by decide) rfl ?_
  have loop6 : ∀ (fu : Nat) (b0 : Int → Int) (ch : Int) (mo : Int) (r : Int), (0 ≤ r ∧ r ≤ S 0 10) → (BSI (S 0 10) (S 7) (S 8) r ch mo) → S 0 10 - r < (fu : Int) → hG p l e (rmL 6) s m args below meth c 5 K A 0 0 (QI K A below args s (fun z w => (BS (S 0 10) (S 7) (S 8) z) ∧ ∃ S2, w = wX K q S2 ∧ UP S S2 (S 7) (S 8))) 6 [(3, .int (iI r)), (2, .int (iI mo)), (1, .int (iI ch)), (0, .ref (q 0))] [] (wX K q (sA S 12 b0)) := by
    intro fu
    induction fu with
    | zero =>
      intro b0 ch mo r h1 h2 hm
      exact absurd hm (by omega)
    | succ fu ih6 =>
      intro b0 ch mo r h1 h2 hm
      have hmo := BSI_mo h2
      refine g_iload_n (pc := 6) C dX1_best_6 rfl rfl ?_
      refine g_aload_n (pc := 7) C dX1_best_7 rfl rfl ?_
      refine g_get (pc := 8) (v := .int (iI ((S 0) 10))) (ref := "HexRooms") (ci := 1) (N := 11) C 0 rfl rfl hinX1 10 (by decide) (by decide +kernel) rfl rfl dX1_best_8 ?_
      refine g_icmp_ge (pc := 11) (tgt := 51) C dX1_best_11 (by decide) (by omega) (by omega) (fun c1 => ?_) (fun c1 => ?_)
      · refine g_iload_n (pc := 51) C dX1_best_51 rfl rfl ?_
        exact g_ireturn (pc := 52) C rfl dX1_best_52 ⟨BSI_end h2 (by omega), ⟨_, rfl, rfl, rfl, rfl, Lk⟩⟩
      · refine g_aload_n (pc := 14) C dX1_best_14 rfl rfl ?_
        refine g_get (pc := 15) (ref := "HexRooms") (ci := 1) (N := 11) C 0 rfl rfl hinX1 1 (by decide) (by decide +kernel) rfl rfl dX1_best_15 ?_
        refine g_iload_n (pc := 18) C dX1_best_18 rfl rfl ?_
        refine g_iaload (pc := 19) (f := (S 7)) C 7 rfl (by omega) dX1_best_19 ?_
        have bd2 := hf r (by omega) (by omega)
        refine g_if_ne (pc := 20) (tgt := 31) C dX1_best_20 (by decide) (by omega) (fun c3 => ?_) (fun c3 => ?_)
        · refine g_iconst (pc := 31) C dX1_best_31 ?_
          refine g_istore (pc := 32) (lv' := [(4, .int (iI (-1))), (3, .int (iI r)), (2, .int (iI mo)), (1, .int (iI ch)), (0, .ref (q 0))]) C dX1_best_32 (by decide) rfl ?_
          refine g_iload (pc := 34) C dX1_best_34 rfl ?_
          refine g_iload_n (pc := 36) C dX1_best_36 rfl rfl ?_
          refine g_icmp_le (pc := 37) (tgt := 45) C dX1_best_37 (by decide) (by omega) (by omega) (fun c4 => ?_) (fun c4 => ?_)
          · refine g_iinc (pc := 45) (lv' := [(3, .int (iI (r + 1))), (4, .int (iI (-1))), (2, .int (iI mo)), (1, .int (iI ch)), (0, .ref (q 0))]) C dX1_best_45 rfl (by decide) rfl ?_
            refine g_goto (pc := 48) (tgt := 6) C dX1_best_48 (by decide) ?_
            refine g_sub (lv' := [(3, .int (iI (r + 1))), (2, .int (iI mo)), (1, .int (iI ch)), (0, .ref (q 0))]) [0, 2, 3, 4] rfl ?_
            exact ih6 b0 ch mo (r + 1) (by omega) (BSI_skip h2 (by omega)) (by omega)
          · refine g_iload (pc := 40) C dX1_best_40 rfl ?_
            refine g_istore_n (pc := 42) (lv' := [(2, .int (iI (-1))), (4, .int (iI (-1))), (3, .int (iI r)), (1, .int (iI ch)), (0, .ref (q 0))]) C dX1_best_42 rfl (by decide) rfl ?_
            refine g_iload_n (pc := 43) C dX1_best_43 rfl rfl ?_
            refine g_istore_n (pc := 44) (lv' := [(1, .int (iI r)), (2, .int (iI (-1))), (4, .int (iI (-1))), (3, .int (iI r)), (0, .ref (q 0))]) C dX1_best_44 rfl (by decide) rfl ?_
            refine g_iinc (pc := 45) (lv' := [(3, .int (iI (r + 1))), (1, .int (iI r)), (2, .int (iI (-1))), (4, .int (iI (-1))), (0, .ref (q 0))]) C dX1_best_45 rfl (by decide) rfl ?_
            refine g_goto (pc := 48) (tgt := 6) C dX1_best_48 (by decide) ?_
            refine g_sub (lv' := [(3, .int (iI (r + 1))), (2, .int (iI (-1))), (1, .int (iI r)), (0, .ref (q 0))]) [0, 2, 1, 4] rfl ?_
            exact ih6 b0 r (-1) (r + 1) (by omega) (absurd hmo (by omega)) (by omega)
        · refine g_aload_n (pc := 23) C dX1_best_23 rfl rfl ?_
          refine g_iload_n (pc := 24) C dX1_best_24 rfl rfl ?_
          refine g_callVI (pc := 25) (As := [.int (iI r)]) (rest := []) C (c_X1_newlyLitFrom l K q (sA S 12 b0) hn hf hh hL r (show 0 ≤ r ∧ r < S 0 10 by omega)) (cwV 1 C.hts gX1_best_X1_newlyLitFrom rfl rfl rfl (by decide +kernel) ⟨by decide, by decide⟩) 0 rfl rfl dX1_best_25 rfl (Nat.le_of_ble_eq_true rfl) ⟨Nat.zero_le _, Nat.zero_le _⟩ (fun lz w hp => ?_)
          obtain ⟨hlz, b1, rfl⟩ := hp
          have hlz : lz = DK (S 0 10) (S 7) (S 8) r := hlz.trans (DK_e Lk (by omega))
          have hlb := DK_b (S 0 10) (S 7) (S 8) r
          rw [← hlz] at hlb
          refine g_goto (pc := 28) (tgt := 32) C dX1_best_28 (by decide) ?_
          refine g_istore (pc := 32) (lv' := [(4, .int (iI lz)), (3, .int (iI r)), (2, .int (iI mo)), (1, .int (iI ch)), (0, .ref (q 0))]) C dX1_best_32 (by decide) rfl ?_
          refine g_iload (pc := 34) C dX1_best_34 rfl ?_
          refine g_iload_n (pc := 36) C dX1_best_36 rfl rfl ?_
          refine g_icmp_le (pc := 37) (tgt := 45) C dX1_best_37 (by decide) (by omega) (by omega) (fun c5 => ?_) (fun c5 => ?_)
          · refine g_iinc (pc := 45) (lv' := [(3, .int (iI (r + 1))), (4, .int (iI lz)), (2, .int (iI mo)), (1, .int (iI ch)), (0, .ref (q 0))]) C dX1_best_45 rfl (by decide) rfl ?_
            refine g_goto (pc := 48) (tgt := 6) C dX1_best_48 (by decide) ?_
            refine g_sub (lv' := [(3, .int (iI (r + 1))), (2, .int (iI mo)), (1, .int (iI ch)), (0, .ref (q 0))]) [0, 2, 3, 4] rfl ?_
            exact ih6 b1 ch mo (r + 1) (by omega) (BSI_keep h2 (by omega)) (by omega)
          · refine g_iload (pc := 40) C dX1_best_40 rfl ?_
            refine g_istore_n (pc := 42) (lv' := [(2, .int (iI lz)), (4, .int (iI lz)), (3, .int (iI r)), (1, .int (iI ch)), (0, .ref (q 0))]) C dX1_best_42 rfl (by decide) rfl ?_
            refine g_iload_n (pc := 43) C dX1_best_43 rfl rfl ?_
            refine g_istore_n (pc := 44) (lv' := [(1, .int (iI r)), (2, .int (iI lz)), (4, .int (iI lz)), (3, .int (iI r)), (0, .ref (q 0))]) C dX1_best_44 rfl (by decide) rfl ?_
            refine g_iinc (pc := 45) (lv' := [(3, .int (iI (r + 1))), (1, .int (iI r)), (2, .int (iI lz)), (4, .int (iI lz)), (0, .ref (q 0))]) C dX1_best_45 rfl (by decide) rfl ?_
            refine g_goto (pc := 48) (tgt := 6) C dX1_best_48 (by decide) ?_
            refine g_sub (lv' := [(3, .int (iI (r + 1))), (2, .int (iI lz)), (1, .int (iI r)), (0, .ref (q 0))]) [0, 2, 1, 4] rfl ?_
            exact ih6 b1 r lz (r + 1) (by omega) (by rw [hlz]; exact BSI_new h1.1 h2 (by omega) (by omega)) (by omega)
  exact loop6 (92) (S 12) (-1) (-1) 0 (by omega) (Or.inl ⟨rfl, rfl, fun j h0 h1 => by omega⟩) (by omega)

set_option maxHeartbeats 400000 in
set_option maxRecDepth 100000 in
theorem c_X1_sixthsToSame (l : Launch) (K : KK) (q : Nat → Nat) (S : Nat → Int → Int) (H : HS S) (Lk : LK S) : hMI l yX1_sixthsToSame wsX1_sixthsToSame (rmL 3) K [.ref (q 0)] (wX K q S) (fun z w => (SX (S 0 10) (S 7) z) ∧ ∃ S2, w = wX K q S2 ∧ UP S S2 (S 7) (S 8)) := by
  have hn := H.n
  have hf := H.hf
  have hh := H.hh
  have hk9 := H.1
  have hL := Lk.b hn
  refine in_MI (cc := cX1_sixthsToSame) (maxL := 2) (rt := (some .int)) (lv := [(0, .ref (q 0))]) (by decide) rfl (Nat.le_of_ble_eq_true rfl) rfl ?_
  intro p e s m args below meth c A C
  have hinX1 : ∀ w ∈ wsX10, w ∈ wsX1_sixthsToSame := by decide +kernel
  refine g_iconst (pc := 0) C dX1_sixthsToSame_0 ?_
  refine g_istore_n (pc := 1) (lv' := [(1, .int (iI 1)), (0, .ref (q 0))]) C dX1_sixthsToSame_1 rfl (by decide) rfl ?_
  have loop2 : ∀ (fu : Nat) (f0 : Int → Int) (b : Int), (1 ≤ b ∧ b ≤ 6) → (∀ c, 1 ≤ c → c < b → ¬ SM6 (S 0 10) (S 7) c) → 6 - b < (fu : Int) → hG p l e (rmL 3) s m args below meth c 2 K A 0 0 (QI K A below args s (fun z w => (SX (S 0 10) (S 7) z) ∧ ∃ S2, w = wX K q S2 ∧ UP S S2 (S 7) (S 8))) 2 [(1, .int (iI b)), (0, .ref (q 0))] [] (wX K q (sA S 10 f0)) := by
    intro fu
    induction fu with
    | zero =>
      intro f0 b h1 h2 hm
      exact absurd hm (by omega)
    | succ fu ih2 =>
      intro f0 b h1 h2 hm
      refine g_iload_n (pc := 2) C dX1_sixthsToSame_2 rfl rfl ?_
      refine g_bipush (pc := 3) C dX1_sixthsToSame_3 (by decide +kernel) ?_
      refine g_icmp_ge (pc := 5) (tgt := 32) C dX1_sixthsToSame_5 (by decide) (by omega) (by omega) (fun c1 => ?_) (fun c1 => ?_)
      · refine g_bipush (pc := 32) C dX1_sixthsToSame_32 (by decide +kernel) ?_
        exact g_ireturn (pc := 34) C rfl dX1_sixthsToSame_34 ⟨⟨by omega, fun c h3 h4 => h2 c h3 (by omega), Or.inl rfl⟩, ⟨_, rfl, rfl, rfl, rfl, Lk⟩⟩
      · refine g_aload_n (pc := 8) C dX1_sixthsToSame_8 rfl rfl ?_
        refine g_iload_n (pc := 9) C dX1_sixthsToSame_9 rfl rfl ?_
        refine g_aload_n (pc := 10) C dX1_sixthsToSame_10 rfl rfl ?_
        refine g_get (pc := 11) (ref := "HexRooms") (ci := 1) (N := 11) C 0 rfl rfl hinX1 4 (by decide) (by decide +kernel) rfl rfl dX1_sixthsToSame_11 ?_
        refine g_callVV (pc := 14) (As := [.int (iI b), .ref (q 10)]) (rest := []) C (c_X1_turnAllInto l K q (sA S 10 f0) H b (by omega)) (cwV 2 C.hts gX1_sixthsToSame_X1_turnAllInto rfl rfl rfl (by decide +kernel) ⟨by decide, by decide⟩) 0 rfl rfl dX1_sixthsToSame_14 rfl (Nat.le_of_ble_eq_true rfl) ⟨Nat.zero_le _, Nat.zero_le _⟩ (fun w hp => ?_)
        obtain ⟨f1, rfl, hf3⟩ := hp
        have hf3 : ∀ j, 0 ≤ j → j < S 0 10 → f1 j = AT (S 7) b j := hf3
        have hf4 := AT_in hn (f := S 7) (b := b) H.2.2.1 hf3
        refine g_aload_n (pc := 17) C dX1_sixthsToSame_17 rfl rfl ?_
        refine g_callVI (pc := 18) (As := []) (rest := []) C (c_X1_isTrialAsNow l K q (sA S 10 f1) hn hf hf4) (cwV 0 C.hts gX1_sixthsToSame_X1_isTrialAsNow rfl rfl rfl (by decide +kernel) ⟨by decide, by decide⟩) 0 rfl rfl dX1_sixthsToSame_18 rfl (Nat.le_of_ble_eq_true rfl) ⟨Nat.zero_le _, Nat.zero_le _⟩ (fun iz w hp => ?_)
        obtain ⟨hiz, rfl⟩ := hp
        have hiz : (iz = 1 ∧ ∀ j, 0 ≤ j → j < S 0 10 → f1 j = S 7 j) ∨ (iz = 0 ∧ ∃ j, 0 ≤ j ∧ j < S 0 10 ∧ ¬ f1 j = S 7 j) := hiz
        refine g_if_eq (pc := 21) (tgt := 26) C dX1_sixthsToSame_21 (by decide) (by omega) (fun c2 => ?_) (fun c2 => ?_)
        · refine g_iinc (pc := 26) (lv' := [(1, .int (iI (b + 1))), (0, .ref (q 0))]) C dX1_sixthsToSame_26 rfl (by decide) rfl ?_
          refine g_goto (pc := 29) (tgt := 2) C dX1_sixthsToSame_29 (by decide) ?_
          exact ih2 f1 (b + 1) (by omega) (fun c h3 h4 => by
            by_cases g : c = b
            · subst g
              intro hs
              rcases hiz with ⟨e1, _⟩ | ⟨_, j, g1, g2, g3⟩
              · omega
              · exact g3 ((hf3 j g1 g2).trans (hs j g1 g2))
            · exact h2 c h3 (by omega)) (by omega)
        · refine g_iload_n (pc := 24) C dX1_sixthsToSame_24 rfl rfl ?_
          exact g_ireturn (pc := 25) C rfl dX1_sixthsToSame_25 ⟨⟨by omega, h2, Or.inr (fun j g1 g2 => by
            rcases hiz with ⟨_, e2⟩ | ⟨e1, _⟩
            · exact (hf3 j g1 g2).symm.trans (e2 j g1 g2)
            · omega)⟩, ⟨_, rfl, rfl, rfl, rfl, Lk⟩⟩
  exact loop2 (7) (S 10) 1 (by omega) (fun c h3 h4 => by omega) (by omega)
