set_option maxHeartbeats 4000000 in
set_option maxRecDepth 100000 in
theorem c_X1_sidesOnward (l : Launch) (K : KK) (q : Nat → Nat) (S : Nat → Int → Int) (hn : 7 ≤ S 0 10 ∧ S 0 10 ≤ 91) (hf : ∀ j, 0 ≤ j → j < S 0 10 → 0 ≤ S 7 j ∧ S 7 j ≤ 2) (hh : ∀ j, 0 ≤ j → j < 546 → 0 ≤ S 8 j ∧ S 8 j ≤ 1) (r : Int) (hr : 0 ≤ r ∧ r < 91) : hMI l yX1_sidesOnward wsX1_sidesOnward (rmL 4) K [.ref (q 0), .int (iI r)] (wX K q S) (fun z w => z = sm (fun t => if ON (S 0 10) (S 7) (S 8) r t = -1 then 0 else 1) 0 6 ∧ w = (wX K q S)) := by
  refine in_MI (cc := cX1_sidesOnward) (maxL := 4) (rt := (some .int)) (lv := [(0, .ref (q 0)), (1, .int (iI r))]) (by decide) rfl (Nat.le_of_ble_eq_true rfl) rfl ?_
  intro p e s m args below meth c A C
  have hinX1 : ∀ w ∈ wsX10, w ∈ wsX1_sidesOnward := by decide +kernel
  refine g_iconst (pc := 0) C dX1_sidesOnward_0 ?_
  refine g_istore_n (pc := 1) (lv' := [(2, .int (iI 0)), (0, .ref (q 0)), (1, .int (iI r))]) C dX1_sidesOnward_1 rfl (by decide) rfl ?_
  refine g_iconst (pc := 2) C dX1_sidesOnward_2 ?_
  refine g_istore_n (pc := 3) (lv' := [(3, .int (iI 0)), (2, .int (iI 0)), (0, .ref (q 0)), (1, .int (iI r))]) C dX1_sidesOnward_3 rfl (by decide) rfl ?_
  have loop4 : ∀ (fu : Nat) (acc : Int) (t : Int), (0 ≤ t ∧ t ≤ 6) → (acc = sm (fun t => if ON (S 0 10) (S 7) (S 8) r t = -1 then 0 else 1) 0 t) → 6 - t < (fu : Int) → hG p l e (rmL 4) s m args below meth c 4 K A 0 0 (QI K A below args s (fun z w => z = sm (fun t => if ON (S 0 10) (S 7) (S 8) r t = -1 then 0 else 1) 0 6 ∧ w = (wX K q S))) 4 [(3, .int (iI t)), (2, .int (iI acc)), (0, .ref (q 0)), (1, .int (iI r))] [] (wX K q S) := by
    intro fu
    induction fu with
    | zero =>
      intro acc t h1 h2 hm
      exact absurd hm (by omega)
    | succ fu ih4 =>
      intro acc t h1 h2 hm
      refine g_iload_n (pc := 4) C dX1_sidesOnward_4 rfl rfl ?_
      refine g_bipush (pc := 5) C dX1_sidesOnward_5 (by decide +kernel) ?_
      refine g_icmp_ge (pc := 7) (tgt := 33) C dX1_sidesOnward_7 (by decide) (by omega) (by omega) (fun c1 => ?_) (fun c1 => ?_)
      · refine g_iload_n (pc := 33) C dX1_sidesOnward_33 rfl rfl ?_
        exact g_ireturn (pc := 34) C rfl dX1_sidesOnward_34 ⟨by rw [h2, show t = 6 by omega], rfl⟩
      · refine g_aload_n (pc := 10) C dX1_sidesOnward_10 rfl rfl ?_
        refine g_aload_n (pc := 11) C dX1_sidesOnward_11 rfl rfl ?_
        refine g_get (pc := 12) (ref := "HexRooms") (ci := 1) (N := 11) C 0 rfl rfl hinX1 1 (by decide) (by decide +kernel) rfl rfl dX1_sidesOnward_12 ?_
        refine g_iload_n (pc := 15) C dX1_sidesOnward_15 rfl rfl ?_
        refine g_iload_n (pc := 16) C dX1_sidesOnward_16 rfl rfl ?_
        refine g_callVI (pc := 17) (As := [.ref (q 7), .int (iI r), .int (iI t)]) (rest := []) C (c_X1_onward_7 l K q S hn hf hh r t (by omega) (by omega)) (cwV 3 C.hts gX1_sidesOnward_X1_onward rfl rfl rfl (by decide +kernel) ⟨by decide, by decide⟩) 0 rfl rfl dX1_sidesOnward_17 rfl (Nat.le_of_ble_eq_true rfl) ⟨Nat.zero_le _, Nat.zero_le _⟩ (fun z w hp => ?_)
        obtain ⟨rfl, rfl⟩ := hp
        have hb := ON_b (S 0 10) (S 7) (S 8) r t
        refine g_iconst (pc := 20) C dX1_sidesOnward_20 ?_
        refine g_icmp_eq (pc := 21) (tgt := 27) C dX1_sidesOnward_21 (by decide) (by omega) (by omega) (fun c2 => ?_) (fun c2 => ?_)
        · refine g_iinc (pc := 27) (lv' := [(3, .int (iI (t + 1))), (2, .int (iI acc)), (0, .ref (q 0)), (1, .int (iI r))]) C dX1_sidesOnward_27 rfl (by decide) rfl ?_
          refine g_goto (pc := 30) (tgt := 4) C dX1_sidesOnward_30 (by decide) ?_
          exact ih4 acc (t + 1) (by omega) (by rw [sm_s _ h1.1, ← h2]; split <;> omega) (by omega)
        · refine g_iinc (pc := 24) (lv' := [(2, .int (iI (acc + 1))), (3, .int (iI t)), (0, .ref (q 0)), (1, .int (iI r))]) C dX1_sidesOnward_24 rfl (by decide) rfl ?_
          refine g_iinc (pc := 27) (lv' := [(3, .int (iI (t + 1))), (2, .int (iI (acc + 1))), (0, .ref (q 0)), (1, .int (iI r))]) C dX1_sidesOnward_27 rfl (by decide) rfl ?_
          refine g_goto (pc := 30) (tgt := 4) C dX1_sidesOnward_30 (by decide) ?_
          exact ih4 (acc + 1) (t + 1) (by omega) (by rw [sm_s _ h1.1, ← h2]; split <;> omega) (by omega)
  exact loop4 (7) 0 0 (by omega) (by rw [sm_0]) (by omega)

set_option maxHeartbeats 4000000 in
set_option maxRecDepth 100000 in
theorem c_X1_standing (l : Launch) (K : KK) (q : Nat → Nat) (S : Nat → Int → Int) (v a b : Int) (hv : 0 ≤ v ∧ v ≤ 2) (ha : 0 ≤ a ∧ a ≤ b ∧ b ≤ 91) (hf : ∀ j, 0 ≤ j → j < b → 0 ≤ S 7 j ∧ S 7 j ≤ 2) : hMI l yX1_standing wsX1_standing (rmL 0) K [.ref (q 0), .int (iI v), .int (iI a), .int (iI b)] (wX K q S) (fun z w => z = sm (fun j => if S 7 j = v then 1 else 0) a b ∧ w = (wX K q S)) := by
  refine in_MI (cc := cX1_standing) (maxL := 6) (rt := (some .int)) (lv := [(0, .ref (q 0)), (1, .int (iI v)), (2, .int (iI a)), (3, .int (iI b))]) (by decide) rfl (Nat.le_of_ble_eq_true rfl) rfl ?_
  intro p e s m args below meth c A C
  have hinX1 : ∀ w ∈ wsX10, w ∈ wsX1_standing := by decide +kernel
  refine g_iconst (pc := 0) C dX1_standing_0 ?_
  refine g_istore (pc := 1) (lv' := [(4, .int (iI 0)), (0, .ref (q 0)), (1, .int (iI v)), (2, .int (iI a)), (3, .int (iI b))]) C dX1_standing_1 (by decide) rfl ?_
  refine g_iload_n (pc := 3) C dX1_standing_3 rfl rfl ?_
  refine g_istore (pc := 4) (lv' := [(5, .int (iI a)), (4, .int (iI 0)), (0, .ref (q 0)), (1, .int (iI v)), (2, .int (iI a)), (3, .int (iI b))]) C dX1_standing_4 (by decide) rfl ?_
  have loop6 : ∀ (fu : Nat) (acc : Int) (i : Int), (a ≤ i ∧ i ≤ b) → (acc = sm (fun j => if S 7 j = v then 1 else 0) a i) → b - i < (fu : Int) → hG p l e (rmL 0) s m args below meth c 6 K A 0 0 (QI K A below args s (fun z w => z = sm (fun j => if S 7 j = v then 1 else 0) a b ∧ w = (wX K q S))) 6 [(5, .int (iI i)), (4, .int (iI acc)), (0, .ref (q 0)), (1, .int (iI v)), (2, .int (iI a)), (3, .int (iI b))] [] (wX K q S) := by
    intro fu
    induction fu with
    | zero =>
      intro acc i h1 h2 hm
      exact absurd hm (by omega)
    | succ fu ih6 =>
      intro acc i h1 h2 hm
      refine g_iload (pc := 6) C dX1_standing_6 rfl ?_
      refine g_iload_n (pc := 8) C dX1_standing_8 rfl rfl ?_
      refine g_icmp_ge (pc := 9) (tgt := 32) C dX1_standing_9 (by decide) (by omega) (by omega) (fun c1 => ?_) (fun c1 => ?_)
      · refine g_iload (pc := 32) C dX1_standing_32 rfl ?_
        exact g_ireturn (pc := 34) C rfl dX1_standing_34 ⟨by rw [h2, show i = b by omega], rfl⟩
      · refine g_aload_n (pc := 12) C dX1_standing_12 rfl rfl ?_
        refine g_get (pc := 13) (ref := "HexRooms") (ci := 1) (N := 11) C 0 rfl rfl hinX1 1 (by decide) (by decide +kernel) rfl rfl dX1_standing_13 ?_
        refine g_iload (pc := 16) C dX1_standing_16 rfl ?_
        refine g_iaload (pc := 18) C 7 rfl (by omega) dX1_standing_18 ?_
        have bd2 := hf i (by omega) (by omega)
        refine g_iload_n (pc := 19) C dX1_standing_19 rfl rfl ?_
        refine g_icmp_ne (pc := 20) (tgt := 26) C dX1_standing_20 (by decide) (by omega) (by omega) (fun c3 => ?_) (fun c3 => ?_)
        · refine g_iinc (pc := 26) (lv' := [(5, .int (iI (i + 1))), (4, .int (iI acc)), (0, .ref (q 0)), (1, .int (iI v)), (2, .int (iI a)), (3, .int (iI b))]) C dX1_standing_26 rfl (by decide) rfl ?_
          refine g_goto (pc := 29) (tgt := 6) C dX1_standing_29 (by decide) ?_
          exact ih6 acc (i + 1) (by omega) (by rw [sm_s _ h1.1, ← h2]; split <;> omega) (by omega)
        · refine g_iinc (pc := 23) (lv' := [(4, .int (iI (acc + 1))), (5, .int (iI i)), (0, .ref (q 0)), (1, .int (iI v)), (2, .int (iI a)), (3, .int (iI b))]) C dX1_standing_23 rfl (by decide) rfl ?_
          refine g_iinc (pc := 26) (lv' := [(5, .int (iI (i + 1))), (4, .int (iI (acc + 1))), (0, .ref (q 0)), (1, .int (iI v)), (2, .int (iI a)), (3, .int (iI b))]) C dX1_standing_26 rfl (by decide) rfl ?_
          refine g_goto (pc := 29) (tgt := 6) C dX1_standing_29 (by decide) ?_
          exact ih6 (acc + 1) (i + 1) (by omega) (by rw [sm_s _ h1.1, ← h2]; split <;> omega) (by omega)
  exact loop6 (92) 0 a (by omega) (by rw [sm_0]) (by omega)

set_option maxHeartbeats 4000000 in
set_option maxRecDepth 100000 in
theorem c_X1_litAmong_9 (l : Launch) (K : KK) (q : Nat → Nat) (S : Nat → Int → Int) (a b : Int) (ha : 0 ≤ a ∧ a ≤ b ∧ b ≤ 91) (hf : ∀ j, 0 ≤ j → j < b → 0 ≤ S 9 j ∧ S 9 j ≤ 100000) : hMI l yX1_litAmong wsX1_litAmong (rmL 0) K [.ref (q 9), .int (iI a), .int (iI b)] (wX K q S) (fun z w => z = sm (fun j => if 0 < S 9 j then 1 else 0) a b ∧ w = (wX K q S)) := by
  refine in_MI (cc := cX1_litAmong) (maxL := 5) (rt := (some .int)) (lv := [(0, .ref (q 9)), (1, .int (iI a)), (2, .int (iI b))]) (by decide) rfl (Nat.le_of_ble_eq_true rfl) rfl ?_
  intro p e s m args below meth c A C
  refine g_iconst (pc := 0) C dX1_litAmong_0 ?_
  refine g_istore_n (pc := 1) (lv' := [(3, .int (iI 0)), (0, .ref (q 9)), (1, .int (iI a)), (2, .int (iI b))]) C dX1_litAmong_1 rfl (by decide) rfl ?_
  refine g_iload_n (pc := 2) C dX1_litAmong_2 rfl rfl ?_
  refine g_istore (pc := 3) (lv' := [(4, .int (iI a)), (3, .int (iI 0)), (0, .ref (q 9)), (1, .int (iI a)), (2, .int (iI b))]) C dX1_litAmong_3 (by decide) rfl ?_
  have loop5 : ∀ (fu : Nat) (acc : Int) (i : Int), (a ≤ i ∧ i ≤ b) → (acc = sm (fun j => if 0 < S 9 j then 1 else 0) a i) → b - i < (fu : Int) → hG p l e (rmL 0) s m args below meth c 5 K A 0 0 (QI K A below args s (fun z w => z = sm (fun j => if 0 < S 9 j then 1 else 0) a b ∧ w = (wX K q S))) 5 [(4, .int (iI i)), (3, .int (iI acc)), (0, .ref (q 9)), (1, .int (iI a)), (2, .int (iI b))] [] (wX K q S) := by
    intro fu
    induction fu with
    | zero =>
      intro acc i h1 h2 hm
      exact absurd hm (by omega)
    | succ fu ih5 =>
      intro acc i h1 h2 hm
      refine g_iload (pc := 5) C dX1_litAmong_5 rfl ?_
      refine g_iload_n (pc := 7) C dX1_litAmong_7 rfl rfl ?_
      refine g_icmp_ge (pc := 8) (tgt := 27) C dX1_litAmong_8 (by decide) (by omega) (by omega) (fun c1 => ?_) (fun c1 => ?_)
      · refine g_iload_n (pc := 27) C dX1_litAmong_27 rfl rfl ?_
        exact g_ireturn (pc := 28) C rfl dX1_litAmong_28 ⟨by rw [h2, show i = b by omega], rfl⟩
      · refine g_aload_n (pc := 11) C dX1_litAmong_11 rfl rfl ?_
        refine g_iload (pc := 12) C dX1_litAmong_12 rfl ?_
        refine g_iaload (pc := 14) C 9 rfl (by omega) dX1_litAmong_14 ?_
        have bd2 := hf i (by omega) (by omega)
        refine g_if_le (pc := 15) (tgt := 21) C dX1_litAmong_15 (by decide) (by omega) (fun c3 => ?_) (fun c3 => ?_)
        · refine g_iinc (pc := 21) (lv' := [(4, .int (iI (i + 1))), (3, .int (iI acc)), (0, .ref (q 9)), (1, .int (iI a)), (2, .int (iI b))]) C dX1_litAmong_21 rfl (by decide) rfl ?_
          refine g_goto (pc := 24) (tgt := 5) C dX1_litAmong_24 (by decide) ?_
          exact ih5 acc (i + 1) (by omega) (by rw [sm_s _ h1.1, ← h2]; split <;> omega) (by omega)
        · refine g_iinc (pc := 18) (lv' := [(3, .int (iI (acc + 1))), (4, .int (iI i)), (0, .ref (q 9)), (1, .int (iI a)), (2, .int (iI b))]) C dX1_litAmong_18 rfl (by decide) rfl ?_
          refine g_iinc (pc := 21) (lv' := [(4, .int (iI (i + 1))), (3, .int (iI (acc + 1))), (0, .ref (q 9)), (1, .int (iI a)), (2, .int (iI b))]) C dX1_litAmong_21 rfl (by decide) rfl ?_
          refine g_goto (pc := 24) (tgt := 5) C dX1_litAmong_24 (by decide) ?_
          exact ih5 (acc + 1) (i + 1) (by omega) (by rw [sm_s _ h1.1, ← h2]; split <;> omega) (by omega)
  exact loop5 (92) 0 a (by omega) (by rw [sm_0]) (by omega)

set_option maxHeartbeats 4000000 in
set_option maxRecDepth 100000 in
theorem c_X1_litAmong_11 (l : Launch) (K : KK) (q : Nat → Nat) (S : Nat → Int → Int) (a b : Int) (ha : 0 ≤ a ∧ a ≤ b ∧ b ≤ 91) (hf : ∀ j, 0 ≤ j → j < b → 0 ≤ S 11 j ∧ S 11 j ≤ 100000) : hMI l yX1_litAmong wsX1_litAmong (rmL 0) K [.ref (q 11), .int (iI a), .int (iI b)] (wX K q S) (fun z w => z = sm (fun j => if 0 < S 11 j then 1 else 0) a b ∧ w = (wX K q S)) := by
  refine in_MI (cc := cX1_litAmong) (maxL := 5) (rt := (some .int)) (lv := [(0, .ref (q 11)), (1, .int (iI a)), (2, .int (iI b))]) (by decide) rfl (Nat.le_of_ble_eq_true rfl) rfl ?_
  intro p e s m args below meth c A C
  refine g_iconst (pc := 0) C dX1_litAmong_0 ?_
  refine g_istore_n (pc := 1) (lv' := [(3, .int (iI 0)), (0, .ref (q 11)), (1, .int (iI a)), (2, .int (iI b))]) C dX1_litAmong_1 rfl (by decide) rfl ?_
  refine g_iload_n (pc := 2) C dX1_litAmong_2 rfl rfl ?_
  refine g_istore (pc := 3) (lv' := [(4, .int (iI a)), (3, .int (iI 0)), (0, .ref (q 11)), (1, .int (iI a)), (2, .int (iI b))]) C dX1_litAmong_3 (by decide) rfl ?_
  have loop5 : ∀ (fu : Nat) (acc : Int) (i : Int), (a ≤ i ∧ i ≤ b) → (acc = sm (fun j => if 0 < S 11 j then 1 else 0) a i) → b - i < (fu : Int) → hG p l e (rmL 0) s m args below meth c 5 K A 0 0 (QI K A below args s (fun z w => z = sm (fun j => if 0 < S 11 j then 1 else 0) a b ∧ w = (wX K q S))) 5 [(4, .int (iI i)), (3, .int (iI acc)), (0, .ref (q 11)), (1, .int (iI a)), (2, .int (iI b))] [] (wX K q S) := by
    intro fu
    induction fu with
    | zero =>
      intro acc i h1 h2 hm
      exact absurd hm (by omega)
    | succ fu ih5 =>
      intro acc i h1 h2 hm
      refine g_iload (pc := 5) C dX1_litAmong_5 rfl ?_
      refine g_iload_n (pc := 7) C dX1_litAmong_7 rfl rfl ?_
      refine g_icmp_ge (pc := 8) (tgt := 27) C dX1_litAmong_8 (by decide) (by omega) (by omega) (fun c1 => ?_) (fun c1 => ?_)
      · refine g_iload_n (pc := 27) C dX1_litAmong_27 rfl rfl ?_
        exact g_ireturn (pc := 28) C rfl dX1_litAmong_28 ⟨by rw [h2, show i = b by omega], rfl⟩
      · refine g_aload_n (pc := 11) C dX1_litAmong_11 rfl rfl ?_
        refine g_iload (pc := 12) C dX1_litAmong_12 rfl ?_
        refine g_iaload (pc := 14) C 11 rfl (by omega) dX1_litAmong_14 ?_
        have bd2 := hf i (by omega) (by omega)
        refine g_if_le (pc := 15) (tgt := 21) C dX1_litAmong_15 (by decide) (by omega) (fun c3 => ?_) (fun c3 => ?_)
        · refine g_iinc (pc := 21) (lv' := [(4, .int (iI (i + 1))), (3, .int (iI acc)), (0, .ref (q 11)), (1, .int (iI a)), (2, .int (iI b))]) C dX1_litAmong_21 rfl (by decide) rfl ?_
          refine g_goto (pc := 24) (tgt := 5) C dX1_litAmong_24 (by decide) ?_
          exact ih5 acc (i + 1) (by omega) (by rw [sm_s _ h1.1, ← h2]; split <;> omega) (by omega)
        · refine g_iinc (pc := 18) (lv' := [(3, .int (iI (acc + 1))), (4, .int (iI i)), (0, .ref (q 11)), (1, .int (iI a)), (2, .int (iI b))]) C dX1_litAmong_18 rfl (by decide) rfl ?_
          refine g_iinc (pc := 21) (lv' := [(4, .int (iI (i + 1))), (3, .int (iI (acc + 1))), (0, .ref (q 11)), (1, .int (iI a)), (2, .int (iI b))]) C dX1_litAmong_21 rfl (by decide) rfl ?_
          refine g_goto (pc := 24) (tgt := 5) C dX1_litAmong_24 (by decide) ?_
          exact ih5 (acc + 1) (i + 1) (by omega) (by rw [sm_s _ h1.1, ← h2]; split <;> omega) (by omega)
  exact loop5 (92) 0 a (by omega) (by rw [sm_0]) (by omega)

set_option maxHeartbeats 4000000 in
set_option maxRecDepth 100000 in
theorem c_X1_doorsShut (l : Launch) (K : KK) (q : Nat → Nat) (S : Nat → Int → Int) (hn : 7 ≤ S 0 10 ∧ S 0 10 ≤ 91) (hh : ∀ j, 0 ≤ j → j < 546 → 0 ≤ S 8 j ∧ S 8 j ≤ 1) : hMI l yX1_doorsShut wsX1_doorsShut (rmL 1) K [.ref (q 0)] (wX K q S) (fun z w => z = sm (fun r => sm (fun t => if S 8 (r * 6 + t) = 0 then 0 else 1) 0 3) 0 (S 0 10) ∧ w = (wX K q S)) := by
  refine in_MI (cc := cX1_doorsShut) (maxL := 4) (rt := (some .int)) (lv := [(0, .ref (q 0))]) (by decide) rfl (Nat.le_of_ble_eq_true rfl) rfl ?_
  intro p e s m args below meth c A C
  have hinX1 : ∀ w ∈ wsX10, w ∈ wsX1_doorsShut := by decide +kernel
  refine g_iconst (pc := 0) C dX1_doorsShut_0 ?_
  refine g_istore_n (pc := 1) (lv' := [(1, .int (iI 0)), (0, .ref (q 0))]) C dX1_doorsShut_1 rfl (by decide) rfl ?_
  refine g_iconst (pc := 2) C dX1_doorsShut_2 ?_
  refine g_istore_n (pc := 3) (lv' := [(2, .int (iI 0)), (1, .int (iI 0)), (0, .ref (q 0))]) C dX1_doorsShut_3 rfl (by decide) rfl ?_
  have loop4 : ∀ (fu : Nat) (acc : Int) (r : Int), (0 ≤ r ∧ r ≤ S 0 10) → (acc = sm (fun r => sm (fun t => if S 8 (r * 6 + t) = 0 then 0 else 1) 0 3) 0 r) → S 0 10 - r < (fu : Int) → hG p l e (rmL 1) s m args below meth c 4 K A 0 0 (QI K A below args s (fun z w => z = sm (fun r => sm (fun t => if S 8 (r * 6 + t) = 0 then 0 else 1) 0 3) 0 (S 0 10) ∧ w = (wX K q S))) 4 [(2, .int (iI r)), (1, .int (iI acc)), (0, .ref (q 0))] [] (wX K q S) := by
    intro fu
    induction fu with
    | zero =>
      intro acc r h1 h2 hm
      exact absurd hm (by omega)
    | succ fu ih4 =>
      intro acc r h1 h2 hm
      refine g_iload_n (pc := 4) C dX1_doorsShut_4 rfl rfl ?_
      refine g_aload_n (pc := 5) C dX1_doorsShut_5 rfl rfl ?_
      refine g_get (pc := 6) (ref := "HexRooms") (ci := 1) (N := 11) C 0 rfl rfl hinX1 10 (by decide) (by decide +kernel) rfl rfl dX1_doorsShut_6 ?_
      refine g_icmp_ge (pc := 9) (tgt := 47) C dX1_doorsShut_9 (by decide) (by omega) (by omega) (fun c1 => ?_) (fun c1 => ?_)
      · refine g_iload_n (pc := 47) C dX1_doorsShut_47 rfl rfl ?_
        exact g_ireturn (pc := 48) C rfl dX1_doorsShut_48 ⟨by rw [h2, show r = S 0 10 by omega], rfl⟩
      · refine g_iconst (pc := 12) C dX1_doorsShut_12 ?_
        refine g_istore_n (pc := 13) (lv' := [(3, .int (iI 0)), (2, .int (iI r)), (1, .int (iI acc)), (0, .ref (q 0))]) C dX1_doorsShut_13 rfl (by decide) rfl ?_
        have loop14 : ∀ (fu : Nat) (ac2 : Int) (t : Int), (0 ≤ t ∧ t ≤ 3) → (ac2 = acc + sm (fun t => if S 8 (r * 6 + t) = 0 then 0 else 1) 0 t) → 3 - t < (fu : Int) → hG p l e (rmL 1) s m args below meth c 4 K A 0 0 (QI K A below args s (fun z w => z = sm (fun r => sm (fun t => if S 8 (r * 6 + t) = 0 then 0 else 1) 0 3) 0 (S 0 10) ∧ w = (wX K q S))) 14 [(3, .int (iI t)), (2, .int (iI r)), (1, .int (iI ac2)), (0, .ref (q 0))] [] (wX K q S) := by
          intro fu
          induction fu with
          | zero =>
            intro ac2 t h3 h4 hm
            exact absurd hm (by omega)
          | succ fu ih14 =>
            intro ac2 t h3 h4 hm
            refine g_iload_n (pc := 14) C dX1_doorsShut_14 rfl rfl ?_
            refine g_iconst (pc := 15) C dX1_doorsShut_15 ?_
            refine g_icmp_ge (pc := 16) (tgt := 41) C dX1_doorsShut_16 (by decide) (by omega) (by omega) (fun c2 => ?_) (fun c2 => ?_)
            · refine g_iinc (pc := 41) (lv' := [(2, .int (iI (r + 1))), (3, .int (iI t)), (1, .int (iI ac2)), (0, .ref (q 0))]) C dX1_doorsShut_41 rfl (by decide) rfl ?_
              refine g_goto (pc := 44) (tgt := 4) C dX1_doorsShut_44 (by decide) ?_
              refine g_sub (lv' := [(2, .int (iI (r + 1))), (1, .int (iI ac2)), (0, .ref (q 0))]) [0, 2, 3] rfl ?_
              exact ih4 ac2 (r + 1) (by omega) (by rw [sm_s _ h1.1, h4, h2, show t = 3 by omega]) (by omega)
            · refine g_aload_n (pc := 19) C dX1_doorsShut_19 rfl rfl ?_
              refine g_get (pc := 20) (ref := "HexRooms") (ci := 1) (N := 11) C 0 rfl rfl hinX1 2 (by decide) (by decide +kernel) rfl rfl dX1_doorsShut_20 ?_
              refine g_iload_n (pc := 23) C dX1_doorsShut_23 rfl rfl ?_
              refine g_iload_n (pc := 24) C dX1_doorsShut_24 rfl rfl ?_
              refine g_callSI (pc := 25) (As := [.int (iI r), .int (iI t)]) (rest := [.ref (q 8)]) C (c_X1_doorOf l K _ r t) (cwS 2 C.hts gX1_doorsShut_X1_doorOf rfl rfl rfl (by decide +kernel) ⟨by decide, by decide⟩) dX1_doorsShut_25 rfl (Nat.le_of_ble_eq_true rfl) ⟨Nat.zero_le _, Nat.zero_le _⟩ (fun z w hp => ?_)
              obtain ⟨rfl, rfl⟩ := hp
              refine g_baload (pc := 28) C 8 rfl (by omega) dX1_doorsShut_28 ?_
              have bd3 := hh (r * 6 + t) (by omega) (by omega)
              refine g_if_eq (pc := 29) (tgt := 35) C dX1_doorsShut_29 (by decide) (by omega) (fun c4 => ?_) (fun c4 => ?_)
              · refine g_iinc (pc := 35) (lv' := [(3, .int (iI (t + 1))), (2, .int (iI r)), (1, .int (iI ac2)), (0, .ref (q 0))]) C dX1_doorsShut_35 rfl (by decide) rfl ?_
                refine g_goto (pc := 38) (tgt := 14) C dX1_doorsShut_38 (by decide) ?_
                exact ih14 ac2 (t + 1) (by omega) (by rw [sm_s _ h3.1, h4]; split <;> omega) (by omega)
              · refine g_iinc (pc := 32) (lv' := [(1, .int (iI (ac2 + 1))), (3, .int (iI t)), (2, .int (iI r)), (0, .ref (q 0))]) C dX1_doorsShut_32 rfl (by decide) rfl ?_
                refine g_iinc (pc := 35) (lv' := [(3, .int (iI (t + 1))), (1, .int (iI (ac2 + 1))), (2, .int (iI r)), (0, .ref (q 0))]) C dX1_doorsShut_35 rfl (by decide) rfl ?_
                refine g_goto (pc := 38) (tgt := 14) C dX1_doorsShut_38 (by decide) ?_
                refine g_sub (lv' := [(3, .int (iI (t + 1))), (2, .int (iI r)), (1, .int (iI (ac2 + 1))), (0, .ref (q 0))]) [0, 2, 1, 3] rfl ?_
                exact ih14 (ac2 + 1) (t + 1) (by omega) (by rw [sm_s _ h3.1, h4]; split <;> omega) (by omega)
        exact loop14 (4) acc 0 (by omega) (by rw [sm_0]; omega) (by omega)
  exact loop4 (92) 0 0 (by omega) (by rw [sm_0]) (by omega)
