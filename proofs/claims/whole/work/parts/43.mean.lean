set_option maxHeartbeats 400000 in
set_option maxRecDepth 100000 in
theorem c_X1_mean (l : Launch) (K : KK) (q : Nat → Nat) (S : Nat → Int → Int) (H : HS S) (Lk : LK S) : hMD l yX1_mean wsX1_mean (rmL 8) K [.ref (q 0)] (wX K q S) (fun r w => MN (S 0 10) (S 7) (S 8) r ∧ w = wX K q S) := by
  have hn := H.n
  have hf := H.hf
  have hh := H.hh
  have hk9 := H.1
  have hL := Lk.b hn
  refine in_MD (cc := cX1_mean) (maxL := 4) (rt := (some .double)) (lv := [(0, .ref (q 0))]) (by decide) rfl (Nat.le_of_ble_eq_true rfl) rfl rfl dX1_mean_52 dX1_mean_53 ?_
  intro p e s m args below meth c A Q hE0 hED C
  have hinX1 : ∀ w ∈ wsX10, w ∈ wsX1_mean := by decide +kernel
  refine g_aload_n (pc := 0) C dX1_mean_0 rfl rfl ?_
  refine g_get (pc := 1) (ref := "HexRooms") (ci := 1) (N := 11) C 0 rfl rfl hinX1 3 (by decide) (by decide +kernel) rfl rfl dX1_mean_1 ?_
  refine g_iconst (pc := 4) C dX1_mean_4 ?_
  refine g_aload_n (pc := 5) C dX1_mean_5 rfl rfl ?_
  refine g_get (pc := 6) (ref := "HexRooms") (ci := 1) (N := 11) C 0 rfl rfl hinX1 10 (by decide) (by decide +kernel) rfl rfl dX1_mean_6 ?_
  refine g_callSI (pc := 9) (As := [.ref (q 9), .int (iI 0), .int (iI ((S 0) 10))]) (rest := []) C (c_X1_litAmong_9 l K q S 0 ((S 0) 10) (by omega) (fun j h0 h1 => hL j h0 (by omega))) (cwS 3 C.hts gX1_mean_X1_litAmong rfl rfl rfl (by decide +kernel) ⟨by decide, by decide⟩) dX1_mean_9 rfl (Nat.le_of_ble_eq_true rfl) ⟨Nat.zero_le _, Nat.zero_le _⟩ (fun lz w hp => ?_)
  obtain ⟨hlz, rfl⟩ := hp
  have hlz : lz = LIT (S 0 10) (S 7) (S 8) := hlz.trans (sm_cong (fun j h0 h1 => by
    show (if 0 < S 9 j then (1 : Int) else 0) = if 0 < LT (S 0 10) (S 7) (S 8) (S 0 10) j then 1 else 0
    rw [Lk j (by omega) (by omega)]))
  have hlb := LIT_b (n := S 0 10) (by omega) (S 7) (S 8)
  rw [← hlz] at hlb
  refine g_istore_n (pc := 12) (lv' := [(1, .int (iI lz)), (0, .ref (q 0))]) C dX1_mean_12 rfl (by decide) rfl ?_
  refine g_iconst (pc := 13) C dX1_mean_13 ?_
  refine g_istore_n (pc := 14) (lv' := [(2, .int (iI 0)), (1, .int (iI lz)), (0, .ref (q 0))]) C dX1_mean_14 rfl (by decide) rfl ?_
  refine g_iconst (pc := 15) C dX1_mean_15 ?_
  refine g_istore_n (pc := 16) (lv' := [(3, .int (iI 0)), (2, .int (iI 0)), (1, .int (iI lz)), (0, .ref (q 0))]) C dX1_mean_16 rfl (by decide) rfl ?_
  have loop17 : ∀ (fu : Nat) (acc : Int) (i : Int), (0 ≤ i ∧ i ≤ S 0 10) → (acc = sm (fun j => LT (S 0 10) (S 7) (S 8) (S 0 10) j) 0 i) → S 0 10 - i < (fu : Int) → hG p l e (rmL 8) s m args below meth c 4 K A 0 0 Q 17 [(3, .int (iI i)), (2, .int (iI acc)), (1, .int (iI lz)), (0, .ref (q 0))] [] (wX K q S) := by
    intro fu
    induction fu with
    | zero =>
      intro acc i h1 h2 hm
      exact absurd hm (by omega)
    | succ fu ih17 =>
      intro acc i h1 h2 hm
      refine g_iload_n (pc := 17) C dX1_mean_17 rfl rfl ?_
      refine g_aload_n (pc := 18) C dX1_mean_18 rfl rfl ?_
      refine g_get (pc := 19) (ref := "HexRooms") (ci := 1) (N := 11) C 0 rfl rfl hinX1 10 (by decide) (by decide +kernel) rfl rfl dX1_mean_19 ?_
      refine g_icmp_ge (pc := 22) (tgt := 40) C dX1_mean_22 (by decide) (by omega) (by omega) (fun c1 => ?_) (fun c1 => ?_)
      · refine g_iload_n (pc := 40) C dX1_mean_40 rfl rfl ?_
        refine g_if_ne (pc := 41) (tgt := 48) C dX1_mean_41 (by decide) (by omega) (fun c2 => ?_) (fun c2 => ?_)
        · refine g_iload_n (pc := 48) C dX1_mean_48 rfl rfl ?_
          refine g_i2d (pc := 49) C dX1_mean_49 ?_
          refine g_iload_n (pc := 50) C dX1_mean_50 rfl rfl ?_
          refine g_i2d (pc := 51) C dX1_mean_51 ?_
          exact hED _ _ _ _ (fun r hr => ⟨Or.inr ⟨by rw [← hlz]; omega, by
            rw [← hlz, show SUM (S 0 10) (S 7) (S 8) = acc by rw [h2, show i = S 0 10 by omega]; rfl]
            exact hr⟩, rfl⟩)
        · refine g_dconst0 (pc := 44) C dX1_mean_44 ?_
          refine g_goto (pc := 45) (tgt := 53) C dX1_mean_45 (by decide) ?_
          exact hE0 _ _ _ (⟨Or.inl ⟨by rw [← hlz]; omega, rfl⟩, rfl⟩)
      · refine g_iload_n (pc := 25) C dX1_mean_25 rfl rfl ?_
        refine g_aload_n (pc := 26) C dX1_mean_26 rfl rfl ?_
        refine g_get (pc := 27) (ref := "HexRooms") (ci := 1) (N := 11) C 0 rfl rfl hinX1 3 (by decide) (by decide +kernel) rfl rfl dX1_mean_27 ?_
        refine g_iload_n (pc := 30) C dX1_mean_30 rfl rfl ?_
        refine g_iaload (pc := 31) C 9 rfl (by omega) dX1_mean_31 ?_
        refine g_iadd (pc := 32) C dX1_mean_32 ?_
        refine g_istore_n (pc := 33) (lv' := [(2, .int (iI (acc + ((S 9) i)))), (3, .int (iI i)), (1, .int (iI lz)), (0, .ref (q 0))]) C dX1_mean_33 rfl (by decide) rfl ?_
        refine g_iinc (pc := 34) (lv' := [(3, .int (iI (i + 1))), (2, .int (iI (acc + ((S 9) i)))), (1, .int (iI lz)), (0, .ref (q 0))]) C dX1_mean_34 rfl (by decide) rfl ?_
        refine g_goto (pc := 37) (tgt := 17) C dX1_mean_37 (by decide) ?_
        exact ih17 (acc + ((S 9) i)) (i + 1) (by omega) (by rw [sm_s _ h1.1, ← h2, ← Lk i h1.1 (by omega)]) (by omega)
  exact loop17 (92) 0 0 (by omega) (by rw [sm_0]) (by omega)

set_option maxHeartbeats 400000 in
set_option maxRecDepth 100000 in
theorem c_X2_mean (l : Launch) (K : KK) (q : Nat → Nat) (S : Nat → Int → Int) (H : HT S) (hf : ∀ j, 0 ≤ j → j < S 0 2 → 0 ≤ S 4 j ∧ S 4 j ≤ 2) (hh : ∀ j, 0 ≤ j → j < 546 → 0 ≤ S 6 j ∧ S 6 j ≤ 1) : hMD l yX2_mean wsX2_mean (rmL 8) K [.ref (q 0)] (wM K q S) (fun r w => MN (S 0 2) (S 4) (S 6) r ∧ ∃ S2, w = wM K q S2 ∧ UM S S2 (S 4) (S 6) 0) := by
  have hn := H.n
  have hk9 := H.1
  refine in_MD (cc := cX2_mean) (maxL := 4) (rt := (some .double)) (lv := [(0, .ref (q 0))]) (by decide) rfl (Nat.le_of_ble_eq_true rfl) rfl rfl dX2_mean_49 dX2_mean_50 ?_
  intro p e s m args below meth c A Q hE0 hED C
  have hinX2 : ∀ w ∈ wsX20, w ∈ wsX2_mean := by decide +kernel
  refine g_aload_n (pc := 0) C dX2_mean_0 rfl rfl ?_
  refine g_iconst (pc := 1) C dX2_mean_1 ?_
  refine g_put (pc := 2) (ref := "HexRoomsModel") (ci := 2) (N := 13) (ws' := (wM K q (sA S 0 (fU (S 0) 0 0)))) C 0 rfl rfl hinX2 tyX2 tyX2_ok nmX2 0 (by decide) (by decide +kernel) rfl rfl rfl (Nat.le_of_ble_eq_true rfl) dX2_mean_2 rfl ?_
  refine g_aload_n (pc := 5) C dX2_mean_5 rfl rfl ?_
  refine g_callVI (pc := 6) (As := []) (rest := []) C (c_X2_lit l K q (sA S 0 (fU (S 0) 0 0)) H hf hh) (cwV 0 C.hts gX2_mean_X2_lit rfl rfl rfl (by decide +kernel) ⟨by decide, by decide⟩) 0 rfl rfl dX2_mean_6 rfl (Nat.le_of_ble_eq_true rfl) ⟨Nat.zero_le _, Nat.zero_le _⟩ (fun lz w hp => ?_)
  obtain ⟨hlz, L6, rfl, hL6⟩ := hp
  have hlz : lz = LIT (S 0 2) (S 4) (S 6) := hlz
  have hlb := LIT_b (n := S 0 2) (by omega) (S 4) (S 6)
  rw [← hlz] at hlb
  have hL6 : ∀ j, 0 ≤ j → j < S 0 2 → L6 j = LT (S 0 2) (S 4) (S 6) (S 0 2) j := hL6
  refine g_istore_n (pc := 9) (lv' := [(1, .int (iI lz)), (0, .ref (q 0))]) C dX2_mean_9 rfl (by decide) rfl ?_
  refine g_iconst (pc := 10) C dX2_mean_10 ?_
  refine g_istore_n (pc := 11) (lv' := [(2, .int (iI 0)), (1, .int (iI lz)), (0, .ref (q 0))]) C dX2_mean_11 rfl (by decide) rfl ?_
  refine g_iconst (pc := 12) C dX2_mean_12 ?_
  refine g_istore_n (pc := 13) (lv' := [(3, .int (iI 0)), (2, .int (iI 0)), (1, .int (iI lz)), (0, .ref (q 0))]) C dX2_mean_13 rfl (by decide) rfl ?_
  have loop14 : ∀ (fu : Nat) (acc : Int) (i : Int), (0 ≤ i ∧ i ≤ S 0 2) → (acc = sm (fun j => LT (S 0 2) (S 4) (S 6) (S 0 2) j) 0 i) → S 0 2 - i < (fu : Int) → hG p l e (rmL 8) s m args below meth c 4 K A 0 0 Q 14 [(3, .int (iI i)), (2, .int (iI acc)), (1, .int (iI lz)), (0, .ref (q 0))] [] (wM K q (sA (sA S 0 (fU (S 0) 0 0)) 7 L6)) := by
    intro fu
    induction fu with
    | zero =>
      intro acc i h1 h2 hm
      exact absurd hm (by omega)
    | succ fu ih14 =>
      intro acc i h1 h2 hm
      refine g_iload_n (pc := 14) C dX2_mean_14 rfl rfl ?_
      refine g_aload_n (pc := 15) C dX2_mean_15 rfl rfl ?_
      refine g_get (pc := 16) (v := .int (iI ((S 0) 2))) (ref := "HexRoomsModel") (ci := 2) (N := 13) C 0 rfl rfl hinX2 2 (by decide) (by decide +kernel) rfl rfl dX2_mean_16 ?_
      refine g_icmp_ge (pc := 19) (tgt := 37) C dX2_mean_19 (by decide) (by omega) (by omega) (fun c1 => ?_) (fun c1 => ?_)
      · refine g_iload_n (pc := 37) C dX2_mean_37 rfl rfl ?_
        refine g_if_ne (pc := 38) (tgt := 45) C dX2_mean_38 (by decide) (by omega) (fun c2 => ?_) (fun c2 => ?_)
        · refine g_iload_n (pc := 45) C dX2_mean_45 rfl rfl ?_
          refine g_i2d (pc := 46) C dX2_mean_46 ?_
          refine g_iload_n (pc := 47) C dX2_mean_47 rfl rfl ?_
          refine g_i2d (pc := 48) C dX2_mean_48 ?_
          exact hED _ _ _ _ (fun r hr => ⟨Or.inr ⟨by rw [← hlz]; omega, by
            rw [← hlz, show SUM (S 0 2) (S 4) (S 6) = acc by rw [h2, show i = S 0 2 by omega]; rfl]
            exact hr⟩, _, rfl, (by first | rfl | exact fU_fU _ _ _ _), rfl, rfl, rfl, rfl, rfl, rfl⟩)
        · refine g_dconst0 (pc := 41) C dX2_mean_41 ?_
          refine g_goto (pc := 42) (tgt := 50) C dX2_mean_42 (by decide) ?_
          exact hE0 _ _ _ (⟨Or.inl ⟨by rw [← hlz]; omega, rfl⟩, _, rfl, (by first | rfl | exact fU_fU _ _ _ _), rfl, rfl, rfl, rfl, rfl, rfl⟩)
      · refine g_iload_n (pc := 22) C dX2_mean_22 rfl rfl ?_
        refine g_aload_n (pc := 23) C dX2_mean_23 rfl rfl ?_
        refine g_get (pc := 24) (ref := "HexRoomsModel") (ci := 2) (N := 13) C 0 rfl rfl hinX2 9 (by decide) (by decide +kernel) rfl rfl dX2_mean_24 ?_
        refine g_iload_n (pc := 27) C dX2_mean_27 rfl rfl ?_
        refine g_iaload (pc := 28) (f := L6) C 7 rfl (by omega) dX2_mean_28 ?_
        refine g_iadd (pc := 29) C dX2_mean_29 ?_
        refine g_istore_n (pc := 30) (lv' := [(2, .int (iI (acc + (L6 i)))), (3, .int (iI i)), (1, .int (iI lz)), (0, .ref (q 0))]) C dX2_mean_30 rfl (by decide) rfl ?_
        refine g_iinc (pc := 31) (lv' := [(3, .int (iI (i + 1))), (2, .int (iI (acc + (L6 i)))), (1, .int (iI lz)), (0, .ref (q 0))]) C dX2_mean_31 rfl (by decide) rfl ?_
        refine g_goto (pc := 34) (tgt := 14) C dX2_mean_34 (by decide) ?_
        exact ih14 (acc + (L6 i)) (i + 1) (by omega) (by rw [sm_s _ h1.1, ← h2, ← hL6 i h1.1 (by omega)]) (by omega)
  exact loop14 (92) 0 0 (by omega) (by rw [sm_0]) (by omega)
