set_option maxHeartbeats 4000000 in
set_option maxRecDepth 100000 in
theorem c_X1_beamFrom_7 (l : Launch) (K : KK) (q : Nat → Nat) (S : Nat → Int → Int) (hn : 7 ≤ S 0 10 ∧ S 0 10 ≤ 91) (hf : ∀ j, 0 ≤ j → j < S 0 10 → 0 ≤ S 7 j ∧ S 7 j ≤ 2) (hh : ∀ j, 0 ≤ j → j < 546 → 0 ≤ S 8 j ∧ S 8 j ≤ 1) (r : Int) (hr : 0 ≤ r ∧ r < S 0 10) : hMI l yX1_beamFrom wsX1_beamFrom (rmL 4) K [.ref (q 0), .ref (q 7), .int (iI r)] (wX K q S) (fun z w => z = ((beam (S 0 10) (S 7) (S 8) r).length : Int) ∧ ∃ b : Int → Int, w = wX K q (sA S 12 b) ∧ ∀ i, 0 ≤ i → i < z → b i = lg (beam (S 0 10) (S 7) (S 8) r) i) := by
  refine in_MI (cc := cX1_beamFrom) (maxL := 6) (rt := (some .int)) (lv := [(0, .ref (q 0)), (1, .ref (q 7)), (2, .int (iI r))]) (by decide) rfl (Nat.le_of_ble_eq_true rfl) rfl ?_
  intro p e s m args below meth c A C
  have hinX1 : ∀ w ∈ wsX10, w ∈ wsX1_beamFrom := by decide +kernel
  refine g_aload_n (pc := 0) C dX1_beamFrom_0 rfl rfl ?_
  refine g_get (pc := 1) (ref := "HexRooms") (ci := 1) (N := 11) C 0 rfl rfl hinX1 6 (by decide) (by decide +kernel) rfl rfl dX1_beamFrom_1 ?_
  refine g_iconst (pc := 4) C dX1_beamFrom_4 ?_
  refine g_iload_n (pc := 5) C dX1_beamFrom_5 rfl rfl ?_
  refine g_iastore (pc := 6) (ws' := (wX K q (sA S 12 (fU (S 12) 0 r)))) C 12 rfl (by omega) dX1_beamFrom_6 rfl ?_
  refine g_iconst (pc := 7) C dX1_beamFrom_7 ?_
  refine g_istore_n (pc := 8) (lv' := [(3, .int (iI 1)), (0, .ref (q 0)), (1, .ref (q 7)), (2, .int (iI r))]) C dX1_beamFrom_8 rfl (by decide) rfl ?_
  refine g_iconst (pc := 9) C dX1_beamFrom_9 ?_
  refine g_istore (pc := 10) (lv' := [(4, .int (iI 0)), (3, .int (iI 1)), (0, .ref (q 0)), (1, .ref (q 7)), (2, .int (iI r))]) C dX1_beamFrom_10 (by decide) rfl ?_
  have loop12 : ∀ (fu : Nat) (b : Int → Int) (sn : Int) (t : Int), (0 ≤ t ∧ t ≤ 6) → (sn = ((bm (S 0 10) (S 7) (S 8) r t.toNat).length : Int)) → (∀ i, 0 ≤ i → i < sn → b i = lg (bm (S 0 10) (S 7) (S 8) r t.toNat) i) → 6 - t < (fu : Int) → hG p l e (rmL 4) s m args below meth c 6 K A 0 0 (QI K A below args s (fun z w => z = ((beam (S 0 10) (S 7) (S 8) r).length : Int) ∧ ∃ b : Int → Int, w = wX K q (sA S 12 b) ∧ ∀ i, 0 ≤ i → i < z → b i = lg (beam (S 0 10) (S 7) (S 8) r) i)) 12 [(4, .int (iI t)), (3, .int (iI sn)), (0, .ref (q 0)), (1, .ref (q 7)), (2, .int (iI r))] [] (wX K q (sA S 12 b)) := by
    intro fu
    induction fu with
    | zero =>
      intro b sn t h1 h2 h3 hm
      exact absurd hm (by omega)
    | succ fu ih12 =>
      intro b sn t h1 h2 h3 hm
      refine g_iload (pc := 12) C dX1_beamFrom_12 rfl ?_
      refine g_bipush (pc := 14) C dX1_beamFrom_14 (by decide +kernel) ?_
      refine g_icmp_ge (pc := 16) (tgt := 72) C dX1_beamFrom_16 (by decide) (by omega) (by omega) (fun c1 => ?_) (fun c1 => ?_)
      · refine g_iload_n (pc := 72) C dX1_beamFrom_72 rfl rfl ?_
        exact g_ireturn (pc := 73) C rfl dX1_beamFrom_73 ⟨by rw [h2, show t = 6 by omega]; rfl, b, rfl, by rw [show t = 6 by omega] at h3; exact h3⟩
      · refine g_aload_n (pc := 19) C dX1_beamFrom_19 rfl rfl ?_
        refine g_aload_n (pc := 20) C dX1_beamFrom_20 rfl rfl ?_
        refine g_iload_n (pc := 21) C dX1_beamFrom_21 rfl rfl ?_
        refine g_iload (pc := 22) C dX1_beamFrom_22 rfl ?_
        refine g_callVI (pc := 24) (As := [.ref (q 7), .int (iI r), .int (iI t)]) (rest := []) C (c_X1_onward_7 l K q (sA S 12 b) hn hf hh r t (by omega) (by omega)) (cwV 3 C.hts gX1_beamFrom_X1_onward rfl rfl rfl (by decide +kernel) ⟨by decide, by decide⟩) 0 rfl rfl dX1_beamFrom_24 rfl (Nat.le_of_ble_eq_true rfl) ⟨Nat.zero_le _, Nat.zero_le _⟩ (fun z w hp => ?_)
        obtain ⟨rfl, rfl⟩ := hp
        have hb := ON_b (S 0 10) (S 7) (S 8) r t
        refine g_istore (pc := 27) (lv' := [(5, .int (iI (ON (S 0 10) (S 7) (S 8) r t))), (4, .int (iI t)), (3, .int (iI sn)), (0, .ref (q 0)), (1, .ref (q 7)), (2, .int (iI r))]) C dX1_beamFrom_27 (by decide) rfl ?_
        have loop29 : ∀ (fu : Nat) (b2 : Int → Int) (sn2 : Int) (x : Int) (l0 : List Int) (k : Nat), (x = -1 ∨ (0 ≤ x ∧ x < S 0 10)) → (sn2 = (l0.length : Int)) → (∀ i, 0 ≤ i → i < sn2 → b2 i = lg l0 i) → (l0 ++ rayN (S 0 10) (S 7) (S 8) t k x = bm (S 0 10) (S 7) (S 8) r (t.toNat + 1)) → (MU x t ≤ k) → (sn2 + k ≤ 1 + 11 * (t + 1)) → 91 - sn2 < (fu : Int) → hG p l e (rmL 4) s m args below meth c 6 K A 0 0 (QI K A below args s (fun z w => z = ((beam (S 0 10) (S 7) (S 8) r).length : Int) ∧ ∃ b : Int → Int, w = wX K q (sA S 12 b) ∧ ∀ i, 0 ≤ i → i < z → b i = lg (beam (S 0 10) (S 7) (S 8) r) i)) 29 [(5, .int (iI x)), (4, .int (iI t)), (3, .int (iI sn2)), (0, .ref (q 0)), (1, .ref (q 7)), (2, .int (iI r))] [] (wX K q (sA S 12 b2)) := by
          intro fu
          induction fu with
          | zero =>
            intro b2 sn2 x l0 k h4 h5 h6 h7 h8 h9 hm
            exact absurd hm (by omega)
          | succ fu ih29 =>
            intro b2 sn2 x l0 k h4 h5 h6 h7 h8 h9 hm
            refine g_iload (pc := 29) C dX1_beamFrom_29 rfl ?_
            refine g_iconst (pc := 31) C dX1_beamFrom_31 ?_
            refine g_icmp_eq (pc := 32) (tgt := 66) C dX1_beamFrom_32 (by decide) (by omega) (by omega) (fun c2 => ?_) (fun c2 => ?_)
            · refine g_iinc (pc := 66) (lv' := [(4, .int (iI (t + 1))), (5, .int (iI x)), (3, .int (iI sn2)), (0, .ref (q 0)), (1, .ref (q 7)), (2, .int (iI r))]) C dX1_beamFrom_66 rfl (by decide) rfl ?_
              refine g_goto (pc := 69) (tgt := 12) C dX1_beamFrom_69 (by decide) ?_
              refine g_sub (lv' := [(4, .int (iI (t + 1))), (3, .int (iI sn2)), (0, .ref (q 0)), (1, .ref (q 7)), (2, .int (iI r))]) [0, 2, 3, 4, 5] rfl ?_
              have hl0 : l0 = bm (S 0 10) (S 7) (S 8) r (t.toNat + 1) := by
                have e := h7
                rw [show x = -1 by omega, rayN_none, List.append_nil] at e
                exact e
              exact ih12 b2 sn2 (t + 1) (by omega) (by rw [h5, hl0, show (t + 1).toNat = t.toNat + 1 by omega]) (fun i h8 h9 => by
                rw [show (t + 1).toNat = t.toNat + 1 by omega, ← hl0]
                exact h6 i h8 h9) (by omega)
            · have hk1 : ∃ k2, k = k2 + 1 := by
                have h10 := (MU_b (x := x) (t := t) (by omega) (by omega)).1
                have h11 : ¬ MU x t ≤ 0 := by
                  have h12 := (TP_f (r := x) (t := t) (by omega) (by omega)).2.1
                  unfold MU
                  rw [if_neg (by omega)]
                  omega
                exact ⟨k - 1, by omega⟩
              obtain ⟨k2, rfl⟩ := hk1
              refine g_iload_n (pc := 35) C dX1_beamFrom_35 rfl rfl ?_
              refine g_bipush (pc := 36) C dX1_beamFrom_36 (by decide +kernel) ?_
              refine g_icmp_ge (pc := 38) (tgt := 66) C dX1_beamFrom_38 (by decide) (by omega) (by omega) (fun c3 => ?_) (fun c3 => ?_)
              · exact absurd c3 (by omega)
              · refine g_aload_n (pc := 41) C dX1_beamFrom_41 rfl rfl ?_
                refine g_get (pc := 42) (ref := "HexRooms") (ci := 1) (N := 11) C 0 rfl rfl hinX1 6 (by decide) (by decide +kernel) rfl rfl dX1_beamFrom_42 ?_
                refine g_iload_n (pc := 45) C dX1_beamFrom_45 rfl rfl ?_
                refine g_iload (pc := 46) C dX1_beamFrom_46 rfl ?_
                refine g_iastore (pc := 48) (ws' := (wX K q (sA S 12 (fU b2 sn2 x)))) C 12 rfl (by omega) dX1_beamFrom_48 rfl ?_
                refine g_iinc (pc := 49) (lv' := [(3, .int (iI (sn2 + 1))), (5, .int (iI x)), (4, .int (iI t)), (0, .ref (q 0)), (1, .ref (q 7)), (2, .int (iI r))]) C dX1_beamFrom_49 rfl (by decide) rfl ?_
                refine g_aload_n (pc := 52) C dX1_beamFrom_52 rfl rfl ?_
                refine g_aload_n (pc := 53) C dX1_beamFrom_53 rfl rfl ?_
                refine g_iload (pc := 54) C dX1_beamFrom_54 rfl ?_
                refine g_iload (pc := 56) C dX1_beamFrom_56 rfl ?_
                refine g_callVI (pc := 58) (As := [.ref (q 7), .int (iI x), .int (iI t)]) (rest := []) C (c_X1_onward_7 l K q (sA S 12 (fU b2 sn2 x)) hn hf hh x t (by omega) (by omega)) (cwV 3 C.hts gX1_beamFrom_X1_onward rfl rfl rfl (by decide +kernel) ⟨by decide, by decide⟩) 0 rfl rfl dX1_beamFrom_58 rfl (Nat.le_of_ble_eq_true rfl) ⟨Nat.zero_le _, Nat.zero_le _⟩ (fun z w hp => ?_)
                obtain ⟨rfl, rfl⟩ := hp
                have hb := ON_b (S 0 10) (S 7) (S 8) x t
                refine g_istore (pc := 61) (lv' := [(5, .int (iI (ON (S 0 10) (S 7) (S 8) x t))), (3, .int (iI (sn2 + 1))), (4, .int (iI t)), (0, .ref (q 0)), (1, .ref (q 7)), (2, .int (iI r))]) C dX1_beamFrom_61 (by decide) rfl ?_
                refine g_goto (pc := 63) (tgt := 29) C dX1_beamFrom_63 (by decide) ?_
                refine g_sub (lv' := [(5, .int (iI (ON (S 0 10) (S 7) (S 8) x t))), (4, .int (iI t)), (3, .int (iI (sn2 + 1))), (0, .ref (q 0)), (1, .ref (q 7)), (2, .int (iI r))]) [0, 2, 1, 3, 4, 5] rfl ?_
                exact ih29 (fU b2 sn2 x) (sn2 + 1) (ON (S 0 10) (S 7) (S 8) x t) (l0 ++ [x]) k2 (by omega) (by rw [List.length_append]; show _ = ((l0.length + 1 : Nat) : Int); omega) (fun i h10 h11 => by
                  by_cases e : i = sn2
                  · rw [e, fU_at, lg_app2 h5]
                  · rw [fU_ne _ _ _ e, lg_app1 (by omega)]
                    exact h6 i h10 (by omega)) (by rw [← h7, rayN_some _ _ _ _ _ (by omega : ¬ x = -1), List.append_assoc]; rfl) (by have := MU_s (S 0 10) (S 7) (S 8) (x := x) (t := t) (by omega) (by omega); omega) (by omega) (by omega)
        exact loop29 (92) b sn (ON (S 0 10) (S 7) (S 8) r t) (bm (S 0 10) (S 7) (S 8) r t.toNat) 11 (by omega) h2 h3 (by show _ = bm (S 0 10) (S 7) (S 8) r t.toNat ++ ray (S 0 10) (S 7) (S 8) r t.toNat; rw [show ((t.toNat : Nat) : Int) = t by omega]; rfl) (MU_b (by omega) (by omega)).2 (by have := bm_len (S 0 10) (S 7) (S 8) r t.toNat; omega) (by omega)
  exact loop12 (7) (fU (S 12) 0 r) 1 0 (by omega) rfl (fun i h3 h4 => by
    have e : i = 0 := by
      have : ((bm (S 0 10) (S 7) (S 8) r (0 : Int).toNat).length : Int) = 1 := rfl
      omega
    rw [e, fU_at]
    rfl) (by omega)

set_option maxHeartbeats 4000000 in
set_option maxRecDepth 100000 in
theorem c_X1_beamFrom_10 (l : Launch) (K : KK) (q : Nat → Nat) (S : Nat → Int → Int) (hn : 7 ≤ S 0 10 ∧ S 0 10 ≤ 91) (hf : ∀ j, 0 ≤ j → j < S 0 10 → 0 ≤ S 10 j ∧ S 10 j ≤ 2) (hh : ∀ j, 0 ≤ j → j < 546 → 0 ≤ S 8 j ∧ S 8 j ≤ 1) (r : Int) (hr : 0 ≤ r ∧ r < S 0 10) : hMI l yX1_beamFrom wsX1_beamFrom (rmL 4) K [.ref (q 0), .ref (q 10), .int (iI r)] (wX K q S) (fun z w => z = ((beam (S 0 10) (S 10) (S 8) r).length : Int) ∧ ∃ b : Int → Int, w = wX K q (sA S 12 b) ∧ ∀ i, 0 ≤ i → i < z → b i = lg (beam (S 0 10) (S 10) (S 8) r) i) := by
  refine in_MI (cc := cX1_beamFrom) (maxL := 6) (rt := (some .int)) (lv := [(0, .ref (q 0)), (1, .ref (q 10)), (2, .int (iI r))]) (by decide) rfl (Nat.le_of_ble_eq_true rfl) rfl ?_
  intro p e s m args below meth c A C
  have hinX1 : ∀ w ∈ wsX10, w ∈ wsX1_beamFrom := by decide +kernel
  refine g_aload_n (pc := 0) C dX1_beamFrom_0 rfl rfl ?_
  refine g_get (pc := 1) (ref := "HexRooms") (ci := 1) (N := 11) C 0 rfl rfl hinX1 6 (by decide) (by decide +kernel) rfl rfl dX1_beamFrom_1 ?_
  refine g_iconst (pc := 4) C dX1_beamFrom_4 ?_
  refine g_iload_n (pc := 5) C dX1_beamFrom_5 rfl rfl ?_
  refine g_iastore (pc := 6) (ws' := (wX K q (sA S 12 (fU (S 12) 0 r)))) C 12 rfl (by omega) dX1_beamFrom_6 rfl ?_
  refine g_iconst (pc := 7) C dX1_beamFrom_7 ?_
  refine g_istore_n (pc := 8) (lv' := [(3, .int (iI 1)), (0, .ref (q 0)), (1, .ref (q 10)), (2, .int (iI r))]) C dX1_beamFrom_8 rfl (by decide) rfl ?_
  refine g_iconst (pc := 9) C dX1_beamFrom_9 ?_
  refine g_istore (pc := 10) (lv' := [(4, .int (iI 0)), (3, .int (iI 1)), (0, .ref (q 0)), (1, .ref (q 10)), (2, .int (iI r))]) C dX1_beamFrom_10 (by decide) rfl ?_
  have loop12 : ∀ (fu : Nat) (b : Int → Int) (sn : Int) (t : Int), (0 ≤ t ∧ t ≤ 6) → (sn = ((bm (S 0 10) (S 10) (S 8) r t.toNat).length : Int)) → (∀ i, 0 ≤ i → i < sn → b i = lg (bm (S 0 10) (S 10) (S 8) r t.toNat) i) → 6 - t < (fu : Int) → hG p l e (rmL 4) s m args below meth c 6 K A 0 0 (QI K A below args s (fun z w => z = ((beam (S 0 10) (S 10) (S 8) r).length : Int) ∧ ∃ b : Int → Int, w = wX K q (sA S 12 b) ∧ ∀ i, 0 ≤ i → i < z → b i = lg (beam (S 0 10) (S 10) (S 8) r) i)) 12 [(4, .int (iI t)), (3, .int (iI sn)), (0, .ref (q 0)), (1, .ref (q 10)), (2, .int (iI r))] [] (wX K q (sA S 12 b)) := by
    intro fu
    induction fu with
    | zero =>
      intro b sn t h1 h2 h3 hm
      exact absurd hm (by omega)
    | succ fu ih12 =>
      intro b sn t h1 h2 h3 hm
      refine g_iload (pc := 12) C dX1_beamFrom_12 rfl ?_
      refine g_bipush (pc := 14) C dX1_beamFrom_14 (by decide +kernel) ?_
      refine g_icmp_ge (pc := 16) (tgt := 72) C dX1_beamFrom_16 (by decide) (by omega) (by omega) (fun c1 => ?_) (fun c1 => ?_)
      · refine g_iload_n (pc := 72) C dX1_beamFrom_72 rfl rfl ?_
        exact g_ireturn (pc := 73) C rfl dX1_beamFrom_73 ⟨by rw [h2, show t = 6 by omega]; rfl, b, rfl, by rw [show t = 6 by omega] at h3; exact h3⟩
      · refine g_aload_n (pc := 19) C dX1_beamFrom_19 rfl rfl ?_
        refine g_aload_n (pc := 20) C dX1_beamFrom_20 rfl rfl ?_
        refine g_iload_n (pc := 21) C dX1_beamFrom_21 rfl rfl ?_
        refine g_iload (pc := 22) C dX1_beamFrom_22 rfl ?_
        refine g_callVI (pc := 24) (As := [.ref (q 10), .int (iI r), .int (iI t)]) (rest := []) C (c_X1_onward_10 l K q (sA S 12 b) hn hf hh r t (by omega) (by omega)) (cwV 3 C.hts gX1_beamFrom_X1_onward rfl rfl rfl (by decide +kernel) ⟨by decide, by decide⟩) 0 rfl rfl dX1_beamFrom_24 rfl (Nat.le_of_ble_eq_true rfl) ⟨Nat.zero_le _, Nat.zero_le _⟩ (fun z w hp => ?_)
        obtain ⟨rfl, rfl⟩ := hp
        have hb := ON_b (S 0 10) (S 10) (S 8) r t
        refine g_istore (pc := 27) (lv' := [(5, .int (iI (ON (S 0 10) (S 10) (S 8) r t))), (4, .int (iI t)), (3, .int (iI sn)), (0, .ref (q 0)), (1, .ref (q 10)), (2, .int (iI r))]) C dX1_beamFrom_27 (by decide) rfl ?_
        have loop29 : ∀ (fu : Nat) (b2 : Int → Int) (sn2 : Int) (x : Int) (l0 : List Int) (k : Nat), (x = -1 ∨ (0 ≤ x ∧ x < S 0 10)) → (sn2 = (l0.length : Int)) → (∀ i, 0 ≤ i → i < sn2 → b2 i = lg l0 i) → (l0 ++ rayN (S 0 10) (S 10) (S 8) t k x = bm (S 0 10) (S 10) (S 8) r (t.toNat + 1)) → (MU x t ≤ k) → (sn2 + k ≤ 1 + 11 * (t + 1)) → 91 - sn2 < (fu : Int) → hG p l e (rmL 4) s m args below meth c 6 K A 0 0 (QI K A below args s (fun z w => z = ((beam (S 0 10) (S 10) (S 8) r).length : Int) ∧ ∃ b : Int → Int, w = wX K q (sA S 12 b) ∧ ∀ i, 0 ≤ i → i < z → b i = lg (beam (S 0 10) (S 10) (S 8) r) i)) 29 [(5, .int (iI x)), (4, .int (iI t)), (3, .int (iI sn2)), (0, .ref (q 0)), (1, .ref (q 10)), (2, .int (iI r))] [] (wX K q (sA S 12 b2)) := by
          intro fu
          induction fu with
          | zero =>
            intro b2 sn2 x l0 k h4 h5 h6 h7 h8 h9 hm
            exact absurd hm (by omega)
          | succ fu ih29 =>
            intro b2 sn2 x l0 k h4 h5 h6 h7 h8 h9 hm
            refine g_iload (pc := 29) C dX1_beamFrom_29 rfl ?_
            refine g_iconst (pc := 31) C dX1_beamFrom_31 ?_
            refine g_icmp_eq (pc := 32) (tgt := 66) C dX1_beamFrom_32 (by decide) (by omega) (by omega) (fun c2 => ?_) (fun c2 => ?_)
            · refine g_iinc (pc := 66) (lv' := [(4, .int (iI (t + 1))), (5, .int (iI x)), (3, .int (iI sn2)), (0, .ref (q 0)), (1, .ref (q 10)), (2, .int (iI r))]) C dX1_beamFrom_66 rfl (by decide) rfl ?_
              refine g_goto (pc := 69) (tgt := 12) C dX1_beamFrom_69 (by decide) ?_
              refine g_sub (lv' := [(4, .int (iI (t + 1))), (3, .int (iI sn2)), (0, .ref (q 0)), (1, .ref (q 10)), (2, .int (iI r))]) [0, 2, 3, 4, 5] rfl ?_
              have hl0 : l0 = bm (S 0 10) (S 10) (S 8) r (t.toNat + 1) := by
                have e := h7
                rw [show x = -1 by omega, rayN_none, List.append_nil] at e
                exact e
              exact ih12 b2 sn2 (t + 1) (by omega) (by rw [h5, hl0, show (t + 1).toNat = t.toNat + 1 by omega]) (fun i h8 h9 => by
                rw [show (t + 1).toNat = t.toNat + 1 by omega, ← hl0]
                exact h6 i h8 h9) (by omega)
            · have hk1 : ∃ k2, k = k2 + 1 := by
                have h10 := (MU_b (x := x) (t := t) (by omega) (by omega)).1
                have h11 : ¬ MU x t ≤ 0 := by
                  have h12 := (TP_f (r := x) (t := t) (by omega) (by omega)).2.1
                  unfold MU
                  rw [if_neg (by omega)]
                  omega
                exact ⟨k - 1, by omega⟩
              obtain ⟨k2, rfl⟩ := hk1
              refine g_iload_n (pc := 35) C dX1_beamFrom_35 rfl rfl ?_
              refine g_bipush (pc := 36) C dX1_beamFrom_36 (by decide +kernel) ?_
              refine g_icmp_ge (pc := 38) (tgt := 66) C dX1_beamFrom_38 (by decide) (by omega) (by omega) (fun c3 => ?_) (fun c3 => ?_)
              · exact absurd c3 (by omega)
              · refine g_aload_n (pc := 41) C dX1_beamFrom_41 rfl rfl ?_
                refine g_get (pc := 42) (ref := "HexRooms") (ci := 1) (N := 11) C 0 rfl rfl hinX1 6 (by decide) (by decide +kernel) rfl rfl dX1_beamFrom_42 ?_
                refine g_iload_n (pc := 45) C dX1_beamFrom_45 rfl rfl ?_
                refine g_iload (pc := 46) C dX1_beamFrom_46 rfl ?_
                refine g_iastore (pc := 48) (ws' := (wX K q (sA S 12 (fU b2 sn2 x)))) C 12 rfl (by omega) dX1_beamFrom_48 rfl ?_
                refine g_iinc (pc := 49) (lv' := [(3, .int (iI (sn2 + 1))), (5, .int (iI x)), (4, .int (iI t)), (0, .ref (q 0)), (1, .ref (q 10)), (2, .int (iI r))]) C dX1_beamFrom_49 rfl (by decide) rfl ?_
                refine g_aload_n (pc := 52) C dX1_beamFrom_52 rfl rfl ?_
                refine g_aload_n (pc := 53) C dX1_beamFrom_53 rfl rfl ?_
                refine g_iload (pc := 54) C dX1_beamFrom_54 rfl ?_
                refine g_iload (pc := 56) C dX1_beamFrom_56 rfl ?_
                refine g_callVI (pc := 58) (As := [.ref (q 10), .int (iI x), .int (iI t)]) (rest := []) C (c_X1_onward_10 l K q (sA S 12 (fU b2 sn2 x)) hn hf hh x t (by omega) (by omega)) (cwV 3 C.hts gX1_beamFrom_X1_onward rfl rfl rfl (by decide +kernel) ⟨by decide, by decide⟩) 0 rfl rfl dX1_beamFrom_58 rfl (Nat.le_of_ble_eq_true rfl) ⟨Nat.zero_le _, Nat.zero_le _⟩ (fun z w hp => ?_)
                obtain ⟨rfl, rfl⟩ := hp
                have hb := ON_b (S 0 10) (S 10) (S 8) x t
                refine g_istore (pc := 61) (lv' := [(5, .int (iI (ON (S 0 10) (S 10) (S 8) x t))), (3, .int (iI (sn2 + 1))), (4, .int (iI t)), (0, .ref (q 0)), (1, .ref (q 10)), (2, .int (iI r))]) C dX1_beamFrom_61 (by decide) rfl ?_
                refine g_goto (pc := 63) (tgt := 29) C dX1_beamFrom_63 (by decide) ?_
                refine g_sub (lv' := [(5, .int (iI (ON (S 0 10) (S 10) (S 8) x t))), (4, .int (iI t)), (3, .int (iI (sn2 + 1))), (0, .ref (q 0)), (1, .ref (q 10)), (2, .int (iI r))]) [0, 2, 1, 3, 4, 5] rfl ?_
                exact ih29 (fU b2 sn2 x) (sn2 + 1) (ON (S 0 10) (S 10) (S 8) x t) (l0 ++ [x]) k2 (by omega) (by rw [List.length_append]; show _ = ((l0.length + 1 : Nat) : Int); omega) (fun i h10 h11 => by
                  by_cases e : i = sn2
                  · rw [e, fU_at, lg_app2 h5]
                  · rw [fU_ne _ _ _ e, lg_app1 (by omega)]
                    exact h6 i h10 (by omega)) (by rw [← h7, rayN_some _ _ _ _ _ (by omega : ¬ x = -1), List.append_assoc]; rfl) (by have := MU_s (S 0 10) (S 10) (S 8) (x := x) (t := t) (by omega) (by omega); omega) (by omega) (by omega)
        exact loop29 (92) b sn (ON (S 0 10) (S 10) (S 8) r t) (bm (S 0 10) (S 10) (S 8) r t.toNat) 11 (by omega) h2 h3 (by show _ = bm (S 0 10) (S 10) (S 8) r t.toNat ++ ray (S 0 10) (S 10) (S 8) r t.toNat; rw [show ((t.toNat : Nat) : Int) = t by omega]; rfl) (MU_b (by omega) (by omega)).2 (by have := bm_len (S 0 10) (S 10) (S 8) r t.toNat; omega) (by omega)
  exact loop12 (7) (fU (S 12) 0 r) 1 0 (by omega) rfl (fun i h3 h4 => by
    have e : i = 0 := by
      have : ((bm (S 0 10) (S 10) (S 8) r (0 : Int).toNat).length : Int) = 1 := rfl
      omega
    rw [e, fU_at]
    rfl) (by omega)
