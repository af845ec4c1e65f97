set_option maxHeartbeats 400000 in
set_option maxRecDepth 100000 in
theorem c_X2_spread (l : Launch) (K : KK) (q : Nat → Nat) (S : Nat → Int → Int) (H : HT S) (hf : ∀ j, 0 ≤ j → j < S 0 2 → 0 ≤ S 4 j ∧ S 4 j ≤ 2) (hh : ∀ j, 0 ≤ j → j < 546 → 0 ≤ S 6 j ∧ S 6 j ≤ 1) (a : Int) (ha : 0 ≤ a ∧ a < S 0 2) : hMI l yX2_spread wsX2_spread (rmL 4) K [.ref (q 0), .int (iI a)] (wM K q S) (fun z w => ∃ D u : Int → Int, w = wM K q (sA (sA S 8 D) 9 u) ∧ ∀ j, 0 ≤ j → j < S 0 2 → dR (S 0 2) (S 4) (S 6) a j (D j)) := by
  have hn := H.n
  have hk9 := H.1
  refine in_MI (cc := cX2_spread) (maxL := 6) (rt := (some .int)) (lv := [(0, .ref (q 0)), (1, .int (iI a))]) (by decide) rfl (Nat.le_of_ble_eq_true rfl) rfl ?_
  intro p e s m args below meth c A C
  have hinX2 : ∀ w ∈ wsX20, w ∈ wsX2_spread := by decide +kernel
  refine g_iconst (pc := 0) C dX2_spread_0 ?_
  refine g_istore_n (pc := 1) (lv' := [(2, .int (iI 0)), (0, .ref (q 0)), (1, .int (iI a))]) C dX2_spread_1 rfl (by decide) rfl ?_
  have loop2 : ∀ (fu : Nat) (i : Int), (0 ≤ i ∧ i ≤ S 0 2) → S 0 2 - i < (fu : Int) → hG p l e (rmL 4) s m args below meth c 6 K A 0 0 (QI K A below args s (fun z w => ∃ D u : Int → Int, w = wM K q (sA (sA S 8 D) 9 u) ∧ ∀ j, 0 ≤ j → j < S 0 2 → dR (S 0 2) (S 4) (S 6) a j (D j))) 2 [(2, .int (iI i)), (0, .ref (q 0)), (1, .int (iI a))] [] (wM K q (sA S 8 (fF (S 8) i (-1)))) := by
    intro fu
    induction fu with
    | zero =>
      intro i h1 hm
      exact absurd hm (by omega)
    | succ fu ih2 =>
      intro i h1 hm
      refine g_iload_n (pc := 2) C dX2_spread_2 rfl rfl ?_
      refine g_aload_n (pc := 3) C dX2_spread_3 rfl rfl ?_
      refine g_get (pc := 4) (v := .int (iI ((S 0) 2))) (ref := "HexRoomsModel") (ci := 2) (N := 13) C 0 rfl rfl hinX2 2 (by decide) (by decide +kernel) rfl rfl dX2_spread_4 ?_
      refine g_icmp_ge (pc := 7) (tgt := 23) C dX2_spread_7 (by decide) (by omega) (by omega) (fun c1 => ?_) (fun c1 => ?_)
      · refine g_aload_n (pc := 23) C dX2_spread_23 rfl rfl ?_
        refine g_get (pc := 24) (ref := "HexRoomsModel") (ci := 2) (N := 13) C 0 rfl rfl hinX2 10 (by decide) (by decide +kernel) rfl rfl dX2_spread_24 ?_
        refine g_iload_n (pc := 27) C dX2_spread_27 rfl rfl ?_
        refine g_iconst (pc := 28) C dX2_spread_28 ?_
        refine g_iastore (pc := 29) (f := (fF (S 8) i (-1))) (ws' := (wM K q (sA S 8 (fU (fF (S 8) i (-1)) a 0)))) C 8 rfl (by omega) dX2_spread_29 rfl ?_
        refine g_aload_n (pc := 30) C dX2_spread_30 rfl rfl ?_
        refine g_get (pc := 31) (ref := "HexRoomsModel") (ci := 2) (N := 13) C 0 rfl rfl hinX2 11 (by decide) (by decide +kernel) rfl rfl dX2_spread_31 ?_
        refine g_iconst (pc := 34) C dX2_spread_34 ?_
        refine g_iload_n (pc := 35) C dX2_spread_35 rfl rfl ?_
        refine g_iastore (pc := 36) (f := (S 9)) (ws' := (wM K q (sA (sA S 8 (fU (fF (S 8) i (-1)) a 0)) 9 (fU (S 9) 0 a)))) C 9 rfl (by omega) dX2_spread_36 rfl ?_
        refine g_iconst (pc := 37) C dX2_spread_37 ?_
        refine g_istore_n (pc := 38) (lv' := [(2, .int (iI 1)), (0, .ref (q 0)), (1, .int (iI a))]) C dX2_spread_38 rfl (by decide) rfl ?_
        refine g_iconst (pc := 39) C dX2_spread_39 ?_
        refine g_istore_n (pc := 40) (lv' := [(3, .int (iI 0)), (2, .int (iI 1)), (0, .ref (q 0)), (1, .int (iI a))]) C dX2_spread_40 rfl (by decide) rfl ?_
        have loop41 : ∀ (fu : Nat) (D : Int → Int) (u : Int → Int) (e2 : Int) (k : Int), (BI (S 0 2) (S 4) (S 6) a (fF (S 8) i (-1)) D u k e2) → (k ≤ S 0 2) → S 0 2 - k < (fu : Int) → hG p l e (rmL 4) s m args below meth c 6 K A 0 0 (QI K A below args s (fun z w => ∃ D u : Int → Int, w = wM K q (sA (sA S 8 D) 9 u) ∧ ∀ j, 0 ≤ j → j < S 0 2 → dR (S 0 2) (S 4) (S 6) a j (D j))) 41 [(3, .int (iI k)), (2, .int (iI e2)), (0, .ref (q 0)), (1, .int (iI a))] [] (wM K q (sA (sA S 8 D) 9 u)) := by
          intro fu
          induction fu with
          | zero =>
            intro D u e2 k hB hin hm
            exact absurd hm (by omega)
          | succ fu ih41 =>
            intro D u e2 k hB hin hm
            have hk0 := BI_card hB
            have hkk := hB.1
            refine g_iload_n (pc := 41) C dX2_spread_41 rfl rfl ?_
            refine g_iload_n (pc := 42) C dX2_spread_42 rfl rfl ?_
            refine g_icmp_ge (pc := 43) (tgt := 133) C dX2_spread_43 (by decide) (by omega) (by omega) (fun c2 => ?_) (fun c2 => ?_)
            · refine g_iload_n (pc := 133) C dX2_spread_133 rfl rfl ?_
              exact g_ireturn (pc := 134) C rfl dX2_spread_134 ⟨D, u, rfl, fun j h4 h5 => BI_dR (by rw [show k = e2 by omega] at hB; exact hB) (by omega) (fun j h6 h7 => if_pos (by omega)) ha ⟨h4, h5⟩⟩
            · refine g_iconst (pc := 46) C dX2_spread_46 ?_
              refine g_istore (pc := 47) (lv' := [(4, .int (iI 0)), (3, .int (iI k)), (2, .int (iI e2)), (0, .ref (q 0)), (1, .int (iI a))]) C dX2_spread_47 (by decide) rfl ?_
              have loop49 : ∀ (fu : Nat) (D2 : Int → Int) (u2 : Int → Int) (e3 : Int) (sd : Int), (BI (S 0 2) (S 4) (S 6) a (fF (S 8) i (-1)) D2 u2 k e3) → (k < e3 ∧ 0 ≤ sd ∧ sd ≤ 6) → (∀ s2, 0 ≤ s2 → s2 < sd → PRO (S 0 2) (S 4) (S 6) (fF (S 8) i (-1)) D2 u2 k s2) → 6 - sd < (fu : Int) → hG p l e (rmL 4) s m args below meth c 6 K A 0 0 (QI K A below args s (fun z w => ∃ D u : Int → Int, w = wM K q (sA (sA S 8 D) 9 u) ∧ ∀ j, 0 ≤ j → j < S 0 2 → dR (S 0 2) (S 4) (S 6) a j (D j))) 49 [(4, .int (iI sd)), (3, .int (iI k)), (2, .int (iI e3)), (0, .ref (q 0)), (1, .int (iI a))] [] (wM K q (sA (sA S 8 D2) 9 u2)) := by
                intro fu
                induction fu with
                | zero =>
                  intro D2 u2 e3 sd hB2 h3 h5 hm
                  exact absurd hm (by omega)
                | succ fu ih49 =>
                  intro D2 u2 e3 sd hB2 h3 h5 hm
                  have hk1 := BI_card hB2
                  have hk8 := hB2.1
                  have hxr := (BI_in hB2 (t := k) (by omega) h3.1).1
                  have hrg := BI_rng hB2 (by omega) (fun j g0 g1 => show -1 ≤ fF (S 8) i (-1) j ∧ fF (S 8) i (-1) j ≤ 90 by rw [show fF (S 8) i (-1) j = -1 from if_pos (by omega)]; omega)
                  refine g_iload (pc := 49) C dX2_spread_49 rfl ?_
                  refine g_bipush (pc := 51) C dX2_spread_51 (by decide +kernel) ?_
                  refine g_icmp_ge (pc := 53) (tgt := 127) C dX2_spread_53 (by decide) (by omega) (by omega) (fun c3 => ?_) (fun c3 => ?_)
                  · refine g_iinc (pc := 127) (lv' := [(3, .int (iI (k + 1))), (4, .int (iI sd)), (2, .int (iI e3)), (0, .ref (q 0)), (1, .int (iI a))]) C dX2_spread_127 rfl (by decide) rfl ?_
                    refine g_goto (pc := 130) (tgt := 41) C dX2_spread_130 (by decide) ?_
                    refine g_sub (lv' := [(3, .int (iI (k + 1))), (2, .int (iI e3)), (0, .ref (q 0)), (1, .int (iI a))]) [0, 2, 3, 4] rfl ?_
                    have hk := BI_card hB2
                    exact ih41 D2 u2 e3 (k + 1) (BI_next hB2 h3.1 (fun s2 h6 h7 => h5 s2 h6 (by omega))) (by omega) (by omega)
                  · refine g_aload_n (pc := 56) C dX2_spread_56 rfl rfl ?_
                    refine g_aload_n (pc := 57) C dX2_spread_57 rfl rfl ?_
                    refine g_get (pc := 58) (ref := "HexRoomsModel") (ci := 2) (N := 13) C 0 rfl rfl hinX2 11 (by decide) (by decide +kernel) rfl rfl dX2_spread_58 ?_
                    refine g_iload_n (pc := 61) C dX2_spread_61 rfl rfl ?_
                    refine g_iaload (pc := 62) (f := u2) C 9 rfl (by omega) dX2_spread_62 ?_
                    refine g_iload (pc := 63) C dX2_spread_63 rfl ?_
                    refine g_callVI (pc := 65) (As := [.int (iI (u2 k)), .int (iI sd)]) (rest := []) C (c_X2_on l K q (sA (sA S 8 D2) 9 u2) H hf hh (u2 k) sd (show 0 ≤ (u2 k) ∧ (u2 k) < S 0 2 by omega) (by omega)) (cwV 2 C.hts gX2_spread_X2_on rfl rfl rfl (by decide +kernel) ⟨by decide, by decide⟩) 0 rfl rfl dX2_spread_65 rfl (Nat.le_of_ble_eq_true rfl) ⟨Nat.zero_le _, Nat.zero_le _⟩ (fun z w hp => ?_)
                    obtain ⟨hz, rfl⟩ := hp
                    have hz : z = ON (S 0 2) (S 4) (S 6) (u2 k) sd := hz
                    subst hz
                    have hb := ON_b (S 0 2) (S 4) (S 6) (u2 k) sd
                    obtain ⟨y, hy⟩ : ∃ y, y = ON (S 0 2) (S 4) (S 6) (u2 k) sd := ⟨_, rfl⟩
                    rw [← hy] at hb ⊢
                    refine g_istore (pc := 68) (lv' := [(5, .int (iI y)), (4, .int (iI sd)), (3, .int (iI k)), (2, .int (iI e3)), (0, .ref (q 0)), (1, .int (iI a))]) C dX2_spread_68 (by decide) rfl ?_
                    refine g_iload (pc := 70) C dX2_spread_70 rfl ?_
                    refine g_iconst (pc := 72) C dX2_spread_72 ?_
                    refine g_icmp_eq (pc := 73) (tgt := 121) C dX2_spread_73 (by decide) (by omega) (by omega) (fun c4 => ?_) (fun c4 => ?_)
                    · refine g_iinc (pc := 121) (lv' := [(4, .int (iI (sd + 1))), (5, .int (iI y)), (3, .int (iI k)), (2, .int (iI e3)), (0, .ref (q 0)), (1, .int (iI a))]) C dX2_spread_121 rfl (by decide) rfl ?_
                      refine g_goto (pc := 124) (tgt := 49) C dX2_spread_124 (by decide) ?_
                      refine g_sub (lv' := [(4, .int (iI (sd + 1))), (3, .int (iI k)), (2, .int (iI e3)), (0, .ref (q 0)), (1, .int (iI a))]) [0, 2, 3, 4, 5] rfl ?_
                      exact ih49 D2 u2 e3 (sd + 1) hB2 (by omega) (fun s2 h6 h7 => by
                        by_cases g : s2 = sd
                        · rw [g]
                          refine BI_skip hB2 h3.1 ?_
                          rw [← hy]
                          omega
                        · exact h5 s2 h6 (by omega)) (by omega)
                    · refine g_aload_n (pc := 76) C dX2_spread_76 rfl rfl ?_
                      refine g_get (pc := 77) (ref := "HexRoomsModel") (ci := 2) (N := 13) C 0 rfl rfl hinX2 10 (by decide) (by decide +kernel) rfl rfl dX2_spread_77 ?_
                      refine g_iload (pc := 80) C dX2_spread_80 rfl ?_
                      refine g_iaload (pc := 82) (f := D2) C 8 rfl (by omega) dX2_spread_82 ?_
                      have bd5 := hrg y (by omega) (by omega)
                      refine g_iconst (pc := 83) C dX2_spread_83 ?_
                      refine g_icmp_eq (pc := 84) (tgt := 90) C dX2_spread_84 (by decide) (by omega) (by omega) (fun c6 => ?_) (fun c6 => ?_)
                      · have V := BI_visit hB2 h3.1 (s := sd) (by omega) (by rw [← hy]; omega) (by rw [← hy]; omega)
                        rw [← hy] at V
                        have hk7 := BI_card V.1
                        refine g_aload_n (pc := 90) C dX2_spread_90 rfl rfl ?_
                        refine g_get (pc := 91) (ref := "HexRoomsModel") (ci := 2) (N := 13) C 0 rfl rfl hinX2 10 (by decide) (by decide +kernel) rfl rfl dX2_spread_91 ?_
                        refine g_iload (pc := 94) C dX2_spread_94 rfl ?_
                        refine g_aload_n (pc := 96) C dX2_spread_96 rfl rfl ?_
                        refine g_get (pc := 97) (ref := "HexRoomsModel") (ci := 2) (N := 13) C 0 rfl rfl hinX2 10 (by decide) (by decide +kernel) rfl rfl dX2_spread_97 ?_
                        refine g_aload_n (pc := 100) C dX2_spread_100 rfl rfl ?_
                        refine g_get (pc := 101) (ref := "HexRoomsModel") (ci := 2) (N := 13) C 0 rfl rfl hinX2 11 (by decide) (by decide +kernel) rfl rfl dX2_spread_101 ?_
                        refine g_iload_n (pc := 104) C dX2_spread_104 rfl rfl ?_
                        refine g_iaload (pc := 105) (f := u2) C 9 rfl (by omega) dX2_spread_105 ?_
                        refine g_iaload (pc := 106) (f := D2) C 8 rfl (by omega) dX2_spread_106 ?_
                        have bd7 := hrg (u2 k) (by omega) (by omega)
                        refine g_iconst (pc := 107) C dX2_spread_107 ?_
                        refine g_iadd (pc := 108) C dX2_spread_108 ?_
                        refine g_iastore (pc := 109) (f := D2) (ws' := (wM K q (sA (sA S 9 u2) 8 (fU D2 y ((D2 (u2 k)) + 1))))) C 8 rfl (by omega) dX2_spread_109 rfl ?_
                        refine g_aload_n (pc := 110) C dX2_spread_110 rfl rfl ?_
                        refine g_get (pc := 111) (ref := "HexRoomsModel") (ci := 2) (N := 13) C 0 rfl rfl hinX2 11 (by decide) (by decide +kernel) rfl rfl dX2_spread_111 ?_
                        refine g_iload_n (pc := 114) C dX2_spread_114 rfl rfl ?_
                        refine g_iload (pc := 115) C dX2_spread_115 rfl ?_
                        refine g_iastore (pc := 117) (f := u2) (ws' := (wM K q (sA (sA S 8 (fU D2 y ((D2 (u2 k)) + 1))) 9 (fU u2 e3 y)))) C 9 rfl (by omega) dX2_spread_117 rfl ?_
                        refine g_iinc (pc := 118) (lv' := [(2, .int (iI (e3 + 1))), (5, .int (iI y)), (4, .int (iI sd)), (3, .int (iI k)), (0, .ref (q 0)), (1, .int (iI a))]) C dX2_spread_118 rfl (by decide) rfl ?_
                        refine g_iinc (pc := 121) (lv' := [(4, .int (iI (sd + 1))), (2, .int (iI (e3 + 1))), (5, .int (iI y)), (3, .int (iI k)), (0, .ref (q 0)), (1, .int (iI a))]) C dX2_spread_121 rfl (by decide) rfl ?_
                        refine g_goto (pc := 124) (tgt := 49) C dX2_spread_124 (by decide) ?_
                        refine g_sub (lv' := [(4, .int (iI (sd + 1))), (3, .int (iI k)), (2, .int (iI (e3 + 1))), (0, .ref (q 0)), (1, .int (iI a))]) [0, 3, 1, 4, 5] rfl ?_
                        exact ih49 (fU D2 y ((D2 (u2 k)) + 1)) (fU u2 e3 y) (e3 + 1) (sd + 1) V.1 (by omega) (fun s2 h6 h7 => by
                          by_cases g : s2 = sd
                          · rw [g]; exact V.2.2
                          · exact V.2.1 s2 h6 (by omega) (h5 s2 h6 (by omega))) (by omega)
                      · refine g_goto (pc := 87) (tgt := 121) C dX2_spread_87 (by decide) ?_
                        refine g_iinc (pc := 121) (lv' := [(4, .int (iI (sd + 1))), (5, .int (iI y)), (3, .int (iI k)), (2, .int (iI e3)), (0, .ref (q 0)), (1, .int (iI a))]) C dX2_spread_121 rfl (by decide) rfl ?_
                        refine g_goto (pc := 124) (tgt := 49) C dX2_spread_124 (by decide) ?_
                        refine g_sub (lv' := [(4, .int (iI (sd + 1))), (3, .int (iI k)), (2, .int (iI e3)), (0, .ref (q 0)), (1, .int (iI a))]) [0, 2, 3, 4, 5] rfl ?_
                        exact ih49 D2 u2 e3 (sd + 1) hB2 (by omega) (fun s2 h6 h7 => by
                          by_cases g : s2 = sd
                          · rw [g]
                            refine BI_skip hB2 h3.1 ?_
                            rw [← hy]
                            omega
                          · exact h5 s2 h6 (by omega)) (by omega)
              exact loop49 (7) D u e2 0 hB (by omega) (fun s2 h6 h7 => by omega) (by omega)
        exact loop41 (92) (fU (fF (S 8) i (-1)) a 0) (fU (S 9) 0 a) 1 0 (BI_init ha (if_pos (by omega))) (by omega) (by omega)
      · refine g_aload_n (pc := 10) C dX2_spread_10 rfl rfl ?_
        refine g_get (pc := 11) (ref := "HexRoomsModel") (ci := 2) (N := 13) C 0 rfl rfl hinX2 10 (by decide) (by decide +kernel) rfl rfl dX2_spread_11 ?_
        refine g_iload_n (pc := 14) C dX2_spread_14 rfl rfl ?_
        refine g_iconst (pc := 15) C dX2_spread_15 ?_
        refine g_iastore (pc := 16) (f := (fF (S 8) i (-1))) (ws' := (wM K q (sA S 8 (fU (fF (S 8) i (-1)) i (-1))))) C 8 rfl (by omega) dX2_spread_16 rfl ?_
        rw [fF_s (S 8) (-1) h1.1]
        refine g_iinc (pc := 17) (lv' := [(2, .int (iI (i + 1))), (0, .ref (q 0)), (1, .int (iI a))]) C dX2_spread_17 rfl (by decide) rfl ?_
        refine g_goto (pc := 20) (tgt := 2) C dX2_spread_20 (by decide) ?_
        exact ih2 (i + 1) (by omega) (by omega)
  have h0 := loop2 (92) 0 (by omega) (by omega)
  rw [fF_0, sA_self] at h0
  exact h0

set_option maxHeartbeats 400000 in
set_option maxRecDepth 100000 in
theorem c_X2_standing (l : Launch) (K : KK) (q : Nat → Nat) (S : Nat → Int → Int) (H : HT S) (hf : ∀ j, 0 ≤ j → j < S 0 2 → 0 ≤ S 4 j ∧ S 4 j ≤ 2) (hh : ∀ j, 0 ≤ j → j < 546 → 0 ≤ S 6 j ∧ S 6 j ≤ 1) (k v : Int) (hk : -1 ≤ k ∧ k ≤ 5) (hv : 0 ≤ v ∧ v ≤ 2) : hMI l yX2_standing wsX2_standing (rmL 0) K [.ref (q 0), .int (iI k), .int (iI v)] (wM K q S) (fun z w => z = sm (fun j => if (k = -1 ∨ TR j = k) ∧ S 4 j = v then 1 else 0) 0 (S 0 2) ∧ w = wM K q S) := by
  have hn := H.n
  have hk9 := H.1
  refine in_MI (cc := cX2_standing) (maxL := 5) (rt := (some .int)) (lv := [(0, .ref (q 0)), (1, .int (iI k)), (2, .int (iI v))]) (by decide) rfl (Nat.le_of_ble_eq_true rfl) rfl ?_
  intro p e s m args below meth c A C
  have hinX2 : ∀ w ∈ wsX20, w ∈ wsX2_standing := by decide +kernel
  refine g_iconst (pc := 0) C dX2_standing_0 ?_
  refine g_istore_n (pc := 1) (lv' := [(3, .int (iI 0)), (0, .ref (q 0)), (1, .int (iI k)), (2, .int (iI v))]) C dX2_standing_1 rfl (by decide) rfl ?_
  refine g_iconst (pc := 2) C dX2_standing_2 ?_
  refine g_istore (pc := 3) (lv' := [(4, .int (iI 0)), (3, .int (iI 0)), (0, .ref (q 0)), (1, .int (iI k)), (2, .int (iI v))]) C dX2_standing_3 (by decide) rfl ?_
  have loop5 : ∀ (fu : Nat) (acc : Int) (i : Int), (0 ≤ i ∧ i ≤ S 0 2) → (acc = sm (fun j => if (k = -1 ∨ TR j = k) ∧ S 4 j = v then 1 else 0) 0 i) → S 0 2 - i < (fu : Int) → hG p l e (rmL 0) s m args below meth c 5 K A 0 0 (QI K A below args s (fun z w => z = sm (fun j => if (k = -1 ∨ TR j = k) ∧ S 4 j = v then 1 else 0) 0 (S 0 2) ∧ w = wM K q S)) 5 [(4, .int (iI i)), (3, .int (iI acc)), (0, .ref (q 0)), (1, .int (iI k)), (2, .int (iI v))] [] (wM K q S) := by
    intro fu
    induction fu with
    | zero =>
      intro acc i h1 h2 hm
      exact absurd hm (by omega)
    | succ fu ih5 =>
      intro acc i h1 h2 hm
      have htr := TR_b i
      refine g_iload (pc := 5) C dX2_standing_5 rfl ?_
      refine g_aload_n (pc := 7) C dX2_standing_7 rfl rfl ?_
      refine g_get (pc := 8) (ref := "HexRoomsModel") (ci := 2) (N := 13) C 0 rfl rfl hinX2 2 (by decide) (by decide +kernel) rfl rfl dX2_standing_8 ?_
      refine g_icmp_ge (pc := 11) (tgt := 55) C dX2_standing_11 (by decide) (by omega) (by omega) (fun c1 => ?_) (fun c1 => ?_)
      · refine g_iload_n (pc := 55) C dX2_standing_55 rfl rfl ?_
        exact g_ireturn (pc := 56) C rfl dX2_standing_56 ⟨by rw [h2, show i = S 0 2 by omega], rfl⟩
      · refine g_iload_n (pc := 14) C dX2_standing_14 rfl rfl ?_
        refine g_iload_n (pc := 15) C dX2_standing_15 rfl rfl ?_
        refine g_iconst (pc := 16) C dX2_standing_16 ?_
        refine g_icmp_eq (pc := 17) (tgt := 31) C dX2_standing_17 (by decide) (by omega) (by omega) (fun c2 => ?_) (fun c2 => ?_)
        · refine g_aload_n (pc := 31) C dX2_standing_31 rfl rfl ?_
          refine g_get (pc := 32) (ref := "HexRoomsModel") (ci := 2) (N := 13) C 0 rfl rfl hinX2 6 (by decide) (by decide +kernel) rfl rfl dX2_standing_32 ?_
          refine g_iload (pc := 35) C dX2_standing_35 rfl ?_
          refine g_iaload (pc := 37) C 4 rfl (by omega) dX2_standing_37 ?_
          have bd3 := hf i (by omega) (by omega)
          refine g_iload_n (pc := 38) C dX2_standing_38 rfl rfl ?_
          refine g_icmp_ne (pc := 39) (tgt := 46) C dX2_standing_39 (by decide) (by omega) (by omega) (fun c4 => ?_) (fun c4 => ?_)
          · refine g_iconst (pc := 46) C dX2_standing_46 ?_
            refine g_iadd (pc := 47) C dX2_standing_47 ?_
            refine g_istore_n (pc := 48) (lv' := [(3, .int (iI (acc + 0))), (4, .int (iI i)), (0, .ref (q 0)), (1, .int (iI k)), (2, .int (iI v))]) C dX2_standing_48 rfl (by decide) rfl ?_
            refine g_iinc (pc := 49) (lv' := [(4, .int (iI (i + 1))), (3, .int (iI (acc + 0))), (0, .ref (q 0)), (1, .int (iI k)), (2, .int (iI v))]) C dX2_standing_49 rfl (by decide) rfl ?_
            refine g_goto (pc := 52) (tgt := 5) C dX2_standing_52 (by decide) ?_
            exact ih5 (acc + 0) (i + 1) (by omega) (by rw [sm_s _ h1.1, ← h2]; split <;> omega) (by omega)
          · refine g_iconst (pc := 42) C dX2_standing_42 ?_
            refine g_goto (pc := 43) (tgt := 47) C dX2_standing_43 (by decide) ?_
            refine g_iadd (pc := 47) C dX2_standing_47 ?_
            refine g_istore_n (pc := 48) (lv' := [(3, .int (iI (acc + 1))), (4, .int (iI i)), (0, .ref (q 0)), (1, .int (iI k)), (2, .int (iI v))]) C dX2_standing_48 rfl (by decide) rfl ?_
            refine g_iinc (pc := 49) (lv' := [(4, .int (iI (i + 1))), (3, .int (iI (acc + 1))), (0, .ref (q 0)), (1, .int (iI k)), (2, .int (iI v))]) C dX2_standing_49 rfl (by decide) rfl ?_
            refine g_goto (pc := 52) (tgt := 5) C dX2_standing_52 (by decide) ?_
            exact ih5 (acc + 1) (i + 1) (by omega) (by rw [sm_s _ h1.1, ← h2]; split <;> omega) (by omega)
        · refine g_aload_n (pc := 20) C dX2_standing_20 rfl rfl ?_
          refine g_get (pc := 21) (ref := "HexRoomsModel") (ci := 2) (N := 13) C 0 rfl rfl hinX2 5 (by decide) (by decide +kernel) rfl rfl dX2_standing_21 ?_
          refine g_iload (pc := 24) C dX2_standing_24 rfl ?_
          refine g_iaload (pc := 26) C 3 rfl (by omega) dX2_standing_26 ?_
          have bd5 := (H.2.2.1 i (by omega) (by omega)).2.2
          refine g_iload_n (pc := 27) C dX2_standing_27 rfl rfl ?_
          refine g_icmp_ne (pc := 28) (tgt := 46) C dX2_standing_28 (by decide) (by omega) (by omega) (fun c6 => ?_) (fun c6 => ?_)
          · refine g_iconst (pc := 46) C dX2_standing_46 ?_
            refine g_iadd (pc := 47) C dX2_standing_47 ?_
            refine g_istore_n (pc := 48) (lv' := [(3, .int (iI (acc + 0))), (4, .int (iI i)), (0, .ref (q 0)), (1, .int (iI k)), (2, .int (iI v))]) C dX2_standing_48 rfl (by decide) rfl ?_
            refine g_iinc (pc := 49) (lv' := [(4, .int (iI (i + 1))), (3, .int (iI (acc + 0))), (0, .ref (q 0)), (1, .int (iI k)), (2, .int (iI v))]) C dX2_standing_49 rfl (by decide) rfl ?_
            refine g_goto (pc := 52) (tgt := 5) C dX2_standing_52 (by decide) ?_
            exact ih5 (acc + 0) (i + 1) (by omega) (by rw [sm_s _ h1.1, ← h2]; split <;> omega) (by omega)
          · refine g_aload_n (pc := 31) C dX2_standing_31 rfl rfl ?_
            refine g_get (pc := 32) (ref := "HexRoomsModel") (ci := 2) (N := 13) C 0 rfl rfl hinX2 6 (by decide) (by decide +kernel) rfl rfl dX2_standing_32 ?_
            refine g_iload (pc := 35) C dX2_standing_35 rfl ?_
            refine g_iaload (pc := 37) C 4 rfl (by omega) dX2_standing_37 ?_
            have bd7 := hf i (by omega) (by omega)
            refine g_iload_n (pc := 38) C dX2_standing_38 rfl rfl ?_
            refine g_icmp_ne (pc := 39) (tgt := 46) C dX2_standing_39 (by decide) (by omega) (by omega) (fun c8 => ?_) (fun c8 => ?_)
            · refine g_iconst (pc := 46) C dX2_standing_46 ?_
              refine g_iadd (pc := 47) C dX2_standing_47 ?_
              refine g_istore_n (pc := 48) (lv' := [(3, .int (iI (acc + 0))), (4, .int (iI i)), (0, .ref (q 0)), (1, .int (iI k)), (2, .int (iI v))]) C dX2_standing_48 rfl (by decide) rfl ?_
              refine g_iinc (pc := 49) (lv' := [(4, .int (iI (i + 1))), (3, .int (iI (acc + 0))), (0, .ref (q 0)), (1, .int (iI k)), (2, .int (iI v))]) C dX2_standing_49 rfl (by decide) rfl ?_
              refine g_goto (pc := 52) (tgt := 5) C dX2_standing_52 (by decide) ?_
              exact ih5 (acc + 0) (i + 1) (by omega) (by rw [sm_s _ h1.1, ← h2]; split <;> omega) (by omega)
            · refine g_iconst (pc := 42) C dX2_standing_42 ?_
              refine g_goto (pc := 43) (tgt := 47) C dX2_standing_43 (by decide) ?_
              refine g_iadd (pc := 47) C dX2_standing_47 ?_
              refine g_istore_n (pc := 48) (lv' := [(3, .int (iI (acc + 1))), (4, .int (iI i)), (0, .ref (q 0)), (1, .int (iI k)), (2, .int (iI v))]) C dX2_standing_48 rfl (by decide) rfl ?_
              refine g_iinc (pc := 49) (lv' := [(4, .int (iI (i + 1))), (3, .int (iI (acc + 1))), (0, .ref (q 0)), (1, .int (iI k)), (2, .int (iI v))]) C dX2_standing_49 rfl (by decide) rfl ?_
              refine g_goto (pc := 52) (tgt := 5) C dX2_standing_52 (by decide) ?_
              exact ih5 (acc + 1) (i + 1) (by omega) (by rw [sm_s _ h1.1, ← h2]; split <;> omega) (by omega)
  exact loop5 (92) 0 0 (by omega) (by rw [sm_0]) (by omega)

set_option maxHeartbeats 400000 in
set_option maxRecDepth 100000 in
theorem c_X2_roomTold (l : Launch) (K : KK) (q : Nat → Nat) (S : Nat → Int → Int) (H : HT S) (hf : ∀ j, 0 ≤ j → j < S 0 2 → 0 ≤ S 4 j ∧ S 4 j ≤ 2) (hh : ∀ j, 0 ≤ j → j < 546 → 0 ≤ S 6 j ∧ S 6 j ≤ 1) (r v : Int) (hr : 0 ≤ r ∧ r < S 0 2) (hv : 0 ≤ v ∧ v < 6) (hl : v = 4 → S 7 r = LT (S 0 2) (S 4) (S 6) (S 0 2) r) : hMI l yX2_roomTold wsX2_roomTold (rmL 5) K [.ref (q 0), .int (iI r), .int (iI v)] (wM K q S) (fun z w => z = ABT (S 0 2) (S 4) (S 6) r v ∧ w = wM K q S) := by
  have hn := H.n
  have hk9 := H.1
  refine in_MI (cc := cX2_roomTold) (maxL := 3) (rt := (some .int)) (lv := [(0, .ref (q 0)), (1, .int (iI r)), (2, .int (iI v))]) (by decide) rfl (Nat.le_of_ble_eq_true rfl) rfl ?_
  intro p e s m args below meth c A C
  have hinX2 : ∀ w ∈ wsX20, w ∈ wsX2_roomTold := by decide +kernel
  refine g_iload_n (pc := 0) C dX2_roomTold_0 rfl rfl ?_
  rcases (by omega : v = 0 ∨ v = 1 ∨ v = 2 ∨ v = 3 ∨ v = 4 ∨ v = 5) with h | h | h | h | h | h
  · subst h
    refine g_tsw (pc := 1) (tgt := 36) C dX2_roomTold_1 (by omega) (by omega) (by omega) rfl (by decide) ?_
    refine g_aload_n (pc := 36) C dX2_roomTold_36 rfl rfl ?_
    refine g_get (pc := 37) (ref := "HexRoomsModel") (ci := 2) (N := 13) C 0 rfl rfl hinX2 3 (by decide) (by decide +kernel) rfl rfl dX2_roomTold_37 ?_
    refine g_iload_n (pc := 40) C dX2_roomTold_40 rfl rfl ?_
    refine g_iaload (pc := 41) C 1 rfl (by omega) dX2_roomTold_41 ?_
    exact g_ireturn (pc := 42) C rfl dX2_roomTold_42 ⟨by exact (H.2.2.1 r hr.1 hr.2).1, rfl⟩
  · subst h
    refine g_tsw (pc := 1) (tgt := 43) C dX2_roomTold_1 (by omega) (by omega) (by omega) rfl (by decide) ?_
    refine g_aload_n (pc := 43) C dX2_roomTold_43 rfl rfl ?_
    refine g_get (pc := 44) (ref := "HexRoomsModel") (ci := 2) (N := 13) C 0 rfl rfl hinX2 4 (by decide) (by decide +kernel) rfl rfl dX2_roomTold_44 ?_
    refine g_iload_n (pc := 47) C dX2_roomTold_47 rfl rfl ?_
    refine g_iaload (pc := 48) C 2 rfl (by omega) dX2_roomTold_48 ?_
    exact g_ireturn (pc := 49) C rfl dX2_roomTold_49 ⟨by exact (H.2.2.1 r hr.1 hr.2).2.1, rfl⟩
  · subst h
    refine g_tsw (pc := 1) (tgt := 50) C dX2_roomTold_1 (by omega) (by omega) (by omega) rfl (by decide) ?_
    refine g_aload_n (pc := 50) C dX2_roomTold_50 rfl rfl ?_
    refine g_get (pc := 51) (ref := "HexRoomsModel") (ci := 2) (N := 13) C 0 rfl rfl hinX2 5 (by decide) (by decide +kernel) rfl rfl dX2_roomTold_51 ?_
    refine g_iload_n (pc := 54) C dX2_roomTold_54 rfl rfl ?_
    refine g_iaload (pc := 55) C 3 rfl (by omega) dX2_roomTold_55 ?_
    exact g_ireturn (pc := 56) C rfl dX2_roomTold_56 ⟨by exact (H.2.2.1 r hr.1 hr.2).2.2, rfl⟩
  · subst h
    refine g_tsw (pc := 1) (tgt := 57) C dX2_roomTold_1 (by omega) (by omega) (by omega) rfl (by decide) ?_
    refine g_aload_n (pc := 57) C dX2_roomTold_57 rfl rfl ?_
    refine g_get (pc := 58) (ref := "HexRoomsModel") (ci := 2) (N := 13) C 0 rfl rfl hinX2 6 (by decide) (by decide +kernel) rfl rfl dX2_roomTold_58 ?_
    refine g_iload_n (pc := 61) C dX2_roomTold_61 rfl rfl ?_
    refine g_iaload (pc := 62) C 4 rfl (by omega) dX2_roomTold_62 ?_
    exact g_ireturn (pc := 63) C rfl dX2_roomTold_63 ⟨by rfl, rfl⟩
  · subst h
    refine g_tsw (pc := 1) (tgt := 64) C dX2_roomTold_1 (by omega) (by omega) (by omega) rfl (by decide) ?_
    refine g_aload_n (pc := 64) C dX2_roomTold_64 rfl rfl ?_
    refine g_get (pc := 65) (ref := "HexRoomsModel") (ci := 2) (N := 13) C 0 rfl rfl hinX2 9 (by decide) (by decide +kernel) rfl rfl dX2_roomTold_65 ?_
    refine g_iload_n (pc := 68) C dX2_roomTold_68 rfl rfl ?_
    refine g_iaload (pc := 69) C 7 rfl (by omega) dX2_roomTold_69 ?_
    exact g_ireturn (pc := 70) C rfl dX2_roomTold_70 ⟨by exact hl rfl, rfl⟩
  · subst h
    refine g_tswD (pc := 1) (tgt := 71) C dX2_roomTold_1 (by omega) (by omega) (by decide) ?_
    refine g_aload_n (pc := 71) C dX2_roomTold_71 rfl rfl ?_
    refine g_iload_n (pc := 72) C dX2_roomTold_72 rfl rfl ?_
    refine g_callVI (pc := 73) (As := [.int (iI r)]) (rest := []) C (c_X2_sidesOn l K q S H hf hh r (show 0 ≤ r ∧ r < S 0 2 by omega)) (cwV 1 C.hts gX2_roomTold_X2_sidesOn rfl rfl rfl (by decide +kernel) ⟨by decide, by decide⟩) 0 rfl rfl dX2_roomTold_73 rfl (Nat.le_of_ble_eq_true rfl) ⟨Nat.zero_le _, Nat.zero_le _⟩ (fun so w hp => ?_)
    obtain ⟨hso, rfl⟩ := hp
    have hso : so = sm (fun t => if ON (S 0 2) (S 4) (S 6) r t = -1 then 0 else 1) 0 6 := hso
    exact g_ireturn (pc := 76) C rfl dX2_roomTold_76 ⟨by exact hso, rfl⟩

set_option maxHeartbeats 400000 in
set_option maxRecDepth 100000 in
theorem c_X2_ringTold (l : Launch) (K : KK) (q : Nat → Nat) (S : Nat → Int → Int) (H : HT S) (hf : ∀ j, 0 ≤ j → j < S 0 2 → 0 ≤ S 4 j ∧ S 4 j ≤ 2) (hh : ∀ j, 0 ≤ j → j < 546 → 0 ≤ S 6 j ∧ S 6 j ≤ 1) (k v : Int) (hk : 0 ≤ k ∧ k ≤ S 0 1) (hv : 0 ≤ v ∧ v < 4) : hMI l yX2_ringTold wsX2_ringTold (rmL 6) K [.ref (q 0), .int (iI k), .int (iI v)] (wM K q S) (fun z w => z = RNG (S 0 2) (S 4) (S 6) k v ∧ ∃ L : Int → Int, w = wM K q (sA S 7 L)) := by
  have hn := H.n
  have hk9 := H.1
  have hfr := FR_m (k := k) (m := S 0 1) hk hk9.2
  rw [← H.2.1] at hfr
  have hfz := FR_SZ (k := k) (by omega)
  refine in_MI (cc := cX2_ringTold) (maxL := 5) (rt := (some .int)) (lv := [(0, .ref (q 0)), (1, .int (iI k)), (2, .int (iI v))]) (by decide) rfl (Nat.le_of_ble_eq_true rfl) rfl ?_
  intro p e s m args below meth c A C
  have hinX2 : ∀ w ∈ wsX20, w ∈ wsX2_ringTold := by decide +kernel
  refine g_iload_n (pc := 0) C dX2_ringTold_0 rfl rfl ?_
  refine g_if_ne (pc := 1) (tgt := 9) C dX2_ringTold_1 (by decide) (by omega) (fun c1 => ?_) (fun c1 => ?_)
  · refine g_iload_n (pc := 9) C dX2_ringTold_9 rfl rfl ?_
    refine g_iconst (pc := 10) C dX2_ringTold_10 ?_
    refine g_icmp_ge (pc := 11) (tgt := 30) C dX2_ringTold_11 (by decide) (by omega) (by omega) (fun c2 => ?_) (fun c2 => ?_)
    · refine g_aload_n (pc := 30) C dX2_ringTold_30 rfl rfl ?_
      refine g_callVI (pc := 31) (As := []) (rest := []) C (c_X2_lit l K q S H hf hh) (cwV 0 C.hts gX2_ringTold_X2_lit rfl rfl rfl (by decide +kernel) ⟨by decide, by decide⟩) 0 rfl rfl dX2_ringTold_31 rfl (Nat.le_of_ble_eq_true rfl) ⟨Nat.zero_le _, Nat.zero_le _⟩ (fun lz w hp => ?_)
      obtain ⟨hlz, L31, rfl, hL31⟩ := hp
      have hlz : lz = LIT (S 0 2) (S 4) (S 6) := hlz
      have hlb := LIT_b (n := S 0 2) (by omega) (S 4) (S 6)
      rw [← hlz] at hlb
      have hL31 : ∀ j, 0 ≤ j → j < S 0 2 → L31 j = LT (S 0 2) (S 4) (S 6) (S 0 2) j := hL31
      have hLb : ∀ j, 0 ≤ j → j < S 0 2 → 0 ≤ L31 j ∧ L31 j ≤ 100000 := by
        intro j h4 h5
        have h8 := LT_b (S 0 2) (S 4) (S 6) (m := S 0 2) (by omega) j
        have h9 := hL31 j h4 h5
        omega
      refine g_pop (pc := 34) C dX2_ringTold_34 rfl ?_
      refine g_iconst (pc := 35) C dX2_ringTold_35 ?_
      refine g_istore_n (pc := 36) (lv' := [(3, .int (iI 0)), (0, .ref (q 0)), (1, .int (iI k)), (2, .int (iI v))]) C dX2_ringTold_36 rfl (by decide) rfl ?_
      refine g_iconst (pc := 37) C dX2_ringTold_37 ?_
      refine g_istore (pc := 38) (lv' := [(4, .int (iI 0)), (3, .int (iI 0)), (0, .ref (q 0)), (1, .int (iI k)), (2, .int (iI v))]) C dX2_ringTold_38 (by decide) rfl ?_
      have loop40 : ∀ (fu : Nat) (acc : Int) (i : Int), (0 ≤ i ∧ i ≤ SZ k) → (acc = sm (fun j => (fun j => if 0 < LT (S 0 2) (S 4) (S 6) (S 0 2) j then 1 else 0) (FR k + j)) 0 i) → SZ k - i < (fu : Int) → hG p l e (rmL 6) s m args below meth c 5 K A 0 0 (QI K A below args s (fun z w => z = RNG (S 0 2) (S 4) (S 6) k v ∧ ∃ L : Int → Int, w = wM K q (sA S 7 L))) 40 [(4, .int (iI i)), (3, .int (iI acc)), (0, .ref (q 0)), (1, .int (iI k)), (2, .int (iI v))] [] (wM K q (sA S 7 L31)) := by
        intro fu
        induction fu with
        | zero =>
          intro acc i h1 h2 hm
          exact absurd hm (by omega)
        | succ fu ih40 =>
          intro acc i h1 h2 hm
          refine g_iload (pc := 40) C dX2_ringTold_40 rfl ?_
          refine g_iload_n (pc := 42) C dX2_ringTold_42 rfl rfl ?_
          refine g_callSI (pc := 43) (As := [.int (iI k)]) (rest := [.int (iI i)]) C (c_X2_size l K _ k (by omega)) (cwS 1 C.hts gX2_ringTold_X2_size rfl rfl rfl (by decide +kernel) ⟨by decide, by decide⟩) dX2_ringTold_43 rfl (Nat.le_of_ble_eq_true rfl) ⟨Nat.zero_le _, Nat.zero_le _⟩ (fun z w hp => ?_)
          obtain ⟨rfl, rfl⟩ := hp
          refine g_icmp_ge (pc := 46) (tgt := 78) C dX2_ringTold_46 (by decide) (by omega) (by omega) (fun c3 => ?_) (fun c3 => ?_)
          · refine g_iload_n (pc := 78) C dX2_ringTold_78 rfl rfl ?_
            exact g_ireturn (pc := 79) C rfl dX2_ringTold_79 ⟨by
              rw [h2, show i = SZ k by omega, show v = 3 by omega, sm_shift (fun j => if 0 < LT (S 0 2) (S 4) (S 6) (S 0 2) j then 1 else 0) (FR k) (by omega)]
              rfl, L31, rfl⟩
          · refine g_iload_n (pc := 49) C dX2_ringTold_49 rfl rfl ?_
            refine g_aload_n (pc := 50) C dX2_ringTold_50 rfl rfl ?_
            refine g_get (pc := 51) (ref := "HexRoomsModel") (ci := 2) (N := 13) C 0 rfl rfl hinX2 9 (by decide) (by decide +kernel) rfl rfl dX2_ringTold_51 ?_
            refine g_iload_n (pc := 54) C dX2_ringTold_54 rfl rfl ?_
            refine g_callSI (pc := 55) (As := [.int (iI k)]) (rest := [.ref (q 7), .int (iI acc)]) C (c_X2_first l K _ k (by omega)) (cwS 1 C.hts gX2_ringTold_X2_first rfl rfl rfl (by decide +kernel) ⟨by decide, by decide⟩) dX2_ringTold_55 rfl (Nat.le_of_ble_eq_true rfl) ⟨Nat.zero_le _, Nat.zero_le _⟩ (fun z w hp => ?_)
            obtain ⟨rfl, rfl⟩ := hp
            refine g_iload (pc := 58) C dX2_ringTold_58 rfl ?_
            refine g_iadd (pc := 60) C dX2_ringTold_60 ?_
            refine g_iaload (pc := 61) (f := L31) C 7 rfl (by omega) dX2_ringTold_61 ?_
            have bd4 := hLb ((FR k) + i) (by omega) (by omega)
            refine g_if_le (pc := 62) (tgt := 69) C dX2_ringTold_62 (by decide) (by omega) (fun c5 => ?_) (fun c5 => ?_)
            · refine g_iconst (pc := 69) C dX2_ringTold_69 ?_
              refine g_iadd (pc := 70) C dX2_ringTold_70 ?_
              refine g_istore_n (pc := 71) (lv' := [(3, .int (iI (acc + 0))), (4, .int (iI i)), (0, .ref (q 0)), (1, .int (iI k)), (2, .int (iI v))]) C dX2_ringTold_71 rfl (by decide) rfl ?_
              refine g_iinc (pc := 72) (lv' := [(4, .int (iI (i + 1))), (3, .int (iI (acc + 0))), (0, .ref (q 0)), (1, .int (iI k)), (2, .int (iI v))]) C dX2_ringTold_72 rfl (by decide) rfl ?_
              refine g_goto (pc := 75) (tgt := 40) C dX2_ringTold_75 (by decide) ?_
              exact ih40 (acc + 0) (i + 1) (by omega) (by
                rw [sm_s _ h1.1, ← h2]
                show _ = acc + (if 0 < LT (S 0 2) (S 4) (S 6) (S 0 2) (FR k + i) then 1 else 0)
                rw [← hL31 (FR k + i) (by omega) (by omega)]
                split <;> omega) (by omega)
            · refine g_iconst (pc := 65) C dX2_ringTold_65 ?_
              refine g_goto (pc := 66) (tgt := 70) C dX2_ringTold_66 (by decide) ?_
              refine g_iadd (pc := 70) C dX2_ringTold_70 ?_
              refine g_istore_n (pc := 71) (lv' := [(3, .int (iI (acc + 1))), (4, .int (iI i)), (0, .ref (q 0)), (1, .int (iI k)), (2, .int (iI v))]) C dX2_ringTold_71 rfl (by decide) rfl ?_
              refine g_iinc (pc := 72) (lv' := [(4, .int (iI (i + 1))), (3, .int (iI (acc + 1))), (0, .ref (q 0)), (1, .int (iI k)), (2, .int (iI v))]) C dX2_ringTold_72 rfl (by decide) rfl ?_
              refine g_goto (pc := 75) (tgt := 40) C dX2_ringTold_75 (by decide) ?_
              exact ih40 (acc + 1) (i + 1) (by omega) (by
                rw [sm_s _ h1.1, ← h2]
                show _ = acc + (if 0 < LT (S 0 2) (S 4) (S 6) (S 0 2) (FR k + i) then 1 else 0)
                rw [← hL31 (FR k + i) (by omega) (by omega)]
                split <;> omega) (by omega)
      exact loop40 (31) 0 0 (by omega) (by rw [sm_0]) (by omega)
    · refine g_aload_n (pc := 14) C dX2_ringTold_14 rfl rfl ?_
      refine g_iload_n (pc := 15) C dX2_ringTold_15 rfl rfl ?_
      refine g_iload_n (pc := 16) C dX2_ringTold_16 rfl rfl ?_
      refine g_iconst (pc := 17) C dX2_ringTold_17 ?_
      refine g_icmp_ne (pc := 18) (tgt := 25) C dX2_ringTold_18 (by decide) (by omega) (by omega) (fun c6 => ?_) (fun c6 => ?_)
      · refine g_iconst (pc := 25) C dX2_ringTold_25 ?_
        refine g_callVI (pc := 26) (As := [.int (iI k), .int (iI 2)]) (rest := []) C (c_X2_standing l K q S H hf hh k 2 (by omega) (by omega)) (cwV 2 C.hts gX2_ringTold_X2_standing rfl rfl rfl (by decide +kernel) ⟨by decide, by decide⟩) 0 rfl rfl dX2_ringTold_26 rfl (Nat.le_of_ble_eq_true rfl) ⟨Nat.zero_le _, Nat.zero_le _⟩ (fun sz w hp => ?_)
        obtain ⟨hsz, rfl⟩ := hp
        have hsz : sz = sm (fun j => if (k = -1 ∨ TR j = k) ∧ S 4 j = 2 then 1 else 0) 0 (S 0 2) := hsz
        exact g_ireturn (pc := 29) C rfl dX2_ringTold_29 ⟨by
          rcases (by omega : v = 1 ∨ v = 2) with g | g <;> subst g
          · first | exact absurd rfl (by assumption) | exact hsz.trans (by rw [H.2.1]; exact sm_ring (S 4) hk hk9.2)
          · first | exact absurd (by assumption) (by decide) | exact hsz.trans (by rw [H.2.1]; exact sm_ring (S 4) hk hk9.2), S 7, by rw [sA_self]⟩
      · refine g_iconst (pc := 21) C dX2_ringTold_21 ?_
        refine g_goto (pc := 22) (tgt := 26) C dX2_ringTold_22 (by decide) ?_
        refine g_callVI (pc := 26) (As := [.int (iI k), .int (iI 1)]) (rest := []) C (c_X2_standing l K q S H hf hh k 1 (by omega) (by omega)) (cwV 2 C.hts gX2_ringTold_X2_standing rfl rfl rfl (by decide +kernel) ⟨by decide, by decide⟩) 0 rfl rfl dX2_ringTold_26 rfl (Nat.le_of_ble_eq_true rfl) ⟨Nat.zero_le _, Nat.zero_le _⟩ (fun sz w hp => ?_)
        obtain ⟨hsz, rfl⟩ := hp
        have hsz : sz = sm (fun j => if (k = -1 ∨ TR j = k) ∧ S 4 j = 1 then 1 else 0) 0 (S 0 2) := hsz
        exact g_ireturn (pc := 29) C rfl dX2_ringTold_29 ⟨by
          rcases (by omega : v = 1 ∨ v = 2) with g | g <;> subst g
          · first | exact absurd rfl (by assumption) | exact hsz.trans (by rw [H.2.1]; exact sm_ring (S 4) hk hk9.2)
          · first | exact absurd (by assumption) (by decide) | exact hsz.trans (by rw [H.2.1]; exact sm_ring (S 4) hk hk9.2), S 7, by rw [sA_self]⟩
  · refine g_iload_n (pc := 4) C dX2_ringTold_4 rfl rfl ?_
    refine g_callSI (pc := 5) (As := [.int (iI k)]) (rest := []) C (c_X2_size l K _ k (by omega)) (cwS 1 C.hts gX2_ringTold_X2_size rfl rfl rfl (by decide +kernel) ⟨by decide, by decide⟩) dX2_ringTold_5 rfl (Nat.le_of_ble_eq_true rfl) ⟨Nat.zero_le _, Nat.zero_le _⟩ (fun z w hp => ?_)
    obtain ⟨rfl, rfl⟩ := hp
    exact g_ireturn (pc := 8) C rfl dX2_ringTold_8 ⟨by
      rw [show v = 0 by omega]
      rfl, S 7, by rw [sA_self]⟩

set_option maxHeartbeats 400000 in
set_option maxRecDepth 100000 in
theorem c_X2_parts (l : Launch) (K : KK) (q : Nat → Nat) (S : Nat → Int → Int) (H : HT S) (hf : ∀ j, 0 ≤ j → j < S 0 2 → 0 ≤ S 4 j ∧ S 4 j ≤ 2) (hh : ∀ j, 0 ≤ j → j < 546 → 0 ≤ S 6 j ∧ S 6 j ≤ 1) : hMI l yX2_parts wsX2_parts (rmL 5) K [.ref (q 0)] (wM K q S) (fun z w => z = PCm (S 0 2) (S 4) (S 6) (S 0 2) ∧ ∃ D u : Int → Int, w = wM K q (sA (sA S 8 D) 9 u)) := by
  have hn := H.n
  have hk9 := H.1
  refine in_MI (cc := cX2_parts) (maxL := 5) (rt := (some .int)) (lv := [(0, .ref (q 0))]) (by decide) rfl (Nat.le_of_ble_eq_true rfl) rfl ?_
  intro p e s m args below meth c A C
  have hinX2 : ∀ w ∈ wsX20, w ∈ wsX2_parts := by decide +kernel
  refine g_iconst (pc := 0) C dX2_parts_0 ?_
  refine g_istore_n (pc := 1) (lv' := [(1, .int (iI 0)), (0, .ref (q 0))]) C dX2_parts_1 rfl (by decide) rfl ?_
  refine g_iconst (pc := 2) C dX2_parts_2 ?_
  refine g_istore_n (pc := 3) (lv' := [(2, .int (iI 0)), (1, .int (iI 0)), (0, .ref (q 0))]) C dX2_parts_3 rfl (by decide) rfl ?_
  have loop4 : ∀ (fu : Nat) (D : Int → Int) (u : Int → Int) (acc : Int) (r : Int), (0 ≤ r ∧ r ≤ S 0 2) → (acc = PCm (S 0 2) (S 4) (S 6) r) → S 0 2 - r < (fu : Int) → hG p l e (rmL 5) s m args below meth c 5 K A 0 0 (QI K A below args s (fun z w => z = PCm (S 0 2) (S 4) (S 6) (S 0 2) ∧ ∃ D u : Int → Int, w = wM K q (sA (sA S 8 D) 9 u))) 4 [(2, .int (iI r)), (1, .int (iI acc)), (0, .ref (q 0))] [] (wM K q (sA (sA S 8 D) 9 u)) := by
    intro fu
    induction fu with
    | zero =>
      intro D u acc r h1 hacc hm
      exact absurd hm (by omega)
    | succ fu ih4 =>
      intro D u acc r h1 hacc hm
      refine g_iload_n (pc := 4) C dX2_parts_4 rfl rfl ?_
      refine g_aload_n (pc := 5) C dX2_parts_5 rfl rfl ?_
      refine g_get (pc := 6) (v := .int (iI ((S 0) 2))) (ref := "HexRoomsModel") (ci := 2) (N := 13) C 0 rfl rfl hinX2 2 (by decide) (by decide +kernel) rfl rfl dX2_parts_6 ?_
      refine g_icmp_ge (pc := 9) (tgt := 87) C dX2_parts_9 (by decide) (by omega) (by omega) (fun c1 => ?_) (fun c1 => ?_)
      · refine g_iload_n (pc := 87) C dX2_parts_87 rfl rfl ?_
        exact g_ireturn (pc := 88) C rfl dX2_parts_88 ⟨by rw [hacc, show r = S 0 2 by omega], D, u, rfl⟩
      · refine g_aload_n (pc := 12) C dX2_parts_12 rfl rfl ?_
        refine g_get (pc := 13) (ref := "HexRoomsModel") (ci := 2) (N := 13) C 0 rfl rfl hinX2 6 (by decide) (by decide +kernel) rfl rfl dX2_parts_13 ?_
        refine g_iload_n (pc := 16) C dX2_parts_16 rfl rfl ?_
        refine g_iaload (pc := 17) (f := (S 4)) C 4 rfl (by omega) dX2_parts_17 ?_
        have bd2 := hf r (by omega) (by omega)
        refine g_iconst (pc := 18) C dX2_parts_18 ?_
        refine g_icmp_ne (pc := 19) (tgt := 25) C dX2_parts_19 (by decide) (by omega) (by omega) (fun c3 => ?_) (fun c3 => ?_)
        · refine g_aload_n (pc := 25) C dX2_parts_25 rfl rfl ?_
          refine g_iload_n (pc := 26) C dX2_parts_26 rfl rfl ?_
          refine g_callVI (pc := 27) (As := [.int (iI r)]) (rest := []) C (c_X2_spread l K q (sA (sA S 8 D) 9 u) H hf hh r (show 0 ≤ r ∧ r < S 0 2 by omega)) (cwV 1 C.hts gX2_parts_X2_spread rfl rfl rfl (by decide +kernel) ⟨by decide, by decide⟩) 0 rfl rfl dX2_parts_27 rfl (Nat.le_of_ble_eq_true rfl) ⟨Nat.zero_le _, Nat.zero_le _⟩ (fun sz w hp => ?_)
          obtain ⟨D27, u27, rfl, hD27⟩ := hp
          have hD27 : ∀ j, 0 ≤ j → j < S 0 2 → dR (S 0 2) (S 4) (S 6) r j (D27 j) := hD27
          refine g_pop (pc := 30) C dX2_parts_30 rfl ?_
          refine g_iconst (pc := 31) C dX2_parts_31 ?_
          refine g_istore_n (pc := 32) (lv' := [(3, .int (iI 1)), (2, .int (iI r)), (1, .int (iI acc)), (0, .ref (q 0))]) C dX2_parts_32 rfl (by decide) rfl ?_
          refine g_iconst (pc := 33) C dX2_parts_33 ?_
          refine g_istore (pc := 34) (lv' := [(4, .int (iI 0)), (3, .int (iI 1)), (2, .int (iI r)), (1, .int (iI acc)), (0, .ref (q 0))]) C dX2_parts_34 (by decide) rfl ?_
          have loop36 : ∀ (fu : Nat) (fl : Int) (i : Int), (0 ≤ i ∧ i ≤ r) → ((fl = 1 ∧ ∀ j, 0 ≤ j → j < i → D27 j = -1) ∨ (fl = 0 ∧ ∃ j, 0 ≤ j ∧ j < r ∧ ¬ D27 j = -1)) → r - i < (fu : Int) → hG p l e (rmL 5) s m args below meth c 5 K A 0 0 (QI K A below args s (fun z w => z = PCm (S 0 2) (S 4) (S 6) (S 0 2) ∧ ∃ D u : Int → Int, w = wM K q (sA (sA S 8 D) 9 u))) 36 [(4, .int (iI i)), (3, .int (iI fl)), (2, .int (iI r)), (1, .int (iI acc)), (0, .ref (q 0))] [] (wM K q (sA (sA S 8 D27) 9 u27)) := by
            intro fu
            induction fu with
            | zero =>
              intro fl i h4 h5 hm
              exact absurd hm (by omega)
            | succ fu ih36 =>
              intro fl i h4 h5 hm
              have hfl : 0 ≤ fl ∧ fl ≤ 1 := by
                rcases h5 with ⟨e1, _⟩ | ⟨e1, _⟩ <;> omega
              refine g_iload (pc := 36) C dX2_parts_36 rfl ?_
              refine g_iload_n (pc := 38) C dX2_parts_38 rfl rfl ?_
              refine g_icmp_ge (pc := 39) (tgt := 69) C dX2_parts_39 (by decide) (by omega) (by omega) (fun c4 => ?_) (fun c4 => ?_)
              · refine g_iload_n (pc := 69) C dX2_parts_69 rfl rfl ?_
                refine g_iload_n (pc := 70) C dX2_parts_70 rfl rfl ?_
                refine g_if_eq (pc := 71) (tgt := 78) C dX2_parts_71 (by decide) (by omega) (fun c5 => ?_) (fun c5 => ?_)
                · refine g_iconst (pc := 78) C dX2_parts_78 ?_
                  refine g_iadd (pc := 79) C dX2_parts_79 ?_
                  refine g_istore_n (pc := 80) (lv' := [(1, .int (iI (acc + 0))), (4, .int (iI i)), (3, .int (iI fl)), (2, .int (iI r)), (0, .ref (q 0))]) C dX2_parts_80 rfl (by decide) rfl ?_
                  refine g_iinc (pc := 81) (lv' := [(2, .int (iI (r + 1))), (1, .int (iI (acc + 0))), (4, .int (iI i)), (3, .int (iI fl)), (0, .ref (q 0))]) C dX2_parts_81 rfl (by decide) rfl ?_
                  refine g_goto (pc := 84) (tgt := 4) C dX2_parts_84 (by decide) ?_
                  refine g_sub (lv' := [(2, .int (iI (r + 1))), (1, .int (iI (acc + 0))), (0, .ref (q 0))]) [0, 1, 4] rfl ?_
                  exact ih4 D27 u27 (acc + 0) (r + 1) (by omega) (by
                    rcases h5 with ⟨e1, _⟩ | ⟨e1, j, e2, e3, e4⟩
                    · exact absurd e1 (by omega)
                    · rw [PCm_s _ _ _ h1.1, pI_0 (fun w => e4 ((dR_m1 (hD27 j e2 (by omega))).mpr (w.2 j e2 e3))), hacc]) (by omega)
                · refine g_iconst (pc := 74) C dX2_parts_74 ?_
                  refine g_goto (pc := 75) (tgt := 79) C dX2_parts_75 (by decide) ?_
                  refine g_iadd (pc := 79) C dX2_parts_79 ?_
                  refine g_istore_n (pc := 80) (lv' := [(1, .int (iI (acc + 1))), (4, .int (iI i)), (3, .int (iI fl)), (2, .int (iI r)), (0, .ref (q 0))]) C dX2_parts_80 rfl (by decide) rfl ?_
                  refine g_iinc (pc := 81) (lv' := [(2, .int (iI (r + 1))), (1, .int (iI (acc + 1))), (4, .int (iI i)), (3, .int (iI fl)), (0, .ref (q 0))]) C dX2_parts_81 rfl (by decide) rfl ?_
                  refine g_goto (pc := 84) (tgt := 4) C dX2_parts_84 (by decide) ?_
                  refine g_sub (lv' := [(2, .int (iI (r + 1))), (1, .int (iI (acc + 1))), (0, .ref (q 0))]) [0, 1, 4] rfl ?_
                  exact ih4 D27 u27 (acc + 1) (r + 1) (by omega) (by
                    rcases h5 with ⟨e1, e2⟩ | ⟨e1, _⟩
                    · rw [PCm_s _ _ _ h1.1, pI_1 ⟨by omega, fun j g1 g2 => (dR_m1 (hD27 j g1 (by omega))).mp (e2 j g1 (by omega))⟩, hacc]
                    · exact absurd e1 (by omega)) (by omega)
              · refine g_iload_n (pc := 42) C dX2_parts_42 rfl rfl ?_
                refine g_if_eq (pc := 43) (tgt := 61) C dX2_parts_43 (by decide) (by omega) (fun c6 => ?_) (fun c6 => ?_)
                · refine g_iconst (pc := 61) C dX2_parts_61 ?_
                  refine g_istore_n (pc := 62) (lv' := [(3, .int (iI 0)), (4, .int (iI i)), (2, .int (iI r)), (1, .int (iI acc)), (0, .ref (q 0))]) C dX2_parts_62 rfl (by decide) rfl ?_
                  refine g_iinc (pc := 63) (lv' := [(4, .int (iI (i + 1))), (3, .int (iI 0)), (2, .int (iI r)), (1, .int (iI acc)), (0, .ref (q 0))]) C dX2_parts_63 rfl (by decide) rfl ?_
                  refine g_goto (pc := 66) (tgt := 36) C dX2_parts_66 (by decide) ?_
                  exact ih36 0 (i + 1) (by omega) (by
                    rcases h5 with ⟨e1, _⟩ | ⟨e1, e2⟩
                    · exact Or.inr ⟨rfl, i, by omega, by omega, by omega⟩
                    · exact Or.inr ⟨rfl, e2⟩) (by omega)
                · refine g_aload_n (pc := 46) C dX2_parts_46 rfl rfl ?_
                  refine g_get (pc := 47) (ref := "HexRoomsModel") (ci := 2) (N := 13) C 0 rfl rfl hinX2 10 (by decide) (by decide +kernel) rfl rfl dX2_parts_47 ?_
                  refine g_iload (pc := 50) C dX2_parts_50 rfl ?_
                  refine g_iaload (pc := 52) (f := D27) C 8 rfl (by omega) dX2_parts_52 ?_
                  have bd7 := dR_b (hD27 i (by omega) (by omega))
                  refine g_iconst (pc := 53) C dX2_parts_53 ?_
                  refine g_icmp_ne (pc := 54) (tgt := 61) C dX2_parts_54 (by decide) (by omega) (by omega) (fun c8 => ?_) (fun c8 => ?_)
                  · refine g_iconst (pc := 61) C dX2_parts_61 ?_
                    refine g_istore_n (pc := 62) (lv' := [(3, .int (iI 0)), (4, .int (iI i)), (2, .int (iI r)), (1, .int (iI acc)), (0, .ref (q 0))]) C dX2_parts_62 rfl (by decide) rfl ?_
                    refine g_iinc (pc := 63) (lv' := [(4, .int (iI (i + 1))), (3, .int (iI 0)), (2, .int (iI r)), (1, .int (iI acc)), (0, .ref (q 0))]) C dX2_parts_63 rfl (by decide) rfl ?_
                    refine g_goto (pc := 66) (tgt := 36) C dX2_parts_66 (by decide) ?_
                    exact ih36 0 (i + 1) (by omega) (by
                      rcases h5 with ⟨e1, _⟩ | ⟨e1, e2⟩
                      · exact Or.inr ⟨rfl, i, by omega, by omega, by omega⟩
                      · exact Or.inr ⟨rfl, e2⟩) (by omega)
                  · refine g_iconst (pc := 57) C dX2_parts_57 ?_
                    refine g_goto (pc := 58) (tgt := 62) C dX2_parts_58 (by decide) ?_
                    refine g_istore_n (pc := 62) (lv' := [(3, .int (iI 1)), (4, .int (iI i)), (2, .int (iI r)), (1, .int (iI acc)), (0, .ref (q 0))]) C dX2_parts_62 rfl (by decide) rfl ?_
                    refine g_iinc (pc := 63) (lv' := [(4, .int (iI (i + 1))), (3, .int (iI 1)), (2, .int (iI r)), (1, .int (iI acc)), (0, .ref (q 0))]) C dX2_parts_63 rfl (by decide) rfl ?_
                    refine g_goto (pc := 66) (tgt := 36) C dX2_parts_66 (by decide) ?_
                    exact ih36 1 (i + 1) (by omega) (by
                      rcases h5 with ⟨e1, e2⟩ | ⟨e1, _⟩
                      · refine Or.inl ⟨rfl, fun j g1 g2 => ?_⟩
                        by_cases g : j = i
                        · rw [g]; omega
                        · exact e2 j g1 (by omega)
                      · exact absurd e1 (by omega)) (by omega)
          exact loop36 (92) 1 0 (by omega) (Or.inl ⟨rfl, fun j g1 g2 => by omega⟩) (by omega)
        · refine g_goto (pc := 22) (tgt := 81) C dX2_parts_22 (by decide) ?_
          refine g_iinc (pc := 81) (lv' := [(2, .int (iI (r + 1))), (1, .int (iI acc)), (0, .ref (q 0))]) C dX2_parts_81 rfl (by decide) rfl ?_
          refine g_goto (pc := 84) (tgt := 4) C dX2_parts_84 (by decide) ?_
          exact ih4 D u acc (r + 1) (by omega) (by rw [PCm_s _ _ _ h1.1, pI_0 (fun w => w.1 (by omega)), hacc, Int.add_zero]) (by omega)
  exact loop4 (92) (S 8) (S 9) 0 0 (by omega) (PCm_0 _ _ _).symm (by omega)

set_option maxHeartbeats 400000 in
set_option maxRecDepth 100000 in
theorem c_X2_counted (l : Launch) (K : KK) (q : Nat → Nat) (S : Nat → Int → Int) (H : HT S) (hf : ∀ j, 0 ≤ j → j < S 0 2 → 0 ≤ S 4 j ∧ S 4 j ≤ 2) (hh : ∀ j, 0 ≤ j → j < 546 → 0 ≤ S 6 j ∧ S 6 j ≤ 1) (Y : SYM (S 0 2) (S 6)) (v : Int) (hv : 0 ≤ v ∧ v < 7) : hMI l yX2_counted wsX2_counted (rmL 6) K [.ref (q 0), .int (iI v)] (wM K q S) (fun z w => z = CNT (S 0 1) (S 0 2) (S 4) (S 6) v ∧ ∃ L D u : Int → Int, w = wM K q (sA (sA (sA S 7 L) 8 D) 9 u)) := by
  have hn := H.n
  have hk9 := H.1
  refine in_MI (cc := cX2_counted) (maxL := 4) (rt := (some .int)) (lv := [(0, .ref (q 0)), (1, .int (iI v))]) (by decide) rfl (Nat.le_of_ble_eq_true rfl) rfl ?_
  intro p e s m args below meth c A C
  have hinX2 : ∀ w ∈ wsX20, w ∈ wsX2_counted := by decide +kernel
  refine g_iconst (pc := 0) C dX2_counted_0 ?_
  refine g_istore_n (pc := 1) (lv' := [(2, .int (iI 0)), (0, .ref (q 0)), (1, .int (iI v))]) C dX2_counted_1 rfl (by decide) rfl ?_
  refine g_iload_n (pc := 2) C dX2_counted_2 rfl rfl ?_
  rcases (by omega : v = 0 ∨ v = 1 ∨ v = 2 ∨ v = 3 ∨ v = 4 ∨ v = 5 ∨ v = 6) with h | h | h | h | h | h | h
  · subst h
    refine g_tsw (pc := 3) (tgt := 40) C dX2_counted_3 (by omega) (by omega) (by omega) rfl (by decide) ?_
    refine g_aload_n (pc := 40) C dX2_counted_40 rfl rfl ?_
    refine g_get (pc := 41) (ref := "HexRoomsModel") (ci := 2) (N := 13) C 0 rfl rfl hinX2 2 (by decide) (by decide +kernel) rfl rfl dX2_counted_41 ?_
    exact g_ireturn (pc := 44) C rfl dX2_counted_44 ⟨by rfl, ⟨S 7, S 8, S 9, by rw [sA3_self]⟩⟩
  · subst h
    refine g_tsw (pc := 3) (tgt := 45) C dX2_counted_3 (by omega) (by omega) (by omega) rfl (by decide) ?_
    refine g_aload_n (pc := 45) C dX2_counted_45 rfl rfl ?_
    refine g_get (pc := 46) (ref := "HexRoomsModel") (ci := 2) (N := 13) C 0 rfl rfl hinX2 1 (by decide) (by decide +kernel) rfl rfl dX2_counted_46 ?_
    exact g_ireturn (pc := 49) C rfl dX2_counted_49 ⟨by rfl, ⟨S 7, S 8, S 9, by rw [sA3_self]⟩⟩
  · subst h
    refine g_tsw (pc := 3) (tgt := 50) C dX2_counted_3 (by omega) (by omega) (by omega) rfl (by decide) ?_
    refine g_aload_n (pc := 50) C dX2_counted_50 rfl rfl ?_
    refine g_iconst (pc := 51) C dX2_counted_51 ?_
    refine g_iconst (pc := 52) C dX2_counted_52 ?_
    refine g_callVI (pc := 53) (As := [.int (iI (-1)), .int (iI 1)]) (rest := []) C (c_X2_standing l K q S H hf hh (-1) 1 (by omega) (by omega)) (cwV 2 C.hts gX2_counted_X2_standing rfl rfl rfl (by decide +kernel) ⟨by decide, by decide⟩) 0 rfl rfl dX2_counted_53 rfl (Nat.le_of_ble_eq_true rfl) ⟨Nat.zero_le _, Nat.zero_le _⟩ (fun sz w hp => ?_)
    obtain ⟨hsz, rfl⟩ := hp
    have hsz : sz = sm (fun j => if ((-1) = -1 ∨ TR j = (-1)) ∧ S 4 j = 1 then 1 else 0) 0 (S 0 2) := hsz
    exact g_ireturn (pc := 56) C rfl dX2_counted_56 ⟨by
      refine hsz.trans (sm_cong (fun j g0 g1 => ?_))
      show (if ((-1 : Int) = -1 ∨ TR j = -1) ∧ S 4 j = 1 then (1 : Int) else 0) = if S 4 j = 1 then 1 else 0
      split <;> split <;> omega, ⟨S 7, S 8, S 9, by rw [sA3_self]⟩⟩
  · subst h
    refine g_tsw (pc := 3) (tgt := 57) C dX2_counted_3 (by omega) (by omega) (by omega) rfl (by decide) ?_
    refine g_aload_n (pc := 57) C dX2_counted_57 rfl rfl ?_
    refine g_iconst (pc := 58) C dX2_counted_58 ?_
    refine g_iconst (pc := 59) C dX2_counted_59 ?_
    refine g_callVI (pc := 60) (As := [.int (iI (-1)), .int (iI 2)]) (rest := []) C (c_X2_standing l K q S H hf hh (-1) 2 (by omega) (by omega)) (cwV 2 C.hts gX2_counted_X2_standing rfl rfl rfl (by decide +kernel) ⟨by decide, by decide⟩) 0 rfl rfl dX2_counted_60 rfl (Nat.le_of_ble_eq_true rfl) ⟨Nat.zero_le _, Nat.zero_le _⟩ (fun sz w hp => ?_)
    obtain ⟨hsz, rfl⟩ := hp
    have hsz : sz = sm (fun j => if ((-1) = -1 ∨ TR j = (-1)) ∧ S 4 j = 2 then 1 else 0) 0 (S 0 2) := hsz
    exact g_ireturn (pc := 63) C rfl dX2_counted_63 ⟨by
      refine hsz.trans (sm_cong (fun j g0 g1 => ?_))
      show (if ((-1 : Int) = -1 ∨ TR j = -1) ∧ S 4 j = 2 then (1 : Int) else 0) = if S 4 j = 2 then 1 else 0
      split <;> split <;> omega, ⟨S 7, S 8, S 9, by rw [sA3_self]⟩⟩
  · subst h
    refine g_tsw (pc := 3) (tgt := 64) C dX2_counted_3 (by omega) (by omega) (by omega) rfl (by decide) ?_
    refine g_iconst (pc := 64) C dX2_counted_64 ?_
    refine g_istore_n (pc := 65) (lv' := [(3, .int (iI 0)), (2, .int (iI 0)), (0, .ref (q 0)), (1, .int (iI 4))]) C dX2_counted_65 rfl (by decide) rfl ?_
    have loop66 : ∀ (fu : Nat) (acc : Int) (i : Int), (0 ≤ i ∧ i ≤ 6 * S 0 2) → (acc = sm (fun j => if S 6 j = 0 then 0 else 1) 0 i) → 6 * S 0 2 - i < (fu : Int) → hG p l e (rmL 6) s m args below meth c 4 K A 0 0 (QI K A below args s (fun z w => z = CNT (S 0 1) (S 0 2) (S 4) (S 6) 4 ∧ ∃ L D u : Int → Int, w = wM K q (sA (sA (sA S 7 L) 8 D) 9 u))) 66 [(3, .int (iI i)), (2, .int (iI acc)), (0, .ref (q 0)), (1, .int (iI 4))] [] (wM K q S) := by
      intro fu
      induction fu with
      | zero =>
        intro acc i h1 h2 hm
        exact absurd hm (by omega)
      | succ fu ih66 =>
        intro acc i h1 h2 hm
        refine g_iload_n (pc := 66) C dX2_counted_66 rfl rfl ?_
        refine g_bipush (pc := 67) C dX2_counted_67 (by decide +kernel) ?_
        refine g_aload_n (pc := 69) C dX2_counted_69 rfl rfl ?_
        refine g_get (pc := 70) (ref := "HexRoomsModel") (ci := 2) (N := 13) C 0 rfl rfl hinX2 2 (by decide) (by decide +kernel) rfl rfl dX2_counted_70 ?_
        refine g_imul (pc := 73) C dX2_counted_73 ?_
        refine g_icmp_ge (pc := 74) (tgt := 100) C dX2_counted_74 (by decide) (by omega) (by omega) (fun c1 => ?_) (fun c1 => ?_)
        · have hsb := sm_le (g := (fun j => if S 6 j = 0 then 0 else 1)) (c := 1) (a := 0) (b := i) (by omega) (fun j _ _ => by
            show 0 ≤ (if S 6 j = 0 then (0 : Int) else 1) ∧ (if S 6 j = 0 then (0 : Int) else 1) ≤ 1
            split <;> omega)
          rw [← h2] at hsb
          refine g_iload_n (pc := 100) C dX2_counted_100 rfl rfl ?_
          refine g_iconst (pc := 101) C dX2_counted_101 ?_
          refine g_idiv (pc := 102) C dX2_counted_102 (by omega) (by omega) ?_
          exact g_ireturn (pc := 103) C rfl dX2_counted_103 ⟨by
            have hds := DS_e (n := S 0 2) (h := S 6) (by omega) Y
            rw [show 6 * S 0 2 = i by omega, ← h2] at hds
            show acc / 2 = sm (fun r => sm (fun t => if S 6 (r * 6 + t) = 0 then 0 else 1) 0 3) 0 (S 0 2)
            omega, ⟨S 7, S 8, S 9, by rw [sA3_self]⟩⟩
        · refine g_iload_n (pc := 77) C dX2_counted_77 rfl rfl ?_
          refine g_aload_n (pc := 78) C dX2_counted_78 rfl rfl ?_
          refine g_get (pc := 79) (ref := "HexRoomsModel") (ci := 2) (N := 13) C 0 rfl rfl hinX2 8 (by decide) (by decide +kernel) rfl rfl dX2_counted_79 ?_
          refine g_iload_n (pc := 82) C dX2_counted_82 rfl rfl ?_
          refine g_baload (pc := 83) C 6 rfl (by omega) dX2_counted_83 ?_
          have bd2 := hh i (by omega) (by omega)
          refine g_if_eq (pc := 84) (tgt := 91) C dX2_counted_84 (by decide) (by omega) (fun c3 => ?_) (fun c3 => ?_)
          · refine g_iconst (pc := 91) C dX2_counted_91 ?_
            refine g_iadd (pc := 92) C dX2_counted_92 ?_
            refine g_istore_n (pc := 93) (lv' := [(2, .int (iI (acc + 0))), (3, .int (iI i)), (0, .ref (q 0)), (1, .int (iI 4))]) C dX2_counted_93 rfl (by decide) rfl ?_
            refine g_iinc (pc := 94) (lv' := [(3, .int (iI (i + 1))), (2, .int (iI (acc + 0))), (0, .ref (q 0)), (1, .int (iI 4))]) C dX2_counted_94 rfl (by decide) rfl ?_
            refine g_goto (pc := 97) (tgt := 66) C dX2_counted_97 (by decide) ?_
            exact ih66 (acc + 0) (i + 1) (by omega) (by rw [sm_s _ h1.1, ← h2]; split <;> omega) (by omega)
          · refine g_iconst (pc := 87) C dX2_counted_87 ?_
            refine g_goto (pc := 88) (tgt := 92) C dX2_counted_88 (by decide) ?_
            refine g_iadd (pc := 92) C dX2_counted_92 ?_
            refine g_istore_n (pc := 93) (lv' := [(2, .int (iI (acc + 1))), (3, .int (iI i)), (0, .ref (q 0)), (1, .int (iI 4))]) C dX2_counted_93 rfl (by decide) rfl ?_
            refine g_iinc (pc := 94) (lv' := [(3, .int (iI (i + 1))), (2, .int (iI (acc + 1))), (0, .ref (q 0)), (1, .int (iI 4))]) C dX2_counted_94 rfl (by decide) rfl ?_
            refine g_goto (pc := 97) (tgt := 66) C dX2_counted_97 (by decide) ?_
            exact ih66 (acc + 1) (i + 1) (by omega) (by rw [sm_s _ h1.1, ← h2]; split <;> omega) (by omega)
    exact loop66 (547) 0 0 (by omega) (by rw [sm_0]) (by omega)
  · subst h
    refine g_tsw (pc := 3) (tgt := 104) C dX2_counted_3 (by omega) (by omega) (by omega) rfl (by decide) ?_
    refine g_aload_n (pc := 104) C dX2_counted_104 rfl rfl ?_
    refine g_callVI (pc := 105) (As := []) (rest := []) C (c_X2_lit l K q S H hf hh) (cwV 0 C.hts gX2_counted_X2_lit rfl rfl rfl (by decide +kernel) ⟨by decide, by decide⟩) 0 rfl rfl dX2_counted_105 rfl (Nat.le_of_ble_eq_true rfl) ⟨Nat.zero_le _, Nat.zero_le _⟩ (fun lz w hp => ?_)
    obtain ⟨hlz, L105, rfl, hL105⟩ := hp
    have hlz : lz = LIT (S 0 2) (S 4) (S 6) := hlz
    have hlb := LIT_b (n := S 0 2) (by omega) (S 4) (S 6)
    rw [← hlz] at hlb
    have hL105 : ∀ j, 0 ≤ j → j < S 0 2 → L105 j = LT (S 0 2) (S 4) (S 6) (S 0 2) j := hL105
    exact g_ireturn (pc := 108) C rfl dX2_counted_108 ⟨by exact hlz, L105, S 8, S 9, by rw [sA3_7]⟩
  · subst h
    refine g_tswD (pc := 3) (tgt := 109) C dX2_counted_3 (by omega) (by omega) (by decide) ?_
    refine g_aload_n (pc := 109) C dX2_counted_109 rfl rfl ?_
    refine g_callVI (pc := 110) (As := []) (rest := []) C (c_X2_parts l K q S H hf hh) (cwV 0 C.hts gX2_counted_X2_parts rfl rfl rfl (by decide +kernel) ⟨by decide, by decide⟩) 0 rfl rfl dX2_counted_110 rfl (Nat.le_of_ble_eq_true rfl) ⟨Nat.zero_le _, Nat.zero_le _⟩ (fun pz w hp => ?_)
    obtain ⟨hpz, D110, u110, rfl⟩ := hp
    have hpz : pz = PCm (S 0 2) (S 4) (S 6) (S 0 2) := hpz
    exact g_ireturn (pc := 113) C rfl dX2_counted_113 ⟨by exact hpz.trans (PCm_e (by omega) Y (by omega)), S 7, D110, u110, by rw [sA3_8]⟩

set_option maxHeartbeats 400000 in
set_option maxRecDepth 100000 in
theorem c_X2_isAlike (l : Launch) (K : KK) (q : Nat → Nat) (S : Nat → Int → Int) (H : HT S) (hf : ∀ j, 0 ≤ j → j < S 0 2 → 0 ≤ S 4 j ∧ S 4 j ≤ 2) (hh : ∀ j, 0 ≤ j → j < 546 → 0 ≤ S 6 j ∧ S 6 j ≤ 1) (b : Int) (hb : 0 ≤ b ∧ b ≤ 6) : hMI l yX2_isAlike wsX2_isAlike (rmL 1) K [.ref (q 0), .int (iI b)] (wM K q S) (fun z w => ((z = 1 ∧ SM6 (S 0 2) (S 4) b) ∨ (z = 0 ∧ ¬ SM6 (S 0 2) (S 4) b)) ∧ w = wM K q S) := by
  have hn := H.n
  have hk9 := H.1
  refine in_MI (cc := cX2_isAlike) (maxL := 5) (rt := (some .boolean)) (lv := [(0, .ref (q 0)), (1, .int (iI b))]) (by decide) rfl (Nat.le_of_ble_eq_true rfl) rfl ?_
  intro p e s m args below meth c A C
  have hinX2 : ∀ w ∈ wsX20, w ∈ wsX2_isAlike := by decide +kernel
  refine g_iconst (pc := 0) C dX2_isAlike_0 ?_
  refine g_istore_n (pc := 1) (lv' := [(2, .int (iI 1)), (0, .ref (q 0)), (1, .int (iI b))]) C dX2_isAlike_1 rfl (by decide) rfl ?_
  have loop2 : ∀ (fu : Nat) (g : Int), (1 ≤ g ∧ g ≤ S 0 1 + 1) → (∀ m, 1 ≤ m → m < g → ∀ p, 0 ≤ p → p < SZ m → S 4 (FR m + p) = S 4 (FR m + (p + m * b) % SZ m)) → S 0 1 + 1 - g < (fu : Int) → hG p l e (rmL 1) s m args below meth c 5 K A 0 0 (QI K A below args s (fun z w => ((z = 1 ∧ SM6 (S 0 2) (S 4) b) ∨ (z = 0 ∧ ¬ SM6 (S 0 2) (S 4) b)) ∧ w = wM K q S)) 2 [(2, .int (iI g)), (0, .ref (q 0)), (1, .int (iI b))] [] (wM K q S) := by
    intro fu
    induction fu with
    | zero =>
      intro g h1 h2 hm
      exact absurd hm (by omega)
    | succ fu ih2 =>
      intro g h1 h2 hm
      refine g_iload_n (pc := 2) C dX2_isAlike_2 rfl rfl ?_
      refine g_aload_n (pc := 3) C dX2_isAlike_3 rfl rfl ?_
      refine g_get (pc := 4) (ref := "HexRoomsModel") (ci := 2) (N := 13) C 0 rfl rfl hinX2 1 (by decide) (by decide +kernel) rfl rfl dX2_isAlike_4 ?_
      refine g_icmp_gt (pc := 7) (tgt := 71) C dX2_isAlike_7 (by decide) (by omega) (by omega) (fun c1 => ?_) (fun c1 => ?_)
      · refine g_iconst (pc := 71) C dX2_isAlike_71 ?_
        exact g_zreturn (pc := 72) C rfl (by omega) dX2_isAlike_72 ⟨Or.inl ⟨rfl, SM6_ok (k := S 0 1) hk9 H.2.1 (fun m h5 h6 => h2 m h5 (by omega))⟩, rfl⟩
      · have hmm := mul_6 (x := g) (y := b) (by omega) hb
        have hfz := FR_SZ (k := g) (by omega)
        have hfr := FR_m (k := g) (m := S 0 1) (by omega) hk9.2
        rw [← H.2.1] at hfr
        refine g_iload_n (pc := 10) C dX2_isAlike_10 rfl rfl ?_
        refine g_callSI (pc := 11) (As := [.int (iI g)]) (rest := []) C (c_X2_size l K _ g (by omega)) (cwS 1 C.hts gX2_isAlike_X2_size rfl rfl rfl (by decide +kernel) ⟨by decide, by decide⟩) dX2_isAlike_11 rfl (Nat.le_of_ble_eq_true rfl) ⟨Nat.zero_le _, Nat.zero_le _⟩ (fun z w hp => ?_)
        obtain ⟨rfl, rfl⟩ := hp
        refine g_istore_n (pc := 14) (lv' := [(3, .int (iI (SZ g))), (2, .int (iI g)), (0, .ref (q 0)), (1, .int (iI b))]) C dX2_isAlike_14 rfl (by decide) rfl ?_
        refine g_iconst (pc := 15) C dX2_isAlike_15 ?_
        refine g_istore (pc := 16) (lv' := [(4, .int (iI 0)), (3, .int (iI (SZ g))), (2, .int (iI g)), (0, .ref (q 0)), (1, .int (iI b))]) C dX2_isAlike_16 (by decide) rfl ?_
        have loop18 : ∀ (fu : Nat) (i : Int), (0 ≤ i ∧ i ≤ SZ g) → (∀ p, 0 ≤ p → p < i → S 4 (FR g + p) = S 4 (FR g + (p + g * b) % SZ g)) → SZ g - i < (fu : Int) → hG p l e (rmL 1) s m args below meth c 5 K A 0 0 (QI K A below args s (fun z w => ((z = 1 ∧ SM6 (S 0 2) (S 4) b) ∨ (z = 0 ∧ ¬ SM6 (S 0 2) (S 4) b)) ∧ w = wM K q S)) 18 [(4, .int (iI i)), (3, .int (iI (SZ g))), (2, .int (iI g)), (0, .ref (q 0)), (1, .int (iI b))] [] (wM K q S) := by
          intro fu
          induction fu with
          | zero =>
            intro i h3 h4 hm
            exact absurd hm (by omega)
          | succ fu ih18 =>
            intro i h3 h4 hm
            refine g_iload (pc := 18) C dX2_isAlike_18 rfl ?_
            refine g_iload_n (pc := 20) C dX2_isAlike_20 rfl rfl ?_
            refine g_icmp_ge (pc := 21) (tgt := 65) C dX2_isAlike_21 (by decide) (by omega) (by omega) (fun c2 => ?_) (fun c2 => ?_)
            · refine g_iinc (pc := 65) (lv' := [(2, .int (iI (g + 1))), (4, .int (iI i)), (3, .int (iI (SZ g))), (0, .ref (q 0)), (1, .int (iI b))]) C dX2_isAlike_65 rfl (by decide) rfl ?_
              refine g_goto (pc := 68) (tgt := 2) C dX2_isAlike_68 (by decide) ?_
              refine g_sub (lv' := [(2, .int (iI (g + 1))), (0, .ref (q 0)), (1, .int (iI b))]) [0, 3, 4] rfl ?_
              exact ih2 (g + 1) (by omega) (fun m h5 h6 p h7 h8 => by
                by_cases c : m = g
                · rw [c] at h8 ⊢
                  exact h4 p h7 (by omega)
                · exact h2 m h5 (by omega) p h7 h8) (by omega)
            · have hm := rot_m (k := g) (b := 0) (by omega) (i + g * b)
              refine g_aload_n (pc := 24) C dX2_isAlike_24 rfl rfl ?_
              refine g_get (pc := 25) (ref := "HexRoomsModel") (ci := 2) (N := 13) C 0 rfl rfl hinX2 6 (by decide) (by decide +kernel) rfl rfl dX2_isAlike_25 ?_
              refine g_iload_n (pc := 28) C dX2_isAlike_28 rfl rfl ?_
              refine g_callSI (pc := 29) (As := [.int (iI g)]) (rest := [.ref (q 4)]) C (c_X2_first l K _ g (by omega)) (cwS 1 C.hts gX2_isAlike_X2_first rfl rfl rfl (by decide +kernel) ⟨by decide, by decide⟩) dX2_isAlike_29 rfl (Nat.le_of_ble_eq_true rfl) ⟨Nat.zero_le _, Nat.zero_le _⟩ (fun z w hp => ?_)
              obtain ⟨rfl, rfl⟩ := hp
              refine g_iload (pc := 32) C dX2_isAlike_32 rfl ?_
              refine g_iadd (pc := 34) C dX2_isAlike_34 ?_
              refine g_iaload (pc := 35) C 4 rfl (by omega) dX2_isAlike_35 ?_
              have bd3 := hf ((FR g) + i) (by omega) (by omega)
              refine g_aload_n (pc := 36) C dX2_isAlike_36 rfl rfl ?_
              refine g_get (pc := 37) (ref := "HexRoomsModel") (ci := 2) (N := 13) C 0 rfl rfl hinX2 6 (by decide) (by decide +kernel) rfl rfl dX2_isAlike_37 ?_
              refine g_iload_n (pc := 40) C dX2_isAlike_40 rfl rfl ?_
              refine g_callSI (pc := 41) (As := [.int (iI g)]) (rest := [.ref (q 4), .int (iI ((S 4) ((FR g) + i)))]) C (c_X2_first l K _ g (by omega)) (cwS 1 C.hts gX2_isAlike_X2_first rfl rfl rfl (by decide +kernel) ⟨by decide, by decide⟩) dX2_isAlike_41 rfl (Nat.le_of_ble_eq_true rfl) ⟨Nat.zero_le _, Nat.zero_le _⟩ (fun z w hp => ?_)
              obtain ⟨rfl, rfl⟩ := hp
              refine g_iload (pc := 44) C dX2_isAlike_44 rfl ?_
              refine g_iload_n (pc := 46) C dX2_isAlike_46 rfl rfl ?_
              refine g_iload_n (pc := 47) C dX2_isAlike_47 rfl rfl ?_
              refine g_imul (pc := 48) C dX2_isAlike_48 ?_
              refine g_iadd (pc := 49) C dX2_isAlike_49 ?_
              refine g_iload_n (pc := 50) C dX2_isAlike_50 rfl rfl ?_
              refine g_irem (pc := 51) C dX2_isAlike_51 (by omega) (by omega) ?_
              refine g_iadd (pc := 52) C dX2_isAlike_52 ?_
              refine g_iaload (pc := 53) C 4 rfl (by omega) dX2_isAlike_53 ?_
              have bd4 := hf ((FR g) + ((i + (g * b)) % (SZ g))) (by omega) (by omega)
              refine g_icmp_eq (pc := 54) (tgt := 59) C dX2_isAlike_54 (by decide) (by omega) (by omega) (fun c5 => ?_) (fun c5 => ?_)
              · refine g_iinc (pc := 59) (lv' := [(4, .int (iI (i + 1))), (3, .int (iI (SZ g))), (2, .int (iI g)), (0, .ref (q 0)), (1, .int (iI b))]) C dX2_isAlike_59 rfl (by decide) rfl ?_
                refine g_goto (pc := 62) (tgt := 18) C dX2_isAlike_62 (by decide) ?_
                exact ih18 (i + 1) (by omega) (fun p h5 h6 => by
                  by_cases c : p = i
                  · rw [c]; assumption
                  · exact h4 p h5 (by omega)) (by omega)
              · refine g_iconst (pc := 57) C dX2_isAlike_57 ?_
                exact g_zreturn (pc := 58) C rfl (by omega) dX2_isAlike_58 ⟨Or.inr ⟨rfl, SM6_no (k := S 0 1) hk9 H.2.1 (g := g) (p := i) (by omega) (by omega) (by assumption)⟩, rfl⟩
        exact loop18 (31) 0 (by omega) (fun p h5 h6 => by omega) (by omega)
  exact loop2 (7) 1 (by omega) (fun m h3 h4 => by omega) (by omega)

set_option maxHeartbeats 400000 in
set_option maxRecDepth 100000 in
theorem c_X2_litBy (l : Launch) (K : KK) (q : Nat → Nat) (S : Nat → Int → Int) (H : HT S) (hf : ∀ j, 0 ≤ j → j < S 0 2 → 0 ≤ S 4 j ∧ S 4 j ≤ 2) (hh : ∀ j, 0 ≤ j → j < 546 → 0 ≤ S 6 j ∧ S 6 j ≤ 1) (k b : Int) (hk : 0 ≤ k ∧ k ≤ S 0 1) (hb : 0 ≤ b ∧ b < SZ k) : hMI l yX2_litBy wsX2_litBy (rmL 6) K [.ref (q 0), .int (iI k), .int (iI b)] (wM K q S) (fun z w => z = LIT (S 0 2) (rot k b (S 4) (S 4)) (S 6) ∧ ∃ L v : Int → Int, w = wM K q (sA (sA S 7 L) 10 v)) := by
  have hn := H.n
  have hk9 := H.1
  have hfr := FR_m (k := k) (m := S 0 1) hk hk9.2
  rw [← H.2.1] at hfr
  have hfz := FR_SZ (k := k) (by omega)
  have hf2 := rot_in (k := k) (b := b) (f := S 4) (g := S 4) (by omega) hfr hf hf
  refine in_MI (cc := cX2_litBy) (maxL := 4) (rt := (some .int)) (lv := [(0, .ref (q 0)), (1, .int (iI k)), (2, .int (iI b))]) (by decide) rfl (Nat.le_of_ble_eq_true rfl) rfl ?_
  intro p e s m args below meth c A C
  refine g_aload_n (pc := 0) C dX2_litBy_0 rfl rfl ?_
  refine g_iload_n (pc := 1) C dX2_litBy_1 rfl rfl ?_
  refine g_iload_n (pc := 2) C dX2_litBy_2 rfl rfl ?_
  refine g_callVV (pc := 3) (As := [.int (iI k), .int (iI b)]) (rest := []) C (c_X2_move l K q S k b (by omega) (by omega)) (cwV 2 C.hts gX2_litBy_X2_move rfl rfl rfl (by decide +kernel) ⟨by decide, by decide⟩) 0 rfl rfl dX2_litBy_3 rfl (Nat.le_of_ble_eq_true rfl) ⟨Nat.zero_le _, Nat.zero_le _⟩ (fun w hp => ?_)
  obtain ⟨v3, rfl⟩ := hp
  refine g_aload_n (pc := 6) C dX2_litBy_6 rfl rfl ?_
  refine g_callVI (pc := 7) (As := []) (rest := []) C (c_X2_lit l K q (sA (sA S 10 v3) 4 (rot k b (S 4) (S 4))) H hf2 hh) (cwV 0 C.hts gX2_litBy_X2_lit rfl rfl rfl (by decide +kernel) ⟨by decide, by decide⟩) 0 rfl rfl dX2_litBy_7 rfl (Nat.le_of_ble_eq_true rfl) ⟨Nat.zero_le _, Nat.zero_le _⟩ (fun lz w hp => ?_)
  obtain ⟨hlz, L7, rfl, hL7⟩ := hp
  have hlz : lz = LIT (S 0 2) (rot k b (S 4) (S 4)) (S 6) := hlz
  have hlb := LIT_b (n := S 0 2) (by omega) (rot k b (S 4) (S 4)) (S 6)
  rw [← hlz] at hlb
  have hL7 : ∀ j, 0 ≤ j → j < S 0 2 → L7 j = LT (S 0 2) (rot k b (S 4) (S 4)) (S 6) (S 0 2) j := hL7
  refine g_istore_n (pc := 10) (lv' := [(3, .int (iI lz)), (0, .ref (q 0)), (1, .int (iI k)), (2, .int (iI b))]) C dX2_litBy_10 rfl (by decide) rfl ?_
  refine g_aload_n (pc := 11) C dX2_litBy_11 rfl rfl ?_
  refine g_iload_n (pc := 12) C dX2_litBy_12 rfl rfl ?_
  refine g_iload_n (pc := 13) C dX2_litBy_13 rfl rfl ?_
  refine g_callSI (pc := 14) (As := [.int (iI k)]) (rest := [.int (iI k), .ref (q 0)]) C (c_X2_size l K _ k (by omega)) (cwS 1 C.hts gX2_litBy_X2_size rfl rfl rfl (by decide +kernel) ⟨by decide, by decide⟩) dX2_litBy_14 rfl (Nat.le_of_ble_eq_true rfl) ⟨Nat.zero_le _, Nat.zero_le _⟩ (fun z w hp => ?_)
  obtain ⟨rfl, rfl⟩ := hp
  refine g_iload_n (pc := 17) C dX2_litBy_17 rfl rfl ?_
  refine g_isub (pc := 18) C dX2_litBy_18 ?_
  refine g_callVV (pc := 19) (As := [.int (iI k), .int (iI ((SZ k) - b))]) (rest := []) C (c_X2_move l K q (sA (sA (sA S 10 v3) 4 (rot k b (S 4) (S 4))) 7 L7) k ((SZ k) - b) (by omega) (by omega)) (cwV 2 C.hts gX2_litBy_X2_move rfl rfl rfl (by decide +kernel) ⟨by decide, by decide⟩) 0 rfl rfl dX2_litBy_19 rfl (Nat.le_of_ble_eq_true rfl) ⟨Nat.zero_le _, Nat.zero_le _⟩ (fun w hp => ?_)
  obtain ⟨v19, rfl⟩ := hp
  refine g_iload_n (pc := 22) C dX2_litBy_22 rfl rfl ?_
  exact g_ireturn (pc := 23) C rfl dX2_litBy_23 ⟨hlz, L7, v19, (congrArg (fun F => wM K q (sA (sA (sA S 7 L7) 10 v19) 4 F)) (rot_inv (k := k) (b := b) (S 4) (by omega))).trans (congrArg (wM K q) (sA_self (sA (sA S 7 L7) 10 v19) 4))⟩
