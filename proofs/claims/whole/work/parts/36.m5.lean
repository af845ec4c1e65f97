set_option maxHeartbeats 400000 in
set_option maxRecDepth 100000 in
theorem c_X2_add (l : Launch) (K : KK) (q : Nat → Nat) (S : Nat → Int → Int) (k c m x y g : Int) (B : BMI k c S m) (hm : 0 ≤ m ∧ m < 91) (hx : x = TA m) (hy : y = TD m) (hg : g = TR m) : hMV l yX2_add wsX2_add (rmL 0) K [.ref (q 0), .int (iI x), .int (iI y), .int (iI g)] (wM K q S) (fun w => ∃ T, w = wM K q T ∧ BMI k c T (m + 1)) := by
  have hm2 : S 0 2 = m := B.2.2.1
  have t1 := TC1 hm
  have t2 := TA_b m
  have t3 := TD_b m
  refine in_MV (cc := cX2_add) (maxL := 4) (rt := none) (lv := [(0, .ref (q 0)), (1, .int (iI x)), (2, .int (iI y)), (3, .int (iI g))]) (by decide) rfl (Nat.le_of_ble_eq_true rfl) rfl ?_
  intro p e s m args below meth c A C
  have hinX2 : ∀ w ∈ wsX20, w ∈ wsX2_add := by decide +kernel
  refine g_aload_n (pc := 0) C dX2_add_0 rfl rfl ?_
  refine g_get (pc := 1) (ref := "HexRoomsModel") (ci := 2) (N := 13) C 0 rfl rfl hinX2 3 (by decide) (by decide +kernel) rfl rfl dX2_add_1 ?_
  refine g_aload_n (pc := 4) C dX2_add_4 rfl rfl ?_
  refine g_get (pc := 5) (ref := "HexRoomsModel") (ci := 2) (N := 13) C 0 rfl rfl hinX2 2 (by decide) (by decide +kernel) rfl rfl dX2_add_5 ?_
  refine g_iload_n (pc := 8) C dX2_add_8 rfl rfl ?_
  refine g_iastore (pc := 9) (f := (S 1)) (ws' := (wM K q (sA S 1 (fU (S 1) ((S 0) 2) x)))) C 1 rfl (by omega) dX2_add_9 rfl ?_
  refine g_aload_n (pc := 10) C dX2_add_10 rfl rfl ?_
  refine g_get (pc := 11) (ref := "HexRoomsModel") (ci := 2) (N := 13) C 0 rfl rfl hinX2 4 (by decide) (by decide +kernel) rfl rfl dX2_add_11 ?_
  refine g_aload_n (pc := 14) C dX2_add_14 rfl rfl ?_
  refine g_get (pc := 15) (v := .int (iI ((S 0) 2))) (ref := "HexRoomsModel") (ci := 2) (N := 13) C 0 rfl rfl hinX2 2 (by decide) (by decide +kernel) rfl rfl dX2_add_15 ?_
  refine g_iload_n (pc := 18) C dX2_add_18 rfl rfl ?_
  refine g_iastore (pc := 19) (f := (S 2)) (ws' := (wM K q (sA (sA S 1 (fU (S 1) ((S 0) 2) x)) 2 (fU (S 2) ((S 0) 2) y)))) C 2 rfl (by omega) dX2_add_19 rfl ?_
  refine g_aload_n (pc := 20) C dX2_add_20 rfl rfl ?_
  refine g_get (pc := 21) (ref := "HexRoomsModel") (ci := 2) (N := 13) C 0 rfl rfl hinX2 5 (by decide) (by decide +kernel) rfl rfl dX2_add_21 ?_
  refine g_aload_n (pc := 24) C dX2_add_24 rfl rfl ?_
  refine g_get (pc := 25) (v := .int (iI ((S 0) 2))) (ref := "HexRoomsModel") (ci := 2) (N := 13) C 0 rfl rfl hinX2 2 (by decide) (by decide +kernel) rfl rfl dX2_add_25 ?_
  refine g_iload_n (pc := 28) C dX2_add_28 rfl rfl ?_
  refine g_iastore (pc := 29) (f := (S 3)) (ws' := (wM K q (sA (sA (sA S 1 (fU (S 1) ((S 0) 2) x)) 2 (fU (S 2) ((S 0) 2) y)) 3 (fU (S 3) ((S 0) 2) g)))) C 3 rfl (by omega) dX2_add_29 rfl ?_
  refine g_aload_n (pc := 30) C dX2_add_30 rfl rfl ?_
  refine g_get (pc := 31) (ref := "HexRoomsModel") (ci := 2) (N := 13) C 0 rfl rfl hinX2 6 (by decide) (by decide +kernel) rfl rfl dX2_add_31 ?_
  refine g_aload_n (pc := 34) C dX2_add_34 rfl rfl ?_
  refine g_get (pc := 35) (v := .int (iI ((S 0) 2))) (ref := "HexRoomsModel") (ci := 2) (N := 13) C 0 rfl rfl hinX2 2 (by decide) (by decide +kernel) rfl rfl dX2_add_35 ?_
  refine g_iconst (pc := 38) C dX2_add_38 ?_
  refine g_iastore (pc := 39) (f := (S 4)) (ws' := (wM K q (sA (sA (sA (sA S 1 (fU (S 1) ((S 0) 2) x)) 2 (fU (S 2) ((S 0) 2) y)) 3 (fU (S 3) ((S 0) 2) g)) 4 (fU (S 4) ((S 0) 2) 0)))) C 4 rfl (by omega) dX2_add_39 rfl ?_
  refine g_aload_n (pc := 40) C dX2_add_40 rfl rfl ?_
  refine g_get (pc := 41) (ref := "HexRoomsModel") (ci := 2) (N := 13) C 0 rfl rfl hinX2 7 (by decide) (by decide +kernel) rfl rfl dX2_add_41 ?_
  refine g_bipush (pc := 44) C dX2_add_44 (by decide +kernel) ?_
  refine g_iload_n (pc := 46) C dX2_add_46 rfl rfl ?_
  refine g_iconst (pc := 47) C dX2_add_47 ?_
  refine g_iadd (pc := 48) C dX2_add_48 ?_
  refine g_imul (pc := 49) C dX2_add_49 ?_
  refine g_iload_n (pc := 50) C dX2_add_50 rfl rfl ?_
  refine g_iadd (pc := 51) C dX2_add_51 ?_
  refine g_iconst (pc := 52) C dX2_add_52 ?_
  refine g_iadd (pc := 53) C dX2_add_53 ?_
  refine g_aload_n (pc := 54) C dX2_add_54 rfl rfl ?_
  refine g_get (pc := 55) (v := .int (iI ((S 0) 2))) (ref := "HexRoomsModel") (ci := 2) (N := 13) C 0 rfl rfl hinX2 2 (by decide) (by decide +kernel) rfl rfl dX2_add_55 ?_
  refine g_iastore (pc := 58) (f := (S 5)) (ws' := (wM K q (sA (sA (sA (sA (sA S 1 (fU (S 1) ((S 0) 2) x)) 2 (fU (S 2) ((S 0) 2) y)) 3 (fU (S 3) ((S 0) 2) g)) 4 (fU (S 4) ((S 0) 2) 0)) 5 (fU (S 5) (((11 * (y + 5)) + x) + 5) ((S 0) 2))))) C 5 rfl (by omega) dX2_add_58 rfl ?_
  refine g_aload_n (pc := 59) C dX2_add_59 rfl rfl ?_
  refine g_dup (pc := 60) C dX2_add_60 rfl ?_
  refine g_get (pc := 61) (v := .int (iI ((S 0) 2))) (ref := "HexRoomsModel") (ci := 2) (N := 13) C 0 rfl rfl hinX2 2 (by decide) (by decide +kernel) rfl rfl dX2_add_61 ?_
  refine g_iconst (pc := 64) C dX2_add_64 ?_
  refine g_iadd (pc := 65) C dX2_add_65 ?_
  refine g_put (pc := 66) (ref := "HexRoomsModel") (ci := 2) (N := 13) (ws' := (wM K q (sA (sA (sA (sA (sA (sA S 1 (fU (S 1) ((S 0) 2) x)) 2 (fU (S 2) ((S 0) 2) y)) 3 (fU (S 3) ((S 0) 2) g)) 4 (fU (S 4) ((S 0) 2) 0)) 5 (fU (S 5) (((11 * (y + 5)) + x) + 5) ((S 0) 2))) 0 (fU (S 0) 2 (((S 0) 2) + 1))))) C 0 rfl rfl hinX2 tyX2 tyX2_ok nmX2 2 (by decide) (by decide +kernel) rfl rfl rfl (Nat.le_of_ble_eq_true rfl) dX2_add_66 rfl ?_
  exact g_return (pc := 69) C rfl dX2_add_69 ⟨_, rfl, by
    subst hx hy hg
    exact BM_add B hm⟩

set_option maxHeartbeats 400000 in
set_option maxRecDepth 100000 in
theorem c_X2_build (l : Launch) (K : KK) (q : Nat → Nat) (S : Nat → Int → Int) (k : Int) (hk : 1 ≤ k ∧ k ≤ 5) : hMV l yX2_build wsX2_build (rmL 1) K [.ref (q 0), .int (iI k)] (wM K q S) (fun w => ∃ T, w = wM K q T ∧ BMI k (S 0 0) T (FR (k + 1))) := by
  refine in_MV (cc := cX2_build) (maxL := 7) (rt := none) (lv := [(0, .ref (q 0)), (1, .int (iI k))]) (by decide) rfl (Nat.le_of_ble_eq_true rfl) rfl ?_
  intro p e s m args below meth c A C
  have hinX2 : ∀ w ∈ wsX20, w ∈ wsX2_build := by decide +kernel
  refine g_aload_n (pc := 0) C dX2_build_0 rfl rfl ?_
  refine g_iload_n (pc := 1) C dX2_build_1 rfl rfl ?_
  refine g_put (pc := 2) (ref := "HexRoomsModel") (ci := 2) (N := 13) (ws' := (wM K q (sA S 0 (fU (S 0) 1 k)))) C 0 rfl rfl hinX2 tyX2 tyX2_ok nmX2 1 (by decide) (by decide +kernel) rfl rfl rfl (Nat.le_of_ble_eq_true rfl) dX2_build_2 rfl ?_
  refine g_aload_n (pc := 5) C dX2_build_5 rfl rfl ?_
  refine g_iconst (pc := 6) C dX2_build_6 ?_
  refine g_put (pc := 7) (ref := "HexRoomsModel") (ci := 2) (N := 13) (ws' := (wM K q (sA S 0 (fU (fU (S 0) 1 k) 2 0)))) C 0 rfl rfl hinX2 tyX2 tyX2_ok nmX2 2 (by decide) (by decide +kernel) rfl rfl rfl (Nat.le_of_ble_eq_true rfl) dX2_build_7 rfl ?_
  refine g_iconst (pc := 10) C dX2_build_10 ?_
  refine g_istore_n (pc := 11) (lv' := [(2, .int (iI 0)), (0, .ref (q 0)), (1, .int (iI k))]) C dX2_build_11 rfl (by decide) rfl ?_
  have loop12 : ∀ (fu : Nat) (i : Int), (0 ≤ i ∧ i ≤ 121) → 121 - i < (fu : Int) → hG p l e (rmL 1) s m args below meth c 7 K A 0 0 (QV K A below args s (fun w => ∃ T, w = wM K q T ∧ BMI k (S 0 0) T (FR (k + 1)))) 12 [(2, .int (iI i)), (0, .ref (q 0)), (1, .int (iI k))] [] (wM K q (sA (sA S 0 (fU (fU (S 0) 1 k) 2 0)) 5 (fF (S 5) i (-1)))) := by
    intro fu
    induction fu with
    | zero =>
      intro i h1 hm
      exact absurd hm (by omega)
    | succ fu ih12 =>
      intro i h1 hm
      refine g_iload_n (pc := 12) C dX2_build_12 rfl rfl ?_
      refine g_aload_n (pc := 13) C dX2_build_13 rfl rfl ?_
      refine g_get (pc := 14) (ref := "HexRoomsModel") (ci := 2) (N := 13) C 0 rfl rfl hinX2 7 (by decide) (by decide +kernel) rfl rfl dX2_build_14 ?_
      refine g_alen (pc := 17) C 5 rfl dX2_build_17 ?_
      refine g_icmp_ge (pc := 18) (tgt := 34) C dX2_build_18 (by decide) (by omega) (by omega) (fun c1 => ?_) (fun c1 => ?_)
      · refine g_iconst (pc := 34) C dX2_build_34 ?_
        refine g_istore_n (pc := 35) (lv' := [(2, .int (iI 0)), (0, .ref (q 0)), (1, .int (iI k))]) C dX2_build_35 rfl (by decide) rfl ?_
        have loop36 : ∀ (fu : Nat) (i2 : Int), (0 ≤ i2 ∧ i2 ≤ 546) → 546 - i2 < (fu : Int) → hG p l e (rmL 1) s m args below meth c 7 K A 0 0 (QV K A below args s (fun w => ∃ T, w = wM K q T ∧ BMI k (S 0 0) T (FR (k + 1)))) 36 [(2, .int (iI i2)), (0, .ref (q 0)), (1, .int (iI k))] [] (wM K q (sA (sA (sA S 0 (fU (fU (S 0) 1 k) 2 0)) 5 (fF (S 5) i (-1))) 6 (fF (S 6) i2 0))) := by
          intro fu
          induction fu with
          | zero =>
            intro i2 h2 hm
            exact absurd hm (by omega)
          | succ fu ih36 =>
            intro i2 h2 hm
            refine g_iload_n (pc := 36) C dX2_build_36 rfl rfl ?_
            refine g_aload_n (pc := 37) C dX2_build_37 rfl rfl ?_
            refine g_get (pc := 38) (ref := "HexRoomsModel") (ci := 2) (N := 13) C 0 rfl rfl hinX2 8 (by decide) (by decide +kernel) rfl rfl dX2_build_38 ?_
            refine g_alenZ (pc := 41) C 6 rfl dX2_build_41 ?_
            refine g_icmp_ge (pc := 42) (tgt := 58) C dX2_build_42 (by decide) (by omega) (by omega) (fun c2 => ?_) (fun c2 => ?_)
            · have hB0 : BMI k (S 0 0) (sA (sA (sA S 0 (fU (fU (S 0) 1 k) 2 0)) 5 (fF (S 5) i (-1))) 6 (fF (S 6) i2 0)) 0 := BM_0 k (sA (sA (sA S 0 (fU (fU (S 0) 1 k) 2 0)) 5 (fF (S 5) i (-1))) 6 (fF (S 6) i2 0)) rfl rfl (fun j h3 h4 => if_pos (by omega)) (fun j h3 h4 => if_pos (by omega))
              refine g_aload_n (pc := 58) C dX2_build_58 rfl rfl ?_
              refine g_iconst (pc := 59) C dX2_build_59 ?_
              refine g_iconst (pc := 60) C dX2_build_60 ?_
              refine g_iconst (pc := 61) C dX2_build_61 ?_
              refine g_callVV (pc := 62) (As := [.int (iI 0), .int (iI 0), .int (iI 0)]) (rest := []) C (c_X2_add l K q (sA (sA (sA S 0 (fU (fU (S 0) 1 k) 2 0)) 5 (fF (S 5) i (-1))) 6 (fF (S 6) i2 0)) k _ 0 0 0 0 hB0 (by omega) rfl rfl rfl) (cwV 3 C.hts gX2_build_X2_add rfl rfl rfl (by decide +kernel) ⟨by decide, by decide⟩) 0 rfl rfl dX2_build_62 rfl (Nat.le_of_ble_eq_true rfl) ⟨Nat.zero_le _, Nat.zero_le _⟩ (fun w hp => ?_)
              obtain ⟨T62, rfl, hT62⟩ := hp
              refine g_iconst (pc := 65) C dX2_build_65 ?_
              refine g_istore_n (pc := 66) (lv' := [(2, .int (iI 1)), (0, .ref (q 0)), (1, .int (iI k))]) C dX2_build_66 rfl (by decide) rfl ?_
              have loop67 : ∀ (fu : Nat) (T : Nat → Int → Int) (g : Int), (1 ≤ g ∧ g ≤ k + 1) → (BMI k (S 0 0) T (FR g)) → k + 1 - g < (fu : Int) → hG p l e (rmL 1) s m args below meth c 7 K A 0 0 (QV K A below args s (fun w => ∃ T, w = wM K q T ∧ BMI k (S 0 0) T (FR (k + 1)))) 67 [(2, .int (iI g)), (0, .ref (q 0)), (1, .int (iI k))] [] (wM K q T) := by
                intro fu
                induction fu with
                | zero =>
                  intro T g g1 hB hm
                  exact absurd hm (by omega)
                | succ fu ih67 =>
                  intro T g g1 hB hm
                  refine g_iload_n (pc := 67) C dX2_build_67 rfl rfl ?_
                  refine g_iload_n (pc := 68) C dX2_build_68 rfl rfl ?_
                  refine g_icmp_gt (pc := 69) (tgt := 148) C dX2_build_69 (by decide) (by omega) (by omega) (fun c3 => ?_) (fun c3 => ?_)
                  · exact g_return (pc := 148) C rfl dX2_build_148 ⟨T, rfl, by rw [show k + 1 = g by omega]; exact hB⟩
                  · refine g_iload_n (pc := 72) C dX2_build_72 rfl rfl ?_
                    refine g_istore_n (pc := 73) (lv' := [(3, .int (iI g)), (2, .int (iI g)), (0, .ref (q 0)), (1, .int (iI k))]) C dX2_build_73 rfl (by decide) rfl ?_
                    refine g_iconst (pc := 74) C dX2_build_74 ?_
                    refine g_istore (pc := 75) (lv' := [(4, .int (iI 0)), (3, .int (iI g)), (2, .int (iI g)), (0, .ref (q 0)), (1, .int (iI k))]) C dX2_build_75 (by decide) rfl ?_
                    refine g_iconst (pc := 77) C dX2_build_77 ?_
                    refine g_istore (pc := 78) (lv' := [(5, .int (iI 2)), (4, .int (iI 0)), (3, .int (iI g)), (2, .int (iI g)), (0, .ref (q 0)), (1, .int (iI k))]) C dX2_build_78 (by decide) rfl ?_
                    have loop80 : ∀ (fu : Nat) (T2 : Nat → Int → Int) (x : Int) (y : Int) (tu : Int), (2 ≤ tu ∧ tu ≤ 8) → (BMI k (S 0 0) T2 (FR g + (tu - 2) * g)) → (FR g + (tu - 2) * g < FR (g + 1) → x = TA (FR g + (tu - 2) * g) ∧ y = TD (FR g + (tu - 2) * g)) → 8 - tu < (fu : Int) → hG p l e (rmL 1) s m args below meth c 7 K A 0 0 (QV K A below args s (fun w => ∃ T, w = wM K q T ∧ BMI k (S 0 0) T (FR (k + 1)))) 80 [(5, .int (iI tu)), (4, .int (iI y)), (3, .int (iI x)), (2, .int (iI g)), (0, .ref (q 0)), (1, .int (iI k))] [] (wM K q T2) := by
                      intro fu
                      induction fu with
                      | zero =>
                        intro T2 x y tu t1 hB2 hxy hm
                        exact absurd hm (by omega)
                      | succ fu ih80 =>
                        intro T2 x y tu t1 hB2 hxy hm
                        refine g_iload (pc := 80) C dX2_build_80 rfl ?_
                        refine g_bipush (pc := 82) C dX2_build_82 (by decide +kernel) ?_
                        refine g_icmp_ge (pc := 84) (tgt := 142) C dX2_build_84 (by decide) (by omega) (by omega) (fun c4 => ?_) (fun c4 => ?_)
                        · refine g_iinc (pc := 142) (lv' := [(2, .int (iI (g + 1))), (5, .int (iI tu)), (4, .int (iI y)), (3, .int (iI x)), (0, .ref (q 0)), (1, .int (iI k))]) C dX2_build_142 rfl (by decide) rfl ?_
                          refine g_goto (pc := 145) (tgt := 67) C dX2_build_145 (by decide) ?_
                          refine g_sub (lv' := [(2, .int (iI (g + 1))), (0, .ref (q 0)), (1, .int (iI k))]) [0, 4, 5] rfl ?_
                          exact ih67 T2 (g + 1) (by omega) (by
                            have e := hB2
                            have hfs := FR_s (k := g) (by omega)
                            have hfz := FR_SZ (k := g) (by omega)
                            rw [show tu = 8 by omega, show FR g + (8 - 2) * g = FR (g + 1) by omega] at e
                            exact e) (by omega)
                        · refine g_iconst (pc := 87) C dX2_build_87 ?_
                          refine g_istore (pc := 88) (lv' := [(6, .int (iI 0)), (5, .int (iI tu)), (4, .int (iI y)), (3, .int (iI x)), (2, .int (iI g)), (0, .ref (q 0)), (1, .int (iI k))]) C dX2_build_88 (by decide) rfl ?_
                          have loop90 : ∀ (fu : Nat) (T3 : Nat → Int → Int) (x3 : Int) (y3 : Int) (i : Int), (0 ≤ i ∧ i ≤ g) → (BMI k (S 0 0) T3 (FR g + (tu - 2) * g + i)) → (FR g + (tu - 2) * g + i < FR (g + 1) → x3 = TA (FR g + (tu - 2) * g + i) ∧ y3 = TD (FR g + (tu - 2) * g + i)) → g - i < (fu : Int) → hG p l e (rmL 1) s m args below meth c 7 K A 0 0 (QV K A below args s (fun w => ∃ T, w = wM K q T ∧ BMI k (S 0 0) T (FR (k + 1)))) 90 [(6, .int (iI i)), (5, .int (iI tu)), (4, .int (iI y3)), (3, .int (iI x3)), (2, .int (iI g)), (0, .ref (q 0)), (1, .int (iI k))] [] (wM K q T3) := by
                            intro fu
                            induction fu with
                            | zero =>
                              intro T3 x3 y3 i i1 hB3 hxy3 hm
                              exact absurd hm (by omega)
                            | succ fu ih90 =>
                              intro T3 x3 y3 i i1 hB3 hxy3 hm
                              obtain ⟨m, hm⟩ : ∃ m, m = FR g + (tu - 2) * g + i := ⟨_, rfl⟩
                              rw [← hm] at hB3 hxy3
                              refine g_iload (pc := 90) C dX2_build_90 rfl ?_
                              refine g_iload_n (pc := 92) C dX2_build_92 rfl rfl ?_
                              refine g_icmp_ge (pc := 93) (tgt := 136) C dX2_build_93 (by decide) (by omega) (by omega) (fun c5 => ?_) (fun c5 => ?_)
                              · refine g_iinc (pc := 136) (lv' := [(5, .int (iI (tu + 1))), (6, .int (iI i)), (4, .int (iI y3)), (3, .int (iI x3)), (2, .int (iI g)), (0, .ref (q 0)), (1, .int (iI k))]) C dX2_build_136 rfl (by decide) rfl ?_
                                refine g_goto (pc := 139) (tgt := 80) C dX2_build_139 (by decide) ?_
                                refine g_sub (lv' := [(5, .int (iI (tu + 1))), (4, .int (iI y3)), (3, .int (iI x3)), (2, .int (iI g)), (0, .ref (q 0)), (1, .int (iI k))]) [0, 2, 3, 4, 5, 6] rfl ?_
                                exact ih80 T3 x3 y3 (tu + 1) (by omega) (by rw [tu_s, ← Int.add_assoc]; rw [show i = g by omega] at hm; rw [← hm]; exact hB3) (by rw [tu_s, ← Int.add_assoc]; rw [show i = g by omega] at hm; rw [← hm]; exact hxy3) (by omega)
                              · have hbt := BT (g := g) (tu := tu) (i := i) (by omega) (by omega) (by omega) hm
                                obtain ⟨ex, ey⟩ := hxy3 hbt.2.1
                                have htr := hbt.1
                                refine g_aload_n (pc := 96) C dX2_build_96 rfl rfl ?_
                                refine g_iload_n (pc := 97) C dX2_build_97 rfl rfl ?_
                                refine g_iload (pc := 98) C dX2_build_98 rfl ?_
                                refine g_iload_n (pc := 100) C dX2_build_100 rfl rfl ?_
                                refine g_callVV (pc := 101) (As := [.int (iI x3), .int (iI y3), .int (iI g)]) (rest := []) C (c_X2_add l K q T3 k _ m x3 y3 g hB3 (by omega) ex ey htr.symm) (cwV 3 C.hts gX2_build_X2_add rfl rfl rfl (by decide +kernel) ⟨by decide, by decide⟩) 0 rfl rfl dX2_build_101 rfl (Nat.le_of_ble_eq_true rfl) ⟨Nat.zero_le _, Nat.zero_le _⟩ (fun w hp => ?_)
                                obtain ⟨T101, rfl, hT101⟩ := hp
                                refine g_iload_n (pc := 104) C dX2_build_104 rfl rfl ?_
                                refine g_getS (pc := 105) C C.hZ.2.2.1 (by decide +kernel) dX2_build_105 ?_
                                refine g_iload (pc := 108) C dX2_build_108 rfl ?_
                                refine g_bipush (pc := 110) C dX2_build_110 (by decide +kernel) ?_
                                refine g_irem (pc := 112) C dX2_build_112 (by omega) (by omega) ?_
                                refine g_ialoadS (pc := 113) C C.hZ.2.2.1 (by omega) dX2_build_113 ?_
                                refine g_iadd (pc := 114) C dX2_build_114 ?_
                                refine g_istore_n (pc := 115) (lv' := [(3, .int (iI (x3 + (stX (tu % 6))))), (6, .int (iI i)), (5, .int (iI tu)), (4, .int (iI y3)), (2, .int (iI g)), (0, .ref (q 0)), (1, .int (iI k))]) C dX2_build_115 rfl (by decide) rfl ?_
                                refine g_iload (pc := 116) C dX2_build_116 rfl ?_
                                refine g_getS (pc := 118) C C.hZ.2.2.2.1 (by decide +kernel) dX2_build_118 ?_
                                refine g_iload (pc := 121) C dX2_build_121 rfl ?_
                                refine g_bipush (pc := 123) C dX2_build_123 (by decide +kernel) ?_
                                refine g_irem (pc := 125) C dX2_build_125 (by omega) (by omega) ?_
                                refine g_ialoadS (pc := 126) C C.hZ.2.2.2.1 (by omega) dX2_build_126 ?_
                                refine g_iadd (pc := 127) C dX2_build_127 ?_
                                refine g_istore (pc := 128) (lv' := [(4, .int (iI (y3 + (stY (tu % 6))))), (3, .int (iI (x3 + (stX (tu % 6))))), (6, .int (iI i)), (5, .int (iI tu)), (2, .int (iI g)), (0, .ref (q 0)), (1, .int (iI k))]) C dX2_build_128 (by decide) rfl ?_
                                refine g_iinc (pc := 130) (lv' := [(6, .int (iI (i + 1))), (4, .int (iI (y3 + (stY (tu % 6))))), (3, .int (iI (x3 + (stX (tu % 6))))), (5, .int (iI tu)), (2, .int (iI g)), (0, .ref (q 0)), (1, .int (iI k))]) C dX2_build_130 rfl (by decide) rfl ?_
                                refine g_goto (pc := 133) (tgt := 90) C dX2_build_133 (by decide) ?_
                                refine g_sub (lv' := [(6, .int (iI (i + 1))), (5, .int (iI tu)), (4, .int (iI (y3 + (stY (tu % 6))))), (3, .int (iI (x3 + (stX (tu % 6))))), (2, .int (iI g)), (0, .ref (q 0)), (1, .int (iI k))]) [0, 3, 1, 2, 4, 5, 6] rfl ?_
                                exact ih90 T101 (x3 + (stX (tu % 6))) (y3 + (stY (tu % 6))) (i + 1) (by omega) (by rw [← Int.add_assoc, ← hm]; exact hT101) (by rw [← Int.add_assoc, ← hm]; intro hlt; rw [ex, ey]; exact ⟨((hbt.2.2.2.2 hlt).1).symm, ((hbt.2.2.2.2 hlt).2).symm⟩) (by omega)
                          exact loop90 (7) T2 x y 0 (by omega) (by rw [Int.add_zero]; exact hB2) (by rw [Int.add_zero]; exact hxy) (by omega)
                    exact loop80 (9) T g 0 2 (by omega) (by rw [show FR g + (2 - 2) * g = FR g by omega]; exact hB) (fun _ => by rw [show FR g + (2 - 2) * g = FR g by omega]; exact ⟨(BT_0 (by omega)).1.symm, (BT_0 (by omega)).2.symm⟩) (by omega)
              exact loop67 (7) T62 1 (by omega) hT62 (by omega)
            · refine g_aload_n (pc := 45) C dX2_build_45 rfl rfl ?_
              refine g_get (pc := 46) (ref := "HexRoomsModel") (ci := 2) (N := 13) C 0 rfl rfl hinX2 8 (by decide) (by decide +kernel) rfl rfl dX2_build_46 ?_
              refine g_iload_n (pc := 49) C dX2_build_49 rfl rfl ?_
              refine g_iconst (pc := 50) C dX2_build_50 ?_
              refine g_bastore (pc := 51) (f := (fF (S 6) i2 0)) (ws' := (wM K q (sA (sA (sA S 0 (fU (fU (S 0) 1 k) 2 0)) 5 (fF (S 5) i (-1))) 6 (fU (fF (S 6) i2 0) i2 0)))) C 6 rfl (by omega) (by omega) dX2_build_51 rfl ?_
              rw [fF_s (S 6) 0 h2.1]
              refine g_iinc (pc := 52) (lv' := [(2, .int (iI (i2 + 1))), (0, .ref (q 0)), (1, .int (iI k))]) C dX2_build_52 rfl (by decide) rfl ?_
              refine g_goto (pc := 55) (tgt := 36) C dX2_build_55 (by decide) ?_
              exact ih36 (i2 + 1) (by omega) (by omega)
        have h0 := loop36 (547) 0 (by omega) (by omega)
        rw [fF_0, show sA (sA (sA S 0 (fU (fU (S 0) 1 k) 2 0)) 5 (fF (S 5) i (-1))) 6 (S 6) = sA (sA S 0 (fU (fU (S 0) 1 k) 2 0)) 5 (fF (S 5) i (-1)) from sA_self (sA (sA S 0 (fU (fU (S 0) 1 k) 2 0)) 5 (fF (S 5) i (-1))) 6] at h0
        exact h0
      · refine g_aload_n (pc := 21) C dX2_build_21 rfl rfl ?_
        refine g_get (pc := 22) (ref := "HexRoomsModel") (ci := 2) (N := 13) C 0 rfl rfl hinX2 7 (by decide) (by decide +kernel) rfl rfl dX2_build_22 ?_
        refine g_iload_n (pc := 25) C dX2_build_25 rfl rfl ?_
        refine g_iconst (pc := 26) C dX2_build_26 ?_
        refine g_iastore (pc := 27) (f := (fF (S 5) i (-1))) (ws' := (wM K q (sA (sA S 0 (fU (fU (S 0) 1 k) 2 0)) 5 (fU (fF (S 5) i (-1)) i (-1))))) C 5 rfl (by omega) dX2_build_27 rfl ?_
        rw [fF_s (S 5) (-1) h1.1]
        refine g_iinc (pc := 28) (lv' := [(2, .int (iI (i + 1))), (0, .ref (q 0)), (1, .int (iI k))]) C dX2_build_28 rfl (by decide) rfl ?_
        refine g_goto (pc := 31) (tgt := 12) C dX2_build_31 (by decide) ?_
        exact ih12 (i + 1) (by omega) (by omega)
  have h0 := loop12 (122) 0 (by omega) (by omega)
  rw [fF_0, show sA (sA S 0 (fU (fU (S 0) 1 k) 2 0)) 5 (S 5) = sA S 0 (fU (fU (S 0) 1 k) 2 0) from sA_self (sA S 0 (fU (fU (S 0) 1 k) 2 0)) 5] at h0
  exact h0
