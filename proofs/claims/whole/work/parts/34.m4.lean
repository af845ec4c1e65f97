set_option maxHeartbeats 400000 in
set_option maxRecDepth 100000 in
theorem c_X2_digest (l : Launch) (K : KK) (q : Nat → Nat) (S : Nat → Int → Int) (H : HT S) (hf : ∀ j, 0 ≤ j → j < S 0 2 → 0 ≤ S 4 j ∧ S 4 j ≤ 2) (hh : ∀ j, 0 ≤ j → j < 546 → 0 ≤ S 6 j ∧ S 6 j ≤ 1) (Y : SYM (S 0 2) (S 6)) : hML l yX2_digest wsX2_digest (rmL 8) K [.ref (q 0)] (wM K q S) (fun z w => z = DIG (S 0 1) (S 0 2) (S 4) (S 6) ∧ ∃ S2, w = wM K q S2 ∧ UM S S2 (S 4) (S 6) 0) := by
  have hn := H.n
  have hk9 := H.1
  refine in_ML (cc := cX2_digest) (maxL := 5) (rt := (some .long)) (lv := [(0, .ref (q 0))]) (by decide) rfl (Nat.le_of_ble_eq_true rfl) rfl ?_
  intro p e s m args below meth c A C
  have hinX2 : ∀ w ∈ wsX20, w ∈ wsX2_digest := by decide +kernel
  refine g_aload_n (pc := 0) C dX2_digest_0 rfl rfl ?_
  refine g_iconst (pc := 1) C dX2_digest_1 ?_
  refine g_put (pc := 2) (ref := "HexRoomsModel") (ci := 2) (N := 13) (ws' := (wM K q (sA S 0 (fU (S 0) 0 0)))) C 0 rfl rfl hinX2 tyX2 tyX2_ok nmX2 0 (by decide) (by decide +kernel) rfl rfl rfl (Nat.le_of_ble_eq_true rfl) dX2_digest_2 rfl ?_
  refine g_ldc2 (pc := 5) (v := 1733) C (by decide +kernel) dX2_digest_5 ?_
  refine g_lstore_n (pc := 8) (lv' := [(1, .long 1733), (0, .ref (q 0))]) C dX2_digest_8 rfl (by decide) rfl ?_
  refine g_iconst (pc := 9) C dX2_digest_9 ?_
  refine g_istore_n (pc := 10) (lv' := [(3, .int (iI 0)), (1, .long 1733), (0, .ref (q 0))]) C dX2_digest_10 rfl (by decide) rfl ?_
  have loop11 : ∀ (fu : Nat) (L : Int → Int) (D : Int → Int) (u : Int → Int) (d : Int64) (i : Int), (0 ≤ i ∧ i ≤ 7) → (d = dI (CNT (S 0 1) (S 0 2) (S 4) (S 6)) 1733 i) → 7 - i < (fu : Int) → hG p l e (rmL 8) s m args below meth c 5 K A 0 0 (QL K A below args s (fun z w => z = DIG (S 0 1) (S 0 2) (S 4) (S 6) ∧ ∃ S2, w = wM K q S2 ∧ UM S S2 (S 4) (S 6) 0)) 11 [(3, .int (iI i)), (1, .long d), (0, .ref (q 0))] [] (wM K q (sA (sA (sA (sA S 0 (fU (S 0) 0 0)) 7 L) 8 D) 9 u)) := by
    intro fu
    induction fu with
    | zero =>
      intro L D u d i h1 hd hm
      exact absurd hm (by omega)
    | succ fu ih11 =>
      intro L D u d i h1 hd hm
      refine g_iload_n (pc := 11) C dX2_digest_11 rfl rfl ?_
      refine g_bipush (pc := 12) C dX2_digest_12 (by decide +kernel) ?_
      refine g_icmp_ge (pc := 14) (tgt := 36) C dX2_digest_14 (by decide) (by omega) (by omega) (fun c1 => ?_) (fun c1 => ?_)
      · refine g_aload_n (pc := 36) C dX2_digest_36 rfl rfl ?_
        refine g_callVI (pc := 37) (As := []) (rest := []) C (c_X2_lit l K q (sA (sA (sA (sA S 0 (fU (S 0) 0 0)) 7 L) 8 D) 9 u) H hf hh) (cwV 0 C.hts gX2_digest_X2_lit rfl rfl rfl (by decide +kernel) ⟨by decide, by decide⟩) 0 rfl rfl dX2_digest_37 rfl (Nat.le_of_ble_eq_true rfl) ⟨Nat.zero_le _, Nat.zero_le _⟩ (fun lz w hp => ?_)
        obtain ⟨hlz, L37, rfl, hL37⟩ := hp
        have hlz : lz = LIT (S 0 2) (S 4) (S 6) := hlz
        have hlb := LIT_b (n := S 0 2) (by omega) (S 4) (S 6)
        rw [← hlz] at hlb
        have hL37 : ∀ j, 0 ≤ j → j < S 0 2 → L37 j = LT (S 0 2) (S 4) (S 6) (S 0 2) j := hL37
        refine g_pop (pc := 40) C dX2_digest_40 rfl ?_
        refine g_iconst (pc := 41) C dX2_digest_41 ?_
        refine g_istore_n (pc := 42) (lv' := [(3, .int (iI 0)), (1, .long d), (0, .ref (q 0))]) C dX2_digest_42 rfl (by decide) rfl ?_
        have loop43 : ∀ (fu : Nat) (d2 : Int64) (r : Int), (0 ≤ r ∧ r ≤ S 0 2) → (d2 = dO (fun r d => dI (fun t => if S 6 (r * 6 + t) = 0 then 0 else 1) (dI (ABT (S 0 2) (S 4) (S 6) r) d 6) 6) (dI (CNT (S 0 1) (S 0 2) (S 4) (S 6)) 1733 7) r) → S 0 2 - r < (fu : Int) → hG p l e (rmL 8) s m args below meth c 5 K A 0 0 (QL K A below args s (fun z w => z = DIG (S 0 1) (S 0 2) (S 4) (S 6) ∧ ∃ S2, w = wM K q S2 ∧ UM S S2 (S 4) (S 6) 0)) 43 [(3, .int (iI r)), (1, .long d2), (0, .ref (q 0))] [] (wM K q (sA (sA (sA (sA S 0 (fU (S 0) 0 0)) 8 D) 9 u) 7 L37)) := by
          intro fu
          induction fu with
          | zero =>
            intro d2 r g1 hd2 hm
            exact absurd hm (by omega)
          | succ fu ih43 =>
            intro d2 r g1 hd2 hm
            refine g_iload_n (pc := 43) C dX2_digest_43 rfl rfl ?_
            refine g_aload_n (pc := 44) C dX2_digest_44 rfl rfl ?_
            refine g_get (pc := 45) (v := .int (iI ((S 0) 2))) (ref := "HexRoomsModel") (ci := 2) (N := 13) C 0 rfl rfl hinX2 2 (by decide) (by decide +kernel) rfl rfl dX2_digest_45 ?_
            refine g_icmp_ge (pc := 48) (tgt := 132) C dX2_digest_48 (by decide) (by omega) (by omega) (fun c2 => ?_) (fun c2 => ?_)
            · refine g_iconst (pc := 132) C dX2_digest_132 ?_
              refine g_istore_n (pc := 133) (lv' := [(3, .int (iI 0)), (1, .long d2), (0, .ref (q 0))]) C dX2_digest_133 rfl (by decide) rfl ?_
              have loop134 : ∀ (fu : Nat) (L : Int → Int) (d5 : Int64) (g : Int), (0 ≤ g ∧ g ≤ S 0 1 + 1) → (d5 = dO (fun g d => dI (RNG (S 0 2) (S 4) (S 6) g) d 4) (dO (fun r d => dI (fun t => if S 6 (r * 6 + t) = 0 then 0 else 1) (dI (ABT (S 0 2) (S 4) (S 6) r) d 6) 6) (dI (CNT (S 0 1) (S 0 2) (S 4) (S 6)) 1733 7) (S 0 2)) g) → S 0 1 + 1 - g < (fu : Int) → hG p l e (rmL 8) s m args below meth c 5 K A 0 0 (QL K A below args s (fun z w => z = DIG (S 0 1) (S 0 2) (S 4) (S 6) ∧ ∃ S2, w = wM K q S2 ∧ UM S S2 (S 4) (S 6) 0)) 134 [(3, .int (iI g)), (1, .long d5), (0, .ref (q 0))] [] (wM K q (sA (sA (sA (sA S 0 (fU (S 0) 0 0)) 8 D) 9 u) 7 L)) := by
                intro fu
                induction fu with
                | zero =>
                  intro L d5 g n1 hd5 hm
                  exact absurd hm (by omega)
                | succ fu ih134 =>
                  intro L d5 g n1 hd5 hm
                  refine g_iload_n (pc := 134) C dX2_digest_134 rfl rfl ?_
                  refine g_aload_n (pc := 135) C dX2_digest_135 rfl rfl ?_
                  refine g_get (pc := 136) (v := .int (iI ((S 0) 1))) (ref := "HexRoomsModel") (ci := 2) (N := 13) C 0 rfl rfl hinX2 1 (by decide) (by decide +kernel) rfl rfl dX2_digest_136 ?_
                  refine g_icmp_gt (pc := 139) (tgt := 178) C dX2_digest_139 (by decide) (by omega) (by omega) (fun c3 => ?_) (fun c3 => ?_)
                  · refine g_lload_n (pc := 178) C dX2_digest_178 rfl rfl ?_
                    exact g_lreturn (pc := 179) C rfl dX2_digest_179 ⟨by rw [hd5, show g = S 0 1 + 1 by omega]; rfl, _, rfl, (by first | rfl | exact fU_fU _ _ _ _), rfl, rfl, rfl, rfl, rfl, rfl⟩
                  · refine g_iconst (pc := 142) C dX2_digest_142 ?_
                    refine g_istore (pc := 143) (lv' := [(4, .int (iI 0)), (3, .int (iI g)), (1, .long d5), (0, .ref (q 0))]) C dX2_digest_143 (by decide) rfl ?_
                    have loop145 : ∀ (fu : Nat) (L2 : Int → Int) (d6 : Int64) (i6 : Int), (0 ≤ i6 ∧ i6 ≤ 4) → (d6 = dI (RNG (S 0 2) (S 4) (S 6) g) d5 i6) → 4 - i6 < (fu : Int) → hG p l e (rmL 8) s m args below meth c 5 K A 0 0 (QL K A below args s (fun z w => z = DIG (S 0 1) (S 0 2) (S 4) (S 6) ∧ ∃ S2, w = wM K q S2 ∧ UM S S2 (S 4) (S 6) 0)) 145 [(4, .int (iI i6)), (3, .int (iI g)), (1, .long d6), (0, .ref (q 0))] [] (wM K q (sA (sA (sA (sA S 0 (fU (S 0) 0 0)) 8 D) 9 u) 7 L2)) := by
                      intro fu
                      induction fu with
                      | zero =>
                        intro L2 d6 i6 o1 hd6 hm
                        exact absurd hm (by omega)
                      | succ fu ih145 =>
                        intro L2 d6 i6 o1 hd6 hm
                        refine g_iload (pc := 145) C dX2_digest_145 rfl ?_
                        refine g_iconst (pc := 147) C dX2_digest_147 ?_
                        refine g_icmp_ge (pc := 148) (tgt := 172) C dX2_digest_148 (by decide) (by omega) (by omega) (fun c4 => ?_) (fun c4 => ?_)
                        · refine g_iinc (pc := 172) (lv' := [(3, .int (iI (g + 1))), (4, .int (iI i6)), (1, .long d6), (0, .ref (q 0))]) C dX2_digest_172 rfl (by decide) rfl ?_
                          refine g_goto (pc := 175) (tgt := 134) C dX2_digest_175 (by decide) ?_
                          refine g_sub (lv' := [(3, .int (iI (g + 1))), (1, .long d6), (0, .ref (q 0))]) [0, 2, 3] rfl ?_
                          exact ih134 L2 d6 (g + 1) (by omega) (by rw [dO_s _ _ n1.1, ← hd5, hd6, show i6 = 4 by omega]) (by omega)
                        · refine g_lload_n (pc := 151) C dX2_digest_151 rfl rfl ?_
                          refine g_ldc2 (pc := 152) (v := 31) C (by decide +kernel) dX2_digest_152 ?_
                          refine g_lmul (pc := 155) C dX2_digest_155 ?_
                          refine g_aload_n (pc := 156) C dX2_digest_156 rfl rfl ?_
                          refine g_iload_n (pc := 157) C dX2_digest_157 rfl rfl ?_
                          refine g_iload (pc := 158) C dX2_digest_158 rfl ?_
                          refine g_callVI (pc := 160) (As := [.int (iI g), .int (iI i6)]) (rest := [.long (d6 * 31)]) C (c_X2_ringTold l K q (sA (sA (sA (sA S 0 (fU (S 0) 0 0)) 8 D) 9 u) 7 L2) H hf hh g i6 (show 0 ≤ g ∧ g ≤ S 0 1 by omega) (by omega)) (cwV 2 C.hts gX2_digest_X2_ringTold rfl rfl rfl (by decide +kernel) ⟨by decide, by decide⟩) 0 rfl rfl dX2_digest_160 rfl (Nat.le_of_ble_eq_true rfl) ⟨Nat.zero_le _, Nat.zero_le _⟩ (fun vz w hp => ?_)
                          obtain ⟨hvz, L160, rfl⟩ := hp
                          have hvz : vz = RNG (S 0 2) (S 4) (S 6) g i6 := hvz
                          refine g_i2l (pc := 163) C (by have := RNG_b (n := S 0 2) (f := S 4) (h := S 6) (k := g) (by omega) i6; omega) dX2_digest_163 ?_
                          refine g_ladd (pc := 164) C dX2_digest_164 ?_
                          refine g_lstore_n (pc := 165) (lv' := [(1, .long ((d6 * 31) + (Int64.ofInt vz))), (4, .int (iI i6)), (3, .int (iI g)), (0, .ref (q 0))]) C dX2_digest_165 rfl (by decide) rfl ?_
                          refine g_iinc (pc := 166) (lv' := [(4, .int (iI (i6 + 1))), (1, .long ((d6 * 31) + (Int64.ofInt vz))), (3, .int (iI g)), (0, .ref (q 0))]) C dX2_digest_166 rfl (by decide) rfl ?_
                          refine g_goto (pc := 169) (tgt := 145) C dX2_digest_169 (by decide) ?_
                          refine g_sub (lv' := [(4, .int (iI (i6 + 1))), (3, .int (iI g)), (1, .long ((d6 * 31) + (Int64.ofInt vz))), (0, .ref (q 0))]) [0, 2, 1, 3] rfl ?_
                          exact ih145 L160 ((d6 * 31) + (Int64.ofInt vz)) (i6 + 1) (by omega) (by rw [dI_s _ _ o1.1, ← hd6, ← hvz]) (by omega)
                    exact loop145 (5) L d5 0 (by omega) rfl (by omega)
              exact loop134 (7) L37 d2 0 (by omega) (by rw [dO_0, hd2, show r = S 0 2 by omega]) (by omega)
            · refine g_iconst (pc := 51) C dX2_digest_51 ?_
              refine g_istore (pc := 52) (lv' := [(4, .int (iI 0)), (3, .int (iI r)), (1, .long d2), (0, .ref (q 0))]) C dX2_digest_52 (by decide) rfl ?_
              have loop54 : ∀ (fu : Nat) (d3 : Int64) (i3 : Int), (0 ≤ i3 ∧ i3 ≤ 6) → (d3 = dI (ABT (S 0 2) (S 4) (S 6) r) d2 i3) → 6 - i3 < (fu : Int) → hG p l e (rmL 8) s m args below meth c 5 K A 0 0 (QL K A below args s (fun z w => z = DIG (S 0 1) (S 0 2) (S 4) (S 6) ∧ ∃ S2, w = wM K q S2 ∧ UM S S2 (S 4) (S 6) 0)) 54 [(4, .int (iI i3)), (3, .int (iI r)), (1, .long d3), (0, .ref (q 0))] [] (wM K q (sA (sA (sA (sA S 0 (fU (S 0) 0 0)) 8 D) 9 u) 7 L37)) := by
                intro fu
                induction fu with
                | zero =>
                  intro d3 i3 k1 hd3 hm
                  exact absurd hm (by omega)
                | succ fu ih54 =>
                  intro d3 i3 k1 hd3 hm
                  refine g_iload (pc := 54) C dX2_digest_54 rfl ?_
                  refine g_bipush (pc := 56) C dX2_digest_56 (by decide +kernel) ?_
                  refine g_icmp_ge (pc := 58) (tgt := 82) C dX2_digest_58 (by decide) (by omega) (by omega) (fun c5 => ?_) (fun c5 => ?_)
                  · refine g_iconst (pc := 82) C dX2_digest_82 ?_
                    refine g_istore (pc := 83) (lv' := [(4, .int (iI 0)), (3, .int (iI r)), (1, .long d3), (0, .ref (q 0))]) C dX2_digest_83 (by decide) rfl ?_
                    have loop85 : ∀ (fu : Nat) (d4 : Int64) (i4 : Int), (0 ≤ i4 ∧ i4 ≤ 6) → (d4 = dI (fun t => if S 6 (r * 6 + t) = 0 then 0 else 1) (dI (ABT (S 0 2) (S 4) (S 6) r) d2 6) i4) → 6 - i4 < (fu : Int) → hG p l e (rmL 8) s m args below meth c 5 K A 0 0 (QL K A below args s (fun z w => z = DIG (S 0 1) (S 0 2) (S 4) (S 6) ∧ ∃ S2, w = wM K q S2 ∧ UM S S2 (S 4) (S 6) 0)) 85 [(4, .int (iI i4)), (3, .int (iI r)), (1, .long d4), (0, .ref (q 0))] [] (wM K q (sA (sA (sA (sA S 0 (fU (S 0) 0 0)) 8 D) 9 u) 7 L37)) := by
                      intro fu
                      induction fu with
                      | zero =>
                        intro d4 i4 m1 hd4 hm
                        exact absurd hm (by omega)
                      | succ fu ih85 =>
                        intro d4 i4 m1 hd4 hm
                        refine g_iload (pc := 85) C dX2_digest_85 rfl ?_
                        refine g_bipush (pc := 87) C dX2_digest_87 (by decide +kernel) ?_
                        refine g_icmp_ge (pc := 89) (tgt := 126) C dX2_digest_89 (by decide) (by omega) (by omega) (fun c6 => ?_) (fun c6 => ?_)
                        · refine g_iinc (pc := 126) (lv' := [(3, .int (iI (r + 1))), (4, .int (iI i4)), (1, .long d4), (0, .ref (q 0))]) C dX2_digest_126 rfl (by decide) rfl ?_
                          refine g_goto (pc := 129) (tgt := 43) C dX2_digest_129 (by decide) ?_
                          refine g_sub (lv' := [(3, .int (iI (r + 1))), (1, .long d4), (0, .ref (q 0))]) [0, 2, 3] rfl ?_
                          exact ih43 d4 (r + 1) (by omega) (by rw [dO_s _ _ g1.1, ← hd2, hd4, show i4 = 6 by omega]) (by omega)
                        · refine g_lload_n (pc := 92) C dX2_digest_92 rfl rfl ?_
                          refine g_ldc2 (pc := 93) (v := 31) C (by decide +kernel) dX2_digest_93 ?_
                          refine g_lmul (pc := 96) C dX2_digest_96 ?_
                          refine g_aload_n (pc := 97) C dX2_digest_97 rfl rfl ?_
                          refine g_get (pc := 98) (ref := "HexRoomsModel") (ci := 2) (N := 13) C 0 rfl rfl hinX2 8 (by decide) (by decide +kernel) rfl rfl dX2_digest_98 ?_
                          refine g_bipush (pc := 101) C dX2_digest_101 (by decide +kernel) ?_
                          refine g_iload_n (pc := 103) C dX2_digest_103 rfl rfl ?_
                          refine g_imul (pc := 104) C dX2_digest_104 ?_
                          refine g_iload (pc := 105) C dX2_digest_105 rfl ?_
                          refine g_iadd (pc := 107) C dX2_digest_107 ?_
                          refine g_baload (pc := 108) (f := (S 6)) C 6 rfl (by omega) dX2_digest_108 ?_
                          have bd7 := hh ((6 * r) + i4) (by omega) (by omega)
                          refine g_if_eq (pc := 109) (tgt := 116) C dX2_digest_109 (by decide) (by omega) (fun c8 => ?_) (fun c8 => ?_)
                          · refine g_iconst (pc := 116) C dX2_digest_116 ?_
                            refine g_i2l (pc := 117) C (by omega) dX2_digest_117 ?_
                            refine g_ladd (pc := 118) C dX2_digest_118 ?_
                            refine g_lstore_n (pc := 119) (lv' := [(1, .long ((d4 * 31) + (Int64.ofInt 0))), (4, .int (iI i4)), (3, .int (iI r)), (0, .ref (q 0))]) C dX2_digest_119 rfl (by decide) rfl ?_
                            refine g_iinc (pc := 120) (lv' := [(4, .int (iI (i4 + 1))), (1, .long ((d4 * 31) + (Int64.ofInt 0))), (3, .int (iI r)), (0, .ref (q 0))]) C dX2_digest_120 rfl (by decide) rfl ?_
                            refine g_goto (pc := 123) (tgt := 85) C dX2_digest_123 (by decide) ?_
                            refine g_sub (lv' := [(4, .int (iI (i4 + 1))), (3, .int (iI r)), (1, .long ((d4 * 31) + (Int64.ofInt 0))), (0, .ref (q 0))]) [0, 2, 1, 3] rfl ?_
                            exact ih85 ((d4 * 31) + (Int64.ofInt 0)) (i4 + 1) (by omega) (by
                              rw [dI_s _ _ m1.1, ← hd4]
                              congr 2
                              have hq : S 6 (r * 6 + i4) = S 6 (6 * r + i4) := by rw [show r * 6 + i4 = 6 * r + i4 by omega]
                              show _ = if S 6 (r * 6 + i4) = 0 then (0 : Int) else 1
                              split <;> omega) (by omega)
                          · refine g_iconst (pc := 112) C dX2_digest_112 ?_
                            refine g_goto (pc := 113) (tgt := 117) C dX2_digest_113 (by decide) ?_
                            refine g_i2l (pc := 117) C (by omega) dX2_digest_117 ?_
                            refine g_ladd (pc := 118) C dX2_digest_118 ?_
                            refine g_lstore_n (pc := 119) (lv' := [(1, .long ((d4 * 31) + (Int64.ofInt 1))), (4, .int (iI i4)), (3, .int (iI r)), (0, .ref (q 0))]) C dX2_digest_119 rfl (by decide) rfl ?_
                            refine g_iinc (pc := 120) (lv' := [(4, .int (iI (i4 + 1))), (1, .long ((d4 * 31) + (Int64.ofInt 1))), (3, .int (iI r)), (0, .ref (q 0))]) C dX2_digest_120 rfl (by decide) rfl ?_
                            refine g_goto (pc := 123) (tgt := 85) C dX2_digest_123 (by decide) ?_
                            refine g_sub (lv' := [(4, .int (iI (i4 + 1))), (3, .int (iI r)), (1, .long ((d4 * 31) + (Int64.ofInt 1))), (0, .ref (q 0))]) [0, 2, 1, 3] rfl ?_
                            exact ih85 ((d4 * 31) + (Int64.ofInt 1)) (i4 + 1) (by omega) (by
                              rw [dI_s _ _ m1.1, ← hd4]
                              congr 2
                              have hq : S 6 (r * 6 + i4) = S 6 (6 * r + i4) := by rw [show r * 6 + i4 = 6 * r + i4 by omega]
                              show _ = if S 6 (r * 6 + i4) = 0 then (0 : Int) else 1
                              split <;> omega) (by omega)
                    exact loop85 (7) d3 0 (by omega) (by rw [dI_0, hd3, show i3 = 6 by omega]) (by omega)
                  · refine g_lload_n (pc := 61) C dX2_digest_61 rfl rfl ?_
                    refine g_ldc2 (pc := 62) (v := 31) C (by decide +kernel) dX2_digest_62 ?_
                    refine g_lmul (pc := 65) C dX2_digest_65 ?_
                    refine g_aload_n (pc := 66) C dX2_digest_66 rfl rfl ?_
                    refine g_iload_n (pc := 67) C dX2_digest_67 rfl rfl ?_
                    refine g_iload (pc := 68) C dX2_digest_68 rfl ?_
                    refine g_callVI (pc := 70) (As := [.int (iI r), .int (iI i3)]) (rest := [.long (d3 * 31)]) C (c_X2_roomTold l K q (sA (sA (sA (sA S 0 (fU (S 0) 0 0)) 8 D) 9 u) 7 L37) H hf hh r i3 (show 0 ≤ r ∧ r < S 0 2 by omega) (by omega) (fun e => by first | exact absurd e (by omega) | exact hL37 r (by omega) (by omega))) (cwV 2 C.hts gX2_digest_X2_roomTold rfl rfl rfl (by decide +kernel) ⟨by decide, by decide⟩) 0 rfl rfl dX2_digest_70 rfl (Nat.le_of_ble_eq_true rfl) ⟨Nat.zero_le _, Nat.zero_le _⟩ (fun vz w hp => ?_)
                    obtain ⟨hvz, rfl⟩ := hp
                    have hvz : vz = ABT (S 0 2) (S 4) (S 6) r i3 := hvz
                    refine g_i2l (pc := 73) C (by have := ABT_b (n := S 0 2) (f := S 4) (h := S 6) hn (hf r g1.1 (by omega)) i3; omega) dX2_digest_73 ?_
                    refine g_ladd (pc := 74) C dX2_digest_74 ?_
                    refine g_lstore_n (pc := 75) (lv' := [(1, .long ((d3 * 31) + (Int64.ofInt vz))), (4, .int (iI i3)), (3, .int (iI r)), (0, .ref (q 0))]) C dX2_digest_75 rfl (by decide) rfl ?_
                    refine g_iinc (pc := 76) (lv' := [(4, .int (iI (i3 + 1))), (1, .long ((d3 * 31) + (Int64.ofInt vz))), (3, .int (iI r)), (0, .ref (q 0))]) C dX2_digest_76 rfl (by decide) rfl ?_
                    refine g_goto (pc := 79) (tgt := 54) C dX2_digest_79 (by decide) ?_
                    refine g_sub (lv' := [(4, .int (iI (i3 + 1))), (3, .int (iI r)), (1, .long ((d3 * 31) + (Int64.ofInt vz))), (0, .ref (q 0))]) [0, 2, 1, 3] rfl ?_
                    exact ih54 ((d3 * 31) + (Int64.ofInt vz)) (i3 + 1) (by omega) (by rw [dI_s _ _ k1.1, ← hd3, ← hvz]) (by omega)
              exact loop54 (7) d2 0 (by omega) rfl (by omega)
        exact loop43 (92) d 0 (by omega) (by rw [dO_0, hd, show i = 7 by omega]) (by omega)
      · refine g_lload_n (pc := 17) C dX2_digest_17 rfl rfl ?_
        refine g_ldc2 (pc := 18) (v := 31) C (by decide +kernel) dX2_digest_18 ?_
        refine g_lmul (pc := 21) C dX2_digest_21 ?_
        refine g_aload_n (pc := 22) C dX2_digest_22 rfl rfl ?_
        refine g_iload_n (pc := 23) C dX2_digest_23 rfl rfl ?_
        refine g_callVI (pc := 24) (As := [.int (iI i)]) (rest := [.long (d * 31)]) C (c_X2_counted l K q (sA (sA (sA (sA S 0 (fU (S 0) 0 0)) 7 L) 8 D) 9 u) H hf hh Y i (by omega)) (cwV 1 C.hts gX2_digest_X2_counted rfl rfl rfl (by decide +kernel) ⟨by decide, by decide⟩) 0 rfl rfl dX2_digest_24 rfl (Nat.le_of_ble_eq_true rfl) ⟨Nat.zero_le _, Nat.zero_le _⟩ (fun vz w hp => ?_)
        obtain ⟨hvz, L24, D24, u24, rfl⟩ := hp
        have hvz : vz = CNT (S 0 1) (S 0 2) (S 4) (S 6) i := hvz
        refine g_i2l (pc := 27) C (by have := CNT_b (f := S 4) (h := S 6) hk9 hn i; omega) dX2_digest_27 ?_
        refine g_ladd (pc := 28) C dX2_digest_28 ?_
        refine g_lstore_n (pc := 29) (lv' := [(1, .long ((d * 31) + (Int64.ofInt vz))), (3, .int (iI i)), (0, .ref (q 0))]) C dX2_digest_29 rfl (by decide) rfl ?_
        refine g_iinc (pc := 30) (lv' := [(3, .int (iI (i + 1))), (1, .long ((d * 31) + (Int64.ofInt vz))), (0, .ref (q 0))]) C dX2_digest_30 rfl (by decide) rfl ?_
        refine g_goto (pc := 33) (tgt := 11) C dX2_digest_33 (by decide) ?_
        exact ih11 L24 D24 u24 ((d * 31) + (Int64.ofInt vz)) (i + 1) (by omega) (by rw [dI_s _ _ h1.1, ← hd, ← hvz]) (by omega)
  exact loop11 (8) (S 7) (S 8) (S 9) 1733 0 (by omega) rfl (by omega)
