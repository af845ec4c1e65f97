set_option maxHeartbeats 400000 in
set_option maxRecDepth 100000 in
theorem c_X1_digest (l : Launch) (K : KK) (q : Nat → Nat) (S : Nat → Int → Int) (H : HS S) (Lk : LK S) : hML l yX1_digest wsX1_digest (rmL 7) K [.ref (q 0)] (wX K q S) (fun z w => (z = DIG (S 0 9) (S 0 10) (S 7) (S 8)) ∧ ∃ S2, w = wX K q S2 ∧ UP S S2 (S 7) (S 8)) := by
  have hn := H.n
  have hf := H.hf
  have hh := H.hh
  have hk9 := H.1
  have hL := Lk.b hn
  refine in_ML (cc := cX1_digest) (maxL := 5) (rt := (some .long)) (lv := [(0, .ref (q 0))]) (by decide) rfl (Nat.le_of_ble_eq_true rfl) rfl ?_
  intro p e s m args below meth c A C
  have hinX1 : ∀ w ∈ wsX10, w ∈ wsX1_digest := by decide +kernel
  refine g_ldc2 (pc := 0) (v := 1733) C (by decide +kernel) dX1_digest_0 ?_
  refine g_lstore_n (pc := 3) (lv' := [(1, .long 1733), (0, .ref (q 0))]) C dX1_digest_3 rfl (by decide) rfl ?_
  refine g_iconst (pc := 4) C dX1_digest_4 ?_
  refine g_istore_n (pc := 5) (lv' := [(3, .int (iI 0)), (1, .long 1733), (0, .ref (q 0))]) C dX1_digest_5 rfl (by decide) rfl ?_
  have loop6 : ∀ (fu : Nat) (T : Nat → Int → Int) (d : Int64) (i : Int), (0 ≤ i ∧ i ≤ 7) → (UP S T (S 7) (S 8)) → (d = dI (CNT (S 0 9) (S 0 10) (S 7) (S 8)) 1733 i) → 7 - i < (fu : Int) → hG p l e (rmL 7) s m args below meth c 5 K A 0 0 (QL K A below args s (fun z w => (z = DIG (S 0 9) (S 0 10) (S 7) (S 8)) ∧ ∃ S2, w = wX K q S2 ∧ UP S S2 (S 7) (S 8))) 6 [(3, .int (iI i)), (1, .long d), (0, .ref (q 0))] [] (wX K q T) := by
    intro fu
    induction fu with
    | zero =>
      intro T d i h1 hU hd hm
      exact absurd hm (by omega)
    | succ fu ih6 =>
      intro T d i h1 hU hd hm
      refine g_iload_n (pc := 6) C dX1_digest_6 rfl rfl ?_
      refine g_bipush (pc := 7) C dX1_digest_7 (by decide +kernel) ?_
      refine g_icmp_ge (pc := 9) (tgt := 31) C dX1_digest_9 (by decide) (by omega) (by omega) (fun c1 => ?_) (fun c1 => ?_)
      · refine g_iconst (pc := 31) C dX1_digest_31 ?_
        refine g_istore_n (pc := 32) (lv' := [(3, .int (iI 0)), (1, .long d), (0, .ref (q 0))]) C dX1_digest_32 rfl (by decide) rfl ?_
        have loop33 : ∀ (fu : Nat) (T : Nat → Int → Int) (d2 : Int64) (r : Int), (0 ≤ r ∧ r ≤ S 0 10) → (UP S T (S 7) (S 8)) → (d2 = dO (fun r d => dI (fun t => if S 8 (r * 6 + t) = 0 then 0 else 1) (dI (ABT (S 0 10) (S 7) (S 8) r) d 6) 6) (dI (CNT (S 0 9) (S 0 10) (S 7) (S 8)) 1733 7) r) → S 0 10 - r < (fu : Int) → hG p l e (rmL 7) s m args below meth c 5 K A 0 0 (QL K A below args s (fun z w => (z = DIG (S 0 9) (S 0 10) (S 7) (S 8)) ∧ ∃ S2, w = wX K q S2 ∧ UP S S2 (S 7) (S 8))) 33 [(3, .int (iI r)), (1, .long d2), (0, .ref (q 0))] [] (wX K q T) := by
          intro fu
          induction fu with
          | zero =>
            intro T d2 r g1 hU hd2 hm
            exact absurd hm (by omega)
          | succ fu ih33 =>
            intro T d2 r g1 hU hd2 hm
            have e9 : T 0 9 = S 0 9 := by rw [hU.1]
            have e10 : T 0 10 = S 0 10 := by rw [hU.1]
            refine g_iload_n (pc := 33) C dX1_digest_33 rfl rfl ?_
            refine g_aload_n (pc := 34) C dX1_digest_34 rfl rfl ?_
            refine g_get (pc := 35) (ref := "HexRooms") (ci := 1) (N := 11) C 0 rfl rfl hinX1 10 (by decide) (by decide +kernel) rfl rfl dX1_digest_35 ?_
            refine g_icmp_ge (pc := 38) (tgt := 121) C dX1_digest_38 (by decide) (by omega) (by omega) (fun c2 => ?_) (fun c2 => ?_)
            · refine g_iconst (pc := 121) C dX1_digest_121 ?_
              refine g_istore_n (pc := 122) (lv' := [(3, .int (iI 0)), (1, .long d2), (0, .ref (q 0))]) C dX1_digest_122 rfl (by decide) rfl ?_
              have loop123 : ∀ (fu : Nat) (T : Nat → Int → Int) (d5 : Int64) (g : Int), (0 ≤ g ∧ g ≤ S 0 9 + 1) → (UP S T (S 7) (S 8)) → (d5 = dO (fun g d => dI (RNG (S 0 10) (S 7) (S 8) g) d 4) (dO (fun r d => dI (fun t => if S 8 (r * 6 + t) = 0 then 0 else 1) (dI (ABT (S 0 10) (S 7) (S 8) r) d 6) 6) (dI (CNT (S 0 9) (S 0 10) (S 7) (S 8)) 1733 7) (S 0 10)) g) → S 0 9 + 1 - g < (fu : Int) → hG p l e (rmL 7) s m args below meth c 5 K A 0 0 (QL K A below args s (fun z w => (z = DIG (S 0 9) (S 0 10) (S 7) (S 8)) ∧ ∃ S2, w = wX K q S2 ∧ UP S S2 (S 7) (S 8))) 123 [(3, .int (iI g)), (1, .long d5), (0, .ref (q 0))] [] (wX K q T) := by
                intro fu
                induction fu with
                | zero =>
                  intro T d5 g n1 hU hd5 hm
                  exact absurd hm (by omega)
                | succ fu ih123 =>
                  intro T d5 g n1 hU hd5 hm
                  have e9 : T 0 9 = S 0 9 := by rw [hU.1]
                  refine g_iload_n (pc := 123) C dX1_digest_123 rfl rfl ?_
                  refine g_aload_n (pc := 124) C dX1_digest_124 rfl rfl ?_
                  refine g_get (pc := 125) (ref := "HexRooms") (ci := 1) (N := 11) C 0 rfl rfl hinX1 9 (by decide) (by decide +kernel) rfl rfl dX1_digest_125 ?_
                  refine g_icmp_gt (pc := 128) (tgt := 167) C dX1_digest_128 (by decide) (by omega) (by omega) (fun c3 => ?_) (fun c3 => ?_)
                  · refine g_lload_n (pc := 167) C dX1_digest_167 rfl rfl ?_
                    exact g_lreturn (pc := 168) C rfl dX1_digest_168 ⟨by rw [hd5, show g = S 0 9 + 1 by omega]; rfl, T, rfl, hU⟩
                  · refine g_iconst (pc := 131) C dX1_digest_131 ?_
                    refine g_istore (pc := 132) (lv' := [(4, .int (iI 0)), (3, .int (iI g)), (1, .long d5), (0, .ref (q 0))]) C dX1_digest_132 (by decide) rfl ?_
                    have loop134 : ∀ (fu : Nat) (T : Nat → Int → Int) (d6 : Int64) (i6 : Int), (0 ≤ i6 ∧ i6 ≤ 4) → (UP S T (S 7) (S 8)) → (d6 = dI (RNG (S 0 10) (S 7) (S 8) g) d5 i6) → 4 - i6 < (fu : Int) → hG p l e (rmL 7) s m args below meth c 5 K A 0 0 (QL K A below args s (fun z w => (z = DIG (S 0 9) (S 0 10) (S 7) (S 8)) ∧ ∃ S2, w = wX K q S2 ∧ UP S S2 (S 7) (S 8))) 134 [(4, .int (iI i6)), (3, .int (iI g)), (1, .long d6), (0, .ref (q 0))] [] (wX K q T) := by
                      intro fu
                      induction fu with
                      | zero =>
                        intro T d6 i6 o1 hU hd6 hm
                        exact absurd hm (by omega)
                      | succ fu ih134 =>
                        intro T d6 i6 o1 hU hd6 hm
                        have e9 : T 0 9 = S 0 9 := by rw [hU.1]
                        refine g_iload (pc := 134) C dX1_digest_134 rfl ?_
                        refine g_iconst (pc := 136) C dX1_digest_136 ?_
                        refine g_icmp_ge (pc := 137) (tgt := 161) C dX1_digest_137 (by decide) (by omega) (by omega) (fun c4 => ?_) (fun c4 => ?_)
                        · refine g_iinc (pc := 161) (lv' := [(3, .int (iI (g + 1))), (4, .int (iI i6)), (1, .long d6), (0, .ref (q 0))]) C dX1_digest_161 rfl (by decide) rfl ?_
                          refine g_goto (pc := 164) (tgt := 123) C dX1_digest_164 (by decide) ?_
                          refine g_sub (lv' := [(3, .int (iI (g + 1))), (1, .long d6), (0, .ref (q 0))]) [0, 2, 3] rfl ?_
                          exact ih123 T d6 (g + 1) (by omega) hU (by rw [dO_s _ _ n1.1, ← hd5, hd6, show i6 = 4 by omega]) (by omega)
                        · refine g_lload_n (pc := 140) C dX1_digest_140 rfl rfl ?_
                          refine g_ldc2 (pc := 141) (v := 31) C (by decide +kernel) dX1_digest_141 ?_
                          refine g_lmul (pc := 144) C dX1_digest_144 ?_
                          refine g_aload_n (pc := 145) C dX1_digest_145 rfl rfl ?_
                          refine g_iload_n (pc := 146) C dX1_digest_146 rfl rfl ?_
                          refine g_iload (pc := 147) C dX1_digest_147 rfl ?_
                          refine g_callVI (pc := 149) (As := [.int (iI g), .int (iI i6)]) (rest := [.long (d6 * 31)]) C (c_X1_ring l K q T (UP_HS H hU) hU.2.2.2 g i6 (by rw [e9]; omega) (by omega)) (cwV 2 C.hts gX1_digest_X1_ring rfl rfl rfl (by decide +kernel) ⟨by decide, by decide⟩) 0 rfl rfl dX1_digest_149 rfl (Nat.le_of_ble_eq_true rfl) ⟨Nat.zero_le _, Nat.zero_le _⟩ (fun vz w hp => ?_)
                          obtain ⟨hvz, V149, rfl, hU2⟩ := hp
                          have hU2 := UP_t hU hU2
                          rw [hU.1, hU.2.1, hU.2.2.1] at hvz
                          have hvz : vz = RNG (S 0 10) (S 7) (S 8) g i6 := hvz
                          refine g_i2l (pc := 152) C (by have := RNG_b (n := S 0 10) (f := S 7) (h := S 8) (k := g) (by omega) i6; omega) dX1_digest_152 ?_
                          refine g_ladd (pc := 153) C dX1_digest_153 ?_
                          refine g_lstore_n (pc := 154) (lv' := [(1, .long ((d6 * 31) + (Int64.ofInt vz))), (4, .int (iI i6)), (3, .int (iI g)), (0, .ref (q 0))]) C dX1_digest_154 rfl (by decide) rfl ?_
                          refine g_iinc (pc := 155) (lv' := [(4, .int (iI (i6 + 1))), (1, .long ((d6 * 31) + (Int64.ofInt vz))), (3, .int (iI g)), (0, .ref (q 0))]) C dX1_digest_155 rfl (by decide) rfl ?_
                          refine g_goto (pc := 158) (tgt := 134) C dX1_digest_158 (by decide) ?_
                          refine g_sub (lv' := [(4, .int (iI (i6 + 1))), (3, .int (iI g)), (1, .long ((d6 * 31) + (Int64.ofInt vz))), (0, .ref (q 0))]) [0, 2, 1, 3] rfl ?_
                          exact ih134 V149 ((d6 * 31) + (Int64.ofInt vz)) (i6 + 1) (by omega) hU2 (by rw [dI_s _ _ o1.1, ← hd6, ← hvz]) (by omega)
                    exact loop134 (5) T d5 0 (by omega) hU rfl (by omega)
              exact loop123 (7) T d2 0 (by omega) hU (by rw [dO_0, hd2, show r = S 0 10 by omega]) (by omega)
            · refine g_iconst (pc := 41) C dX1_digest_41 ?_
              refine g_istore (pc := 42) (lv' := [(4, .int (iI 0)), (3, .int (iI r)), (1, .long d2), (0, .ref (q 0))]) C dX1_digest_42 (by decide) rfl ?_
              have loop44 : ∀ (fu : Nat) (T : Nat → Int → Int) (d3 : Int64) (i3 : Int), (0 ≤ i3 ∧ i3 ≤ 6) → (UP S T (S 7) (S 8)) → (d3 = dI (ABT (S 0 10) (S 7) (S 8) r) d2 i3) → 6 - i3 < (fu : Int) → hG p l e (rmL 7) s m args below meth c 5 K A 0 0 (QL K A below args s (fun z w => (z = DIG (S 0 9) (S 0 10) (S 7) (S 8)) ∧ ∃ S2, w = wX K q S2 ∧ UP S S2 (S 7) (S 8))) 44 [(4, .int (iI i3)), (3, .int (iI r)), (1, .long d3), (0, .ref (q 0))] [] (wX K q T) := by
                intro fu
                induction fu with
                | zero =>
                  intro T d3 i3 k1 hU hd3 hm
                  exact absurd hm (by omega)
                | succ fu ih44 =>
                  intro T d3 i3 k1 hU hd3 hm
                  have e10 : T 0 10 = S 0 10 := by rw [hU.1]
                  refine g_iload (pc := 44) C dX1_digest_44 rfl ?_
                  refine g_bipush (pc := 46) C dX1_digest_46 (by decide +kernel) ?_
                  refine g_icmp_ge (pc := 48) (tgt := 72) C dX1_digest_48 (by decide) (by omega) (by omega) (fun c5 => ?_) (fun c5 => ?_)
                  · refine g_iconst (pc := 72) C dX1_digest_72 ?_
                    refine g_istore (pc := 73) (lv' := [(4, .int (iI 0)), (3, .int (iI r)), (1, .long d3), (0, .ref (q 0))]) C dX1_digest_73 (by decide) rfl ?_
                    have loop75 : ∀ (fu : Nat) (d4 : Int64) (i4 : Int), (0 ≤ i4 ∧ i4 ≤ 6) → (d4 = dI (fun t => if S 8 (r * 6 + t) = 0 then 0 else 1) (dI (ABT (S 0 10) (S 7) (S 8) r) d2 6) i4) → 6 - i4 < (fu : Int) → hG p l e (rmL 7) s m args below meth c 5 K A 0 0 (QL K A below args s (fun z w => (z = DIG (S 0 9) (S 0 10) (S 7) (S 8)) ∧ ∃ S2, w = wX K q S2 ∧ UP S S2 (S 7) (S 8))) 75 [(4, .int (iI i4)), (3, .int (iI r)), (1, .long d4), (0, .ref (q 0))] [] (wX K q T) := by
                      intro fu
                      induction fu with
                      | zero =>
                        intro d4 i4 m1 hd4 hm
                        exact absurd hm (by omega)
                      | succ fu ih75 =>
                        intro d4 i4 m1 hd4 hm
                        refine g_iload (pc := 75) C dX1_digest_75 rfl ?_
                        refine g_bipush (pc := 77) C dX1_digest_77 (by decide +kernel) ?_
                        refine g_icmp_ge (pc := 79) (tgt := 115) C dX1_digest_79 (by decide) (by omega) (by omega) (fun c6 => ?_) (fun c6 => ?_)
                        · refine g_iinc (pc := 115) (lv' := [(3, .int (iI (r + 1))), (4, .int (iI i4)), (1, .long d4), (0, .ref (q 0))]) C dX1_digest_115 rfl (by decide) rfl ?_
                          refine g_goto (pc := 118) (tgt := 33) C dX1_digest_118 (by decide) ?_
                          refine g_sub (lv' := [(3, .int (iI (r + 1))), (1, .long d4), (0, .ref (q 0))]) [0, 2, 3] rfl ?_
                          exact ih33 T d4 (r + 1) (by omega) hU (by rw [dO_s _ _ g1.1, ← hd2, hd4, show i4 = 6 by omega]) (by omega)
                        · refine g_lload_n (pc := 82) C dX1_digest_82 rfl rfl ?_
                          refine g_ldc2 (pc := 83) (v := 31) C (by decide +kernel) dX1_digest_83 ?_
                          refine g_lmul (pc := 86) C dX1_digest_86 ?_
                          refine g_aload_n (pc := 87) C dX1_digest_87 rfl rfl ?_
                          refine g_get (pc := 88) (ref := "HexRooms") (ci := 1) (N := 11) C 0 rfl rfl hinX1 2 (by decide) (by decide +kernel) rfl rfl dX1_digest_88 ?_
                          refine g_iload_n (pc := 91) C dX1_digest_91 rfl rfl ?_
                          refine g_iload (pc := 92) C dX1_digest_92 rfl ?_
                          refine g_callSI (pc := 94) (As := [.int (iI r), .int (iI i4)]) (rest := [.ref (q 8), .long (d4 * 31)]) C (c_X1_doorOf l K _ r i4) (cwS 2 C.hts gX1_digest_X1_doorOf rfl rfl rfl (by decide +kernel) ⟨by decide, by decide⟩) dX1_digest_94 rfl (Nat.le_of_ble_eq_true rfl) ⟨Nat.zero_le _, Nat.zero_le _⟩ (fun z w hp => ?_)
                          obtain ⟨rfl, rfl⟩ := hp
                          refine g_baload (pc := 97) C 8 rfl (by omega) dX1_digest_97 ?_
                          refine g_if_eq (pc := 98) (tgt := 105) C dX1_digest_98 (by decide) (by have := hh (r * 6 + i4) (by omega) (by omega); rw [hU.2.2.1]; omega) (fun c7 => ?_) (fun c7 => ?_)
                          · refine g_iconst (pc := 105) C dX1_digest_105 ?_
                            refine g_i2l (pc := 106) C (by omega) dX1_digest_106 ?_
                            refine g_ladd (pc := 107) C dX1_digest_107 ?_
                            refine g_lstore_n (pc := 108) (lv' := [(1, .long ((d4 * 31) + (Int64.ofInt 0))), (4, .int (iI i4)), (3, .int (iI r)), (0, .ref (q 0))]) C dX1_digest_108 rfl (by decide) rfl ?_
                            refine g_iinc (pc := 109) (lv' := [(4, .int (iI (i4 + 1))), (1, .long ((d4 * 31) + (Int64.ofInt 0))), (3, .int (iI r)), (0, .ref (q 0))]) C dX1_digest_109 rfl (by decide) rfl ?_
                            refine g_goto (pc := 112) (tgt := 75) C dX1_digest_112 (by decide) ?_
                            refine g_sub (lv' := [(4, .int (iI (i4 + 1))), (3, .int (iI r)), (1, .long ((d4 * 31) + (Int64.ofInt 0))), (0, .ref (q 0))]) [0, 2, 1, 3] rfl ?_
                            exact ih75 ((d4 * 31) + (Int64.ofInt 0)) (i4 + 1) (by omega) (by
                              rw [dI_s _ _ m1.1, ← hd4]
                              congr 2
                              have hq : T 8 (r * 6 + i4) = S 8 (r * 6 + i4) := by rw [hU.2.2.1]
                              split <;> omega) (by omega)
                          · refine g_iconst (pc := 101) C dX1_digest_101 ?_
                            refine g_goto (pc := 102) (tgt := 106) C dX1_digest_102 (by decide) ?_
                            refine g_i2l (pc := 106) C (by omega) dX1_digest_106 ?_
                            refine g_ladd (pc := 107) C dX1_digest_107 ?_
                            refine g_lstore_n (pc := 108) (lv' := [(1, .long ((d4 * 31) + (Int64.ofInt 1))), (4, .int (iI i4)), (3, .int (iI r)), (0, .ref (q 0))]) C dX1_digest_108 rfl (by decide) rfl ?_
                            refine g_iinc (pc := 109) (lv' := [(4, .int (iI (i4 + 1))), (1, .long ((d4 * 31) + (Int64.ofInt 1))), (3, .int (iI r)), (0, .ref (q 0))]) C dX1_digest_109 rfl (by decide) rfl ?_
                            refine g_goto (pc := 112) (tgt := 75) C dX1_digest_112 (by decide) ?_
                            refine g_sub (lv' := [(4, .int (iI (i4 + 1))), (3, .int (iI r)), (1, .long ((d4 * 31) + (Int64.ofInt 1))), (0, .ref (q 0))]) [0, 2, 1, 3] rfl ?_
                            exact ih75 ((d4 * 31) + (Int64.ofInt 1)) (i4 + 1) (by omega) (by
                              rw [dI_s _ _ m1.1, ← hd4]
                              congr 2
                              have hq : T 8 (r * 6 + i4) = S 8 (r * 6 + i4) := by rw [hU.2.2.1]
                              split <;> omega) (by omega)
                    exact loop75 (7) d3 0 (by omega) (by rw [dI_0, hd3, show i3 = 6 by omega]) (by omega)
                  · refine g_lload_n (pc := 51) C dX1_digest_51 rfl rfl ?_
                    refine g_ldc2 (pc := 52) (v := 31) C (by decide +kernel) dX1_digest_52 ?_
                    refine g_lmul (pc := 55) C dX1_digest_55 ?_
                    refine g_aload_n (pc := 56) C dX1_digest_56 rfl rfl ?_
                    refine g_iload_n (pc := 57) C dX1_digest_57 rfl rfl ?_
                    refine g_iload (pc := 58) C dX1_digest_58 rfl ?_
                    refine g_callVI (pc := 60) (As := [.int (iI r), .int (iI i3)]) (rest := [.long (d3 * 31)]) C (c_X1_about l K q T (UP_HS H hU) hU.2.2.2 r i3 (by rw [e10]; omega) (by omega)) (cwV 2 C.hts gX1_digest_X1_about rfl rfl rfl (by decide +kernel) ⟨by decide, by decide⟩) 0 rfl rfl dX1_digest_60 rfl (Nat.le_of_ble_eq_true rfl) ⟨Nat.zero_le _, Nat.zero_le _⟩ (fun vz w hp => ?_)
                    obtain ⟨hvz, V60, rfl, hU2⟩ := hp
                    have hU2 := UP_t hU hU2
                    rw [hU.1, hU.2.1, hU.2.2.1] at hvz
                    have hvz : vz = ABT (S 0 10) (S 7) (S 8) r i3 := hvz
                    refine g_i2l (pc := 63) C (by have := ABT_b (n := S 0 10) (f := S 7) (h := S 8) hn (hf r g1.1 (by omega)) i3; omega) dX1_digest_63 ?_
                    refine g_ladd (pc := 64) C dX1_digest_64 ?_
                    refine g_lstore_n (pc := 65) (lv' := [(1, .long ((d3 * 31) + (Int64.ofInt vz))), (4, .int (iI i3)), (3, .int (iI r)), (0, .ref (q 0))]) C dX1_digest_65 rfl (by decide) rfl ?_
                    refine g_iinc (pc := 66) (lv' := [(4, .int (iI (i3 + 1))), (1, .long ((d3 * 31) + (Int64.ofInt vz))), (3, .int (iI r)), (0, .ref (q 0))]) C dX1_digest_66 rfl (by decide) rfl ?_
                    refine g_goto (pc := 69) (tgt := 44) C dX1_digest_69 (by decide) ?_
                    refine g_sub (lv' := [(4, .int (iI (i3 + 1))), (3, .int (iI r)), (1, .long ((d3 * 31) + (Int64.ofInt vz))), (0, .ref (q 0))]) [0, 2, 1, 3] rfl ?_
                    exact ih44 V60 ((d3 * 31) + (Int64.ofInt vz)) (i3 + 1) (by omega) hU2 (by rw [dI_s _ _ k1.1, ← hd3, ← hvz]) (by omega)
              exact loop44 (7) T d2 0 (by omega) hU rfl (by omega)
        exact loop33 (92) T d 0 (by omega) hU (by rw [dO_0, hd, show i = 7 by omega]) (by omega)
      · refine g_lload_n (pc := 12) C dX1_digest_12 rfl rfl ?_
        refine g_ldc2 (pc := 13) (v := 31) C (by decide +kernel) dX1_digest_13 ?_
        refine g_lmul (pc := 16) C dX1_digest_16 ?_
        refine g_aload_n (pc := 17) C dX1_digest_17 rfl rfl ?_
        refine g_iload_n (pc := 18) C dX1_digest_18 rfl rfl ?_
        refine g_callVI (pc := 19) (As := [.int (iI i)]) (rest := [.long (d * 31)]) C (c_X1_count l K q T (UP_HS H hU) hU.2.2.2 i (by omega)) (cwV 1 C.hts gX1_digest_X1_count rfl rfl rfl (by decide +kernel) ⟨by decide, by decide⟩) 0 rfl rfl dX1_digest_19 rfl (Nat.le_of_ble_eq_true rfl) ⟨Nat.zero_le _, Nat.zero_le _⟩ (fun vz w hp => ?_)
        obtain ⟨hvz, V19, rfl, hU2⟩ := hp
        have hU2 := UP_t hU hU2
        rw [hU.1, hU.2.1, hU.2.2.1] at hvz
        have hvz : vz = CNT (S 0 9) (S 0 10) (S 7) (S 8) i := hvz
        refine g_i2l (pc := 22) C (by have := CNT_b (f := S 7) (h := S 8) hk9 hn i; omega) dX1_digest_22 ?_
        refine g_ladd (pc := 23) C dX1_digest_23 ?_
        refine g_lstore_n (pc := 24) (lv' := [(1, .long ((d * 31) + (Int64.ofInt vz))), (3, .int (iI i)), (0, .ref (q 0))]) C dX1_digest_24 rfl (by decide) rfl ?_
        refine g_iinc (pc := 25) (lv' := [(3, .int (iI (i + 1))), (1, .long ((d * 31) + (Int64.ofInt vz))), (0, .ref (q 0))]) C dX1_digest_25 rfl (by decide) rfl ?_
        refine g_goto (pc := 28) (tgt := 6) C dX1_digest_28 (by decide) ?_
        exact ih6 V19 ((d * 31) + (Int64.ofInt vz)) (i + 1) (by omega) hU2 (by rw [dI_s _ _ h1.1, ← hd, ← hvz]) (by omega)
  exact loop6 (8) S 1733 0 (by omega) (UP_r Lk) rfl (by omega)
