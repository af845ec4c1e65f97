set_option maxHeartbeats 4000000 in
set_option maxRecDepth 100000 in
theorem c_X1_shine_7 (l : Launch) (K : KK) (q : Nat → Nat) (S : Nat → Int → Int) (hn : 7 ≤ S 0 10 ∧ S 0 10 ≤ 91) (hf : ∀ j, 0 ≤ j → j < S 0 10 → 0 ≤ S 7 j ∧ S 7 j ≤ 2) (hh : ∀ j, 0 ≤ j → j < 546 → 0 ≤ S 8 j ∧ S 8 j ≤ 1) : hMI l yX1_shine wsX1_shine (rmL 5) K [.ref (q 0), .ref (q 7), .ref (q 9)] (wX K q S) (fun z w => z = LIT (S 0 10) (S 7) (S 8) ∧ ∃ b L : Int → Int, w = wX K q (sA (sA S 12 b) 9 L) ∧ ∀ j, 0 ≤ j → j < S 0 10 → L j = LT (S 0 10) (S 7) (S 8) (S 0 10) j) := by
  refine in_MI (cc := cX1_shine) (maxL := 6) (rt := (some .int)) (lv := [(0, .ref (q 0)), (1, .ref (q 7)), (2, .ref (q 9))]) (by decide) rfl (Nat.le_of_ble_eq_true rfl) rfl ?_
  intro p e s m args below meth c A C
  have hinX1 : ∀ w ∈ wsX10, w ∈ wsX1_shine := by decide +kernel
  refine g_aload_n (pc := 0) C dX1_shine_0 rfl rfl ?_
  refine g_iconst (pc := 1) C dX1_shine_1 ?_
  refine g_callSV (pc := 2) (As := [.ref (q 9), .int (iI 0)]) (rest := []) C (c_J7_fill l K (wX K q S) (wX K q (sA S 9 (fF (S 9) 91 0))) 9 0 rfl rfl (by decide)) (va_cwS 2 C.hts gX1_shine_J7_fill_53178 rfl rfl rfl (by decide +kernel) ⟨by decide, by decide⟩) dX1_shine_2 rfl (Nat.le_of_ble_eq_true rfl) ⟨Nat.zero_le _, Nat.zero_le _⟩ (fun w hp => ?_)
  subst hp
  refine g_iconst (pc := 5) C dX1_shine_5 ?_
  refine g_istore_n (pc := 6) (lv' := [(3, .int (iI 0)), (0, .ref (q 0)), (1, .ref (q 7)), (2, .ref (q 9))]) C dX1_shine_6 rfl (by decide) rfl ?_
  have loop7 : ∀ (fu : Nat) (b : Int → Int) (L : Int → Int) (r : Int), (0 ≤ r ∧ r ≤ S 0 10) → (∀ j, 0 ≤ j → j < S 0 10 → L j = LT (S 0 10) (S 7) (S 8) r j) → S 0 10 - r < (fu : Int) → hG p l e (rmL 5) s m args below meth c 6 K A 0 0 (QI K A below args s (fun z w => z = LIT (S 0 10) (S 7) (S 8) ∧ ∃ b L : Int → Int, w = wX K q (sA (sA S 12 b) 9 L) ∧ ∀ j, 0 ≤ j → j < S 0 10 → L j = LT (S 0 10) (S 7) (S 8) (S 0 10) j)) 7 [(3, .int (iI r)), (0, .ref (q 0)), (1, .ref (q 7)), (2, .ref (q 9))] [] (wX K q (sA (sA S 12 b) 9 L)) := by
    intro fu
    induction fu with
    | zero =>
      intro b L r h1 h2 hm
      exact absurd hm (by omega)
    | succ fu ih7 =>
      intro b L r h1 h2 hm
      refine g_iload_n (pc := 7) C dX1_shine_7 rfl rfl ?_
      refine g_aload_n (pc := 8) C dX1_shine_8 rfl rfl ?_
      refine g_get (pc := 9) (v := .int (iI ((S 0) 10))) (ref := "HexRooms") (ci := 1) (N := 11) C 0 rfl rfl hinX1 10 (by decide) (by decide +kernel) rfl rfl dX1_shine_9 ?_
      refine g_icmp_ge (pc := 12) (tgt := 69) C dX1_shine_12 (by decide) (by omega) (by omega) (fun c1 => ?_) (fun c1 => ?_)
      · have hrn : r = S 0 10 := by omega
        subst hrn
        have hLb : ∀ j, 0 ≤ j → j < S 0 10 → 0 ≤ L j ∧ L j ≤ 100000 := by
          intro j h3 h4
          have h5 := LT_b (S 0 10) (S 7) (S 8) (m := S 0 10) (by omega) j
          have h6 := h2 j h3 h4
          omega
        refine g_aload_n (pc := 69) C dX1_shine_69 rfl rfl ?_
        refine g_iconst (pc := 70) C dX1_shine_70 ?_
        refine g_aload_n (pc := 71) C dX1_shine_71 rfl rfl ?_
        refine g_get (pc := 72) (v := .int (iI ((S 0) 10))) (ref := "HexRooms") (ci := 1) (N := 11) C 0 rfl rfl hinX1 10 (by decide) (by decide +kernel) rfl rfl dX1_shine_72 ?_
        refine g_callSI (pc := 75) (As := [.ref (q 9), .int (iI 0), .int (iI ((S 0) 10))]) (rest := []) C (c_X1_litAmong_9 l K q (sA (sA S 12 b) 9 L) 0 ((S 0) 10) (by omega) hLb) (cwS 3 C.hts gX1_shine_X1_litAmong rfl rfl rfl (by decide +kernel) ⟨by decide, by decide⟩) dX1_shine_75 rfl (Nat.le_of_ble_eq_true rfl) ⟨Nat.zero_le _, Nat.zero_le _⟩ (fun z w hp => ?_)
        obtain ⟨rfl, rfl⟩ := hp
        exact g_ireturn (pc := 78) C rfl dX1_shine_78 ⟨sm_cong (fun j h3 h4 => by
          show (if 0 < L j then (1 : Int) else 0) = if 0 < LT (S 0 10) (S 7) (S 8) (S 0 10) j then 1 else 0
          rw [h2 j h3 h4]), b, L, rfl, h2⟩
      · refine g_aload_n (pc := 15) C dX1_shine_15 rfl rfl ?_
        refine g_iload_n (pc := 16) C dX1_shine_16 rfl rfl ?_
        refine g_iaload (pc := 17) (f := (S 7)) C 7 rfl (by omega) dX1_shine_17 ?_
        have bd2 := hf r (by omega) (by omega)
        refine g_iconst (pc := 18) C dX1_shine_18 ?_
        refine g_icmp_ne (pc := 19) (tgt := 31) C dX1_shine_19 (by decide) (by omega) (by omega) (fun c3 => ?_) (fun c3 => ?_)
        · refine g_iconst (pc := 31) C dX1_shine_31 ?_
          refine g_istore (pc := 32) (lv' := [(4, .int (iI 0)), (3, .int (iI r)), (0, .ref (q 0)), (1, .ref (q 7)), (2, .ref (q 9))]) C dX1_shine_32 (by decide) rfl ?_
          refine g_iconst (pc := 34) C dX1_shine_34 ?_
          refine g_istore (pc := 35) (lv' := [(5, .int (iI 0)), (4, .int (iI 0)), (3, .int (iI r)), (0, .ref (q 0)), (1, .ref (q 7)), (2, .ref (q 9))]) C dX1_shine_35 (by decide) rfl ?_
          have loop37 : ∀ (fu : Nat) (b4 : Int → Int) (L2 : Int → Int) (n4 : Int) (i : Int) (l0 : List Int), (0 ≤ i ∧ i ≤ n4 ∧ n4 ≤ 67) → (n4 = (l0.length : Int)) → (∀ i, 0 ≤ i → i < n4 → b4 i = lg l0 i) → ((S 7 r = 2 ∧ l0 = beam (S 0 10) (S 7) (S 8) r) ∨ (¬ S 7 r = 2 ∧ l0 = [])) → (∀ y ∈ l0, 0 ≤ y ∧ y < S 0 10) → (∀ j, 0 ≤ j → j < S 0 10 → L2 j = LT (S 0 10) (S 7) (S 8) r j + sL (ind j) (l0.take i.toNat)) → n4 - i < (fu : Int) → hG p l e (rmL 5) s m args below meth c 6 K A 0 0 (QI K A below args s (fun z w => z = LIT (S 0 10) (S 7) (S 8) ∧ ∃ b L : Int → Int, w = wX K q (sA (sA S 12 b) 9 L) ∧ ∀ j, 0 ≤ j → j < S 0 10 → L j = LT (S 0 10) (S 7) (S 8) (S 0 10) j)) 37 [(5, .int (iI i)), (4, .int (iI n4)), (3, .int (iI r)), (0, .ref (q 0)), (1, .ref (q 7)), (2, .ref (q 9))] [] (wX K q (sA (sA S 12 b4) 9 L2)) := by
            intro fu
            induction fu with
            | zero =>
              intro b4 L2 n4 i l0 h3 hn4 hb4 hl0 hmem hL hm
              exact absurd hm (by omega)
            | succ fu ih37 =>
              intro b4 L2 n4 i l0 h3 hn4 hb4 hl0 hmem hL hm
              refine g_iload (pc := 37) C dX1_shine_37 rfl ?_
              refine g_iload (pc := 39) C dX1_shine_39 rfl ?_
              refine g_icmp_ge (pc := 41) (tgt := 63) C dX1_shine_41 (by decide) (by omega) (by omega) (fun c4 => ?_) (fun c4 => ?_)
              · refine g_iinc (pc := 63) (lv' := [(3, .int (iI (r + 1))), (5, .int (iI i)), (4, .int (iI n4)), (0, .ref (q 0)), (1, .ref (q 7)), (2, .ref (q 9))]) C dX1_shine_63 rfl (by decide) rfl ?_
                refine g_goto (pc := 66) (tgt := 7) C dX1_shine_66 (by decide) ?_
                refine g_sub (lv' := [(3, .int (iI (r + 1))), (0, .ref (q 0)), (1, .ref (q 7)), (2, .ref (q 9))]) [0, 3, 4, 5] rfl ?_
                exact ih7 b4 L2 (r + 1) (by omega) (fun j h3 h4 => by
                  rw [hL j h3 h4, LT_s _ _ _ h1.1, sL_takeAll _ _ (by omega : i = (l0.length : Int))]
                  rcases hl0 with ⟨e1, e2⟩ | ⟨e1, e2⟩
                  · rw [if_pos e1, e2]
                  · rw [if_neg e1, e2]
                    rfl) (by omega)
              · refine g_aload_n (pc := 44) C dX1_shine_44 rfl rfl ?_
                refine g_aload_n (pc := 45) C dX1_shine_45 rfl rfl ?_
                refine g_get (pc := 46) (ref := "HexRooms") (ci := 1) (N := 11) C 0 rfl rfl hinX1 6 (by decide) (by decide +kernel) rfl rfl dX1_shine_46 ?_
                refine g_iload (pc := 49) C dX1_shine_49 rfl ?_
                refine g_iaload (pc := 51) (f := b4) C 12 rfl (by omega) dX1_shine_51 ?_
                have hx := hmem _ (lg_mem (l := l0) (i := i) (by omega))
                rw [← hb4 i (by omega) (by omega)] at hx
                refine g_dup2 (pc := 52) C dX1_shine_52 rfl rfl ?_
                refine g_iaload (pc := 53) (f := L2) C 9 rfl (by omega) dX1_shine_53 ?_
                refine g_iconst (pc := 54) C dX1_shine_54 ?_
                refine g_iadd (pc := 55) C dX1_shine_55 ?_
                refine g_iastore (pc := 56) (f := L2) (ws' := (wX K q (sA (sA S 12 b4) 9 (fU L2 (b4 i) ((L2 (b4 i)) + 1))))) C 9 rfl (by omega) dX1_shine_56 rfl ?_
                refine g_iinc (pc := 57) (lv' := [(5, .int (iI (i + 1))), (4, .int (iI n4)), (3, .int (iI r)), (0, .ref (q 0)), (1, .ref (q 7)), (2, .ref (q 9))]) C dX1_shine_57 rfl (by decide) rfl ?_
                refine g_goto (pc := 60) (tgt := 37) C dX1_shine_60 (by decide) ?_
                exact ih37 b4 (fU L2 (b4 i) ((L2 (b4 i)) + 1)) n4 (i + 1) l0 (by omega) hn4 hb4 hl0 hmem (fun j h4 h5 => by
                  rw [sL_take (ind j) l0 (i := i) (by omega), ← hb4 i (by omega) (by omega)]
                  by_cases e : j = b4 i
                  · subst e
                    rw [fU_at, hL _ h4 h5]
                    unfold ind
                    rw [if_pos rfl]
                    omega
                  · rw [fU_ne _ _ _ e, hL j h4 h5]
                    unfold ind
                    rw [if_neg (fun w => e w.symm)]
                    omega) (by omega)
          exact loop37 (68) b L 0 0 ([]) (by omega) (by rfl) (fun i h4 h5 => by omega) (Or.inr ⟨by omega, rfl⟩) (fun y hy => nomatch hy) (fun j h4 h5 => by rw [sL_take0, h2 j h4 h5]; omega) (by omega)
        · refine g_aload_n (pc := 22) C dX1_shine_22 rfl rfl ?_
          refine g_aload_n (pc := 23) C dX1_shine_23 rfl rfl ?_
          refine g_iload_n (pc := 24) C dX1_shine_24 rfl rfl ?_
          refine g_callVI (pc := 25) (As := [.ref (q 7), .int (iI r)]) (rest := []) C (c_X1_beamFrom_7 l K q (sA (sA S 12 b) 9 L) hn hf hh r (show 0 ≤ r ∧ r < S 0 10 by omega)) (cwV 2 C.hts gX1_shine_X1_beamFrom rfl rfl rfl (by decide +kernel) ⟨by decide, by decide⟩) 0 rfl rfl dX1_shine_25 rfl (Nat.le_of_ble_eq_true rfl) ⟨Nat.zero_le _, Nat.zero_le _⟩ (fun sn w hp => ?_)
          obtain ⟨hsn, b1, rfl, hb1⟩ := hp
          have hsn : sn = ((beam (S 0 10) (S 7) (S 8) r).length : Int) := hsn
          have hb1 : ∀ i, 0 ≤ i → i < sn → b1 i = lg (beam (S 0 10) (S 7) (S 8) r) i := hb1
          have hsl := beam_len (S 0 10) (S 7) (S 8) r
          refine g_goto (pc := 28) (tgt := 32) C dX1_shine_28 (by decide) ?_
          refine g_istore (pc := 32) (lv' := [(4, .int (iI sn)), (3, .int (iI r)), (0, .ref (q 0)), (1, .ref (q 7)), (2, .ref (q 9))]) C dX1_shine_32 (by decide) rfl ?_
          refine g_iconst (pc := 34) C dX1_shine_34 ?_
          refine g_istore (pc := 35) (lv' := [(5, .int (iI 0)), (4, .int (iI sn)), (3, .int (iI r)), (0, .ref (q 0)), (1, .ref (q 7)), (2, .ref (q 9))]) C dX1_shine_35 (by decide) rfl ?_
          have loop37 : ∀ (fu : Nat) (b4 : Int → Int) (L2 : Int → Int) (n4 : Int) (i : Int) (l0 : List Int), (0 ≤ i ∧ i ≤ n4 ∧ n4 ≤ 67) → (n4 = (l0.length : Int)) → (∀ i, 0 ≤ i → i < n4 → b4 i = lg l0 i) → ((S 7 r = 2 ∧ l0 = beam (S 0 10) (S 7) (S 8) r) ∨ (¬ S 7 r = 2 ∧ l0 = [])) → (∀ y ∈ l0, 0 ≤ y ∧ y < S 0 10) → (∀ j, 0 ≤ j → j < S 0 10 → L2 j = LT (S 0 10) (S 7) (S 8) r j + sL (ind j) (l0.take i.toNat)) → n4 - i < (fu : Int) → hG p l e (rmL 5) s m args below meth c 6 K A 0 0 (QI K A below args s (fun z w => z = LIT (S 0 10) (S 7) (S 8) ∧ ∃ b L : Int → Int, w = wX K q (sA (sA S 12 b) 9 L) ∧ ∀ j, 0 ≤ j → j < S 0 10 → L j = LT (S 0 10) (S 7) (S 8) (S 0 10) j)) 37 [(5, .int (iI i)), (4, .int (iI n4)), (3, .int (iI r)), (0, .ref (q 0)), (1, .ref (q 7)), (2, .ref (q 9))] [] (wX K q (sA (sA S 12 b4) 9 L2)) := by
            intro fu
            induction fu with
            | zero =>
              intro b4 L2 n4 i l0 h3 hn4 hb4 hl0 hmem hL hm
              exact absurd hm (by omega)
            | succ fu ih37 =>
              intro b4 L2 n4 i l0 h3 hn4 hb4 hl0 hmem hL hm
              refine g_iload (pc := 37) C dX1_shine_37 rfl ?_
              refine g_iload (pc := 39) C dX1_shine_39 rfl ?_
              refine g_icmp_ge (pc := 41) (tgt := 63) C dX1_shine_41 (by decide) (by omega) (by omega) (fun c5 => ?_) (fun c5 => ?_)
              · refine g_iinc (pc := 63) (lv' := [(3, .int (iI (r + 1))), (5, .int (iI i)), (4, .int (iI n4)), (0, .ref (q 0)), (1, .ref (q 7)), (2, .ref (q 9))]) C dX1_shine_63 rfl (by decide) rfl ?_
                refine g_goto (pc := 66) (tgt := 7) C dX1_shine_66 (by decide) ?_
                refine g_sub (lv' := [(3, .int (iI (r + 1))), (0, .ref (q 0)), (1, .ref (q 7)), (2, .ref (q 9))]) [0, 3, 4, 5] rfl ?_
                exact ih7 b4 L2 (r + 1) (by omega) (fun j h3 h4 => by
                  rw [hL j h3 h4, LT_s _ _ _ h1.1, sL_takeAll _ _ (by omega : i = (l0.length : Int))]
                  rcases hl0 with ⟨e1, e2⟩ | ⟨e1, e2⟩
                  · rw [if_pos e1, e2]
                  · rw [if_neg e1, e2]
                    rfl) (by omega)
              · refine g_aload_n (pc := 44) C dX1_shine_44 rfl rfl ?_
                refine g_aload_n (pc := 45) C dX1_shine_45 rfl rfl ?_
                refine g_get (pc := 46) (ref := "HexRooms") (ci := 1) (N := 11) C 0 rfl rfl hinX1 6 (by decide) (by decide +kernel) rfl rfl dX1_shine_46 ?_
                refine g_iload (pc := 49) C dX1_shine_49 rfl ?_
                refine g_iaload (pc := 51) (f := b4) C 12 rfl (by omega) dX1_shine_51 ?_
                have hx := hmem _ (lg_mem (l := l0) (i := i) (by omega))
                rw [← hb4 i (by omega) (by omega)] at hx
                refine g_dup2 (pc := 52) C dX1_shine_52 rfl rfl ?_
                refine g_iaload (pc := 53) (f := L2) C 9 rfl (by omega) dX1_shine_53 ?_
                refine g_iconst (pc := 54) C dX1_shine_54 ?_
                refine g_iadd (pc := 55) C dX1_shine_55 ?_
                refine g_iastore (pc := 56) (f := L2) (ws' := (wX K q (sA (sA S 12 b4) 9 (fU L2 (b4 i) ((L2 (b4 i)) + 1))))) C 9 rfl (by omega) dX1_shine_56 rfl ?_
                refine g_iinc (pc := 57) (lv' := [(5, .int (iI (i + 1))), (4, .int (iI n4)), (3, .int (iI r)), (0, .ref (q 0)), (1, .ref (q 7)), (2, .ref (q 9))]) C dX1_shine_57 rfl (by decide) rfl ?_
                refine g_goto (pc := 60) (tgt := 37) C dX1_shine_60 (by decide) ?_
                exact ih37 b4 (fU L2 (b4 i) ((L2 (b4 i)) + 1)) n4 (i + 1) l0 (by omega) hn4 hb4 hl0 hmem (fun j h4 h5 => by
                  rw [sL_take (ind j) l0 (i := i) (by omega), ← hb4 i (by omega) (by omega)]
                  by_cases e : j = b4 i
                  · subst e
                    rw [fU_at, hL _ h4 h5]
                    unfold ind
                    rw [if_pos rfl]
                    omega
                  · rw [fU_ne _ _ _ e, hL j h4 h5]
                    unfold ind
                    rw [if_neg (fun w => e w.symm)]
                    omega) (by omega)
          exact loop37 (68) b1 L sn 0 (beam (S 0 10) (S 7) (S 8) r) (by omega) hsn hb1 (Or.inl ⟨by omega, rfl⟩) (bm_mem _ _ _ (by omega) 6) (fun j h4 h5 => by rw [sL_take0, h2 j h4 h5]; omega) (by omega)
  exact loop7 (92) (S 12) (fF (S 9) 91 0) 0 (by omega) (fun j h3 h4 => by rw [LT_0]; exact if_pos (by omega)) (by omega)

set_option maxHeartbeats 4000000 in
set_option maxRecDepth 100000 in
theorem c_X1_shine_10 (l : Launch) (K : KK) (q : Nat → Nat) (S : Nat → Int → Int) (hn : 7 ≤ S 0 10 ∧ S 0 10 ≤ 91) (hf : ∀ j, 0 ≤ j → j < S 0 10 → 0 ≤ S 10 j ∧ S 10 j ≤ 2) (hh : ∀ j, 0 ≤ j → j < 546 → 0 ≤ S 8 j ∧ S 8 j ≤ 1) : hMI l yX1_shine wsX1_shine (rmL 5) K [.ref (q 0), .ref (q 10), .ref (q 11)] (wX K q S) (fun z w => z = LIT (S 0 10) (S 10) (S 8) ∧ ∃ b L : Int → Int, w = wX K q (sA (sA S 12 b) 11 L) ∧ ∀ j, 0 ≤ j → j < S 0 10 → L j = LT (S 0 10) (S 10) (S 8) (S 0 10) j) := by
  refine in_MI (cc := cX1_shine) (maxL := 6) (rt := (some .int)) (lv := [(0, .ref (q 0)), (1, .ref (q 10)), (2, .ref (q 11))]) (by decide) rfl (Nat.le_of_ble_eq_true rfl) rfl ?_
  intro p e s m args below meth c A C
  have hinX1 : ∀ w ∈ wsX10, w ∈ wsX1_shine := by decide +kernel
  refine g_aload_n (pc := 0) C dX1_shine_0 rfl rfl ?_
  refine g_iconst (pc := 1) C dX1_shine_1 ?_
  refine g_callSV (pc := 2) (As := [.ref (q 11), .int (iI 0)]) (rest := []) C (c_J7_fill l K (wX K q S) (wX K q (sA S 11 (fF (S 11) 91 0))) 11 0 rfl rfl (by decide)) (va_cwS 2 C.hts gX1_shine_J7_fill_53178 rfl rfl rfl (by decide +kernel) ⟨by decide, by decide⟩) dX1_shine_2 rfl (Nat.le_of_ble_eq_true rfl) ⟨Nat.zero_le _, Nat.zero_le _⟩ (fun w hp => ?_)
  subst hp
  refine g_iconst (pc := 5) C dX1_shine_5 ?_
  refine g_istore_n (pc := 6) (lv' := [(3, .int (iI 0)), (0, .ref (q 0)), (1, .ref (q 10)), (2, .ref (q 11))]) C dX1_shine_6 rfl (by decide) rfl ?_
  have loop7 : ∀ (fu : Nat) (b : Int → Int) (L : Int → Int) (r : Int), (0 ≤ r ∧ r ≤ S 0 10) → (∀ j, 0 ≤ j → j < S 0 10 → L j = LT (S 0 10) (S 10) (S 8) r j) → S 0 10 - r < (fu : Int) → hG p l e (rmL 5) s m args below meth c 6 K A 0 0 (QI K A below args s (fun z w => z = LIT (S 0 10) (S 10) (S 8) ∧ ∃ b L : Int → Int, w = wX K q (sA (sA S 12 b) 11 L) ∧ ∀ j, 0 ≤ j → j < S 0 10 → L j = LT (S 0 10) (S 10) (S 8) (S 0 10) j)) 7 [(3, .int (iI r)), (0, .ref (q 0)), (1, .ref (q 10)), (2, .ref (q 11))] [] (wX K q (sA (sA S 12 b) 11 L)) := by
    intro fu
    induction fu with
    | zero =>
      intro b L r h1 h2 hm
      exact absurd hm (by omega)
    | succ fu ih7 =>
      intro b L r h1 h2 hm
      refine g_iload_n (pc := 7) C dX1_shine_7 rfl rfl ?_
      refine g_aload_n (pc := 8) C dX1_shine_8 rfl rfl ?_
      refine g_get (pc := 9) (v := .int (iI ((S 0) 10))) (ref := "HexRooms") (ci := 1) (N := 11) C 0 rfl rfl hinX1 10 (by decide) (by decide +kernel) rfl rfl dX1_shine_9 ?_
      refine g_icmp_ge (pc := 12) (tgt := 69) C dX1_shine_12 (by decide) (by omega) (by omega) (fun c1 => ?_) (fun c1 => ?_)
      · have hrn : r = S 0 10 := by omega
        subst hrn
        have hLb : ∀ j, 0 ≤ j → j < S 0 10 → 0 ≤ L j ∧ L j ≤ 100000 := by
          intro j h3 h4
          have h5 := LT_b (S 0 10) (S 10) (S 8) (m := S 0 10) (by omega) j
          have h6 := h2 j h3 h4
          omega
        refine g_aload_n (pc := 69) C dX1_shine_69 rfl rfl ?_
        refine g_iconst (pc := 70) C dX1_shine_70 ?_
        refine g_aload_n (pc := 71) C dX1_shine_71 rfl rfl ?_
        refine g_get (pc := 72) (v := .int (iI ((S 0) 10))) (ref := "HexRooms") (ci := 1) (N := 11) C 0 rfl rfl hinX1 10 (by decide) (by decide +kernel) rfl rfl dX1_shine_72 ?_
        refine g_callSI (pc := 75) (As := [.ref (q 11), .int (iI 0), .int (iI ((S 0) 10))]) (rest := []) C (c_X1_litAmong_11 l K q (sA (sA S 12 b) 11 L) 0 ((S 0) 10) (by omega) hLb) (cwS 3 C.hts gX1_shine_X1_litAmong rfl rfl rfl (by decide +kernel) ⟨by decide, by decide⟩) dX1_shine_75 rfl (Nat.le_of_ble_eq_true rfl) ⟨Nat.zero_le _, Nat.zero_le _⟩ (fun z w hp => ?_)
        obtain ⟨rfl, rfl⟩ := hp
        exact g_ireturn (pc := 78) C rfl dX1_shine_78 ⟨sm_cong (fun j h3 h4 => by
          show (if 0 < L j then (1 : Int) else 0) = if 0 < LT (S 0 10) (S 10) (S 8) (S 0 10) j then 1 else 0
          rw [h2 j h3 h4]), b, L, rfl, h2⟩
      · refine g_aload_n (pc := 15) C dX1_shine_15 rfl rfl ?_
        refine g_iload_n (pc := 16) C dX1_shine_16 rfl rfl ?_
        refine g_iaload (pc := 17) (f := (S 10)) C 10 rfl (by omega) dX1_shine_17 ?_
        have bd2 := hf r (by omega) (by omega)
        refine g_iconst (pc := 18) C dX1_shine_18 ?_
        refine g_icmp_ne (pc := 19) (tgt := 31) C dX1_shine_19 (by decide) (by omega) (by omega) (fun c3 => ?_) (fun c3 => ?_)
        · refine g_iconst (pc := 31) C dX1_shine_31 ?_
          refine g_istore (pc := 32) (lv' := [(4, .int (iI 0)), (3, .int (iI r)), (0, .ref (q 0)), (1, .ref (q 10)), (2, .ref (q 11))]) C dX1_shine_32 (by decide) rfl ?_
          refine g_iconst (pc := 34) C dX1_shine_34 ?_
          refine g_istore (pc := 35) (lv' := [(5, .int (iI 0)), (4, .int (iI 0)), (3, .int (iI r)), (0, .ref (q 0)), (1, .ref (q 10)), (2, .ref (q 11))]) C dX1_shine_35 (by decide) rfl ?_
          have loop37 : ∀ (fu : Nat) (b4 : Int → Int) (L2 : Int → Int) (n4 : Int) (i : Int) (l0 : List Int), (0 ≤ i ∧ i ≤ n4 ∧ n4 ≤ 67) → (n4 = (l0.length : Int)) → (∀ i, 0 ≤ i → i < n4 → b4 i = lg l0 i) → ((S 10 r = 2 ∧ l0 = beam (S 0 10) (S 10) (S 8) r) ∨ (¬ S 10 r = 2 ∧ l0 = [])) → (∀ y ∈ l0, 0 ≤ y ∧ y < S 0 10) → (∀ j, 0 ≤ j → j < S 0 10 → L2 j = LT (S 0 10) (S 10) (S 8) r j + sL (ind j) (l0.take i.toNat)) → n4 - i < (fu : Int) → hG p l e (rmL 5) s m args below meth c 6 K A 0 0 (QI K A below args s (fun z w => z = LIT (S 0 10) (S 10) (S 8) ∧ ∃ b L : Int → Int, w = wX K q (sA (sA S 12 b) 11 L) ∧ ∀ j, 0 ≤ j → j < S 0 10 → L j = LT (S 0 10) (S 10) (S 8) (S 0 10) j)) 37 [(5, .int (iI i)), (4, .int (iI n4)), (3, .int (iI r)), (0, .ref (q 0)), (1, .ref (q 10)), (2, .ref (q 11))] [] (wX K q (sA (sA S 12 b4) 11 L2)) := by
            intro fu
            induction fu with
            | zero =>
              intro b4 L2 n4 i l0 h3 hn4 hb4 hl0 hmem hL hm
              exact absurd hm (by omega)
            | succ fu ih37 =>
              intro b4 L2 n4 i l0 h3 hn4 hb4 hl0 hmem hL hm
              refine g_iload (pc := 37) C dX1_shine_37 rfl ?_
              refine g_iload (pc := 39) C dX1_shine_39 rfl ?_
              refine g_icmp_ge (pc := 41) (tgt := 63) C dX1_shine_41 (by decide) (by omega) (by omega) (fun c4 => ?_) (fun c4 => ?_)
              · refine g_iinc (pc := 63) (lv' := [(3, .int (iI (r + 1))), (5, .int (iI i)), (4, .int (iI n4)), (0, .ref (q 0)), (1, .ref (q 10)), (2, .ref (q 11))]) C dX1_shine_63 rfl (by decide) rfl ?_
                refine g_goto (pc := 66) (tgt := 7) C dX1_shine_66 (by decide) ?_
                refine g_sub (lv' := [(3, .int (iI (r + 1))), (0, .ref (q 0)), (1, .ref (q 10)), (2, .ref (q 11))]) [0, 3, 4, 5] rfl ?_
                exact ih7 b4 L2 (r + 1) (by omega) (fun j h3 h4 => by
                  rw [hL j h3 h4, LT_s _ _ _ h1.1, sL_takeAll _ _ (by omega : i = (l0.length : Int))]
                  rcases hl0 with ⟨e1, e2⟩ | ⟨e1, e2⟩
                  · rw [if_pos e1, e2]
                  · rw [if_neg e1, e2]
                    rfl) (by omega)
              · refine g_aload_n (pc := 44) C dX1_shine_44 rfl rfl ?_
                refine g_aload_n (pc := 45) C dX1_shine_45 rfl rfl ?_
                refine g_get (pc := 46) (ref := "HexRooms") (ci := 1) (N := 11) C 0 rfl rfl hinX1 6 (by decide) (by decide +kernel) rfl rfl dX1_shine_46 ?_
                refine g_iload (pc := 49) C dX1_shine_49 rfl ?_
                refine g_iaload (pc := 51) (f := b4) C 12 rfl (by omega) dX1_shine_51 ?_
                have hx := hmem _ (lg_mem (l := l0) (i := i) (by omega))
                rw [← hb4 i (by omega) (by omega)] at hx
                refine g_dup2 (pc := 52) C dX1_shine_52 rfl rfl ?_
                refine g_iaload (pc := 53) (f := L2) C 11 rfl (by omega) dX1_shine_53 ?_
                refine g_iconst (pc := 54) C dX1_shine_54 ?_
                refine g_iadd (pc := 55) C dX1_shine_55 ?_
                refine g_iastore (pc := 56) (f := L2) (ws' := (wX K q (sA (sA S 12 b4) 11 (fU L2 (b4 i) ((L2 (b4 i)) + 1))))) C 11 rfl (by omega) dX1_shine_56 rfl ?_
                refine g_iinc (pc := 57) (lv' := [(5, .int (iI (i + 1))), (4, .int (iI n4)), (3, .int (iI r)), (0, .ref (q 0)), (1, .ref (q 10)), (2, .ref (q 11))]) C dX1_shine_57 rfl (by decide) rfl ?_
                refine g_goto (pc := 60) (tgt := 37) C dX1_shine_60 (by decide) ?_
                exact ih37 b4 (fU L2 (b4 i) ((L2 (b4 i)) + 1)) n4 (i + 1) l0 (by omega) hn4 hb4 hl0 hmem (fun j h4 h5 => by
                  rw [sL_take (ind j) l0 (i := i) (by omega), ← hb4 i (by omega) (by omega)]
                  by_cases e : j = b4 i
                  · subst e
                    rw [fU_at, hL _ h4 h5]
                    unfold ind
                    rw [if_pos rfl]
                    omega
                  · rw [fU_ne _ _ _ e, hL j h4 h5]
                    unfold ind
                    rw [if_neg (fun w => e w.symm)]
                    omega) (by omega)
          exact loop37 (68) b L 0 0 ([]) (by omega) (by rfl) (fun i h4 h5 => by omega) (Or.inr ⟨by omega, rfl⟩) (fun y hy => nomatch hy) (fun j h4 h5 => by rw [sL_take0, h2 j h4 h5]; omega) (by omega)
        · refine g_aload_n (pc := 22) C dX1_shine_22 rfl rfl ?_
          refine g_aload_n (pc := 23) C dX1_shine_23 rfl rfl ?_
          refine g_iload_n (pc := 24) C dX1_shine_24 rfl rfl ?_
          refine g_callVI (pc := 25) (As := [.ref (q 10), .int (iI r)]) (rest := []) C (c_X1_beamFrom_10 l K q (sA (sA S 12 b) 11 L) hn hf hh r (show 0 ≤ r ∧ r < S 0 10 by omega)) (cwV 2 C.hts gX1_shine_X1_beamFrom rfl rfl rfl (by decide +kernel) ⟨by decide, by decide⟩) 0 rfl rfl dX1_shine_25 rfl (Nat.le_of_ble_eq_true rfl) ⟨Nat.zero_le _, Nat.zero_le _⟩ (fun sn w hp => ?_)
          obtain ⟨hsn, b1, rfl, hb1⟩ := hp
          have hsn : sn = ((beam (S 0 10) (S 10) (S 8) r).length : Int) := hsn
          have hb1 : ∀ i, 0 ≤ i → i < sn → b1 i = lg (beam (S 0 10) (S 10) (S 8) r) i := hb1
          have hsl := beam_len (S 0 10) (S 10) (S 8) r
          refine g_goto (pc := 28) (tgt := 32) C dX1_shine_28 (by decide) ?_
          refine g_istore (pc := 32) (lv' := [(4, .int (iI sn)), (3, .int (iI r)), (0, .ref (q 0)), (1, .ref (q 10)), (2, .ref (q 11))]) C dX1_shine_32 (by decide) rfl ?_
          refine g_iconst (pc := 34) C dX1_shine_34 ?_
          refine g_istore (pc := 35) (lv' := [(5, .int (iI 0)), (4, .int (iI sn)), (3, .int (iI r)), (0, .ref (q 0)), (1, .ref (q 10)), (2, .ref (q 11))]) C dX1_shine_35 (by decide) rfl ?_
          have loop37 : ∀ (fu : Nat) (b4 : Int → Int) (L2 : Int → Int) (n4 : Int) (i : Int) (l0 : List Int), (0 ≤ i ∧ i ≤ n4 ∧ n4 ≤ 67) → (n4 = (l0.length : Int)) → (∀ i, 0 ≤ i → i < n4 → b4 i = lg l0 i) → ((S 10 r = 2 ∧ l0 = beam (S 0 10) (S 10) (S 8) r) ∨ (¬ S 10 r = 2 ∧ l0 = [])) → (∀ y ∈ l0, 0 ≤ y ∧ y < S 0 10) → (∀ j, 0 ≤ j → j < S 0 10 → L2 j = LT (S 0 10) (S 10) (S 8) r j + sL (ind j) (l0.take i.toNat)) → n4 - i < (fu : Int) → hG p l e (rmL 5) s m args below meth c 6 K A 0 0 (QI K A below args s (fun z w => z = LIT (S 0 10) (S 10) (S 8) ∧ ∃ b L : Int → Int, w = wX K q (sA (sA S 12 b) 11 L) ∧ ∀ j, 0 ≤ j → j < S 0 10 → L j = LT (S 0 10) (S 10) (S 8) (S 0 10) j)) 37 [(5, .int (iI i)), (4, .int (iI n4)), (3, .int (iI r)), (0, .ref (q 0)), (1, .ref (q 10)), (2, .ref (q 11))] [] (wX K q (sA (sA S 12 b4) 11 L2)) := by
            intro fu
            induction fu with
            | zero =>
              intro b4 L2 n4 i l0 h3 hn4 hb4 hl0 hmem hL hm
              exact absurd hm (by omega)
            | succ fu ih37 =>
              intro b4 L2 n4 i l0 h3 hn4 hb4 hl0 hmem hL hm
              refine g_iload (pc := 37) C dX1_shine_37 rfl ?_
              refine g_iload (pc := 39) C dX1_shine_39 rfl ?_
              refine g_icmp_ge (pc := 41) (tgt := 63) C dX1_shine_41 (by decide) (by omega) (by omega) (fun c5 => ?_) (fun c5 => ?_)
              · refine g_iinc (pc := 63) (lv' := [(3, .int (iI (r + 1))), (5, .int (iI i)), (4, .int (iI n4)), (0, .ref (q 0)), (1, .ref (q 10)), (2, .ref (q 11))]) C dX1_shine_63 rfl (by decide) rfl ?_
                refine g_goto (pc := 66) (tgt := 7) C dX1_shine_66 (by decide) ?_
                refine g_sub (lv' := [(3, .int (iI (r + 1))), (0, .ref (q 0)), (1, .ref (q 10)), (2, .ref (q 11))]) [0, 3, 4, 5] rfl ?_
                exact ih7 b4 L2 (r + 1) (by omega) (fun j h3 h4 => by
                  rw [hL j h3 h4, LT_s _ _ _ h1.1, sL_takeAll _ _ (by omega : i = (l0.length : Int))]
                  rcases hl0 with ⟨e1, e2⟩ | ⟨e1, e2⟩
                  · rw [if_pos e1, e2]
                  · rw [if_neg e1, e2]
                    rfl) (by omega)
              · refine g_aload_n (pc := 44) C dX1_shine_44 rfl rfl ?_
                refine g_aload_n (pc := 45) C dX1_shine_45 rfl rfl ?_
                refine g_get (pc := 46) (ref := "HexRooms") (ci := 1) (N := 11) C 0 rfl rfl hinX1 6 (by decide) (by decide +kernel) rfl rfl dX1_shine_46 ?_
                refine g_iload (pc := 49) C dX1_shine_49 rfl ?_
                refine g_iaload (pc := 51) (f := b4) C 12 rfl (by omega) dX1_shine_51 ?_
                have hx := hmem _ (lg_mem (l := l0) (i := i) (by omega))
                rw [← hb4 i (by omega) (by omega)] at hx
                refine g_dup2 (pc := 52) C dX1_shine_52 rfl rfl ?_
                refine g_iaload (pc := 53) (f := L2) C 11 rfl (by omega) dX1_shine_53 ?_
                refine g_iconst (pc := 54) C dX1_shine_54 ?_
                refine g_iadd (pc := 55) C dX1_shine_55 ?_
                refine g_iastore (pc := 56) (f := L2) (ws' := (wX K q (sA (sA S 12 b4) 11 (fU L2 (b4 i) ((L2 (b4 i)) + 1))))) C 11 rfl (by omega) dX1_shine_56 rfl ?_
                refine g_iinc (pc := 57) (lv' := [(5, .int (iI (i + 1))), (4, .int (iI n4)), (3, .int (iI r)), (0, .ref (q 0)), (1, .ref (q 10)), (2, .ref (q 11))]) C dX1_shine_57 rfl (by decide) rfl ?_
                refine g_goto (pc := 60) (tgt := 37) C dX1_shine_60 (by decide) ?_
                exact ih37 b4 (fU L2 (b4 i) ((L2 (b4 i)) + 1)) n4 (i + 1) l0 (by omega) hn4 hb4 hl0 hmem (fun j h4 h5 => by
                  rw [sL_take (ind j) l0 (i := i) (by omega), ← hb4 i (by omega) (by omega)]
                  by_cases e : j = b4 i
                  · subst e
                    rw [fU_at, hL _ h4 h5]
                    unfold ind
                    rw [if_pos rfl]
                    omega
                  · rw [fU_ne _ _ _ e, hL j h4 h5]
                    unfold ind
                    rw [if_neg (fun w => e w.symm)]
                    omega) (by omega)
          exact loop37 (68) b1 L sn 0 (beam (S 0 10) (S 10) (S 8) r) (by omega) hsn hb1 (Or.inl ⟨by omega, rfl⟩) (bm_mem _ _ _ (by omega) 6) (fun j h4 h5 => by rw [sL_take0, h2 j h4 h5]; omega) (by omega)
  exact loop7 (92) (S 12) (fF (S 11) 91 0) 0 (by omega) (fun j h3 h4 => by rw [LT_0]; exact if_pos (by omega)) (by omega)

set_option maxHeartbeats 4000000 in
set_option maxRecDepth 100000 in
theorem c_X1_relight (l : Launch) (K : KK) (q : Nat → Nat) (S : Nat → Int → Int) (hn : 7 ≤ S 0 10 ∧ S 0 10 ≤ 91) (hf : ∀ j, 0 ≤ j → j < S 0 10 → 0 ≤ S 7 j ∧ S 7 j ≤ 2) (hh : ∀ j, 0 ≤ j → j < 546 → 0 ≤ S 8 j ∧ S 8 j ≤ 1) : hMI l yX1_relight wsX1_relight (rmL 6) K [.ref (q 0)] (wX K q S) (fun z w => z = LIT (S 0 10) (S 7) (S 8) ∧ ∃ b L : Int → Int, w = wX K q (sA (sA S 12 b) 9 L) ∧ ∀ j, 0 ≤ j → j < S 0 10 → L j = LT (S 0 10) (S 7) (S 8) (S 0 10) j) := by
  refine in_MI (cc := cX1_relight) (maxL := 1) (rt := (some .int)) (lv := [(0, .ref (q 0))]) (by decide) rfl (Nat.le_of_ble_eq_true rfl) rfl ?_
  intro p e s m args below meth c A C
  have hinX1 : ∀ w ∈ wsX10, w ∈ wsX1_relight := by decide +kernel
  refine g_aload_n (pc := 0) C dX1_relight_0 rfl rfl ?_
  refine g_aload_n (pc := 1) C dX1_relight_1 rfl rfl ?_
  refine g_get (pc := 2) (ref := "HexRooms") (ci := 1) (N := 11) C 0 rfl rfl hinX1 1 (by decide) (by decide +kernel) rfl rfl dX1_relight_2 ?_
  refine g_aload_n (pc := 5) C dX1_relight_5 rfl rfl ?_
  refine g_get (pc := 6) (ref := "HexRooms") (ci := 1) (N := 11) C 0 rfl rfl hinX1 3 (by decide) (by decide +kernel) rfl rfl dX1_relight_6 ?_
  refine g_callVI (pc := 9) (As := [.ref (q 7), .ref (q 9)]) (rest := []) C (c_X1_shine_7 l K q S hn hf hh) (cwV 2 C.hts gX1_relight_X1_shine rfl rfl rfl (by decide +kernel) ⟨by decide, by decide⟩) 0 rfl rfl dX1_relight_9 rfl (Nat.le_of_ble_eq_true rfl) ⟨Nat.zero_le _, Nat.zero_le _⟩ (fun z w hp => ?_)
  have hp2 := hp
  exact g_ireturn (pc := 12) C rfl dX1_relight_12 hp2

set_option maxHeartbeats 4000000 in
set_option maxRecDepth 100000 in
theorem c_X1_newlyLitFrom (l : Launch) (K : KK) (q : Nat → Nat) (S : Nat → Int → Int) (hn : 7 ≤ S 0 10 ∧ S 0 10 ≤ 91) (hf : ∀ j, 0 ≤ j → j < S 0 10 → 0 ≤ S 7 j ∧ S 7 j ≤ 2) (hh : ∀ j, 0 ≤ j → j < 546 → 0 ≤ S 8 j ∧ S 8 j ≤ 1) (hL : ∀ j, 0 ≤ j → j < S 0 10 → 0 ≤ S 9 j ∧ S 9 j ≤ 100000) (r : Int) (hr : 0 ≤ r ∧ r < S 0 10) : hMI l yX1_newlyLitFrom wsX1_newlyLitFrom (rmL 5) K [.ref (q 0), .int (iI r)] (wX K q S) (fun z w => z = sL (fun x => if S 9 x = 0 then 1 else 0) (beam (S 0 10) (S 7) (S 8) r) ∧ ∃ b : Int → Int, w = wX K q (sA S 12 b)) := by
  refine in_MI (cc := cX1_newlyLitFrom) (maxL := 5) (rt := (some .int)) (lv := [(0, .ref (q 0)), (1, .int (iI r))]) (by decide) rfl (Nat.le_of_ble_eq_true rfl) rfl ?_
  intro p e s m args below meth c A C
  have hinX1 : ∀ w ∈ wsX10, w ∈ wsX1_newlyLitFrom := by decide +kernel
  refine g_aload_n (pc := 0) C dX1_newlyLitFrom_0 rfl rfl ?_
  refine g_aload_n (pc := 1) C dX1_newlyLitFrom_1 rfl rfl ?_
  refine g_get (pc := 2) (ref := "HexRooms") (ci := 1) (N := 11) C 0 rfl rfl hinX1 1 (by decide) (by decide +kernel) rfl rfl dX1_newlyLitFrom_2 ?_
  refine g_iload_n (pc := 5) C dX1_newlyLitFrom_5 rfl rfl ?_
  refine g_callVI (pc := 6) (As := [.ref (q 7), .int (iI r)]) (rest := []) C (c_X1_beamFrom_7 l K q S hn hf hh r (show 0 ≤ r ∧ r < S 0 10 by omega)) (cwV 2 C.hts gX1_newlyLitFrom_X1_beamFrom rfl rfl rfl (by decide +kernel) ⟨by decide, by decide⟩) 0 rfl rfl dX1_newlyLitFrom_6 rfl (Nat.le_of_ble_eq_true rfl) ⟨Nat.zero_le _, Nat.zero_le _⟩ (fun sn w hp => ?_)
  obtain ⟨hsn, b1, rfl, hb1⟩ := hp
  have hsn : sn = ((beam (S 0 10) (S 7) (S 8) r).length : Int) := hsn
  have hb1 : ∀ i, 0 ≤ i → i < sn → b1 i = lg (beam (S 0 10) (S 7) (S 8) r) i := hb1
  have hsl := beam_len (S 0 10) (S 7) (S 8) r
  refine g_istore_n (pc := 9) (lv' := [(2, .int (iI sn)), (0, .ref (q 0)), (1, .int (iI r))]) C dX1_newlyLitFrom_9 rfl (by decide) rfl ?_
  refine g_iconst (pc := 10) C dX1_newlyLitFrom_10 ?_
  refine g_istore_n (pc := 11) (lv' := [(3, .int (iI 0)), (2, .int (iI sn)), (0, .ref (q 0)), (1, .int (iI r))]) C dX1_newlyLitFrom_11 rfl (by decide) rfl ?_
  refine g_iconst (pc := 12) C dX1_newlyLitFrom_12 ?_
  refine g_istore (pc := 13) (lv' := [(4, .int (iI 0)), (3, .int (iI 0)), (2, .int (iI sn)), (0, .ref (q 0)), (1, .int (iI r))]) C dX1_newlyLitFrom_13 (by decide) rfl ?_
  have loop15 : ∀ (fu : Nat) (acc : Int) (i : Int), (0 ≤ i ∧ i ≤ sn) → (acc = sL (fun x => if S 9 x = 0 then 1 else 0) ((beam (S 0 10) (S 7) (S 8) r).take i.toNat)) → sn - i < (fu : Int) → hG p l e (rmL 5) s m args below meth c 5 K A 0 0 (QI K A below args s (fun z w => z = sL (fun x => if S 9 x = 0 then 1 else 0) (beam (S 0 10) (S 7) (S 8) r) ∧ ∃ b : Int → Int, w = wX K q (sA S 12 b))) 15 [(4, .int (iI i)), (3, .int (iI acc)), (2, .int (iI sn)), (0, .ref (q 0)), (1, .int (iI r))] [] (wX K q (sA S 12 b1)) := by
    intro fu
    induction fu with
    | zero =>
      intro acc i h1 h2 hm
      exact absurd hm (by omega)
    | succ fu ih15 =>
      intro acc i h1 h2 hm
      refine g_iload (pc := 15) C dX1_newlyLitFrom_15 rfl ?_
      refine g_iload_n (pc := 17) C dX1_newlyLitFrom_17 rfl rfl ?_
      refine g_icmp_ge (pc := 18) (tgt := 45) C dX1_newlyLitFrom_18 (by decide) (by omega) (by omega) (fun c1 => ?_) (fun c1 => ?_)
      · refine g_iload_n (pc := 45) C dX1_newlyLitFrom_45 rfl rfl ?_
        exact g_ireturn (pc := 46) C rfl dX1_newlyLitFrom_46 ⟨by rw [h2, sL_takeAll _ _ (by omega)], b1, rfl⟩
      · refine g_aload_n (pc := 21) C dX1_newlyLitFrom_21 rfl rfl ?_
        refine g_get (pc := 22) (ref := "HexRooms") (ci := 1) (N := 11) C 0 rfl rfl hinX1 3 (by decide) (by decide +kernel) rfl rfl dX1_newlyLitFrom_22 ?_
        refine g_aload_n (pc := 25) C dX1_newlyLitFrom_25 rfl rfl ?_
        refine g_get (pc := 26) (ref := "HexRooms") (ci := 1) (N := 11) C 0 rfl rfl hinX1 6 (by decide) (by decide +kernel) rfl rfl dX1_newlyLitFrom_26 ?_
        refine g_iload (pc := 29) C dX1_newlyLitFrom_29 rfl ?_
        refine g_iaload (pc := 31) (f := b1) C 12 rfl (by omega) dX1_newlyLitFrom_31 ?_
        have hx := bm_mem (S 0 10) (S 7) (S 8) hr 6 _ (lg_mem (l := beam (S 0 10) (S 7) (S 8) r) (i := i) (by omega))
        rw [← hb1 i (by omega) (by omega)] at hx
        refine g_iaload (pc := 32) (f := (S 9)) C 9 rfl (by omega) dX1_newlyLitFrom_32 ?_
        have bd2 := hL (b1 i) (by omega) (by omega)
        refine g_if_ne (pc := 33) (tgt := 39) C dX1_newlyLitFrom_33 (by decide) (by omega) (fun c3 => ?_) (fun c3 => ?_)
        · refine g_iinc (pc := 39) (lv' := [(4, .int (iI (i + 1))), (3, .int (iI acc)), (2, .int (iI sn)), (0, .ref (q 0)), (1, .int (iI r))]) C dX1_newlyLitFrom_39 rfl (by decide) rfl ?_
          refine g_goto (pc := 42) (tgt := 15) C dX1_newlyLitFrom_42 (by decide) ?_
          exact ih15 acc (i + 1) (by omega) (by
            rw [sL_take _ _ (i := i) (by omega), ← hb1 i (by omega) (by omega), ← h2]
            split <;> omega) (by omega)
        · refine g_iinc (pc := 36) (lv' := [(3, .int (iI (acc + 1))), (4, .int (iI i)), (2, .int (iI sn)), (0, .ref (q 0)), (1, .int (iI r))]) C dX1_newlyLitFrom_36 rfl (by decide) rfl ?_
          refine g_iinc (pc := 39) (lv' := [(4, .int (iI (i + 1))), (3, .int (iI (acc + 1))), (2, .int (iI sn)), (0, .ref (q 0)), (1, .int (iI r))]) C dX1_newlyLitFrom_39 rfl (by decide) rfl ?_
          refine g_goto (pc := 42) (tgt := 15) C dX1_newlyLitFrom_42 (by decide) ?_
          exact ih15 (acc + 1) (i + 1) (by omega) (by
            rw [sL_take _ _ (i := i) (by omega), ← hb1 i (by omega) (by omega), ← h2]
            split <;> omega) (by omega)
  exact loop15 (68) 0 0 (by omega) (by rw [sL_take0]) (by omega)

set_option maxHeartbeats 4000000 in
set_option maxRecDepth 100000 in
theorem c_X1_spreadFrom (l : Launch) (K : KK) (q : Nat → Nat) (S : Nat → Int → Int) (hn : 7 ≤ S 0 10 ∧ S 0 10 ≤ 91) (hf : ∀ j, 0 ≤ j → j < S 0 10 → 0 ≤ S 7 j ∧ S 7 j ≤ 2) (hh : ∀ j, 0 ≤ j → j < 546 → 0 ≤ S 8 j ∧ S 8 j ≤ 1) (hd : ∀ j, 0 ≤ j → j < S 0 10 → -1 ≤ S 13 j ∧ S 13 j ≤ 90) (a : Int) (ha : 0 ≤ a ∧ a < S 0 10) (h0 : S 13 a = -1) : hMV l yX1_spreadFrom wsX1_spreadFrom (rmL 4) K [.ref (q 0), .int (iI a)] (wX K q S) (fun w => ∃ (D u : Int → Int) (e : Int), w = wX K q (sA (sA S 13 D) 14 u) ∧ BI (S 0 10) (S 7) (S 8) a (S 13) D u e e) := by
  refine in_MV (cc := cX1_spreadFrom) (maxL := 7) (rt := none) (lv := [(0, .ref (q 0)), (1, .int (iI a))]) (by decide) rfl (Nat.le_of_ble_eq_true rfl) rfl ?_
  intro p e s m args below meth c A C
  have hinX1 : ∀ w ∈ wsX10, w ∈ wsX1_spreadFrom := by decide +kernel
  refine g_aload_n (pc := 0) C dX1_spreadFrom_0 rfl rfl ?_
  refine g_get (pc := 1) (ref := "HexRooms") (ci := 1) (N := 11) C 0 rfl rfl hinX1 7 (by decide) (by decide +kernel) rfl rfl dX1_spreadFrom_1 ?_
  refine g_iload_n (pc := 4) C dX1_spreadFrom_4 rfl rfl ?_
  refine g_iconst (pc := 5) C dX1_spreadFrom_5 ?_
  refine g_iastore (pc := 6) (f := (S 13)) (ws' := (wX K q (sA S 13 (fU (S 13) a 0)))) C 13 rfl (by omega) dX1_spreadFrom_6 rfl ?_
  refine g_aload_n (pc := 7) C dX1_spreadFrom_7 rfl rfl ?_
  refine g_get (pc := 8) (ref := "HexRooms") (ci := 1) (N := 11) C 0 rfl rfl hinX1 8 (by decide) (by decide +kernel) rfl rfl dX1_spreadFrom_8 ?_
  refine g_iconst (pc := 11) C dX1_spreadFrom_11 ?_
  refine g_iload_n (pc := 12) C dX1_spreadFrom_12 rfl rfl ?_
  refine g_iastore (pc := 13) (f := (S 14)) (ws' := (wX K q (sA (sA S 13 (fU (S 13) a 0)) 14 (fU (S 14) 0 a)))) C 14 rfl (by omega) dX1_spreadFrom_13 rfl ?_
  refine g_iconst (pc := 14) C dX1_spreadFrom_14 ?_
  refine g_istore_n (pc := 15) (lv' := [(2, .int (iI 1)), (0, .ref (q 0)), (1, .int (iI a))]) C dX1_spreadFrom_15 rfl (by decide) rfl ?_
  refine g_iconst (pc := 16) C dX1_spreadFrom_16 ?_
  refine g_istore_n (pc := 17) (lv' := [(3, .int (iI 0)), (2, .int (iI 1)), (0, .ref (q 0)), (1, .int (iI a))]) C dX1_spreadFrom_17 rfl (by decide) rfl ?_
  have loop18 : ∀ (fu : Nat) (D : Int → Int) (u : Int → Int) (e2 : Int) (i : Int), (BI (S 0 10) (S 7) (S 8) a (S 13) D u i e2) → (i ≤ S 0 10) → S 0 10 - i < (fu : Int) → hG p l e (rmL 4) s m args below meth c 7 K A 0 0 (QV K A below args s (fun w => ∃ (D u : Int → Int) (e : Int), w = wX K q (sA (sA S 13 D) 14 u) ∧ BI (S 0 10) (S 7) (S 8) a (S 13) D u e e)) 18 [(3, .int (iI i)), (2, .int (iI e2)), (0, .ref (q 0)), (1, .int (iI a))] [] (wX K q (sA (sA S 13 D) 14 u)) := by
    intro fu
    induction fu with
    | zero =>
      intro D u e2 i hB hin hm
      exact absurd hm (by omega)
    | succ fu ih18 =>
      intro D u e2 i hB hin hm
      have hk0 := BI_card hB
      have hk9 := hB.1
      refine g_iload_n (pc := 18) C dX1_spreadFrom_18 rfl rfl ?_
      refine g_iload_n (pc := 19) C dX1_spreadFrom_19 rfl rfl ?_
      refine g_icmp_ge (pc := 20) (tgt := 123) C dX1_spreadFrom_20 (by decide) (by omega) (by omega) (fun c1 => ?_) (fun c1 => ?_)
      · exact g_return (pc := 123) C rfl dX1_spreadFrom_123 ⟨D, u, e2, rfl, by rw [show i = e2 by omega] at hB; exact hB⟩
      · refine g_iload_n (pc := 23) C dX1_spreadFrom_23 rfl rfl ?_
        refine g_bipush (pc := 24) C dX1_spreadFrom_24 (by decide +kernel) ?_
        refine g_icmp_ge (pc := 26) (tgt := 123) C dX1_spreadFrom_26 (by decide) (by omega) (by omega) (fun c2 => ?_) (fun c2 => ?_)
        · exact absurd c2 (by omega)
        · refine g_aload_n (pc := 29) C dX1_spreadFrom_29 rfl rfl ?_
          refine g_get (pc := 30) (ref := "HexRooms") (ci := 1) (N := 11) C 0 rfl rfl hinX1 8 (by decide) (by decide +kernel) rfl rfl dX1_spreadFrom_30 ?_
          refine g_iload_n (pc := 33) C dX1_spreadFrom_33 rfl rfl ?_
          have hxi := (BI_in hB (t := i) (by omega) (by omega)).1
          refine g_iaload (pc := 34) (f := u) C 14 rfl (by omega) dX1_spreadFrom_34 ?_
          generalize hx : u i = x
          refine g_istore (pc := 35) (lv' := [(4, .int (iI x)), (3, .int (iI i)), (2, .int (iI e2)), (0, .ref (q 0)), (1, .int (iI a))]) C dX1_spreadFrom_35 (by decide) rfl ?_
          refine g_iconst (pc := 37) C dX1_spreadFrom_37 ?_
          refine g_istore (pc := 38) (lv' := [(5, .int (iI 0)), (4, .int (iI x)), (3, .int (iI i)), (2, .int (iI e2)), (0, .ref (q 0)), (1, .int (iI a))]) C dX1_spreadFrom_38 (by decide) rfl ?_
          have loop40 : ∀ (fu : Nat) (D2 : Int → Int) (u2 : Int → Int) (e3 : Int) (sd : Int), (BI (S 0 10) (S 7) (S 8) a (S 13) D2 u2 i e3) → (i < e3 ∧ 0 ≤ sd ∧ sd ≤ 6) → (u2 i = x) → (∀ s2, 0 ≤ s2 → s2 < sd → PRO (S 0 10) (S 7) (S 8) (S 13) D2 u2 i s2) → 6 - sd < (fu : Int) → hG p l e (rmL 4) s m args below meth c 7 K A 0 0 (QV K A below args s (fun w => ∃ (D u : Int → Int) (e : Int), w = wX K q (sA (sA S 13 D) 14 u) ∧ BI (S 0 10) (S 7) (S 8) a (S 13) D u e e)) 40 [(5, .int (iI sd)), (4, .int (iI x)), (3, .int (iI i)), (2, .int (iI e3)), (0, .ref (q 0)), (1, .int (iI a))] [] (wX K q (sA (sA S 13 D2) 14 u2)) := by
            intro fu
            induction fu with
            | zero =>
              intro D2 u2 e3 sd hB2 h3 hx2 h5 hm
              exact absurd hm (by omega)
            | succ fu ih40 =>
              intro D2 u2 e3 sd hB2 h3 hx2 h5 hm
              have hk1 := BI_card hB2
              have hk8 := hB2.1
              have hxr := BI_in hB2 (t := i) (by omega) h3.1
              rw [hx2] at hxr
              have hrg := BI_rng hB2 (by omega) hd
              refine g_iload (pc := 40) C dX1_spreadFrom_40 rfl ?_
              refine g_bipush (pc := 42) C dX1_spreadFrom_42 (by decide +kernel) ?_
              refine g_icmp_ge (pc := 44) (tgt := 117) C dX1_spreadFrom_44 (by decide) (by omega) (by omega) (fun c3 => ?_) (fun c3 => ?_)
              · refine g_iinc (pc := 117) (lv' := [(3, .int (iI (i + 1))), (5, .int (iI sd)), (4, .int (iI x)), (2, .int (iI e3)), (0, .ref (q 0)), (1, .int (iI a))]) C dX1_spreadFrom_117 rfl (by decide) rfl ?_
                refine g_goto (pc := 120) (tgt := 18) C dX1_spreadFrom_120 (by decide) ?_
                refine g_sub (lv' := [(3, .int (iI (i + 1))), (2, .int (iI e3)), (0, .ref (q 0)), (1, .int (iI a))]) [0, 3, 4, 5] rfl ?_
                have hk := BI_card hB2
                exact ih18 D2 u2 e3 (i + 1) (BI_next hB2 h3.1 (fun s2 h6 h7 => h5 s2 h6 (by omega))) (by omega) (by omega)
              · refine g_aload_n (pc := 47) C dX1_spreadFrom_47 rfl rfl ?_
                refine g_aload_n (pc := 48) C dX1_spreadFrom_48 rfl rfl ?_
                refine g_get (pc := 49) (ref := "HexRooms") (ci := 1) (N := 11) C 0 rfl rfl hinX1 1 (by decide) (by decide +kernel) rfl rfl dX1_spreadFrom_49 ?_
                refine g_iload (pc := 52) C dX1_spreadFrom_52 rfl ?_
                refine g_iload (pc := 54) C dX1_spreadFrom_54 rfl ?_
                refine g_callVI (pc := 56) (As := [.ref (q 7), .int (iI x), .int (iI sd)]) (rest := []) C (c_X1_onward_7 l K q (sA (sA S 13 D2) 14 u2) hn hf hh x sd (by omega) (by omega)) (cwV 3 C.hts gX1_spreadFrom_X1_onward rfl rfl rfl (by decide +kernel) ⟨by decide, by decide⟩) 0 rfl rfl dX1_spreadFrom_56 rfl (Nat.le_of_ble_eq_true rfl) ⟨Nat.zero_le _, Nat.zero_le _⟩ (fun z w hp => ?_)
                obtain ⟨hz, rfl⟩ := hp
                have hz : z = ON (S 0 10) (S 7) (S 8) x sd := hz
                subst hz
                have hb := ON_b (S 0 10) (S 7) (S 8) x sd
                obtain ⟨y, hy⟩ : ∃ y, y = ON (S 0 10) (S 7) (S 8) x sd := ⟨_, rfl⟩
                rw [← hy] at hb ⊢
                refine g_istore (pc := 59) (lv' := [(6, .int (iI y)), (5, .int (iI sd)), (4, .int (iI x)), (3, .int (iI i)), (2, .int (iI e3)), (0, .ref (q 0)), (1, .int (iI a))]) C dX1_spreadFrom_59 (by decide) rfl ?_
                refine g_iload (pc := 61) C dX1_spreadFrom_61 rfl ?_
                refine g_iconst (pc := 63) C dX1_spreadFrom_63 ?_
                refine g_icmp_eq (pc := 64) (tgt := 111) C dX1_spreadFrom_64 (by decide) (by omega) (by omega) (fun c4 => ?_) (fun c4 => ?_)
                · refine g_iinc (pc := 111) (lv' := [(5, .int (iI (sd + 1))), (6, .int (iI y)), (4, .int (iI x)), (3, .int (iI i)), (2, .int (iI e3)), (0, .ref (q 0)), (1, .int (iI a))]) C dX1_spreadFrom_111 rfl (by decide) rfl ?_
                  refine g_goto (pc := 114) (tgt := 40) C dX1_spreadFrom_114 (by decide) ?_
                  refine g_sub (lv' := [(5, .int (iI (sd + 1))), (4, .int (iI x)), (3, .int (iI i)), (2, .int (iI e3)), (0, .ref (q 0)), (1, .int (iI a))]) [0, 2, 3, 4, 5, 6] rfl ?_
                  exact ih40 D2 u2 e3 (sd + 1) hB2 (by omega) hx2 (fun s2 h6 h7 => by
                    by_cases g : s2 = sd
                    · rw [g]
                      refine BI_skip hB2 h3.1 ?_
                      rw [hx2, ← hy]
                      omega
                    · exact h5 s2 h6 (by omega)) (by omega)
                · refine g_aload_n (pc := 67) C dX1_spreadFrom_67 rfl rfl ?_
                  refine g_get (pc := 68) (ref := "HexRooms") (ci := 1) (N := 11) C 0 rfl rfl hinX1 7 (by decide) (by decide +kernel) rfl rfl dX1_spreadFrom_68 ?_
                  refine g_iload (pc := 71) C dX1_spreadFrom_71 rfl ?_
                  refine g_iaload (pc := 73) (f := D2) C 13 rfl (by omega) dX1_spreadFrom_73 ?_
                  have bd5 := hrg y (by omega) (by omega)
                  refine g_iconst (pc := 74) C dX1_spreadFrom_74 ?_
                  refine g_icmp_ne (pc := 75) (tgt := 111) C dX1_spreadFrom_75 (by decide) (by omega) (by omega) (fun c6 => ?_) (fun c6 => ?_)
                  · refine g_iinc (pc := 111) (lv' := [(5, .int (iI (sd + 1))), (6, .int (iI y)), (4, .int (iI x)), (3, .int (iI i)), (2, .int (iI e3)), (0, .ref (q 0)), (1, .int (iI a))]) C dX1_spreadFrom_111 rfl (by decide) rfl ?_
                    refine g_goto (pc := 114) (tgt := 40) C dX1_spreadFrom_114 (by decide) ?_
                    refine g_sub (lv' := [(5, .int (iI (sd + 1))), (4, .int (iI x)), (3, .int (iI i)), (2, .int (iI e3)), (0, .ref (q 0)), (1, .int (iI a))]) [0, 2, 3, 4, 5, 6] rfl ?_
                    exact ih40 D2 u2 e3 (sd + 1) hB2 (by omega) hx2 (fun s2 h6 h7 => by
                      by_cases g : s2 = sd
                      · rw [g]
                        refine BI_skip hB2 h3.1 ?_
                        rw [hx2, ← hy]
                        omega
                      · exact h5 s2 h6 (by omega)) (by omega)
                  · have V := BI_visit hB2 h3.1 (s := sd) (by omega) (by rw [hx2, ← hy]; omega) (by rw [hx2, ← hy]; omega)
                    rw [hx2, ← hy] at V
                    refine g_iload_n (pc := 78) C dX1_spreadFrom_78 rfl rfl ?_
                    refine g_bipush (pc := 79) C dX1_spreadFrom_79 (by decide +kernel) ?_
                    refine g_icmp_ge (pc := 81) (tgt := 111) C dX1_spreadFrom_81 (by decide) (by omega) (by omega) (fun c7 => ?_) (fun c7 => ?_)
                    · exact absurd (BI_card V.1) (by omega)
                    · refine g_aload_n (pc := 84) C dX1_spreadFrom_84 rfl rfl ?_
                      refine g_get (pc := 85) (ref := "HexRooms") (ci := 1) (N := 11) C 0 rfl rfl hinX1 7 (by decide) (by decide +kernel) rfl rfl dX1_spreadFrom_85 ?_
                      refine g_iload (pc := 88) C dX1_spreadFrom_88 rfl ?_
                      refine g_aload_n (pc := 90) C dX1_spreadFrom_90 rfl rfl ?_
                      refine g_get (pc := 91) (ref := "HexRooms") (ci := 1) (N := 11) C 0 rfl rfl hinX1 7 (by decide) (by decide +kernel) rfl rfl dX1_spreadFrom_91 ?_
                      refine g_iload (pc := 94) C dX1_spreadFrom_94 rfl ?_
                      refine g_iaload (pc := 96) (f := D2) C 13 rfl (by omega) dX1_spreadFrom_96 ?_
                      have bd8 := hrg x (by omega) (by omega)
                      refine g_iconst (pc := 97) C dX1_spreadFrom_97 ?_
                      refine g_iadd (pc := 98) C dX1_spreadFrom_98 ?_
                      refine g_iastore (pc := 99) (f := D2) (ws' := (wX K q (sA (sA S 14 u2) 13 (fU D2 y ((D2 x) + 1))))) C 13 rfl (by omega) dX1_spreadFrom_99 rfl ?_
                      refine g_aload_n (pc := 100) C dX1_spreadFrom_100 rfl rfl ?_
                      refine g_get (pc := 101) (ref := "HexRooms") (ci := 1) (N := 11) C 0 rfl rfl hinX1 8 (by decide) (by decide +kernel) rfl rfl dX1_spreadFrom_101 ?_
                      refine g_iload_n (pc := 104) C dX1_spreadFrom_104 rfl rfl ?_
                      refine g_iload (pc := 105) C dX1_spreadFrom_105 rfl ?_
                      refine g_iastore (pc := 107) (f := u2) (ws' := (wX K q (sA (sA S 13 (fU D2 y ((D2 x) + 1))) 14 (fU u2 e3 y)))) C 14 rfl (by omega) dX1_spreadFrom_107 rfl ?_
                      refine g_iinc (pc := 108) (lv' := [(2, .int (iI (e3 + 1))), (6, .int (iI y)), (5, .int (iI sd)), (4, .int (iI x)), (3, .int (iI i)), (0, .ref (q 0)), (1, .int (iI a))]) C dX1_spreadFrom_108 rfl (by decide) rfl ?_
                      refine g_iinc (pc := 111) (lv' := [(5, .int (iI (sd + 1))), (2, .int (iI (e3 + 1))), (6, .int (iI y)), (4, .int (iI x)), (3, .int (iI i)), (0, .ref (q 0)), (1, .int (iI a))]) C dX1_spreadFrom_111 rfl (by decide) rfl ?_
                      refine g_goto (pc := 114) (tgt := 40) C dX1_spreadFrom_114 (by decide) ?_
                      refine g_sub (lv' := [(5, .int (iI (sd + 1))), (4, .int (iI x)), (3, .int (iI i)), (2, .int (iI (e3 + 1))), (0, .ref (q 0)), (1, .int (iI a))]) [0, 3, 4, 1, 5, 6] rfl ?_
                      exact ih40 (fU D2 y ((D2 x) + 1)) (fU u2 e3 y) (e3 + 1) (sd + 1) V.1 (by omega) (by rw [fU_ne _ _ _ (by omega)]; exact hx2) (fun s2 h6 h7 => by
                        by_cases g : s2 = sd
                        · rw [g]; exact V.2.2
                        · exact V.2.1 s2 h6 (by omega) (h5 s2 h6 (by omega))) (by omega)
          exact loop40 (7) D u e2 0 hB (by omega) hx (fun s2 h6 h7 => by omega) (by omega)
  exact loop18 (92) (fU (S 13) a 0) (fU (S 14) 0 a) 1 0 (BI_init ha h0) (by omega) (by omega)
