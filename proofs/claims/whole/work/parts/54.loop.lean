set_option maxHeartbeats 400000 in
set_option maxRecDepth 100000 in
theorem law_loop {p : Program} {e : Env} {s : State} {m : MethodId} {below : List Frame} {meth : Method} {c : Code} (l : Launch) (hlt : l.stackTraces = false) {b L : Nat} {xs : Nat → Int32} (hL : L ≤ 2048) (K : KK) (C0 : hCx p s m #[.ref b] meth c cL_law 9 ret wsL_law RL K (lA s)) (hX : va_X b L xs s s.heap) (hbl : b < s.heap.size) {qm q : Nat → Nat} {o : Nat} : ∀ (fu : Nat) (d0 : Drawn) (i : Int) (k n : Nat) (g : Nat → Int64) (S T : Nat → Int → Int), s.drawn.sameBut d0 lw_cs → LI S T → (0 ≤ i ∧ i ≤ L) → (L : Int) - i < 4 * (fu : Int) → k + fu ≤ 1055 → n + 6 * fu ≤ 11764 → hG p l e room_1 (s.setDrawn d0) m #[.ref b] below meth c 9 K (lA s) k n (lw_Z below #[.ref b] s) 23 [(4, .int (iI i)), (3, .ref o), (2, .ref (qm 0)), (1, .ref (q 0)), (0, .ref b)] [] (lwW K qm T o g q S) := by
  intro fu
  induction fu with
  | zero =>
    intro d0 i k n g S T hd0 I hi hm hk hn
    exact absurd hm (by omega)
  | succ fu ih =>
    intro d0 i k n g S T hd0 I hi hm hk hn
    have C := C0.dr d0
    have hbA : ¬ lA s b := Nat.not_le.mpr hbl
    refine g_iload (pc := 23) C dL_law_23 rfl ?_
    refine g_aload_n (pc := 25) C dL_law_25 rfl rfl ?_
    refine g_slen (pc := 26) C hX hbl hbA (by omega) dL_law_26 ?_
    refine g_iconst (pc := 27) C dL_law_27 ?_
    refine g_isub (pc := 28) C dL_law_28 ?_
    refine g_icmp_gt (pc := 29) (tgt := 1421) C dL_law_29 (by decide) (by omega) (by omega) (fun c1 => ?_) (fun c1 => ?_)
    · exact lw_end C0 hd0 (by omega) (by omega)
    · have hE : ∀ (S2 T2 : Nat → Int → Int) (g2 : Nat → Int64) (k2 n2 : Nat) (d1 : Drawn), s.drawn.sameBut d1 lw_cs → LI S2 T2 → k2 ≤ k + 1 → n2 ≤ n + 6 → hG p l e room_1 (s.setDrawn d1) m #[.ref b] below meth c 9 K (lA s) k2 n2 (lw_Z below #[.ref b] s) 1415 [(4, .int (iI i)), (3, .ref o), (2, .ref (qm 0)), (1, .ref (q 0)), (0, .ref b)] [] (lwW K qm T2 o g2 q S2) := by
        intro S2 T2 g2 k2 n2 d1 hd1 hLI hk2 hn2
        refine g_iinc (pc := 1415) (lv' := [(4, .int (iI (i + 4))), (3, .ref o), (2, .ref (qm 0)), (1, .ref (q 0)), (0, .ref b)]) (C0.dr d1) dL_law_1415 rfl (by decide) rfl ?_
        refine g_goto (pc := 1418) (tgt := 23) (C0.dr d1) dL_law_1418 (by decide) ?_
        exact ih d1 (i + 4) k2 n2 g2 S2 T2 hd1 hLI (by omega) (by omega) (by omega) (by omega)
      refine g_aload_n (pc := 32) C dL_law_32 rfl rfl ?_
      refine g_iload (pc := 33) C dL_law_33 rfl ?_
      refine g_sld (pc := 35) C hX hbl hbA (by omega) dL_law_35 ?_
      refine g_bipush (pc := 36) C dL_law_36 (by decide +kernel) ?_
      refine g_iand (pc := 38) C dL_law_38 (fun z hz0 hz1 => ?_)
      rcases (by omega : z = 0 ∨ z = 1 ∨ z = 2 ∨ z = 3 ∨ z = 4 ∨ z = 5 ∨ z = 6 ∨ z = 7 ∨ z = 8 ∨ z = 9 ∨ z = 10 ∨ z = 11 ∨ z = 12 ∨ z = 13 ∨ z = 14 ∨ z = 15 ∨ z = 16 ∨ z = 17 ∨ z = 18 ∨ z = 19 ∨ z = 20 ∨ z = 21 ∨ 22 ≤ z) with h | h | h | h | h | h | h | h | h | h | h | h | h | h | h | h | h | h | h | h | h | h | h
      · subst h
        refine g_tsw (pc := 39) (tgt := 140) C dL_law_39 (by omega) (by omega) (by omega) rfl (by decide) ?_
        exact lc_setRings l hlt hL K C0 hX hbl hd0 I (by omega) ⟨by omega, by omega⟩ hE
      · subst h
        refine g_tsw (pc := 39) (tgt := 196) C dL_law_39 (by omega) (by omega) (by omega) rfl (by decide) ?_
        exact lc_put l hlt hL K C0 hX hbl hd0 I (by omega) ⟨by omega, by omega⟩ hE
      · subst h
        refine g_tsw (pc := 39) (tgt := 264) C dL_law_39 (by omega) (by omega) (by omega) rfl (by decide) ?_
        exact lc_shut l hlt hL K C0 hX hbl hd0 I (by omega) ⟨by omega, by omega⟩ hE
      · subst h
        refine g_tsw (pc := 39) (tgt := 367) C dL_law_39 (by omega) (by omega) (by omega) rfl (by decide) ?_
        exact lc_turn l hlt hL K C0 hX hbl hd0 I (by omega) ⟨by omega, by omega⟩ hE
      · subst h
        refine g_tsw (pc := 39) (tgt := 435) C dL_law_39 (by omega) (by omega) (by omega) rfl (by decide) ?_
        exact lc_turnAll l hlt hL K C0 hX hbl hd0 I (by omega) ⟨by omega, by omega⟩ hE
      · subst h
        refine g_tsw (pc := 39) (tgt := 491) C dL_law_39 (by omega) (by omega) (by omega) rfl (by decide) ?_
        exact lc_at l hlt hL K C0 hX hbl hd0 I (by omega) ⟨by omega, by omega⟩ hE
      · subst h
        refine g_tsw (pc := 39) (tgt := 528) C dL_law_39 (by omega) (by omega) (by omega) rfl (by decide) ?_
        exact lc_about l hlt hL K C0 hX hbl hd0 I (by omega) ⟨by omega, by omega⟩ hE
      · subst h
        refine g_tsw (pc := 39) (tgt := 596) C dL_law_39 (by omega) (by omega) (by omega) rfl (by decide) ?_
        exact lc_beside l hlt hL K C0 hX hbl hd0 I (by omega) ⟨by omega, by omega⟩ hE
      · subst h
        refine g_tsw (pc := 39) (tgt := 664) C dL_law_39 (by omega) (by omega) (by omega) rfl (by decide) ?_
        exact lc_isShut l hlt hL K C0 hX hbl hd0 I (by omega) ⟨by omega, by omega⟩ hE
      · subst h
        refine g_tsw (pc := 39) (tgt := 739) C dL_law_39 (by omega) (by omega) (by omega) rfl (by decide) ?_
        exact lc_far l hlt hL K C0 hX hbl hd0 I (by omega) ⟨by omega, by omega⟩ hE
      · subst h
        refine g_tsw (pc := 39) (tgt := 807) C dL_law_39 (by omega) (by omega) (by omega) rfl (by decide) ?_
        exact lc_sees l hlt hL K C0 hX hbl hd0 I (by omega) ⟨by omega, by omega⟩ hE
      · subst h
        refine g_tsw (pc := 39) (tgt := 882) C dL_law_39 (by omega) (by omega) (by omega) rfl (by decide) ?_
        exact lc_way l hlt hL K C0 hX hbl hd0 I (by omega) ⟨by omega, by omega⟩ hE
      · subst h
        refine g_tsw (pc := 39) (tgt := 950) C dL_law_39 (by omega) (by omega) (by omega) rfl (by decide) ?_
        exact lc_side l hlt hL K C0 hX hbl hd0 I (by omega) ⟨by omega, by omega⟩ hE
      · subst h
        refine g_tsw (pc := 39) (tgt := 1018) C dL_law_39 (by omega) (by omega) (by omega) rfl (by decide) ?_
        exact lc_reach l hlt hL K C0 hX hbl hd0 I (by omega) ⟨by omega, by omega⟩ hE
      · subst h
        refine g_tsw (pc := 39) (tgt := 1086) C dL_law_39 (by omega) (by omega) (by omega) rfl (by decide) ?_
        exact lc_ring l hlt hL K C0 hX hbl hd0 I (by omega) ⟨by omega, by omega⟩ hE
      · subst h
        refine g_tsw (pc := 39) (tgt := 1154) C dL_law_39 (by omega) (by omega) (by omega) rfl (by decide) ?_
        exact lc_count l hlt hL K C0 hX hbl hd0 I (by omega) ⟨by omega, by omega⟩ hE
      · subst h
        refine g_tsw (pc := 39) (tgt := 1210) C dL_law_39 (by omega) (by omega) (by omega) rfl (by decide) ?_
        exact lc_sixthsToSame l hlt hL K C0 hX hbl hd0 I (by omega) ⟨by omega, by omega⟩ hE
      · subst h
        refine g_tsw (pc := 39) (tgt := 1223) C dL_law_39 (by omega) (by omega) (by omega) rfl (by decide) ?_
        exact lc_would l hlt hL K C0 hX hbl hd0 I (by omega) ⟨by omega, by omega⟩ hE
      · subst h
        refine g_tsw (pc := 39) (tgt := 1291) C dL_law_39 (by omega) (by omega) (by omega) rfl (by decide) ?_
        exact lc_advise l hlt hL K C0 hX hbl hd0 I (by omega) ⟨by omega, by omega⟩ hE
      · subst h
        refine g_tsw (pc := 39) (tgt := 1347) C dL_law_39 (by omega) (by omega) (by omega) rfl (by decide) ?_
        exact lc_best l hlt hL K C0 hX hbl hd0 I (by omega) ⟨by omega, by omega⟩ hE
      · subst h
        refine g_tsw (pc := 39) (tgt := 1360) C dL_law_39 (by omega) (by omega) (by omega) rfl (by decide) ?_
        exact lc_mean l hlt hL K C0 hX hbl hd0 I (by omega) ⟨by omega, by omega⟩ hE
      · subst h
        refine g_tsw (pc := 39) (tgt := 1401) C dL_law_39 (by omega) (by omega) (by omega) rfl (by decide) ?_
        exact lc_digest l hlt hL K C0 hX hbl hd0 I (by omega) ⟨by omega, by omega⟩ hE
      · refine g_tswD (pc := 39) (tgt := 1415) C dL_law_39 (by omega) (by omega) (by decide) ?_
        exact hE S T g k n d0 hd0 I (by omega) (by omega)
