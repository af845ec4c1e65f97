set_option maxHeartbeats 400000 in
set_option maxRecDepth 100000 in
theorem lc_put {p : Program} {e : Env} {s : State} {m : MethodId} {below : List Frame} {meth : Method} {c : Code} (l : Launch) (hlt : l.stackTraces = false) {b L : Nat} {xs : Nat → Int32} (hL : L ≤ 2048) (K : KK) (C0 : hCx p s m #[.ref b] meth c cL_law 9 ret wsL_law RL K (lA s)) (hX : va_X b L xs s s.heap) (hbl : b < s.heap.size) {d0 : Drawn} (hd0 : s.drawn.sameBut d0 lw_cs) {i : Int} {k n : Nat} {qm q : Nat → Nat} {o : Nat} {g : Nat → Int64} {S T : Nat → Int → Int} (I : LI S T) (hi : 0 ≤ i ∧ i + 4 ≤ L) (hkn : k + 1 ≤ 1054 ∧ n + 6 ≤ 11758)
    (hE : ∀ (S2 T2 : Nat → Int → Int) (g2 : Nat → Int64) (k2 n2 : Nat) (d1 : Drawn), s.drawn.sameBut d1 lw_cs → LI S2 T2 → k2 ≤ k + 1 → n2 ≤ n + 6 → hG p l e room_1 (s.setDrawn d1) m #[.ref b] below meth c 9 K (lA s) k2 n2 (lw_Z below #[.ref b] s) 1415 [(4, .int (iI i)), (3, .ref o), (2, .ref (qm 0)), (1, .ref (q 0)), (0, .ref b)] [] (lwW K qm T2 o g2 q S2)) : hG p l e room_1 (s.setDrawn d0) m #[.ref b] below meth c 9 K (lA s) k n (lw_Z below #[.ref b] s) 196 [(4, .int (iI i)), (3, .ref o), (2, .ref (qm 0)), (1, .ref (q 0)), (0, .ref b)] [] (lwW K qm T o g q S) := by
  have C := C0.dr d0
  have hbA : ¬ lA s b := Nat.not_le.mpr hbl
  have hHT := I.2.2.1
  have hf := I.hf
  have hh := I.hh
  have hY := I.Y
  refine g_aload_n (pc := 196) C dL_law_196 rfl rfl ?_
  refine g_aload_n (pc := 197) C dL_law_197 rfl rfl ?_
  refine g_iload (pc := 198) C dL_law_198 rfl ?_
  refine g_iconst (pc := 200) C dL_law_200 ?_
  refine g_iadd (pc := 201) C dL_law_201 ?_
  refine g_sld (pc := 202) C hX hbl hbA (by omega) dL_law_202 ?_
  refine g_aload_n (pc := 203) C dL_law_203 rfl rfl ?_
  refine g_iload (pc := 204) C dL_law_204 rfl ?_
  refine g_iconst (pc := 206) C dL_law_206 ?_
  refine g_iadd (pc := 207) C dL_law_207 ?_
  refine g_sld (pc := 208) C hX hbl hbA (by omega) dL_law_208 ?_
  refine g_aload_n (pc := 209) C dL_law_209 rfl rfl ?_
  refine g_callSHF (pc := 210) (wc := (o, aJ K 1 g) :: wX K q S) (wr := wM K qm T) (As := [.ref (q 0), .int (iI (xI xs (i + 1))), .int (iI (xI xs (i + 2))), .ref o]) (rest := []) C [11, 12, 13, 14, 15, 16, 17, 18, 19, 20, 21, 22, 23, 24, 25, 26] [0, 1, 2, 3, 4, 5, 6, 7, 8, 9, 10] rfl rfl (by decide) (by decide) (by decide) (h_put l hlt K q S I.1 I.2.1 o g (xI xs (i + 1)) (xI xs (i + 2)) (xI_b xs _) (xI_b xs _)) (vx_cwSW 4 C.hts gL_law_L_put rfl rfl rfl ⟨by decide, by decide, by decide +kernel⟩ ⟨by decide, by decide⟩) dL_law_210 rfl (Nat.le_of_ble_eq_true rfl) hkn (fun z w hp => ?_)
  obtain ⟨g2, S2, rfl, hR⟩ := hp
  refine g_istore (pc := 213) (lv' := [(5, .int (iI z)), (4, .int (iI i)), (3, .ref o), (2, .ref (qm 0)), (1, .ref (q 0)), (0, .ref b)]) C dL_law_213 (by decide) rfl ?_
  refine g_aload_n (pc := 215) C dL_law_215 rfl rfl ?_
  refine g_aload_n (pc := 216) C dL_law_216 rfl rfl ?_
  refine g_iload (pc := 217) C dL_law_217 rfl ?_
  refine g_iconst (pc := 219) C dL_law_219 ?_
  refine g_iadd (pc := 220) C dL_law_220 ?_
  refine g_sld (pc := 221) C hX hbl hbA (by omega) dL_law_221 ?_
  refine g_aload_n (pc := 222) C dL_law_222 rfl rfl ?_
  refine g_iload (pc := 223) C dL_law_223 rfl ?_
  refine g_iconst (pc := 225) C dL_law_225 ?_
  refine g_iadd (pc := 226) C dL_law_226 ?_
  refine g_sld (pc := 227) C hX hbl hbA (by omega) dL_law_227 ?_
  refine g_callVIF (pc := 228) (wc := wM K qm T) (wr := (o, aJ K 1 g2) :: wX K q S2) (As := [.int (iI (xI xs (i + 1))), .int (iI (xI xs (i + 2)))]) (rest := []) C [0, 1, 2, 3, 4, 5, 6, 7, 8, 9, 10] [11, 12, 13, 14, 15, 16, 17, 18, 19, 20, 21, 22, 23, 24, 25, 26] rfl rfl (by decide) (by decide) (by decide) (c_X2_put l K qm T hHT hf hh (xI xs (i + 1)) (xI xs (i + 2)) (xI_b xs _) (xI_b xs _)) (cwV 2 C.hts gL_law_X2_put rfl rfl rfl (by decide +kernel) ⟨by decide, by decide⟩) 0 rfl rfl dL_law_228 rfl (Nat.le_of_ble_eq_true rfl) hkn (fun bb w mp => ?_)
  obtain ⟨T2, rfl, hLI, hT0, hzr, hg⟩ := pair_put I hR mp
  refine g_perm [16, 17, 18, 19, 20, 21, 22, 23, 24, 25, 26, 0, 1, 2, 3, 4, 5, 6, 7, 8, 9, 10, 11, 12, 13, 14, 15] (by decide) (ws' := lwW K qm T2 o g2 q S2) rfl ?_
  refine g_istore (pc := 231) (lv' := [(6, .int (iI bb)), (5, .int (iI z)), (4, .int (iI i)), (3, .ref o), (2, .ref (qm 0)), (1, .ref (q 0)), (0, .ref b)]) C dL_law_231 (by decide) rfl ?_
  refine g_aload_n (pc := 233) C dL_law_233 rfl rfl ?_
  refine g_callVIF (pc := 234) (wc := wM K qm T2) (wr := (o, aJ K 1 g2) :: wX K q S2) (As := []) (rest := []) C [0, 1, 2, 3, 4, 5, 6, 7, 8, 9, 10] [11, 12, 13, 14, 15, 16, 17, 18, 19, 20, 21, 22, 23, 24, 25, 26] rfl rfl (by decide) (by decide) (by decide) (c_X2_thrown l K qm T2) (cwV 0 C.hts gL_law_X2_thrown rfl rfl rfl (by decide +kernel) ⟨by decide, by decide⟩) 0 rfl rfl dL_law_234 rfl (Nat.le_of_ble_eq_true rfl) hkn (fun tz w tp => ?_)
  obtain ⟨htz, rfl⟩ := tp
  rw [htz.trans hT0]
  refine g_perm [16, 17, 18, 19, 20, 21, 22, 23, 24, 25, 26, 0, 1, 2, 3, 4, 5, 6, 7, 8, 9, 10, 11, 12, 13, 14, 15] (by decide) (ws' := lwW K qm T2 o g2 q S2) rfl ?_
  refine g_iload (pc := 237) C dL_law_237 rfl ?_
  refine g_icmp_eqS (pc := 239) (tgt := 244) C dL_law_239 (by decide) ?_
  refine g_iload (pc := 244) C dL_law_244 rfl ?_
  refine g_if_ne (pc := 246) (tgt := 261) C dL_law_246 (by decide) (by omega) (fun c1 => ?_) (fun c1 => ?_)
  · skip
    refine g_goto (pc := 261) (tgt := 1415) (C0.dr d0) dL_law_261 (by decide) ?_
    refine g_sub (lv' := [(4, .int (iI i)), (3, .ref o), (2, .ref (qm 0)), (1, .ref (q 0)), (0, .ref b)]) [2, 3, 4, 5, 6] rfl ?_
    exact hE S2 T2 g2 (k + 1) (n + 6) d0 hd0 hLI (by omega) (by omega)
  · have hg1 := hg (by omega)
    refine g_aload_n (pc := 249) C dL_law_249 rfl rfl ?_
    refine g_iconst (pc := 250) C dL_law_250 ?_
    refine g_laload (pc := 251) C 11 rfl (by decide) dL_law_251 ?_
    refine g_iload (pc := 252) C dL_law_252 rfl ?_
    refine g_i2lr (pc := 254) C dL_law_254 ?_
    rw [show g2 (0 : Int).toNat = (iI bb).toInt64 from hg1]
    refine g_lcmp_same (pc := 255) C dL_law_255 ?_
    refine g_if_eq (pc := 256) (tgt := 261) C dL_law_256 (by decide) (by decide) (fun _ => ?_) (fun cn => absurd rfl cn)
    refine g_goto (pc := 261) (tgt := 1415) (C0.dr d0) dL_law_261 (by decide) ?_
    refine g_sub (lv' := [(4, .int (iI i)), (3, .ref o), (2, .ref (qm 0)), (1, .ref (q 0)), (0, .ref b)]) [2, 3, 4, 5, 6] rfl ?_
    exact hE S2 T2 g2 (k + 1) (n + 6) d0 hd0 hLI (by omega) (by omega)
set_option maxHeartbeats 400000 in
set_option maxRecDepth 100000 in
theorem lc_at {p : Program} {e : Env} {s : State} {m : MethodId} {below : List Frame} {meth : Method} {c : Code} (l : Launch) (hlt : l.stackTraces = false) {b L : Nat} {xs : Nat → Int32} (hL : L ≤ 2048) (K : KK) (C0 : hCx p s m #[.ref b] meth c cL_law 9 ret wsL_law RL K (lA s)) (hX : va_X b L xs s s.heap) (hbl : b < s.heap.size) {d0 : Drawn} (hd0 : s.drawn.sameBut d0 lw_cs) {i : Int} {k n : Nat} {qm q : Nat → Nat} {o : Nat} {g : Nat → Int64} {S T : Nat → Int → Int} (I : LI S T) (hi : 0 ≤ i ∧ i + 4 ≤ L) (hkn : k + 1 ≤ 1054 ∧ n + 6 ≤ 11758)
    (hE : ∀ (S2 T2 : Nat → Int → Int) (g2 : Nat → Int64) (k2 n2 : Nat) (d1 : Drawn), s.drawn.sameBut d1 lw_cs → LI S2 T2 → k2 ≤ k + 1 → n2 ≤ n + 6 → hG p l e room_1 (s.setDrawn d1) m #[.ref b] below meth c 9 K (lA s) k2 n2 (lw_Z below #[.ref b] s) 1415 [(4, .int (iI i)), (3, .ref o), (2, .ref (qm 0)), (1, .ref (q 0)), (0, .ref b)] [] (lwW K qm T2 o g2 q S2)) : hG p l e room_1 (s.setDrawn d0) m #[.ref b] below meth c 9 K (lA s) k n (lw_Z below #[.ref b] s) 491 [(4, .int (iI i)), (3, .ref o), (2, .ref (qm 0)), (1, .ref (q 0)), (0, .ref b)] [] (lwW K qm T o g q S) := by
  have C := C0.dr d0
  have hbA : ¬ lA s b := Nat.not_le.mpr hbl
  have hHT := I.2.2.1
  have hf := I.hf
  have hh := I.hh
  have hY := I.Y
  have hn1 := I.2.2.2.2.1
  have hk1 := I.2.2.2.1
  refine g_aload_n (pc := 491) C dL_law_491 rfl rfl ?_
  refine g_aload_n (pc := 492) C dL_law_492 rfl rfl ?_
  refine g_iload (pc := 493) C dL_law_493 rfl ?_
  refine g_iconst (pc := 495) C dL_law_495 ?_
  refine g_iadd (pc := 496) C dL_law_496 ?_
  refine g_sld (pc := 497) C hX hbl hbA (by omega) dL_law_497 ?_
  refine g_aload_n (pc := 498) C dL_law_498 rfl rfl ?_
  refine g_iload (pc := 499) C dL_law_499 rfl ?_
  refine g_iconst (pc := 501) C dL_law_501 ?_
  refine g_iadd (pc := 502) C dL_law_502 ?_
  refine g_sld (pc := 503) C hX hbl hbA (by omega) dL_law_503 ?_
  refine g_callVIF (pc := 504) (wc := wX K q S) (wr := wM K qm T ++ [(o, aJ K 1 g)]) (As := [.int (iI (xI xs (i + 1))), .int (iI (xI xs (i + 2)))]) (rest := []) C [12, 13, 14, 15, 16, 17, 18, 19, 20, 21, 22, 23, 24, 25, 26] [0, 1, 2, 3, 4, 5, 6, 7, 8, 9, 10, 11] rfl rfl (by decide) (by decide) (by decide) (c_X1_at l K q S I.1 I.2.1 (xI xs (i + 1)) (xI xs (i + 2)) (xI_b xs _) (xI_b xs _)) (cwV 2 C.hts gL_law_X1_at rfl rfl rfl (by decide +kernel) ⟨by decide, by decide⟩) 0 rfl rfl dL_law_504 rfl (Nat.le_of_ble_eq_true rfl) ⟨by show k ≤ 1054; omega, by show n ≤ 11758; omega⟩ (fun za w hp => ?_)
  obtain ⟨hza, S2, rfl, hU⟩ := hp
  refine g_perm [0, 1, 2, 3, 4, 5, 6, 7, 8, 9, 10, 11, 12, 13, 14, 15, 16, 17, 18, 19, 20, 21, 22, 23, 24, 25, 26] (by decide) (ws' := lwW K qm T o g q S2) rfl ?_
  refine g_aload_n (pc := 507) C dL_law_507 rfl rfl ?_
  refine g_aload_n (pc := 508) C dL_law_508 rfl rfl ?_
  refine g_iload (pc := 509) C dL_law_509 rfl ?_
  refine g_iconst (pc := 511) C dL_law_511 ?_
  refine g_iadd (pc := 512) C dL_law_512 ?_
  refine g_sld (pc := 513) C hX hbl hbA (by omega) dL_law_513 ?_
  refine g_aload_n (pc := 514) C dL_law_514 rfl rfl ?_
  refine g_iload (pc := 515) C dL_law_515 rfl ?_
  refine g_iconst (pc := 517) C dL_law_517 ?_
  refine g_iadd (pc := 518) C dL_law_518 ?_
  refine g_sld (pc := 519) C hX hbl hbA (by omega) dL_law_519 ?_
  refine g_callVIF (pc := 520) (wc := wM K qm T) (wr := (o, aJ K 1 g) :: wX K q S2) (As := [.int (iI (xI xs (i + 1))), .int (iI (xI xs (i + 2)))]) (rest := [.int (iI za)]) C [0, 1, 2, 3, 4, 5, 6, 7, 8, 9, 10] [11, 12, 13, 14, 15, 16, 17, 18, 19, 20, 21, 22, 23, 24, 25, 26] rfl rfl (by decide) (by decide) (by decide) (c_X2_at l K qm T hHT hf hh (xI xs (i + 1)) (xI xs (i + 2)) (xI_b xs _) (xI_b xs _)) (cwV 2 C.hts gL_law_X2_at rfl rfl rfl (by decide +kernel) ⟨by decide, by decide⟩) 0 rfl rfl dL_law_520 rfl (Nat.le_of_ble_eq_true rfl) ⟨by show k ≤ 1054; omega, by show n ≤ 11758; omega⟩ (fun zb w hp => ?_)
  obtain ⟨-, hzb, T2, rfl, V⟩ := hp
  have hab : za = zb := by rw [hza, hzb, hn1]
  subst hab
  have hLI := (LI_same I hU V).1
  refine g_perm [16, 17, 18, 19, 20, 21, 22, 23, 24, 25, 26, 0, 1, 2, 3, 4, 5, 6, 7, 8, 9, 10, 11, 12, 13, 14, 15] (by decide) (ws' := lwW K qm T2 o g q S2) rfl ?_
  refine g_icmp_eqS (pc := 523) (tgt := 1415) C dL_law_523 (by decide) ?_
  exact hE S2 T2 g k n d0 hd0 hLI (by omega) (by omega)
