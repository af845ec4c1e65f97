set_option maxHeartbeats 400000 in
set_option maxRecDepth 100000 in
theorem lc_setRings {p : Program} {e : Env} {s : State} {m : MethodId} {below : List Frame} {meth : Method} {c : Code} (l : Launch) (hlt : l.stackTraces = false) {b L : Nat} {xs : Nat → Int32} (hL : L ≤ 2048) (K : KK) (C0 : hCx p s m #[.ref b] meth c cL_law 9 ret wsL_law RL K (lA s)) (hX : va_X b L xs s s.heap) (hbl : b < s.heap.size) {d0 : Drawn} (hd0 : s.drawn.sameBut d0 lw_cs) {i : Int} {k n : Nat} {qm q : Nat → Nat} {o : Nat} {g : Nat → Int64} {S T : Nat → Int → Int} (I : LI S T) (hi : 0 ≤ i ∧ i + 4 ≤ L) (hkn : k + 1 ≤ 1054 ∧ n + 6 ≤ 11758)
    (hE : ∀ (S2 T2 : Nat → Int → Int) (g2 : Nat → Int64) (k2 n2 : Nat) (d1 : Drawn), s.drawn.sameBut d1 lw_cs → LI S2 T2 → k2 ≤ k + 1 → n2 ≤ n + 6 → hG p l e room_1 (s.setDrawn d1) m #[.ref b] below meth c 9 K (lA s) k2 n2 (lw_Z below #[.ref b] s) 1415 [(4, .int (iI i)), (3, .ref o), (2, .ref (qm 0)), (1, .ref (q 0)), (0, .ref b)] [] (lwW K qm T2 o g2 q S2)) : hG p l e room_1 (s.setDrawn d0) m #[.ref b] below meth c 9 K (lA s) k n (lw_Z below #[.ref b] s) 140 [(4, .int (iI i)), (3, .ref o), (2, .ref (qm 0)), (1, .ref (q 0)), (0, .ref b)] [] (lwW K qm T o g q S) := by
  have C := C0.dr d0
  have hbA : ¬ lA s b := Nat.not_le.mpr hbl
  have hHT := I.2.2.1
  have hf := I.hf
  have hh := I.hh
  have hY := I.Y
  refine g_aload_n (pc := 140) C dL_law_140 rfl rfl ?_
  refine g_aload_n (pc := 141) C dL_law_141 rfl rfl ?_
  refine g_iload (pc := 142) C dL_law_142 rfl ?_
  refine g_iconst (pc := 144) C dL_law_144 ?_
  refine g_iadd (pc := 145) C dL_law_145 ?_
  refine g_sld (pc := 146) C hX hbl hbA (by omega) dL_law_146 ?_
  refine g_aload_n (pc := 147) C dL_law_147 rfl rfl ?_
  refine g_callSHF (pc := 148) (wc := (o, aJ K 1 g) :: wX K q S) (wr := wM K qm T) (As := [.ref (q 0), .int (iI (xI xs (i + 1))), .ref o]) (rest := []) C [11, 12, 13, 14, 15, 16, 17, 18, 19, 20, 21, 22, 23, 24, 25, 26] [0, 1, 2, 3, 4, 5, 6, 7, 8, 9, 10] rfl rfl (by decide) (by decide) (by decide) (h_setRings l hlt K q S I.1 I.2.1 o g (xI xs (i + 1)) (xI_b xs _)) (vx_cwSW 3 C.hts gL_law_L_setRings rfl rfl rfl ⟨by decide, by decide, by decide +kernel⟩ ⟨by decide, by decide⟩) dL_law_148 rfl (Nat.le_of_ble_eq_true rfl) hkn (fun z w hp => ?_)
  obtain ⟨g2, S2, rfl, hR⟩ := hp
  refine g_istore (pc := 151) (lv' := [(5, .int (iI z)), (4, .int (iI i)), (3, .ref o), (2, .ref (qm 0)), (1, .ref (q 0)), (0, .ref b)]) C dL_law_151 (by decide) rfl ?_
  refine g_aload_n (pc := 153) C dL_law_153 rfl rfl ?_
  refine g_aload_n (pc := 154) C dL_law_154 rfl rfl ?_
  refine g_iload (pc := 155) C dL_law_155 rfl ?_
  refine g_iconst (pc := 157) C dL_law_157 ?_
  refine g_iadd (pc := 158) C dL_law_158 ?_
  refine g_sld (pc := 159) C hX hbl hbA (by omega) dL_law_159 ?_
  refine g_callVIF (pc := 160) (wc := wM K qm T) (wr := (o, aJ K 1 g2) :: wX K q S2) (As := [.int (iI (xI xs (i + 1)))]) (rest := []) C [0, 1, 2, 3, 4, 5, 6, 7, 8, 9, 10] [11, 12, 13, 14, 15, 16, 17, 18, 19, 20, 21, 22, 23, 24, 25, 26] rfl rfl (by decide) (by decide) (by decide) (c_X2_setRings l K qm T (xI xs (i + 1)) (xI_b xs _)) (cwV 1 C.hts gL_law_X2_setRings rfl rfl rfl (by decide +kernel) ⟨by decide, by decide⟩) 0 rfl rfl dL_law_160 rfl (Nat.le_of_ble_eq_true rfl) hkn (fun bb w mp => ?_)
  obtain ⟨T2, rfl, hLI, hT0, hzr, hg⟩ := pair_setRings I hR mp
  refine g_perm [16, 17, 18, 19, 20, 21, 22, 23, 24, 25, 26, 0, 1, 2, 3, 4, 5, 6, 7, 8, 9, 10, 11, 12, 13, 14, 15] (by decide) (ws' := lwW K qm T2 o g2 q S2) rfl ?_
  refine g_istore (pc := 163) (lv' := [(6, .int (iI bb)), (5, .int (iI z)), (4, .int (iI i)), (3, .ref o), (2, .ref (qm 0)), (1, .ref (q 0)), (0, .ref b)]) C dL_law_163 (by decide) rfl ?_
  refine g_aload_n (pc := 165) C dL_law_165 rfl rfl ?_
  refine g_callVIF (pc := 166) (wc := wM K qm T2) (wr := (o, aJ K 1 g2) :: wX K q S2) (As := []) (rest := []) C [0, 1, 2, 3, 4, 5, 6, 7, 8, 9, 10] [11, 12, 13, 14, 15, 16, 17, 18, 19, 20, 21, 22, 23, 24, 25, 26] rfl rfl (by decide) (by decide) (by decide) (c_X2_thrown l K qm T2) (cwV 0 C.hts gL_law_X2_thrown rfl rfl rfl (by decide +kernel) ⟨by decide, by decide⟩) 0 rfl rfl dL_law_166 rfl (Nat.le_of_ble_eq_true rfl) hkn (fun tz w tp => ?_)
  obtain ⟨htz, rfl⟩ := tp
  rw [htz.trans hT0]
  refine g_perm [16, 17, 18, 19, 20, 21, 22, 23, 24, 25, 26, 0, 1, 2, 3, 4, 5, 6, 7, 8, 9, 10, 11, 12, 13, 14, 15] (by decide) (ws' := lwW K qm T2 o g2 q S2) rfl ?_
  refine g_iload (pc := 169) C dL_law_169 rfl ?_
  refine g_icmp_eqS (pc := 171) (tgt := 176) C dL_law_171 (by decide) ?_
  refine g_iload (pc := 176) C dL_law_176 rfl ?_
  refine g_if_ne (pc := 178) (tgt := 193) C dL_law_178 (by decide) (by omega) (fun c1 => ?_) (fun c1 => ?_)
  · skip
    refine g_goto (pc := 193) (tgt := 1415) (C0.dr d0) dL_law_193 (by decide) ?_
    refine g_sub (lv' := [(4, .int (iI i)), (3, .ref o), (2, .ref (qm 0)), (1, .ref (q 0)), (0, .ref b)]) [2, 3, 4, 5, 6] rfl ?_
    exact hE S2 T2 g2 (k + 1) (n + 6) d0 hd0 hLI (by omega) (by omega)
  · have hg1 := hg (by omega)
    refine g_aload_n (pc := 181) C dL_law_181 rfl rfl ?_
    refine g_iconst (pc := 182) C dL_law_182 ?_
    refine g_laload (pc := 183) C 11 rfl (by decide) dL_law_183 ?_
    refine g_iload (pc := 184) C dL_law_184 rfl ?_
    refine g_i2lr (pc := 186) C dL_law_186 ?_
    rw [show g2 (0 : Int).toNat = (iI bb).toInt64 from hg1]
    refine g_lcmp_same (pc := 187) C dL_law_187 ?_
    refine g_if_eq (pc := 188) (tgt := 193) C dL_law_188 (by decide) (by decide) (fun _ => ?_) (fun cn => absurd rfl cn)
    refine g_goto (pc := 193) (tgt := 1415) (C0.dr d0) dL_law_193 (by decide) ?_
    refine g_sub (lv' := [(4, .int (iI i)), (3, .ref o), (2, .ref (qm 0)), (1, .ref (q 0)), (0, .ref b)]) [2, 3, 4, 5, 6] rfl ?_
    exact hE S2 T2 g2 (k + 1) (n + 6) d0 hd0 hLI (by omega) (by omega)
set_option maxHeartbeats 400000 in
set_option maxRecDepth 100000 in
theorem lc_put {p : Program} {e : Env} {s : State} {m : MethodId} {below : List Frame} {meth : Method} {c : Code} (l : Launch) (hlt : l.stackTraces = false) {b L : Nat} {xs : Nat → Int32} (hL : L ≤ 2048) (K : KK) (C0 : hCx p s m #[.ref b] meth c cL_law 9 ret wsL_law RL K (lA s)) (hX : va_X b L xs s s.heap) (hbl : b < s.heap.size) {d0 : Drawn} (hd0 : s.drawn.sameBut d0 lw_cs) {i : Int} {k n : Nat} {qm q : Nat → Nat} {o : Nat} {g : Nat → Int64} {S T : Nat → Int → Int} (I : LI S T) (hi : 0 ≤ i ∧ i + 4 ≤ L) (hkn : k + 1 ≤ 1054 ∧ n + 6 ≤ 11758)
    (hE : ∀ (S2 T2 : Nat → Int → Int) (g2 : Nat → Int64) (k2 n2 : Nat) (d1 : Drawn), s.drawn.sameBut d1 lw_cs → LI S2 T2 → k2 ≤ k + 1 → n2 ≤ n + 6 → hG p l e room_1 (s.setDrawn d1) m #[.ref b] below meth c 9 K (lA s) k2 n2 (lw_Z below #[.ref b] s) 1415 [(4, .int (iI i)), (3, .ref o), (2, .ref (qm 0)), (1, .ref (q 0)), (0, .ref b)] [] (lwW K qm T2 o g2 q S2)) : hG p l e room_1 (s.setDrawn d0) m #[.ref b] below meth c 9 K (lA s) k n (lw_Z below #[.ref b] s) 196 [(4, .int (iI i)), (3, .ref o), (2, .ref (qm 0)), (1, .ref (q 0)), (0, .ref b)] [] (lwW K qm T o g q S) := by
  have C := C0.dr d0
  have hbA : ¬ lA s b := Nat.not_le.mpr hbl
  have hHT := I.2.2.1
  have hf := I.hf
  have hh := I.hh
  have hY := I.Y
  refine g_aload_n (pc := 196) C dL_law_196 rfl rfl ?_
  refine g_aload_n (pc := 197) C dL_law_197 rfl rfl ?_
  refine g_iload (pc := 198) C dL_law_198 rfl ?_
  refine g_iconst (pc := 200) C dL_law_200 ?_
  refine g_iadd (pc := 201) C dL_law_201 ?_
  refine g_sld (pc := 202) C hX hbl hbA (by omega) dL_law_202 ?_
  refine g_aload_n (pc := 203) C dL_law_203 rfl rfl ?_
  refine g_iload (pc := 204) C dL_law_204 rfl ?_
  refine g_iconst (pc := 206) C dL_law_206 ?_
  refine g_iadd (pc := 207) C dL_law_207 ?_
  refine g_sld (pc := 208) C hX hbl hbA (by omega) dL_law_208 ?_
  refine g_aload_n (pc := 209) C dL_law_209 rfl rfl ?_
  refine g_callSHF (pc := 210) (wc := (o, aJ K 1 g) :: wX K q S) (wr := wM K qm T) (As := [.ref (q 0), .int (iI (xI xs (i + 1))), .int (iI (xI xs (i + 2))), .ref o]) (rest := []) C [11, 12, 13, 14, 15, 16, 17, 18, 19, 20, 21, 22, 23, 24, 25, 26] [0, 1, 2, 3, 4, 5, 6, 7, 8, 9, 10] rfl rfl (by decide) (by decide) (by decide) (h_put l hlt K q S I.1 I.2.1 o g (xI xs (i + 1)) (xI xs (i + 2)) (xI_b xs _) (xI_b xs _)) (vx_cwSW 4 C.hts gL_law_L_put rfl rfl rfl ⟨by decide, by decide, by decide +kernel⟩ ⟨by decide, by decide⟩) dL_law_210 rfl (Nat.le_of_ble_eq_true rfl) hkn (fun z w hp => ?_)
  obtain ⟨g2, S2, rfl, hR⟩ := hp
  refine g_istore (pc := 213) (lv' := [(5, .int (iI z)), (4, .int (iI i)), (3, .ref o), (2, .ref (qm 0)), (1, .ref (q 0)), (0, .ref b)]) C dL_law_213 (by decide) rfl ?_
  refine g_aload_n (pc := 215) C dL_law_215 rfl rfl ?_
  refine g_aload_n (pc := 216) C dL_law_216 rfl rfl ?_
  refine g_iload (pc := 217) C dL_law_217 rfl ?_
  refine g_iconst (pc := 219) C dL_law_219 ?_
  refine g_iadd (pc := 220) C dL_law_220 ?_
  refine g_sld (pc := 221) C hX hbl hbA (by omega) dL_law_221 ?_
  refine g_aload_n (pc := 222) C dL_law_222 rfl rfl ?_
  refine g_iload (pc := 223) C dL_law_223 rfl ?_
  refine g_iconst (pc := 225) C dL_law_225 ?_
  refine g_iadd (pc := 226) C dL_law_226 ?_
  refine g_sld (pc := 227) C hX hbl hbA (by omega) dL_law_227 ?_
  refine g_callVIF (pc := 228) (wc := wM K qm T) (wr := (o, aJ K 1 g2) :: wX K q S2) (As := [.int (iI (xI xs (i + 1))), .int (iI (xI xs (i + 2)))]) (rest := []) C [0, 1, 2, 3, 4, 5, 6, 7, 8, 9, 10] [11, 12, 13, 14, 15, 16, 17, 18, 19, 20, 21, 22, 23, 24, 25, 26] rfl rfl (by decide) (by decide) (by decide) (c_X2_put l K qm T hHT hf hh (xI xs (i + 1)) (xI xs (i + 2)) (xI_b xs _) (xI_b xs _)) (cwV 2 C.hts gL_law_X2_put rfl rfl rfl (by decide +kernel) ⟨by decide, by decide⟩) 0 rfl rfl dL_law_228 rfl (Nat.le_of_ble_eq_true rfl) hkn (fun bb w mp => ?_)
  obtain ⟨T2, rfl, hLI, hT0, hzr, hg⟩ := pair_put I hR mp
  refine g_perm [16, 17, 18, 19, 20, 21, 22, 23, 24, 25, 26, 0, 1, 2, 3, 4, 5, 6, 7, 8, 9, 10, 11, 12, 13, 14, 15] (by decide) (ws' := lwW K qm T2 o g2 q S2) rfl ?_
  refine g_istore (pc := 231) (lv' := [(6, .int (iI bb)), (5, .int (iI z)), (4, .int (iI i)), (3, .ref o), (2, .ref (qm 0)), (1, .ref (q 0)), (0, .ref b)]) C dL_law_231 (by decide) rfl ?_
  refine g_aload_n (pc := 233) C dL_law_233 rfl rfl ?_
  refine g_callVIF (pc := 234) (wc := wM K qm T2) (wr := (o, aJ K 1 g2) :: wX K q S2) (As := []) (rest := []) C [0, 1, 2, 3, 4, 5, 6, 7, 8, 9, 10] [11, 12, 13, 14, 15, 16, 17, 18, 19, 20, 21, 22, 23, 24, 25, 26] rfl rfl (by decide) (by decide) (by decide) (c_X2_thrown l K qm T2) (cwV 0 C.hts gL_law_X2_thrown rfl rfl rfl (by decide +kernel) ⟨by decide, by decide⟩) 0 rfl rfl dL_law_234 rfl (Nat.le_of_ble_eq_true rfl) hkn (fun tz w tp => ?_)
  obtain ⟨htz, rfl⟩ := tp
  rw [htz.trans hT0]
  refine g_perm [16, 17, 18, 19, 20, 21, 22, 23, 24, 25, 26, 0, 1, 2, 3, 4, 5, 6, 7, 8, 9, 10, 11, 12, 13, 14, 15] (by decide) (ws' := lwW K qm T2 o g2 q S2) rfl ?_
  refine g_iload (pc := 237) C dL_law_237 rfl ?_
  refine g_icmp_eqS (pc := 239) (tgt := 244) C dL_law_239 (by decide) ?_
  refine g_iload (pc := 244) C dL_law_244 rfl ?_
  refine g_if_ne (pc := 246) (tgt := 261) C dL_law_246 (by decide) (by omega) (fun c1 => ?_) (fun c1 => ?_)
  · skip
    refine g_goto (pc := 261) (tgt := 1415) (C0.dr d0) dL_law_261 (by decide) ?_
    refine g_sub (lv' := [(4, .int (iI i)), (3, .ref o), (2, .ref (qm 0)), (1, .ref (q 0)), (0, .ref b)]) [2, 3, 4, 5, 6] rfl ?_
    exact hE S2 T2 g2 (k + 1) (n + 6) d0 hd0 hLI (by omega) (by omega)
  · have hg1 := hg (by omega)
    refine g_aload_n (pc := 249) C dL_law_249 rfl rfl ?_
    refine g_iconst (pc := 250) C dL_law_250 ?_
    refine g_laload (pc := 251) C 11 rfl (by decide) dL_law_251 ?_
    refine g_iload (pc := 252) C dL_law_252 rfl ?_
    refine g_i2lr (pc := 254) C dL_law_254 ?_
    rw [show g2 (0 : Int).toNat = (iI bb).toInt64 from hg1]
    refine g_lcmp_same (pc := 255) C dL_law_255 ?_
    refine g_if_eq (pc := 256) (tgt := 261) C dL_law_256 (by decide) (by decide) (fun _ => ?_) (fun cn => absurd rfl cn)
    refine g_goto (pc := 261) (tgt := 1415) (C0.dr d0) dL_law_261 (by decide) ?_
    refine g_sub (lv' := [(4, .int (iI i)), (3, .ref o), (2, .ref (qm 0)), (1, .ref (q 0)), (0, .ref b)]) [2, 3, 4, 5, 6] rfl ?_
    exact hE S2 T2 g2 (k + 1) (n + 6) d0 hd0 hLI (by omega) (by omega)
set_option maxHeartbeats 400000 in
set_option maxRecDepth 100000 in
theorem lc_shut {p : Program} {e : Env} {s : State} {m : MethodId} {below : List Frame} {meth : Method} {c : Code} (l : Launch) (hlt : l.stackTraces = false) {b L : Nat} {xs : Nat → Int32} (hL : L ≤ 2048) (K : KK) (C0 : hCx p s m #[.ref b] meth c cL_law 9 ret wsL_law RL K (lA s)) (hX : va_X b L xs s s.heap) (hbl : b < s.heap.size) {d0 : Drawn} (hd0 : s.drawn.sameBut d0 lw_cs) {i : Int} {k n : Nat} {qm q : Nat → Nat} {o : Nat} {g : Nat → Int64} {S T : Nat → Int → Int} (I : LI S T) (hi : 0 ≤ i ∧ i + 4 ≤ L) (hkn : k + 1 ≤ 1054 ∧ n + 6 ≤ 11758)
    (hE : ∀ (S2 T2 : Nat → Int → Int) (g2 : Nat → Int64) (k2 n2 : Nat) (d1 : Drawn), s.drawn.sameBut d1 lw_cs → LI S2 T2 → k2 ≤ k + 1 → n2 ≤ n + 6 → hG p l e room_1 (s.setDrawn d1) m #[.ref b] below meth c 9 K (lA s) k2 n2 (lw_Z below #[.ref b] s) 1415 [(4, .int (iI i)), (3, .ref o), (2, .ref (qm 0)), (1, .ref (q 0)), (0, .ref b)] [] (lwW K qm T2 o g2 q S2)) : hG p l e room_1 (s.setDrawn d0) m #[.ref b] below meth c 9 K (lA s) k n (lw_Z below #[.ref b] s) 264 [(4, .int (iI i)), (3, .ref o), (2, .ref (qm 0)), (1, .ref (q 0)), (0, .ref b)] [] (lwW K qm T o g q S) := by
  have C := C0.dr d0
  have hbA : ¬ lA s b := Nat.not_le.mpr hbl
  have hHT := I.2.2.1
  have hf := I.hf
  have hh := I.hh
  have hY := I.Y
  by_cases cb : xI xs (i + 3) = 0
  · skip
    refine g_aload_n (pc := 264) C dL_law_264 rfl rfl ?_
    refine g_aload_n (pc := 265) C dL_law_265 rfl rfl ?_
    refine g_iload (pc := 266) C dL_law_266 rfl ?_
    refine g_iconst (pc := 268) C dL_law_268 ?_
    refine g_iadd (pc := 269) C dL_law_269 ?_
    refine g_sld (pc := 270) C hX hbl hbA (by omega) dL_law_270 ?_
    refine g_aload_n (pc := 271) C dL_law_271 rfl rfl ?_
    refine g_iload (pc := 272) C dL_law_272 rfl ?_
    refine g_iconst (pc := 274) C dL_law_274 ?_
    refine g_iadd (pc := 275) C dL_law_275 ?_
    refine g_sld (pc := 276) C hX hbl hbA (by omega) dL_law_276 ?_
    refine g_aload_n (pc := 277) C dL_law_277 rfl rfl ?_
    refine g_iload (pc := 278) C dL_law_278 rfl ?_
    refine g_iconst (pc := 280) C dL_law_280 ?_
    refine g_iadd (pc := 281) C dL_law_281 ?_
    refine g_sld (pc := 282) C hX hbl hbA (by omega) dL_law_282 ?_
    refine g_if_eq (pc := 283) (tgt := 290) C dL_law_283 (by decide) (xI_b xs _) (fun _ => ?_) (fun cn => absurd cb cn)
    refine g_iconst (pc := 290) C dL_law_290 ?_
    refine g_aload_n (pc := 291) C dL_law_291 rfl rfl ?_
    refine g_callSHF (pc := 292) (wc := (o, aJ K 1 g) :: wX K q S) (wr := wM K qm T) (As := [.ref (q 0), .int (iI (xI xs (i + 1))), .int (iI (xI xs (i + 2))), .int (iI (0)), .ref o]) (rest := []) C [11, 12, 13, 14, 15, 16, 17, 18, 19, 20, 21, 22, 23, 24, 25, 26] [0, 1, 2, 3, 4, 5, 6, 7, 8, 9, 10] rfl rfl (by decide) (by decide) (by decide) (h_shut l hlt K q S I.1 I.2.1 o g (xI xs (i + 1)) (xI xs (i + 2)) (0) (xI_b xs _) (xI_b xs _) (by omega)) (vx_cwSW 5 C.hts gL_law_L_shut rfl rfl rfl ⟨by decide, by decide, by decide +kernel⟩ ⟨by decide, by decide⟩) dL_law_292 rfl (Nat.le_of_ble_eq_true rfl) hkn (fun z w hp => ?_)
    obtain ⟨g2, S2, rfl, hR⟩ := hp
    refine g_istore (pc := 295) (lv' := [(5, .int (iI z)), (4, .int (iI i)), (3, .ref o), (2, .ref (qm 0)), (1, .ref (q 0)), (0, .ref b)]) C dL_law_295 (by decide) rfl ?_
    refine g_aload_n (pc := 297) C dL_law_297 rfl rfl ?_
    refine g_aload_n (pc := 298) C dL_law_298 rfl rfl ?_
    refine g_iload (pc := 299) C dL_law_299 rfl ?_
    refine g_iconst (pc := 301) C dL_law_301 ?_
    refine g_iadd (pc := 302) C dL_law_302 ?_
    refine g_sld (pc := 303) C hX hbl hbA (by omega) dL_law_303 ?_
    refine g_aload_n (pc := 304) C dL_law_304 rfl rfl ?_
    refine g_iload (pc := 305) C dL_law_305 rfl ?_
    refine g_iconst (pc := 307) C dL_law_307 ?_
    refine g_iadd (pc := 308) C dL_law_308 ?_
    refine g_sld (pc := 309) C hX hbl hbA (by omega) dL_law_309 ?_
    refine g_aload_n (pc := 310) C dL_law_310 rfl rfl ?_
    refine g_iload (pc := 311) C dL_law_311 rfl ?_
    refine g_iconst (pc := 313) C dL_law_313 ?_
    refine g_iadd (pc := 314) C dL_law_314 ?_
    refine g_sld (pc := 315) C hX hbl hbA (by omega) dL_law_315 ?_
    refine g_if_eq (pc := 316) (tgt := 323) C dL_law_316 (by decide) (xI_b xs _) (fun _ => ?_) (fun cn => absurd cb cn)
    refine g_iconst (pc := 323) C dL_law_323 ?_
    refine g_callVIF (pc := 324) (wc := wM K qm T) (wr := (o, aJ K 1 g2) :: wX K q S2) (As := [.int (iI (xI xs (i + 1))), .int (iI (xI xs (i + 2))), .int (iI (0))]) (rest := []) C [0, 1, 2, 3, 4, 5, 6, 7, 8, 9, 10] [11, 12, 13, 14, 15, 16, 17, 18, 19, 20, 21, 22, 23, 24, 25, 26] rfl rfl (by decide) (by decide) (by decide) (c_X2_shut l K qm T hHT hf hh (xI xs (i + 1)) (xI xs (i + 2)) (0) (xI_b xs _) (xI_b xs _) (by omega)) (cwV 3 C.hts gL_law_X2_shut rfl rfl rfl (by decide +kernel) ⟨by decide, by decide⟩) 0 rfl rfl dL_law_324 rfl (Nat.le_of_ble_eq_true rfl) hkn (fun bb w mp => ?_)
    obtain ⟨T2, rfl, hLI, hT0, hzr, hg, hbb⟩ := pair_shut I (by omega) hR mp
    refine g_perm [16, 17, 18, 19, 20, 21, 22, 23, 24, 25, 26, 0, 1, 2, 3, 4, 5, 6, 7, 8, 9, 10, 11, 12, 13, 14, 15] (by decide) (ws' := lwW K qm T2 o g2 q S2) rfl ?_
    refine g_istore (pc := 327) (lv' := [(6, .int (iI bb)), (5, .int (iI z)), (4, .int (iI i)), (3, .ref o), (2, .ref (qm 0)), (1, .ref (q 0)), (0, .ref b)]) C dL_law_327 (by decide) rfl ?_
    refine g_aload_n (pc := 329) C dL_law_329 rfl rfl ?_
    refine g_callVIF (pc := 330) (wc := wM K qm T2) (wr := (o, aJ K 1 g2) :: wX K q S2) (As := []) (rest := []) C [0, 1, 2, 3, 4, 5, 6, 7, 8, 9, 10] [11, 12, 13, 14, 15, 16, 17, 18, 19, 20, 21, 22, 23, 24, 25, 26] rfl rfl (by decide) (by decide) (by decide) (c_X2_thrown l K qm T2) (cwV 0 C.hts gL_law_X2_thrown rfl rfl rfl (by decide +kernel) ⟨by decide, by decide⟩) 0 rfl rfl dL_law_330 rfl (Nat.le_of_ble_eq_true rfl) hkn (fun tz w tp => ?_)
    obtain ⟨htz, rfl⟩ := tp
    rw [htz.trans hT0]
    refine g_perm [16, 17, 18, 19, 20, 21, 22, 23, 24, 25, 26, 0, 1, 2, 3, 4, 5, 6, 7, 8, 9, 10, 11, 12, 13, 14, 15] (by decide) (ws' := lwW K qm T2 o g2 q S2) rfl ?_
    refine g_iload (pc := 333) C dL_law_333 rfl ?_
    refine g_icmp_eqS (pc := 335) (tgt := 340) C dL_law_335 (by decide) ?_
    refine g_iload (pc := 340) C dL_law_340 rfl ?_
    refine g_if_ne (pc := 342) (tgt := 364) C dL_law_342 (by decide) (by omega) (fun c1 => ?_) (fun c1 => ?_)
    · skip
      refine g_goto (pc := 364) (tgt := 1415) (C0.dr d0) dL_law_364 (by decide) ?_
      refine g_sub (lv' := [(4, .int (iI i)), (3, .ref o), (2, .ref (qm 0)), (1, .ref (q 0)), (0, .ref b)]) [2, 3, 4, 5, 6] rfl ?_
      exact hE S2 T2 g2 (k + 1) (n + 6) d0 hd0 hLI (by omega) (by omega)
    · have hg1 := hg (by omega)
      refine g_aload_n (pc := 345) C dL_law_345 rfl rfl ?_
      refine g_iconst (pc := 346) C dL_law_346 ?_
      refine g_laload (pc := 347) C 11 rfl (by decide) dL_law_347 ?_
      refine g_iload (pc := 348) C dL_law_348 rfl ?_
      refine g_if_eq (pc := 350) (tgt := 357) C dL_law_350 (by decide) (by omega) (fun c2 => ?_) (fun c2 => ?_)
      · rw [show g2 (0 : Int).toNat = (0 : Int64) from hg1.trans (if_pos c2)]
        refine g_lconst (pc := 357) (v := 0) C dL_law_357 (by decide +kernel) ?_
        refine g_lcmp_same (pc := 358) C dL_law_358 ?_
        refine g_if_eq (pc := 359) (tgt := 364) C dL_law_359 (by decide) (by decide) (fun _ => ?_) (fun cn => absurd rfl cn)
        refine g_goto (pc := 364) (tgt := 1415) (C0.dr d0) dL_law_364 (by decide) ?_
        refine g_sub (lv' := [(4, .int (iI i)), (3, .ref o), (2, .ref (qm 0)), (1, .ref (q 0)), (0, .ref b)]) [2, 3, 4, 5, 6] rfl ?_
        exact hE S2 T2 g2 (k + 1) (n + 6) d0 hd0 hLI (by omega) (by omega)
      · rw [show g2 (0 : Int).toNat = (1 : Int64) from hg1.trans (if_neg c2)]
        refine g_lconst (pc := 353) (v := 1) C dL_law_353 (by decide +kernel) ?_
        refine g_goto (pc := 354) (tgt := 358) C dL_law_354 (by decide) ?_
        refine g_lcmp_same (pc := 358) C dL_law_358 ?_
        refine g_if_eq (pc := 359) (tgt := 364) C dL_law_359 (by decide) (by decide) (fun _ => ?_) (fun cn => absurd rfl cn)
        refine g_goto (pc := 364) (tgt := 1415) (C0.dr d0) dL_law_364 (by decide) ?_
        refine g_sub (lv' := [(4, .int (iI i)), (3, .ref o), (2, .ref (qm 0)), (1, .ref (q 0)), (0, .ref b)]) [2, 3, 4, 5, 6] rfl ?_
        exact hE S2 T2 g2 (k + 1) (n + 6) d0 hd0 hLI (by omega) (by omega)
  · skip
    refine g_aload_n (pc := 264) C dL_law_264 rfl rfl ?_
    refine g_aload_n (pc := 265) C dL_law_265 rfl rfl ?_
    refine g_iload (pc := 266) C dL_law_266 rfl ?_
    refine g_iconst (pc := 268) C dL_law_268 ?_
    refine g_iadd (pc := 269) C dL_law_269 ?_
    refine g_sld (pc := 270) C hX hbl hbA (by omega) dL_law_270 ?_
    refine g_aload_n (pc := 271) C dL_law_271 rfl rfl ?_
    refine g_iload (pc := 272) C dL_law_272 rfl ?_
    refine g_iconst (pc := 274) C dL_law_274 ?_
    refine g_iadd (pc := 275) C dL_law_275 ?_
    refine g_sld (pc := 276) C hX hbl hbA (by omega) dL_law_276 ?_
    refine g_aload_n (pc := 277) C dL_law_277 rfl rfl ?_
    refine g_iload (pc := 278) C dL_law_278 rfl ?_
    refine g_iconst (pc := 280) C dL_law_280 ?_
    refine g_iadd (pc := 281) C dL_law_281 ?_
    refine g_sld (pc := 282) C hX hbl hbA (by omega) dL_law_282 ?_
    refine g_if_eq (pc := 283) (tgt := 290) C dL_law_283 (by decide) (xI_b xs _) (fun cn => absurd cn cb) (fun _ => ?_)
    refine g_iconst (pc := 286) C dL_law_286 ?_
    refine g_goto (pc := 287) (tgt := 291) C dL_law_287 (by decide) ?_
    refine g_aload_n (pc := 291) C dL_law_291 rfl rfl ?_
    refine g_callSHF (pc := 292) (wc := (o, aJ K 1 g) :: wX K q S) (wr := wM K qm T) (As := [.ref (q 0), .int (iI (xI xs (i + 1))), .int (iI (xI xs (i + 2))), .int (iI (1)), .ref o]) (rest := []) C [11, 12, 13, 14, 15, 16, 17, 18, 19, 20, 21, 22, 23, 24, 25, 26] [0, 1, 2, 3, 4, 5, 6, 7, 8, 9, 10] rfl rfl (by decide) (by decide) (by decide) (h_shut l hlt K q S I.1 I.2.1 o g (xI xs (i + 1)) (xI xs (i + 2)) (1) (xI_b xs _) (xI_b xs _) (by omega)) (vx_cwSW 5 C.hts gL_law_L_shut rfl rfl rfl ⟨by decide, by decide, by decide +kernel⟩ ⟨by decide, by decide⟩) dL_law_292 rfl (Nat.le_of_ble_eq_true rfl) hkn (fun z w hp => ?_)
    obtain ⟨g2, S2, rfl, hR⟩ := hp
    refine g_istore (pc := 295) (lv' := [(5, .int (iI z)), (4, .int (iI i)), (3, .ref o), (2, .ref (qm 0)), (1, .ref (q 0)), (0, .ref b)]) C dL_law_295 (by decide) rfl ?_
    refine g_aload_n (pc := 297) C dL_law_297 rfl rfl ?_
    refine g_aload_n (pc := 298) C dL_law_298 rfl rfl ?_
    refine g_iload (pc := 299) C dL_law_299 rfl ?_
    refine g_iconst (pc := 301) C dL_law_301 ?_
    refine g_iadd (pc := 302) C dL_law_302 ?_
    refine g_sld (pc := 303) C hX hbl hbA (by omega) dL_law_303 ?_
    refine g_aload_n (pc := 304) C dL_law_304 rfl rfl ?_
    refine g_iload (pc := 305) C dL_law_305 rfl ?_
    refine g_iconst (pc := 307) C dL_law_307 ?_
    refine g_iadd (pc := 308) C dL_law_308 ?_
    refine g_sld (pc := 309) C hX hbl hbA (by omega) dL_law_309 ?_
    refine g_aload_n (pc := 310) C dL_law_310 rfl rfl ?_
    refine g_iload (pc := 311) C dL_law_311 rfl ?_
    refine g_iconst (pc := 313) C dL_law_313 ?_
    refine g_iadd (pc := 314) C dL_law_314 ?_
    refine g_sld (pc := 315) C hX hbl hbA (by omega) dL_law_315 ?_
    refine g_if_eq (pc := 316) (tgt := 323) C dL_law_316 (by decide) (xI_b xs _) (fun cn => absurd cn cb) (fun _ => ?_)
    refine g_iconst (pc := 319) C dL_law_319 ?_
    refine g_goto (pc := 320) (tgt := 324) C dL_law_320 (by decide) ?_
    refine g_callVIF (pc := 324) (wc := wM K qm T) (wr := (o, aJ K 1 g2) :: wX K q S2) (As := [.int (iI (xI xs (i + 1))), .int (iI (xI xs (i + 2))), .int (iI (1))]) (rest := []) C [0, 1, 2, 3, 4, 5, 6, 7, 8, 9, 10] [11, 12, 13, 14, 15, 16, 17, 18, 19, 20, 21, 22, 23, 24, 25, 26] rfl rfl (by decide) (by decide) (by decide) (c_X2_shut l K qm T hHT hf hh (xI xs (i + 1)) (xI xs (i + 2)) (1) (xI_b xs _) (xI_b xs _) (by omega)) (cwV 3 C.hts gL_law_X2_shut rfl rfl rfl (by decide +kernel) ⟨by decide, by decide⟩) 0 rfl rfl dL_law_324 rfl (Nat.le_of_ble_eq_true rfl) hkn (fun bb w mp => ?_)
    obtain ⟨T2, rfl, hLI, hT0, hzr, hg, hbb⟩ := pair_shut I (by omega) hR mp
    refine g_perm [16, 17, 18, 19, 20, 21, 22, 23, 24, 25, 26, 0, 1, 2, 3, 4, 5, 6, 7, 8, 9, 10, 11, 12, 13, 14, 15] (by decide) (ws' := lwW K qm T2 o g2 q S2) rfl ?_
    refine g_istore (pc := 327) (lv' := [(6, .int (iI bb)), (5, .int (iI z)), (4, .int (iI i)), (3, .ref o), (2, .ref (qm 0)), (1, .ref (q 0)), (0, .ref b)]) C dL_law_327 (by decide) rfl ?_
    refine g_aload_n (pc := 329) C dL_law_329 rfl rfl ?_
    refine g_callVIF (pc := 330) (wc := wM K qm T2) (wr := (o, aJ K 1 g2) :: wX K q S2) (As := []) (rest := []) C [0, 1, 2, 3, 4, 5, 6, 7, 8, 9, 10] [11, 12, 13, 14, 15, 16, 17, 18, 19, 20, 21, 22, 23, 24, 25, 26] rfl rfl (by decide) (by decide) (by decide) (c_X2_thrown l K qm T2) (cwV 0 C.hts gL_law_X2_thrown rfl rfl rfl (by decide +kernel) ⟨by decide, by decide⟩) 0 rfl rfl dL_law_330 rfl (Nat.le_of_ble_eq_true rfl) hkn (fun tz w tp => ?_)
    obtain ⟨htz, rfl⟩ := tp
    rw [htz.trans hT0]
    refine g_perm [16, 17, 18, 19, 20, 21, 22, 23, 24, 25, 26, 0, 1, 2, 3, 4, 5, 6, 7, 8, 9, 10, 11, 12, 13, 14, 15] (by decide) (ws' := lwW K qm T2 o g2 q S2) rfl ?_
    refine g_iload (pc := 333) C dL_law_333 rfl ?_
    refine g_icmp_eqS (pc := 335) (tgt := 340) C dL_law_335 (by decide) ?_
    refine g_iload (pc := 340) C dL_law_340 rfl ?_
    refine g_if_ne (pc := 342) (tgt := 364) C dL_law_342 (by decide) (by omega) (fun c1 => ?_) (fun c1 => ?_)
    · skip
      refine g_goto (pc := 364) (tgt := 1415) (C0.dr d0) dL_law_364 (by decide) ?_
      refine g_sub (lv' := [(4, .int (iI i)), (3, .ref o), (2, .ref (qm 0)), (1, .ref (q 0)), (0, .ref b)]) [2, 3, 4, 5, 6] rfl ?_
      exact hE S2 T2 g2 (k + 1) (n + 6) d0 hd0 hLI (by omega) (by omega)
    · have hg1 := hg (by omega)
      refine g_aload_n (pc := 345) C dL_law_345 rfl rfl ?_
      refine g_iconst (pc := 346) C dL_law_346 ?_
      refine g_laload (pc := 347) C 11 rfl (by decide) dL_law_347 ?_
      refine g_iload (pc := 348) C dL_law_348 rfl ?_
      refine g_if_eq (pc := 350) (tgt := 357) C dL_law_350 (by decide) (by omega) (fun c2 => ?_) (fun c2 => ?_)
      · rw [show g2 (0 : Int).toNat = (0 : Int64) from hg1.trans (if_pos c2)]
        refine g_lconst (pc := 357) (v := 0) C dL_law_357 (by decide +kernel) ?_
        refine g_lcmp_same (pc := 358) C dL_law_358 ?_
        refine g_if_eq (pc := 359) (tgt := 364) C dL_law_359 (by decide) (by decide) (fun _ => ?_) (fun cn => absurd rfl cn)
        refine g_goto (pc := 364) (tgt := 1415) (C0.dr d0) dL_law_364 (by decide) ?_
        refine g_sub (lv' := [(4, .int (iI i)), (3, .ref o), (2, .ref (qm 0)), (1, .ref (q 0)), (0, .ref b)]) [2, 3, 4, 5, 6] rfl ?_
        exact hE S2 T2 g2 (k + 1) (n + 6) d0 hd0 hLI (by omega) (by omega)
      · rw [show g2 (0 : Int).toNat = (1 : Int64) from hg1.trans (if_neg c2)]
        refine g_lconst (pc := 353) (v := 1) C dL_law_353 (by decide +kernel) ?_
        refine g_goto (pc := 354) (tgt := 358) C dL_law_354 (by decide) ?_
        refine g_lcmp_same (pc := 358) C dL_law_358 ?_
        refine g_if_eq (pc := 359) (tgt := 364) C dL_law_359 (by decide) (by decide) (fun _ => ?_) (fun cn => absurd rfl cn)
        refine g_goto (pc := 364) (tgt := 1415) (C0.dr d0) dL_law_364 (by decide) ?_
        refine g_sub (lv' := [(4, .int (iI i)), (3, .ref o), (2, .ref (qm 0)), (1, .ref (q 0)), (0, .ref b)]) [2, 3, 4, 5, 6] rfl ?_
        exact hE S2 T2 g2 (k + 1) (n + 6) d0 hd0 hLI (by omega) (by omega)
set_option maxHeartbeats 400000 in
set_option maxRecDepth 100000 in
theorem lc_turn {p : Program} {e : Env} {s : State} {m : MethodId} {below : List Frame} {meth : Method} {c : Code} (l : Launch) (hlt : l.stackTraces = false) {b L : Nat} {xs : Nat → Int32} (hL : L ≤ 2048) (K : KK) (C0 : hCx p s m #[.ref b] meth c cL_law 9 ret wsL_law RL K (lA s)) (hX : va_X b L xs s s.heap) (hbl : b < s.heap.size) {d0 : Drawn} (hd0 : s.drawn.sameBut d0 lw_cs) {i : Int} {k n : Nat} {qm q : Nat → Nat} {o : Nat} {g : Nat → Int64} {S T : Nat → Int → Int} (I : LI S T) (hi : 0 ≤ i ∧ i + 4 ≤ L) (hkn : k + 1 ≤ 1054 ∧ n + 6 ≤ 11758)
    (hE : ∀ (S2 T2 : Nat → Int → Int) (g2 : Nat → Int64) (k2 n2 : Nat) (d1 : Drawn), s.drawn.sameBut d1 lw_cs → LI S2 T2 → k2 ≤ k + 1 → n2 ≤ n + 6 → hG p l e room_1 (s.setDrawn d1) m #[.ref b] below meth c 9 K (lA s) k2 n2 (lw_Z below #[.ref b] s) 1415 [(4, .int (iI i)), (3, .ref o), (2, .ref (qm 0)), (1, .ref (q 0)), (0, .ref b)] [] (lwW K qm T2 o g2 q S2)) : hG p l e room_1 (s.setDrawn d0) m #[.ref b] below meth c 9 K (lA s) k n (lw_Z below #[.ref b] s) 367 [(4, .int (iI i)), (3, .ref o), (2, .ref (qm 0)), (1, .ref (q 0)), (0, .ref b)] [] (lwW K qm T o g q S) := by
  have C := C0.dr d0
  have hbA : ¬ lA s b := Nat.not_le.mpr hbl
  have hHT := I.2.2.1
  have hf := I.hf
  have hh := I.hh
  have hY := I.Y
  refine g_aload_n (pc := 367) C dL_law_367 rfl rfl ?_
  refine g_aload_n (pc := 368) C dL_law_368 rfl rfl ?_
  refine g_iload (pc := 369) C dL_law_369 rfl ?_
  refine g_iconst (pc := 371) C dL_law_371 ?_
  refine g_iadd (pc := 372) C dL_law_372 ?_
  refine g_sld (pc := 373) C hX hbl hbA (by omega) dL_law_373 ?_
  refine g_aload_n (pc := 374) C dL_law_374 rfl rfl ?_
  refine g_iload (pc := 375) C dL_law_375 rfl ?_
  refine g_iconst (pc := 377) C dL_law_377 ?_
  refine g_iadd (pc := 378) C dL_law_378 ?_
  refine g_sld (pc := 379) C hX hbl hbA (by omega) dL_law_379 ?_
  refine g_aload_n (pc := 380) C dL_law_380 rfl rfl ?_
  refine g_callSHF (pc := 381) (wc := (o, aJ K 1 g) :: wX K q S) (wr := wM K qm T) (As := [.ref (q 0), .int (iI (xI xs (i + 1))), .int (iI (xI xs (i + 2))), .ref o]) (rest := []) C [11, 12, 13, 14, 15, 16, 17, 18, 19, 20, 21, 22, 23, 24, 25, 26] [0, 1, 2, 3, 4, 5, 6, 7, 8, 9, 10] rfl rfl (by decide) (by decide) (by decide) (h_turn l hlt K q S I.1 I.2.1 o g (xI xs (i + 1)) (xI xs (i + 2)) (xI_b xs _) (xI_b xs _)) (vx_cwSW 4 C.hts gL_law_L_turn rfl rfl rfl ⟨by decide, by decide, by decide +kernel⟩ ⟨by decide, by decide⟩) dL_law_381 rfl (Nat.le_of_ble_eq_true rfl) hkn (fun z w hp => ?_)
  obtain ⟨g2, S2, rfl, hR⟩ := hp
  refine g_istore (pc := 384) (lv' := [(5, .int (iI z)), (4, .int (iI i)), (3, .ref o), (2, .ref (qm 0)), (1, .ref (q 0)), (0, .ref b)]) C dL_law_384 (by decide) rfl ?_
  refine g_aload_n (pc := 386) C dL_law_386 rfl rfl ?_
  refine g_aload_n (pc := 387) C dL_law_387 rfl rfl ?_
  refine g_iload (pc := 388) C dL_law_388 rfl ?_
  refine g_iconst (pc := 390) C dL_law_390 ?_
  refine g_iadd (pc := 391) C dL_law_391 ?_
  refine g_sld (pc := 392) C hX hbl hbA (by omega) dL_law_392 ?_
  refine g_aload_n (pc := 393) C dL_law_393 rfl rfl ?_
  refine g_iload (pc := 394) C dL_law_394 rfl ?_
  refine g_iconst (pc := 396) C dL_law_396 ?_
  refine g_iadd (pc := 397) C dL_law_397 ?_
  refine g_sld (pc := 398) C hX hbl hbA (by omega) dL_law_398 ?_
  refine g_callVIF (pc := 399) (wc := wM K qm T) (wr := (o, aJ K 1 g2) :: wX K q S2) (As := [.int (iI (xI xs (i + 1))), .int (iI (xI xs (i + 2)))]) (rest := []) C [0, 1, 2, 3, 4, 5, 6, 7, 8, 9, 10] [11, 12, 13, 14, 15, 16, 17, 18, 19, 20, 21, 22, 23, 24, 25, 26] rfl rfl (by decide) (by decide) (by decide) (c_X2_turn l K qm T hHT hf hh (xI xs (i + 1)) (xI xs (i + 2)) (xI_b xs _) (xI_b xs _)) (cwV 2 C.hts gL_law_X2_turn rfl rfl rfl (by decide +kernel) ⟨by decide, by decide⟩) 0 rfl rfl dL_law_399 rfl (Nat.le_of_ble_eq_true rfl) hkn (fun bb w mp => ?_)
  obtain ⟨T2, rfl, hLI, hT0, hzr, hg⟩ := pair_turn I hR mp
  refine g_perm [16, 17, 18, 19, 20, 21, 22, 23, 24, 25, 26, 0, 1, 2, 3, 4, 5, 6, 7, 8, 9, 10, 11, 12, 13, 14, 15] (by decide) (ws' := lwW K qm T2 o g2 q S2) rfl ?_
  refine g_istore (pc := 402) (lv' := [(6, .int (iI bb)), (5, .int (iI z)), (4, .int (iI i)), (3, .ref o), (2, .ref (qm 0)), (1, .ref (q 0)), (0, .ref b)]) C dL_law_402 (by decide) rfl ?_
  refine g_aload_n (pc := 404) C dL_law_404 rfl rfl ?_
  refine g_callVIF (pc := 405) (wc := wM K qm T2) (wr := (o, aJ K 1 g2) :: wX K q S2) (As := []) (rest := []) C [0, 1, 2, 3, 4, 5, 6, 7, 8, 9, 10] [11, 12, 13, 14, 15, 16, 17, 18, 19, 20, 21, 22, 23, 24, 25, 26] rfl rfl (by decide) (by decide) (by decide) (c_X2_thrown l K qm T2) (cwV 0 C.hts gL_law_X2_thrown rfl rfl rfl (by decide +kernel) ⟨by decide, by decide⟩) 0 rfl rfl dL_law_405 rfl (Nat.le_of_ble_eq_true rfl) hkn (fun tz w tp => ?_)
  obtain ⟨htz, rfl⟩ := tp
  rw [htz.trans hT0]
  refine g_perm [16, 17, 18, 19, 20, 21, 22, 23, 24, 25, 26, 0, 1, 2, 3, 4, 5, 6, 7, 8, 9, 10, 11, 12, 13, 14, 15] (by decide) (ws' := lwW K qm T2 o g2 q S2) rfl ?_
  refine g_iload (pc := 408) C dL_law_408 rfl ?_
  refine g_icmp_eqS (pc := 410) (tgt := 415) C dL_law_410 (by decide) ?_
  refine g_iload (pc := 415) C dL_law_415 rfl ?_
  refine g_if_ne (pc := 417) (tgt := 432) C dL_law_417 (by decide) (by omega) (fun c1 => ?_) (fun c1 => ?_)
  · skip
    refine g_goto (pc := 432) (tgt := 1415) (C0.dr d0) dL_law_432 (by decide) ?_
    refine g_sub (lv' := [(4, .int (iI i)), (3, .ref o), (2, .ref (qm 0)), (1, .ref (q 0)), (0, .ref b)]) [2, 3, 4, 5, 6] rfl ?_
    exact hE S2 T2 g2 (k + 1) (n + 6) d0 hd0 hLI (by omega) (by omega)
  · have hg1 := hg (by omega)
    refine g_aload_n (pc := 420) C dL_law_420 rfl rfl ?_
    refine g_iconst (pc := 421) C dL_law_421 ?_
    refine g_laload (pc := 422) C 11 rfl (by decide) dL_law_422 ?_
    refine g_iload (pc := 423) C dL_law_423 rfl ?_
    refine g_i2lr (pc := 425) C dL_law_425 ?_
    rw [show g2 (0 : Int).toNat = (iI bb).toInt64 from hg1]
    refine g_lcmp_same (pc := 426) C dL_law_426 ?_
    refine g_if_eq (pc := 427) (tgt := 432) C dL_law_427 (by decide) (by decide) (fun _ => ?_) (fun cn => absurd rfl cn)
    refine g_goto (pc := 432) (tgt := 1415) (C0.dr d0) dL_law_432 (by decide) ?_
    refine g_sub (lv' := [(4, .int (iI i)), (3, .ref o), (2, .ref (qm 0)), (1, .ref (q 0)), (0, .ref b)]) [2, 3, 4, 5, 6] rfl ?_
    exact hE S2 T2 g2 (k + 1) (n + 6) d0 hd0 hLI (by omega) (by omega)
set_option maxHeartbeats 400000 in
set_option maxRecDepth 100000 in
theorem lc_turnAll {p : Program} {e : Env} {s : State} {m : MethodId} {below : List Frame} {meth : Method} {c : Code} (l : Launch) (hlt : l.stackTraces = false) {b L : Nat} {xs : Nat → Int32} (hL : L ≤ 2048) (K : KK) (C0 : hCx p s m #[.ref b] meth c cL_law 9 ret wsL_law RL K (lA s)) (hX : va_X b L xs s s.heap) (hbl : b < s.heap.size) {d0 : Drawn} (hd0 : s.drawn.sameBut d0 lw_cs) {i : Int} {k n : Nat} {qm q : Nat → Nat} {o : Nat} {g : Nat → Int64} {S T : Nat → Int → Int} (I : LI S T) (hi : 0 ≤ i ∧ i + 4 ≤ L) (hkn : k + 1 ≤ 1054 ∧ n + 6 ≤ 11758)
    (hE : ∀ (S2 T2 : Nat → Int → Int) (g2 : Nat → Int64) (k2 n2 : Nat) (d1 : Drawn), s.drawn.sameBut d1 lw_cs → LI S2 T2 → k2 ≤ k + 1 → n2 ≤ n + 6 → hG p l e room_1 (s.setDrawn d1) m #[.ref b] below meth c 9 K (lA s) k2 n2 (lw_Z below #[.ref b] s) 1415 [(4, .int (iI i)), (3, .ref o), (2, .ref (qm 0)), (1, .ref (q 0)), (0, .ref b)] [] (lwW K qm T2 o g2 q S2)) : hG p l e room_1 (s.setDrawn d0) m #[.ref b] below meth c 9 K (lA s) k n (lw_Z below #[.ref b] s) 435 [(4, .int (iI i)), (3, .ref o), (2, .ref (qm 0)), (1, .ref (q 0)), (0, .ref b)] [] (lwW K qm T o g q S) := by
  have C := C0.dr d0
  have hbA : ¬ lA s b := Nat.not_le.mpr hbl
  have hHT := I.2.2.1
  have hf := I.hf
  have hh := I.hh
  have hY := I.Y
  refine g_aload_n (pc := 435) C dL_law_435 rfl rfl ?_
  refine g_aload_n (pc := 436) C dL_law_436 rfl rfl ?_
  refine g_iload (pc := 437) C dL_law_437 rfl ?_
  refine g_iconst (pc := 439) C dL_law_439 ?_
  refine g_iadd (pc := 440) C dL_law_440 ?_
  refine g_sld (pc := 441) C hX hbl hbA (by omega) dL_law_441 ?_
  refine g_aload_n (pc := 442) C dL_law_442 rfl rfl ?_
  refine g_callSHF (pc := 443) (wc := (o, aJ K 1 g) :: wX K q S) (wr := wM K qm T) (As := [.ref (q 0), .int (iI (xI xs (i + 1))), .ref o]) (rest := []) C [11, 12, 13, 14, 15, 16, 17, 18, 19, 20, 21, 22, 23, 24, 25, 26] [0, 1, 2, 3, 4, 5, 6, 7, 8, 9, 10] rfl rfl (by decide) (by decide) (by decide) (h_turnAll l hlt K q S I.1 I.2.1 o g (xI xs (i + 1)) (xI_b xs _)) (vx_cwSW 3 C.hts gL_law_L_turnAll rfl rfl rfl ⟨by decide, by decide, by decide +kernel⟩ ⟨by decide, by decide⟩) dL_law_443 rfl (Nat.le_of_ble_eq_true rfl) hkn (fun z w hp => ?_)
  obtain ⟨g2, S2, rfl, hR⟩ := hp
  refine g_istore (pc := 446) (lv' := [(5, .int (iI z)), (4, .int (iI i)), (3, .ref o), (2, .ref (qm 0)), (1, .ref (q 0)), (0, .ref b)]) C dL_law_446 (by decide) rfl ?_
  refine g_aload_n (pc := 448) C dL_law_448 rfl rfl ?_
  refine g_aload_n (pc := 449) C dL_law_449 rfl rfl ?_
  refine g_iload (pc := 450) C dL_law_450 rfl ?_
  refine g_iconst (pc := 452) C dL_law_452 ?_
  refine g_iadd (pc := 453) C dL_law_453 ?_
  refine g_sld (pc := 454) C hX hbl hbA (by omega) dL_law_454 ?_
  refine g_callVIF (pc := 455) (wc := wM K qm T) (wr := (o, aJ K 1 g2) :: wX K q S2) (As := [.int (iI (xI xs (i + 1)))]) (rest := []) C [0, 1, 2, 3, 4, 5, 6, 7, 8, 9, 10] [11, 12, 13, 14, 15, 16, 17, 18, 19, 20, 21, 22, 23, 24, 25, 26] rfl rfl (by decide) (by decide) (by decide) (c_X2_turnAll l K qm T hHT hf hh (xI xs (i + 1)) (xI_b xs _)) (cwV 1 C.hts gL_law_X2_turnAll rfl rfl rfl (by decide +kernel) ⟨by decide, by decide⟩) 0 rfl rfl dL_law_455 rfl (Nat.le_of_ble_eq_true rfl) hkn (fun bb w mp => ?_)
  obtain ⟨T2, rfl, hLI, hT0, hzr, hg⟩ := pair_turnAll I hR mp
  refine g_perm [16, 17, 18, 19, 20, 21, 22, 23, 24, 25, 26, 0, 1, 2, 3, 4, 5, 6, 7, 8, 9, 10, 11, 12, 13, 14, 15] (by decide) (ws' := lwW K qm T2 o g2 q S2) rfl ?_
  refine g_istore (pc := 458) (lv' := [(6, .int (iI bb)), (5, .int (iI z)), (4, .int (iI i)), (3, .ref o), (2, .ref (qm 0)), (1, .ref (q 0)), (0, .ref b)]) C dL_law_458 (by decide) rfl ?_
  refine g_aload_n (pc := 460) C dL_law_460 rfl rfl ?_
  refine g_callVIF (pc := 461) (wc := wM K qm T2) (wr := (o, aJ K 1 g2) :: wX K q S2) (As := []) (rest := []) C [0, 1, 2, 3, 4, 5, 6, 7, 8, 9, 10] [11, 12, 13, 14, 15, 16, 17, 18, 19, 20, 21, 22, 23, 24, 25, 26] rfl rfl (by decide) (by decide) (by decide) (c_X2_thrown l K qm T2) (cwV 0 C.hts gL_law_X2_thrown rfl rfl rfl (by decide +kernel) ⟨by decide, by decide⟩) 0 rfl rfl dL_law_461 rfl (Nat.le_of_ble_eq_true rfl) hkn (fun tz w tp => ?_)
  obtain ⟨htz, rfl⟩ := tp
  rw [htz.trans hT0]
  refine g_perm [16, 17, 18, 19, 20, 21, 22, 23, 24, 25, 26, 0, 1, 2, 3, 4, 5, 6, 7, 8, 9, 10, 11, 12, 13, 14, 15] (by decide) (ws' := lwW K qm T2 o g2 q S2) rfl ?_
  refine g_iload (pc := 464) C dL_law_464 rfl ?_
  refine g_icmp_eqS (pc := 466) (tgt := 471) C dL_law_466 (by decide) ?_
  refine g_iload (pc := 471) C dL_law_471 rfl ?_
  refine g_if_ne (pc := 473) (tgt := 488) C dL_law_473 (by decide) (by omega) (fun c1 => ?_) (fun c1 => ?_)
  · skip
    refine g_goto (pc := 488) (tgt := 1415) (C0.dr d0) dL_law_488 (by decide) ?_
    refine g_sub (lv' := [(4, .int (iI i)), (3, .ref o), (2, .ref (qm 0)), (1, .ref (q 0)), (0, .ref b)]) [2, 3, 4, 5, 6] rfl ?_
    exact hE S2 T2 g2 (k + 1) (n + 6) d0 hd0 hLI (by omega) (by omega)
  · have hg1 := hg (by omega)
    refine g_aload_n (pc := 476) C dL_law_476 rfl rfl ?_
    refine g_iconst (pc := 477) C dL_law_477 ?_
    refine g_laload (pc := 478) C 11 rfl (by decide) dL_law_478 ?_
    refine g_iload (pc := 479) C dL_law_479 rfl ?_
    refine g_i2lr (pc := 481) C dL_law_481 ?_
    rw [show g2 (0 : Int).toNat = (iI bb).toInt64 from hg1]
    refine g_lcmp_same (pc := 482) C dL_law_482 ?_
    refine g_if_eq (pc := 483) (tgt := 488) C dL_law_483 (by decide) (by decide) (fun _ => ?_) (fun cn => absurd rfl cn)
    refine g_goto (pc := 488) (tgt := 1415) (C0.dr d0) dL_law_488 (by decide) ?_
    refine g_sub (lv' := [(4, .int (iI i)), (3, .ref o), (2, .ref (qm 0)), (1, .ref (q 0)), (0, .ref b)]) [2, 3, 4, 5, 6] rfl ?_
    exact hE S2 T2 g2 (k + 1) (n + 6) d0 hd0 hLI (by omega) (by omega)
set_option maxHeartbeats 400000 in
set_option maxRecDepth 100000 in
theorem lc_at {p : Program} {e : Env} {s : State} {m : MethodId} {below : List Frame} {meth : Method} {c : Code} (l : Launch) (hlt : l.stackTraces = false) {b L : Nat} {xs : Nat → Int32} (hL : L ≤ 2048) (K : KK) (C0 : hCx p s m #[.ref b] meth c cL_law 9 ret wsL_law RL K (lA s)) (hX : va_X b L xs s s.heap) (hbl : b < s.heap.size) {d0 : Drawn} (hd0 : s.drawn.sameBut d0 lw_cs) {i : Int} {k n : Nat} {qm q : Nat → Nat} {o : Nat} {g : Nat → Int64} {S T : Nat → Int → Int} (I : LI S T) (hi : 0 ≤ i ∧ i + 4 ≤ L) (hkn : k + 1 ≤ 1054 ∧ n + 6 ≤ 11758)
    (hE : ∀ (S2 T2 : Nat → Int → Int) (g2 : Nat → Int64) (k2 n2 : Nat) (d1 : Drawn), s.drawn.sameBut d1 lw_cs → LI S2 T2 → k2 ≤ k + 1 → n2 ≤ n + 6 → hG p l e room_1 (s.setDrawn d1) m #[.ref b] below meth c 9 K (lA s) k2 n2 (lw_Z below #[.ref b] s) 1415 [(4, .int (iI i)), (3, .ref o), (2, .ref (qm 0)), (1, .ref (q 0)), (0, .ref b)] [] (lwW K qm T2 o g2 q S2)) : hG p l e room_1 (s.setDrawn d0) m #[.ref b] below meth c 9 K (lA s) k n (lw_Z below #[.ref b] s) 491 [(4, .int (iI i)), (3, .ref o), (2, .ref (qm 0)), (1, .ref (q 0)), (0, .ref b)] [] (lwW K qm T o g q S) := by
  have C := C0.dr d0
  have hbA : ¬ lA s b := Nat.not_le.mpr hbl
  have hHT := I.2.2.1
  have hf := I.hf
  have hh := I.hh
  have hY := I.Y
  have hn1 := I.2.2.2.2.1
  have hk1 := I.2.2.2.1
  refine g_aload_n (pc := 491) C dL_law_491 rfl rfl ?_
  refine g_aload_n (pc := 492) C dL_law_492 rfl rfl ?_
  refine g_iload (pc := 493) C dL_law_493 rfl ?_
  refine g_iconst (pc := 495) C dL_law_495 ?_
  refine g_iadd (pc := 496) C dL_law_496 ?_
  refine g_sld (pc := 497) C hX hbl hbA (by omega) dL_law_497 ?_
  refine g_aload_n (pc := 498) C dL_law_498 rfl rfl ?_
  refine g_iload (pc := 499) C dL_law_499 rfl ?_
  refine g_iconst (pc := 501) C dL_law_501 ?_
  refine g_iadd (pc := 502) C dL_law_502 ?_
  refine g_sld (pc := 503) C hX hbl hbA (by omega) dL_law_503 ?_
  refine g_callVIF (pc := 504) (wc := wX K q S) (wr := wM K qm T ++ [(o, aJ K 1 g)]) (As := [.int (iI (xI xs (i + 1))), .int (iI (xI xs (i + 2)))]) (rest := []) C [12, 13, 14, 15, 16, 17, 18, 19, 20, 21, 22, 23, 24, 25, 26] [0, 1, 2, 3, 4, 5, 6, 7, 8, 9, 10, 11] rfl rfl (by decide) (by decide) (by decide) (c_X1_at l K q S I.1 I.2.1 (xI xs (i + 1)) (xI xs (i + 2)) (xI_b xs _) (xI_b xs _)) (cwV 2 C.hts gL_law_X1_at rfl rfl rfl (by decide +kernel) ⟨by decide, by decide⟩) 0 rfl rfl dL_law_504 rfl (Nat.le_of_ble_eq_true rfl) ⟨by show k ≤ 1054; omega, by show n ≤ 11758; omega⟩ (fun za w hp => ?_)
  obtain ⟨hza, S2, rfl, hU⟩ := hp
  refine g_perm [0, 1, 2, 3, 4, 5, 6, 7, 8, 9, 10, 11, 12, 13, 14, 15, 16, 17, 18, 19, 20, 21, 22, 23, 24, 25, 26] (by decide) (ws' := lwW K qm T o g q S2) rfl ?_
  refine g_aload_n (pc := 507) C dL_law_507 rfl rfl ?_
  refine g_aload_n (pc := 508) C dL_law_508 rfl rfl ?_
  refine g_iload (pc := 509) C dL_law_509 rfl ?_
  refine g_iconst (pc := 511) C dL_law_511 ?_
  refine g_iadd (pc := 512) C dL_law_512 ?_
  refine g_sld (pc := 513) C hX hbl hbA (by omega) dL_law_513 ?_
  refine g_aload_n (pc := 514) C dL_law_514 rfl rfl ?_
  refine g_iload (pc := 515) C dL_law_515 rfl ?_
  refine g_iconst (pc := 517) C dL_law_517 ?_
  refine g_iadd (pc := 518) C dL_law_518 ?_
  refine g_sld (pc := 519) C hX hbl hbA (by omega) dL_law_519 ?_
  refine g_callVIF (pc := 520) (wc := wM K qm T) (wr := (o, aJ K 1 g) :: wX K q S2) (As := [.int (iI (xI xs (i + 1))), .int (iI (xI xs (i + 2)))]) (rest := [.int (iI za)]) C [0, 1, 2, 3, 4, 5, 6, 7, 8, 9, 10] [11, 12, 13, 14, 15, 16, 17, 18, 19, 20, 21, 22, 23, 24, 25, 26] rfl rfl (by decide) (by decide) (by decide) (c_X2_at l K qm T hHT hf hh (xI xs (i + 1)) (xI xs (i + 2)) (xI_b xs _) (xI_b xs _)) (cwV 2 C.hts gL_law_X2_at rfl rfl rfl (by decide +kernel) ⟨by decide, by decide⟩) 0 rfl rfl dL_law_520 rfl (Nat.le_of_ble_eq_true rfl) ⟨by show k ≤ 1054; omega, by show n ≤ 11758; omega⟩ (fun zb w hp => ?_)
  obtain ⟨-, hzb, T2, rfl, V⟩ := hp
  have hab : za = zb := by rw [hza, hzb, hn1]
  subst hab
  have hLI := (LI_same I hU V).1
  refine g_perm [16, 17, 18, 19, 20, 21, 22, 23, 24, 25, 26, 0, 1, 2, 3, 4, 5, 6, 7, 8, 9, 10, 11, 12, 13, 14, 15] (by decide) (ws' := lwW K qm T2 o g q S2) rfl ?_
  refine g_icmp_eqS (pc := 523) (tgt := 1415) C dL_law_523 (by decide) ?_
  exact hE S2 T2 g k n d0 hd0 hLI (by omega) (by omega)
set_option maxHeartbeats 400000 in
set_option maxRecDepth 100000 in
theorem lc_about {p : Program} {e : Env} {s : State} {m : MethodId} {below : List Frame} {meth : Method} {c : Code} (l : Launch) (hlt : l.stackTraces = false) {b L : Nat} {xs : Nat → Int32} (hL : L ≤ 2048) (K : KK) (C0 : hCx p s m #[.ref b] meth c cL_law 9 ret wsL_law RL K (lA s)) (hX : va_X b L xs s s.heap) (hbl : b < s.heap.size) {d0 : Drawn} (hd0 : s.drawn.sameBut d0 lw_cs) {i : Int} {k n : Nat} {qm q : Nat → Nat} {o : Nat} {g : Nat → Int64} {S T : Nat → Int → Int} (I : LI S T) (hi : 0 ≤ i ∧ i + 4 ≤ L) (hkn : k + 1 ≤ 1054 ∧ n + 6 ≤ 11758)
    (hE : ∀ (S2 T2 : Nat → Int → Int) (g2 : Nat → Int64) (k2 n2 : Nat) (d1 : Drawn), s.drawn.sameBut d1 lw_cs → LI S2 T2 → k2 ≤ k + 1 → n2 ≤ n + 6 → hG p l e room_1 (s.setDrawn d1) m #[.ref b] below meth c 9 K (lA s) k2 n2 (lw_Z below #[.ref b] s) 1415 [(4, .int (iI i)), (3, .ref o), (2, .ref (qm 0)), (1, .ref (q 0)), (0, .ref b)] [] (lwW K qm T2 o g2 q S2)) : hG p l e room_1 (s.setDrawn d0) m #[.ref b] below meth c 9 K (lA s) k n (lw_Z below #[.ref b] s) 528 [(4, .int (iI i)), (3, .ref o), (2, .ref (qm 0)), (1, .ref (q 0)), (0, .ref b)] [] (lwW K qm T o g q S) := by
  have C := C0.dr d0
  have hbA : ¬ lA s b := Nat.not_le.mpr hbl
  have hHT := I.2.2.1
  have hf := I.hf
  have hh := I.hh
  have hY := I.Y
  refine g_aload_n (pc := 528) C dL_law_528 rfl rfl ?_
  refine g_aload_n (pc := 529) C dL_law_529 rfl rfl ?_
  refine g_iload (pc := 530) C dL_law_530 rfl ?_
  refine g_iconst (pc := 532) C dL_law_532 ?_
  refine g_iadd (pc := 533) C dL_law_533 ?_
  refine g_sld (pc := 534) C hX hbl hbA (by omega) dL_law_534 ?_
  refine g_aload_n (pc := 535) C dL_law_535 rfl rfl ?_
  refine g_iload (pc := 536) C dL_law_536 rfl ?_
  refine g_iconst (pc := 538) C dL_law_538 ?_
  refine g_iadd (pc := 539) C dL_law_539 ?_
  refine g_sld (pc := 540) C hX hbl hbA (by omega) dL_law_540 ?_
  refine g_aload_n (pc := 541) C dL_law_541 rfl rfl ?_
  refine g_callSHF (pc := 542) (wc := (o, aJ K 1 g) :: wX K q S) (wr := wM K qm T) (As := [.ref (q 0), .int (iI (xI xs (i + 1))), .int (iI (xI xs (i + 2))), .ref o]) (rest := []) C [11, 12, 13, 14, 15, 16, 17, 18, 19, 20, 21, 22, 23, 24, 25, 26] [0, 1, 2, 3, 4, 5, 6, 7, 8, 9, 10] rfl rfl (by decide) (by decide) (by decide) (h_about l hlt K q S I.1 I.2.1 o g (xI xs (i + 1)) (xI xs (i + 2)) (xI_b xs _) (xI_b xs _)) (vx_cwSW 4 C.hts gL_law_L_about rfl rfl rfl ⟨by decide, by decide, by decide +kernel⟩ ⟨by decide, by decide⟩) dL_law_542 rfl (Nat.le_of_ble_eq_true rfl) hkn (fun z w hp => ?_)
  obtain ⟨g2, S2, rfl, hR⟩ := hp
  refine g_istore (pc := 545) (lv' := [(5, .int (iI z)), (4, .int (iI i)), (3, .ref o), (2, .ref (qm 0)), (1, .ref (q 0)), (0, .ref b)]) C dL_law_545 (by decide) rfl ?_
  refine g_aload_n (pc := 547) C dL_law_547 rfl rfl ?_
  refine g_aload_n (pc := 548) C dL_law_548 rfl rfl ?_
  refine g_iload (pc := 549) C dL_law_549 rfl ?_
  refine g_iconst (pc := 551) C dL_law_551 ?_
  refine g_iadd (pc := 552) C dL_law_552 ?_
  refine g_sld (pc := 553) C hX hbl hbA (by omega) dL_law_553 ?_
  refine g_aload_n (pc := 554) C dL_law_554 rfl rfl ?_
  refine g_iload (pc := 555) C dL_law_555 rfl ?_
  refine g_iconst (pc := 557) C dL_law_557 ?_
  refine g_iadd (pc := 558) C dL_law_558 ?_
  refine g_sld (pc := 559) C hX hbl hbA (by omega) dL_law_559 ?_
  refine g_callVIF (pc := 560) (wc := wM K qm T) (wr := (o, aJ K 1 g2) :: wX K q S2) (As := [.int (iI (xI xs (i + 1))), .int (iI (xI xs (i + 2)))]) (rest := []) C [0, 1, 2, 3, 4, 5, 6, 7, 8, 9, 10] [11, 12, 13, 14, 15, 16, 17, 18, 19, 20, 21, 22, 23, 24, 25, 26] rfl rfl (by decide) (by decide) (by decide) (c_X2_about l K qm T hHT hf hh (xI xs (i + 1)) (xI xs (i + 2)) (xI_b xs _) (xI_b xs _)) (cwV 2 C.hts gL_law_X2_about rfl rfl rfl (by decide +kernel) ⟨by decide, by decide⟩) 0 rfl rfl dL_law_560 rfl (Nat.le_of_ble_eq_true rfl) hkn (fun bb w mp => ?_)
  obtain ⟨T2, rfl, hLI, hT0, hzr, hg⟩ := pair_about I hR mp
  refine g_perm [16, 17, 18, 19, 20, 21, 22, 23, 24, 25, 26, 0, 1, 2, 3, 4, 5, 6, 7, 8, 9, 10, 11, 12, 13, 14, 15] (by decide) (ws' := lwW K qm T2 o g2 q S2) rfl ?_
  refine g_istore (pc := 563) (lv' := [(6, .int (iI bb)), (5, .int (iI z)), (4, .int (iI i)), (3, .ref o), (2, .ref (qm 0)), (1, .ref (q 0)), (0, .ref b)]) C dL_law_563 (by decide) rfl ?_
  refine g_aload_n (pc := 565) C dL_law_565 rfl rfl ?_
  refine g_callVIF (pc := 566) (wc := wM K qm T2) (wr := (o, aJ K 1 g2) :: wX K q S2) (As := []) (rest := []) C [0, 1, 2, 3, 4, 5, 6, 7, 8, 9, 10] [11, 12, 13, 14, 15, 16, 17, 18, 19, 20, 21, 22, 23, 24, 25, 26] rfl rfl (by decide) (by decide) (by decide) (c_X2_thrown l K qm T2) (cwV 0 C.hts gL_law_X2_thrown rfl rfl rfl (by decide +kernel) ⟨by decide, by decide⟩) 0 rfl rfl dL_law_566 rfl (Nat.le_of_ble_eq_true rfl) hkn (fun tz w tp => ?_)
  obtain ⟨htz, rfl⟩ := tp
  rw [htz.trans hT0]
  refine g_perm [16, 17, 18, 19, 20, 21, 22, 23, 24, 25, 26, 0, 1, 2, 3, 4, 5, 6, 7, 8, 9, 10, 11, 12, 13, 14, 15] (by decide) (ws' := lwW K qm T2 o g2 q S2) rfl ?_
  refine g_iload (pc := 569) C dL_law_569 rfl ?_
  refine g_icmp_eqS (pc := 571) (tgt := 576) C dL_law_571 (by decide) ?_
  refine g_iload (pc := 576) C dL_law_576 rfl ?_
  refine g_if_ne (pc := 578) (tgt := 593) C dL_law_578 (by decide) (by omega) (fun c1 => ?_) (fun c1 => ?_)
  · skip
    refine g_goto (pc := 593) (tgt := 1415) (C0.dr d0) dL_law_593 (by decide) ?_
    refine g_sub (lv' := [(4, .int (iI i)), (3, .ref o), (2, .ref (qm 0)), (1, .ref (q 0)), (0, .ref b)]) [2, 3, 4, 5, 6] rfl ?_
    exact hE S2 T2 g2 (k + 1) (n + 6) d0 hd0 hLI (by omega) (by omega)
  · have hg1 := hg (by omega)
    refine g_aload_n (pc := 581) C dL_law_581 rfl rfl ?_
    refine g_iconst (pc := 582) C dL_law_582 ?_
    refine g_laload (pc := 583) C 11 rfl (by decide) dL_law_583 ?_
    refine g_iload (pc := 584) C dL_law_584 rfl ?_
    refine g_i2lr (pc := 586) C dL_law_586 ?_
    rw [show g2 (0 : Int).toNat = (iI bb).toInt64 from hg1]
    refine g_lcmp_same (pc := 587) C dL_law_587 ?_
    refine g_if_eq (pc := 588) (tgt := 593) C dL_law_588 (by decide) (by decide) (fun _ => ?_) (fun cn => absurd rfl cn)
    refine g_goto (pc := 593) (tgt := 1415) (C0.dr d0) dL_law_593 (by decide) ?_
    refine g_sub (lv' := [(4, .int (iI i)), (3, .ref o), (2, .ref (qm 0)), (1, .ref (q 0)), (0, .ref b)]) [2, 3, 4, 5, 6] rfl ?_
    exact hE S2 T2 g2 (k + 1) (n + 6) d0 hd0 hLI (by omega) (by omega)
set_option maxHeartbeats 400000 in
set_option maxRecDepth 100000 in
theorem lc_beside {p : Program} {e : Env} {s : State} {m : MethodId} {below : List Frame} {meth : Method} {c : Code} (l : Launch) (hlt : l.stackTraces = false) {b L : Nat} {xs : Nat → Int32} (hL : L ≤ 2048) (K : KK) (C0 : hCx p s m #[.ref b] meth c cL_law 9 ret wsL_law RL K (lA s)) (hX : va_X b L xs s s.heap) (hbl : b < s.heap.size) {d0 : Drawn} (hd0 : s.drawn.sameBut d0 lw_cs) {i : Int} {k n : Nat} {qm q : Nat → Nat} {o : Nat} {g : Nat → Int64} {S T : Nat → Int → Int} (I : LI S T) (hi : 0 ≤ i ∧ i + 4 ≤ L) (hkn : k + 1 ≤ 1054 ∧ n + 6 ≤ 11758)
    (hE : ∀ (S2 T2 : Nat → Int → Int) (g2 : Nat → Int64) (k2 n2 : Nat) (d1 : Drawn), s.drawn.sameBut d1 lw_cs → LI S2 T2 → k2 ≤ k + 1 → n2 ≤ n + 6 → hG p l e room_1 (s.setDrawn d1) m #[.ref b] below meth c 9 K (lA s) k2 n2 (lw_Z below #[.ref b] s) 1415 [(4, .int (iI i)), (3, .ref o), (2, .ref (qm 0)), (1, .ref (q 0)), (0, .ref b)] [] (lwW K qm T2 o g2 q S2)) : hG p l e room_1 (s.setDrawn d0) m #[.ref b] below meth c 9 K (lA s) k n (lw_Z below #[.ref b] s) 596 [(4, .int (iI i)), (3, .ref o), (2, .ref (qm 0)), (1, .ref (q 0)), (0, .ref b)] [] (lwW K qm T o g q S) := by
  have C := C0.dr d0
  have hbA : ¬ lA s b := Nat.not_le.mpr hbl
  have hHT := I.2.2.1
  have hf := I.hf
  have hh := I.hh
  have hY := I.Y
  refine g_aload_n (pc := 596) C dL_law_596 rfl rfl ?_
  refine g_aload_n (pc := 597) C dL_law_597 rfl rfl ?_
  refine g_iload (pc := 598) C dL_law_598 rfl ?_
  refine g_iconst (pc := 600) C dL_law_600 ?_
  refine g_iadd (pc := 601) C dL_law_601 ?_
  refine g_sld (pc := 602) C hX hbl hbA (by omega) dL_law_602 ?_
  refine g_aload_n (pc := 603) C dL_law_603 rfl rfl ?_
  refine g_iload (pc := 604) C dL_law_604 rfl ?_
  refine g_iconst (pc := 606) C dL_law_606 ?_
  refine g_iadd (pc := 607) C dL_law_607 ?_
  refine g_sld (pc := 608) C hX hbl hbA (by omega) dL_law_608 ?_
  refine g_aload_n (pc := 609) C dL_law_609 rfl rfl ?_
  refine g_callSHF (pc := 610) (wc := (o, aJ K 1 g) :: wX K q S) (wr := wM K qm T) (As := [.ref (q 0), .int (iI (xI xs (i + 1))), .int (iI (xI xs (i + 2))), .ref o]) (rest := []) C [11, 12, 13, 14, 15, 16, 17, 18, 19, 20, 21, 22, 23, 24, 25, 26] [0, 1, 2, 3, 4, 5, 6, 7, 8, 9, 10] rfl rfl (by decide) (by decide) (by decide) (h_beside l hlt K q S I.1 I.2.1 o g (xI xs (i + 1)) (xI xs (i + 2)) (xI_b xs _) (xI_b xs _)) (vx_cwSW 4 C.hts gL_law_L_beside rfl rfl rfl ⟨by decide, by decide, by decide +kernel⟩ ⟨by decide, by decide⟩) dL_law_610 rfl (Nat.le_of_ble_eq_true rfl) hkn (fun z w hp => ?_)
  obtain ⟨g2, S2, rfl, hR⟩ := hp
  refine g_istore (pc := 613) (lv' := [(5, .int (iI z)), (4, .int (iI i)), (3, .ref o), (2, .ref (qm 0)), (1, .ref (q 0)), (0, .ref b)]) C dL_law_613 (by decide) rfl ?_
  refine g_aload_n (pc := 615) C dL_law_615 rfl rfl ?_
  refine g_aload_n (pc := 616) C dL_law_616 rfl rfl ?_
  refine g_iload (pc := 617) C dL_law_617 rfl ?_
  refine g_iconst (pc := 619) C dL_law_619 ?_
  refine g_iadd (pc := 620) C dL_law_620 ?_
  refine g_sld (pc := 621) C hX hbl hbA (by omega) dL_law_621 ?_
  refine g_aload_n (pc := 622) C dL_law_622 rfl rfl ?_
  refine g_iload (pc := 623) C dL_law_623 rfl ?_
  refine g_iconst (pc := 625) C dL_law_625 ?_
  refine g_iadd (pc := 626) C dL_law_626 ?_
  refine g_sld (pc := 627) C hX hbl hbA (by omega) dL_law_627 ?_
  refine g_callVIF (pc := 628) (wc := wM K qm T) (wr := (o, aJ K 1 g2) :: wX K q S2) (As := [.int (iI (xI xs (i + 1))), .int (iI (xI xs (i + 2)))]) (rest := []) C [0, 1, 2, 3, 4, 5, 6, 7, 8, 9, 10] [11, 12, 13, 14, 15, 16, 17, 18, 19, 20, 21, 22, 23, 24, 25, 26] rfl rfl (by decide) (by decide) (by decide) (c_X2_beside l K qm T hHT hf hh (xI xs (i + 1)) (xI xs (i + 2)) (xI_b xs _) (xI_b xs _)) (cwV 2 C.hts gL_law_X2_beside rfl rfl rfl (by decide +kernel) ⟨by decide, by decide⟩) 0 rfl rfl dL_law_628 rfl (Nat.le_of_ble_eq_true rfl) hkn (fun bb w mp => ?_)
  obtain ⟨T2, rfl, hLI, hT0, hzr, hg⟩ := pair_beside I hR mp
  refine g_perm [16, 17, 18, 19, 20, 21, 22, 23, 24, 25, 26, 0, 1, 2, 3, 4, 5, 6, 7, 8, 9, 10, 11, 12, 13, 14, 15] (by decide) (ws' := lwW K qm T2 o g2 q S2) rfl ?_
  refine g_istore (pc := 631) (lv' := [(6, .int (iI bb)), (5, .int (iI z)), (4, .int (iI i)), (3, .ref o), (2, .ref (qm 0)), (1, .ref (q 0)), (0, .ref b)]) C dL_law_631 (by decide) rfl ?_
  refine g_aload_n (pc := 633) C dL_law_633 rfl rfl ?_
  refine g_callVIF (pc := 634) (wc := wM K qm T2) (wr := (o, aJ K 1 g2) :: wX K q S2) (As := []) (rest := []) C [0, 1, 2, 3, 4, 5, 6, 7, 8, 9, 10] [11, 12, 13, 14, 15, 16, 17, 18, 19, 20, 21, 22, 23, 24, 25, 26] rfl rfl (by decide) (by decide) (by decide) (c_X2_thrown l K qm T2) (cwV 0 C.hts gL_law_X2_thrown rfl rfl rfl (by decide +kernel) ⟨by decide, by decide⟩) 0 rfl rfl dL_law_634 rfl (Nat.le_of_ble_eq_true rfl) hkn (fun tz w tp => ?_)
  obtain ⟨htz, rfl⟩ := tp
  rw [htz.trans hT0]
  refine g_perm [16, 17, 18, 19, 20, 21, 22, 23, 24, 25, 26, 0, 1, 2, 3, 4, 5, 6, 7, 8, 9, 10, 11, 12, 13, 14, 15] (by decide) (ws' := lwW K qm T2 o g2 q S2) rfl ?_
  refine g_iload (pc := 637) C dL_law_637 rfl ?_
  refine g_icmp_eqS (pc := 639) (tgt := 644) C dL_law_639 (by decide) ?_
  refine g_iload (pc := 644) C dL_law_644 rfl ?_
  refine g_if_ne (pc := 646) (tgt := 661) C dL_law_646 (by decide) (by omega) (fun c1 => ?_) (fun c1 => ?_)
  · skip
    refine g_goto (pc := 661) (tgt := 1415) (C0.dr d0) dL_law_661 (by decide) ?_
    refine g_sub (lv' := [(4, .int (iI i)), (3, .ref o), (2, .ref (qm 0)), (1, .ref (q 0)), (0, .ref b)]) [2, 3, 4, 5, 6] rfl ?_
    exact hE S2 T2 g2 (k + 1) (n + 6) d0 hd0 hLI (by omega) (by omega)
  · have hg1 := hg (by omega)
    refine g_aload_n (pc := 649) C dL_law_649 rfl rfl ?_
    refine g_iconst (pc := 650) C dL_law_650 ?_
    refine g_laload (pc := 651) C 11 rfl (by decide) dL_law_651 ?_
    refine g_iload (pc := 652) C dL_law_652 rfl ?_
    refine g_i2lr (pc := 654) C dL_law_654 ?_
    rw [show g2 (0 : Int).toNat = (iI bb).toInt64 from hg1]
    refine g_lcmp_same (pc := 655) C dL_law_655 ?_
    refine g_if_eq (pc := 656) (tgt := 661) C dL_law_656 (by decide) (by decide) (fun _ => ?_) (fun cn => absurd rfl cn)
    refine g_goto (pc := 661) (tgt := 1415) (C0.dr d0) dL_law_661 (by decide) ?_
    refine g_sub (lv' := [(4, .int (iI i)), (3, .ref o), (2, .ref (qm 0)), (1, .ref (q 0)), (0, .ref b)]) [2, 3, 4, 5, 6] rfl ?_
    exact hE S2 T2 g2 (k + 1) (n + 6) d0 hd0 hLI (by omega) (by omega)
set_option maxHeartbeats 400000 in
set_option maxRecDepth 100000 in
theorem lc_isShut {p : Program} {e : Env} {s : State} {m : MethodId} {below : List Frame} {meth : Method} {c : Code} (l : Launch) (hlt : l.stackTraces = false) {b L : Nat} {xs : Nat → Int32} (hL : L ≤ 2048) (K : KK) (C0 : hCx p s m #[.ref b] meth c cL_law 9 ret wsL_law RL K (lA s)) (hX : va_X b L xs s s.heap) (hbl : b < s.heap.size) {d0 : Drawn} (hd0 : s.drawn.sameBut d0 lw_cs) {i : Int} {k n : Nat} {qm q : Nat → Nat} {o : Nat} {g : Nat → Int64} {S T : Nat → Int → Int} (I : LI S T) (hi : 0 ≤ i ∧ i + 4 ≤ L) (hkn : k + 1 ≤ 1054 ∧ n + 6 ≤ 11758)
    (hE : ∀ (S2 T2 : Nat → Int → Int) (g2 : Nat → Int64) (k2 n2 : Nat) (d1 : Drawn), s.drawn.sameBut d1 lw_cs → LI S2 T2 → k2 ≤ k + 1 → n2 ≤ n + 6 → hG p l e room_1 (s.setDrawn d1) m #[.ref b] below meth c 9 K (lA s) k2 n2 (lw_Z below #[.ref b] s) 1415 [(4, .int (iI i)), (3, .ref o), (2, .ref (qm 0)), (1, .ref (q 0)), (0, .ref b)] [] (lwW K qm T2 o g2 q S2)) : hG p l e room_1 (s.setDrawn d0) m #[.ref b] below meth c 9 K (lA s) k n (lw_Z below #[.ref b] s) 664 [(4, .int (iI i)), (3, .ref o), (2, .ref (qm 0)), (1, .ref (q 0)), (0, .ref b)] [] (lwW K qm T o g q S) := by
  have C := C0.dr d0
  have hbA : ¬ lA s b := Nat.not_le.mpr hbl
  have hHT := I.2.2.1
  have hf := I.hf
  have hh := I.hh
  have hY := I.Y
  refine g_aload_n (pc := 664) C dL_law_664 rfl rfl ?_
  refine g_aload_n (pc := 665) C dL_law_665 rfl rfl ?_
  refine g_iload (pc := 666) C dL_law_666 rfl ?_
  refine g_iconst (pc := 668) C dL_law_668 ?_
  refine g_iadd (pc := 669) C dL_law_669 ?_
  refine g_sld (pc := 670) C hX hbl hbA (by omega) dL_law_670 ?_
  refine g_aload_n (pc := 671) C dL_law_671 rfl rfl ?_
  refine g_iload (pc := 672) C dL_law_672 rfl ?_
  refine g_iconst (pc := 674) C dL_law_674 ?_
  refine g_iadd (pc := 675) C dL_law_675 ?_
  refine g_sld (pc := 676) C hX hbl hbA (by omega) dL_law_676 ?_
  refine g_aload_n (pc := 677) C dL_law_677 rfl rfl ?_
  refine g_callSHF (pc := 678) (wc := (o, aJ K 1 g) :: wX K q S) (wr := wM K qm T) (As := [.ref (q 0), .int (iI (xI xs (i + 1))), .int (iI (xI xs (i + 2))), .ref o]) (rest := []) C [11, 12, 13, 14, 15, 16, 17, 18, 19, 20, 21, 22, 23, 24, 25, 26] [0, 1, 2, 3, 4, 5, 6, 7, 8, 9, 10] rfl rfl (by decide) (by decide) (by decide) (h_isShut l hlt K q S I.1 I.2.1 o g (xI xs (i + 1)) (xI xs (i + 2)) (xI_b xs _) (xI_b xs _)) (vx_cwSW 4 C.hts gL_law_L_isShut rfl rfl rfl ⟨by decide, by decide, by decide +kernel⟩ ⟨by decide, by decide⟩) dL_law_678 rfl (Nat.le_of_ble_eq_true rfl) hkn (fun z w hp => ?_)
  obtain ⟨g2, S2, rfl, hR⟩ := hp
  refine g_istore (pc := 681) (lv' := [(5, .int (iI z)), (4, .int (iI i)), (3, .ref o), (2, .ref (qm 0)), (1, .ref (q 0)), (0, .ref b)]) C dL_law_681 (by decide) rfl ?_
  refine g_aload_n (pc := 683) C dL_law_683 rfl rfl ?_
  refine g_aload_n (pc := 684) C dL_law_684 rfl rfl ?_
  refine g_iload (pc := 685) C dL_law_685 rfl ?_
  refine g_iconst (pc := 687) C dL_law_687 ?_
  refine g_iadd (pc := 688) C dL_law_688 ?_
  refine g_sld (pc := 689) C hX hbl hbA (by omega) dL_law_689 ?_
  refine g_aload_n (pc := 690) C dL_law_690 rfl rfl ?_
  refine g_iload (pc := 691) C dL_law_691 rfl ?_
  refine g_iconst (pc := 693) C dL_law_693 ?_
  refine g_iadd (pc := 694) C dL_law_694 ?_
  refine g_sld (pc := 695) C hX hbl hbA (by omega) dL_law_695 ?_
  refine g_callVIF (pc := 696) (wc := wM K qm T) (wr := (o, aJ K 1 g2) :: wX K q S2) (As := [.int (iI (xI xs (i + 1))), .int (iI (xI xs (i + 2)))]) (rest := []) C [0, 1, 2, 3, 4, 5, 6, 7, 8, 9, 10] [11, 12, 13, 14, 15, 16, 17, 18, 19, 20, 21, 22, 23, 24, 25, 26] rfl rfl (by decide) (by decide) (by decide) (c_X2_isShut l K qm T hHT hf hh (xI xs (i + 1)) (xI xs (i + 2)) (xI_b xs _) (xI_b xs _)) (cwV 2 C.hts gL_law_X2_isShut rfl rfl rfl (by decide +kernel) ⟨by decide, by decide⟩) 0 rfl rfl dL_law_696 rfl (Nat.le_of_ble_eq_true rfl) hkn (fun bb w mp => ?_)
  obtain ⟨T2, rfl, hLI, hT0, hzr, hg, hbb⟩ := pair_isShut I hR mp
  refine g_perm [16, 17, 18, 19, 20, 21, 22, 23, 24, 25, 26, 0, 1, 2, 3, 4, 5, 6, 7, 8, 9, 10, 11, 12, 13, 14, 15] (by decide) (ws' := lwW K qm T2 o g2 q S2) rfl ?_
  refine g_istore (pc := 699) (lv' := [(6, .int (iI bb)), (5, .int (iI z)), (4, .int (iI i)), (3, .ref o), (2, .ref (qm 0)), (1, .ref (q 0)), (0, .ref b)]) C dL_law_699 (by decide) rfl ?_
  refine g_aload_n (pc := 701) C dL_law_701 rfl rfl ?_
  refine g_callVIF (pc := 702) (wc := wM K qm T2) (wr := (o, aJ K 1 g2) :: wX K q S2) (As := []) (rest := []) C [0, 1, 2, 3, 4, 5, 6, 7, 8, 9, 10] [11, 12, 13, 14, 15, 16, 17, 18, 19, 20, 21, 22, 23, 24, 25, 26] rfl rfl (by decide) (by decide) (by decide) (c_X2_thrown l K qm T2) (cwV 0 C.hts gL_law_X2_thrown rfl rfl rfl (by decide +kernel) ⟨by decide, by decide⟩) 0 rfl rfl dL_law_702 rfl (Nat.le_of_ble_eq_true rfl) hkn (fun tz w tp => ?_)
  obtain ⟨htz, rfl⟩ := tp
  rw [htz.trans hT0]
  refine g_perm [16, 17, 18, 19, 20, 21, 22, 23, 24, 25, 26, 0, 1, 2, 3, 4, 5, 6, 7, 8, 9, 10, 11, 12, 13, 14, 15] (by decide) (ws' := lwW K qm T2 o g2 q S2) rfl ?_
  refine g_iload (pc := 705) C dL_law_705 rfl ?_
  refine g_icmp_eqS (pc := 707) (tgt := 712) C dL_law_707 (by decide) ?_
  refine g_iload (pc := 712) C dL_law_712 rfl ?_
  refine g_if_ne (pc := 714) (tgt := 736) C dL_law_714 (by decide) (by omega) (fun c1 => ?_) (fun c1 => ?_)
  · skip
    refine g_goto (pc := 736) (tgt := 1415) (C0.dr d0) dL_law_736 (by decide) ?_
    refine g_sub (lv' := [(4, .int (iI i)), (3, .ref o), (2, .ref (qm 0)), (1, .ref (q 0)), (0, .ref b)]) [2, 3, 4, 5, 6] rfl ?_
    exact hE S2 T2 g2 (k + 1) (n + 6) d0 hd0 hLI (by omega) (by omega)
  · have hg1 := hg (by omega)
    refine g_aload_n (pc := 717) C dL_law_717 rfl rfl ?_
    refine g_iconst (pc := 718) C dL_law_718 ?_
    refine g_laload (pc := 719) C 11 rfl (by decide) dL_law_719 ?_
    refine g_iload (pc := 720) C dL_law_720 rfl ?_
    refine g_if_eq (pc := 722) (tgt := 729) C dL_law_722 (by decide) (by omega) (fun c2 => ?_) (fun c2 => ?_)
    · rw [show g2 (0 : Int).toNat = (0 : Int64) from hg1.trans (if_pos c2)]
      refine g_lconst (pc := 729) (v := 0) C dL_law_729 (by decide +kernel) ?_
      refine g_lcmp_same (pc := 730) C dL_law_730 ?_
      refine g_if_eq (pc := 731) (tgt := 736) C dL_law_731 (by decide) (by decide) (fun _ => ?_) (fun cn => absurd rfl cn)
      refine g_goto (pc := 736) (tgt := 1415) (C0.dr d0) dL_law_736 (by decide) ?_
      refine g_sub (lv' := [(4, .int (iI i)), (3, .ref o), (2, .ref (qm 0)), (1, .ref (q 0)), (0, .ref b)]) [2, 3, 4, 5, 6] rfl ?_
      exact hE S2 T2 g2 (k + 1) (n + 6) d0 hd0 hLI (by omega) (by omega)
    · rw [show g2 (0 : Int).toNat = (1 : Int64) from hg1.trans (if_neg c2)]
      refine g_lconst (pc := 725) (v := 1) C dL_law_725 (by decide +kernel) ?_
      refine g_goto (pc := 726) (tgt := 730) C dL_law_726 (by decide) ?_
      refine g_lcmp_same (pc := 730) C dL_law_730 ?_
      refine g_if_eq (pc := 731) (tgt := 736) C dL_law_731 (by decide) (by decide) (fun _ => ?_) (fun cn => absurd rfl cn)
      refine g_goto (pc := 736) (tgt := 1415) (C0.dr d0) dL_law_736 (by decide) ?_
      refine g_sub (lv' := [(4, .int (iI i)), (3, .ref o), (2, .ref (qm 0)), (1, .ref (q 0)), (0, .ref b)]) [2, 3, 4, 5, 6] rfl ?_
      exact hE S2 T2 g2 (k + 1) (n + 6) d0 hd0 hLI (by omega) (by omega)
set_option maxHeartbeats 400000 in
set_option maxRecDepth 100000 in
theorem lc_far {p : Program} {e : Env} {s : State} {m : MethodId} {below : List Frame} {meth : Method} {c : Code} (l : Launch) (hlt : l.stackTraces = false) {b L : Nat} {xs : Nat → Int32} (hL : L ≤ 2048) (K : KK) (C0 : hCx p s m #[.ref b] meth c cL_law 9 ret wsL_law RL K (lA s)) (hX : va_X b L xs s s.heap) (hbl : b < s.heap.size) {d0 : Drawn} (hd0 : s.drawn.sameBut d0 lw_cs) {i : Int} {k n : Nat} {qm q : Nat → Nat} {o : Nat} {g : Nat → Int64} {S T : Nat → Int → Int} (I : LI S T) (hi : 0 ≤ i ∧ i + 4 ≤ L) (hkn : k + 1 ≤ 1054 ∧ n + 6 ≤ 11758)
    (hE : ∀ (S2 T2 : Nat → Int → Int) (g2 : Nat → Int64) (k2 n2 : Nat) (d1 : Drawn), s.drawn.sameBut d1 lw_cs → LI S2 T2 → k2 ≤ k + 1 → n2 ≤ n + 6 → hG p l e room_1 (s.setDrawn d1) m #[.ref b] below meth c 9 K (lA s) k2 n2 (lw_Z below #[.ref b] s) 1415 [(4, .int (iI i)), (3, .ref o), (2, .ref (qm 0)), (1, .ref (q 0)), (0, .ref b)] [] (lwW K qm T2 o g2 q S2)) : hG p l e room_1 (s.setDrawn d0) m #[.ref b] below meth c 9 K (lA s) k n (lw_Z below #[.ref b] s) 739 [(4, .int (iI i)), (3, .ref o), (2, .ref (qm 0)), (1, .ref (q 0)), (0, .ref b)] [] (lwW K qm T o g q S) := by
  have C := C0.dr d0
  have hbA : ¬ lA s b := Nat.not_le.mpr hbl
  have hHT := I.2.2.1
  have hf := I.hf
  have hh := I.hh
  have hY := I.Y
  refine g_aload_n (pc := 739) C dL_law_739 rfl rfl ?_
  refine g_aload_n (pc := 740) C dL_law_740 rfl rfl ?_
  refine g_iload (pc := 741) C dL_law_741 rfl ?_
  refine g_iconst (pc := 743) C dL_law_743 ?_
  refine g_iadd (pc := 744) C dL_law_744 ?_
  refine g_sld (pc := 745) C hX hbl hbA (by omega) dL_law_745 ?_
  refine g_aload_n (pc := 746) C dL_law_746 rfl rfl ?_
  refine g_iload (pc := 747) C dL_law_747 rfl ?_
  refine g_iconst (pc := 749) C dL_law_749 ?_
  refine g_iadd (pc := 750) C dL_law_750 ?_
  refine g_sld (pc := 751) C hX hbl hbA (by omega) dL_law_751 ?_
  refine g_aload_n (pc := 752) C dL_law_752 rfl rfl ?_
  refine g_callSHF (pc := 753) (wc := (o, aJ K 1 g) :: wX K q S) (wr := wM K qm T) (As := [.ref (q 0), .int (iI (xI xs (i + 1))), .int (iI (xI xs (i + 2))), .ref o]) (rest := []) C [11, 12, 13, 14, 15, 16, 17, 18, 19, 20, 21, 22, 23, 24, 25, 26] [0, 1, 2, 3, 4, 5, 6, 7, 8, 9, 10] rfl rfl (by decide) (by decide) (by decide) (h_far l hlt K q S I.1 I.2.1 o g (xI xs (i + 1)) (xI xs (i + 2)) (xI_b xs _) (xI_b xs _)) (vx_cwSW 4 C.hts gL_law_L_far rfl rfl rfl ⟨by decide, by decide, by decide +kernel⟩ ⟨by decide, by decide⟩) dL_law_753 rfl (Nat.le_of_ble_eq_true rfl) hkn (fun z w hp => ?_)
  obtain ⟨g2, S2, rfl, hR⟩ := hp
  refine g_istore (pc := 756) (lv' := [(5, .int (iI z)), (4, .int (iI i)), (3, .ref o), (2, .ref (qm 0)), (1, .ref (q 0)), (0, .ref b)]) C dL_law_756 (by decide) rfl ?_
  refine g_aload_n (pc := 758) C dL_law_758 rfl rfl ?_
  refine g_aload_n (pc := 759) C dL_law_759 rfl rfl ?_
  refine g_iload (pc := 760) C dL_law_760 rfl ?_
  refine g_iconst (pc := 762) C dL_law_762 ?_
  refine g_iadd (pc := 763) C dL_law_763 ?_
  refine g_sld (pc := 764) C hX hbl hbA (by omega) dL_law_764 ?_
  refine g_aload_n (pc := 765) C dL_law_765 rfl rfl ?_
  refine g_iload (pc := 766) C dL_law_766 rfl ?_
  refine g_iconst (pc := 768) C dL_law_768 ?_
  refine g_iadd (pc := 769) C dL_law_769 ?_
  refine g_sld (pc := 770) C hX hbl hbA (by omega) dL_law_770 ?_
  refine g_callVIF (pc := 771) (wc := wM K qm T) (wr := (o, aJ K 1 g2) :: wX K q S2) (As := [.int (iI (xI xs (i + 1))), .int (iI (xI xs (i + 2)))]) (rest := []) C [0, 1, 2, 3, 4, 5, 6, 7, 8, 9, 10] [11, 12, 13, 14, 15, 16, 17, 18, 19, 20, 21, 22, 23, 24, 25, 26] rfl rfl (by decide) (by decide) (by decide) (c_X2_far l K qm T hHT hf hh (xI xs (i + 1)) (xI xs (i + 2)) (xI_b xs _) (xI_b xs _)) (cwV 2 C.hts gL_law_X2_far rfl rfl rfl (by decide +kernel) ⟨by decide, by decide⟩) 0 rfl rfl dL_law_771 rfl (Nat.le_of_ble_eq_true rfl) hkn (fun bb w mp => ?_)
  obtain ⟨T2, rfl, hLI, hT0, hzr, hg⟩ := pair_far I hR mp
  refine g_perm [16, 17, 18, 19, 20, 21, 22, 23, 24, 25, 26, 0, 1, 2, 3, 4, 5, 6, 7, 8, 9, 10, 11, 12, 13, 14, 15] (by decide) (ws' := lwW K qm T2 o g2 q S2) rfl ?_
  refine g_istore (pc := 774) (lv' := [(6, .int (iI bb)), (5, .int (iI z)), (4, .int (iI i)), (3, .ref o), (2, .ref (qm 0)), (1, .ref (q 0)), (0, .ref b)]) C dL_law_774 (by decide) rfl ?_
  refine g_aload_n (pc := 776) C dL_law_776 rfl rfl ?_
  refine g_callVIF (pc := 777) (wc := wM K qm T2) (wr := (o, aJ K 1 g2) :: wX K q S2) (As := []) (rest := []) C [0, 1, 2, 3, 4, 5, 6, 7, 8, 9, 10] [11, 12, 13, 14, 15, 16, 17, 18, 19, 20, 21, 22, 23, 24, 25, 26] rfl rfl (by decide) (by decide) (by decide) (c_X2_thrown l K qm T2) (cwV 0 C.hts gL_law_X2_thrown rfl rfl rfl (by decide +kernel) ⟨by decide, by decide⟩) 0 rfl rfl dL_law_777 rfl (Nat.le_of_ble_eq_true rfl) hkn (fun tz w tp => ?_)
  obtain ⟨htz, rfl⟩ := tp
  rw [htz.trans hT0]
  refine g_perm [16, 17, 18, 19, 20, 21, 22, 23, 24, 25, 26, 0, 1, 2, 3, 4, 5, 6, 7, 8, 9, 10, 11, 12, 13, 14, 15] (by decide) (ws' := lwW K qm T2 o g2 q S2) rfl ?_
  refine g_iload (pc := 780) C dL_law_780 rfl ?_
  refine g_icmp_eqS (pc := 782) (tgt := 787) C dL_law_782 (by decide) ?_
  refine g_iload (pc := 787) C dL_law_787 rfl ?_
  refine g_if_ne (pc := 789) (tgt := 804) C dL_law_789 (by decide) (by omega) (fun c1 => ?_) (fun c1 => ?_)
  · skip
    refine g_goto (pc := 804) (tgt := 1415) (C0.dr d0) dL_law_804 (by decide) ?_
    refine g_sub (lv' := [(4, .int (iI i)), (3, .ref o), (2, .ref (qm 0)), (1, .ref (q 0)), (0, .ref b)]) [2, 3, 4, 5, 6] rfl ?_
    exact hE S2 T2 g2 (k + 1) (n + 6) d0 hd0 hLI (by omega) (by omega)
  · have hg1 := hg (by omega)
    refine g_aload_n (pc := 792) C dL_law_792 rfl rfl ?_
    refine g_iconst (pc := 793) C dL_law_793 ?_
    refine g_laload (pc := 794) C 11 rfl (by decide) dL_law_794 ?_
    refine g_iload (pc := 795) C dL_law_795 rfl ?_
    refine g_i2lr (pc := 797) C dL_law_797 ?_
    rw [show g2 (0 : Int).toNat = (iI bb).toInt64 from hg1]
    refine g_lcmp_same (pc := 798) C dL_law_798 ?_
    refine g_if_eq (pc := 799) (tgt := 804) C dL_law_799 (by decide) (by decide) (fun _ => ?_) (fun cn => absurd rfl cn)
    refine g_goto (pc := 804) (tgt := 1415) (C0.dr d0) dL_law_804 (by decide) ?_
    refine g_sub (lv' := [(4, .int (iI i)), (3, .ref o), (2, .ref (qm 0)), (1, .ref (q 0)), (0, .ref b)]) [2, 3, 4, 5, 6] rfl ?_
    exact hE S2 T2 g2 (k + 1) (n + 6) d0 hd0 hLI (by omega) (by omega)
set_option maxHeartbeats 400000 in
set_option maxRecDepth 100000 in
theorem lc_sees {p : Program} {e : Env} {s : State} {m : MethodId} {below : List Frame} {meth : Method} {c : Code} (l : Launch) (hlt : l.stackTraces = false) {b L : Nat} {xs : Nat → Int32} (hL : L ≤ 2048) (K : KK) (C0 : hCx p s m #[.ref b] meth c cL_law 9 ret wsL_law RL K (lA s)) (hX : va_X b L xs s s.heap) (hbl : b < s.heap.size) {d0 : Drawn} (hd0 : s.drawn.sameBut d0 lw_cs) {i : Int} {k n : Nat} {qm q : Nat → Nat} {o : Nat} {g : Nat → Int64} {S T : Nat → Int → Int} (I : LI S T) (hi : 0 ≤ i ∧ i + 4 ≤ L) (hkn : k + 1 ≤ 1054 ∧ n + 6 ≤ 11758)
    (hE : ∀ (S2 T2 : Nat → Int → Int) (g2 : Nat → Int64) (k2 n2 : Nat) (d1 : Drawn), s.drawn.sameBut d1 lw_cs → LI S2 T2 → k2 ≤ k + 1 → n2 ≤ n + 6 → hG p l e room_1 (s.setDrawn d1) m #[.ref b] below meth c 9 K (lA s) k2 n2 (lw_Z below #[.ref b] s) 1415 [(4, .int (iI i)), (3, .ref o), (2, .ref (qm 0)), (1, .ref (q 0)), (0, .ref b)] [] (lwW K qm T2 o g2 q S2)) : hG p l e room_1 (s.setDrawn d0) m #[.ref b] below meth c 9 K (lA s) k n (lw_Z below #[.ref b] s) 807 [(4, .int (iI i)), (3, .ref o), (2, .ref (qm 0)), (1, .ref (q 0)), (0, .ref b)] [] (lwW K qm T o g q S) := by
  have C := C0.dr d0
  have hbA : ¬ lA s b := Nat.not_le.mpr hbl
  have hHT := I.2.2.1
  have hf := I.hf
  have hh := I.hh
  have hY := I.Y
  refine g_aload_n (pc := 807) C dL_law_807 rfl rfl ?_
  refine g_aload_n (pc := 808) C dL_law_808 rfl rfl ?_
  refine g_iload (pc := 809) C dL_law_809 rfl ?_
  refine g_iconst (pc := 811) C dL_law_811 ?_
  refine g_iadd (pc := 812) C dL_law_812 ?_
  refine g_sld (pc := 813) C hX hbl hbA (by omega) dL_law_813 ?_
  refine g_aload_n (pc := 814) C dL_law_814 rfl rfl ?_
  refine g_iload (pc := 815) C dL_law_815 rfl ?_
  refine g_iconst (pc := 817) C dL_law_817 ?_
  refine g_iadd (pc := 818) C dL_law_818 ?_
  refine g_sld (pc := 819) C hX hbl hbA (by omega) dL_law_819 ?_
  refine g_aload_n (pc := 820) C dL_law_820 rfl rfl ?_
  refine g_callSHF (pc := 821) (wc := (o, aJ K 1 g) :: wX K q S) (wr := wM K qm T) (As := [.ref (q 0), .int (iI (xI xs (i + 1))), .int (iI (xI xs (i + 2))), .ref o]) (rest := []) C [11, 12, 13, 14, 15, 16, 17, 18, 19, 20, 21, 22, 23, 24, 25, 26] [0, 1, 2, 3, 4, 5, 6, 7, 8, 9, 10] rfl rfl (by decide) (by decide) (by decide) (h_sees l hlt K q S I.1 I.2.1 o g (xI xs (i + 1)) (xI xs (i + 2)) (xI_b xs _) (xI_b xs _)) (vx_cwSW 4 C.hts gL_law_L_sees rfl rfl rfl ⟨by decide, by decide, by decide +kernel⟩ ⟨by decide, by decide⟩) dL_law_821 rfl (Nat.le_of_ble_eq_true rfl) hkn (fun z w hp => ?_)
  obtain ⟨g2, S2, rfl, hR⟩ := hp
  refine g_istore (pc := 824) (lv' := [(5, .int (iI z)), (4, .int (iI i)), (3, .ref o), (2, .ref (qm 0)), (1, .ref (q 0)), (0, .ref b)]) C dL_law_824 (by decide) rfl ?_
  refine g_aload_n (pc := 826) C dL_law_826 rfl rfl ?_
  refine g_aload_n (pc := 827) C dL_law_827 rfl rfl ?_
  refine g_iload (pc := 828) C dL_law_828 rfl ?_
  refine g_iconst (pc := 830) C dL_law_830 ?_
  refine g_iadd (pc := 831) C dL_law_831 ?_
  refine g_sld (pc := 832) C hX hbl hbA (by omega) dL_law_832 ?_
  refine g_aload_n (pc := 833) C dL_law_833 rfl rfl ?_
  refine g_iload (pc := 834) C dL_law_834 rfl ?_
  refine g_iconst (pc := 836) C dL_law_836 ?_
  refine g_iadd (pc := 837) C dL_law_837 ?_
  refine g_sld (pc := 838) C hX hbl hbA (by omega) dL_law_838 ?_
  refine g_callVIF (pc := 839) (wc := wM K qm T) (wr := (o, aJ K 1 g2) :: wX K q S2) (As := [.int (iI (xI xs (i + 1))), .int (iI (xI xs (i + 2)))]) (rest := []) C [0, 1, 2, 3, 4, 5, 6, 7, 8, 9, 10] [11, 12, 13, 14, 15, 16, 17, 18, 19, 20, 21, 22, 23, 24, 25, 26] rfl rfl (by decide) (by decide) (by decide) (c_X2_sees l K qm T hHT hf hh (xI xs (i + 1)) (xI xs (i + 2)) (xI_b xs _) (xI_b xs _)) (cwV 2 C.hts gL_law_X2_sees rfl rfl rfl (by decide +kernel) ⟨by decide, by decide⟩) 0 rfl rfl dL_law_839 rfl (Nat.le_of_ble_eq_true rfl) hkn (fun bb w mp => ?_)
  obtain ⟨T2, rfl, hLI, hT0, hzr, hg, hbb⟩ := pair_sees I hR mp
  refine g_perm [16, 17, 18, 19, 20, 21, 22, 23, 24, 25, 26, 0, 1, 2, 3, 4, 5, 6, 7, 8, 9, 10, 11, 12, 13, 14, 15] (by decide) (ws' := lwW K qm T2 o g2 q S2) rfl ?_
  refine g_istore (pc := 842) (lv' := [(6, .int (iI bb)), (5, .int (iI z)), (4, .int (iI i)), (3, .ref o), (2, .ref (qm 0)), (1, .ref (q 0)), (0, .ref b)]) C dL_law_842 (by decide) rfl ?_
  refine g_aload_n (pc := 844) C dL_law_844 rfl rfl ?_
  refine g_callVIF (pc := 845) (wc := wM K qm T2) (wr := (o, aJ K 1 g2) :: wX K q S2) (As := []) (rest := []) C [0, 1, 2, 3, 4, 5, 6, 7, 8, 9, 10] [11, 12, 13, 14, 15, 16, 17, 18, 19, 20, 21, 22, 23, 24, 25, 26] rfl rfl (by decide) (by decide) (by decide) (c_X2_thrown l K qm T2) (cwV 0 C.hts gL_law_X2_thrown rfl rfl rfl (by decide +kernel) ⟨by decide, by decide⟩) 0 rfl rfl dL_law_845 rfl (Nat.le_of_ble_eq_true rfl) hkn (fun tz w tp => ?_)
  obtain ⟨htz, rfl⟩ := tp
  rw [htz.trans hT0]
  refine g_perm [16, 17, 18, 19, 20, 21, 22, 23, 24, 25, 26, 0, 1, 2, 3, 4, 5, 6, 7, 8, 9, 10, 11, 12, 13, 14, 15] (by decide) (ws' := lwW K qm T2 o g2 q S2) rfl ?_
  refine g_iload (pc := 848) C dL_law_848 rfl ?_
  refine g_icmp_eqS (pc := 850) (tgt := 855) C dL_law_850 (by decide) ?_
  refine g_iload (pc := 855) C dL_law_855 rfl ?_
  refine g_if_ne (pc := 857) (tgt := 879) C dL_law_857 (by decide) (by omega) (fun c1 => ?_) (fun c1 => ?_)
  · skip
    refine g_goto (pc := 879) (tgt := 1415) (C0.dr d0) dL_law_879 (by decide) ?_
    refine g_sub (lv' := [(4, .int (iI i)), (3, .ref o), (2, .ref (qm 0)), (1, .ref (q 0)), (0, .ref b)]) [2, 3, 4, 5, 6] rfl ?_
    exact hE S2 T2 g2 (k + 1) (n + 6) d0 hd0 hLI (by omega) (by omega)
  · have hg1 := hg (by omega)
    refine g_aload_n (pc := 860) C dL_law_860 rfl rfl ?_
    refine g_iconst (pc := 861) C dL_law_861 ?_
    refine g_laload (pc := 862) C 11 rfl (by decide) dL_law_862 ?_
    refine g_iload (pc := 863) C dL_law_863 rfl ?_
    refine g_if_eq (pc := 865) (tgt := 872) C dL_law_865 (by decide) (by omega) (fun c2 => ?_) (fun c2 => ?_)
    · rw [show g2 (0 : Int).toNat = (0 : Int64) from hg1.trans (if_pos c2)]
      refine g_lconst (pc := 872) (v := 0) C dL_law_872 (by decide +kernel) ?_
      refine g_lcmp_same (pc := 873) C dL_law_873 ?_
      refine g_if_eq (pc := 874) (tgt := 879) C dL_law_874 (by decide) (by decide) (fun _ => ?_) (fun cn => absurd rfl cn)
      refine g_goto (pc := 879) (tgt := 1415) (C0.dr d0) dL_law_879 (by decide) ?_
      refine g_sub (lv' := [(4, .int (iI i)), (3, .ref o), (2, .ref (qm 0)), (1, .ref (q 0)), (0, .ref b)]) [2, 3, 4, 5, 6] rfl ?_
      exact hE S2 T2 g2 (k + 1) (n + 6) d0 hd0 hLI (by omega) (by omega)
    · rw [show g2 (0 : Int).toNat = (1 : Int64) from hg1.trans (if_neg c2)]
      refine g_lconst (pc := 868) (v := 1) C dL_law_868 (by decide +kernel) ?_
      refine g_goto (pc := 869) (tgt := 873) C dL_law_869 (by decide) ?_
      refine g_lcmp_same (pc := 873) C dL_law_873 ?_
      refine g_if_eq (pc := 874) (tgt := 879) C dL_law_874 (by decide) (by decide) (fun _ => ?_) (fun cn => absurd rfl cn)
      refine g_goto (pc := 879) (tgt := 1415) (C0.dr d0) dL_law_879 (by decide) ?_
      refine g_sub (lv' := [(4, .int (iI i)), (3, .ref o), (2, .ref (qm 0)), (1, .ref (q 0)), (0, .ref b)]) [2, 3, 4, 5, 6] rfl ?_
      exact hE S2 T2 g2 (k + 1) (n + 6) d0 hd0 hLI (by omega) (by omega)
set_option maxHeartbeats 400000 in
set_option maxRecDepth 100000 in
theorem lc_way {p : Program} {e : Env} {s : State} {m : MethodId} {below : List Frame} {meth : Method} {c : Code} (l : Launch) (hlt : l.stackTraces = false) {b L : Nat} {xs : Nat → Int32} (hL : L ≤ 2048) (K : KK) (C0 : hCx p s m #[.ref b] meth c cL_law 9 ret wsL_law RL K (lA s)) (hX : va_X b L xs s s.heap) (hbl : b < s.heap.size) {d0 : Drawn} (hd0 : s.drawn.sameBut d0 lw_cs) {i : Int} {k n : Nat} {qm q : Nat → Nat} {o : Nat} {g : Nat → Int64} {S T : Nat → Int → Int} (I : LI S T) (hi : 0 ≤ i ∧ i + 4 ≤ L) (hkn : k + 1 ≤ 1054 ∧ n + 6 ≤ 11758)
    (hE : ∀ (S2 T2 : Nat → Int → Int) (g2 : Nat → Int64) (k2 n2 : Nat) (d1 : Drawn), s.drawn.sameBut d1 lw_cs → LI S2 T2 → k2 ≤ k + 1 → n2 ≤ n + 6 → hG p l e room_1 (s.setDrawn d1) m #[.ref b] below meth c 9 K (lA s) k2 n2 (lw_Z below #[.ref b] s) 1415 [(4, .int (iI i)), (3, .ref o), (2, .ref (qm 0)), (1, .ref (q 0)), (0, .ref b)] [] (lwW K qm T2 o g2 q S2)) : hG p l e room_1 (s.setDrawn d0) m #[.ref b] below meth c 9 K (lA s) k n (lw_Z below #[.ref b] s) 882 [(4, .int (iI i)), (3, .ref o), (2, .ref (qm 0)), (1, .ref (q 0)), (0, .ref b)] [] (lwW K qm T o g q S) := by
  have C := C0.dr d0
  have hbA : ¬ lA s b := Nat.not_le.mpr hbl
  have hHT := I.2.2.1
  have hf := I.hf
  have hh := I.hh
  have hY := I.Y
  refine g_aload_n (pc := 882) C dL_law_882 rfl rfl ?_
  refine g_aload_n (pc := 883) C dL_law_883 rfl rfl ?_
  refine g_iload (pc := 884) C dL_law_884 rfl ?_
  refine g_iconst (pc := 886) C dL_law_886 ?_
  refine g_iadd (pc := 887) C dL_law_887 ?_
  refine g_sld (pc := 888) C hX hbl hbA (by omega) dL_law_888 ?_
  refine g_aload_n (pc := 889) C dL_law_889 rfl rfl ?_
  refine g_iload (pc := 890) C dL_law_890 rfl ?_
  refine g_iconst (pc := 892) C dL_law_892 ?_
  refine g_iadd (pc := 893) C dL_law_893 ?_
  refine g_sld (pc := 894) C hX hbl hbA (by omega) dL_law_894 ?_
  refine g_aload_n (pc := 895) C dL_law_895 rfl rfl ?_
  refine g_callSHF (pc := 896) (wc := (o, aJ K 1 g) :: wX K q S) (wr := wM K qm T) (As := [.ref (q 0), .int (iI (xI xs (i + 1))), .int (iI (xI xs (i + 2))), .ref o]) (rest := []) C [11, 12, 13, 14, 15, 16, 17, 18, 19, 20, 21, 22, 23, 24, 25, 26] [0, 1, 2, 3, 4, 5, 6, 7, 8, 9, 10] rfl rfl (by decide) (by decide) (by decide) (h_way l hlt K q S I.1 I.2.1 o g (xI xs (i + 1)) (xI xs (i + 2)) (xI_b xs _) (xI_b xs _)) (vx_cwSW 4 C.hts gL_law_L_way rfl rfl rfl ⟨by decide, by decide, by decide +kernel⟩ ⟨by decide, by decide⟩) dL_law_896 rfl (Nat.le_of_ble_eq_true rfl) hkn (fun z w hp => ?_)
  obtain ⟨g2, S2, rfl, hR⟩ := hp
  refine g_istore (pc := 899) (lv' := [(5, .int (iI z)), (4, .int (iI i)), (3, .ref o), (2, .ref (qm 0)), (1, .ref (q 0)), (0, .ref b)]) C dL_law_899 (by decide) rfl ?_
  refine g_aload_n (pc := 901) C dL_law_901 rfl rfl ?_
  refine g_aload_n (pc := 902) C dL_law_902 rfl rfl ?_
  refine g_iload (pc := 903) C dL_law_903 rfl ?_
  refine g_iconst (pc := 905) C dL_law_905 ?_
  refine g_iadd (pc := 906) C dL_law_906 ?_
  refine g_sld (pc := 907) C hX hbl hbA (by omega) dL_law_907 ?_
  refine g_aload_n (pc := 908) C dL_law_908 rfl rfl ?_
  refine g_iload (pc := 909) C dL_law_909 rfl ?_
  refine g_iconst (pc := 911) C dL_law_911 ?_
  refine g_iadd (pc := 912) C dL_law_912 ?_
  refine g_sld (pc := 913) C hX hbl hbA (by omega) dL_law_913 ?_
  refine g_callVIF (pc := 914) (wc := wM K qm T) (wr := (o, aJ K 1 g2) :: wX K q S2) (As := [.int (iI (xI xs (i + 1))), .int (iI (xI xs (i + 2)))]) (rest := []) C [0, 1, 2, 3, 4, 5, 6, 7, 8, 9, 10] [11, 12, 13, 14, 15, 16, 17, 18, 19, 20, 21, 22, 23, 24, 25, 26] rfl rfl (by decide) (by decide) (by decide) (c_X2_way l K qm T hHT hf hh (xI xs (i + 1)) (xI xs (i + 2)) (xI_b xs _) (xI_b xs _)) (cwV 2 C.hts gL_law_X2_way rfl rfl rfl (by decide +kernel) ⟨by decide, by decide⟩) 0 rfl rfl dL_law_914 rfl (Nat.le_of_ble_eq_true rfl) hkn (fun bb w mp => ?_)
  obtain ⟨T2, rfl, hLI, hT0, hzr, hg⟩ := pair_way I hR mp
  refine g_perm [16, 17, 18, 19, 20, 21, 22, 23, 24, 25, 26, 0, 1, 2, 3, 4, 5, 6, 7, 8, 9, 10, 11, 12, 13, 14, 15] (by decide) (ws' := lwW K qm T2 o g2 q S2) rfl ?_
  refine g_istore (pc := 917) (lv' := [(6, .int (iI bb)), (5, .int (iI z)), (4, .int (iI i)), (3, .ref o), (2, .ref (qm 0)), (1, .ref (q 0)), (0, .ref b)]) C dL_law_917 (by decide) rfl ?_
  refine g_aload_n (pc := 919) C dL_law_919 rfl rfl ?_
  refine g_callVIF (pc := 920) (wc := wM K qm T2) (wr := (o, aJ K 1 g2) :: wX K q S2) (As := []) (rest := []) C [0, 1, 2, 3, 4, 5, 6, 7, 8, 9, 10] [11, 12, 13, 14, 15, 16, 17, 18, 19, 20, 21, 22, 23, 24, 25, 26] rfl rfl (by decide) (by decide) (by decide) (c_X2_thrown l K qm T2) (cwV 0 C.hts gL_law_X2_thrown rfl rfl rfl (by decide +kernel) ⟨by decide, by decide⟩) 0 rfl rfl dL_law_920 rfl (Nat.le_of_ble_eq_true rfl) hkn (fun tz w tp => ?_)
  obtain ⟨htz, rfl⟩ := tp
  rw [htz.trans hT0]
  refine g_perm [16, 17, 18, 19, 20, 21, 22, 23, 24, 25, 26, 0, 1, 2, 3, 4, 5, 6, 7, 8, 9, 10, 11, 12, 13, 14, 15] (by decide) (ws' := lwW K qm T2 o g2 q S2) rfl ?_
  refine g_iload (pc := 923) C dL_law_923 rfl ?_
  refine g_icmp_eqS (pc := 925) (tgt := 930) C dL_law_925 (by decide) ?_
  refine g_iload (pc := 930) C dL_law_930 rfl ?_
  refine g_if_ne (pc := 932) (tgt := 947) C dL_law_932 (by decide) (by omega) (fun c1 => ?_) (fun c1 => ?_)
  · skip
    refine g_goto (pc := 947) (tgt := 1415) (C0.dr d0) dL_law_947 (by decide) ?_
    refine g_sub (lv' := [(4, .int (iI i)), (3, .ref o), (2, .ref (qm 0)), (1, .ref (q 0)), (0, .ref b)]) [2, 3, 4, 5, 6] rfl ?_
    exact hE S2 T2 g2 (k + 1) (n + 6) d0 hd0 hLI (by omega) (by omega)
  · have hg1 := hg (by omega)
    refine g_aload_n (pc := 935) C dL_law_935 rfl rfl ?_
    refine g_iconst (pc := 936) C dL_law_936 ?_
    refine g_laload (pc := 937) C 11 rfl (by decide) dL_law_937 ?_
    refine g_iload (pc := 938) C dL_law_938 rfl ?_
    refine g_i2lr (pc := 940) C dL_law_940 ?_
    rw [show g2 (0 : Int).toNat = (iI bb).toInt64 from hg1]
    refine g_lcmp_same (pc := 941) C dL_law_941 ?_
    refine g_if_eq (pc := 942) (tgt := 947) C dL_law_942 (by decide) (by decide) (fun _ => ?_) (fun cn => absurd rfl cn)
    refine g_goto (pc := 947) (tgt := 1415) (C0.dr d0) dL_law_947 (by decide) ?_
    refine g_sub (lv' := [(4, .int (iI i)), (3, .ref o), (2, .ref (qm 0)), (1, .ref (q 0)), (0, .ref b)]) [2, 3, 4, 5, 6] rfl ?_
    exact hE S2 T2 g2 (k + 1) (n + 6) d0 hd0 hLI (by omega) (by omega)
set_option maxHeartbeats 400000 in
set_option maxRecDepth 100000 in
theorem lc_side {p : Program} {e : Env} {s : State} {m : MethodId} {below : List Frame} {meth : Method} {c : Code} (l : Launch) (hlt : l.stackTraces = false) {b L : Nat} {xs : Nat → Int32} (hL : L ≤ 2048) (K : KK) (C0 : hCx p s m #[.ref b] meth c cL_law 9 ret wsL_law RL K (lA s)) (hX : va_X b L xs s s.heap) (hbl : b < s.heap.size) {d0 : Drawn} (hd0 : s.drawn.sameBut d0 lw_cs) {i : Int} {k n : Nat} {qm q : Nat → Nat} {o : Nat} {g : Nat → Int64} {S T : Nat → Int → Int} (I : LI S T) (hi : 0 ≤ i ∧ i + 4 ≤ L) (hkn : k + 1 ≤ 1054 ∧ n + 6 ≤ 11758)
    (hE : ∀ (S2 T2 : Nat → Int → Int) (g2 : Nat → Int64) (k2 n2 : Nat) (d1 : Drawn), s.drawn.sameBut d1 lw_cs → LI S2 T2 → k2 ≤ k + 1 → n2 ≤ n + 6 → hG p l e room_1 (s.setDrawn d1) m #[.ref b] below meth c 9 K (lA s) k2 n2 (lw_Z below #[.ref b] s) 1415 [(4, .int (iI i)), (3, .ref o), (2, .ref (qm 0)), (1, .ref (q 0)), (0, .ref b)] [] (lwW K qm T2 o g2 q S2)) : hG p l e room_1 (s.setDrawn d0) m #[.ref b] below meth c 9 K (lA s) k n (lw_Z below #[.ref b] s) 950 [(4, .int (iI i)), (3, .ref o), (2, .ref (qm 0)), (1, .ref (q 0)), (0, .ref b)] [] (lwW K qm T o g q S) := by
  have C := C0.dr d0
  have hbA : ¬ lA s b := Nat.not_le.mpr hbl
  have hHT := I.2.2.1
  have hf := I.hf
  have hh := I.hh
  have hY := I.Y
  refine g_aload_n (pc := 950) C dL_law_950 rfl rfl ?_
  refine g_aload_n (pc := 951) C dL_law_951 rfl rfl ?_
  refine g_iload (pc := 952) C dL_law_952 rfl ?_
  refine g_iconst (pc := 954) C dL_law_954 ?_
  refine g_iadd (pc := 955) C dL_law_955 ?_
  refine g_sld (pc := 956) C hX hbl hbA (by omega) dL_law_956 ?_
  refine g_aload_n (pc := 957) C dL_law_957 rfl rfl ?_
  refine g_iload (pc := 958) C dL_law_958 rfl ?_
  refine g_iconst (pc := 960) C dL_law_960 ?_
  refine g_iadd (pc := 961) C dL_law_961 ?_
  refine g_sld (pc := 962) C hX hbl hbA (by omega) dL_law_962 ?_
  refine g_aload_n (pc := 963) C dL_law_963 rfl rfl ?_
  refine g_callSHF (pc := 964) (wc := (o, aJ K 1 g) :: wX K q S) (wr := wM K qm T) (As := [.ref (q 0), .int (iI (xI xs (i + 1))), .int (iI (xI xs (i + 2))), .ref o]) (rest := []) C [11, 12, 13, 14, 15, 16, 17, 18, 19, 20, 21, 22, 23, 24, 25, 26] [0, 1, 2, 3, 4, 5, 6, 7, 8, 9, 10] rfl rfl (by decide) (by decide) (by decide) (h_side l hlt K q S I.1 I.2.1 o g (xI xs (i + 1)) (xI xs (i + 2)) (xI_b xs _) (xI_b xs _)) (vx_cwSW 4 C.hts gL_law_L_side rfl rfl rfl ⟨by decide, by decide, by decide +kernel⟩ ⟨by decide, by decide⟩) dL_law_964 rfl (Nat.le_of_ble_eq_true rfl) hkn (fun z w hp => ?_)
  obtain ⟨g2, S2, rfl, hR⟩ := hp
  refine g_istore (pc := 967) (lv' := [(5, .int (iI z)), (4, .int (iI i)), (3, .ref o), (2, .ref (qm 0)), (1, .ref (q 0)), (0, .ref b)]) C dL_law_967 (by decide) rfl ?_
  refine g_aload_n (pc := 969) C dL_law_969 rfl rfl ?_
  refine g_aload_n (pc := 970) C dL_law_970 rfl rfl ?_
  refine g_iload (pc := 971) C dL_law_971 rfl ?_
  refine g_iconst (pc := 973) C dL_law_973 ?_
  refine g_iadd (pc := 974) C dL_law_974 ?_
  refine g_sld (pc := 975) C hX hbl hbA (by omega) dL_law_975 ?_
  refine g_aload_n (pc := 976) C dL_law_976 rfl rfl ?_
  refine g_iload (pc := 977) C dL_law_977 rfl ?_
  refine g_iconst (pc := 979) C dL_law_979 ?_
  refine g_iadd (pc := 980) C dL_law_980 ?_
  refine g_sld (pc := 981) C hX hbl hbA (by omega) dL_law_981 ?_
  refine g_callVIF (pc := 982) (wc := wM K qm T) (wr := (o, aJ K 1 g2) :: wX K q S2) (As := [.int (iI (xI xs (i + 1))), .int (iI (xI xs (i + 2)))]) (rest := []) C [0, 1, 2, 3, 4, 5, 6, 7, 8, 9, 10] [11, 12, 13, 14, 15, 16, 17, 18, 19, 20, 21, 22, 23, 24, 25, 26] rfl rfl (by decide) (by decide) (by decide) (c_X2_side l K qm T hHT hf hh (xI xs (i + 1)) (xI xs (i + 2)) (xI_b xs _) (xI_b xs _)) (cwV 2 C.hts gL_law_X2_side rfl rfl rfl (by decide +kernel) ⟨by decide, by decide⟩) 0 rfl rfl dL_law_982 rfl (Nat.le_of_ble_eq_true rfl) hkn (fun bb w mp => ?_)
  obtain ⟨T2, rfl, hLI, hT0, hzr, hg⟩ := pair_side I hR mp
  refine g_perm [16, 17, 18, 19, 20, 21, 22, 23, 24, 25, 26, 0, 1, 2, 3, 4, 5, 6, 7, 8, 9, 10, 11, 12, 13, 14, 15] (by decide) (ws' := lwW K qm T2 o g2 q S2) rfl ?_
  refine g_istore (pc := 985) (lv' := [(6, .int (iI bb)), (5, .int (iI z)), (4, .int (iI i)), (3, .ref o), (2, .ref (qm 0)), (1, .ref (q 0)), (0, .ref b)]) C dL_law_985 (by decide) rfl ?_
  refine g_aload_n (pc := 987) C dL_law_987 rfl rfl ?_
  refine g_callVIF (pc := 988) (wc := wM K qm T2) (wr := (o, aJ K 1 g2) :: wX K q S2) (As := []) (rest := []) C [0, 1, 2, 3, 4, 5, 6, 7, 8, 9, 10] [11, 12, 13, 14, 15, 16, 17, 18, 19, 20, 21, 22, 23, 24, 25, 26] rfl rfl (by decide) (by decide) (by decide) (c_X2_thrown l K qm T2) (cwV 0 C.hts gL_law_X2_thrown rfl rfl rfl (by decide +kernel) ⟨by decide, by decide⟩) 0 rfl rfl dL_law_988 rfl (Nat.le_of_ble_eq_true rfl) hkn (fun tz w tp => ?_)
  obtain ⟨htz, rfl⟩ := tp
  rw [htz.trans hT0]
  refine g_perm [16, 17, 18, 19, 20, 21, 22, 23, 24, 25, 26, 0, 1, 2, 3, 4, 5, 6, 7, 8, 9, 10, 11, 12, 13, 14, 15] (by decide) (ws' := lwW K qm T2 o g2 q S2) rfl ?_
  refine g_iload (pc := 991) C dL_law_991 rfl ?_
  refine g_icmp_eqS (pc := 993) (tgt := 998) C dL_law_993 (by decide) ?_
  refine g_iload (pc := 998) C dL_law_998 rfl ?_
  refine g_if_ne (pc := 1000) (tgt := 1015) C dL_law_1000 (by decide) (by omega) (fun c1 => ?_) (fun c1 => ?_)
  · skip
    refine g_goto (pc := 1015) (tgt := 1415) (C0.dr d0) dL_law_1015 (by decide) ?_
    refine g_sub (lv' := [(4, .int (iI i)), (3, .ref o), (2, .ref (qm 0)), (1, .ref (q 0)), (0, .ref b)]) [2, 3, 4, 5, 6] rfl ?_
    exact hE S2 T2 g2 (k + 1) (n + 6) d0 hd0 hLI (by omega) (by omega)
  · have hg1 := hg (by omega)
    refine g_aload_n (pc := 1003) C dL_law_1003 rfl rfl ?_
    refine g_iconst (pc := 1004) C dL_law_1004 ?_
    refine g_laload (pc := 1005) C 11 rfl (by decide) dL_law_1005 ?_
    refine g_iload (pc := 1006) C dL_law_1006 rfl ?_
    refine g_i2lr (pc := 1008) C dL_law_1008 ?_
    rw [show g2 (0 : Int).toNat = (iI bb).toInt64 from hg1]
    refine g_lcmp_same (pc := 1009) C dL_law_1009 ?_
    refine g_if_eq (pc := 1010) (tgt := 1015) C dL_law_1010 (by decide) (by decide) (fun _ => ?_) (fun cn => absurd rfl cn)
    refine g_goto (pc := 1015) (tgt := 1415) (C0.dr d0) dL_law_1015 (by decide) ?_
    refine g_sub (lv' := [(4, .int (iI i)), (3, .ref o), (2, .ref (qm 0)), (1, .ref (q 0)), (0, .ref b)]) [2, 3, 4, 5, 6] rfl ?_
    exact hE S2 T2 g2 (k + 1) (n + 6) d0 hd0 hLI (by omega) (by omega)
set_option maxHeartbeats 400000 in
set_option maxRecDepth 100000 in
theorem lc_reach {p : Program} {e : Env} {s : State} {m : MethodId} {below : List Frame} {meth : Method} {c : Code} (l : Launch) (hlt : l.stackTraces = false) {b L : Nat} {xs : Nat → Int32} (hL : L ≤ 2048) (K : KK) (C0 : hCx p s m #[.ref b] meth c cL_law 9 ret wsL_law RL K (lA s)) (hX : va_X b L xs s s.heap) (hbl : b < s.heap.size) {d0 : Drawn} (hd0 : s.drawn.sameBut d0 lw_cs) {i : Int} {k n : Nat} {qm q : Nat → Nat} {o : Nat} {g : Nat → Int64} {S T : Nat → Int → Int} (I : LI S T) (hi : 0 ≤ i ∧ i + 4 ≤ L) (hkn : k + 1 ≤ 1054 ∧ n + 6 ≤ 11758)
    (hE : ∀ (S2 T2 : Nat → Int → Int) (g2 : Nat → Int64) (k2 n2 : Nat) (d1 : Drawn), s.drawn.sameBut d1 lw_cs → LI S2 T2 → k2 ≤ k + 1 → n2 ≤ n + 6 → hG p l e room_1 (s.setDrawn d1) m #[.ref b] below meth c 9 K (lA s) k2 n2 (lw_Z below #[.ref b] s) 1415 [(4, .int (iI i)), (3, .ref o), (2, .ref (qm 0)), (1, .ref (q 0)), (0, .ref b)] [] (lwW K qm T2 o g2 q S2)) : hG p l e room_1 (s.setDrawn d0) m #[.ref b] below meth c 9 K (lA s) k n (lw_Z below #[.ref b] s) 1018 [(4, .int (iI i)), (3, .ref o), (2, .ref (qm 0)), (1, .ref (q 0)), (0, .ref b)] [] (lwW K qm T o g q S) := by
  have C := C0.dr d0
  have hbA : ¬ lA s b := Nat.not_le.mpr hbl
  have hHT := I.2.2.1
  have hf := I.hf
  have hh := I.hh
  have hY := I.Y
  refine g_aload_n (pc := 1018) C dL_law_1018 rfl rfl ?_
  refine g_aload_n (pc := 1019) C dL_law_1019 rfl rfl ?_
  refine g_iload (pc := 1020) C dL_law_1020 rfl ?_
  refine g_iconst (pc := 1022) C dL_law_1022 ?_
  refine g_iadd (pc := 1023) C dL_law_1023 ?_
  refine g_sld (pc := 1024) C hX hbl hbA (by omega) dL_law_1024 ?_
  refine g_aload_n (pc := 1025) C dL_law_1025 rfl rfl ?_
  refine g_iload (pc := 1026) C dL_law_1026 rfl ?_
  refine g_iconst (pc := 1028) C dL_law_1028 ?_
  refine g_iadd (pc := 1029) C dL_law_1029 ?_
  refine g_sld (pc := 1030) C hX hbl hbA (by omega) dL_law_1030 ?_
  refine g_aload_n (pc := 1031) C dL_law_1031 rfl rfl ?_
  refine g_callSHF (pc := 1032) (wc := (o, aJ K 1 g) :: wX K q S) (wr := wM K qm T) (As := [.ref (q 0), .int (iI (xI xs (i + 1))), .int (iI (xI xs (i + 2))), .ref o]) (rest := []) C [11, 12, 13, 14, 15, 16, 17, 18, 19, 20, 21, 22, 23, 24, 25, 26] [0, 1, 2, 3, 4, 5, 6, 7, 8, 9, 10] rfl rfl (by decide) (by decide) (by decide) (h_reach l hlt K q S I.1 I.2.1 o g (xI xs (i + 1)) (xI xs (i + 2)) (xI_b xs _) (xI_b xs _)) (vx_cwSW 4 C.hts gL_law_L_reach rfl rfl rfl ⟨by decide, by decide, by decide +kernel⟩ ⟨by decide, by decide⟩) dL_law_1032 rfl (Nat.le_of_ble_eq_true rfl) hkn (fun z w hp => ?_)
  obtain ⟨g2, S2, rfl, hR⟩ := hp
  refine g_istore (pc := 1035) (lv' := [(5, .int (iI z)), (4, .int (iI i)), (3, .ref o), (2, .ref (qm 0)), (1, .ref (q 0)), (0, .ref b)]) C dL_law_1035 (by decide) rfl ?_
  refine g_aload_n (pc := 1037) C dL_law_1037 rfl rfl ?_
  refine g_aload_n (pc := 1038) C dL_law_1038 rfl rfl ?_
  refine g_iload (pc := 1039) C dL_law_1039 rfl ?_
  refine g_iconst (pc := 1041) C dL_law_1041 ?_
  refine g_iadd (pc := 1042) C dL_law_1042 ?_
  refine g_sld (pc := 1043) C hX hbl hbA (by omega) dL_law_1043 ?_
  refine g_aload_n (pc := 1044) C dL_law_1044 rfl rfl ?_
  refine g_iload (pc := 1045) C dL_law_1045 rfl ?_
  refine g_iconst (pc := 1047) C dL_law_1047 ?_
  refine g_iadd (pc := 1048) C dL_law_1048 ?_
  refine g_sld (pc := 1049) C hX hbl hbA (by omega) dL_law_1049 ?_
  refine g_callVIF (pc := 1050) (wc := wM K qm T) (wr := (o, aJ K 1 g2) :: wX K q S2) (As := [.int (iI (xI xs (i + 1))), .int (iI (xI xs (i + 2)))]) (rest := []) C [0, 1, 2, 3, 4, 5, 6, 7, 8, 9, 10] [11, 12, 13, 14, 15, 16, 17, 18, 19, 20, 21, 22, 23, 24, 25, 26] rfl rfl (by decide) (by decide) (by decide) (c_X2_reach l K qm T hHT hf hh (xI xs (i + 1)) (xI xs (i + 2)) (xI_b xs _) (xI_b xs _)) (cwV 2 C.hts gL_law_X2_reach rfl rfl rfl (by decide +kernel) ⟨by decide, by decide⟩) 0 rfl rfl dL_law_1050 rfl (Nat.le_of_ble_eq_true rfl) hkn (fun bb w mp => ?_)
  obtain ⟨T2, rfl, hLI, hT0, hzr, hg⟩ := pair_reach I hR mp
  refine g_perm [16, 17, 18, 19, 20, 21, 22, 23, 24, 25, 26, 0, 1, 2, 3, 4, 5, 6, 7, 8, 9, 10, 11, 12, 13, 14, 15] (by decide) (ws' := lwW K qm T2 o g2 q S2) rfl ?_
  refine g_istore (pc := 1053) (lv' := [(6, .int (iI bb)), (5, .int (iI z)), (4, .int (iI i)), (3, .ref o), (2, .ref (qm 0)), (1, .ref (q 0)), (0, .ref b)]) C dL_law_1053 (by decide) rfl ?_
  refine g_aload_n (pc := 1055) C dL_law_1055 rfl rfl ?_
  refine g_callVIF (pc := 1056) (wc := wM K qm T2) (wr := (o, aJ K 1 g2) :: wX K q S2) (As := []) (rest := []) C [0, 1, 2, 3, 4, 5, 6, 7, 8, 9, 10] [11, 12, 13, 14, 15, 16, 17, 18, 19, 20, 21, 22, 23, 24, 25, 26] rfl rfl (by decide) (by decide) (by decide) (c_X2_thrown l K qm T2) (cwV 0 C.hts gL_law_X2_thrown rfl rfl rfl (by decide +kernel) ⟨by decide, by decide⟩) 0 rfl rfl dL_law_1056 rfl (Nat.le_of_ble_eq_true rfl) hkn (fun tz w tp => ?_)
  obtain ⟨htz, rfl⟩ := tp
  rw [htz.trans hT0]
  refine g_perm [16, 17, 18, 19, 20, 21, 22, 23, 24, 25, 26, 0, 1, 2, 3, 4, 5, 6, 7, 8, 9, 10, 11, 12, 13, 14, 15] (by decide) (ws' := lwW K qm T2 o g2 q S2) rfl ?_
  refine g_iload (pc := 1059) C dL_law_1059 rfl ?_
  refine g_icmp_eqS (pc := 1061) (tgt := 1066) C dL_law_1061 (by decide) ?_
  refine g_iload (pc := 1066) C dL_law_1066 rfl ?_
  refine g_if_ne (pc := 1068) (tgt := 1083) C dL_law_1068 (by decide) (by omega) (fun c1 => ?_) (fun c1 => ?_)
  · skip
    refine g_goto (pc := 1083) (tgt := 1415) (C0.dr d0) dL_law_1083 (by decide) ?_
    refine g_sub (lv' := [(4, .int (iI i)), (3, .ref o), (2, .ref (qm 0)), (1, .ref (q 0)), (0, .ref b)]) [2, 3, 4, 5, 6] rfl ?_
    exact hE S2 T2 g2 (k + 1) (n + 6) d0 hd0 hLI (by omega) (by omega)
  · have hg1 := hg (by omega)
    refine g_aload_n (pc := 1071) C dL_law_1071 rfl rfl ?_
    refine g_iconst (pc := 1072) C dL_law_1072 ?_
    refine g_laload (pc := 1073) C 11 rfl (by decide) dL_law_1073 ?_
    refine g_iload (pc := 1074) C dL_law_1074 rfl ?_
    refine g_i2lr (pc := 1076) C dL_law_1076 ?_
    rw [show g2 (0 : Int).toNat = (iI bb).toInt64 from hg1]
    refine g_lcmp_same (pc := 1077) C dL_law_1077 ?_
    refine g_if_eq (pc := 1078) (tgt := 1083) C dL_law_1078 (by decide) (by decide) (fun _ => ?_) (fun cn => absurd rfl cn)
    refine g_goto (pc := 1083) (tgt := 1415) (C0.dr d0) dL_law_1083 (by decide) ?_
    refine g_sub (lv' := [(4, .int (iI i)), (3, .ref o), (2, .ref (qm 0)), (1, .ref (q 0)), (0, .ref b)]) [2, 3, 4, 5, 6] rfl ?_
    exact hE S2 T2 g2 (k + 1) (n + 6) d0 hd0 hLI (by omega) (by omega)
set_option maxHeartbeats 400000 in
set_option maxRecDepth 100000 in
theorem lc_ring {p : Program} {e : Env} {s : State} {m : MethodId} {below : List Frame} {meth : Method} {c : Code} (l : Launch) (hlt : l.stackTraces = false) {b L : Nat} {xs : Nat → Int32} (hL : L ≤ 2048) (K : KK) (C0 : hCx p s m #[.ref b] meth c cL_law 9 ret wsL_law RL K (lA s)) (hX : va_X b L xs s s.heap) (hbl : b < s.heap.size) {d0 : Drawn} (hd0 : s.drawn.sameBut d0 lw_cs) {i : Int} {k n : Nat} {qm q : Nat → Nat} {o : Nat} {g : Nat → Int64} {S T : Nat → Int → Int} (I : LI S T) (hi : 0 ≤ i ∧ i + 4 ≤ L) (hkn : k + 1 ≤ 1054 ∧ n + 6 ≤ 11758)
    (hE : ∀ (S2 T2 : Nat → Int → Int) (g2 : Nat → Int64) (k2 n2 : Nat) (d1 : Drawn), s.drawn.sameBut d1 lw_cs → LI S2 T2 → k2 ≤ k + 1 → n2 ≤ n + 6 → hG p l e room_1 (s.setDrawn d1) m #[.ref b] below meth c 9 K (lA s) k2 n2 (lw_Z below #[.ref b] s) 1415 [(4, .int (iI i)), (3, .ref o), (2, .ref (qm 0)), (1, .ref (q 0)), (0, .ref b)] [] (lwW K qm T2 o g2 q S2)) : hG p l e room_1 (s.setDrawn d0) m #[.ref b] below meth c 9 K (lA s) k n (lw_Z below #[.ref b] s) 1086 [(4, .int (iI i)), (3, .ref o), (2, .ref (qm 0)), (1, .ref (q 0)), (0, .ref b)] [] (lwW K qm T o g q S) := by
  have C := C0.dr d0
  have hbA : ¬ lA s b := Nat.not_le.mpr hbl
  have hHT := I.2.2.1
  have hf := I.hf
  have hh := I.hh
  have hY := I.Y
  refine g_aload_n (pc := 1086) C dL_law_1086 rfl rfl ?_
  refine g_aload_n (pc := 1087) C dL_law_1087 rfl rfl ?_
  refine g_iload (pc := 1088) C dL_law_1088 rfl ?_
  refine g_iconst (pc := 1090) C dL_law_1090 ?_
  refine g_iadd (pc := 1091) C dL_law_1091 ?_
  refine g_sld (pc := 1092) C hX hbl hbA (by omega) dL_law_1092 ?_
  refine g_aload_n (pc := 1093) C dL_law_1093 rfl rfl ?_
  refine g_iload (pc := 1094) C dL_law_1094 rfl ?_
  refine g_iconst (pc := 1096) C dL_law_1096 ?_
  refine g_iadd (pc := 1097) C dL_law_1097 ?_
  refine g_sld (pc := 1098) C hX hbl hbA (by omega) dL_law_1098 ?_
  refine g_aload_n (pc := 1099) C dL_law_1099 rfl rfl ?_
  refine g_callSHF (pc := 1100) (wc := (o, aJ K 1 g) :: wX K q S) (wr := wM K qm T) (As := [.ref (q 0), .int (iI (xI xs (i + 1))), .int (iI (xI xs (i + 2))), .ref o]) (rest := []) C [11, 12, 13, 14, 15, 16, 17, 18, 19, 20, 21, 22, 23, 24, 25, 26] [0, 1, 2, 3, 4, 5, 6, 7, 8, 9, 10] rfl rfl (by decide) (by decide) (by decide) (h_ring l hlt K q S I.1 I.2.1 o g (xI xs (i + 1)) (xI xs (i + 2)) (xI_b xs _) (xI_b xs _)) (vx_cwSW 4 C.hts gL_law_L_ring rfl rfl rfl ⟨by decide, by decide, by decide +kernel⟩ ⟨by decide, by decide⟩) dL_law_1100 rfl (Nat.le_of_ble_eq_true rfl) hkn (fun z w hp => ?_)
  obtain ⟨g2, S2, rfl, hR⟩ := hp
  refine g_istore (pc := 1103) (lv' := [(5, .int (iI z)), (4, .int (iI i)), (3, .ref o), (2, .ref (qm 0)), (1, .ref (q 0)), (0, .ref b)]) C dL_law_1103 (by decide) rfl ?_
  refine g_aload_n (pc := 1105) C dL_law_1105 rfl rfl ?_
  refine g_aload_n (pc := 1106) C dL_law_1106 rfl rfl ?_
  refine g_iload (pc := 1107) C dL_law_1107 rfl ?_
  refine g_iconst (pc := 1109) C dL_law_1109 ?_
  refine g_iadd (pc := 1110) C dL_law_1110 ?_
  refine g_sld (pc := 1111) C hX hbl hbA (by omega) dL_law_1111 ?_
  refine g_aload_n (pc := 1112) C dL_law_1112 rfl rfl ?_
  refine g_iload (pc := 1113) C dL_law_1113 rfl ?_
  refine g_iconst (pc := 1115) C dL_law_1115 ?_
  refine g_iadd (pc := 1116) C dL_law_1116 ?_
  refine g_sld (pc := 1117) C hX hbl hbA (by omega) dL_law_1117 ?_
  refine g_callVIF (pc := 1118) (wc := wM K qm T) (wr := (o, aJ K 1 g2) :: wX K q S2) (As := [.int (iI (xI xs (i + 1))), .int (iI (xI xs (i + 2)))]) (rest := []) C [0, 1, 2, 3, 4, 5, 6, 7, 8, 9, 10] [11, 12, 13, 14, 15, 16, 17, 18, 19, 20, 21, 22, 23, 24, 25, 26] rfl rfl (by decide) (by decide) (by decide) (c_X2_ring l K qm T hHT hf hh (xI xs (i + 1)) (xI xs (i + 2)) (xI_b xs _) (xI_b xs _)) (cwV 2 C.hts gL_law_X2_ring rfl rfl rfl (by decide +kernel) ⟨by decide, by decide⟩) 0 rfl rfl dL_law_1118 rfl (Nat.le_of_ble_eq_true rfl) hkn (fun bb w mp => ?_)
  obtain ⟨T2, rfl, hLI, hT0, hzr, hg⟩ := pair_ring I hR mp
  refine g_perm [16, 17, 18, 19, 20, 21, 22, 23, 24, 25, 26, 0, 1, 2, 3, 4, 5, 6, 7, 8, 9, 10, 11, 12, 13, 14, 15] (by decide) (ws' := lwW K qm T2 o g2 q S2) rfl ?_
  refine g_istore (pc := 1121) (lv' := [(6, .int (iI bb)), (5, .int (iI z)), (4, .int (iI i)), (3, .ref o), (2, .ref (qm 0)), (1, .ref (q 0)), (0, .ref b)]) C dL_law_1121 (by decide) rfl ?_
  refine g_aload_n (pc := 1123) C dL_law_1123 rfl rfl ?_
  refine g_callVIF (pc := 1124) (wc := wM K qm T2) (wr := (o, aJ K 1 g2) :: wX K q S2) (As := []) (rest := []) C [0, 1, 2, 3, 4, 5, 6, 7, 8, 9, 10] [11, 12, 13, 14, 15, 16, 17, 18, 19, 20, 21, 22, 23, 24, 25, 26] rfl rfl (by decide) (by decide) (by decide) (c_X2_thrown l K qm T2) (cwV 0 C.hts gL_law_X2_thrown rfl rfl rfl (by decide +kernel) ⟨by decide, by decide⟩) 0 rfl rfl dL_law_1124 rfl (Nat.le_of_ble_eq_true rfl) hkn (fun tz w tp => ?_)
  obtain ⟨htz, rfl⟩ := tp
  rw [htz.trans hT0]
  refine g_perm [16, 17, 18, 19, 20, 21, 22, 23, 24, 25, 26, 0, 1, 2, 3, 4, 5, 6, 7, 8, 9, 10, 11, 12, 13, 14, 15] (by decide) (ws' := lwW K qm T2 o g2 q S2) rfl ?_
  refine g_iload (pc := 1127) C dL_law_1127 rfl ?_
  refine g_icmp_eqS (pc := 1129) (tgt := 1134) C dL_law_1129 (by decide) ?_
  refine g_iload (pc := 1134) C dL_law_1134 rfl ?_
  refine g_if_ne (pc := 1136) (tgt := 1151) C dL_law_1136 (by decide) (by omega) (fun c1 => ?_) (fun c1 => ?_)
  · skip
    refine g_goto (pc := 1151) (tgt := 1415) (C0.dr d0) dL_law_1151 (by decide) ?_
    refine g_sub (lv' := [(4, .int (iI i)), (3, .ref o), (2, .ref (qm 0)), (1, .ref (q 0)), (0, .ref b)]) [2, 3, 4, 5, 6] rfl ?_
    exact hE S2 T2 g2 (k + 1) (n + 6) d0 hd0 hLI (by omega) (by omega)
  · have hg1 := hg (by omega)
    refine g_aload_n (pc := 1139) C dL_law_1139 rfl rfl ?_
    refine g_iconst (pc := 1140) C dL_law_1140 ?_
    refine g_laload (pc := 1141) C 11 rfl (by decide) dL_law_1141 ?_
    refine g_iload (pc := 1142) C dL_law_1142 rfl ?_
    refine g_i2lr (pc := 1144) C dL_law_1144 ?_
    rw [show g2 (0 : Int).toNat = (iI bb).toInt64 from hg1]
    refine g_lcmp_same (pc := 1145) C dL_law_1145 ?_
    refine g_if_eq (pc := 1146) (tgt := 1151) C dL_law_1146 (by decide) (by decide) (fun _ => ?_) (fun cn => absurd rfl cn)
    refine g_goto (pc := 1151) (tgt := 1415) (C0.dr d0) dL_law_1151 (by decide) ?_
    refine g_sub (lv' := [(4, .int (iI i)), (3, .ref o), (2, .ref (qm 0)), (1, .ref (q 0)), (0, .ref b)]) [2, 3, 4, 5, 6] rfl ?_
    exact hE S2 T2 g2 (k + 1) (n + 6) d0 hd0 hLI (by omega) (by omega)
set_option maxHeartbeats 400000 in
set_option maxRecDepth 100000 in
theorem lc_count {p : Program} {e : Env} {s : State} {m : MethodId} {below : List Frame} {meth : Method} {c : Code} (l : Launch) (hlt : l.stackTraces = false) {b L : Nat} {xs : Nat → Int32} (hL : L ≤ 2048) (K : KK) (C0 : hCx p s m #[.ref b] meth c cL_law 9 ret wsL_law RL K (lA s)) (hX : va_X b L xs s s.heap) (hbl : b < s.heap.size) {d0 : Drawn} (hd0 : s.drawn.sameBut d0 lw_cs) {i : Int} {k n : Nat} {qm q : Nat → Nat} {o : Nat} {g : Nat → Int64} {S T : Nat → Int → Int} (I : LI S T) (hi : 0 ≤ i ∧ i + 4 ≤ L) (hkn : k + 1 ≤ 1054 ∧ n + 6 ≤ 11758)
    (hE : ∀ (S2 T2 : Nat → Int → Int) (g2 : Nat → Int64) (k2 n2 : Nat) (d1 : Drawn), s.drawn.sameBut d1 lw_cs → LI S2 T2 → k2 ≤ k + 1 → n2 ≤ n + 6 → hG p l e room_1 (s.setDrawn d1) m #[.ref b] below meth c 9 K (lA s) k2 n2 (lw_Z below #[.ref b] s) 1415 [(4, .int (iI i)), (3, .ref o), (2, .ref (qm 0)), (1, .ref (q 0)), (0, .ref b)] [] (lwW K qm T2 o g2 q S2)) : hG p l e room_1 (s.setDrawn d0) m #[.ref b] below meth c 9 K (lA s) k n (lw_Z below #[.ref b] s) 1154 [(4, .int (iI i)), (3, .ref o), (2, .ref (qm 0)), (1, .ref (q 0)), (0, .ref b)] [] (lwW K qm T o g q S) := by
  have C := C0.dr d0
  have hbA : ¬ lA s b := Nat.not_le.mpr hbl
  have hHT := I.2.2.1
  have hf := I.hf
  have hh := I.hh
  have hY := I.Y
  refine g_aload_n (pc := 1154) C dL_law_1154 rfl rfl ?_
  refine g_aload_n (pc := 1155) C dL_law_1155 rfl rfl ?_
  refine g_iload (pc := 1156) C dL_law_1156 rfl ?_
  refine g_iconst (pc := 1158) C dL_law_1158 ?_
  refine g_iadd (pc := 1159) C dL_law_1159 ?_
  refine g_sld (pc := 1160) C hX hbl hbA (by omega) dL_law_1160 ?_
  refine g_aload_n (pc := 1161) C dL_law_1161 rfl rfl ?_
  refine g_callSHF (pc := 1162) (wc := (o, aJ K 1 g) :: wX K q S) (wr := wM K qm T) (As := [.ref (q 0), .int (iI (xI xs (i + 1))), .ref o]) (rest := []) C [11, 12, 13, 14, 15, 16, 17, 18, 19, 20, 21, 22, 23, 24, 25, 26] [0, 1, 2, 3, 4, 5, 6, 7, 8, 9, 10] rfl rfl (by decide) (by decide) (by decide) (h_count l hlt K q S I.1 I.2.1 o g (xI xs (i + 1)) (xI_b xs _)) (vx_cwSW 3 C.hts gL_law_L_count rfl rfl rfl ⟨by decide, by decide, by decide +kernel⟩ ⟨by decide, by decide⟩) dL_law_1162 rfl (Nat.le_of_ble_eq_true rfl) hkn (fun z w hp => ?_)
  obtain ⟨g2, S2, rfl, hR⟩ := hp
  refine g_istore (pc := 1165) (lv' := [(5, .int (iI z)), (4, .int (iI i)), (3, .ref o), (2, .ref (qm 0)), (1, .ref (q 0)), (0, .ref b)]) C dL_law_1165 (by decide) rfl ?_
  refine g_aload_n (pc := 1167) C dL_law_1167 rfl rfl ?_
  refine g_aload_n (pc := 1168) C dL_law_1168 rfl rfl ?_
  refine g_iload (pc := 1169) C dL_law_1169 rfl ?_
  refine g_iconst (pc := 1171) C dL_law_1171 ?_
  refine g_iadd (pc := 1172) C dL_law_1172 ?_
  refine g_sld (pc := 1173) C hX hbl hbA (by omega) dL_law_1173 ?_
  refine g_callVIF (pc := 1174) (wc := wM K qm T) (wr := (o, aJ K 1 g2) :: wX K q S2) (As := [.int (iI (xI xs (i + 1)))]) (rest := []) C [0, 1, 2, 3, 4, 5, 6, 7, 8, 9, 10] [11, 12, 13, 14, 15, 16, 17, 18, 19, 20, 21, 22, 23, 24, 25, 26] rfl rfl (by decide) (by decide) (by decide) (c_X2_count l K qm T hHT hf hh hY (xI xs (i + 1)) (xI_b xs _)) (cwV 1 C.hts gL_law_X2_count rfl rfl rfl (by decide +kernel) ⟨by decide, by decide⟩) 0 rfl rfl dL_law_1174 rfl (Nat.le_of_ble_eq_true rfl) hkn (fun bb w mp => ?_)
  obtain ⟨T2, rfl, hLI, hT0, hzr, hg⟩ := pair_count I hR mp
  refine g_perm [16, 17, 18, 19, 20, 21, 22, 23, 24, 25, 26, 0, 1, 2, 3, 4, 5, 6, 7, 8, 9, 10, 11, 12, 13, 14, 15] (by decide) (ws' := lwW K qm T2 o g2 q S2) rfl ?_
  refine g_istore (pc := 1177) (lv' := [(6, .int (iI bb)), (5, .int (iI z)), (4, .int (iI i)), (3, .ref o), (2, .ref (qm 0)), (1, .ref (q 0)), (0, .ref b)]) C dL_law_1177 (by decide) rfl ?_
  refine g_aload_n (pc := 1179) C dL_law_1179 rfl rfl ?_
  refine g_callVIF (pc := 1180) (wc := wM K qm T2) (wr := (o, aJ K 1 g2) :: wX K q S2) (As := []) (rest := []) C [0, 1, 2, 3, 4, 5, 6, 7, 8, 9, 10] [11, 12, 13, 14, 15, 16, 17, 18, 19, 20, 21, 22, 23, 24, 25, 26] rfl rfl (by decide) (by decide) (by decide) (c_X2_thrown l K qm T2) (cwV 0 C.hts gL_law_X2_thrown rfl rfl rfl (by decide +kernel) ⟨by decide, by decide⟩) 0 rfl rfl dL_law_1180 rfl (Nat.le_of_ble_eq_true rfl) hkn (fun tz w tp => ?_)
  obtain ⟨htz, rfl⟩ := tp
  rw [htz.trans hT0]
  refine g_perm [16, 17, 18, 19, 20, 21, 22, 23, 24, 25, 26, 0, 1, 2, 3, 4, 5, 6, 7, 8, 9, 10, 11, 12, 13, 14, 15] (by decide) (ws' := lwW K qm T2 o g2 q S2) rfl ?_
  refine g_iload (pc := 1183) C dL_law_1183 rfl ?_
  refine g_icmp_eqS (pc := 1185) (tgt := 1190) C dL_law_1185 (by decide) ?_
  refine g_iload (pc := 1190) C dL_law_1190 rfl ?_
  refine g_if_ne (pc := 1192) (tgt := 1207) C dL_law_1192 (by decide) (by omega) (fun c1 => ?_) (fun c1 => ?_)
  · skip
    refine g_goto (pc := 1207) (tgt := 1415) (C0.dr d0) dL_law_1207 (by decide) ?_
    refine g_sub (lv' := [(4, .int (iI i)), (3, .ref o), (2, .ref (qm 0)), (1, .ref (q 0)), (0, .ref b)]) [2, 3, 4, 5, 6] rfl ?_
    exact hE S2 T2 g2 (k + 1) (n + 6) d0 hd0 hLI (by omega) (by omega)
  · have hg1 := hg (by omega)
    refine g_aload_n (pc := 1195) C dL_law_1195 rfl rfl ?_
    refine g_iconst (pc := 1196) C dL_law_1196 ?_
    refine g_laload (pc := 1197) C 11 rfl (by decide) dL_law_1197 ?_
    refine g_iload (pc := 1198) C dL_law_1198 rfl ?_
    refine g_i2lr (pc := 1200) C dL_law_1200 ?_
    rw [show g2 (0 : Int).toNat = (iI bb).toInt64 from hg1]
    refine g_lcmp_same (pc := 1201) C dL_law_1201 ?_
    refine g_if_eq (pc := 1202) (tgt := 1207) C dL_law_1202 (by decide) (by decide) (fun _ => ?_) (fun cn => absurd rfl cn)
    refine g_goto (pc := 1207) (tgt := 1415) (C0.dr d0) dL_law_1207 (by decide) ?_
    refine g_sub (lv' := [(4, .int (iI i)), (3, .ref o), (2, .ref (qm 0)), (1, .ref (q 0)), (0, .ref b)]) [2, 3, 4, 5, 6] rfl ?_
    exact hE S2 T2 g2 (k + 1) (n + 6) d0 hd0 hLI (by omega) (by omega)
set_option maxHeartbeats 400000 in
set_option maxRecDepth 100000 in
theorem lc_sixthsToSame {p : Program} {e : Env} {s : State} {m : MethodId} {below : List Frame} {meth : Method} {c : Code} (l : Launch) (hlt : l.stackTraces = false) {b L : Nat} {xs : Nat → Int32} (hL : L ≤ 2048) (K : KK) (C0 : hCx p s m #[.ref b] meth c cL_law 9 ret wsL_law RL K (lA s)) (hX : va_X b L xs s s.heap) (hbl : b < s.heap.size) {d0 : Drawn} (hd0 : s.drawn.sameBut d0 lw_cs) {i : Int} {k n : Nat} {qm q : Nat → Nat} {o : Nat} {g : Nat → Int64} {S T : Nat → Int → Int} (I : LI S T) (hi : 0 ≤ i ∧ i + 4 ≤ L) (hkn : k + 1 ≤ 1054 ∧ n + 6 ≤ 11758)
    (hE : ∀ (S2 T2 : Nat → Int → Int) (g2 : Nat → Int64) (k2 n2 : Nat) (d1 : Drawn), s.drawn.sameBut d1 lw_cs → LI S2 T2 → k2 ≤ k + 1 → n2 ≤ n + 6 → hG p l e room_1 (s.setDrawn d1) m #[.ref b] below meth c 9 K (lA s) k2 n2 (lw_Z below #[.ref b] s) 1415 [(4, .int (iI i)), (3, .ref o), (2, .ref (qm 0)), (1, .ref (q 0)), (0, .ref b)] [] (lwW K qm T2 o g2 q S2)) : hG p l e room_1 (s.setDrawn d0) m #[.ref b] below meth c 9 K (lA s) k n (lw_Z below #[.ref b] s) 1210 [(4, .int (iI i)), (3, .ref o), (2, .ref (qm 0)), (1, .ref (q 0)), (0, .ref b)] [] (lwW K qm T o g q S) := by
  have C := C0.dr d0
  have hbA : ¬ lA s b := Nat.not_le.mpr hbl
  have hHT := I.2.2.1
  have hf := I.hf
  have hh := I.hh
  have hY := I.Y
  have hn1 := I.2.2.2.2.1
  have hk1 := I.2.2.2.1
  refine g_aload_n (pc := 1210) C dL_law_1210 rfl rfl ?_
  refine g_callVIF (pc := 1211) (wc := wX K q S) (wr := wM K qm T ++ [(o, aJ K 1 g)]) (As := []) (rest := []) C [12, 13, 14, 15, 16, 17, 18, 19, 20, 21, 22, 23, 24, 25, 26] [0, 1, 2, 3, 4, 5, 6, 7, 8, 9, 10, 11] rfl rfl (by decide) (by decide) (by decide) (c_X1_sixthsToSame l K q S I.1 I.2.1  ) (cwV 0 C.hts gL_law_X1_sixthsToSame rfl rfl rfl (by decide +kernel) ⟨by decide, by decide⟩) 0 rfl rfl dL_law_1211 rfl (Nat.le_of_ble_eq_true rfl) ⟨by show k ≤ 1054; omega, by show n ≤ 11758; omega⟩ (fun za w hp => ?_)
  obtain ⟨hza, S2, rfl, hU⟩ := hp
  refine g_perm [0, 1, 2, 3, 4, 5, 6, 7, 8, 9, 10, 11, 12, 13, 14, 15, 16, 17, 18, 19, 20, 21, 22, 23, 24, 25, 26] (by decide) (ws' := lwW K qm T o g q S2) rfl ?_
  refine g_aload_n (pc := 1214) C dL_law_1214 rfl rfl ?_
  refine g_callVIF (pc := 1215) (wc := wM K qm T) (wr := (o, aJ K 1 g) :: wX K q S2) (As := []) (rest := [.int (iI za)]) C [0, 1, 2, 3, 4, 5, 6, 7, 8, 9, 10] [11, 12, 13, 14, 15, 16, 17, 18, 19, 20, 21, 22, 23, 24, 25, 26] rfl rfl (by decide) (by decide) (by decide) (c_X2_sixthsToSame l K qm T hHT hf hh  ) (cwV 0 C.hts gL_law_X2_sixthsToSame rfl rfl rfl (by decide +kernel) ⟨by decide, by decide⟩) 0 rfl rfl dL_law_1215 rfl (Nat.le_of_ble_eq_true rfl) ⟨by show k ≤ 1054; omega, by show n ≤ 11758; omega⟩ (fun zb w hp => ?_)
  obtain ⟨-, hzb, T2, rfl, V⟩ := hp
  have hab : za = zb := by rw [hn1] at hzb; exact SX_u (by have := I.1.n; omega) hza (SX_cg I.ef I.eh I.1.1 I.1.2.1 hzb)
  subst hab
  have hLI := (LI_same I hU V).1
  refine g_perm [16, 17, 18, 19, 20, 21, 22, 23, 24, 25, 26, 0, 1, 2, 3, 4, 5, 6, 7, 8, 9, 10, 11, 12, 13, 14, 15] (by decide) (ws' := lwW K qm T2 o g q S2) rfl ?_
  refine g_icmp_eqS (pc := 1218) (tgt := 1415) C dL_law_1218 (by decide) ?_
  exact hE S2 T2 g k n d0 hd0 hLI (by omega) (by omega)
set_option maxHeartbeats 400000 in
set_option maxRecDepth 100000 in
theorem lc_would {p : Program} {e : Env} {s : State} {m : MethodId} {below : List Frame} {meth : Method} {c : Code} (l : Launch) (hlt : l.stackTraces = false) {b L : Nat} {xs : Nat → Int32} (hL : L ≤ 2048) (K : KK) (C0 : hCx p s m #[.ref b] meth c cL_law 9 ret wsL_law RL K (lA s)) (hX : va_X b L xs s s.heap) (hbl : b < s.heap.size) {d0 : Drawn} (hd0 : s.drawn.sameBut d0 lw_cs) {i : Int} {k n : Nat} {qm q : Nat → Nat} {o : Nat} {g : Nat → Int64} {S T : Nat → Int → Int} (I : LI S T) (hi : 0 ≤ i ∧ i + 4 ≤ L) (hkn : k + 1 ≤ 1054 ∧ n + 6 ≤ 11758)
    (hE : ∀ (S2 T2 : Nat → Int → Int) (g2 : Nat → Int64) (k2 n2 : Nat) (d1 : Drawn), s.drawn.sameBut d1 lw_cs → LI S2 T2 → k2 ≤ k + 1 → n2 ≤ n + 6 → hG p l e room_1 (s.setDrawn d1) m #[.ref b] below meth c 9 K (lA s) k2 n2 (lw_Z below #[.ref b] s) 1415 [(4, .int (iI i)), (3, .ref o), (2, .ref (qm 0)), (1, .ref (q 0)), (0, .ref b)] [] (lwW K qm T2 o g2 q S2)) : hG p l e room_1 (s.setDrawn d0) m #[.ref b] below meth c 9 K (lA s) k n (lw_Z below #[.ref b] s) 1223 [(4, .int (iI i)), (3, .ref o), (2, .ref (qm 0)), (1, .ref (q 0)), (0, .ref b)] [] (lwW K qm T o g q S) := by
  have C := C0.dr d0
  have hbA : ¬ lA s b := Nat.not_le.mpr hbl
  have hHT := I.2.2.1
  have hf := I.hf
  have hh := I.hh
  have hY := I.Y
  refine g_aload_n (pc := 1223) C dL_law_1223 rfl rfl ?_
  refine g_aload_n (pc := 1224) C dL_law_1224 rfl rfl ?_
  refine g_iload (pc := 1225) C dL_law_1225 rfl ?_
  refine g_iconst (pc := 1227) C dL_law_1227 ?_
  refine g_iadd (pc := 1228) C dL_law_1228 ?_
  refine g_sld (pc := 1229) C hX hbl hbA (by omega) dL_law_1229 ?_
  refine g_aload_n (pc := 1230) C dL_law_1230 rfl rfl ?_
  refine g_iload (pc := 1231) C dL_law_1231 rfl ?_
  refine g_iconst (pc := 1233) C dL_law_1233 ?_
  refine g_iadd (pc := 1234) C dL_law_1234 ?_
  refine g_sld (pc := 1235) C hX hbl hbA (by omega) dL_law_1235 ?_
  refine g_aload_n (pc := 1236) C dL_law_1236 rfl rfl ?_
  refine g_callSHF (pc := 1237) (wc := (o, aJ K 1 g) :: wX K q S) (wr := wM K qm T) (As := [.ref (q 0), .int (iI (xI xs (i + 1))), .int (iI (xI xs (i + 2))), .ref o]) (rest := []) C [11, 12, 13, 14, 15, 16, 17, 18, 19, 20, 21, 22, 23, 24, 25, 26] [0, 1, 2, 3, 4, 5, 6, 7, 8, 9, 10] rfl rfl (by decide) (by decide) (by decide) (h_would l hlt K q S I.1 I.2.1 o g (xI xs (i + 1)) (xI xs (i + 2)) (xI_b xs _) (xI_b xs _)) (vx_cwSW 4 C.hts gL_law_L_would rfl rfl rfl ⟨by decide, by decide, by decide +kernel⟩ ⟨by decide, by decide⟩) dL_law_1237 rfl (Nat.le_of_ble_eq_true rfl) hkn (fun z w hp => ?_)
  obtain ⟨g2, S2, rfl, hR⟩ := hp
  refine g_istore (pc := 1240) (lv' := [(5, .int (iI z)), (4, .int (iI i)), (3, .ref o), (2, .ref (qm 0)), (1, .ref (q 0)), (0, .ref b)]) C dL_law_1240 (by decide) rfl ?_
  refine g_aload_n (pc := 1242) C dL_law_1242 rfl rfl ?_
  refine g_aload_n (pc := 1243) C dL_law_1243 rfl rfl ?_
  refine g_iload (pc := 1244) C dL_law_1244 rfl ?_
  refine g_iconst (pc := 1246) C dL_law_1246 ?_
  refine g_iadd (pc := 1247) C dL_law_1247 ?_
  refine g_sld (pc := 1248) C hX hbl hbA (by omega) dL_law_1248 ?_
  refine g_aload_n (pc := 1249) C dL_law_1249 rfl rfl ?_
  refine g_iload (pc := 1250) C dL_law_1250 rfl ?_
  refine g_iconst (pc := 1252) C dL_law_1252 ?_
  refine g_iadd (pc := 1253) C dL_law_1253 ?_
  refine g_sld (pc := 1254) C hX hbl hbA (by omega) dL_law_1254 ?_
  refine g_callVIF (pc := 1255) (wc := wM K qm T) (wr := (o, aJ K 1 g2) :: wX K q S2) (As := [.int (iI (xI xs (i + 1))), .int (iI (xI xs (i + 2)))]) (rest := []) C [0, 1, 2, 3, 4, 5, 6, 7, 8, 9, 10] [11, 12, 13, 14, 15, 16, 17, 18, 19, 20, 21, 22, 23, 24, 25, 26] rfl rfl (by decide) (by decide) (by decide) (c_X2_would l K qm T hHT hf hh (xI xs (i + 1)) (xI xs (i + 2)) (xI_b xs _) (xI_b xs _)) (cwV 2 C.hts gL_law_X2_would rfl rfl rfl (by decide +kernel) ⟨by decide, by decide⟩) 0 rfl rfl dL_law_1255 rfl (Nat.le_of_ble_eq_true rfl) hkn (fun bb w mp => ?_)
  obtain ⟨T2, rfl, hLI, hT0, hzr, hg⟩ := pair_would I hR mp
  refine g_perm [16, 17, 18, 19, 20, 21, 22, 23, 24, 25, 26, 0, 1, 2, 3, 4, 5, 6, 7, 8, 9, 10, 11, 12, 13, 14, 15] (by decide) (ws' := lwW K qm T2 o g2 q S2) rfl ?_
  refine g_istore (pc := 1258) (lv' := [(6, .int (iI bb)), (5, .int (iI z)), (4, .int (iI i)), (3, .ref o), (2, .ref (qm 0)), (1, .ref (q 0)), (0, .ref b)]) C dL_law_1258 (by decide) rfl ?_
  refine g_aload_n (pc := 1260) C dL_law_1260 rfl rfl ?_
  refine g_callVIF (pc := 1261) (wc := wM K qm T2) (wr := (o, aJ K 1 g2) :: wX K q S2) (As := []) (rest := []) C [0, 1, 2, 3, 4, 5, 6, 7, 8, 9, 10] [11, 12, 13, 14, 15, 16, 17, 18, 19, 20, 21, 22, 23, 24, 25, 26] rfl rfl (by decide) (by decide) (by decide) (c_X2_thrown l K qm T2) (cwV 0 C.hts gL_law_X2_thrown rfl rfl rfl (by decide +kernel) ⟨by decide, by decide⟩) 0 rfl rfl dL_law_1261 rfl (Nat.le_of_ble_eq_true rfl) hkn (fun tz w tp => ?_)
  obtain ⟨htz, rfl⟩ := tp
  rw [htz.trans hT0]
  refine g_perm [16, 17, 18, 19, 20, 21, 22, 23, 24, 25, 26, 0, 1, 2, 3, 4, 5, 6, 7, 8, 9, 10, 11, 12, 13, 14, 15] (by decide) (ws' := lwW K qm T2 o g2 q S2) rfl ?_
  refine g_iload (pc := 1264) C dL_law_1264 rfl ?_
  refine g_icmp_eqS (pc := 1266) (tgt := 1271) C dL_law_1266 (by decide) ?_
  refine g_iload (pc := 1271) C dL_law_1271 rfl ?_
  refine g_if_ne (pc := 1273) (tgt := 1288) C dL_law_1273 (by decide) (by omega) (fun c1 => ?_) (fun c1 => ?_)
  · skip
    refine g_goto (pc := 1288) (tgt := 1415) (C0.dr d0) dL_law_1288 (by decide) ?_
    refine g_sub (lv' := [(4, .int (iI i)), (3, .ref o), (2, .ref (qm 0)), (1, .ref (q 0)), (0, .ref b)]) [2, 3, 4, 5, 6] rfl ?_
    exact hE S2 T2 g2 (k + 1) (n + 6) d0 hd0 hLI (by omega) (by omega)
  · have hg1 := hg (by omega)
    refine g_aload_n (pc := 1276) C dL_law_1276 rfl rfl ?_
    refine g_iconst (pc := 1277) C dL_law_1277 ?_
    refine g_laload (pc := 1278) C 11 rfl (by decide) dL_law_1278 ?_
    refine g_iload (pc := 1279) C dL_law_1279 rfl ?_
    refine g_i2lr (pc := 1281) C dL_law_1281 ?_
    rw [show g2 (0 : Int).toNat = (iI bb).toInt64 from hg1]
    refine g_lcmp_same (pc := 1282) C dL_law_1282 ?_
    refine g_if_eq (pc := 1283) (tgt := 1288) C dL_law_1283 (by decide) (by decide) (fun _ => ?_) (fun cn => absurd rfl cn)
    refine g_goto (pc := 1288) (tgt := 1415) (C0.dr d0) dL_law_1288 (by decide) ?_
    refine g_sub (lv' := [(4, .int (iI i)), (3, .ref o), (2, .ref (qm 0)), (1, .ref (q 0)), (0, .ref b)]) [2, 3, 4, 5, 6] rfl ?_
    exact hE S2 T2 g2 (k + 1) (n + 6) d0 hd0 hLI (by omega) (by omega)
set_option maxHeartbeats 400000 in
set_option maxRecDepth 100000 in
theorem lc_advise {p : Program} {e : Env} {s : State} {m : MethodId} {below : List Frame} {meth : Method} {c : Code} (l : Launch) (hlt : l.stackTraces = false) {b L : Nat} {xs : Nat → Int32} (hL : L ≤ 2048) (K : KK) (C0 : hCx p s m #[.ref b] meth c cL_law 9 ret wsL_law RL K (lA s)) (hX : va_X b L xs s s.heap) (hbl : b < s.heap.size) {d0 : Drawn} (hd0 : s.drawn.sameBut d0 lw_cs) {i : Int} {k n : Nat} {qm q : Nat → Nat} {o : Nat} {g : Nat → Int64} {S T : Nat → Int → Int} (I : LI S T) (hi : 0 ≤ i ∧ i + 4 ≤ L) (hkn : k + 1 ≤ 1054 ∧ n + 6 ≤ 11758)
    (hE : ∀ (S2 T2 : Nat → Int → Int) (g2 : Nat → Int64) (k2 n2 : Nat) (d1 : Drawn), s.drawn.sameBut d1 lw_cs → LI S2 T2 → k2 ≤ k + 1 → n2 ≤ n + 6 → hG p l e room_1 (s.setDrawn d1) m #[.ref b] below meth c 9 K (lA s) k2 n2 (lw_Z below #[.ref b] s) 1415 [(4, .int (iI i)), (3, .ref o), (2, .ref (qm 0)), (1, .ref (q 0)), (0, .ref b)] [] (lwW K qm T2 o g2 q S2)) : hG p l e room_1 (s.setDrawn d0) m #[.ref b] below meth c 9 K (lA s) k n (lw_Z below #[.ref b] s) 1291 [(4, .int (iI i)), (3, .ref o), (2, .ref (qm 0)), (1, .ref (q 0)), (0, .ref b)] [] (lwW K qm T o g q S) := by
  have C := C0.dr d0
  have hbA : ¬ lA s b := Nat.not_le.mpr hbl
  have hHT := I.2.2.1
  have hf := I.hf
  have hh := I.hh
  have hY := I.Y
  refine g_aload_n (pc := 1291) C dL_law_1291 rfl rfl ?_
  refine g_aload_n (pc := 1292) C dL_law_1292 rfl rfl ?_
  refine g_iload (pc := 1293) C dL_law_1293 rfl ?_
  refine g_iconst (pc := 1295) C dL_law_1295 ?_
  refine g_iadd (pc := 1296) C dL_law_1296 ?_
  refine g_sld (pc := 1297) C hX hbl hbA (by omega) dL_law_1297 ?_
  refine g_aload_n (pc := 1298) C dL_law_1298 rfl rfl ?_
  refine g_callSHF (pc := 1299) (wc := (o, aJ K 1 g) :: wX K q S) (wr := wM K qm T) (As := [.ref (q 0), .int (iI (xI xs (i + 1))), .ref o]) (rest := []) C [11, 12, 13, 14, 15, 16, 17, 18, 19, 20, 21, 22, 23, 24, 25, 26] [0, 1, 2, 3, 4, 5, 6, 7, 8, 9, 10] rfl rfl (by decide) (by decide) (by decide) (h_advise l hlt K q S I.1 I.2.1 o g (xI xs (i + 1)) (xI_b xs _)) (vx_cwSW 3 C.hts gL_law_L_advise rfl rfl rfl ⟨by decide, by decide, by decide +kernel⟩ ⟨by decide, by decide⟩) dL_law_1299 rfl (Nat.le_of_ble_eq_true rfl) hkn (fun z w hp => ?_)
  obtain ⟨g2, S2, rfl, hR⟩ := hp
  refine g_istore (pc := 1302) (lv' := [(5, .int (iI z)), (4, .int (iI i)), (3, .ref o), (2, .ref (qm 0)), (1, .ref (q 0)), (0, .ref b)]) C dL_law_1302 (by decide) rfl ?_
  refine g_aload_n (pc := 1304) C dL_law_1304 rfl rfl ?_
  refine g_aload_n (pc := 1305) C dL_law_1305 rfl rfl ?_
  refine g_iload (pc := 1306) C dL_law_1306 rfl ?_
  refine g_iconst (pc := 1308) C dL_law_1308 ?_
  refine g_iadd (pc := 1309) C dL_law_1309 ?_
  refine g_sld (pc := 1310) C hX hbl hbA (by omega) dL_law_1310 ?_
  refine g_callVIF (pc := 1311) (wc := wM K qm T) (wr := (o, aJ K 1 g2) :: wX K q S2) (As := [.int (iI (xI xs (i + 1)))]) (rest := []) C [0, 1, 2, 3, 4, 5, 6, 7, 8, 9, 10] [11, 12, 13, 14, 15, 16, 17, 18, 19, 20, 21, 22, 23, 24, 25, 26] rfl rfl (by decide) (by decide) (by decide) (c_X2_advise l K qm T hHT hf hh (xI xs (i + 1)) (xI_b xs _)) (cwV 1 C.hts gL_law_X2_advise rfl rfl rfl (by decide +kernel) ⟨by decide, by decide⟩) 0 rfl rfl dL_law_1311 rfl (Nat.le_of_ble_eq_true rfl) hkn (fun bb w mp => ?_)
  obtain ⟨T2, rfl, hLI, hT0, hzr, hg⟩ := pair_advise I hR mp
  refine g_perm [16, 17, 18, 19, 20, 21, 22, 23, 24, 25, 26, 0, 1, 2, 3, 4, 5, 6, 7, 8, 9, 10, 11, 12, 13, 14, 15] (by decide) (ws' := lwW K qm T2 o g2 q S2) rfl ?_
  refine g_istore (pc := 1314) (lv' := [(6, .int (iI bb)), (5, .int (iI z)), (4, .int (iI i)), (3, .ref o), (2, .ref (qm 0)), (1, .ref (q 0)), (0, .ref b)]) C dL_law_1314 (by decide) rfl ?_
  refine g_aload_n (pc := 1316) C dL_law_1316 rfl rfl ?_
  refine g_callVIF (pc := 1317) (wc := wM K qm T2) (wr := (o, aJ K 1 g2) :: wX K q S2) (As := []) (rest := []) C [0, 1, 2, 3, 4, 5, 6, 7, 8, 9, 10] [11, 12, 13, 14, 15, 16, 17, 18, 19, 20, 21, 22, 23, 24, 25, 26] rfl rfl (by decide) (by decide) (by decide) (c_X2_thrown l K qm T2) (cwV 0 C.hts gL_law_X2_thrown rfl rfl rfl (by decide +kernel) ⟨by decide, by decide⟩) 0 rfl rfl dL_law_1317 rfl (Nat.le_of_ble_eq_true rfl) hkn (fun tz w tp => ?_)
  obtain ⟨htz, rfl⟩ := tp
  rw [htz.trans hT0]
  refine g_perm [16, 17, 18, 19, 20, 21, 22, 23, 24, 25, 26, 0, 1, 2, 3, 4, 5, 6, 7, 8, 9, 10, 11, 12, 13, 14, 15] (by decide) (ws' := lwW K qm T2 o g2 q S2) rfl ?_
  refine g_iload (pc := 1320) C dL_law_1320 rfl ?_
  refine g_icmp_eqS (pc := 1322) (tgt := 1327) C dL_law_1322 (by decide) ?_
  refine g_iload (pc := 1327) C dL_law_1327 rfl ?_
  refine g_if_ne (pc := 1329) (tgt := 1344) C dL_law_1329 (by decide) (by omega) (fun c1 => ?_) (fun c1 => ?_)
  · skip
    refine g_goto (pc := 1344) (tgt := 1415) (C0.dr d0) dL_law_1344 (by decide) ?_
    refine g_sub (lv' := [(4, .int (iI i)), (3, .ref o), (2, .ref (qm 0)), (1, .ref (q 0)), (0, .ref b)]) [2, 3, 4, 5, 6] rfl ?_
    exact hE S2 T2 g2 (k + 1) (n + 6) d0 hd0 hLI (by omega) (by omega)
  · have hg1 := hg (by omega)
    refine g_aload_n (pc := 1332) C dL_law_1332 rfl rfl ?_
    refine g_iconst (pc := 1333) C dL_law_1333 ?_
    refine g_laload (pc := 1334) C 11 rfl (by decide) dL_law_1334 ?_
    refine g_iload (pc := 1335) C dL_law_1335 rfl ?_
    refine g_i2lr (pc := 1337) C dL_law_1337 ?_
    rw [show g2 (0 : Int).toNat = (iI bb).toInt64 from hg1]
    refine g_lcmp_same (pc := 1338) C dL_law_1338 ?_
    refine g_if_eq (pc := 1339) (tgt := 1344) C dL_law_1339 (by decide) (by decide) (fun _ => ?_) (fun cn => absurd rfl cn)
    refine g_goto (pc := 1344) (tgt := 1415) (C0.dr d0) dL_law_1344 (by decide) ?_
    refine g_sub (lv' := [(4, .int (iI i)), (3, .ref o), (2, .ref (qm 0)), (1, .ref (q 0)), (0, .ref b)]) [2, 3, 4, 5, 6] rfl ?_
    exact hE S2 T2 g2 (k + 1) (n + 6) d0 hd0 hLI (by omega) (by omega)
set_option maxHeartbeats 400000 in
set_option maxRecDepth 100000 in
theorem lc_best {p : Program} {e : Env} {s : State} {m : MethodId} {below : List Frame} {meth : Method} {c : Code} (l : Launch) (hlt : l.stackTraces = false) {b L : Nat} {xs : Nat → Int32} (hL : L ≤ 2048) (K : KK) (C0 : hCx p s m #[.ref b] meth c cL_law 9 ret wsL_law RL K (lA s)) (hX : va_X b L xs s s.heap) (hbl : b < s.heap.size) {d0 : Drawn} (hd0 : s.drawn.sameBut d0 lw_cs) {i : Int} {k n : Nat} {qm q : Nat → Nat} {o : Nat} {g : Nat → Int64} {S T : Nat → Int → Int} (I : LI S T) (hi : 0 ≤ i ∧ i + 4 ≤ L) (hkn : k + 1 ≤ 1054 ∧ n + 6 ≤ 11758)
    (hE : ∀ (S2 T2 : Nat → Int → Int) (g2 : Nat → Int64) (k2 n2 : Nat) (d1 : Drawn), s.drawn.sameBut d1 lw_cs → LI S2 T2 → k2 ≤ k + 1 → n2 ≤ n + 6 → hG p l e room_1 (s.setDrawn d1) m #[.ref b] below meth c 9 K (lA s) k2 n2 (lw_Z below #[.ref b] s) 1415 [(4, .int (iI i)), (3, .ref o), (2, .ref (qm 0)), (1, .ref (q 0)), (0, .ref b)] [] (lwW K qm T2 o g2 q S2)) : hG p l e room_1 (s.setDrawn d0) m #[.ref b] below meth c 9 K (lA s) k n (lw_Z below #[.ref b] s) 1347 [(4, .int (iI i)), (3, .ref o), (2, .ref (qm 0)), (1, .ref (q 0)), (0, .ref b)] [] (lwW K qm T o g q S) := by
  have C := C0.dr d0
  have hbA : ¬ lA s b := Nat.not_le.mpr hbl
  have hHT := I.2.2.1
  have hf := I.hf
  have hh := I.hh
  have hY := I.Y
  have hn1 := I.2.2.2.2.1
  have hk1 := I.2.2.2.1
  refine g_aload_n (pc := 1347) C dL_law_1347 rfl rfl ?_
  refine g_callVIF (pc := 1348) (wc := wX K q S) (wr := wM K qm T ++ [(o, aJ K 1 g)]) (As := []) (rest := []) C [12, 13, 14, 15, 16, 17, 18, 19, 20, 21, 22, 23, 24, 25, 26] [0, 1, 2, 3, 4, 5, 6, 7, 8, 9, 10, 11] rfl rfl (by decide) (by decide) (by decide) (c_X1_best l K q S I.1 I.2.1  ) (cwV 0 C.hts gL_law_X1_best rfl rfl rfl (by decide +kernel) ⟨by decide, by decide⟩) 0 rfl rfl dL_law_1348 rfl (Nat.le_of_ble_eq_true rfl) ⟨by show k ≤ 1054; omega, by show n ≤ 11758; omega⟩ (fun za w hp => ?_)
  obtain ⟨hza, S2, rfl, hU⟩ := hp
  refine g_perm [0, 1, 2, 3, 4, 5, 6, 7, 8, 9, 10, 11, 12, 13, 14, 15, 16, 17, 18, 19, 20, 21, 22, 23, 24, 25, 26] (by decide) (ws' := lwW K qm T o g q S2) rfl ?_
  refine g_aload_n (pc := 1351) C dL_law_1351 rfl rfl ?_
  refine g_callVIF (pc := 1352) (wc := wM K qm T) (wr := (o, aJ K 1 g) :: wX K q S2) (As := []) (rest := [.int (iI za)]) C [0, 1, 2, 3, 4, 5, 6, 7, 8, 9, 10] [11, 12, 13, 14, 15, 16, 17, 18, 19, 20, 21, 22, 23, 24, 25, 26] rfl rfl (by decide) (by decide) (by decide) (c_X2_best l K qm T hHT hf hh  ) (cwV 0 C.hts gL_law_X2_best rfl rfl rfl (by decide +kernel) ⟨by decide, by decide⟩) 0 rfl rfl dL_law_1352 rfl (Nat.le_of_ble_eq_true rfl) ⟨by show k ≤ 1054; omega, by show n ≤ 11758; omega⟩ (fun zb w hp => ?_)
  obtain ⟨-, hzb, T2, rfl, V⟩ := hp
  have hab : za = zb := by rw [hn1] at hzb; exact BS_u hza (BS_cg I.ef I.eh hzb)
  subst hab
  have hLI := (LI_same I hU V).1
  refine g_perm [16, 17, 18, 19, 20, 21, 22, 23, 24, 25, 26, 0, 1, 2, 3, 4, 5, 6, 7, 8, 9, 10, 11, 12, 13, 14, 15] (by decide) (ws' := lwW K qm T2 o g q S2) rfl ?_
  refine g_icmp_eqS (pc := 1355) (tgt := 1415) C dL_law_1355 (by decide) ?_
  exact hE S2 T2 g k n d0 hd0 hLI (by omega) (by omega)
set_option maxHeartbeats 400000 in
set_option maxRecDepth 100000 in
theorem lc_digest {p : Program} {e : Env} {s : State} {m : MethodId} {below : List Frame} {meth : Method} {c : Code} (l : Launch) (hlt : l.stackTraces = false) {b L : Nat} {xs : Nat → Int32} (hL : L ≤ 2048) (K : KK) (C0 : hCx p s m #[.ref b] meth c cL_law 9 ret wsL_law RL K (lA s)) (hX : va_X b L xs s s.heap) (hbl : b < s.heap.size) {d0 : Drawn} (hd0 : s.drawn.sameBut d0 lw_cs) {i : Int} {k n : Nat} {qm q : Nat → Nat} {o : Nat} {g : Nat → Int64} {S T : Nat → Int → Int} (I : LI S T) (hi : 0 ≤ i ∧ i + 4 ≤ L) (hkn : k + 1 ≤ 1054 ∧ n + 6 ≤ 11758)
    (hE : ∀ (S2 T2 : Nat → Int → Int) (g2 : Nat → Int64) (k2 n2 : Nat) (d1 : Drawn), s.drawn.sameBut d1 lw_cs → LI S2 T2 → k2 ≤ k + 1 → n2 ≤ n + 6 → hG p l e room_1 (s.setDrawn d1) m #[.ref b] below meth c 9 K (lA s) k2 n2 (lw_Z below #[.ref b] s) 1415 [(4, .int (iI i)), (3, .ref o), (2, .ref (qm 0)), (1, .ref (q 0)), (0, .ref b)] [] (lwW K qm T2 o g2 q S2)) : hG p l e room_1 (s.setDrawn d0) m #[.ref b] below meth c 9 K (lA s) k n (lw_Z below #[.ref b] s) 1401 [(4, .int (iI i)), (3, .ref o), (2, .ref (qm 0)), (1, .ref (q 0)), (0, .ref b)] [] (lwW K qm T o g q S) := by
  have C := C0.dr d0
  have hbA : ¬ lA s b := Nat.not_le.mpr hbl
  have hHT := I.2.2.1
  have hf := I.hf
  have hh := I.hh
  have hY := I.Y
  have hn1 := I.2.2.2.2.1
  have hk1 := I.2.2.2.1
  refine g_aload_n (pc := 1401) C dL_law_1401 rfl rfl ?_
  refine g_callVLF (pc := 1402) (wc := wX K q S) (wr := wM K qm T ++ [(o, aJ K 1 g)]) (As := []) (rest := []) C [12, 13, 14, 15, 16, 17, 18, 19, 20, 21, 22, 23, 24, 25, 26] [0, 1, 2, 3, 4, 5, 6, 7, 8, 9, 10, 11] rfl rfl (by decide) (by decide) (by decide) (c_X1_digest l K q S I.1 I.2.1  ) (cwV 0 C.hts gL_law_X1_digest rfl rfl rfl (by decide +kernel) ⟨by decide, by decide⟩) 0 rfl rfl dL_law_1402 rfl (Nat.le_of_ble_eq_true rfl) ⟨by show k ≤ 1054; omega, by show n ≤ 11758; omega⟩ (fun za w hp => ?_)
  obtain ⟨hza, S2, rfl, hU⟩ := hp
  refine g_perm [0, 1, 2, 3, 4, 5, 6, 7, 8, 9, 10, 11, 12, 13, 14, 15, 16, 17, 18, 19, 20, 21, 22, 23, 24, 25, 26] (by decide) (ws' := lwW K qm T o g q S2) rfl ?_
  refine g_aload_n (pc := 1405) C dL_law_1405 rfl rfl ?_
  refine g_callVLF (pc := 1406) (wc := wM K qm T) (wr := (o, aJ K 1 g) :: wX K q S2) (As := []) (rest := [.long za]) C [0, 1, 2, 3, 4, 5, 6, 7, 8, 9, 10] [11, 12, 13, 14, 15, 16, 17, 18, 19, 20, 21, 22, 23, 24, 25, 26] rfl rfl (by decide) (by decide) (by decide) (c_X2_digest l K qm T hHT hf hh hY  ) (cwV 0 C.hts gL_law_X2_digest rfl rfl rfl (by decide +kernel) ⟨by decide, by decide⟩) 0 rfl rfl dL_law_1406 rfl (Nat.le_of_ble_eq_true rfl) ⟨by show k ≤ 1054; omega, by show n ≤ 11758; omega⟩ (fun zb w hp => ?_)
  obtain ⟨hzb, T2, rfl, V⟩ := hp
  have hab : za = zb := by rw [hza, hzb, hk1, hn1]; exact (DIG_cg I.1.1 I.1.2.1 I.ef I.eh).symm
  subst hab
  have hLI := (LI_same I hU V).1
  refine g_perm [16, 17, 18, 19, 20, 21, 22, 23, 24, 25, 26, 0, 1, 2, 3, 4, 5, 6, 7, 8, 9, 10, 11, 12, 13, 14, 15] (by decide) (ws' := lwW K qm T2 o g q S2) rfl ?_
  refine g_lcmp_same (pc := 1409) C dL_law_1409 ?_
  refine g_if_eq (pc := 1410) (tgt := 1415) C dL_law_1410 (by decide) (by decide) (fun _ => ?_) (fun cn => absurd rfl cn)
  exact hE S2 T2 g k n d0 hd0 hLI (by omega) (by omega)
