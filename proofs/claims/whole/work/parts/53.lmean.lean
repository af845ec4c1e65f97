theorem cmp_z (o : Option Ordering) : ∃ z : Int, Op.cmpValue o .l = iI z ∧ -1 ≤ z ∧ z ≤ 1 := by
  cases o with
  | none => exact ⟨-1, by decide +kernel, by decide, by decide⟩
  | some o =>
    cases o
    · exact ⟨-1, by decide +kernel, by decide, by decide⟩
    · exact ⟨0, by decide +kernel, by decide, by decide⟩
    · exact ⟨1, by decide +kernel, by decide, by decide⟩
theorem nan_cmp {r : UInt64} (h : isNaN64 r = true) : ¬ Op.cmpValue (FP.dcmp r r) .l = iI 0 := by
  intro q
  have h1 : FP.dcmp r r = some .eq := by
    cases hd : FP.dcmp r r with
    | none => rw [hd] at q; exact absurd q (by decide +kernel)
    | some o =>
      cases o
      · rw [hd] at q; exact absurd q (by decide +kernel)
      · rfl
      · rw [hd] at q; exact absurd q (by decide +kernel)
  have h2 := isNaN64_iff.mp h
  rw [show (0x7fffffffffffffff : Nat) = 2 ^ 63 - 1 by decide, Nat.and_two_pow_sub_one_eq_mod] at h2
  have h3 := (Jvm.FP.Core.isNaN_bits r).mpr h2
  have h4 := Jvm.FP.Core.notNaN_of_dcmp (x := r) (Or.inl h1)
  rw [h3] at h4
  exact nomatch h4
theorem MN_pair {n : Int} {f h : Int → Int} {r r2 : UInt64} (p : MN n f h r) (p2 : MN n f h r2) : r = r2 ∨ (isNaN64 r = true ∧ isNaN64 r2 = true) := by
  rcases p with ⟨a1, a2⟩ | ⟨a1, a2⟩
  · rcases p2 with ⟨b1, b2⟩ | ⟨b1, b2⟩
    · exact Or.inl (a2.trans b2.symm)
    · exact absurd a1 b1
  · rcases p2 with ⟨b1, b2⟩ | ⟨b1, b2⟩
    · exact absurd b1 a1
    · unfold alike64 at a2 b2
      simp only [Bool.or_eq_true, decide_eq_true_eq, Bool.and_eq_true] at a2 b2
      rcases a2 with a2 | ⟨a2, a3⟩
      · rcases b2 with b2 | ⟨b2, b3⟩
        · exact Or.inl (a2.trans b2.symm)
        · exact Or.inr ⟨by rw [a2]; exact b3, b2⟩
      · rcases b2 with b2 | ⟨b2, b3⟩
        · exact Or.inr ⟨a2, by rw [b2]; exact a3⟩
        · exact Or.inr ⟨a2, b2⟩
theorem cmp_ne {x y : UInt64} (h : x = y ∨ (isNaN64 x = true ∧ isNaN64 y = true)) {z1 z : Int} (h1 : Op.cmpValue (FP.dcmp x y) .l = iI z1) (b1 : -1 ≤ z1 ∧ z1 ≤ 1) (c : ¬ z1 = 0) : (Op.cmpValue (FP.dcmp x x) .l = iI z → ¬ z = 0) ∧ (Op.cmpValue (FP.dcmp y y) .l = iI z → ¬ z = 0) := by
  rcases h with h | ⟨n1, n2⟩
  · subst h
    have key : Op.cmpValue (FP.dcmp x x) .l = iI z → ¬ z = 0 := by
      intro q e
      rw [h1, e] at q
      exact c ((iI_eq (by omega) (by omega)).mp q)
    exact ⟨key, key⟩
  · exact ⟨fun q e => nan_cmp n1 (by rw [q, e]), fun q e => nan_cmp n2 (by rw [q, e])⟩
set_option maxHeartbeats 400000 in
set_option maxRecDepth 100000 in
theorem lc_mean {p : Program} {e : Env} {s : State} {m : MethodId} {below : List Frame} {meth : Method} {c : Code} (l : Launch) (hlt : l.stackTraces = false) {b L : Nat} {xs : Nat → Int32} (hL : L ≤ 2048) (K : KK) (C0 : hCx p s m #[.ref b] meth c cL_law 9 ret wsL_law RL K (lA s)) (hX : va_X b L xs s s.heap) (hbl : b < s.heap.size) {d0 : Drawn} (hd0 : s.drawn.sameBut d0 lw_cs) {i : Int} {k n : Nat} {qm q : Nat → Nat} {o : Nat} {g : Nat → Int64} {S T : Nat → Int → Int} (I : LI S T) (hi : 0 ≤ i ∧ i + 4 ≤ L) (hkn : k + 1 ≤ 1054 ∧ n + 6 ≤ 11758)
    (hE : ∀ (S2 T2 : Nat → Int → Int) (g2 : Nat → Int64) (k2 n2 : Nat) (d1 : Drawn), s.drawn.sameBut d1 lw_cs → LI S2 T2 → k2 ≤ k + 1 → n2 ≤ n + 6 → hG p l e room_1 (s.setDrawn d1) m #[.ref b] below meth c 9 K (lA s) k2 n2 (lw_Z below #[.ref b] s) 1415 [(4, .int (iI i)), (3, .ref o), (2, .ref (qm 0)), (1, .ref (q 0)), (0, .ref b)] [] (lwW K qm T2 o g2 q S2)) : hG p l e room_1 (s.setDrawn d0) m #[.ref b] below meth c 9 K (lA s) k n (lw_Z below #[.ref b] s) 1360 [(4, .int (iI i)), (3, .ref o), (2, .ref (qm 0)), (1, .ref (q 0)), (0, .ref b)] [] (lwW K qm T o g q S) := by
  have C := C0.dr d0
  have hbA : ¬ lA s b := Nat.not_le.mpr hbl
  have hHT := I.2.2.1
  have hf := I.hf
  have hh := I.hh
  have hY := I.Y
  refine g_aload_n (pc := 1360) C dL_law_1360 rfl rfl ?_
  refine g_callVDF (pc := 1361) hd0 (wc := wX K q S) (wr := wM K qm T ++ [(o, aJ K 1 g)]) (As := []) (rest := []) C [12, 13, 14, 15, 16, 17, 18, 19, 20, 21, 22, 23, 24, 25, 26] [0, 1, 2, 3, 4, 5, 6, 7, 8, 9, 10, 11] rfl rfl (by decide) (by decide) (by decide) (c_X1_mean l K q S I.1 I.2.1) (cwV 0 C.hts gL_law_X1_mean rfl rfl rfl (by decide +kernel) ⟨by decide, by decide⟩) 0 rfl rfl dL_law_1361 rfl (Nat.le_of_ble_eq_true rfl) ⟨by show k ≤ 1054; omega, by show n ≤ 11758; omega⟩ (fun zp w hp d1 hd1 => ?_)
  obtain ⟨hM1, rfl⟩ := hp
  refine g_perm [0, 1, 2, 3, 4, 5, 6, 7, 8, 9, 10, 11, 12, 13, 14, 15, 16, 17, 18, 19, 20, 21, 22, 23, 24, 25, 26] (by decide) (ws' := lwW K qm T o g q S) rfl ?_
  refine gl_dstore (pc := 1364) (lv' := [(5, .double zp), (4, .int (iI i)), (3, .ref o), (2, .ref (qm 0)), (1, .ref (q 0)), (0, .ref b)]) (C0.dr d1) dL_law_1364 (by decide) rfl ?_
  refine g_aload_n (pc := 1366) (C0.dr d1) dL_law_1366 rfl rfl ?_
  refine g_callVDF (pc := 1367) hd1 (wc := wM K qm T) (wr := (o, aJ K 1 g) :: wX K q S) (As := []) (rest := []) (C0.dr d1) [0, 1, 2, 3, 4, 5, 6, 7, 8, 9, 10] [11, 12, 13, 14, 15, 16, 17, 18, 19, 20, 21, 22, 23, 24, 25, 26] rfl rfl (by decide) (by decide) (by decide) (c_X2_mean l K qm T hHT hf hh) (cwV 0 (C0.dr d1).hts gL_law_X2_mean rfl rfl rfl (by decide +kernel) ⟨by decide, by decide⟩) 0 rfl rfl dL_law_1367 rfl (Nat.le_of_ble_eq_true rfl) ⟨by show k ≤ 1054; omega, by show n ≤ 11758; omega⟩ (fun zq w hp d2 hd2 => ?_)
  obtain ⟨hM2, T2, rfl, V⟩ := hp
  refine g_perm [16, 17, 18, 19, 20, 21, 22, 23, 24, 25, 26, 0, 1, 2, 3, 4, 5, 6, 7, 8, 9, 10, 11, 12, 13, 14, 15] (by decide) (ws' := lwW K qm T2 o g q S) rfl ?_
  rw [I.2.2.2.2.1] at hM2
  have hpq := MN_pair hM1 (MN_cg I.ef I.eh hM2)
  have hLI := (LI_same I ⟨rfl, rfl, rfl, I.2.1⟩ V).1
  refine gl_dstore (pc := 1370) (lv' := [(7, .double zq), (5, .double zp), (4, .int (iI i)), (3, .ref o), (2, .ref (qm 0)), (1, .ref (q 0)), (0, .ref b)]) (C0.dr d2) dL_law_1370 (by decide) rfl ?_
  have hF : hG p l e room_1 (s.setDrawn d2) m #[.ref b] below meth c 9 K (lA s) k n (lw_Z below #[.ref b] s) 1398 [(7, .double zq), (5, .double zp), (4, .int (iI i)), (3, .ref o), (2, .ref (qm 0)), (1, .ref (q 0)), (0, .ref b)] [] (lwW K qm T2 o g q S) := by
    refine g_goto (pc := 1398) (tgt := 1415) (C0.dr d2) dL_law_1398 (by decide) ?_
    refine g_sub (lv' := [(4, .int (iI i)), (3, .ref o), (2, .ref (qm 0)), (1, .ref (q 0)), (0, .ref b)]) [2, 3, 4, 5, 6] rfl ?_
    exact hE S T2 g k n d2 hd2 hLI (by omega) (by omega)
  refine gl_dload (pc := 1372) (C0.dr d2) dL_law_1372 rfl ?_
  refine gl_dload (pc := 1374) (C0.dr d2) dL_law_1374 rfl ?_
  obtain ⟨z1, hz1, b1⟩ := cmp_z (FP.dcmp zp zq)
  refine gl_dcmp (pc := 1376) (C0.dr d2) dL_law_1376 hz1 ?_
  refine g_if_eq (pc := 1377) (tgt := 1398) (C0.dr d2) dL_law_1377 (by decide) (by omega) (fun _ => hF) (fun c1 => ?_)
  refine gl_dload (pc := 1380) (C0.dr d2) dL_law_1380 rfl ?_
  refine gl_dload (pc := 1382) (C0.dr d2) dL_law_1382 rfl ?_
  obtain ⟨z2, hz2, b2⟩ := cmp_z (FP.dcmp zp zp)
  have hc2 := (cmp_ne (z := z2) hpq hz1 b1 c1).1 hz2
  refine gl_dcmp (pc := 1384) (C0.dr d2) dL_law_1384 hz2 ?_
  refine g_if_eq (pc := 1385) (tgt := 1396) (C0.dr d2) dL_law_1385 (by decide) (by omega) (fun cn => absurd cn hc2) (fun _ => ?_)
  refine gl_dload (pc := 1388) (C0.dr d2) dL_law_1388 rfl ?_
  refine gl_dload (pc := 1390) (C0.dr d2) dL_law_1390 rfl ?_
  obtain ⟨z3, hz3, b3⟩ := cmp_z (FP.dcmp zq zq)
  have hc3 := (cmp_ne (z := z3) hpq hz1 b1 c1).2 hz3
  refine gl_dcmp (pc := 1392) (C0.dr d2) dL_law_1392 hz3 ?_
  refine g_if_ne (pc := 1393) (tgt := 1398) (C0.dr d2) dL_law_1393 (by decide) (by omega) (fun _ => hF) (fun cn => absurd cn hc3)
