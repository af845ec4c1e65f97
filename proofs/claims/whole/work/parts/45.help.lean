theorem g_i2lr {p : Program} {l : Launch} {e : Env} {R : Room} {s : State} {m : MethodId} {args : Array Value} {below : List Frame} {meth : Method} {c : Code} {cc : ByteArray} {nL : Nat} {rt : Option FieldType} {Ts : List Cond} {own : String} {K : KK} {A : Nat → Prop} {k n : Nat} {Q : State → Prop} {pc : Nat} {lv : List (Nat × Value)} {st : List Value} {ws : va_W} (C : hCx p s m args meth c cc nL rt Ts own K A) {x : Int} (d : decode cc pc = .ok (.i2l, 1)) (kk : hG p l e R s m args below meth c nL K A k n Q (pc + 1) lv (.long (iI x).toInt64 :: st) ws) : hG p l e R s m args below meth c nL K A k n Q pc lv (.int (iI x) :: st) ws :=
  fun H locs ls hP hD hS hl => lv_i2l C.hx C.hb d rfl (kk H locs ls hP hD hS hl)
set_option maxHeartbeats 400000 in
set_option maxRecDepth 100000 in
theorem h_setRings (l : Launch) (hlt : l.stackTraces = false) (K : KK) (q : Nat → Nat) (S : Nat → Int → Int) (H : HS S) (Lk : LK S) (o : Nat) (g : Nat → Int64) (k : Int) (gk : -2147483648 ≤ k ∧ k < 2147483648) : hMH l yL_setRings wsL_setRings { frames := 11, cells := 1, slots := 6, locals := 352 } K [.ref (q 0), .int (iI k), .ref o] ((o, aJ K 1 g) :: wX K q S) (fun z w => ∃ (g2 : Nat → Int64) (S2 : Nat → Int → Int), w = (o, aJ K 1 g2) :: wX K q S2 ∧ (((1 ≤ k ∧ k ≤ 5) ∧ z = 0 ∧ ∃ a : Int, g2 0 = (iI a).toInt64 ∧ (a = FR (k + 1)) ∧ (S2 0 9 = k ∧ S2 0 10 = FR (k + 1) ∧ (∀ j, 0 ≤ j → j < 91 → S2 7 j = 0) ∧ (∀ j, 0 ≤ j → j < 546 → S2 8 j = 0) ∧ LK S2)) ∨ ((¬ (1 ≤ k ∧ k ≤ 5)) ∧ z = 1 ∧ S2 = S))) := by
  refine in_MH (cc := cL_setRings) (maxL := 4) (rt := some .int) (lv := [(0, .ref (q 0)), (1, .int (iI k)), (2, .ref o)]) (by decide) rfl (Nat.le_of_ble_eq_true rfl) rfl ?_
  intro p e s m args below meth c A C htab
  have hn := H.n
  have hk9 := H.1
  have hh := H.hh
  refine g_aload_n (pc := 0) C dL_setRings_0 rfl rfl ?_
  refine g_iconst (pc := 1) C dL_setRings_1 ?_
  refine g_aload_n (pc := 2) C dL_setRings_2 rfl rfl ?_
  refine g_iload_n (pc := 3) C dL_setRings_3 rfl rfl ?_
  rcases (by omega : (1 ≤ k ∧ k ≤ 5) ∨ (¬ (1 ≤ k ∧ k ≤ 5))) with hc | hc
  · refine g_callVIF (pc := 4) (wc := wX K q S) (wr := [(o, aJ K 1 g)]) (As := [.int (iI k)]) (rest := [.int (iI 0), .ref o]) C [1, 2, 3, 4, 5, 6, 7, 8, 9, 10, 11, 12, 13, 14, 15] [0] rfl rfl (by decide) (by decide) (by decide) (c_X1_setRings l K q S H Lk k (by omega)) (cwV 1 C.hts gL_setRings_X1_setRings rfl rfl rfl (by decide +kernel) ⟨by decide, by decide⟩) 0 rfl rfl dL_setRings_4 rfl (Nat.le_of_ble_eq_true rfl) ⟨Nat.zero_le _, Nat.zero_le _⟩ (fun z w hp => ?_)
    obtain ⟨hz, S2, rfl, hU⟩ := hp
    refine g_i2lr (pc := 7) C dL_setRings_7 ?_
    refine g_lastore (pc := 8) (ws' := (o, aJ K 1 (vp_updL g 0 (iI z).toInt64)) :: wX K q S2) C 0 rfl (by decide) dL_setRings_8 rfl ?_
    refine g_goto (pc := 9) (tgt := 15) C dL_setRings_9 (by decide) ?_
    refine g_iconst (pc := 15) C dL_setRings_15 ?_
    exact g_ireturnH (pc := 16) C rfl (by decide) (by decide) dL_setRings_16 (⟨_, S2, rfl, Or.inl (⟨hc, rfl, z, rfl, hz, hU⟩)⟩)
  · refine g_callVXF (pc := 4) (wc := wX K q S) (wr := [(o, aJ K 1 g)]) (As := [.int (iI k)]) (rest := [.int (iI 0), .ref o]) C htab [1, 2, 3, 4, 5, 6, 7, 8, 9, 10, 11, 12, 13, 14, 15] [0] rfl rfl (by decide) (by decide) (by decide) (c_X1_setRings_x1 l hlt K q S H k gk (by omega)) (cwV 1 C.hts gL_setRings_X1_setRings rfl rfl rfl (by decide +kernel) ⟨by decide, by decide⟩) 0 rfl rfl dL_setRings_4 rfl (Nat.le_of_ble_eq_true rfl) ⟨by decide, by decide⟩ [] ⟨0, 9, 12, 13⟩ [] rfl (fun z hz => nomatch hz) (by decide) (by decide) (by decide +kernel) C.hZ.2.2.2.2.2.1.2.2.1 (fun q9 => ?_)
    refine g_astore_n (pc := 12) (lv' := [(3, .ref q9), (0, .ref (q 0)), (1, .int (iI k)), (2, .ref o)]) C dL_setRings_12 rfl (by decide) rfl ?_
    refine g_iconst (pc := 13) C dL_setRings_13 ?_
    exact g_ireturnH (pc := 14) C rfl (by decide) (by decide) dL_setRings_14 (⟨g, S, rfl, Or.inr (⟨hc, rfl, rfl⟩)⟩)
set_option maxHeartbeats 400000 in
set_option maxRecDepth 100000 in
theorem h_put (l : Launch) (hlt : l.stackTraces = false) (K : KK) (q : Nat → Nat) (S : Nat → Int → Int) (H : HS S) (Lk : LK S) (o : Nat) (g : Nat → Int64) (r v : Int) (gr : -2147483648 ≤ r ∧ r < 2147483648) (gv : -2147483648 ≤ v ∧ v < 2147483648) : hMH l yL_put wsL_put { frames := 11, cells := 1, slots := 6, locals := 352 } K [.ref (q 0), .int (iI r), .int (iI v), .ref o] ((o, aJ K 1 g) :: wX K q S) (fun z w => ∃ (g2 : Nat → Int64) (S2 : Nat → Int → Int), w = (o, aJ K 1 g2) :: wX K q S2 ∧ ((((0 ≤ r ∧ r < S 0 10) ∧ (0 ≤ v ∧ v < 3)) ∧ z = 0 ∧ ∃ a : Int, g2 0 = (iI a).toInt64 ∧ (a = S 7 r) ∧ (UP S S2 (fU (S 7) r v) (S 8))) ∨ ((¬ (0 ≤ r ∧ r < S 0 10)) ∧ z = 1 ∧ S2 = S) ∨ (((0 ≤ r ∧ r < S 0 10) ∧ ¬ (0 ≤ v ∧ v < 3)) ∧ z = 1 ∧ S2 = S))) := by
  refine in_MH (cc := cL_put) (maxL := 5) (rt := some .int) (lv := [(0, .ref (q 0)), (1, .int (iI r)), (2, .int (iI v)), (3, .ref o)]) (by decide) rfl (Nat.le_of_ble_eq_true rfl) rfl ?_
  intro p e s m args below meth c A C htab
  have hn := H.n
  have hk9 := H.1
  have hh := H.hh
  refine g_aload_n (pc := 0) C dL_put_0 rfl rfl ?_
  refine g_iconst (pc := 1) C dL_put_1 ?_
  refine g_aload_n (pc := 2) C dL_put_2 rfl rfl ?_
  refine g_iload_n (pc := 3) C dL_put_3 rfl rfl ?_
  refine g_iload_n (pc := 4) C dL_put_4 rfl rfl ?_
  rcases (by omega : ((0 ≤ r ∧ r < S 0 10) ∧ (0 ≤ v ∧ v < 3)) ∨ (¬ (0 ≤ r ∧ r < S 0 10)) ∨ ((0 ≤ r ∧ r < S 0 10) ∧ ¬ (0 ≤ v ∧ v < 3))) with hc | hc | hc
  · refine g_callVIF (pc := 5) (wc := wX K q S) (wr := [(o, aJ K 1 g)]) (As := [.int (iI r), .int (iI v)]) (rest := [.int (iI 0), .ref o]) C [1, 2, 3, 4, 5, 6, 7, 8, 9, 10, 11, 12, 13, 14, 15] [0] rfl rfl (by decide) (by decide) (by decide) (c_X1_put l K q S H Lk r v (by omega) (by omega)) (cwV 2 C.hts gL_put_X1_put rfl rfl rfl (by decide +kernel) ⟨by decide, by decide⟩) 0 rfl rfl dL_put_5 rfl (Nat.le_of_ble_eq_true rfl) ⟨Nat.zero_le _, Nat.zero_le _⟩ (fun z w hp => ?_)
    obtain ⟨hz, S2, rfl, hU⟩ := hp
    refine g_i2lr (pc := 8) C dL_put_8 ?_
    refine g_lastore (pc := 9) (ws' := (o, aJ K 1 (vp_updL g 0 (iI z).toInt64)) :: wX K q S2) C 0 rfl (by decide) dL_put_9 rfl ?_
    refine g_goto (pc := 10) (tgt := 17) C dL_put_10 (by decide) ?_
    refine g_iconst (pc := 17) C dL_put_17 ?_
    exact g_ireturnH (pc := 18) C rfl (by decide) (by decide) dL_put_18 (⟨_, S2, rfl, Or.inl (⟨hc, rfl, z, rfl, hz, hU⟩)⟩)
  · refine g_callVXF (pc := 5) (wc := wX K q S) (wr := [(o, aJ K 1 g)]) (As := [.int (iI r), .int (iI v)]) (rest := [.int (iI 0), .ref o]) C htab [1, 2, 3, 4, 5, 6, 7, 8, 9, 10, 11, 12, 13, 14, 15] [0] rfl rfl (by decide) (by decide) (by decide) (c_X1_put_x1 l hlt K q S H r v gr gv (by omega)) (cwV 2 C.hts gL_put_X1_put rfl rfl rfl (by decide +kernel) ⟨by decide, by decide⟩) 0 rfl rfl dL_put_5 rfl (Nat.le_of_ble_eq_true rfl) ⟨by decide, by decide⟩ [] ⟨0, 10, 13, 19⟩ [] rfl (fun z hz => nomatch hz) (by decide) (by decide) (by decide +kernel) C.hZ.2.2.2.2.2.1.2.1 (fun q9 => ?_)
    refine g_astore (pc := 13) (lv' := [(4, .ref q9), (0, .ref (q 0)), (1, .int (iI r)), (2, .int (iI v)), (3, .ref o)]) C dL_put_13 (by decide) rfl ?_
    refine g_iconst (pc := 15) C dL_put_15 ?_
    exact g_ireturnH (pc := 16) C rfl (by decide) (by decide) dL_put_16 (⟨g, S, rfl, Or.inr (Or.inl (⟨hc, rfl, rfl⟩))⟩)
  · refine g_callVXF (pc := 5) (wc := wX K q S) (wr := [(o, aJ K 1 g)]) (As := [.int (iI r), .int (iI v)]) (rest := [.int (iI 0), .ref o]) C htab [1, 2, 3, 4, 5, 6, 7, 8, 9, 10, 11, 12, 13, 14, 15] [0] rfl rfl (by decide) (by decide) (by decide) (c_X1_put_x2 l hlt K q S H r v gr gv (by omega) (by omega)) (cwV 2 C.hts gL_put_X1_put rfl rfl rfl (by decide +kernel) ⟨by decide, by decide⟩) 0 rfl rfl dL_put_5 rfl (Nat.le_of_ble_eq_true rfl) ⟨by decide, by decide⟩ [] ⟨0, 10, 13, 19⟩ [] rfl (fun z hz => nomatch hz) (by decide) (by decide) (by decide +kernel) C.hZ.2.2.2.2.2.1.2.1 (fun q9 => ?_)
    refine g_astore (pc := 13) (lv' := [(4, .ref q9), (0, .ref (q 0)), (1, .int (iI r)), (2, .int (iI v)), (3, .ref o)]) C dL_put_13 (by decide) rfl ?_
    refine g_iconst (pc := 15) C dL_put_15 ?_
    exact g_ireturnH (pc := 16) C rfl (by decide) (by decide) dL_put_16 (⟨g, S, rfl, Or.inr (Or.inr (⟨hc, rfl, rfl⟩))⟩)
set_option maxHeartbeats 400000 in
set_option maxRecDepth 100000 in
theorem h_shut (l : Launch) (hlt : l.stackTraces = false) (K : KK) (q : Nat → Nat) (S : Nat → Int → Int) (H : HS S) (Lk : LK S) (o : Nat) (g : Nat → Int64) (r t b : Int) (gr : -2147483648 ≤ r ∧ r < 2147483648) (gt : -2147483648 ≤ t ∧ t < 2147483648) (hb2 : b = 0 ∨ b = 1) : hMH l yL_shut wsL_shut { frames := 11, cells := 1, slots := 6, locals := 352 } K [.ref (q 0), .int (iI r), .int (iI t), .int (iI b), .ref o] ((o, aJ K 1 g) :: wX K q S) (fun z w => ∃ (g2 : Nat → Int64) (S2 : Nat → Int → Int), w = (o, aJ K 1 g2) :: wX K q S2 ∧ ((((0 ≤ r ∧ r < S 0 10) ∧ (0 ≤ t ∧ t < 6) ∧ ¬ NX (S 0 10) r t = -1) ∧ z = 0 ∧ ∃ a : Int, g2 0 = (if a = 0 then 0 else 1) ∧ (a = S 8 (r * 6 + t)) ∧ (UP S S2 (S 7) (fU (fU (S 8) (r * 6 + t) b) (NX (S 0 10) r t * 6 + (t + 3) % 6) b))) ∨ ((¬ (0 ≤ r ∧ r < S 0 10)) ∧ z = 1 ∧ S2 = S) ∨ (((0 ≤ r ∧ r < S 0 10) ∧ ¬ (0 ≤ t ∧ t < 6)) ∧ z = 1 ∧ S2 = S) ∨ (((0 ≤ r ∧ r < S 0 10) ∧ (0 ≤ t ∧ t < 6) ∧ NX (S 0 10) r t = -1) ∧ z = 2 ∧ S2 = S))) := by
  refine in_MH (cc := cL_shut) (maxL := 6) (rt := some .int) (lv := [(0, .ref (q 0)), (1, .int (iI r)), (2, .int (iI t)), (3, .int (iI b)), (4, .ref o)]) (by decide) rfl (Nat.le_of_ble_eq_true rfl) rfl ?_
  intro p e s m args below meth c A C htab
  have hn := H.n
  have hk9 := H.1
  have hh := H.hh
  refine g_aload (pc := 0) C dL_shut_0 rfl ?_
  refine g_iconst (pc := 2) C dL_shut_2 ?_
  refine g_aload_n (pc := 3) C dL_shut_3 rfl rfl ?_
  refine g_iload_n (pc := 4) C dL_shut_4 rfl rfl ?_
  refine g_iload_n (pc := 5) C dL_shut_5 rfl rfl ?_
  refine g_iload_n (pc := 6) C dL_shut_6 rfl rfl ?_
  rcases (by omega : ((0 ≤ r ∧ r < S 0 10) ∧ (0 ≤ t ∧ t < 6) ∧ ¬ NX (S 0 10) r t = -1) ∨ (¬ (0 ≤ r ∧ r < S 0 10)) ∨ ((0 ≤ r ∧ r < S 0 10) ∧ ¬ (0 ≤ t ∧ t < 6)) ∨ ((0 ≤ r ∧ r < S 0 10) ∧ (0 ≤ t ∧ t < 6) ∧ NX (S 0 10) r t = -1)) with hc | hc | hc | hc
  · refine g_callVIF (pc := 7) (wc := wX K q S) (wr := [(o, aJ K 1 g)]) (As := [.int (iI r), .int (iI t), .int (iI b)]) (rest := [.int (iI 0), .ref o]) C [1, 2, 3, 4, 5, 6, 7, 8, 9, 10, 11, 12, 13, 14, 15] [0] rfl rfl (by decide) (by decide) (by decide) (c_X1_shut l K q S H Lk r t b (by omega) (by omega) hb2 (by omega)) (cwV 3 C.hts gL_shut_X1_shut rfl rfl rfl (by decide +kernel) ⟨by decide, by decide⟩) 0 rfl rfl dL_shut_7 rfl (Nat.le_of_ble_eq_true rfl) ⟨Nat.zero_le _, Nat.zero_le _⟩ (fun z w hp => ?_)
    obtain ⟨hz, S2, rfl, hU⟩ := hp
    have hzb : 0 ≤ z ∧ z ≤ 1 := by
      have h8 := hh (r * 6 + t) (by omega) (by omega)
      omega
    refine g_if_eq (pc := 10) (tgt := 17) C dL_shut_10 (by decide) (by omega) (fun c1 => ?_) (fun c1 => ?_)
    · refine g_lconst (pc := 17) (v := (0 : Int64)) C dL_shut_17 (by decide +kernel) ?_
      refine g_lastore (pc := 18) (ws' := (o, aJ K 1 (vp_updL g 0 (0 : Int64))) :: wX K q S2) C 0 rfl (by decide) dL_shut_18 rfl ?_
      refine g_goto (pc := 19) (tgt := 30) C dL_shut_19 (by decide) ?_
      refine g_iconst (pc := 30) C dL_shut_30 ?_
      exact g_ireturnH (pc := 31) C rfl (by decide) (by decide) dL_shut_31 (⟨_, S2, rfl, Or.inl (⟨hc, rfl, z, (if_pos c1).symm, hz, hU⟩)⟩)
    · refine g_lconst (pc := 13) (v := (1 : Int64)) C dL_shut_13 (by decide +kernel) ?_
      refine g_goto (pc := 14) (tgt := 18) C dL_shut_14 (by decide) ?_
      refine g_lastore (pc := 18) (ws' := (o, aJ K 1 (vp_updL g 0 (1 : Int64))) :: wX K q S2) C 0 rfl (by decide) dL_shut_18 rfl ?_
      refine g_goto (pc := 19) (tgt := 30) C dL_shut_19 (by decide) ?_
      refine g_iconst (pc := 30) C dL_shut_30 ?_
      exact g_ireturnH (pc := 31) C rfl (by decide) (by decide) dL_shut_31 (⟨_, S2, rfl, Or.inl (⟨hc, rfl, z, (if_neg c1).symm, hz, hU⟩)⟩)
  · refine g_callVXF (pc := 7) (wc := wX K q S) (wr := [(o, aJ K 1 g)]) (As := [.int (iI r), .int (iI t), .int (iI b)]) (rest := [.int (iI 0), .ref o]) C htab [1, 2, 3, 4, 5, 6, 7, 8, 9, 10, 11, 12, 13, 14, 15] [0] rfl rfl (by decide) (by decide) (by decide) (c_X1_shut_x1 l hlt K q S H r t b gr gt (by omega)) (cwV 3 C.hts gL_shut_X1_shut rfl rfl rfl (by decide +kernel) ⟨by decide, by decide⟩) 0 rfl rfl dL_shut_7 rfl (Nat.le_of_ble_eq_true rfl) ⟨by decide, by decide⟩ [] ⟨0, 19, 22, 19⟩ [⟨0, 19, 26, 25⟩] rfl (fun z hz => nomatch hz) (by decide) (by decide) (by decide +kernel) C.hZ.2.2.2.2.2.1.2.1 (fun q9 => ?_)
    refine g_astore (pc := 22) (lv' := [(5, .ref q9), (0, .ref (q 0)), (1, .int (iI r)), (2, .int (iI t)), (3, .int (iI b)), (4, .ref o)]) C dL_shut_22 (by decide) rfl ?_
    refine g_iconst (pc := 24) C dL_shut_24 ?_
    exact g_ireturnH (pc := 25) C rfl (by decide) (by decide) dL_shut_25 (⟨g, S, rfl, Or.inr (Or.inl (⟨hc, rfl, rfl⟩))⟩)
  · refine g_callVXF (pc := 7) (wc := wX K q S) (wr := [(o, aJ K 1 g)]) (As := [.int (iI r), .int (iI t), .int (iI b)]) (rest := [.int (iI 0), .ref o]) C htab [1, 2, 3, 4, 5, 6, 7, 8, 9, 10, 11, 12, 13, 14, 15] [0] rfl rfl (by decide) (by decide) (by decide) (c_X1_shut_x2 l hlt K q S H r t b gr gt (by omega) (by omega)) (cwV 3 C.hts gL_shut_X1_shut rfl rfl rfl (by decide +kernel) ⟨by decide, by decide⟩) 0 rfl rfl dL_shut_7 rfl (Nat.le_of_ble_eq_true rfl) ⟨by decide, by decide⟩ [] ⟨0, 19, 22, 19⟩ [⟨0, 19, 26, 25⟩] rfl (fun z hz => nomatch hz) (by decide) (by decide) (by decide +kernel) C.hZ.2.2.2.2.2.1.2.1 (fun q9 => ?_)
    refine g_astore (pc := 22) (lv' := [(5, .ref q9), (0, .ref (q 0)), (1, .int (iI r)), (2, .int (iI t)), (3, .int (iI b)), (4, .ref o)]) C dL_shut_22 (by decide) rfl ?_
    refine g_iconst (pc := 24) C dL_shut_24 ?_
    exact g_ireturnH (pc := 25) C rfl (by decide) (by decide) dL_shut_25 (⟨g, S, rfl, Or.inr (Or.inr (Or.inl (⟨hc, rfl, rfl⟩)))⟩)
  · refine g_callVXF (pc := 7) (wc := wX K q S) (wr := [(o, aJ K 1 g)]) (As := [.int (iI r), .int (iI t), .int (iI b)]) (rest := [.int (iI 0), .ref o]) C htab [1, 2, 3, 4, 5, 6, 7, 8, 9, 10, 11, 12, 13, 14, 15] [0] rfl rfl (by decide) (by decide) (by decide) (c_X1_shut_x3 l hlt K q S H r t b (by omega) (by omega) (by omega)) (cwV 3 C.hts gL_shut_X1_shut rfl rfl rfl (by decide +kernel) ⟨by decide, by decide⟩) 0 rfl rfl dL_shut_7 rfl (Nat.le_of_ble_eq_true rfl) ⟨by decide, by decide⟩ [⟨0, 19, 22, 19⟩] ⟨0, 19, 26, 25⟩ [] rfl (fun z hz => by
      have hz2 := List.mem_singleton.mp hz
      subst hz2
      exact Or.inr ⟨by decide, "java/lang/IndexOutOfBoundsException", C.hts _ (by decide +kernel), C.hZ.2.2.2.2.2.1.2.2.2.2.1⟩) (by decide) (by decide) (by decide +kernel) C.hZ.2.2.2.2.2.1.2.2.2.1 (fun q9 => ?_)
    refine g_astore (pc := 26) (lv' := [(5, .ref q9), (0, .ref (q 0)), (1, .int (iI r)), (2, .int (iI t)), (3, .int (iI b)), (4, .ref o)]) C dL_shut_26 (by decide) rfl ?_
    refine g_iconst (pc := 28) C dL_shut_28 ?_
    exact g_ireturnH (pc := 29) C rfl (by decide) (by decide) dL_shut_29 (⟨g, S, rfl, Or.inr (Or.inr (Or.inr (⟨hc, rfl, rfl⟩)))⟩)
set_option maxHeartbeats 400000 in
set_option maxRecDepth 100000 in
theorem h_turn (l : Launch) (hlt : l.stackTraces = false) (K : KK) (q : Nat → Nat) (S : Nat → Int → Int) (H : HS S) (Lk : LK S) (o : Nat) (g : Nat → Int64) (k b : Int) (gk : -2147483648 ≤ k ∧ k < 2147483648) (gb : -2147483648 ≤ b ∧ b < 2147483648) : hMH l yL_turn wsL_turn { frames := 11, cells := 1, slots := 6, locals := 352 } K [.ref (q 0), .int (iI k), .int (iI b), .ref o] ((o, aJ K 1 g) :: wX K q S) (fun z w => ∃ (g2 : Nat → Int64) (S2 : Nat → Int → Int), w = (o, aJ K 1 g2) :: wX K q S2 ∧ ((((0 ≤ k ∧ k ≤ S 0 9) ∧ (0 ≤ b ∧ b ≤ 29)) ∧ z = 0 ∧ ∃ a : Int, g2 0 = (iI a).toInt64 ∧ (a = LIT (S 0 10) (rot k b (S 7) (S 7)) (S 8)) ∧ (UP S S2 (rot k b (S 7) (S 7)) (S 8))) ∨ ((¬ (0 ≤ k ∧ k ≤ S 0 9)) ∧ z = 1 ∧ S2 = S) ∨ (((0 ≤ k ∧ k ≤ S 0 9) ∧ ¬ (0 ≤ b ∧ b ≤ 29)) ∧ z = 2 ∧ S2 = S))) := by
  refine in_MH (cc := cL_turn) (maxL := 5) (rt := some .int) (lv := [(0, .ref (q 0)), (1, .int (iI k)), (2, .int (iI b)), (3, .ref o)]) (by decide) rfl (Nat.le_of_ble_eq_true rfl) rfl ?_
  intro p e s m args below meth c A C htab
  have hn := H.n
  have hk9 := H.1
  have hh := H.hh
  refine g_aload_n (pc := 0) C dL_turn_0 rfl rfl ?_
  refine g_iconst (pc := 1) C dL_turn_1 ?_
  refine g_aload_n (pc := 2) C dL_turn_2 rfl rfl ?_
  refine g_iload_n (pc := 3) C dL_turn_3 rfl rfl ?_
  refine g_iload_n (pc := 4) C dL_turn_4 rfl rfl ?_
  rcases (by omega : ((0 ≤ k ∧ k ≤ S 0 9) ∧ (0 ≤ b ∧ b ≤ 29)) ∨ (¬ (0 ≤ k ∧ k ≤ S 0 9)) ∨ ((0 ≤ k ∧ k ≤ S 0 9) ∧ ¬ (0 ≤ b ∧ b ≤ 29))) with hc | hc | hc
  · refine g_callVIF (pc := 5) (wc := wX K q S) (wr := [(o, aJ K 1 g)]) (As := [.int (iI k), .int (iI b)]) (rest := [.int (iI 0), .ref o]) C [1, 2, 3, 4, 5, 6, 7, 8, 9, 10, 11, 12, 13, 14, 15] [0] rfl rfl (by decide) (by decide) (by decide) (c_X1_turn l K q S H Lk k b (by omega) (by omega)) (cwV 2 C.hts gL_turn_X1_turn rfl rfl rfl (by decide +kernel) ⟨by decide, by decide⟩) 0 rfl rfl dL_turn_5 rfl (Nat.le_of_ble_eq_true rfl) ⟨Nat.zero_le _, Nat.zero_le _⟩ (fun z w hp => ?_)
    obtain ⟨hz, S2, rfl, hU⟩ := hp
    refine g_i2lr (pc := 8) C dL_turn_8 ?_
    refine g_lastore (pc := 9) (ws' := (o, aJ K 1 (vp_updL g 0 (iI z).toInt64)) :: wX K q S2) C 0 rfl (by decide) dL_turn_9 rfl ?_
    refine g_goto (pc := 10) (tgt := 21) C dL_turn_10 (by decide) ?_
    refine g_iconst (pc := 21) C dL_turn_21 ?_
    exact g_ireturnH (pc := 22) C rfl (by decide) (by decide) dL_turn_22 (⟨_, S2, rfl, Or.inl (⟨hc, rfl, z, rfl, hz, hU⟩)⟩)
  · refine g_callVXF (pc := 5) (wc := wX K q S) (wr := [(o, aJ K 1 g)]) (As := [.int (iI k), .int (iI b)]) (rest := [.int (iI 0), .ref o]) C htab [1, 2, 3, 4, 5, 6, 7, 8, 9, 10, 11, 12, 13, 14, 15] [0] rfl rfl (by decide) (by decide) (by decide) (c_X1_turn_x1 l hlt K q S H k b gk gb (by omega)) (cwV 2 C.hts gL_turn_X1_turn rfl rfl rfl (by decide +kernel) ⟨by decide, by decide⟩) 0 rfl rfl dL_turn_5 rfl (Nat.le_of_ble_eq_true rfl) ⟨by decide, by decide⟩ [] ⟨0, 10, 13, 19⟩ [⟨0, 10, 17, 13⟩] rfl (fun z hz => nomatch hz) (by decide) (by decide) (by decide +kernel) C.hZ.2.2.2.2.2.1.2.1 (fun q9 => ?_)
    refine g_astore (pc := 13) (lv' := [(4, .ref q9), (0, .ref (q 0)), (1, .int (iI k)), (2, .int (iI b)), (3, .ref o)]) C dL_turn_13 (by decide) rfl ?_
    refine g_iconst (pc := 15) C dL_turn_15 ?_
    exact g_ireturnH (pc := 16) C rfl (by decide) (by decide) dL_turn_16 (⟨g, S, rfl, Or.inr (Or.inl (⟨hc, rfl, rfl⟩))⟩)
  · refine g_callVXF (pc := 5) (wc := wX K q S) (wr := [(o, aJ K 1 g)]) (As := [.int (iI k), .int (iI b)]) (rest := [.int (iI 0), .ref o]) C htab [1, 2, 3, 4, 5, 6, 7, 8, 9, 10, 11, 12, 13, 14, 15] [0] rfl rfl (by decide) (by decide) (by decide) (c_X1_turn_x2 l hlt K q S H k b gk gb (by omega) (by omega)) (cwV 2 C.hts gL_turn_X1_turn rfl rfl rfl (by decide +kernel) ⟨by decide, by decide⟩) 0 rfl rfl dL_turn_5 rfl (Nat.le_of_ble_eq_true rfl) ⟨by decide, by decide⟩ [⟨0, 10, 13, 19⟩] ⟨0, 10, 17, 13⟩ [] rfl (fun z hz => by
      have hz2 := List.mem_singleton.mp hz
      subst hz2
      exact Or.inr ⟨by decide, "java/lang/IndexOutOfBoundsException", C.hts _ (by decide +kernel), C.hZ.2.2.2.2.2.1.2.2.2.2.2.1⟩) (by decide) (by decide) (by decide +kernel) C.hZ.2.2.2.2.2.1.2.2.1 (fun q9 => ?_)
    refine g_astore (pc := 17) (lv' := [(4, .ref q9), (0, .ref (q 0)), (1, .int (iI k)), (2, .int (iI b)), (3, .ref o)]) C dL_turn_17 (by decide) rfl ?_
    refine g_iconst (pc := 19) C dL_turn_19 ?_
    exact g_ireturnH (pc := 20) C rfl (by decide) (by decide) dL_turn_20 (⟨g, S, rfl, Or.inr (Or.inr (⟨hc, rfl, rfl⟩))⟩)
set_option maxHeartbeats 400000 in
set_option maxRecDepth 100000 in
theorem h_turnAll (l : Launch) (hlt : l.stackTraces = false) (K : KK) (q : Nat → Nat) (S : Nat → Int → Int) (H : HS S) (Lk : LK S) (o : Nat) (g : Nat → Int64) (b : Int) (gb : -2147483648 ≤ b ∧ b < 2147483648) : hMH l yL_turnAll wsL_turnAll { frames := 11, cells := 1, slots := 6, locals := 352 } K [.ref (q 0), .int (iI b), .ref o] ((o, aJ K 1 g) :: wX K q S) (fun z w => ∃ (g2 : Nat → Int64) (S2 : Nat → Int → Int), w = (o, aJ K 1 g2) :: wX K q S2 ∧ (((0 ≤ b ∧ b ≤ 5) ∧ z = 0 ∧ ∃ a : Int, g2 0 = (iI a).toInt64 ∧ (∃ F : Int → Int, a = LIT (S 0 10) F (S 8) ∧ (∀ j, 0 ≤ j → j < S 0 10 → F j = AT (S 7) b j) ∧ (∀ j, S 0 10 ≤ j → F j = S 7 j) ∧ UP S S2 F (S 8)) ∧ (True)) ∨ ((¬ (0 ≤ b ∧ b ≤ 5)) ∧ z = 1 ∧ S2 = S))) := by
  refine in_MH (cc := cL_turnAll) (maxL := 4) (rt := some .int) (lv := [(0, .ref (q 0)), (1, .int (iI b)), (2, .ref o)]) (by decide) rfl (Nat.le_of_ble_eq_true rfl) rfl ?_
  intro p e s m args below meth c A C htab
  have hn := H.n
  have hk9 := H.1
  have hh := H.hh
  refine g_aload_n (pc := 0) C dL_turnAll_0 rfl rfl ?_
  refine g_iconst (pc := 1) C dL_turnAll_1 ?_
  refine g_aload_n (pc := 2) C dL_turnAll_2 rfl rfl ?_
  refine g_iload_n (pc := 3) C dL_turnAll_3 rfl rfl ?_
  rcases (by omega : (0 ≤ b ∧ b ≤ 5) ∨ (¬ (0 ≤ b ∧ b ≤ 5))) with hc | hc
  · refine g_callVIF (pc := 4) (wc := wX K q S) (wr := [(o, aJ K 1 g)]) (As := [.int (iI b)]) (rest := [.int (iI 0), .ref o]) C [1, 2, 3, 4, 5, 6, 7, 8, 9, 10, 11, 12, 13, 14, 15] [0] rfl rfl (by decide) (by decide) (by decide) (c_X1_turnAll l K q S H Lk b (by omega)) (cwV 1 C.hts gL_turnAll_X1_turnAll rfl rfl rfl (by decide +kernel) ⟨by decide, by decide⟩) 0 rfl rfl dL_turnAll_4 rfl (Nat.le_of_ble_eq_true rfl) ⟨Nat.zero_le _, Nat.zero_le _⟩ (fun z w hp => ?_)
    obtain ⟨⟨F, hz, hF, hFo, S2, rfl, hU⟩, -⟩ := hp
    refine g_i2lr (pc := 7) C dL_turnAll_7 ?_
    refine g_lastore (pc := 8) (ws' := (o, aJ K 1 (vp_updL g 0 (iI z).toInt64)) :: wX K q S2) C 0 rfl (by decide) dL_turnAll_8 rfl ?_
    refine g_goto (pc := 9) (tgt := 15) C dL_turnAll_9 (by decide) ?_
    refine g_iconst (pc := 15) C dL_turnAll_15 ?_
    exact g_ireturnH (pc := 16) C rfl (by decide) (by decide) dL_turnAll_16 (⟨_, S2, rfl, Or.inl (⟨hc, rfl, z, rfl, ⟨F, hz, hF, hFo, hU⟩, trivial⟩)⟩)
  · refine g_callVXF (pc := 4) (wc := wX K q S) (wr := [(o, aJ K 1 g)]) (As := [.int (iI b)]) (rest := [.int (iI 0), .ref o]) C htab [1, 2, 3, 4, 5, 6, 7, 8, 9, 10, 11, 12, 13, 14, 15] [0] rfl rfl (by decide) (by decide) (by decide) (c_X1_turnAll_x1 l hlt K q S H b gb (by omega)) (cwV 1 C.hts gL_turnAll_X1_turnAll rfl rfl rfl (by decide +kernel) ⟨by decide, by decide⟩) 0 rfl rfl dL_turnAll_4 rfl (Nat.le_of_ble_eq_true rfl) ⟨by decide, by decide⟩ [] ⟨0, 9, 12, 13⟩ [] rfl (fun z hz => nomatch hz) (by decide) (by decide) (by decide +kernel) C.hZ.2.2.2.2.2.1.2.2.1 (fun q9 => ?_)
    refine g_astore_n (pc := 12) (lv' := [(3, .ref q9), (0, .ref (q 0)), (1, .int (iI b)), (2, .ref o)]) C dL_turnAll_12 rfl (by decide) rfl ?_
    refine g_iconst (pc := 13) C dL_turnAll_13 ?_
    exact g_ireturnH (pc := 14) C rfl (by decide) (by decide) dL_turnAll_14 (⟨g, S, rfl, Or.inr (⟨hc, rfl, rfl⟩)⟩)
set_option maxHeartbeats 400000 in
set_option maxRecDepth 100000 in
theorem h_about (l : Launch) (hlt : l.stackTraces = false) (K : KK) (q : Nat → Nat) (S : Nat → Int → Int) (H : HS S) (Lk : LK S) (o : Nat) (g : Nat → Int64) (r v : Int) (gr : -2147483648 ≤ r ∧ r < 2147483648) (gv : -2147483648 ≤ v ∧ v < 2147483648) : hMH l yL_about wsL_about { frames := 11, cells := 1, slots := 6, locals := 352 } K [.ref (q 0), .int (iI r), .int (iI v), .ref o] ((o, aJ K 1 g) :: wX K q S) (fun z w => ∃ (g2 : Nat → Int64) (S2 : Nat → Int → Int), w = (o, aJ K 1 g2) :: wX K q S2 ∧ ((((0 ≤ r ∧ r < S 0 10) ∧ (0 ≤ v ∧ v < 6)) ∧ z = 0 ∧ ∃ a : Int, g2 0 = (iI a).toInt64 ∧ (a = ABT (S 0 10) (S 7) (S 8) r v) ∧ (UP S S2 (S 7) (S 8))) ∨ ((¬ (0 ≤ r ∧ r < S 0 10)) ∧ z = 1 ∧ S2 = S) ∨ (((0 ≤ r ∧ r < S 0 10) ∧ ¬ (0 ≤ v ∧ v < 6)) ∧ z = 1 ∧ S2 = S))) := by
  refine in_MH (cc := cL_about) (maxL := 5) (rt := some .int) (lv := [(0, .ref (q 0)), (1, .int (iI r)), (2, .int (iI v)), (3, .ref o)]) (by decide) rfl (Nat.le_of_ble_eq_true rfl) rfl ?_
  intro p e s m args below meth c A C htab
  have hn := H.n
  have hk9 := H.1
  have hh := H.hh
  refine g_aload_n (pc := 0) C dL_about_0 rfl rfl ?_
  refine g_iconst (pc := 1) C dL_about_1 ?_
  refine g_aload_n (pc := 2) C dL_about_2 rfl rfl ?_
  refine g_iload_n (pc := 3) C dL_about_3 rfl rfl ?_
  refine g_iload_n (pc := 4) C dL_about_4 rfl rfl ?_
  rcases (by omega : ((0 ≤ r ∧ r < S 0 10) ∧ (0 ≤ v ∧ v < 6)) ∨ (¬ (0 ≤ r ∧ r < S 0 10)) ∨ ((0 ≤ r ∧ r < S 0 10) ∧ ¬ (0 ≤ v ∧ v < 6))) with hc | hc | hc
  · refine g_callVIF (pc := 5) (wc := wX K q S) (wr := [(o, aJ K 1 g)]) (As := [.int (iI r), .int (iI v)]) (rest := [.int (iI 0), .ref o]) C [1, 2, 3, 4, 5, 6, 7, 8, 9, 10, 11, 12, 13, 14, 15] [0] rfl rfl (by decide) (by decide) (by decide) (c_X1_about l K q S H Lk r v (by omega) (by omega)) (cwV 2 C.hts gL_about_X1_about rfl rfl rfl (by decide +kernel) ⟨by decide, by decide⟩) 0 rfl rfl dL_about_5 rfl (Nat.le_of_ble_eq_true rfl) ⟨Nat.zero_le _, Nat.zero_le _⟩ (fun z w hp => ?_)
    obtain ⟨hz, S2, rfl, hU⟩ := hp
    refine g_i2lr (pc := 8) C dL_about_8 ?_
    refine g_lastore (pc := 9) (ws' := (o, aJ K 1 (vp_updL g 0 (iI z).toInt64)) :: wX K q S2) C 0 rfl (by decide) dL_about_9 rfl ?_
    refine g_goto (pc := 10) (tgt := 17) C dL_about_10 (by decide) ?_
    refine g_iconst (pc := 17) C dL_about_17 ?_
    exact g_ireturnH (pc := 18) C rfl (by decide) (by decide) dL_about_18 (⟨_, S2, rfl, Or.inl (⟨hc, rfl, z, rfl, hz, hU⟩)⟩)
  · refine g_callVXF (pc := 5) (wc := wX K q S) (wr := [(o, aJ K 1 g)]) (As := [.int (iI r), .int (iI v)]) (rest := [.int (iI 0), .ref o]) C htab [1, 2, 3, 4, 5, 6, 7, 8, 9, 10, 11, 12, 13, 14, 15] [0] rfl rfl (by decide) (by decide) (by decide) (c_X1_about_x1 l hlt K q S H r v gr gv (by omega)) (cwV 2 C.hts gL_about_X1_about rfl rfl rfl (by decide +kernel) ⟨by decide, by decide⟩) 0 rfl rfl dL_about_5 rfl (Nat.le_of_ble_eq_true rfl) ⟨by decide, by decide⟩ [] ⟨0, 10, 13, 19⟩ [] rfl (fun z hz => nomatch hz) (by decide) (by decide) (by decide +kernel) C.hZ.2.2.2.2.2.1.2.1 (fun q9 => ?_)
    refine g_astore (pc := 13) (lv' := [(4, .ref q9), (0, .ref (q 0)), (1, .int (iI r)), (2, .int (iI v)), (3, .ref o)]) C dL_about_13 (by decide) rfl ?_
    refine g_iconst (pc := 15) C dL_about_15 ?_
    exact g_ireturnH (pc := 16) C rfl (by decide) (by decide) dL_about_16 (⟨g, S, rfl, Or.inr (Or.inl (⟨hc, rfl, rfl⟩))⟩)
  · refine g_callVXF (pc := 5) (wc := wX K q S) (wr := [(o, aJ K 1 g)]) (As := [.int (iI r), .int (iI v)]) (rest := [.int (iI 0), .ref o]) C htab [1, 2, 3, 4, 5, 6, 7, 8, 9, 10, 11, 12, 13, 14, 15] [0] rfl rfl (by decide) (by decide) (by decide) (c_X1_about_x2 l hlt K q S H r v gr gv (by omega) (by omega)) (cwV 2 C.hts gL_about_X1_about rfl rfl rfl (by decide +kernel) ⟨by decide, by decide⟩) 0 rfl rfl dL_about_5 rfl (Nat.le_of_ble_eq_true rfl) ⟨by decide, by decide⟩ [] ⟨0, 10, 13, 19⟩ [] rfl (fun z hz => nomatch hz) (by decide) (by decide) (by decide +kernel) C.hZ.2.2.2.2.2.1.2.1 (fun q9 => ?_)
    refine g_astore (pc := 13) (lv' := [(4, .ref q9), (0, .ref (q 0)), (1, .int (iI r)), (2, .int (iI v)), (3, .ref o)]) C dL_about_13 (by decide) rfl ?_
    refine g_iconst (pc := 15) C dL_about_15 ?_
    exact g_ireturnH (pc := 16) C rfl (by decide) (by decide) dL_about_16 (⟨g, S, rfl, Or.inr (Or.inr (⟨hc, rfl, rfl⟩))⟩)
set_option maxHeartbeats 400000 in
set_option maxRecDepth 100000 in
theorem h_beside (l : Launch) (hlt : l.stackTraces = false) (K : KK) (q : Nat → Nat) (S : Nat → Int → Int) (H : HS S) (Lk : LK S) (o : Nat) (g : Nat → Int64) (r t : Int) (gr : -2147483648 ≤ r ∧ r < 2147483648) (gt : -2147483648 ≤ t ∧ t < 2147483648) : hMH l yL_beside wsL_beside { frames := 11, cells := 1, slots := 6, locals := 352 } K [.ref (q 0), .int (iI r), .int (iI t), .ref o] ((o, aJ K 1 g) :: wX K q S) (fun z w => ∃ (g2 : Nat → Int64) (S2 : Nat → Int → Int), w = (o, aJ K 1 g2) :: wX K q S2 ∧ ((((0 ≤ r ∧ r < S 0 10) ∧ (0 ≤ t ∧ t < 6)) ∧ z = 0 ∧ ∃ a : Int, g2 0 = (iI a).toInt64 ∧ (a = NX (S 0 10) r t) ∧ (UP S S2 (S 7) (S 8))) ∨ ((¬ (0 ≤ r ∧ r < S 0 10)) ∧ z = 1 ∧ S2 = S) ∨ (((0 ≤ r ∧ r < S 0 10) ∧ ¬ (0 ≤ t ∧ t < 6)) ∧ z = 1 ∧ S2 = S))) := by
  refine in_MH (cc := cL_beside) (maxL := 5) (rt := some .int) (lv := [(0, .ref (q 0)), (1, .int (iI r)), (2, .int (iI t)), (3, .ref o)]) (by decide) rfl (Nat.le_of_ble_eq_true rfl) rfl ?_
  intro p e s m args below meth c A C htab
  have hn := H.n
  have hk9 := H.1
  have hh := H.hh
  refine g_aload_n (pc := 0) C dL_beside_0 rfl rfl ?_
  refine g_iconst (pc := 1) C dL_beside_1 ?_
  refine g_aload_n (pc := 2) C dL_beside_2 rfl rfl ?_
  refine g_iload_n (pc := 3) C dL_beside_3 rfl rfl ?_
  refine g_iload_n (pc := 4) C dL_beside_4 rfl rfl ?_
  rcases (by omega : ((0 ≤ r ∧ r < S 0 10) ∧ (0 ≤ t ∧ t < 6)) ∨ (¬ (0 ≤ r ∧ r < S 0 10)) ∨ ((0 ≤ r ∧ r < S 0 10) ∧ ¬ (0 ≤ t ∧ t < 6))) with hc | hc | hc
  · refine g_callVIF (pc := 5) (wc := wX K q S) (wr := [(o, aJ K 1 g)]) (As := [.int (iI r), .int (iI t)]) (rest := [.int (iI 0), .ref o]) C [1, 2, 3, 4, 5, 6, 7, 8, 9, 10, 11, 12, 13, 14, 15] [0] rfl rfl (by decide) (by decide) (by decide) (c_X1_beside l K q S H Lk r t (by omega) (by omega)) (cwV 2 C.hts gL_beside_X1_beside rfl rfl rfl (by decide +kernel) ⟨by decide, by decide⟩) 0 rfl rfl dL_beside_5 rfl (Nat.le_of_ble_eq_true rfl) ⟨Nat.zero_le _, Nat.zero_le _⟩ (fun z w hp => ?_)
    obtain ⟨hz, S2, rfl, hU⟩ := hp
    refine g_i2lr (pc := 8) C dL_beside_8 ?_
    refine g_lastore (pc := 9) (ws' := (o, aJ K 1 (vp_updL g 0 (iI z).toInt64)) :: wX K q S2) C 0 rfl (by decide) dL_beside_9 rfl ?_
    refine g_goto (pc := 10) (tgt := 17) C dL_beside_10 (by decide) ?_
    refine g_iconst (pc := 17) C dL_beside_17 ?_
    exact g_ireturnH (pc := 18) C rfl (by decide) (by decide) dL_beside_18 (⟨_, S2, rfl, Or.inl (⟨hc, rfl, z, rfl, hz, hU⟩)⟩)
  · refine g_callVXF (pc := 5) (wc := wX K q S) (wr := [(o, aJ K 1 g)]) (As := [.int (iI r), .int (iI t)]) (rest := [.int (iI 0), .ref o]) C htab [1, 2, 3, 4, 5, 6, 7, 8, 9, 10, 11, 12, 13, 14, 15] [0] rfl rfl (by decide) (by decide) (by decide) (c_X1_beside_x1 l hlt K q S H r t gr gt (by omega)) (cwV 2 C.hts gL_beside_X1_beside rfl rfl rfl (by decide +kernel) ⟨by decide, by decide⟩) 0 rfl rfl dL_beside_5 rfl (Nat.le_of_ble_eq_true rfl) ⟨by decide, by decide⟩ [] ⟨0, 10, 13, 19⟩ [] rfl (fun z hz => nomatch hz) (by decide) (by decide) (by decide +kernel) C.hZ.2.2.2.2.2.1.2.1 (fun q9 => ?_)
    refine g_astore (pc := 13) (lv' := [(4, .ref q9), (0, .ref (q 0)), (1, .int (iI r)), (2, .int (iI t)), (3, .ref o)]) C dL_beside_13 (by decide) rfl ?_
    refine g_iconst (pc := 15) C dL_beside_15 ?_
    exact g_ireturnH (pc := 16) C rfl (by decide) (by decide) dL_beside_16 (⟨g, S, rfl, Or.inr (Or.inl (⟨hc, rfl, rfl⟩))⟩)
  · refine g_callVXF (pc := 5) (wc := wX K q S) (wr := [(o, aJ K 1 g)]) (As := [.int (iI r), .int (iI t)]) (rest := [.int (iI 0), .ref o]) C htab [1, 2, 3, 4, 5, 6, 7, 8, 9, 10, 11, 12, 13, 14, 15] [0] rfl rfl (by decide) (by decide) (by decide) (c_X1_beside_x2 l hlt K q S H r t gr gt (by omega) (by omega)) (cwV 2 C.hts gL_beside_X1_beside rfl rfl rfl (by decide +kernel) ⟨by decide, by decide⟩) 0 rfl rfl dL_beside_5 rfl (Nat.le_of_ble_eq_true rfl) ⟨by decide, by decide⟩ [] ⟨0, 10, 13, 19⟩ [] rfl (fun z hz => nomatch hz) (by decide) (by decide) (by decide +kernel) C.hZ.2.2.2.2.2.1.2.1 (fun q9 => ?_)
    refine g_astore (pc := 13) (lv' := [(4, .ref q9), (0, .ref (q 0)), (1, .int (iI r)), (2, .int (iI t)), (3, .ref o)]) C dL_beside_13 (by decide) rfl ?_
    refine g_iconst (pc := 15) C dL_beside_15 ?_
    exact g_ireturnH (pc := 16) C rfl (by decide) (by decide) dL_beside_16 (⟨g, S, rfl, Or.inr (Or.inr (⟨hc, rfl, rfl⟩))⟩)
set_option maxHeartbeats 400000 in
set_option maxRecDepth 100000 in
theorem h_isShut (l : Launch) (hlt : l.stackTraces = false) (K : KK) (q : Nat → Nat) (S : Nat → Int → Int) (H : HS S) (Lk : LK S) (o : Nat) (g : Nat → Int64) (r t : Int) (gr : -2147483648 ≤ r ∧ r < 2147483648) (gt : -2147483648 ≤ t ∧ t < 2147483648) : hMH l yL_isShut wsL_isShut { frames := 11, cells := 1, slots := 6, locals := 352 } K [.ref (q 0), .int (iI r), .int (iI t), .ref o] ((o, aJ K 1 g) :: wX K q S) (fun z w => ∃ (g2 : Nat → Int64) (S2 : Nat → Int → Int), w = (o, aJ K 1 g2) :: wX K q S2 ∧ ((((0 ≤ r ∧ r < S 0 10) ∧ (0 ≤ t ∧ t < 6) ∧ ¬ NX (S 0 10) r t = -1) ∧ z = 0 ∧ ∃ a : Int, g2 0 = (if a = 0 then 0 else 1) ∧ (a = S 8 (r * 6 + t)) ∧ (UP S S2 (S 7) (S 8))) ∨ ((¬ (0 ≤ r ∧ r < S 0 10)) ∧ z = 1 ∧ S2 = S) ∨ (((0 ≤ r ∧ r < S 0 10) ∧ ¬ (0 ≤ t ∧ t < 6)) ∧ z = 1 ∧ S2 = S) ∨ (((0 ≤ r ∧ r < S 0 10) ∧ (0 ≤ t ∧ t < 6) ∧ NX (S 0 10) r t = -1) ∧ z = 2 ∧ S2 = S))) := by
  refine in_MH (cc := cL_isShut) (maxL := 5) (rt := some .int) (lv := [(0, .ref (q 0)), (1, .int (iI r)), (2, .int (iI t)), (3, .ref o)]) (by decide) rfl (Nat.le_of_ble_eq_true rfl) rfl ?_
  intro p e s m args below meth c A C htab
  have hn := H.n
  have hk9 := H.1
  have hh := H.hh
  refine g_aload_n (pc := 0) C dL_isShut_0 rfl rfl ?_
  refine g_iconst (pc := 1) C dL_isShut_1 ?_
  refine g_aload_n (pc := 2) C dL_isShut_2 rfl rfl ?_
  refine g_iload_n (pc := 3) C dL_isShut_3 rfl rfl ?_
  refine g_iload_n (pc := 4) C dL_isShut_4 rfl rfl ?_
  rcases (by omega : ((0 ≤ r ∧ r < S 0 10) ∧ (0 ≤ t ∧ t < 6) ∧ ¬ NX (S 0 10) r t = -1) ∨ (¬ (0 ≤ r ∧ r < S 0 10)) ∨ ((0 ≤ r ∧ r < S 0 10) ∧ ¬ (0 ≤ t ∧ t < 6)) ∨ ((0 ≤ r ∧ r < S 0 10) ∧ (0 ≤ t ∧ t < 6) ∧ NX (S 0 10) r t = -1)) with hc | hc | hc | hc
  · refine g_callVIF (pc := 5) (wc := wX K q S) (wr := [(o, aJ K 1 g)]) (As := [.int (iI r), .int (iI t)]) (rest := [.int (iI 0), .ref o]) C [1, 2, 3, 4, 5, 6, 7, 8, 9, 10, 11, 12, 13, 14, 15] [0] rfl rfl (by decide) (by decide) (by decide) (c_X1_isShut l K q S H Lk r t (by omega) (by omega) (by omega)) (cwV 2 C.hts gL_isShut_X1_isShut rfl rfl rfl (by decide +kernel) ⟨by decide, by decide⟩) 0 rfl rfl dL_isShut_5 rfl (Nat.le_of_ble_eq_true rfl) ⟨Nat.zero_le _, Nat.zero_le _⟩ (fun z w hp => ?_)
    obtain ⟨hz, S2, rfl, hU⟩ := hp
    have hzb : 0 ≤ z ∧ z ≤ 1 := by
      have h8 := hh (r * 6 + t) (by omega) (by omega)
      omega
    refine g_if_eq (pc := 8) (tgt := 15) C dL_isShut_8 (by decide) (by omega) (fun c1 => ?_) (fun c1 => ?_)
    · refine g_lconst (pc := 15) (v := (0 : Int64)) C dL_isShut_15 (by decide +kernel) ?_
      refine g_lastore (pc := 16) (ws' := (o, aJ K 1 (vp_updL g 0 (0 : Int64))) :: wX K q S2) C 0 rfl (by decide) dL_isShut_16 rfl ?_
      refine g_goto (pc := 17) (tgt := 28) C dL_isShut_17 (by decide) ?_
      refine g_iconst (pc := 28) C dL_isShut_28 ?_
      exact g_ireturnH (pc := 29) C rfl (by decide) (by decide) dL_isShut_29 (⟨_, S2, rfl, Or.inl (⟨hc, rfl, z, (if_pos c1).symm, hz, hU⟩)⟩)
    · refine g_lconst (pc := 11) (v := (1 : Int64)) C dL_isShut_11 (by decide +kernel) ?_
      refine g_goto (pc := 12) (tgt := 16) C dL_isShut_12 (by decide) ?_
      refine g_lastore (pc := 16) (ws' := (o, aJ K 1 (vp_updL g 0 (1 : Int64))) :: wX K q S2) C 0 rfl (by decide) dL_isShut_16 rfl ?_
      refine g_goto (pc := 17) (tgt := 28) C dL_isShut_17 (by decide) ?_
      refine g_iconst (pc := 28) C dL_isShut_28 ?_
      exact g_ireturnH (pc := 29) C rfl (by decide) (by decide) dL_isShut_29 (⟨_, S2, rfl, Or.inl (⟨hc, rfl, z, (if_neg c1).symm, hz, hU⟩)⟩)
  · refine g_callVXF (pc := 5) (wc := wX K q S) (wr := [(o, aJ K 1 g)]) (As := [.int (iI r), .int (iI t)]) (rest := [.int (iI 0), .ref o]) C htab [1, 2, 3, 4, 5, 6, 7, 8, 9, 10, 11, 12, 13, 14, 15] [0] rfl rfl (by decide) (by decide) (by decide) (c_X1_isShut_x1 l hlt K q S H r t gr gt (by omega)) (cwV 2 C.hts gL_isShut_X1_isShut rfl rfl rfl (by decide +kernel) ⟨by decide, by decide⟩) 0 rfl rfl dL_isShut_5 rfl (Nat.le_of_ble_eq_true rfl) ⟨by decide, by decide⟩ [] ⟨0, 17, 20, 19⟩ [⟨0, 17, 24, 25⟩] rfl (fun z hz => nomatch hz) (by decide) (by decide) (by decide +kernel) C.hZ.2.2.2.2.2.1.2.1 (fun q9 => ?_)
    refine g_astore (pc := 20) (lv' := [(4, .ref q9), (0, .ref (q 0)), (1, .int (iI r)), (2, .int (iI t)), (3, .ref o)]) C dL_isShut_20 (by decide) rfl ?_
    refine g_iconst (pc := 22) C dL_isShut_22 ?_
    exact g_ireturnH (pc := 23) C rfl (by decide) (by decide) dL_isShut_23 (⟨g, S, rfl, Or.inr (Or.inl (⟨hc, rfl, rfl⟩))⟩)
  · refine g_callVXF (pc := 5) (wc := wX K q S) (wr := [(o, aJ K 1 g)]) (As := [.int (iI r), .int (iI t)]) (rest := [.int (iI 0), .ref o]) C htab [1, 2, 3, 4, 5, 6, 7, 8, 9, 10, 11, 12, 13, 14, 15] [0] rfl rfl (by decide) (by decide) (by decide) (c_X1_isShut_x2 l hlt K q S H r t gr gt (by omega) (by omega)) (cwV 2 C.hts gL_isShut_X1_isShut rfl rfl rfl (by decide +kernel) ⟨by decide, by decide⟩) 0 rfl rfl dL_isShut_5 rfl (Nat.le_of_ble_eq_true rfl) ⟨by decide, by decide⟩ [] ⟨0, 17, 20, 19⟩ [⟨0, 17, 24, 25⟩] rfl (fun z hz => nomatch hz) (by decide) (by decide) (by decide +kernel) C.hZ.2.2.2.2.2.1.2.1 (fun q9 => ?_)
    refine g_astore (pc := 20) (lv' := [(4, .ref q9), (0, .ref (q 0)), (1, .int (iI r)), (2, .int (iI t)), (3, .ref o)]) C dL_isShut_20 (by decide) rfl ?_
    refine g_iconst (pc := 22) C dL_isShut_22 ?_
    exact g_ireturnH (pc := 23) C rfl (by decide) (by decide) dL_isShut_23 (⟨g, S, rfl, Or.inr (Or.inr (Or.inl (⟨hc, rfl, rfl⟩)))⟩)
  · refine g_callVXF (pc := 5) (wc := wX K q S) (wr := [(o, aJ K 1 g)]) (As := [.int (iI r), .int (iI t)]) (rest := [.int (iI 0), .ref o]) C htab [1, 2, 3, 4, 5, 6, 7, 8, 9, 10, 11, 12, 13, 14, 15] [0] rfl rfl (by decide) (by decide) (by decide) (c_X1_isShut_x3 l hlt K q S H r t (by omega) (by omega) (by omega)) (cwV 2 C.hts gL_isShut_X1_isShut rfl rfl rfl (by decide +kernel) ⟨by decide, by decide⟩) 0 rfl rfl dL_isShut_5 rfl (Nat.le_of_ble_eq_true rfl) ⟨by decide, by decide⟩ [⟨0, 17, 20, 19⟩] ⟨0, 17, 24, 25⟩ [] rfl (fun z hz => by
      have hz2 := List.mem_singleton.mp hz
      subst hz2
      exact Or.inr ⟨by decide, "java/lang/IndexOutOfBoundsException", C.hts _ (by decide +kernel), C.hZ.2.2.2.2.2.1.2.2.2.2.1⟩) (by decide) (by decide) (by decide +kernel) C.hZ.2.2.2.2.2.1.2.2.2.1 (fun q9 => ?_)
    refine g_astore (pc := 24) (lv' := [(4, .ref q9), (0, .ref (q 0)), (1, .int (iI r)), (2, .int (iI t)), (3, .ref o)]) C dL_isShut_24 (by decide) rfl ?_
    refine g_iconst (pc := 26) C dL_isShut_26 ?_
    exact g_ireturnH (pc := 27) C rfl (by decide) (by decide) dL_isShut_27 (⟨g, S, rfl, Or.inr (Or.inr (Or.inr (⟨hc, rfl, rfl⟩)))⟩)
set_option maxHeartbeats 400000 in
set_option maxRecDepth 100000 in
theorem h_far (l : Launch) (hlt : l.stackTraces = false) (K : KK) (q : Nat → Nat) (S : Nat → Int → Int) (H : HS S) (Lk : LK S) (o : Nat) (g : Nat → Int64) (x y : Int) (gx : -2147483648 ≤ x ∧ x < 2147483648) (gy : -2147483648 ≤ y ∧ y < 2147483648) : hMH l yL_far wsL_far { frames := 11, cells := 1, slots := 6, locals := 352 } K [.ref (q 0), .int (iI x), .int (iI y), .ref o] ((o, aJ K 1 g) :: wX K q S) (fun z w => ∃ (g2 : Nat → Int64) (S2 : Nat → Int → Int), w = (o, aJ K 1 g2) :: wX K q S2 ∧ ((((0 ≤ x ∧ x < S 0 10) ∧ (0 ≤ y ∧ y < S 0 10)) ∧ z = 0 ∧ ∃ a : Int, g2 0 = (iI a).toInt64 ∧ (a = FA x y) ∧ (UP S S2 (S 7) (S 8))) ∨ ((¬ (0 ≤ x ∧ x < S 0 10)) ∧ z = 1 ∧ S2 = S) ∨ (((0 ≤ x ∧ x < S 0 10) ∧ ¬ (0 ≤ y ∧ y < S 0 10)) ∧ z = 1 ∧ S2 = S))) := by
  refine in_MH (cc := cL_far) (maxL := 5) (rt := some .int) (lv := [(0, .ref (q 0)), (1, .int (iI x)), (2, .int (iI y)), (3, .ref o)]) (by decide) rfl (Nat.le_of_ble_eq_true rfl) rfl ?_
  intro p e s m args below meth c A C htab
  have hn := H.n
  have hk9 := H.1
  have hh := H.hh
  refine g_aload_n (pc := 0) C dL_far_0 rfl rfl ?_
  refine g_iconst (pc := 1) C dL_far_1 ?_
  refine g_aload_n (pc := 2) C dL_far_2 rfl rfl ?_
  refine g_iload_n (pc := 3) C dL_far_3 rfl rfl ?_
  refine g_iload_n (pc := 4) C dL_far_4 rfl rfl ?_
  rcases (by omega : ((0 ≤ x ∧ x < S 0 10) ∧ (0 ≤ y ∧ y < S 0 10)) ∨ (¬ (0 ≤ x ∧ x < S 0 10)) ∨ ((0 ≤ x ∧ x < S 0 10) ∧ ¬ (0 ≤ y ∧ y < S 0 10))) with hc | hc | hc
  · refine g_callVIF (pc := 5) (wc := wX K q S) (wr := [(o, aJ K 1 g)]) (As := [.int (iI x), .int (iI y)]) (rest := [.int (iI 0), .ref o]) C [1, 2, 3, 4, 5, 6, 7, 8, 9, 10, 11, 12, 13, 14, 15] [0] rfl rfl (by decide) (by decide) (by decide) (c_X1_far l K q S H Lk x y (by omega) (by omega)) (cwV 2 C.hts gL_far_X1_far rfl rfl rfl (by decide +kernel) ⟨by decide, by decide⟩) 0 rfl rfl dL_far_5 rfl (Nat.le_of_ble_eq_true rfl) ⟨Nat.zero_le _, Nat.zero_le _⟩ (fun z w hp => ?_)
    obtain ⟨hz, S2, rfl, hU⟩ := hp
    refine g_i2lr (pc := 8) C dL_far_8 ?_
    refine g_lastore (pc := 9) (ws' := (o, aJ K 1 (vp_updL g 0 (iI z).toInt64)) :: wX K q S2) C 0 rfl (by decide) dL_far_9 rfl ?_
    refine g_goto (pc := 10) (tgt := 17) C dL_far_10 (by decide) ?_
    refine g_iconst (pc := 17) C dL_far_17 ?_
    exact g_ireturnH (pc := 18) C rfl (by decide) (by decide) dL_far_18 (⟨_, S2, rfl, Or.inl (⟨hc, rfl, z, rfl, hz, hU⟩)⟩)
  · refine g_callVXF (pc := 5) (wc := wX K q S) (wr := [(o, aJ K 1 g)]) (As := [.int (iI x), .int (iI y)]) (rest := [.int (iI 0), .ref o]) C htab [1, 2, 3, 4, 5, 6, 7, 8, 9, 10, 11, 12, 13, 14, 15] [0] rfl rfl (by decide) (by decide) (by decide) (c_X1_far_x1 l hlt K q S H x y gx gy (by omega)) (cwV 2 C.hts gL_far_X1_far rfl rfl rfl (by decide +kernel) ⟨by decide, by decide⟩) 0 rfl rfl dL_far_5 rfl (Nat.le_of_ble_eq_true rfl) ⟨by decide, by decide⟩ [] ⟨0, 10, 13, 19⟩ [] rfl (fun z hz => nomatch hz) (by decide) (by decide) (by decide +kernel) C.hZ.2.2.2.2.2.1.2.1 (fun q9 => ?_)
    refine g_astore (pc := 13) (lv' := [(4, .ref q9), (0, .ref (q 0)), (1, .int (iI x)), (2, .int (iI y)), (3, .ref o)]) C dL_far_13 (by decide) rfl ?_
    refine g_iconst (pc := 15) C dL_far_15 ?_
    exact g_ireturnH (pc := 16) C rfl (by decide) (by decide) dL_far_16 (⟨g, S, rfl, Or.inr (Or.inl (⟨hc, rfl, rfl⟩))⟩)
  · refine g_callVXF (pc := 5) (wc := wX K q S) (wr := [(o, aJ K 1 g)]) (As := [.int (iI x), .int (iI y)]) (rest := [.int (iI 0), .ref o]) C htab [1, 2, 3, 4, 5, 6, 7, 8, 9, 10, 11, 12, 13, 14, 15] [0] rfl rfl (by decide) (by decide) (by decide) (c_X1_far_x2 l hlt K q S H x y gx gy (by omega) (by omega)) (cwV 2 C.hts gL_far_X1_far rfl rfl rfl (by decide +kernel) ⟨by decide, by decide⟩) 0 rfl rfl dL_far_5 rfl (Nat.le_of_ble_eq_true rfl) ⟨by decide, by decide⟩ [] ⟨0, 10, 13, 19⟩ [] rfl (fun z hz => nomatch hz) (by decide) (by decide) (by decide +kernel) C.hZ.2.2.2.2.2.1.2.1 (fun q9 => ?_)
    refine g_astore (pc := 13) (lv' := [(4, .ref q9), (0, .ref (q 0)), (1, .int (iI x)), (2, .int (iI y)), (3, .ref o)]) C dL_far_13 (by decide) rfl ?_
    refine g_iconst (pc := 15) C dL_far_15 ?_
    exact g_ireturnH (pc := 16) C rfl (by decide) (by decide) dL_far_16 (⟨g, S, rfl, Or.inr (Or.inr (⟨hc, rfl, rfl⟩))⟩)
set_option maxHeartbeats 400000 in
set_option maxRecDepth 100000 in
theorem h_sees (l : Launch) (hlt : l.stackTraces = false) (K : KK) (q : Nat → Nat) (S : Nat → Int → Int) (H : HS S) (Lk : LK S) (o : Nat) (g : Nat → Int64) (x y : Int) (gx : -2147483648 ≤ x ∧ x < 2147483648) (gy : -2147483648 ≤ y ∧ y < 2147483648) : hMH l yL_sees wsL_sees { frames := 11, cells := 1, slots := 6, locals := 352 } K [.ref (q 0), .int (iI x), .int (iI y), .ref o] ((o, aJ K 1 g) :: wX K q S) (fun z w => ∃ (g2 : Nat → Int64) (S2 : Nat → Int → Int), w = (o, aJ K 1 g2) :: wX K q S2 ∧ ((((0 ≤ x ∧ x < S 0 10) ∧ (0 ≤ y ∧ y < S 0 10)) ∧ z = 0 ∧ ∃ a : Int, g2 0 = (if a = 0 then 0 else 1) ∧ (a = if 0 < sL (ind y) (beam (S 0 10) (S 7) (S 8) x) then 1 else 0) ∧ (UP S S2 (S 7) (S 8))) ∨ ((¬ (0 ≤ x ∧ x < S 0 10)) ∧ z = 1 ∧ S2 = S) ∨ (((0 ≤ x ∧ x < S 0 10) ∧ ¬ (0 ≤ y ∧ y < S 0 10)) ∧ z = 1 ∧ S2 = S))) := by
  refine in_MH (cc := cL_sees) (maxL := 5) (rt := some .int) (lv := [(0, .ref (q 0)), (1, .int (iI x)), (2, .int (iI y)), (3, .ref o)]) (by decide) rfl (Nat.le_of_ble_eq_true rfl) rfl ?_
  intro p e s m args below meth c A C htab
  have hn := H.n
  have hk9 := H.1
  have hh := H.hh
  refine g_aload_n (pc := 0) C dL_sees_0 rfl rfl ?_
  refine g_iconst (pc := 1) C dL_sees_1 ?_
  refine g_aload_n (pc := 2) C dL_sees_2 rfl rfl ?_
  refine g_iload_n (pc := 3) C dL_sees_3 rfl rfl ?_
  refine g_iload_n (pc := 4) C dL_sees_4 rfl rfl ?_
  rcases (by omega : ((0 ≤ x ∧ x < S 0 10) ∧ (0 ≤ y ∧ y < S 0 10)) ∨ (¬ (0 ≤ x ∧ x < S 0 10)) ∨ ((0 ≤ x ∧ x < S 0 10) ∧ ¬ (0 ≤ y ∧ y < S 0 10))) with hc | hc | hc
  · refine g_callVIF (pc := 5) (wc := wX K q S) (wr := [(o, aJ K 1 g)]) (As := [.int (iI x), .int (iI y)]) (rest := [.int (iI 0), .ref o]) C [1, 2, 3, 4, 5, 6, 7, 8, 9, 10, 11, 12, 13, 14, 15] [0] rfl rfl (by decide) (by decide) (by decide) (c_X1_sees l K q S H Lk x y (by omega) (by omega)) (cwV 2 C.hts gL_sees_X1_sees rfl rfl rfl (by decide +kernel) ⟨by decide, by decide⟩) 0 rfl rfl dL_sees_5 rfl (Nat.le_of_ble_eq_true rfl) ⟨Nat.zero_le _, Nat.zero_le _⟩ (fun z w hp => ?_)
    obtain ⟨hz, S2, rfl, hU⟩ := hp
    have hzb : 0 ≤ z ∧ z ≤ 1 := by
      rw [hz]; split <;> omega
    refine g_if_eq (pc := 8) (tgt := 15) C dL_sees_8 (by decide) (by omega) (fun c1 => ?_) (fun c1 => ?_)
    · refine g_lconst (pc := 15) (v := (0 : Int64)) C dL_sees_15 (by decide +kernel) ?_
      refine g_lastore (pc := 16) (ws' := (o, aJ K 1 (vp_updL g 0 (0 : Int64))) :: wX K q S2) C 0 rfl (by decide) dL_sees_16 rfl ?_
      refine g_goto (pc := 17) (tgt := 24) C dL_sees_17 (by decide) ?_
      refine g_iconst (pc := 24) C dL_sees_24 ?_
      exact g_ireturnH (pc := 25) C rfl (by decide) (by decide) dL_sees_25 (⟨_, S2, rfl, Or.inl (⟨hc, rfl, z, (if_pos c1).symm, hz, hU⟩)⟩)
    · refine g_lconst (pc := 11) (v := (1 : Int64)) C dL_sees_11 (by decide +kernel) ?_
      refine g_goto (pc := 12) (tgt := 16) C dL_sees_12 (by decide) ?_
      refine g_lastore (pc := 16) (ws' := (o, aJ K 1 (vp_updL g 0 (1 : Int64))) :: wX K q S2) C 0 rfl (by decide) dL_sees_16 rfl ?_
      refine g_goto (pc := 17) (tgt := 24) C dL_sees_17 (by decide) ?_
      refine g_iconst (pc := 24) C dL_sees_24 ?_
      exact g_ireturnH (pc := 25) C rfl (by decide) (by decide) dL_sees_25 (⟨_, S2, rfl, Or.inl (⟨hc, rfl, z, (if_neg c1).symm, hz, hU⟩)⟩)
  · refine g_callVXF (pc := 5) (wc := wX K q S) (wr := [(o, aJ K 1 g)]) (As := [.int (iI x), .int (iI y)]) (rest := [.int (iI 0), .ref o]) C htab [1, 2, 3, 4, 5, 6, 7, 8, 9, 10, 11, 12, 13, 14, 15] [0] rfl rfl (by decide) (by decide) (by decide) (c_X1_sees_x1 l hlt K q S H x y gx gy (by omega)) (cwV 2 C.hts gL_sees_X1_sees rfl rfl rfl (by decide +kernel) ⟨by decide, by decide⟩) 0 rfl rfl dL_sees_5 rfl (Nat.le_of_ble_eq_true rfl) ⟨by decide, by decide⟩ [] ⟨0, 17, 20, 19⟩ [] rfl (fun z hz => nomatch hz) (by decide) (by decide) (by decide +kernel) C.hZ.2.2.2.2.2.1.2.1 (fun q9 => ?_)
    refine g_astore (pc := 20) (lv' := [(4, .ref q9), (0, .ref (q 0)), (1, .int (iI x)), (2, .int (iI y)), (3, .ref o)]) C dL_sees_20 (by decide) rfl ?_
    refine g_iconst (pc := 22) C dL_sees_22 ?_
    exact g_ireturnH (pc := 23) C rfl (by decide) (by decide) dL_sees_23 (⟨g, S, rfl, Or.inr (Or.inl (⟨hc, rfl, rfl⟩))⟩)
  · refine g_callVXF (pc := 5) (wc := wX K q S) (wr := [(o, aJ K 1 g)]) (As := [.int (iI x), .int (iI y)]) (rest := [.int (iI 0), .ref o]) C htab [1, 2, 3, 4, 5, 6, 7, 8, 9, 10, 11, 12, 13, 14, 15] [0] rfl rfl (by decide) (by decide) (by decide) (c_X1_sees_x2 l hlt K q S H x y gx gy (by omega) (by omega)) (cwV 2 C.hts gL_sees_X1_sees rfl rfl rfl (by decide +kernel) ⟨by decide, by decide⟩) 0 rfl rfl dL_sees_5 rfl (Nat.le_of_ble_eq_true rfl) ⟨by decide, by decide⟩ [] ⟨0, 17, 20, 19⟩ [] rfl (fun z hz => nomatch hz) (by decide) (by decide) (by decide +kernel) C.hZ.2.2.2.2.2.1.2.1 (fun q9 => ?_)
    refine g_astore (pc := 20) (lv' := [(4, .ref q9), (0, .ref (q 0)), (1, .int (iI x)), (2, .int (iI y)), (3, .ref o)]) C dL_sees_20 (by decide) rfl ?_
    refine g_iconst (pc := 22) C dL_sees_22 ?_
    exact g_ireturnH (pc := 23) C rfl (by decide) (by decide) dL_sees_23 (⟨g, S, rfl, Or.inr (Or.inr (⟨hc, rfl, rfl⟩))⟩)
set_option maxHeartbeats 400000 in
set_option maxRecDepth 100000 in
theorem h_way (l : Launch) (hlt : l.stackTraces = false) (K : KK) (q : Nat → Nat) (S : Nat → Int → Int) (H : HS S) (Lk : LK S) (o : Nat) (g : Nat → Int64) (x y : Int) (gx : -2147483648 ≤ x ∧ x < 2147483648) (gy : -2147483648 ≤ y ∧ y < 2147483648) : hMH l yL_way wsL_way { frames := 11, cells := 1, slots := 6, locals := 352 } K [.ref (q 0), .int (iI x), .int (iI y), .ref o] ((o, aJ K 1 g) :: wX K q S) (fun z w => ∃ (g2 : Nat → Int64) (S2 : Nat → Int → Int), w = (o, aJ K 1 g2) :: wX K q S2 ∧ ((((0 ≤ x ∧ x < S 0 10) ∧ (0 ≤ y ∧ y < S 0 10)) ∧ z = 0 ∧ ∃ a : Int, g2 0 = (iI a).toInt64 ∧ (dR (S 0 10) (S 7) (S 8) x y a) ∧ (UP S S2 (S 7) (S 8))) ∨ ((¬ (0 ≤ x ∧ x < S 0 10)) ∧ z = 1 ∧ S2 = S) ∨ (((0 ≤ x ∧ x < S 0 10) ∧ ¬ (0 ≤ y ∧ y < S 0 10)) ∧ z = 1 ∧ S2 = S))) := by
  refine in_MH (cc := cL_way) (maxL := 5) (rt := some .int) (lv := [(0, .ref (q 0)), (1, .int (iI x)), (2, .int (iI y)), (3, .ref o)]) (by decide) rfl (Nat.le_of_ble_eq_true rfl) rfl ?_
  intro p e s m args below meth c A C htab
  have hn := H.n
  have hk9 := H.1
  have hh := H.hh
  refine g_aload_n (pc := 0) C dL_way_0 rfl rfl ?_
  refine g_iconst (pc := 1) C dL_way_1 ?_
  refine g_aload_n (pc := 2) C dL_way_2 rfl rfl ?_
  refine g_iload_n (pc := 3) C dL_way_3 rfl rfl ?_
  refine g_iload_n (pc := 4) C dL_way_4 rfl rfl ?_
  rcases (by omega : ((0 ≤ x ∧ x < S 0 10) ∧ (0 ≤ y ∧ y < S 0 10)) ∨ (¬ (0 ≤ x ∧ x < S 0 10)) ∨ ((0 ≤ x ∧ x < S 0 10) ∧ ¬ (0 ≤ y ∧ y < S 0 10))) with hc | hc | hc
  · refine g_callVIF (pc := 5) (wc := wX K q S) (wr := [(o, aJ K 1 g)]) (As := [.int (iI x), .int (iI y)]) (rest := [.int (iI 0), .ref o]) C [1, 2, 3, 4, 5, 6, 7, 8, 9, 10, 11, 12, 13, 14, 15] [0] rfl rfl (by decide) (by decide) (by decide) (c_X1_way l K q S H Lk x y (by omega) (by omega)) (cwV 2 C.hts gL_way_X1_way rfl rfl rfl (by decide +kernel) ⟨by decide, by decide⟩) 0 rfl rfl dL_way_5 rfl (Nat.le_of_ble_eq_true rfl) ⟨Nat.zero_le _, Nat.zero_le _⟩ (fun z w hp => ?_)
    obtain ⟨hz, S2, rfl, hU⟩ := hp
    refine g_i2lr (pc := 8) C dL_way_8 ?_
    refine g_lastore (pc := 9) (ws' := (o, aJ K 1 (vp_updL g 0 (iI z).toInt64)) :: wX K q S2) C 0 rfl (by decide) dL_way_9 rfl ?_
    refine g_goto (pc := 10) (tgt := 17) C dL_way_10 (by decide) ?_
    refine g_iconst (pc := 17) C dL_way_17 ?_
    exact g_ireturnH (pc := 18) C rfl (by decide) (by decide) dL_way_18 (⟨_, S2, rfl, Or.inl (⟨hc, rfl, z, rfl, hz, hU⟩)⟩)
  · refine g_callVXF (pc := 5) (wc := wX K q S) (wr := [(o, aJ K 1 g)]) (As := [.int (iI x), .int (iI y)]) (rest := [.int (iI 0), .ref o]) C htab [1, 2, 3, 4, 5, 6, 7, 8, 9, 10, 11, 12, 13, 14, 15] [0] rfl rfl (by decide) (by decide) (by decide) (c_X1_way_x1 l hlt K q S H x y gx gy (by omega)) (cwV 2 C.hts gL_way_X1_way rfl rfl rfl (by decide +kernel) ⟨by decide, by decide⟩) 0 rfl rfl dL_way_5 rfl (Nat.le_of_ble_eq_true rfl) ⟨by decide, by decide⟩ [] ⟨0, 10, 13, 19⟩ [] rfl (fun z hz => nomatch hz) (by decide) (by decide) (by decide +kernel) C.hZ.2.2.2.2.2.1.2.1 (fun q9 => ?_)
    refine g_astore (pc := 13) (lv' := [(4, .ref q9), (0, .ref (q 0)), (1, .int (iI x)), (2, .int (iI y)), (3, .ref o)]) C dL_way_13 (by decide) rfl ?_
    refine g_iconst (pc := 15) C dL_way_15 ?_
    exact g_ireturnH (pc := 16) C rfl (by decide) (by decide) dL_way_16 (⟨g, S, rfl, Or.inr (Or.inl (⟨hc, rfl, rfl⟩))⟩)
  · refine g_callVXF (pc := 5) (wc := wX K q S) (wr := [(o, aJ K 1 g)]) (As := [.int (iI x), .int (iI y)]) (rest := [.int (iI 0), .ref o]) C htab [1, 2, 3, 4, 5, 6, 7, 8, 9, 10, 11, 12, 13, 14, 15] [0] rfl rfl (by decide) (by decide) (by decide) (c_X1_way_x2 l hlt K q S H x y gx gy (by omega) (by omega)) (cwV 2 C.hts gL_way_X1_way rfl rfl rfl (by decide +kernel) ⟨by decide, by decide⟩) 0 rfl rfl dL_way_5 rfl (Nat.le_of_ble_eq_true rfl) ⟨by decide, by decide⟩ [] ⟨0, 10, 13, 19⟩ [] rfl (fun z hz => nomatch hz) (by decide) (by decide) (by decide +kernel) C.hZ.2.2.2.2.2.1.2.1 (fun q9 => ?_)
    refine g_astore (pc := 13) (lv' := [(4, .ref q9), (0, .ref (q 0)), (1, .int (iI x)), (2, .int (iI y)), (3, .ref o)]) C dL_way_13 (by decide) rfl ?_
    refine g_iconst (pc := 15) C dL_way_15 ?_
    exact g_ireturnH (pc := 16) C rfl (by decide) (by decide) dL_way_16 (⟨g, S, rfl, Or.inr (Or.inr (⟨hc, rfl, rfl⟩))⟩)
set_option maxHeartbeats 400000 in
set_option maxRecDepth 100000 in
theorem h_side (l : Launch) (hlt : l.stackTraces = false) (K : KK) (q : Nat → Nat) (S : Nat → Int → Int) (H : HS S) (Lk : LK S) (o : Nat) (g : Nat → Int64) (x y : Int) (gx : -2147483648 ≤ x ∧ x < 2147483648) (gy : -2147483648 ≤ y ∧ y < 2147483648) : hMH l yL_side wsL_side { frames := 11, cells := 1, slots := 6, locals := 352 } K [.ref (q 0), .int (iI x), .int (iI y), .ref o] ((o, aJ K 1 g) :: wX K q S) (fun z w => ∃ (g2 : Nat → Int64) (S2 : Nat → Int → Int), w = (o, aJ K 1 g2) :: wX K q S2 ∧ ((((0 ≤ x ∧ x < S 0 10) ∧ (0 ≤ y ∧ y < S 0 10)) ∧ z = 0 ∧ ∃ a : Int, g2 0 = (iI a).toInt64 ∧ (SDc (S 0 10) (S 7) (S 8) x y a) ∧ (UP S S2 (S 7) (S 8))) ∨ ((¬ (0 ≤ x ∧ x < S 0 10)) ∧ z = 1 ∧ S2 = S) ∨ (((0 ≤ x ∧ x < S 0 10) ∧ ¬ (0 ≤ y ∧ y < S 0 10)) ∧ z = 1 ∧ S2 = S))) := by
  refine in_MH (cc := cL_side) (maxL := 5) (rt := some .int) (lv := [(0, .ref (q 0)), (1, .int (iI x)), (2, .int (iI y)), (3, .ref o)]) (by decide) rfl (Nat.le_of_ble_eq_true rfl) rfl ?_
  intro p e s m args below meth c A C htab
  have hn := H.n
  have hk9 := H.1
  have hh := H.hh
  refine g_aload_n (pc := 0) C dL_side_0 rfl rfl ?_
  refine g_iconst (pc := 1) C dL_side_1 ?_
  refine g_aload_n (pc := 2) C dL_side_2 rfl rfl ?_
  refine g_iload_n (pc := 3) C dL_side_3 rfl rfl ?_
  refine g_iload_n (pc := 4) C dL_side_4 rfl rfl ?_
  rcases (by omega : ((0 ≤ x ∧ x < S 0 10) ∧ (0 ≤ y ∧ y < S 0 10)) ∨ (¬ (0 ≤ x ∧ x < S 0 10)) ∨ ((0 ≤ x ∧ x < S 0 10) ∧ ¬ (0 ≤ y ∧ y < S 0 10))) with hc | hc | hc
  · refine g_callVIF (pc := 5) (wc := wX K q S) (wr := [(o, aJ K 1 g)]) (As := [.int (iI x), .int (iI y)]) (rest := [.int (iI 0), .ref o]) C [1, 2, 3, 4, 5, 6, 7, 8, 9, 10, 11, 12, 13, 14, 15] [0] rfl rfl (by decide) (by decide) (by decide) (c_X1_side l K q S H Lk x y (by omega) (by omega)) (cwV 2 C.hts gL_side_X1_side rfl rfl rfl (by decide +kernel) ⟨by decide, by decide⟩) 0 rfl rfl dL_side_5 rfl (Nat.le_of_ble_eq_true rfl) ⟨Nat.zero_le _, Nat.zero_le _⟩ (fun z w hp => ?_)
    obtain ⟨hz, S2, rfl, hU⟩ := hp
    refine g_i2lr (pc := 8) C dL_side_8 ?_
    refine g_lastore (pc := 9) (ws' := (o, aJ K 1 (vp_updL g 0 (iI z).toInt64)) :: wX K q S2) C 0 rfl (by decide) dL_side_9 rfl ?_
    refine g_goto (pc := 10) (tgt := 17) C dL_side_10 (by decide) ?_
    refine g_iconst (pc := 17) C dL_side_17 ?_
    exact g_ireturnH (pc := 18) C rfl (by decide) (by decide) dL_side_18 (⟨_, S2, rfl, Or.inl (⟨hc, rfl, z, rfl, hz, hU⟩)⟩)
  · refine g_callVXF (pc := 5) (wc := wX K q S) (wr := [(o, aJ K 1 g)]) (As := [.int (iI x), .int (iI y)]) (rest := [.int (iI 0), .ref o]) C htab [1, 2, 3, 4, 5, 6, 7, 8, 9, 10, 11, 12, 13, 14, 15] [0] rfl rfl (by decide) (by decide) (by decide) (c_X1_side_x1 l hlt K q S H x y gx gy (by omega)) (cwV 2 C.hts gL_side_X1_side rfl rfl rfl (by decide +kernel) ⟨by decide, by decide⟩) 0 rfl rfl dL_side_5 rfl (Nat.le_of_ble_eq_true rfl) ⟨by decide, by decide⟩ [] ⟨0, 10, 13, 19⟩ [] rfl (fun z hz => nomatch hz) (by decide) (by decide) (by decide +kernel) C.hZ.2.2.2.2.2.1.2.1 (fun q9 => ?_)
    refine g_astore (pc := 13) (lv' := [(4, .ref q9), (0, .ref (q 0)), (1, .int (iI x)), (2, .int (iI y)), (3, .ref o)]) C dL_side_13 (by decide) rfl ?_
    refine g_iconst (pc := 15) C dL_side_15 ?_
    exact g_ireturnH (pc := 16) C rfl (by decide) (by decide) dL_side_16 (⟨g, S, rfl, Or.inr (Or.inl (⟨hc, rfl, rfl⟩))⟩)
  · refine g_callVXF (pc := 5) (wc := wX K q S) (wr := [(o, aJ K 1 g)]) (As := [.int (iI x), .int (iI y)]) (rest := [.int (iI 0), .ref o]) C htab [1, 2, 3, 4, 5, 6, 7, 8, 9, 10, 11, 12, 13, 14, 15] [0] rfl rfl (by decide) (by decide) (by decide) (c_X1_side_x2 l hlt K q S H x y gx gy (by omega) (by omega)) (cwV 2 C.hts gL_side_X1_side rfl rfl rfl (by decide +kernel) ⟨by decide, by decide⟩) 0 rfl rfl dL_side_5 rfl (Nat.le_of_ble_eq_true rfl) ⟨by decide, by decide⟩ [] ⟨0, 10, 13, 19⟩ [] rfl (fun z hz => nomatch hz) (by decide) (by decide) (by decide +kernel) C.hZ.2.2.2.2.2.1.2.1 (fun q9 => ?_)
    refine g_astore (pc := 13) (lv' := [(4, .ref q9), (0, .ref (q 0)), (1, .int (iI x)), (2, .int (iI y)), (3, .ref o)]) C dL_side_13 (by decide) rfl ?_
    refine g_iconst (pc := 15) C dL_side_15 ?_
    exact g_ireturnH (pc := 16) C rfl (by decide) (by decide) dL_side_16 (⟨g, S, rfl, Or.inr (Or.inr (⟨hc, rfl, rfl⟩))⟩)
set_option maxHeartbeats 400000 in
set_option maxRecDepth 100000 in
theorem h_reach (l : Launch) (hlt : l.stackTraces = false) (K : KK) (q : Nat → Nat) (S : Nat → Int → Int) (H : HS S) (Lk : LK S) (o : Nat) (g : Nat → Int64) (r t : Int) (gr : -2147483648 ≤ r ∧ r < 2147483648) (gt : -2147483648 ≤ t ∧ t < 2147483648) : hMH l yL_reach wsL_reach { frames := 11, cells := 1, slots := 6, locals := 352 } K [.ref (q 0), .int (iI r), .int (iI t), .ref o] ((o, aJ K 1 g) :: wX K q S) (fun z w => ∃ (g2 : Nat → Int64) (S2 : Nat → Int → Int), w = (o, aJ K 1 g2) :: wX K q S2 ∧ ((((0 ≤ r ∧ r < S 0 10) ∧ (0 ≤ t ∧ t ≤ 99)) ∧ z = 0 ∧ ∃ a : Int, g2 0 = (iI a).toInt64 ∧ (∃ D : Int → Int, (∀ j, 0 ≤ j → j < S 0 10 → dR (S 0 10) (S 7) (S 8) r j (D j)) ∧ a = sm (fun j => if ¬ D j = -1 ∧ D j ≤ t then 1 else 0) 0 (S 0 10)) ∧ (UP S S2 (S 7) (S 8))) ∨ ((¬ (0 ≤ r ∧ r < S 0 10)) ∧ z = 1 ∧ S2 = S) ∨ (((0 ≤ r ∧ r < S 0 10) ∧ ¬ (0 ≤ t ∧ t ≤ 99)) ∧ z = 2 ∧ S2 = S))) := by
  refine in_MH (cc := cL_reach) (maxL := 5) (rt := some .int) (lv := [(0, .ref (q 0)), (1, .int (iI r)), (2, .int (iI t)), (3, .ref o)]) (by decide) rfl (Nat.le_of_ble_eq_true rfl) rfl ?_
  intro p e s m args below meth c A C htab
  have hn := H.n
  have hk9 := H.1
  have hh := H.hh
  refine g_aload_n (pc := 0) C dL_reach_0 rfl rfl ?_
  refine g_iconst (pc := 1) C dL_reach_1 ?_
  refine g_aload_n (pc := 2) C dL_reach_2 rfl rfl ?_
  refine g_iload_n (pc := 3) C dL_reach_3 rfl rfl ?_
  refine g_iload_n (pc := 4) C dL_reach_4 rfl rfl ?_
  rcases (by omega : ((0 ≤ r ∧ r < S 0 10) ∧ (0 ≤ t ∧ t ≤ 99)) ∨ (¬ (0 ≤ r ∧ r < S 0 10)) ∨ ((0 ≤ r ∧ r < S 0 10) ∧ ¬ (0 ≤ t ∧ t ≤ 99))) with hc | hc | hc
  · refine g_callVIF (pc := 5) (wc := wX K q S) (wr := [(o, aJ K 1 g)]) (As := [.int (iI r), .int (iI t)]) (rest := [.int (iI 0), .ref o]) C [1, 2, 3, 4, 5, 6, 7, 8, 9, 10, 11, 12, 13, 14, 15] [0] rfl rfl (by decide) (by decide) (by decide) (c_X1_reach l K q S H Lk r t (by omega) (by omega)) (cwV 2 C.hts gL_reach_X1_reach rfl rfl rfl (by decide +kernel) ⟨by decide, by decide⟩) 0 rfl rfl dL_reach_5 rfl (Nat.le_of_ble_eq_true rfl) ⟨Nat.zero_le _, Nat.zero_le _⟩ (fun z w hp => ?_)
    obtain ⟨hz, S2, rfl, hU⟩ := hp
    refine g_i2lr (pc := 8) C dL_reach_8 ?_
    refine g_lastore (pc := 9) (ws' := (o, aJ K 1 (vp_updL g 0 (iI z).toInt64)) :: wX K q S2) C 0 rfl (by decide) dL_reach_9 rfl ?_
    refine g_goto (pc := 10) (tgt := 21) C dL_reach_10 (by decide) ?_
    refine g_iconst (pc := 21) C dL_reach_21 ?_
    exact g_ireturnH (pc := 22) C rfl (by decide) (by decide) dL_reach_22 (⟨_, S2, rfl, Or.inl (⟨hc, rfl, z, rfl, hz, hU⟩)⟩)
  · refine g_callVXF (pc := 5) (wc := wX K q S) (wr := [(o, aJ K 1 g)]) (As := [.int (iI r), .int (iI t)]) (rest := [.int (iI 0), .ref o]) C htab [1, 2, 3, 4, 5, 6, 7, 8, 9, 10, 11, 12, 13, 14, 15] [0] rfl rfl (by decide) (by decide) (by decide) (c_X1_reach_x1 l hlt K q S H r t gr gt (by omega)) (cwV 2 C.hts gL_reach_X1_reach rfl rfl rfl (by decide +kernel) ⟨by decide, by decide⟩) 0 rfl rfl dL_reach_5 rfl (Nat.le_of_ble_eq_true rfl) ⟨by decide, by decide⟩ [] ⟨0, 10, 13, 19⟩ [⟨0, 10, 17, 13⟩] rfl (fun z hz => nomatch hz) (by decide) (by decide) (by decide +kernel) C.hZ.2.2.2.2.2.1.2.1 (fun q9 => ?_)
    refine g_astore (pc := 13) (lv' := [(4, .ref q9), (0, .ref (q 0)), (1, .int (iI r)), (2, .int (iI t)), (3, .ref o)]) C dL_reach_13 (by decide) rfl ?_
    refine g_iconst (pc := 15) C dL_reach_15 ?_
    exact g_ireturnH (pc := 16) C rfl (by decide) (by decide) dL_reach_16 (⟨g, S, rfl, Or.inr (Or.inl (⟨hc, rfl, rfl⟩))⟩)
  · refine g_callVXF (pc := 5) (wc := wX K q S) (wr := [(o, aJ K 1 g)]) (As := [.int (iI r), .int (iI t)]) (rest := [.int (iI 0), .ref o]) C htab [1, 2, 3, 4, 5, 6, 7, 8, 9, 10, 11, 12, 13, 14, 15] [0] rfl rfl (by decide) (by decide) (by decide) (c_X1_reach_x2 l hlt K q S H r t gr gt (by omega) (by omega)) (cwV 2 C.hts gL_reach_X1_reach rfl rfl rfl (by decide +kernel) ⟨by decide, by decide⟩) 0 rfl rfl dL_reach_5 rfl (Nat.le_of_ble_eq_true rfl) ⟨by decide, by decide⟩ [⟨0, 10, 13, 19⟩] ⟨0, 10, 17, 13⟩ [] rfl (fun z hz => by
      have hz2 := List.mem_singleton.mp hz
      subst hz2
      exact Or.inr ⟨by decide, "java/lang/IndexOutOfBoundsException", C.hts _ (by decide +kernel), C.hZ.2.2.2.2.2.1.2.2.2.2.2.1⟩) (by decide) (by decide) (by decide +kernel) C.hZ.2.2.2.2.2.1.2.2.1 (fun q9 => ?_)
    refine g_astore (pc := 17) (lv' := [(4, .ref q9), (0, .ref (q 0)), (1, .int (iI r)), (2, .int (iI t)), (3, .ref o)]) C dL_reach_17 (by decide) rfl ?_
    refine g_iconst (pc := 19) C dL_reach_19 ?_
    exact g_ireturnH (pc := 20) C rfl (by decide) (by decide) dL_reach_20 (⟨g, S, rfl, Or.inr (Or.inr (⟨hc, rfl, rfl⟩))⟩)
set_option maxHeartbeats 400000 in
set_option maxRecDepth 100000 in
theorem h_ring (l : Launch) (hlt : l.stackTraces = false) (K : KK) (q : Nat → Nat) (S : Nat → Int → Int) (H : HS S) (Lk : LK S) (o : Nat) (g : Nat → Int64) (k v : Int) (gk : -2147483648 ≤ k ∧ k < 2147483648) (gv : -2147483648 ≤ v ∧ v < 2147483648) : hMH l yL_ring wsL_ring { frames := 11, cells := 1, slots := 6, locals := 352 } K [.ref (q 0), .int (iI k), .int (iI v), .ref o] ((o, aJ K 1 g) :: wX K q S) (fun z w => ∃ (g2 : Nat → Int64) (S2 : Nat → Int → Int), w = (o, aJ K 1 g2) :: wX K q S2 ∧ ((((0 ≤ k ∧ k ≤ S 0 9) ∧ (0 ≤ v ∧ v < 4)) ∧ z = 0 ∧ ∃ a : Int, g2 0 = (iI a).toInt64 ∧ (a = RNG (S 0 10) (S 7) (S 8) k v) ∧ (UP S S2 (S 7) (S 8))) ∨ ((¬ (0 ≤ k ∧ k ≤ S 0 9)) ∧ z = 1 ∧ S2 = S) ∨ (((0 ≤ k ∧ k ≤ S 0 9) ∧ ¬ (0 ≤ v ∧ v < 4)) ∧ z = 1 ∧ S2 = S))) := by
  refine in_MH (cc := cL_ring) (maxL := 5) (rt := some .int) (lv := [(0, .ref (q 0)), (1, .int (iI k)), (2, .int (iI v)), (3, .ref o)]) (by decide) rfl (Nat.le_of_ble_eq_true rfl) rfl ?_
  intro p e s m args below meth c A C htab
  have hn := H.n
  have hk9 := H.1
  have hh := H.hh
  refine g_aload_n (pc := 0) C dL_ring_0 rfl rfl ?_
  refine g_iconst (pc := 1) C dL_ring_1 ?_
  refine g_aload_n (pc := 2) C dL_ring_2 rfl rfl ?_
  refine g_iload_n (pc := 3) C dL_ring_3 rfl rfl ?_
  refine g_iload_n (pc := 4) C dL_ring_4 rfl rfl ?_
  rcases (by omega : ((0 ≤ k ∧ k ≤ S 0 9) ∧ (0 ≤ v ∧ v < 4)) ∨ (¬ (0 ≤ k ∧ k ≤ S 0 9)) ∨ ((0 ≤ k ∧ k ≤ S 0 9) ∧ ¬ (0 ≤ v ∧ v < 4))) with hc | hc | hc
  · refine g_callVIF (pc := 5) (wc := wX K q S) (wr := [(o, aJ K 1 g)]) (As := [.int (iI k), .int (iI v)]) (rest := [.int (iI 0), .ref o]) C [1, 2, 3, 4, 5, 6, 7, 8, 9, 10, 11, 12, 13, 14, 15] [0] rfl rfl (by decide) (by decide) (by decide) (c_X1_ring l K q S H Lk k v (by omega) (by omega)) (cwV 2 C.hts gL_ring_X1_ring rfl rfl rfl (by decide +kernel) ⟨by decide, by decide⟩) 0 rfl rfl dL_ring_5 rfl (Nat.le_of_ble_eq_true rfl) ⟨Nat.zero_le _, Nat.zero_le _⟩ (fun z w hp => ?_)
    obtain ⟨hz, S2, rfl, hU⟩ := hp
    refine g_i2lr (pc := 8) C dL_ring_8 ?_
    refine g_lastore (pc := 9) (ws' := (o, aJ K 1 (vp_updL g 0 (iI z).toInt64)) :: wX K q S2) C 0 rfl (by decide) dL_ring_9 rfl ?_
    refine g_goto (pc := 10) (tgt := 17) C dL_ring_10 (by decide) ?_
    refine g_iconst (pc := 17) C dL_ring_17 ?_
    exact g_ireturnH (pc := 18) C rfl (by decide) (by decide) dL_ring_18 (⟨_, S2, rfl, Or.inl (⟨hc, rfl, z, rfl, hz, hU⟩)⟩)
  · refine g_callVXF (pc := 5) (wc := wX K q S) (wr := [(o, aJ K 1 g)]) (As := [.int (iI k), .int (iI v)]) (rest := [.int (iI 0), .ref o]) C htab [1, 2, 3, 4, 5, 6, 7, 8, 9, 10, 11, 12, 13, 14, 15] [0] rfl rfl (by decide) (by decide) (by decide) (c_X1_ring_x1 l hlt K q S H k v gk gv (by omega)) (cwV 2 C.hts gL_ring_X1_ring rfl rfl rfl (by decide +kernel) ⟨by decide, by decide⟩) 0 rfl rfl dL_ring_5 rfl (Nat.le_of_ble_eq_true rfl) ⟨by decide, by decide⟩ [] ⟨0, 10, 13, 19⟩ [] rfl (fun z hz => nomatch hz) (by decide) (by decide) (by decide +kernel) C.hZ.2.2.2.2.2.1.2.1 (fun q9 => ?_)
    refine g_astore (pc := 13) (lv' := [(4, .ref q9), (0, .ref (q 0)), (1, .int (iI k)), (2, .int (iI v)), (3, .ref o)]) C dL_ring_13 (by decide) rfl ?_
    refine g_iconst (pc := 15) C dL_ring_15 ?_
    exact g_ireturnH (pc := 16) C rfl (by decide) (by decide) dL_ring_16 (⟨g, S, rfl, Or.inr (Or.inl (⟨hc, rfl, rfl⟩))⟩)
  · refine g_callVXF (pc := 5) (wc := wX K q S) (wr := [(o, aJ K 1 g)]) (As := [.int (iI k), .int (iI v)]) (rest := [.int (iI 0), .ref o]) C htab [1, 2, 3, 4, 5, 6, 7, 8, 9, 10, 11, 12, 13, 14, 15] [0] rfl rfl (by decide) (by decide) (by decide) (c_X1_ring_x2 l hlt K q S H k v gk gv (by omega) (by omega)) (cwV 2 C.hts gL_ring_X1_ring rfl rfl rfl (by decide +kernel) ⟨by decide, by decide⟩) 0 rfl rfl dL_ring_5 rfl (Nat.le_of_ble_eq_true rfl) ⟨by decide, by decide⟩ [] ⟨0, 10, 13, 19⟩ [] rfl (fun z hz => nomatch hz) (by decide) (by decide) (by decide +kernel) C.hZ.2.2.2.2.2.1.2.1 (fun q9 => ?_)
    refine g_astore (pc := 13) (lv' := [(4, .ref q9), (0, .ref (q 0)), (1, .int (iI k)), (2, .int (iI v)), (3, .ref o)]) C dL_ring_13 (by decide) rfl ?_
    refine g_iconst (pc := 15) C dL_ring_15 ?_
    exact g_ireturnH (pc := 16) C rfl (by decide) (by decide) dL_ring_16 (⟨g, S, rfl, Or.inr (Or.inr (⟨hc, rfl, rfl⟩))⟩)
set_option maxHeartbeats 400000 in
set_option maxRecDepth 100000 in
theorem h_count (l : Launch) (hlt : l.stackTraces = false) (K : KK) (q : Nat → Nat) (S : Nat → Int → Int) (H : HS S) (Lk : LK S) (o : Nat) (g : Nat → Int64) (v : Int) (gv : -2147483648 ≤ v ∧ v < 2147483648) : hMH l yL_count wsL_count { frames := 11, cells := 1, slots := 6, locals := 352 } K [.ref (q 0), .int (iI v), .ref o] ((o, aJ K 1 g) :: wX K q S) (fun z w => ∃ (g2 : Nat → Int64) (S2 : Nat → Int → Int), w = (o, aJ K 1 g2) :: wX K q S2 ∧ (((0 ≤ v ∧ v < 7) ∧ z = 0 ∧ ∃ a : Int, g2 0 = (iI a).toInt64 ∧ (a = CNT (S 0 9) (S 0 10) (S 7) (S 8) v) ∧ (UP S S2 (S 7) (S 8))) ∨ ((¬ (0 ≤ v ∧ v < 7)) ∧ z = 1 ∧ S2 = S))) := by
  refine in_MH (cc := cL_count) (maxL := 4) (rt := some .int) (lv := [(0, .ref (q 0)), (1, .int (iI v)), (2, .ref o)]) (by decide) rfl (Nat.le_of_ble_eq_true rfl) rfl ?_
  intro p e s m args below meth c A C htab
  have hn := H.n
  have hk9 := H.1
  have hh := H.hh
  refine g_aload_n (pc := 0) C dL_count_0 rfl rfl ?_
  refine g_iconst (pc := 1) C dL_count_1 ?_
  refine g_aload_n (pc := 2) C dL_count_2 rfl rfl ?_
  refine g_iload_n (pc := 3) C dL_count_3 rfl rfl ?_
  rcases (by omega : (0 ≤ v ∧ v < 7) ∨ (¬ (0 ≤ v ∧ v < 7))) with hc | hc
  · refine g_callVIF (pc := 4) (wc := wX K q S) (wr := [(o, aJ K 1 g)]) (As := [.int (iI v)]) (rest := [.int (iI 0), .ref o]) C [1, 2, 3, 4, 5, 6, 7, 8, 9, 10, 11, 12, 13, 14, 15] [0] rfl rfl (by decide) (by decide) (by decide) (c_X1_count l K q S H Lk v (by omega)) (cwV 1 C.hts gL_count_X1_count rfl rfl rfl (by decide +kernel) ⟨by decide, by decide⟩) 0 rfl rfl dL_count_4 rfl (Nat.le_of_ble_eq_true rfl) ⟨Nat.zero_le _, Nat.zero_le _⟩ (fun z w hp => ?_)
    obtain ⟨hz, S2, rfl, hU⟩ := hp
    refine g_i2lr (pc := 7) C dL_count_7 ?_
    refine g_lastore (pc := 8) (ws' := (o, aJ K 1 (vp_updL g 0 (iI z).toInt64)) :: wX K q S2) C 0 rfl (by decide) dL_count_8 rfl ?_
    refine g_goto (pc := 9) (tgt := 15) C dL_count_9 (by decide) ?_
    refine g_iconst (pc := 15) C dL_count_15 ?_
    exact g_ireturnH (pc := 16) C rfl (by decide) (by decide) dL_count_16 (⟨_, S2, rfl, Or.inl (⟨hc, rfl, z, rfl, hz, hU⟩)⟩)
  · refine g_callVXF (pc := 4) (wc := wX K q S) (wr := [(o, aJ K 1 g)]) (As := [.int (iI v)]) (rest := [.int (iI 0), .ref o]) C htab [1, 2, 3, 4, 5, 6, 7, 8, 9, 10, 11, 12, 13, 14, 15] [0] rfl rfl (by decide) (by decide) (by decide) (c_X1_count_x1 l hlt K q S H v gv (by omega)) (cwV 1 C.hts gL_count_X1_count rfl rfl rfl (by decide +kernel) ⟨by decide, by decide⟩) 0 rfl rfl dL_count_4 rfl (Nat.le_of_ble_eq_true rfl) ⟨by decide, by decide⟩ [] ⟨0, 9, 12, 19⟩ [] rfl (fun z hz => nomatch hz) (by decide) (by decide) (by decide +kernel) C.hZ.2.2.2.2.2.1.2.1 (fun q9 => ?_)
    refine g_astore_n (pc := 12) (lv' := [(3, .ref q9), (0, .ref (q 0)), (1, .int (iI v)), (2, .ref o)]) C dL_count_12 rfl (by decide) rfl ?_
    refine g_iconst (pc := 13) C dL_count_13 ?_
    exact g_ireturnH (pc := 14) C rfl (by decide) (by decide) dL_count_14 (⟨g, S, rfl, Or.inr (⟨hc, rfl, rfl⟩)⟩)
set_option maxHeartbeats 400000 in
set_option maxRecDepth 100000 in
theorem h_would (l : Launch) (hlt : l.stackTraces = false) (K : KK) (q : Nat → Nat) (S : Nat → Int → Int) (H : HS S) (Lk : LK S) (o : Nat) (g : Nat → Int64) (k b : Int) (gk : -2147483648 ≤ k ∧ k < 2147483648) (gb : -2147483648 ≤ b ∧ b < 2147483648) : hMH l yL_would wsL_would { frames := 11, cells := 1, slots := 6, locals := 352 } K [.ref (q 0), .int (iI k), .int (iI b), .ref o] ((o, aJ K 1 g) :: wX K q S) (fun z w => ∃ (g2 : Nat → Int64) (S2 : Nat → Int → Int), w = (o, aJ K 1 g2) :: wX K q S2 ∧ ((((0 ≤ k ∧ k ≤ S 0 9) ∧ (0 ≤ b ∧ b < SZ k)) ∧ z = 0 ∧ ∃ a : Int, g2 0 = (iI a).toInt64 ∧ (a = LIT (S 0 10) (rot k b (S 7) (S 7)) (S 8)) ∧ (UP S S2 (S 7) (S 8))) ∨ ((¬ (0 ≤ k ∧ k ≤ S 0 9)) ∧ z = 1 ∧ S2 = S) ∨ (((0 ≤ k ∧ k ≤ S 0 9) ∧ ¬ (0 ≤ b ∧ b < SZ k)) ∧ z = 2 ∧ S2 = S))) := by
  refine in_MH (cc := cL_would) (maxL := 5) (rt := some .int) (lv := [(0, .ref (q 0)), (1, .int (iI k)), (2, .int (iI b)), (3, .ref o)]) (by decide) rfl (Nat.le_of_ble_eq_true rfl) rfl ?_
  intro p e s m args below meth c A C htab
  have hn := H.n
  have hk9 := H.1
  have hh := H.hh
  refine g_aload_n (pc := 0) C dL_would_0 rfl rfl ?_
  refine g_iconst (pc := 1) C dL_would_1 ?_
  refine g_aload_n (pc := 2) C dL_would_2 rfl rfl ?_
  refine g_iload_n (pc := 3) C dL_would_3 rfl rfl ?_
  refine g_iload_n (pc := 4) C dL_would_4 rfl rfl ?_
  rcases (by omega : ((0 ≤ k ∧ k ≤ S 0 9) ∧ (0 ≤ b ∧ b < SZ k)) ∨ (¬ (0 ≤ k ∧ k ≤ S 0 9)) ∨ ((0 ≤ k ∧ k ≤ S 0 9) ∧ ¬ (0 ≤ b ∧ b < SZ k))) with hc | hc | hc
  · refine g_callVIF (pc := 5) (wc := wX K q S) (wr := [(o, aJ K 1 g)]) (As := [.int (iI k), .int (iI b)]) (rest := [.int (iI 0), .ref o]) C [1, 2, 3, 4, 5, 6, 7, 8, 9, 10, 11, 12, 13, 14, 15] [0] rfl rfl (by decide) (by decide) (by decide) (c_X1_would l K q S H Lk k b (by omega) (by omega)) (cwV 2 C.hts gL_would_X1_would rfl rfl rfl (by decide +kernel) ⟨by decide, by decide⟩) 0 rfl rfl dL_would_5 rfl (Nat.le_of_ble_eq_true rfl) ⟨Nat.zero_le _, Nat.zero_le _⟩ (fun z w hp => ?_)
    obtain ⟨hz, S2, rfl, hU⟩ := hp
    refine g_i2lr (pc := 8) C dL_would_8 ?_
    refine g_lastore (pc := 9) (ws' := (o, aJ K 1 (vp_updL g 0 (iI z).toInt64)) :: wX K q S2) C 0 rfl (by decide) dL_would_9 rfl ?_
    refine g_goto (pc := 10) (tgt := 21) C dL_would_10 (by decide) ?_
    refine g_iconst (pc := 21) C dL_would_21 ?_
    exact g_ireturnH (pc := 22) C rfl (by decide) (by decide) dL_would_22 (⟨_, S2, rfl, Or.inl (⟨hc, rfl, z, rfl, hz, hU⟩)⟩)
  · refine g_callVXF (pc := 5) (wc := wX K q S) (wr := [(o, aJ K 1 g)]) (As := [.int (iI k), .int (iI b)]) (rest := [.int (iI 0), .ref o]) C htab [1, 2, 3, 4, 5, 6, 7, 8, 9, 10, 11, 12, 13, 14, 15] [0] rfl rfl (by decide) (by decide) (by decide) (c_X1_would_x1 l hlt K q S H k b gk gb (by omega)) (cwV 2 C.hts gL_would_X1_would rfl rfl rfl (by decide +kernel) ⟨by decide, by decide⟩) 0 rfl rfl dL_would_5 rfl (Nat.le_of_ble_eq_true rfl) ⟨by decide, by decide⟩ [] ⟨0, 10, 13, 19⟩ [⟨0, 10, 17, 13⟩] rfl (fun z hz => nomatch hz) (by decide) (by decide) (by decide +kernel) C.hZ.2.2.2.2.2.1.2.1 (fun q9 => ?_)
    refine g_astore (pc := 13) (lv' := [(4, .ref q9), (0, .ref (q 0)), (1, .int (iI k)), (2, .int (iI b)), (3, .ref o)]) C dL_would_13 (by decide) rfl ?_
    refine g_iconst (pc := 15) C dL_would_15 ?_
    exact g_ireturnH (pc := 16) C rfl (by decide) (by decide) dL_would_16 (⟨g, S, rfl, Or.inr (Or.inl (⟨hc, rfl, rfl⟩))⟩)
  · refine g_callVXF (pc := 5) (wc := wX K q S) (wr := [(o, aJ K 1 g)]) (As := [.int (iI k), .int (iI b)]) (rest := [.int (iI 0), .ref o]) C htab [1, 2, 3, 4, 5, 6, 7, 8, 9, 10, 11, 12, 13, 14, 15] [0] rfl rfl (by decide) (by decide) (by decide) (c_X1_would_x2 l hlt K q S H k b gk gb (by omega) (by omega)) (cwV 2 C.hts gL_would_X1_would rfl rfl rfl (by decide +kernel) ⟨by decide, by decide⟩) 0 rfl rfl dL_would_5 rfl (Nat.le_of_ble_eq_true rfl) ⟨by decide, by decide⟩ [⟨0, 10, 13, 19⟩] ⟨0, 10, 17, 13⟩ [] rfl (fun z hz => by
      have hz2 := List.mem_singleton.mp hz
      subst hz2
      exact Or.inr ⟨by decide, "java/lang/IndexOutOfBoundsException", C.hts _ (by decide +kernel), C.hZ.2.2.2.2.2.1.2.2.2.2.2.1⟩) (by decide) (by decide) (by decide +kernel) C.hZ.2.2.2.2.2.1.2.2.1 (fun q9 => ?_)
    refine g_astore (pc := 17) (lv' := [(4, .ref q9), (0, .ref (q 0)), (1, .int (iI k)), (2, .int (iI b)), (3, .ref o)]) C dL_would_17 (by decide) rfl ?_
    refine g_iconst (pc := 19) C dL_would_19 ?_
    exact g_ireturnH (pc := 20) C rfl (by decide) (by decide) dL_would_20 (⟨g, S, rfl, Or.inr (Or.inr (⟨hc, rfl, rfl⟩))⟩)
set_option maxHeartbeats 400000 in
set_option maxRecDepth 100000 in
theorem h_advise (l : Launch) (hlt : l.stackTraces = false) (K : KK) (q : Nat → Nat) (S : Nat → Int → Int) (H : HS S) (Lk : LK S) (o : Nat) (g : Nat → Int64) (k : Int) (gk : -2147483648 ≤ k ∧ k < 2147483648) : hMH l yL_advise wsL_advise { frames := 11, cells := 1, slots := 6, locals := 352 } K [.ref (q 0), .int (iI k), .ref o] ((o, aJ K 1 g) :: wX K q S) (fun z w => ∃ (g2 : Nat → Int64) (S2 : Nat → Int → Int), w = (o, aJ K 1 g2) :: wX K q S2 ∧ (((0 ≤ k ∧ k ≤ S 0 9) ∧ z = 0 ∧ ∃ a : Int, g2 0 = (iI a).toInt64 ∧ (AV (S 0 10) (S 7) (S 8) k a) ∧ (UP S S2 (S 7) (S 8))) ∨ ((¬ (0 ≤ k ∧ k ≤ S 0 9)) ∧ z = 1 ∧ S2 = S))) := by
  refine in_MH (cc := cL_advise) (maxL := 4) (rt := some .int) (lv := [(0, .ref (q 0)), (1, .int (iI k)), (2, .ref o)]) (by decide) rfl (Nat.le_of_ble_eq_true rfl) rfl ?_
  intro p e s m args below meth c A C htab
  have hn := H.n
  have hk9 := H.1
  have hh := H.hh
  refine g_aload_n (pc := 0) C dL_advise_0 rfl rfl ?_
  refine g_iconst (pc := 1) C dL_advise_1 ?_
  refine g_aload_n (pc := 2) C dL_advise_2 rfl rfl ?_
  refine g_iload_n (pc := 3) C dL_advise_3 rfl rfl ?_
  rcases (by omega : (0 ≤ k ∧ k ≤ S 0 9) ∨ (¬ (0 ≤ k ∧ k ≤ S 0 9))) with hc | hc
  · refine g_callVIF (pc := 4) (wc := wX K q S) (wr := [(o, aJ K 1 g)]) (As := [.int (iI k)]) (rest := [.int (iI 0), .ref o]) C [1, 2, 3, 4, 5, 6, 7, 8, 9, 10, 11, 12, 13, 14, 15] [0] rfl rfl (by decide) (by decide) (by decide) (c_X1_advise l K q S H Lk k (by omega)) (cwV 1 C.hts gL_advise_X1_advise rfl rfl rfl (by decide +kernel) ⟨by decide, by decide⟩) 0 rfl rfl dL_advise_4 rfl (Nat.le_of_ble_eq_true rfl) ⟨Nat.zero_le _, Nat.zero_le _⟩ (fun z w hp => ?_)
    obtain ⟨hz, S2, rfl, hU⟩ := hp
    refine g_i2lr (pc := 7) C dL_advise_7 ?_
    refine g_lastore (pc := 8) (ws' := (o, aJ K 1 (vp_updL g 0 (iI z).toInt64)) :: wX K q S2) C 0 rfl (by decide) dL_advise_8 rfl ?_
    refine g_goto (pc := 9) (tgt := 15) C dL_advise_9 (by decide) ?_
    refine g_iconst (pc := 15) C dL_advise_15 ?_
    exact g_ireturnH (pc := 16) C rfl (by decide) (by decide) dL_advise_16 (⟨_, S2, rfl, Or.inl (⟨hc, rfl, z, rfl, hz, hU⟩)⟩)
  · refine g_callVXF (pc := 4) (wc := wX K q S) (wr := [(o, aJ K 1 g)]) (As := [.int (iI k)]) (rest := [.int (iI 0), .ref o]) C htab [1, 2, 3, 4, 5, 6, 7, 8, 9, 10, 11, 12, 13, 14, 15] [0] rfl rfl (by decide) (by decide) (by decide) (c_X1_advise_x1 l hlt K q S H k gk (by omega)) (cwV 1 C.hts gL_advise_X1_advise rfl rfl rfl (by decide +kernel) ⟨by decide, by decide⟩) 0 rfl rfl dL_advise_4 rfl (Nat.le_of_ble_eq_true rfl) ⟨by decide, by decide⟩ [] ⟨0, 9, 12, 19⟩ [] rfl (fun z hz => nomatch hz) (by decide) (by decide) (by decide +kernel) C.hZ.2.2.2.2.2.1.2.1 (fun q9 => ?_)
    refine g_astore_n (pc := 12) (lv' := [(3, .ref q9), (0, .ref (q 0)), (1, .int (iI k)), (2, .ref o)]) C dL_advise_12 rfl (by decide) rfl ?_
    refine g_iconst (pc := 13) C dL_advise_13 ?_
    exact g_ireturnH (pc := 14) C rfl (by decide) (by decide) dL_advise_14 (⟨g, S, rfl, Or.inr (⟨hc, rfl, rfl⟩)⟩)
