set_option maxHeartbeats 4000000 in
set_option maxRecDepth 100000 in
theorem whole_start {p : Program} {e : Env} {s : State} {m : MethodId} {below : List Frame} {meth : Method} {c : Code} (l : Launch) (hflags : l.flags = flags0) {b L : Nat} {xs : Nat → Int32} (hL : L ≤ 2048) (C0 : lw_At p s m meth c b L xs) : W p l e room_1 s m #[Value.ref b] below meth c s.heap [] 0 0 (lw_Z below #[Value.ref b] s) (entryFrame m ([Value.ref b] : List Value).toArray 9) := by
  obtain ⟨K, CK0⟩ := law_K C0
  obtain ⟨-, -, -, -, -, -, hX, hbl, -, -⟩ := id C0
  have hlt := hlt_of hflags
  have hd0 := Drawn.sameBut.refl s.drawn lw_cs
  have C := CK0.dr s.drawn
  have hin1 : ∀ w ∈ wsX10, w ∈ wsL_law := fun _ h => List.mem_append_left _ (List.mem_append_left _ (List.mem_append_left _ (List.mem_append_left _ (List.mem_append_left _ (List.mem_append_left _ (List.mem_append_right _ h))))))
  have hin2 : ∀ w ∈ wsX20, w ∈ wsL_law := fun _ h => List.mem_append_left _ (List.mem_append_left _ (List.mem_append_left _ (List.mem_append_left _ (List.mem_append_left _ (List.mem_append_right _ h)))))
  refine W.base ?_
  rw [lg_entry_eq]
  have main : hG p l e room_1 (s.setDrawn s.drawn) m #[.ref b] below meth c 9 K (lA s) 0 0 (lw_Z below #[.ref b] s) 0 [(0, .ref b)] [] [] := by
    refine g_newO (pc := 0) (Cn := RX1) (T := TX1) (N := 11) (ci := 1) (fs := [.null, .null, .null, .null, .null, .null, .null, .null, .null, .int (iI 0), .int (iI 0)]) C hin1 tyX1 tyX1_ok (by decide +kernel) (by decide +kernel) (by decide +kernel) rfl (fun j hj => by rcases (by omega : j = 0 ∨ j = 1 ∨ j = 2 ∨ j = 3 ∨ j = 4 ∨ j = 5 ∨ j = 6 ∨ j = 7 ∨ j = 8 ∨ j = 9 ∨ j = 10) with h | h | h | h | h | h | h | h | h | h | h <;> subst h <;> first | rfl | (show Value.int 0 = Value.int (iI 0); rw [iI_0])) (Nat.le_of_ble_eq_true rfl) (Nat.le_of_ble_eq_true rfl) dL_law_0 (fun q1 => ?_)
    refine g_dup (pc := 3) C dL_law_3 rfl ?_
    refine g_callIF (pc := 4) (As := []) (rest := [.ref q1]) (wc := [(q1, .inr (1, [.null, .null, .null, .null, .null, .null, .null, .null, .null, .int (iI 0), .int (iI 0)]))]) (wr := []) C [0] [] rfl rfl (by decide) (by decide) (by decide) (c_X1_init l K q1) (cwI 0 C.hts gL_law_X1_init rfl rfl rfl (C.hts _ (by decide +kernel)) (C.hts _ (by decide +kernel)) (C.hts _ (by decide +kernel)) rfl (by decide +kernel) ⟨by decide, by decide⟩) dL_law_4 rfl (Nat.le_of_ble_eq_true rfl) ⟨(Nat.le_of_ble_eq_true rfl), (Nat.le_of_ble_eq_true rfl)⟩ (fun w hp => ?_)
    obtain ⟨q, S, rfl, rfl, s9, s10, s7, s8, s9z⟩ := hp
    refine g_astore_n (pc := 7) (lv' := [(1, .ref (q 0)), (0, .ref b)]) C dL_law_7 rfl (by decide) rfl ?_
    refine g_newO (pc := 8) (Cn := RX2) (T := TX2) (N := 13) (ci := 2) (fs := [.int (iI 0), .int (iI 0), .int (iI 0), .null, .null, .null, .null, .null, .null, .null, .null, .null, .null]) C hin2 tyX2 tyX2_ok (by decide +kernel) (by decide +kernel) (by decide +kernel) rfl (fun j hj => by rcases (by omega : j = 0 ∨ j = 1 ∨ j = 2 ∨ j = 3 ∨ j = 4 ∨ j = 5 ∨ j = 6 ∨ j = 7 ∨ j = 8 ∨ j = 9 ∨ j = 10 ∨ j = 11 ∨ j = 12) with h | h | h | h | h | h | h | h | h | h | h | h | h <;> subst h <;> first | rfl | (show Value.int 0 = Value.int (iI 0); rw [iI_0])) (Nat.le_of_ble_eq_true rfl) (Nat.le_of_ble_eq_true rfl) dL_law_8 (fun q2 => ?_)
    refine g_dup (pc := 11) C dL_law_11 rfl ?_
    refine g_callIF (pc := 12) (As := []) (rest := [.ref q2]) (wc := [(q2, .inr (2, [.int (iI 0), .int (iI 0), .int (iI 0), .null, .null, .null, .null, .null, .null, .null, .null, .null, .null]))]) (wr := wX K q S) C [15] [0, 1, 2, 3, 4, 5, 6, 7, 8, 9, 10, 11, 12, 13, 14] rfl rfl (by decide) (by decide) (by decide) (c_X2_init l K q2) (cwI 0 C.hts gL_law_X2_init rfl rfl rfl (C.hts _ (by decide +kernel)) (C.hts _ (by decide +kernel)) (C.hts _ (by decide +kernel)) rfl (by decide +kernel) ⟨by decide, by decide⟩) dL_law_12 rfl (Nat.le_of_ble_eq_true rfl) ⟨(Nat.le_of_ble_eq_true rfl), (Nat.le_of_ble_eq_true rfl)⟩ (fun w hp => ?_)
    obtain ⟨qm, T, rfl, rfl, hB⟩ := hp
    refine g_astore_n (pc := 15) (lv' := [(2, .ref (qm 0)), (1, .ref (q 0)), (0, .ref b)]) C dL_law_15 rfl (by decide) rfl ?_
    refine g_iconst (pc := 16) C dL_law_16 ?_
    refine g_newJ (pc := 17) (N := 1) C (by decide +kernel) (by decide) (Nat.le_of_ble_eq_true rfl) (Nat.le_of_ble_eq_true rfl) dL_law_17 (fun o => ?_)
    refine g_astore_n (pc := 19) (lv' := [(3, .ref o), (2, .ref (qm 0)), (1, .ref (q 0)), (0, .ref b)]) C dL_law_19 rfl (by decide) rfl ?_
    refine g_iconst (pc := 20) C dL_law_20 ?_
    refine g_istore (pc := 21) (lv' := [(4, .int (iI 0)), (3, .ref o), (2, .ref (qm 0)), (1, .ref (q 0)), (0, .ref b)]) C dL_law_21 (by decide) rfl ?_
    refine g_perm [15, 16, 17, 18, 19, 20, 21, 22, 23, 24, 25, 26, 0, 1, 2, 3, 4, 5, 6, 7, 8, 9, 10, 11, 12, 13, 14] (by decide) (ws' := lwW K qm T o (fun _ => 0) q S) rfl ?_
    have hFR : FR 3 = 19 := by decide
    have hLI := (LI_set (S2 := S) (T2 := T) (k := 2) (by decide) s9 s10 s7 s8 (fun j h0 h1 => (s9z j h0 (by omega)).trans (LT_zero (n := S 0 10) (f := S 7) (h := S 8) (m := S 0 10) (by omega) (fun r h2 h3 => by rw [s7 r h2 (by omega)]; omega) j).symm) hB).1
    exact law_loop l hlt hL K CK0 hX hbl 513 s.drawn 0 27 3548 (fun _ => 0) S T hd0 hLI (by omega) (by omega) (by decide) (by decide)
  exact main s.heap [] _ (fun k q h => by simp at h) ⟨fun i j p q h => by simp at h, fun k q h => by simp at h⟩ va_S.rf (lv_entry ([.ref b]) (n := 9) (Nat.le_of_ble_eq_true rfl))
