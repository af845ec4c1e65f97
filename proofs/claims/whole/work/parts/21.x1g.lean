set_option maxHeartbeats 400000 in
set_option maxRecDepth 100000 in
theorem c_X1_setRings (l : Launch) (K : KK) (q : Nat → Nat) (S : Nat → Int → Int) (H : HS S) (Lk : LK S) (k : Int) (hk : 1 ≤ k ∧ k ≤ 5) : hMI l yX1_setRings wsX1_setRings (rmL 2) K [.ref (q 0), .int (iI k)] (wX K q S) (fun z w => (z = FR (k + 1)) ∧ ∃ S2, w = wX K q S2 ∧ S2 0 9 = k ∧ S2 0 10 = FR (k + 1) ∧ (∀ j, 0 ≤ j → j < 91 → S2 7 j = 0) ∧ (∀ j, 0 ≤ j → j < 546 → S2 8 j = 0) ∧ LK S2) := by
  have hkn := FR_n hk
  refine in_MI (cc := cX1_setRings) (maxL := 2) (rt := (some .int)) (lv := [(0, .ref (q 0)), (1, .int (iI k))]) (by decide) rfl (Nat.le_of_ble_eq_true rfl) rfl ?_
  intro p e s m args below meth c A C
  have hinX1 : ∀ w ∈ wsX10, w ∈ wsX1_setRings := by decide +kernel
  refine g_iload_n (pc := 0) C dX1_setRings_0 rfl rfl ?_
  refine g_iconst (pc := 1) C dX1_setRings_1 ?_
  refine g_iconst (pc := 2) C dX1_setRings_2 ?_
  refine g_callSV (pc := 3) (As := [.int (iI k), .int (iI 1), .int (iI 5)]) (rest := []) C (c_X1_needNumber_ok l K _ k 1 5 (by omega)) (cwS 3 C.hts gX1_setRings_X1_needNumber rfl rfl rfl (by decide +kernel) ⟨by decide, by decide⟩) dX1_setRings_3 rfl (Nat.le_of_ble_eq_true rfl) ⟨Nat.zero_le _, Nat.zero_le _⟩ (fun w hp => ?_)
  subst hp
  refine g_aload_n (pc := 6) C dX1_setRings_6 rfl rfl ?_
  refine g_iload_n (pc := 7) C dX1_setRings_7 rfl rfl ?_
  refine g_callVV (pc := 8) (As := [.int (iI k)]) (rest := []) C (c_X1_build l K q S k hk) (cwV 1 C.hts gX1_setRings_X1_build rfl rfl rfl (by decide +kernel) ⟨by decide, by decide⟩) 0 rfl rfl dX1_setRings_8 rfl (Nat.le_of_ble_eq_true rfl) ⟨Nat.zero_le _, Nat.zero_le _⟩ (fun w hp => ?_)
  subst hp
  refine g_aload_n (pc := 11) C dX1_setRings_11 rfl rfl ?_
  refine g_get (pc := 12) (v := .int (iI ((fU (fU (S 0) 9 k) 10 (FR (k + 1))) 10))) (ref := "HexRooms") (ci := 1) (N := 11) C 0 rfl rfl hinX1 10 (by decide) (by decide +kernel) rfl rfl dX1_setRings_12 ?_
  exact g_ireturn (pc := 15) C rfl dX1_setRings_15 ⟨rfl, _, rfl, rfl, rfl, fun j h0 h1 => if_pos ⟨h0, h1⟩, fun j h0 h1 => if_pos ⟨h0, h1⟩, fun j h0 h1 => by
    have h1 : j < FR (k + 1) := h1
    refine Eq.trans (if_pos (by omega)) (LT_zero (n := FR (k + 1)) (f := fF (S 7) 91 0) (h := fF (S 8) 546 0) (m := FR (k + 1)) (by omega) (fun r h2 h3 => ?_) j).symm
    rw [show fF (S 7) 91 0 r = 0 from if_pos (by omega)]
    omega⟩

set_option maxHeartbeats 400000 in
set_option maxRecDepth 100000 in
theorem c_X1_put (l : Launch) (K : KK) (q : Nat → Nat) (S : Nat → Int → Int) (H : HS S) (Lk : LK S) (r v : Int) (hr : 0 ≤ r ∧ r < S 0 10) (hv : 0 ≤ v ∧ v < 3) : hMI l yX1_put wsX1_put (rmL 7) K [.ref (q 0), .int (iI r), .int (iI v)] (wX K q S) (fun z w => (z = S 7 r) ∧ ∃ S2, w = wX K q S2 ∧ UP S S2 (fU (S 7) r v) (S 8)) := by
  have hn := H.n
  have hf := H.hf
  have hh := H.hh
  have hk9 := H.1
  have hL := Lk.b hn
  refine in_MI (cc := cX1_put) (maxL := 4) (rt := (some .int)) (lv := [(0, .ref (q 0)), (1, .int (iI r)), (2, .int (iI v))]) (by decide) rfl (Nat.le_of_ble_eq_true rfl) rfl ?_
  intro p e s m args below meth c A C
  have hinX1 : ∀ w ∈ wsX10, w ∈ wsX1_put := by decide +kernel
  refine g_aload_n (pc := 0) C dX1_put_0 rfl rfl ?_
  refine g_iload_n (pc := 1) C dX1_put_1 rfl rfl ?_
  refine g_callVV (pc := 2) (As := [.int (iI r)]) (rest := []) C (c_X1_needRoom_ok l K q S hn r (by omega)) (cwV 1 C.hts gX1_put_X1_needRoom rfl rfl rfl (by decide +kernel) ⟨by decide, by decide⟩) 0 rfl rfl dX1_put_2 rfl (Nat.le_of_ble_eq_true rfl) ⟨Nat.zero_le _, Nat.zero_le _⟩ (fun w hp => ?_)
  subst hp
  refine g_iload_n (pc := 5) C dX1_put_5 rfl rfl ?_
  refine g_iconst (pc := 6) C dX1_put_6 ?_
  refine g_callSV (pc := 7) (As := [.int (iI v), .int (iI 3)]) (rest := []) C (c_X1_needIndex_ok l K _ v 3 (by omega)) (cwS 2 C.hts gX1_put_X1_needIndex rfl rfl rfl (by decide +kernel) ⟨by decide, by decide⟩) dX1_put_7 rfl (Nat.le_of_ble_eq_true rfl) ⟨Nat.zero_le _, Nat.zero_le _⟩ (fun w hp => ?_)
  subst hp
  refine g_aload_n (pc := 10) C dX1_put_10 rfl rfl ?_
  refine g_get (pc := 11) (ref := "HexRooms") (ci := 1) (N := 11) C 0 rfl rfl hinX1 1 (by decide) (by decide +kernel) rfl rfl dX1_put_11 ?_
  refine g_iload_n (pc := 14) C dX1_put_14 rfl rfl ?_
  refine g_iaload (pc := 15) C 7 rfl (by omega) dX1_put_15 ?_
  refine g_istore_n (pc := 16) (lv' := [(3, .int (iI ((S 7) r))), (0, .ref (q 0)), (1, .int (iI r)), (2, .int (iI v))]) C dX1_put_16 rfl (by decide) rfl ?_
  refine g_aload_n (pc := 17) C dX1_put_17 rfl rfl ?_
  refine g_get (pc := 18) (ref := "HexRooms") (ci := 1) (N := 11) C 0 rfl rfl hinX1 1 (by decide) (by decide +kernel) rfl rfl dX1_put_18 ?_
  refine g_iload_n (pc := 21) C dX1_put_21 rfl rfl ?_
  refine g_iload_n (pc := 22) C dX1_put_22 rfl rfl ?_
  refine g_iastore (pc := 23) (f := (S 7)) (ws' := (wX K q (sA S 7 (fU (S 7) r v)))) C 7 rfl (by omega) dX1_put_23 rfl ?_
  have hf2 := fU_b (i := r) (v := v) hf (by omega)
  have hh2 := hh
  refine g_aload_n (pc := 24) C dX1_put_24 rfl rfl ?_
  refine g_callVI (pc := 25) (As := []) (rest := []) C (c_X1_relight l K q (sA S 7 (fU (S 7) r v)) hn hf2 hh2) (cwV 0 C.hts gX1_put_X1_relight rfl rfl rfl (by decide +kernel) ⟨by decide, by decide⟩) 0 rfl rfl dX1_put_25 rfl (Nat.le_of_ble_eq_true rfl) ⟨Nat.zero_le _, Nat.zero_le _⟩ (fun z w hp => ?_)
  obtain ⟨hz, b1, L1, rfl, hLL⟩ := hp
  have hz : z = LIT (S 0 10) (fU (S 7) r v) (S 8) := hz
  refine g_pop (pc := 28) C dX1_put_28 rfl ?_
  refine g_iload_n (pc := 29) C dX1_put_29 rfl rfl ?_
  exact g_ireturn (pc := 30) C rfl dX1_put_30 ⟨rfl, _, rfl, rfl, rfl, rfl, hLL⟩

set_option maxHeartbeats 400000 in
set_option maxRecDepth 100000 in
theorem c_X1_shut (l : Launch) (K : KK) (q : Nat → Nat) (S : Nat → Int → Int) (H : HS S) (Lk : LK S) (r t b : Int) (hr : 0 ≤ r ∧ r < S 0 10) (ht : 0 ≤ t ∧ t < 6) (hb2 : b = 0 ∨ b = 1) (hd : ¬ NX (S 0 10) r t = -1) : hMI l yX1_shut wsX1_shut (rmL 7) K [.ref (q 0), .int (iI r), .int (iI t), .int (iI b)] (wX K q S) (fun z w => (z = S 8 (r * 6 + t)) ∧ ∃ S2, w = wX K q S2 ∧ UP S S2 (S 7) (fU (fU (S 8) (r * 6 + t) b) (NX (S 0 10) r t * 6 + (t + 3) % 6) b)) := by
  have hn := H.n
  have hf := H.hf
  have hh := H.hh
  have hk9 := H.1
  have hL := Lk.b hn
  refine in_MI (cc := cX1_shut) (maxL := 6) (rt := (some .boolean)) (lv := [(0, .ref (q 0)), (1, .int (iI r)), (2, .int (iI t)), (3, .int (iI b))]) (by decide) rfl (Nat.le_of_ble_eq_true rfl) rfl ?_
  intro p e s m args below meth c A C
  have hinX1 : ∀ w ∈ wsX10, w ∈ wsX1_shut := by decide +kernel
  refine g_aload_n (pc := 0) C dX1_shut_0 rfl rfl ?_
  refine g_iload_n (pc := 1) C dX1_shut_1 rfl rfl ?_
  refine g_iload_n (pc := 2) C dX1_shut_2 rfl rfl ?_
  refine g_callVI (pc := 3) (As := [.int (iI r), .int (iI t)]) (rest := []) C (c_X1_needDoor_ok l K q S hn r t hr ht hd) (cwV 2 C.hts gX1_shut_X1_needDoor rfl rfl rfl (by decide +kernel) ⟨by decide, by decide⟩) 0 rfl rfl dX1_shut_3 rfl (Nat.le_of_ble_eq_true rfl) ⟨Nat.zero_le _, Nat.zero_le _⟩ (fun z w hp => ?_)
  obtain ⟨rfl, rfl⟩ := hp
  have hb := NX_b (S 0 10) r t
  refine g_istore (pc := 6) (lv' := [(4, .int (iI (NX (S 0 10) r t))), (0, .ref (q 0)), (1, .int (iI r)), (2, .int (iI t)), (3, .int (iI b))]) C dX1_shut_6 (by decide) rfl ?_
  refine g_aload_n (pc := 8) C dX1_shut_8 rfl rfl ?_
  refine g_get (pc := 9) (ref := "HexRooms") (ci := 1) (N := 11) C 0 rfl rfl hinX1 2 (by decide) (by decide +kernel) rfl rfl dX1_shut_9 ?_
  refine g_iload_n (pc := 12) C dX1_shut_12 rfl rfl ?_
  refine g_iload_n (pc := 13) C dX1_shut_13 rfl rfl ?_
  refine g_callSI (pc := 14) (As := [.int (iI r), .int (iI t)]) (rest := [.ref (q 8)]) C (c_X1_doorOf l K _ r t) (cwS 2 C.hts gX1_shut_X1_doorOf rfl rfl rfl (by decide +kernel) ⟨by decide, by decide⟩) dX1_shut_14 rfl (Nat.le_of_ble_eq_true rfl) ⟨Nat.zero_le _, Nat.zero_le _⟩ (fun z w hp => ?_)
  obtain ⟨rfl, rfl⟩ := hp
  refine g_baload (pc := 17) C 8 rfl (by omega) dX1_shut_17 ?_
  have bd1 := hh (r * 6 + t) (by omega) (by omega)
  refine g_istore (pc := 18) (lv' := [(5, .int (iI ((S 8) (r * 6 + t)))), (4, .int (iI (NX (S 0 10) r t))), (0, .ref (q 0)), (1, .int (iI r)), (2, .int (iI t)), (3, .int (iI b))]) C dX1_shut_18 (by decide) rfl ?_
  refine g_aload_n (pc := 20) C dX1_shut_20 rfl rfl ?_
  refine g_get (pc := 21) (ref := "HexRooms") (ci := 1) (N := 11) C 0 rfl rfl hinX1 2 (by decide) (by decide +kernel) rfl rfl dX1_shut_21 ?_
  refine g_iload_n (pc := 24) C dX1_shut_24 rfl rfl ?_
  refine g_iload_n (pc := 25) C dX1_shut_25 rfl rfl ?_
  refine g_callSI (pc := 26) (As := [.int (iI r), .int (iI t)]) (rest := [.ref (q 8)]) C (c_X1_doorOf l K _ r t) (cwS 2 C.hts gX1_shut_X1_doorOf rfl rfl rfl (by decide +kernel) ⟨by decide, by decide⟩) dX1_shut_26 rfl (Nat.le_of_ble_eq_true rfl) ⟨Nat.zero_le _, Nat.zero_le _⟩ (fun z w hp => ?_)
  obtain ⟨rfl, rfl⟩ := hp
  refine g_iload_n (pc := 29) C dX1_shut_29 rfl rfl ?_
  refine g_bastore (pc := 30) (f := (S 8)) (ws' := (wX K q (sA S 8 (fU (S 8) (r * 6 + t) b)))) C 8 rfl (by omega) (by omega) dX1_shut_30 rfl ?_
  refine g_aload_n (pc := 31) C dX1_shut_31 rfl rfl ?_
  refine g_get (pc := 32) (ref := "HexRooms") (ci := 1) (N := 11) C 0 rfl rfl hinX1 2 (by decide) (by decide +kernel) rfl rfl dX1_shut_32 ?_
  refine g_iload (pc := 35) C dX1_shut_35 rfl ?_
  refine g_iload_n (pc := 37) C dX1_shut_37 rfl rfl ?_
  refine g_callSI (pc := 38) (As := [.int (iI t)]) (rest := [.int (iI (NX (S 0 10) r t)), .ref (q 8)]) C (c_X1_opposite l K _ t ht) (cwS 1 C.hts gX1_shut_X1_opposite rfl rfl rfl (by decide +kernel) ⟨by decide, by decide⟩) dX1_shut_38 rfl (Nat.le_of_ble_eq_true rfl) ⟨Nat.zero_le _, Nat.zero_le _⟩ (fun z w hp => ?_)
  obtain ⟨rfl, rfl⟩ := hp
  refine g_callSI (pc := 41) (As := [.int (iI (NX (S 0 10) r t)), .int (iI ((t + 3) % 6))]) (rest := [.ref (q 8)]) C (c_X1_doorOf l K _ (NX (S 0 10) r t) ((t + 3) % 6)) (cwS 2 C.hts gX1_shut_X1_doorOf rfl rfl rfl (by decide +kernel) ⟨by decide, by decide⟩) dX1_shut_41 rfl (Nat.le_of_ble_eq_true rfl) ⟨Nat.zero_le _, Nat.zero_le _⟩ (fun z w hp => ?_)
  obtain ⟨rfl, rfl⟩ := hp
  refine g_iload_n (pc := 44) C dX1_shut_44 rfl rfl ?_
  refine g_bastore (pc := 45) (f := (fU (S 8) (r * 6 + t) b)) (ws' := (wX K q (sA S 8 (fU (fU (S 8) (r * 6 + t) b) ((NX (S 0 10) r t) * 6 + ((t + 3) % 6)) b)))) C 8 rfl (by omega) (by omega) dX1_shut_45 rfl ?_
  have hf2 := hf
  have hh2 := fU_b (i := NX (S 0 10) r t * 6 + (t + 3) % 6) (v := b) (fU_b (i := r * 6 + t) (v := b) hh (by omega)) (by omega)
  refine g_aload_n (pc := 46) C dX1_shut_46 rfl rfl ?_
  refine g_callVI (pc := 47) (As := []) (rest := []) C (c_X1_relight l K q (sA S 8 (fU (fU (S 8) (r * 6 + t) b) ((NX (S 0 10) r t) * 6 + ((t + 3) % 6)) b)) hn hf2 hh2) (cwV 0 C.hts gX1_shut_X1_relight rfl rfl rfl (by decide +kernel) ⟨by decide, by decide⟩) 0 rfl rfl dX1_shut_47 rfl (Nat.le_of_ble_eq_true rfl) ⟨Nat.zero_le _, Nat.zero_le _⟩ (fun z w hp => ?_)
  obtain ⟨hz, b1, L1, rfl, hLL⟩ := hp
  have hz : z = LIT (S 0 10) (S 7) (fU (fU (S 8) (r * 6 + t) b) ((NX (S 0 10) r t) * 6 + ((t + 3) % 6)) b) := hz
  refine g_pop (pc := 50) C dX1_shut_50 rfl ?_
  refine g_iload (pc := 51) C dX1_shut_51 rfl ?_
  exact g_zreturn (pc := 53) C rfl (by omega) dX1_shut_53 ⟨rfl, _, rfl, rfl, rfl, rfl, hLL⟩

set_option maxHeartbeats 400000 in
set_option maxRecDepth 100000 in
theorem c_X1_turn (l : Launch) (K : KK) (q : Nat → Nat) (S : Nat → Int → Int) (H : HS S) (Lk : LK S) (k b : Int) (hk : 0 ≤ k ∧ k ≤ S 0 9) (hb : 0 ≤ b ∧ b ≤ 29) : hMI l yX1_turn wsX1_turn (rmL 7) K [.ref (q 0), .int (iI k), .int (iI b)] (wX K q S) (fun z w => (z = LIT (S 0 10) (rot k b (S 7) (S 7)) (S 8)) ∧ ∃ S2, w = wX K q S2 ∧ UP S S2 (rot k b (S 7) (S 7)) (S 8)) := by
  have hn := H.n
  have hf := H.hf
  have hh := H.hh
  have hk9 := H.1
  have hL := Lk.b hn
  have hfr := FR_m (k := k) (m := S 0 9) hk hk9.2
  rw [← H.2.1] at hfr
  have hfz := FR_SZ (k := k) (by omega)
  refine in_MI (cc := cX1_turn) (maxL := 4) (rt := (some .int)) (lv := [(0, .ref (q 0)), (1, .int (iI k)), (2, .int (iI b))]) (by decide) rfl (Nat.le_of_ble_eq_true rfl) rfl ?_
  intro p e s m args below meth c A C
  have hinX1 : ∀ w ∈ wsX10, w ∈ wsX1_turn := by decide +kernel
  refine g_aload_n (pc := 0) C dX1_turn_0 rfl rfl ?_
  refine g_iload_n (pc := 1) C dX1_turn_1 rfl rfl ?_
  refine g_callVV (pc := 2) (As := [.int (iI k)]) (rest := []) C (c_X1_needRing_ok l K q S hk9 k (by omega)) (cwV 1 C.hts gX1_turn_X1_needRing rfl rfl rfl (by decide +kernel) ⟨by decide, by decide⟩) 0 rfl rfl dX1_turn_2 rfl (Nat.le_of_ble_eq_true rfl) ⟨Nat.zero_le _, Nat.zero_le _⟩ (fun w hp => ?_)
  subst hp
  refine g_iload_n (pc := 5) C dX1_turn_5 rfl rfl ?_
  refine g_iconst (pc := 6) C dX1_turn_6 ?_
  refine g_bipush (pc := 7) C dX1_turn_7 (by decide +kernel) ?_
  refine g_callSV (pc := 9) (As := [.int (iI b), .int (iI 0), .int (iI 29)]) (rest := []) C (c_X1_needNumber_ok l K _ b 0 29 (by omega)) (cwS 3 C.hts gX1_turn_X1_needNumber rfl rfl rfl (by decide +kernel) ⟨by decide, by decide⟩) dX1_turn_9 rfl (Nat.le_of_ble_eq_true rfl) ⟨Nat.zero_le _, Nat.zero_le _⟩ (fun w hp => ?_)
  subst hp
  refine g_aload_n (pc := 12) C dX1_turn_12 rfl rfl ?_
  refine g_iload_n (pc := 13) C dX1_turn_13 rfl rfl ?_
  refine g_iload_n (pc := 14) C dX1_turn_14 rfl rfl ?_
  refine g_aload_n (pc := 15) C dX1_turn_15 rfl rfl ?_
  refine g_get (pc := 16) (ref := "HexRooms") (ci := 1) (N := 11) C 0 rfl rfl hinX1 4 (by decide) (by decide +kernel) rfl rfl dX1_turn_16 ?_
  refine g_callVV (pc := 19) (As := [.int (iI k), .int (iI b), .ref (q 10)]) (rest := []) C (c_X1_turnRingInto l K q S k b (by omega) (by omega)) (cwV 3 C.hts gX1_turn_X1_turnRingInto rfl rfl rfl (by decide +kernel) ⟨by decide, by decide⟩) 0 rfl rfl dX1_turn_19 rfl (Nat.le_of_ble_eq_true rfl) ⟨Nat.zero_le _, Nat.zero_le _⟩ (fun w hp => ?_)
  subst hp
  refine g_iload_n (pc := 22) C dX1_turn_22 rfl rfl ?_
  refine g_callSI (pc := 23) (As := [.int (iI k)]) (rest := []) C (c_X0_firstRoomOf l K _ k (by omega)) (va_cwS 1 C.hts gX1_turn_X0_firstRoomOf rfl rfl rfl (by decide +kernel) ⟨by decide, by decide⟩) dX1_turn_23 rfl (Nat.le_of_ble_eq_true rfl) ⟨Nat.zero_le _, Nat.zero_le _⟩ (fun z w hp => ?_)
  obtain ⟨rfl, rfl⟩ := hp
  refine g_istore_n (pc := 26) (lv' := [(3, .int (iI (FR k))), (0, .ref (q 0)), (1, .int (iI k)), (2, .int (iI b))]) C dX1_turn_26 rfl (by decide) rfl ?_
  refine g_aload_n (pc := 27) C dX1_turn_27 rfl rfl ?_
  refine g_get (pc := 28) (ref := "HexRooms") (ci := 1) (N := 11) C 0 rfl rfl hinX1 4 (by decide) (by decide +kernel) rfl rfl dX1_turn_28 ?_
  refine g_iload_n (pc := 31) C dX1_turn_31 rfl rfl ?_
  refine g_aload_n (pc := 32) C dX1_turn_32 rfl rfl ?_
  refine g_get (pc := 33) (ref := "HexRooms") (ci := 1) (N := 11) C 0 rfl rfl hinX1 1 (by decide) (by decide +kernel) rfl rfl dX1_turn_33 ?_
  refine g_iload_n (pc := 36) C dX1_turn_36 rfl rfl ?_
  refine g_iload_n (pc := 37) C dX1_turn_37 rfl rfl ?_
  refine g_callSI (pc := 38) (As := [.int (iI k)]) (rest := [.int (iI (FR k)), .ref (q 7), .int (iI (FR k)), .ref (q 10)]) C (c_X0_sizeOf l K _ k (by omega)) (va_cwS 1 C.hts gX1_turn_X0_sizeOf rfl rfl rfl (by decide +kernel) ⟨by decide, by decide⟩) dX1_turn_38 rfl (Nat.le_of_ble_eq_true rfl) ⟨Nat.zero_le _, Nat.zero_le _⟩ (fun z w hp => ?_)
  obtain ⟨rfl, rfl⟩ := hp
  refine g_copy (pc := 41) (f := (rot k b (S 7) (S 10))) (g := (S 7)) (ws' := (wX K q (sA (sA S 10 (rot k b (S 7) (S 10))) 7 (fC (rot k b (S 7) (S 10)) (S 7) (FR k) (FR k) (SZ k))))) C (by decide +kernel) (by decide +kernel) (by decide +kernel) (by decide +kernel) 10 7 rfl rfl (by omega) (by omega) (by omega) (by decide) (by decide) (by decide +kernel) dX1_turn_41 rfl ?_
  rw [fC_rot]
  have hf2 := rot_in (k := k) (b := b) (f := S 7) (g := S 7) (by omega) hfr hf hf
  have hh2 := hh
  refine g_aload_n (pc := 44) C dX1_turn_44 rfl rfl ?_
  refine g_callVI (pc := 45) (As := []) (rest := []) C (c_X1_relight l K q (sA (sA S 10 (rot k b (S 7) (S 10))) 7 (rot k b (S 7) (S 7))) hn hf2 hh2) (cwV 0 C.hts gX1_turn_X1_relight rfl rfl rfl (by decide +kernel) ⟨by decide, by decide⟩) 0 rfl rfl dX1_turn_45 rfl (Nat.le_of_ble_eq_true rfl) ⟨Nat.zero_le _, Nat.zero_le _⟩ (fun z w hp => ?_)
  obtain ⟨hz, b1, L1, rfl, hLL⟩ := hp
  have hz : z = LIT (S 0 10) (rot k b (S 7) (S 7)) (S 8) := hz
  exact g_ireturn (pc := 48) C rfl dX1_turn_48 ⟨hz, _, rfl, rfl, rfl, rfl, hLL⟩

set_option maxHeartbeats 400000 in
set_option maxRecDepth 100000 in
theorem c_X1_turnAll (l : Launch) (K : KK) (q : Nat → Nat) (S : Nat → Int → Int) (H : HS S) (Lk : LK S) (b : Int) (hb : 0 ≤ b ∧ b ≤ 5) : hMI l yX1_turnAll wsX1_turnAll (rmL 7) K [.ref (q 0), .int (iI b)] (wX K q S) (fun z w => (∃ F, z = LIT (S 0 10) F (S 8) ∧ (∀ j, 0 ≤ j → j < S 0 10 → F j = AT (S 7) b j) ∧ (∀ j, S 0 10 ≤ j → F j = S 7 j) ∧ (∃ S2, w = wX K q S2 ∧ UP S S2 F (S 8))) ∧ True) := by
  have hn := H.n
  have hf := H.hf
  have hh := H.hh
  have hk9 := H.1
  have hL := Lk.b hn
  refine in_MI (cc := cX1_turnAll) (maxL := 2) (rt := (some .int)) (lv := [(0, .ref (q 0)), (1, .int (iI b))]) (by decide) rfl (Nat.le_of_ble_eq_true rfl) rfl ?_
  intro p e s m args below meth c A C
  have hinX1 : ∀ w ∈ wsX10, w ∈ wsX1_turnAll := by decide +kernel
  refine g_iload_n (pc := 0) C dX1_turnAll_0 rfl rfl ?_
  refine g_iconst (pc := 1) C dX1_turnAll_1 ?_
  refine g_iconst (pc := 2) C dX1_turnAll_2 ?_
  refine g_callSV (pc := 3) (As := [.int (iI b), .int (iI 0), .int (iI 5)]) (rest := []) C (c_X1_needNumber_ok l K _ b 0 5 (by omega)) (cwS 3 C.hts gX1_turnAll_X1_needNumber rfl rfl rfl (by decide +kernel) ⟨by decide, by decide⟩) dX1_turnAll_3 rfl (Nat.le_of_ble_eq_true rfl) ⟨Nat.zero_le _, Nat.zero_le _⟩ (fun w hp => ?_)
  subst hp
  refine g_aload_n (pc := 6) C dX1_turnAll_6 rfl rfl ?_
  refine g_iload_n (pc := 7) C dX1_turnAll_7 rfl rfl ?_
  refine g_aload_n (pc := 8) C dX1_turnAll_8 rfl rfl ?_
  refine g_get (pc := 9) (ref := "HexRooms") (ci := 1) (N := 11) C 0 rfl rfl hinX1 4 (by decide) (by decide +kernel) rfl rfl dX1_turnAll_9 ?_
  refine g_callVV (pc := 12) (As := [.int (iI b), .ref (q 10)]) (rest := []) C (c_X1_turnAllInto l K q S H b hb) (cwV 2 C.hts gX1_turnAll_X1_turnAllInto rfl rfl rfl (by decide +kernel) ⟨by decide, by decide⟩) 0 rfl rfl dX1_turnAll_12 rfl (Nat.le_of_ble_eq_true rfl) ⟨Nat.zero_le _, Nat.zero_le _⟩ (fun w hp => ?_)
  obtain ⟨f, rfl, hf3⟩ := hp
  refine g_aload_n (pc := 15) C dX1_turnAll_15 rfl rfl ?_
  refine g_get (pc := 16) (ref := "HexRooms") (ci := 1) (N := 11) C 0 rfl rfl hinX1 4 (by decide) (by decide +kernel) rfl rfl dX1_turnAll_16 ?_
  refine g_iconst (pc := 19) C dX1_turnAll_19 ?_
  refine g_aload_n (pc := 20) C dX1_turnAll_20 rfl rfl ?_
  refine g_get (pc := 21) (ref := "HexRooms") (ci := 1) (N := 11) C 0 rfl rfl hinX1 1 (by decide) (by decide +kernel) rfl rfl dX1_turnAll_21 ?_
  refine g_iconst (pc := 24) C dX1_turnAll_24 ?_
  refine g_aload_n (pc := 25) C dX1_turnAll_25 rfl rfl ?_
  refine g_get (pc := 26) (v := .int (iI ((S 0) 10))) (ref := "HexRooms") (ci := 1) (N := 11) C 0 rfl rfl hinX1 10 (by decide) (by decide +kernel) rfl rfl dX1_turnAll_26 ?_
  refine g_copy (pc := 29) (f := f) (g := (S 7)) (ws' := (wX K q (sA (sA S 10 f) 7 (fC f (S 7) 0 0 ((S 0) 10))))) C (by decide +kernel) (by decide +kernel) (by decide +kernel) (by decide +kernel) 10 7 rfl rfl (by omega) (by omega) (by omega) (by decide) (by decide) (by decide +kernel) dX1_turnAll_29 rfl ?_
  have hf4 : ∀ j, 0 ≤ j → j < S 0 10 → fC f (S 7) 0 0 (S 0 10) j = AT (S 7) b j := by
    intro j h0 h1
    unfold fC
    rw [if_pos (by omega), ← hf3 j h0 h1]
    congr 1
    omega
  have hf2 : ∀ j, 0 ≤ j → j < S 0 10 → 0 ≤ fC f (S 7) 0 0 (S 0 10) j ∧ fC f (S 7) 0 0 (S 0 10) j ≤ 2 := by
    intro j h0 h1
    rw [hf4 j h0 h1]
    have h5 := TR_r (j := j) (by omega)
    have h6 := TR_b j
    have h7 := rot_m (k := TR j) (b := 0) h6 (j - FR (TR j) - TR j * b)
    have h8 := FR_SZ (k := TR j) h6
    exact H.2.2.1 _ (by omega) (by omega)
  have hh2 := hh
  refine g_aload_n (pc := 32) C dX1_turnAll_32 rfl rfl ?_
  refine g_callVI (pc := 33) (As := []) (rest := []) C (c_X1_relight l K q (sA (sA S 10 f) 7 (fC f (S 7) 0 0 ((S 0) 10))) hn hf2 hh2) (cwV 0 C.hts gX1_turnAll_X1_relight rfl rfl rfl (by decide +kernel) ⟨by decide, by decide⟩) 0 rfl rfl dX1_turnAll_33 rfl (Nat.le_of_ble_eq_true rfl) ⟨Nat.zero_le _, Nat.zero_le _⟩ (fun z w hp => ?_)
  obtain ⟨hz, b1, L1, rfl, hLL⟩ := hp
  have hz : z = LIT (S 0 10) (fC f (S 7) 0 0 ((S 0) 10)) (S 8) := hz
  exact g_ireturn (pc := 36) C rfl dX1_turnAll_36 ⟨⟨_, hz, hf4, fun j h0 => if_neg (by omega), _, rfl, rfl, rfl, rfl, hLL⟩, trivial⟩

set_option maxHeartbeats 400000 in
set_option maxRecDepth 100000 in
theorem c_X1_at (l : Launch) (K : KK) (q : Nat → Nat) (S : Nat → Int → Int) (H : HS S) (Lk : LK S) (x y : Int) (hx : -2147483648 ≤ x ∧ x < 2147483648) (hy : -2147483648 ≤ y ∧ y < 2147483648) : hMI l yX1_at wsX1_at (rmL 2) K [.ref (q 0), .int (iI x), .int (iI y)] (wX K q S) (fun z w => (z = RXY (S 0 10) x y) ∧ ∃ S2, w = wX K q S2 ∧ UP S S2 (S 7) (S 8)) := by
  have hn := H.n
  have hf := H.hf
  have hh := H.hh
  have hk9 := H.1
  have hL := Lk.b hn
  refine in_MI (cc := cX1_at) (maxL := 3) (rt := (some .int)) (lv := [(0, .ref (q 0)), (1, .int (iI x)), (2, .int (iI y))]) (by decide) rfl (Nat.le_of_ble_eq_true rfl) rfl ?_
  intro p e s m args below meth c A C
  have hinX1 : ∀ w ∈ wsX10, w ∈ wsX1_at := by decide +kernel
  refine g_aload_n (pc := 0) C dX1_at_0 rfl rfl ?_
  refine g_aload_n (pc := 1) C dX1_at_1 rfl rfl ?_
  refine g_get (pc := 2) (ref := "HexRooms") (ci := 1) (N := 11) C 0 rfl rfl hinX1 0 (by decide) (by decide +kernel) rfl rfl dX1_at_2 ?_
  refine g_iload_n (pc := 5) C dX1_at_5 rfl rfl ?_
  refine g_iload_n (pc := 6) C dX1_at_6 rfl rfl ?_
  refine g_callVI (pc := 7) (As := [.int (iI x), .int (iI y)]) (rest := [.ref (q 0)]) C (c_X0_roomAt l K q S x y hx hy) (cwV 2 C.hts gX1_at_X0_roomAt rfl rfl rfl (by decide +kernel) ⟨by decide, by decide⟩) 1 rfl rfl dX1_at_7 rfl (Nat.le_of_ble_eq_true rfl) ⟨Nat.zero_le _, Nat.zero_le _⟩ (fun z w hp => ?_)
  obtain ⟨rfl, rfl⟩ := hp
  refine g_callVI (pc := 10) (As := [.int (iI (if (-5 ≤ x ∧ x ≤ 5) ∧ (-5 ≤ y ∧ y ≤ 5) then TC ((y + 5) * 11 + x + 5) else -1))]) (rest := []) C (c_X1_orNone l K q S hn (if (-5 ≤ x ∧ x ≤ 5) ∧ (-5 ≤ y ∧ y ≤ 5) then TC ((y + 5) * 11 + x + 5) else -1) (by have := TC_b ((y + 5) * 11 + x + 5); split <;> omega)) (cwV 1 C.hts gX1_at_X1_orNone rfl rfl rfl (by decide +kernel) ⟨by decide, by decide⟩) 0 rfl rfl dX1_at_10 rfl (Nat.le_of_ble_eq_true rfl) ⟨Nat.zero_le _, Nat.zero_le _⟩ (fun z w hp => ?_)
  obtain ⟨rfl, rfl⟩ := hp
  exact g_ireturn (pc := 13) C rfl dX1_at_13 ⟨rfl, ⟨_, rfl, rfl, rfl, rfl, Lk⟩⟩

set_option maxHeartbeats 400000 in
set_option maxRecDepth 100000 in
theorem c_X1_about (l : Launch) (K : KK) (q : Nat → Nat) (S : Nat → Int → Int) (H : HS S) (Lk : LK S) (r v : Int) (hr : 0 ≤ r ∧ r < S 0 10) (hv : 0 ≤ v ∧ v < 6) : hMI l yX1_about wsX1_about (rmL 5) K [.ref (q 0), .int (iI r), .int (iI v)] (wX K q S) (fun z w => (z = ABT (S 0 10) (S 7) (S 8) r v) ∧ ∃ S2, w = wX K q S2 ∧ UP S S2 (S 7) (S 8)) := by
  have hn := H.n
  have hf := H.hf
  have hh := H.hh
  have hk9 := H.1
  have hL := Lk.b hn
  refine in_MI (cc := cX1_about) (maxL := 3) (rt := (some .int)) (lv := [(0, .ref (q 0)), (1, .int (iI r)), (2, .int (iI v))]) (by decide) rfl (Nat.le_of_ble_eq_true rfl) rfl ?_
  intro p e s m args below meth c A C
  have hinX1 : ∀ w ∈ wsX10, w ∈ wsX1_about := by decide +kernel
  refine g_aload_n (pc := 0) C dX1_about_0 rfl rfl ?_
  refine g_iload_n (pc := 1) C dX1_about_1 rfl rfl ?_
  refine g_callVV (pc := 2) (As := [.int (iI r)]) (rest := []) C (c_X1_needRoom_ok l K q S hn r (by omega)) (cwV 1 C.hts gX1_about_X1_needRoom rfl rfl rfl (by decide +kernel) ⟨by decide, by decide⟩) 0 rfl rfl dX1_about_2 rfl (Nat.le_of_ble_eq_true rfl) ⟨Nat.zero_le _, Nat.zero_le _⟩ (fun w hp => ?_)
  subst hp
  refine g_iload_n (pc := 5) C dX1_about_5 rfl rfl ?_
  refine g_bipush (pc := 6) C dX1_about_6 (by decide +kernel) ?_
  refine g_callSV (pc := 8) (As := [.int (iI v), .int (iI 6)]) (rest := []) C (c_X1_needIndex_ok l K _ v 6 (by omega)) (cwS 2 C.hts gX1_about_X1_needIndex rfl rfl rfl (by decide +kernel) ⟨by decide, by decide⟩) dX1_about_8 rfl (Nat.le_of_ble_eq_true rfl) ⟨Nat.zero_le _, Nat.zero_le _⟩ (fun w hp => ?_)
  subst hp
  refine g_iload_n (pc := 11) C dX1_about_11 rfl rfl ?_
  rcases (by omega : v = 0 ∨ v = 1 ∨ v = 2 ∨ v = 3 ∨ v = 4 ∨ v = 5) with h | h | h | h | h | h
  · rw [h]
    refine g_tsw (pc := 12) (tgt := 48) C dX1_about_12 (by omega) (by omega) (by omega) rfl (by decide) ?_
    refine g_aload_n (pc := 48) C dX1_about_48 rfl rfl ?_
    refine g_get (pc := 49) (ref := "HexRooms") (ci := 1) (N := 11) C 0 rfl rfl hinX1 0 (by decide) (by decide +kernel) rfl rfl dX1_about_49 ?_
    refine g_iload_n (pc := 52) C dX1_about_52 rfl rfl ?_
    refine g_callVI (pc := 53) (As := [.int (iI r)]) (rest := []) C (c_X0_acrossOf l K q S r (by omega)) (cwV 1 C.hts gX1_about_X0_acrossOf rfl rfl rfl (by decide +kernel) ⟨by decide, by decide⟩) 1 rfl rfl dX1_about_53 rfl (Nat.le_of_ble_eq_true rfl) ⟨Nat.zero_le _, Nat.zero_le _⟩ (fun z w hp => ?_)
    obtain ⟨rfl, rfl⟩ := hp
    have hb := TA_b r
    exact g_ireturn (pc := 56) C rfl dX1_about_56 ⟨by subst h; first | rfl | exact Lk r hr.1 hr.2, ⟨_, rfl, rfl, rfl, rfl, Lk⟩⟩
  · rw [h]
    refine g_tsw (pc := 12) (tgt := 57) C dX1_about_12 (by omega) (by omega) (by omega) rfl (by decide) ?_
    refine g_aload_n (pc := 57) C dX1_about_57 rfl rfl ?_
    refine g_get (pc := 58) (ref := "HexRooms") (ci := 1) (N := 11) C 0 rfl rfl hinX1 0 (by decide) (by decide +kernel) rfl rfl dX1_about_58 ?_
    refine g_iload_n (pc := 61) C dX1_about_61 rfl rfl ?_
    refine g_callVI (pc := 62) (As := [.int (iI r)]) (rest := []) C (c_X0_downOf l K q S r (by omega)) (cwV 1 C.hts gX1_about_X0_downOf rfl rfl rfl (by decide +kernel) ⟨by decide, by decide⟩) 1 rfl rfl dX1_about_62 rfl (Nat.le_of_ble_eq_true rfl) ⟨Nat.zero_le _, Nat.zero_le _⟩ (fun z w hp => ?_)
    obtain ⟨rfl, rfl⟩ := hp
    have hb := TD_b r
    exact g_ireturn (pc := 65) C rfl dX1_about_65 ⟨by subst h; first | rfl | exact Lk r hr.1 hr.2, ⟨_, rfl, rfl, rfl, rfl, Lk⟩⟩
  · rw [h]
    refine g_tsw (pc := 12) (tgt := 66) C dX1_about_12 (by omega) (by omega) (by omega) rfl (by decide) ?_
    refine g_aload_n (pc := 66) C dX1_about_66 rfl rfl ?_
    refine g_get (pc := 67) (ref := "HexRooms") (ci := 1) (N := 11) C 0 rfl rfl hinX1 0 (by decide) (by decide +kernel) rfl rfl dX1_about_67 ?_
    refine g_iload_n (pc := 70) C dX1_about_70 rfl rfl ?_
    refine g_callVI (pc := 71) (As := [.int (iI r)]) (rest := []) C (c_X0_ringOf l K q S r (by omega)) (cwV 1 C.hts gX1_about_X0_ringOf rfl rfl rfl (by decide +kernel) ⟨by decide, by decide⟩) 1 rfl rfl dX1_about_71 rfl (Nat.le_of_ble_eq_true rfl) ⟨Nat.zero_le _, Nat.zero_le _⟩ (fun z w hp => ?_)
    obtain ⟨rfl, rfl⟩ := hp
    exact g_ireturn (pc := 74) C rfl dX1_about_74 ⟨by subst h; first | rfl | exact Lk r hr.1 hr.2, ⟨_, rfl, rfl, rfl, rfl, Lk⟩⟩
  · rw [h]
    refine g_tsw (pc := 12) (tgt := 75) C dX1_about_12 (by omega) (by omega) (by omega) rfl (by decide) ?_
    refine g_aload_n (pc := 75) C dX1_about_75 rfl rfl ?_
    refine g_get (pc := 76) (ref := "HexRooms") (ci := 1) (N := 11) C 0 rfl rfl hinX1 1 (by decide) (by decide +kernel) rfl rfl dX1_about_76 ?_
    refine g_iload_n (pc := 79) C dX1_about_79 rfl rfl ?_
    refine g_iaload (pc := 80) C 7 rfl (by omega) dX1_about_80 ?_
    exact g_ireturn (pc := 81) C rfl dX1_about_81 ⟨by subst h; first | rfl | exact Lk r hr.1 hr.2, ⟨_, rfl, rfl, rfl, rfl, Lk⟩⟩
  · rw [h]
    refine g_tsw (pc := 12) (tgt := 82) C dX1_about_12 (by omega) (by omega) (by omega) rfl (by decide) ?_
    refine g_aload_n (pc := 82) C dX1_about_82 rfl rfl ?_
    refine g_get (pc := 83) (ref := "HexRooms") (ci := 1) (N := 11) C 0 rfl rfl hinX1 3 (by decide) (by decide +kernel) rfl rfl dX1_about_83 ?_
    refine g_iload_n (pc := 86) C dX1_about_86 rfl rfl ?_
    refine g_iaload (pc := 87) C 9 rfl (by omega) dX1_about_87 ?_
    exact g_ireturn (pc := 88) C rfl dX1_about_88 ⟨by subst h; first | rfl | exact Lk r hr.1 hr.2, ⟨_, rfl, rfl, rfl, rfl, Lk⟩⟩
  · rw [h]
    refine g_tswD (pc := 12) (tgt := 89) C dX1_about_12 (by omega) (by omega) (by decide) ?_
    refine g_aload_n (pc := 89) C dX1_about_89 rfl rfl ?_
    refine g_iload_n (pc := 90) C dX1_about_90 rfl rfl ?_
    refine g_callVI (pc := 91) (As := [.int (iI r)]) (rest := []) C (c_X1_sidesOnward l K q S hn hf hh r (by omega)) (cwV 1 C.hts gX1_about_X1_sidesOnward rfl rfl rfl (by decide +kernel) ⟨by decide, by decide⟩) 0 rfl rfl dX1_about_91 rfl (Nat.le_of_ble_eq_true rfl) ⟨Nat.zero_le _, Nat.zero_le _⟩ (fun z w hp => ?_)
    obtain ⟨rfl, rfl⟩ := hp
    exact g_ireturn (pc := 94) C rfl dX1_about_94 ⟨by subst h; first | rfl | exact Lk r hr.1 hr.2, ⟨_, rfl, rfl, rfl, rfl, Lk⟩⟩

set_option maxHeartbeats 400000 in
set_option maxRecDepth 100000 in
theorem c_X1_beside (l : Launch) (K : KK) (q : Nat → Nat) (S : Nat → Int → Int) (H : HS S) (Lk : LK S) (r t : Int) (hr : 0 ≤ r ∧ r < S 0 10) (ht : 0 ≤ t ∧ t < 6) : hMI l yX1_beside wsX1_beside (rmL 3) K [.ref (q 0), .int (iI r), .int (iI t)] (wX K q S) (fun z w => (z = NX (S 0 10) r t) ∧ ∃ S2, w = wX K q S2 ∧ UP S S2 (S 7) (S 8)) := by
  have hn := H.n
  have hf := H.hf
  have hh := H.hh
  have hk9 := H.1
  have hL := Lk.b hn
  refine in_MI (cc := cX1_beside) (maxL := 3) (rt := (some .int)) (lv := [(0, .ref (q 0)), (1, .int (iI r)), (2, .int (iI t))]) (by decide) rfl (Nat.le_of_ble_eq_true rfl) rfl ?_
  intro p e s m args below meth c A C
  refine g_aload_n (pc := 0) C dX1_beside_0 rfl rfl ?_
  refine g_iload_n (pc := 1) C dX1_beside_1 rfl rfl ?_
  refine g_callVV (pc := 2) (As := [.int (iI r)]) (rest := []) C (c_X1_needRoom_ok l K q S hn r (by omega)) (cwV 1 C.hts gX1_beside_X1_needRoom rfl rfl rfl (by decide +kernel) ⟨by decide, by decide⟩) 0 rfl rfl dX1_beside_2 rfl (Nat.le_of_ble_eq_true rfl) ⟨Nat.zero_le _, Nat.zero_le _⟩ (fun w hp => ?_)
  subst hp
  refine g_iload_n (pc := 5) C dX1_beside_5 rfl rfl ?_
  refine g_bipush (pc := 6) C dX1_beside_6 (by decide +kernel) ?_
  refine g_callSV (pc := 8) (As := [.int (iI t), .int (iI 6)]) (rest := []) C (c_X1_needIndex_ok l K _ t 6 (by omega)) (cwS 2 C.hts gX1_beside_X1_needIndex rfl rfl rfl (by decide +kernel) ⟨by decide, by decide⟩) dX1_beside_8 rfl (Nat.le_of_ble_eq_true rfl) ⟨Nat.zero_le _, Nat.zero_le _⟩ (fun w hp => ?_)
  subst hp
  refine g_aload_n (pc := 11) C dX1_beside_11 rfl rfl ?_
  refine g_iload_n (pc := 12) C dX1_beside_12 rfl rfl ?_
  refine g_iload_n (pc := 13) C dX1_beside_13 rfl rfl ?_
  refine g_callVI (pc := 14) (As := [.int (iI r), .int (iI t)]) (rest := []) C (c_X1_neighbour l K q S hn r t (by omega) ht) (cwV 2 C.hts gX1_beside_X1_neighbour rfl rfl rfl (by decide +kernel) ⟨by decide, by decide⟩) 0 rfl rfl dX1_beside_14 rfl (Nat.le_of_ble_eq_true rfl) ⟨Nat.zero_le _, Nat.zero_le _⟩ (fun z w hp => ?_)
  obtain ⟨rfl, rfl⟩ := hp
  exact g_ireturn (pc := 17) C rfl dX1_beside_17 ⟨rfl, ⟨_, rfl, rfl, rfl, rfl, Lk⟩⟩

set_option maxHeartbeats 400000 in
set_option maxRecDepth 100000 in
theorem c_X1_isShut (l : Launch) (K : KK) (q : Nat → Nat) (S : Nat → Int → Int) (H : HS S) (Lk : LK S) (r t : Int) (hr : 0 ≤ r ∧ r < S 0 10) (ht : 0 ≤ t ∧ t < 6) (hd : ¬ NX (S 0 10) r t = -1) : hMI l yX1_isShut wsX1_isShut (rmL 4) K [.ref (q 0), .int (iI r), .int (iI t)] (wX K q S) (fun z w => (z = S 8 (r * 6 + t)) ∧ ∃ S2, w = wX K q S2 ∧ UP S S2 (S 7) (S 8)) := by
  have hn := H.n
  have hf := H.hf
  have hh := H.hh
  have hk9 := H.1
  have hL := Lk.b hn
  refine in_MI (cc := cX1_isShut) (maxL := 3) (rt := (some .boolean)) (lv := [(0, .ref (q 0)), (1, .int (iI r)), (2, .int (iI t))]) (by decide) rfl (Nat.le_of_ble_eq_true rfl) rfl ?_
  intro p e s m args below meth c A C
  have hinX1 : ∀ w ∈ wsX10, w ∈ wsX1_isShut := by decide +kernel
  refine g_aload_n (pc := 0) C dX1_isShut_0 rfl rfl ?_
  refine g_iload_n (pc := 1) C dX1_isShut_1 rfl rfl ?_
  refine g_iload_n (pc := 2) C dX1_isShut_2 rfl rfl ?_
  refine g_callVI (pc := 3) (As := [.int (iI r), .int (iI t)]) (rest := []) C (c_X1_needDoor_ok l K q S hn r t hr ht hd) (cwV 2 C.hts gX1_isShut_X1_needDoor rfl rfl rfl (by decide +kernel) ⟨by decide, by decide⟩) 0 rfl rfl dX1_isShut_3 rfl (Nat.le_of_ble_eq_true rfl) ⟨Nat.zero_le _, Nat.zero_le _⟩ (fun z w hp => ?_)
  obtain ⟨rfl, rfl⟩ := hp
  have hb := NX_b (S 0 10) r t
  refine g_pop (pc := 6) C dX1_isShut_6 rfl ?_
  refine g_aload_n (pc := 7) C dX1_isShut_7 rfl rfl ?_
  refine g_get (pc := 8) (ref := "HexRooms") (ci := 1) (N := 11) C 0 rfl rfl hinX1 2 (by decide) (by decide +kernel) rfl rfl dX1_isShut_8 ?_
  refine g_iload_n (pc := 11) C dX1_isShut_11 rfl rfl ?_
  refine g_iload_n (pc := 12) C dX1_isShut_12 rfl rfl ?_
  refine g_callSI (pc := 13) (As := [.int (iI r), .int (iI t)]) (rest := [.ref (q 8)]) C (c_X1_doorOf l K _ r t) (cwS 2 C.hts gX1_isShut_X1_doorOf rfl rfl rfl (by decide +kernel) ⟨by decide, by decide⟩) dX1_isShut_13 rfl (Nat.le_of_ble_eq_true rfl) ⟨Nat.zero_le _, Nat.zero_le _⟩ (fun z w hp => ?_)
  obtain ⟨rfl, rfl⟩ := hp
  refine g_baload (pc := 16) C 8 rfl (by omega) dX1_isShut_16 ?_
  have bd1 := hh (r * 6 + t) (by omega) (by omega)
  exact g_zreturn (pc := 17) C rfl (by omega) dX1_isShut_17 ⟨rfl, ⟨_, rfl, rfl, rfl, rfl, Lk⟩⟩

set_option maxHeartbeats 400000 in
set_option maxRecDepth 100000 in
theorem c_X1_far (l : Launch) (K : KK) (q : Nat → Nat) (S : Nat → Int → Int) (H : HS S) (Lk : LK S) (a b : Int) (ha : 0 ≤ a ∧ a < S 0 10) (hb : 0 ≤ b ∧ b < S 0 10) : hMI l yX1_far wsX1_far (rmL 2) K [.ref (q 0), .int (iI a), .int (iI b)] (wX K q S) (fun z w => (z = FA a b) ∧ ∃ S2, w = wX K q S2 ∧ UP S S2 (S 7) (S 8)) := by
  have hn := H.n
  have hf := H.hf
  have hh := H.hh
  have hk9 := H.1
  have hL := Lk.b hn
  have t1 := TA_b a
  have t2 := TA_b b
  have t3 := TD_b a
  have t4 := TD_b b
  have a1 := ab_b (TA a - TA b)
  have a2 := ab_b (TD a - TD b)
  have a3 := ab_b ((TA a - TA b) + (TD a - TD b))
  refine in_MI (cc := cX1_far) (maxL := 5) (rt := (some .int)) (lv := [(0, .ref (q 0)), (1, .int (iI a)), (2, .int (iI b))]) (by decide) rfl (Nat.le_of_ble_eq_true rfl) rfl ?_
  intro p e s m args below meth c A C
  have hinX1 : ∀ w ∈ wsX10, w ∈ wsX1_far := by decide +kernel
  refine g_aload_n (pc := 0) C dX1_far_0 rfl rfl ?_
  refine g_iload_n (pc := 1) C dX1_far_1 rfl rfl ?_
  refine g_callVV (pc := 2) (As := [.int (iI a)]) (rest := []) C (c_X1_needRoom_ok l K q S hn a (by omega)) (cwV 1 C.hts gX1_far_X1_needRoom rfl rfl rfl (by decide +kernel) ⟨by decide, by decide⟩) 0 rfl rfl dX1_far_2 rfl (Nat.le_of_ble_eq_true rfl) ⟨Nat.zero_le _, Nat.zero_le _⟩ (fun w hp => ?_)
  subst hp
  refine g_aload_n (pc := 5) C dX1_far_5 rfl rfl ?_
  refine g_iload_n (pc := 6) C dX1_far_6 rfl rfl ?_
  refine g_callVV (pc := 7) (As := [.int (iI b)]) (rest := []) C (c_X1_needRoom_ok l K q S hn b (by omega)) (cwV 1 C.hts gX1_far_X1_needRoom rfl rfl rfl (by decide +kernel) ⟨by decide, by decide⟩) 0 rfl rfl dX1_far_7 rfl (Nat.le_of_ble_eq_true rfl) ⟨Nat.zero_le _, Nat.zero_le _⟩ (fun w hp => ?_)
  subst hp
  refine g_aload_n (pc := 10) C dX1_far_10 rfl rfl ?_
  refine g_get (pc := 11) (ref := "HexRooms") (ci := 1) (N := 11) C 0 rfl rfl hinX1 0 (by decide) (by decide +kernel) rfl rfl dX1_far_11 ?_
  refine g_iload_n (pc := 14) C dX1_far_14 rfl rfl ?_
  refine g_callVI (pc := 15) (As := [.int (iI a)]) (rest := []) C (c_X0_acrossOf l K q S a (by omega)) (cwV 1 C.hts gX1_far_X0_acrossOf rfl rfl rfl (by decide +kernel) ⟨by decide, by decide⟩) 1 rfl rfl dX1_far_15 rfl (Nat.le_of_ble_eq_true rfl) ⟨Nat.zero_le _, Nat.zero_le _⟩ (fun z w hp => ?_)
  obtain ⟨rfl, rfl⟩ := hp
  have hb := TA_b a
  refine g_aload_n (pc := 18) C dX1_far_18 rfl rfl ?_
  refine g_get (pc := 19) (ref := "HexRooms") (ci := 1) (N := 11) C 0 rfl rfl hinX1 0 (by decide) (by decide +kernel) rfl rfl dX1_far_19 ?_
  refine g_iload_n (pc := 22) C dX1_far_22 rfl rfl ?_
  refine g_callVI (pc := 23) (As := [.int (iI b)]) (rest := [.int (iI (TA a))]) C (c_X0_acrossOf l K q S b (by omega)) (cwV 1 C.hts gX1_far_X0_acrossOf rfl rfl rfl (by decide +kernel) ⟨by decide, by decide⟩) 1 rfl rfl dX1_far_23 rfl (Nat.le_of_ble_eq_true rfl) ⟨Nat.zero_le _, Nat.zero_le _⟩ (fun z w hp => ?_)
  obtain ⟨rfl, rfl⟩ := hp
  have hb := TA_b b
  refine g_isub (pc := 26) C dX1_far_26 ?_
  refine g_istore_n (pc := 27) (lv' := [(3, .int (iI ((TA a) - (TA b)))), (0, .ref (q 0)), (1, .int (iI a)), (2, .int (iI b))]) C dX1_far_27 rfl (by decide) rfl ?_
  refine g_aload_n (pc := 28) C dX1_far_28 rfl rfl ?_
  refine g_get (pc := 29) (ref := "HexRooms") (ci := 1) (N := 11) C 0 rfl rfl hinX1 0 (by decide) (by decide +kernel) rfl rfl dX1_far_29 ?_
  refine g_iload_n (pc := 32) C dX1_far_32 rfl rfl ?_
  refine g_callVI (pc := 33) (As := [.int (iI a)]) (rest := []) C (c_X0_downOf l K q S a (by omega)) (cwV 1 C.hts gX1_far_X0_downOf rfl rfl rfl (by decide +kernel) ⟨by decide, by decide⟩) 1 rfl rfl dX1_far_33 rfl (Nat.le_of_ble_eq_true rfl) ⟨Nat.zero_le _, Nat.zero_le _⟩ (fun z w hp => ?_)
  obtain ⟨rfl, rfl⟩ := hp
  have hb := TD_b a
  refine g_aload_n (pc := 36) C dX1_far_36 rfl rfl ?_
  refine g_get (pc := 37) (ref := "HexRooms") (ci := 1) (N := 11) C 0 rfl rfl hinX1 0 (by decide) (by decide +kernel) rfl rfl dX1_far_37 ?_
  refine g_iload_n (pc := 40) C dX1_far_40 rfl rfl ?_
  refine g_callVI (pc := 41) (As := [.int (iI b)]) (rest := [.int (iI (TD a))]) C (c_X0_downOf l K q S b (by omega)) (cwV 1 C.hts gX1_far_X0_downOf rfl rfl rfl (by decide +kernel) ⟨by decide, by decide⟩) 1 rfl rfl dX1_far_41 rfl (Nat.le_of_ble_eq_true rfl) ⟨Nat.zero_le _, Nat.zero_le _⟩ (fun z w hp => ?_)
  obtain ⟨rfl, rfl⟩ := hp
  have hb := TD_b b
  refine g_isub (pc := 44) C dX1_far_44 ?_
  refine g_istore (pc := 45) (lv' := [(4, .int (iI ((TD a) - (TD b)))), (3, .int (iI ((TA a) - (TA b)))), (0, .ref (q 0)), (1, .int (iI a)), (2, .int (iI b))]) C dX1_far_45 (by decide) rfl ?_
  refine g_iload_n (pc := 47) C dX1_far_47 rfl rfl ?_
  refine g_ab (pc := 48) C (by decide +kernel) (by decide +kernel) (by decide +kernel) (by decide +kernel) (by decide) (Nat.le_of_ble_eq_true rfl) ⟨Nat.zero_le _, Nat.zero_le _⟩ (by omega) dX1_far_48 ?_
  refine g_iload (pc := 51) C dX1_far_51 rfl ?_
  refine g_ab (pc := 53) C (by decide +kernel) (by decide +kernel) (by decide +kernel) (by decide +kernel) (by decide) (Nat.le_of_ble_eq_true rfl) ⟨Nat.zero_le _, Nat.zero_le _⟩ (by omega) dX1_far_53 ?_
  refine g_iadd (pc := 56) C dX1_far_56 ?_
  refine g_iload_n (pc := 57) C dX1_far_57 rfl rfl ?_
  refine g_iload (pc := 58) C dX1_far_58 rfl ?_
  refine g_iadd (pc := 60) C dX1_far_60 ?_
  refine g_ab (pc := 61) C (by decide +kernel) (by decide +kernel) (by decide +kernel) (by decide +kernel) (by decide) (Nat.le_of_ble_eq_true rfl) ⟨Nat.zero_le _, Nat.zero_le _⟩ (by omega) dX1_far_61 ?_
  refine g_iadd (pc := 64) C dX1_far_64 ?_
  refine g_iconst (pc := 65) C dX1_far_65 ?_
  refine g_idiv (pc := 66) C dX1_far_66 (by omega) (by omega) ?_
  exact g_ireturn (pc := 67) C rfl dX1_far_67 ⟨rfl, ⟨_, rfl, rfl, rfl, rfl, Lk⟩⟩

set_option maxHeartbeats 400000 in
set_option maxRecDepth 100000 in
theorem c_X1_sees (l : Launch) (K : KK) (q : Nat → Nat) (S : Nat → Int → Int) (H : HS S) (Lk : LK S) (a b : Int) (ha : 0 ≤ a ∧ a < S 0 10) (hb : 0 ≤ b ∧ b < S 0 10) : hMI l yX1_sees wsX1_sees (rmL 5) K [.ref (q 0), .int (iI a), .int (iI b)] (wX K q S) (fun z w => (z = if 0 < sL (ind b) (beam (S 0 10) (S 7) (S 8) a) then 1 else 0) ∧ ∃ S2, w = wX K q S2 ∧ UP S S2 (S 7) (S 8)) := by
  have hn := H.n
  have hf := H.hf
  have hh := H.hh
  have hk9 := H.1
  have hL := Lk.b hn
  refine in_MI (cc := cX1_sees) (maxL := 5) (rt := (some .boolean)) (lv := [(0, .ref (q 0)), (1, .int (iI a)), (2, .int (iI b))]) (by decide) rfl (Nat.le_of_ble_eq_true rfl) rfl ?_
  intro p e s m args below meth c A C
  have hinX1 : ∀ w ∈ wsX10, w ∈ wsX1_sees := by decide +kernel
  refine g_aload_n (pc := 0) C dX1_sees_0 rfl rfl ?_
  refine g_iload_n (pc := 1) C dX1_sees_1 rfl rfl ?_
  refine g_callVV (pc := 2) (As := [.int (iI a)]) (rest := []) C (c_X1_needRoom_ok l K q S hn a (by omega)) (cwV 1 C.hts gX1_sees_X1_needRoom rfl rfl rfl (by decide +kernel) ⟨by decide, by decide⟩) 0 rfl rfl dX1_sees_2 rfl (Nat.le_of_ble_eq_true rfl) ⟨Nat.zero_le _, Nat.zero_le _⟩ (fun w hp => ?_)
  subst hp
  refine g_aload_n (pc := 5) C dX1_sees_5 rfl rfl ?_
  refine g_iload_n (pc := 6) C dX1_sees_6 rfl rfl ?_
  refine g_callVV (pc := 7) (As := [.int (iI b)]) (rest := []) C (c_X1_needRoom_ok l K q S hn b (by omega)) (cwV 1 C.hts gX1_sees_X1_needRoom rfl rfl rfl (by decide +kernel) ⟨by decide, by decide⟩) 0 rfl rfl dX1_sees_7 rfl (Nat.le_of_ble_eq_true rfl) ⟨Nat.zero_le _, Nat.zero_le _⟩ (fun w hp => ?_)
  subst hp
  refine g_aload_n (pc := 10) C dX1_sees_10 rfl rfl ?_
  refine g_aload_n (pc := 11) C dX1_sees_11 rfl rfl ?_
  refine g_get (pc := 12) (ref := "HexRooms") (ci := 1) (N := 11) C 0 rfl rfl hinX1 1 (by decide) (by decide +kernel) rfl rfl dX1_sees_12 ?_
  refine g_iload_n (pc := 15) C dX1_sees_15 rfl rfl ?_
  refine g_callVI (pc := 16) (As := [.ref (q 7), .int (iI a)]) (rest := []) C (c_X1_beamFrom_7 l K q S hn hf hh a (show 0 ≤ a ∧ a < S 0 10 by omega)) (cwV 2 C.hts gX1_sees_X1_beamFrom rfl rfl rfl (by decide +kernel) ⟨by decide, by decide⟩) 0 rfl rfl dX1_sees_16 rfl (Nat.le_of_ble_eq_true rfl) ⟨Nat.zero_le _, Nat.zero_le _⟩ (fun sn w hp => ?_)
  obtain ⟨hsn, b1, rfl, hb1⟩ := hp
  have hsn : sn = ((beam (S 0 10) (S 7) (S 8) a).length : Int) := hsn
  have hb1 : ∀ i, 0 ≤ i → i < sn → b1 i = lg (beam (S 0 10) (S 7) (S 8) a) i := hb1
  have hsl := beam_len (S 0 10) (S 7) (S 8) a
  refine g_istore_n (pc := 19) (lv' := [(3, .int (iI sn)), (0, .ref (q 0)), (1, .int (iI a)), (2, .int (iI b))]) C dX1_sees_19 rfl (by decide) rfl ?_
  refine g_iconst (pc := 20) C dX1_sees_20 ?_
  refine g_istore (pc := 21) (lv' := [(4, .int (iI 0)), (3, .int (iI sn)), (0, .ref (q 0)), (1, .int (iI a)), (2, .int (iI b))]) C dX1_sees_21 (by decide) rfl ?_
  have loop23 : ∀ (fu : Nat) (i : Int), (0 ≤ i ∧ i ≤ sn) → (sL (ind b) ((beam (S 0 10) (S 7) (S 8) a).take i.toNat) = 0) → sn - i < (fu : Int) → hG p l e (rmL 5) s m args below meth c 5 K A 0 0 (QI K A below args s (fun z w => (z = if 0 < sL (ind b) (beam (S 0 10) (S 7) (S 8) a) then 1 else 0) ∧ ∃ S2, w = wX K q S2 ∧ UP S S2 (S 7) (S 8))) 23 [(4, .int (iI i)), (3, .int (iI sn)), (0, .ref (q 0)), (1, .int (iI a)), (2, .int (iI b))] [] (wX K q (sA S 12 b1)) := by
    intro fu
    induction fu with
    | zero =>
      intro i h1 h2 hm
      exact absurd hm (by omega)
    | succ fu ih23 =>
      intro i h1 h2 hm
      refine g_iload (pc := 23) C dX1_sees_23 rfl ?_
      refine g_iload_n (pc := 25) C dX1_sees_25 rfl rfl ?_
      refine g_icmp_ge (pc := 26) (tgt := 48) C dX1_sees_26 (by decide) (by omega) (by omega) (fun c1 => ?_) (fun c1 => ?_)
      · refine g_iconst (pc := 48) C dX1_sees_48 ?_
        exact g_zreturn (pc := 49) C rfl (by omega) dX1_sees_49 ⟨(if_neg (by rw [sL_takeAll _ _ (by omega)] at h2; omega)).symm, ⟨_, rfl, rfl, rfl, rfl, Lk⟩⟩
      · refine g_aload_n (pc := 29) C dX1_sees_29 rfl rfl ?_
        refine g_get (pc := 30) (ref := "HexRooms") (ci := 1) (N := 11) C 0 rfl rfl hinX1 6 (by decide) (by decide +kernel) rfl rfl dX1_sees_30 ?_
        refine g_iload (pc := 33) C dX1_sees_33 rfl ?_
        refine g_iaload (pc := 35) (f := b1) C 12 rfl (by omega) dX1_sees_35 ?_
        have hx := bm_mem (S 0 10) (S 7) (S 8) ha 6 _ (lg_mem (l := beam (S 0 10) (S 7) (S 8) a) (i := i) (by omega))
        rw [← hb1 i (by omega) (by omega)] at hx
        refine g_iload_n (pc := 36) C dX1_sees_36 rfl rfl ?_
        refine g_icmp_ne (pc := 37) (tgt := 42) C dX1_sees_37 (by decide) (by omega) (by omega) (fun c2 => ?_) (fun c2 => ?_)
        · refine g_iinc (pc := 42) (lv' := [(4, .int (iI (i + 1))), (3, .int (iI sn)), (0, .ref (q 0)), (1, .int (iI a)), (2, .int (iI b))]) C dX1_sees_42 rfl (by decide) rfl ?_
          refine g_goto (pc := 45) (tgt := 23) C dX1_sees_45 (by decide) ?_
          exact ih23 (i + 1) (by omega) (by
            rw [sL_take _ _ (i := i) (by omega), ← hb1 i (by omega) (by omega), h2]
            unfold ind
            rw [if_neg (by omega)]
            omega) (by omega)
        · refine g_iconst (pc := 40) C dX1_sees_40 ?_
          exact g_zreturn (pc := 41) C rfl (by omega) dX1_sees_41 ⟨(if_pos (sL_pos (i := i) (by omega) (by rw [← hb1 i (by omega) (by omega)]; omega))).symm, ⟨_, rfl, rfl, rfl, rfl, Lk⟩⟩
  exact loop23 (68) 0 (by omega) (by rw [sL_take0]) (by omega)

set_option maxHeartbeats 400000 in
set_option maxRecDepth 100000 in
theorem c_X1_way (l : Launch) (K : KK) (q : Nat → Nat) (S : Nat → Int → Int) (H : HS S) (Lk : LK S) (a b : Int) (ha : 0 ≤ a ∧ a < S 0 10) (hb : 0 ≤ b ∧ b < S 0 10) : hMI l yX1_way wsX1_way (rmL 6) K [.ref (q 0), .int (iI a), .int (iI b)] (wX K q S) (fun z w => (dR (S 0 10) (S 7) (S 8) a b z) ∧ ∃ S2, w = wX K q S2 ∧ UP S S2 (S 7) (S 8)) := by
  have hn := H.n
  have hf := H.hf
  have hh := H.hh
  have hk9 := H.1
  have hL := Lk.b hn
  refine in_MI (cc := cX1_way) (maxL := 3) (rt := (some .int)) (lv := [(0, .ref (q 0)), (1, .int (iI a)), (2, .int (iI b))]) (by decide) rfl (Nat.le_of_ble_eq_true rfl) rfl ?_
  intro p e s m args below meth c A C
  refine g_aload_n (pc := 0) C dX1_way_0 rfl rfl ?_
  refine g_iload_n (pc := 1) C dX1_way_1 rfl rfl ?_
  refine g_callVV (pc := 2) (As := [.int (iI a)]) (rest := []) C (c_X1_needRoom_ok l K q S hn a (by omega)) (cwV 1 C.hts gX1_way_X1_needRoom rfl rfl rfl (by decide +kernel) ⟨by decide, by decide⟩) 0 rfl rfl dX1_way_2 rfl (Nat.le_of_ble_eq_true rfl) ⟨Nat.zero_le _, Nat.zero_le _⟩ (fun w hp => ?_)
  subst hp
  refine g_aload_n (pc := 5) C dX1_way_5 rfl rfl ?_
  refine g_iload_n (pc := 6) C dX1_way_6 rfl rfl ?_
  refine g_callVV (pc := 7) (As := [.int (iI b)]) (rest := []) C (c_X1_needRoom_ok l K q S hn b (by omega)) (cwV 1 C.hts gX1_way_X1_needRoom rfl rfl rfl (by decide +kernel) ⟨by decide, by decide⟩) 0 rfl rfl dX1_way_7 rfl (Nat.le_of_ble_eq_true rfl) ⟨Nat.zero_le _, Nat.zero_le _⟩ (fun w hp => ?_)
  subst hp
  refine g_aload_n (pc := 10) C dX1_way_10 rfl rfl ?_
  refine g_iload_n (pc := 11) C dX1_way_11 rfl rfl ?_
  refine g_iload_n (pc := 12) C dX1_way_12 rfl rfl ?_
  refine g_callVI (pc := 13) (As := [.int (iI a), .int (iI b)]) (rest := []) C (c_X1_stepsBetween l K q S hn hf hh a b (show 0 ≤ a ∧ a < S 0 10 by omega) (show 0 ≤ b ∧ b < S 0 10 by omega)) (cwV 2 C.hts gX1_way_X1_stepsBetween rfl rfl rfl (by decide +kernel) ⟨by decide, by decide⟩) 0 rfl rfl dX1_way_13 rfl (Nat.le_of_ble_eq_true rfl) ⟨Nat.zero_le _, Nat.zero_le _⟩ (fun dz w hp => ?_)
  obtain ⟨hdz, D1, u1, rfl⟩ := hp
  have hdz : dR (S 0 10) (S 7) (S 8) a b dz := hdz
  have hdb := dR_b hdz
  exact g_ireturn (pc := 16) C rfl dX1_way_16 ⟨hdz, ⟨_, rfl, rfl, rfl, rfl, Lk⟩⟩
