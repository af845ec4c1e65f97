set_option maxHeartbeats 400000 in
set_option maxRecDepth 100000 in
theorem c_X1_needRoom_x (l : Launch) (hlt : l.stackTraces = false) (K : KK) (q : Nat → Nat) (S : Nat → Int → Int) (H : HS S) (r : Int) (hr : -2147483648 ≤ r ∧ r < 2147483648) (hno : ¬ (0 ≤ r ∧ r < S 0 10)) : hMX l yX1_needRoom wsX1_needRoom (rmX 7) K [.ref (q 0), .int (iI r)] (wX K q S) E_I := by
  have hn := H.n
  have hk9 := H.1
  refine in_MX (cc := cX1_needRoom) (maxL := 2) (rt := none) (lv := [(0, .ref (q 0)), (1, .int (iI r))]) (by decide) rfl (Nat.le_of_ble_eq_true rfl) rfl ?_
  intro p e s m args below meth c A C hex
  have hinX1 : ∀ w ∈ wsX10, w ∈ wsX1_needRoom := by decide +kernel
  refine g_iload_n (pc := 0) C dX1_needRoom_0 rfl rfl ?_
  refine g_aload_n (pc := 1) C dX1_needRoom_1 rfl rfl ?_
  refine g_get (pc := 2) (ref := "HexRooms") (ci := 1) (N := 11) C 0 rfl rfl hinX1 10 (by decide) (by decide +kernel) rfl rfl dX1_needRoom_2 ?_
  exact g_callSX (pc := 5) (As := [.int (iI r), .int (iI ((S 0) 10))]) (rest := []) C hex (c_X1_needIndex_x l hlt K _ r ((S 0) 10) (by omega) (by omega) (by omega)) (cwS 2 C.hts gX1_needRoom_X1_needIndex rfl rfl rfl (by decide +kernel) ⟨by decide, by decide⟩) dX1_needRoom_5 rfl (Nat.le_of_ble_eq_true rfl) ⟨by decide, by decide⟩

set_option maxHeartbeats 400000 in
set_option maxRecDepth 100000 in
theorem c_X1_needRing_x (l : Launch) (hlt : l.stackTraces = false) (K : KK) (q : Nat → Nat) (S : Nat → Int → Int) (H : HS S) (r : Int) (hr : -2147483648 ≤ r ∧ r < 2147483648) (hno : ¬ (0 ≤ r ∧ r ≤ S 0 9)) : hMX l yX1_needRing wsX1_needRing (rmX 7) K [.ref (q 0), .int (iI r)] (wX K q S) E_I := by
  have hn := H.n
  have hk9 := H.1
  refine in_MX (cc := cX1_needRing) (maxL := 2) (rt := none) (lv := [(0, .ref (q 0)), (1, .int (iI r))]) (by decide) rfl (Nat.le_of_ble_eq_true rfl) rfl ?_
  intro p e s m args below meth c A C hex
  have hinX1 : ∀ w ∈ wsX10, w ∈ wsX1_needRing := by decide +kernel
  refine g_iload_n (pc := 0) C dX1_needRing_0 rfl rfl ?_
  refine g_aload_n (pc := 1) C dX1_needRing_1 rfl rfl ?_
  refine g_get (pc := 2) (ref := "HexRooms") (ci := 1) (N := 11) C 0 rfl rfl hinX1 9 (by decide) (by decide +kernel) rfl rfl dX1_needRing_2 ?_
  refine g_iconst (pc := 5) C dX1_needRing_5 ?_
  refine g_iadd (pc := 6) C dX1_needRing_6 ?_
  exact g_callSX (pc := 7) (As := [.int (iI r), .int (iI (((S 0) 9) + 1))]) (rest := []) C hex (c_X1_needIndex_x l hlt K _ r (((S 0) 9) + 1) (by omega) (by omega) (by omega)) (cwS 2 C.hts gX1_needRing_X1_needIndex rfl rfl rfl (by decide +kernel) ⟨by decide, by decide⟩) dX1_needRing_7 rfl (Nat.le_of_ble_eq_true rfl) ⟨by decide, by decide⟩

set_option maxHeartbeats 400000 in
set_option maxRecDepth 100000 in
theorem c_X1_needDoor_x1 (l : Launch) (hlt : l.stackTraces = false) (K : KK) (q : Nat → Nat) (S : Nat → Int → Int) (H : HS S) (r t : Int) (hr : -2147483648 ≤ r ∧ r < 2147483648) (ht : -2147483648 ≤ t ∧ t < 2147483648) (hno : ¬ (0 ≤ r ∧ r < S 0 10)) : hMX l yX1_needDoor wsX1_needDoor (rmX 8) K [.ref (q 0), .int (iI r), .int (iI t)] (wX K q S) E_I := by
  have hn := H.n
  have hk9 := H.1
  refine in_MX (cc := cX1_needDoor) (maxL := 4) (rt := (some .int)) (lv := [(0, .ref (q 0)), (1, .int (iI r)), (2, .int (iI t))]) (by decide) rfl (Nat.le_of_ble_eq_true rfl) rfl ?_
  intro p e s m args below meth c A C hex
  refine g_aload_n (pc := 0) C dX1_needDoor_0 rfl rfl ?_
  refine g_iload_n (pc := 1) C dX1_needDoor_1 rfl rfl ?_
  exact g_callVX (pc := 2) (As := [.int (iI r)]) (rest := []) C hex (c_X1_needRoom_x l hlt K q S H r (by omega) (by omega)) (cwV 1 C.hts gX1_needDoor_X1_needRoom rfl rfl rfl (by decide +kernel) ⟨by decide, by decide⟩) 0 rfl rfl dX1_needDoor_2 rfl (Nat.le_of_ble_eq_true rfl) ⟨by decide, by decide⟩

set_option maxHeartbeats 400000 in
set_option maxRecDepth 100000 in
theorem c_X1_needDoor_x2 (l : Launch) (hlt : l.stackTraces = false) (K : KK) (q : Nat → Nat) (S : Nat → Int → Int) (H : HS S) (r t : Int) (hr : -2147483648 ≤ r ∧ r < 2147483648) (ht : -2147483648 ≤ t ∧ t < 2147483648) (hok : 0 ≤ r ∧ r < S 0 10) (hno : ¬ (0 ≤ t ∧ t < 6)) : hMX l yX1_needDoor wsX1_needDoor (rmX 8) K [.ref (q 0), .int (iI r), .int (iI t)] (wX K q S) E_I := by
  have hn := H.n
  have hk9 := H.1
  refine in_MX (cc := cX1_needDoor) (maxL := 4) (rt := (some .int)) (lv := [(0, .ref (q 0)), (1, .int (iI r)), (2, .int (iI t))]) (by decide) rfl (Nat.le_of_ble_eq_true rfl) rfl ?_
  intro p e s m args below meth c A C hex
  refine g_aload_n (pc := 0) C dX1_needDoor_0 rfl rfl ?_
  refine g_iload_n (pc := 1) C dX1_needDoor_1 rfl rfl ?_
  refine g_callVV (pc := 2) (As := [.int (iI r)]) (rest := []) C (c_X1_needRoom_ok l K q S hn r (by omega)) (cwV 1 C.hts gX1_needDoor_X1_needRoom rfl rfl rfl (by decide +kernel) ⟨by decide, by decide⟩) 0 rfl rfl dX1_needDoor_2 rfl (Nat.le_of_ble_eq_true rfl) ⟨Nat.zero_le _, Nat.zero_le _⟩ (fun w hp => ?_)
  subst hp
  refine g_iload_n (pc := 5) C dX1_needDoor_5 rfl rfl ?_
  refine g_bipush (pc := 6) C dX1_needDoor_6 (by decide +kernel) ?_
  exact g_callSX (pc := 8) (As := [.int (iI t), .int (iI 6)]) (rest := []) C hex (c_X1_needIndex_x l hlt K _ t 6 (by omega) (by omega) (by omega)) (cwS 2 C.hts gX1_needDoor_X1_needIndex rfl rfl rfl (by decide +kernel) ⟨by decide, by decide⟩) dX1_needDoor_8 rfl (Nat.le_of_ble_eq_true rfl) ⟨by decide, by decide⟩

set_option maxHeartbeats 400000 in
set_option maxRecDepth 100000 in
theorem c_X1_needDoor_x3 (l : Launch) (hlt : l.stackTraces = false) (K : KK) (q : Nat → Nat) (S : Nat → Int → Int) (H : HS S) (r t : Int) (hok : 0 ≤ r ∧ r < S 0 10) (ht : 0 ≤ t ∧ t < 6) (hd : NX (S 0 10) r t = -1) : hMX l yX1_needDoor wsX1_needDoor (rmX 8) K [.ref (q 0), .int (iI r), .int (iI t)] (wX K q S) E_S := by
  have hn := H.n
  have hk9 := H.1
  refine in_MX (cc := cX1_needDoor) (maxL := 4) (rt := (some .int)) (lv := [(0, .ref (q 0)), (1, .int (iI r)), (2, .int (iI t))]) (by decide) rfl (Nat.le_of_ble_eq_true rfl) rfl ?_
  intro p e s m args below meth c A C hex
  refine g_aload_n (pc := 0) C dX1_needDoor_0 rfl rfl ?_
  refine g_iload_n (pc := 1) C dX1_needDoor_1 rfl rfl ?_
  refine g_callVV (pc := 2) (As := [.int (iI r)]) (rest := []) C (c_X1_needRoom_ok l K q S hn r (by omega)) (cwV 1 C.hts gX1_needDoor_X1_needRoom rfl rfl rfl (by decide +kernel) ⟨by decide, by decide⟩) 0 rfl rfl dX1_needDoor_2 rfl (Nat.le_of_ble_eq_true rfl) ⟨Nat.zero_le _, Nat.zero_le _⟩ (fun w hp => ?_)
  subst hp
  refine g_iload_n (pc := 5) C dX1_needDoor_5 rfl rfl ?_
  refine g_bipush (pc := 6) C dX1_needDoor_6 (by decide +kernel) ?_
  refine g_callSV (pc := 8) (As := [.int (iI t), .int (iI 6)]) (rest := []) C (c_X1_needIndex_ok l K _ t 6 (by omega)) (cwS 2 C.hts gX1_needDoor_X1_needIndex rfl rfl rfl (by decide +kernel) ⟨by decide, by decide⟩) dX1_needDoor_8 rfl (Nat.le_of_ble_eq_true rfl) ⟨Nat.zero_le _, Nat.zero_le _⟩ (fun w hp => ?_)
  subst hp
  refine g_aload_n (pc := 11) C dX1_needDoor_11 rfl rfl ?_
  refine g_iload_n (pc := 12) C dX1_needDoor_12 rfl rfl ?_
  refine g_iload_n (pc := 13) C dX1_needDoor_13 rfl rfl ?_
  refine g_callVI (pc := 14) (As := [.int (iI r), .int (iI t)]) (rest := []) C (c_X1_neighbour l K q S hn r t (by omega) ht) (cwV 2 C.hts gX1_needDoor_X1_neighbour rfl rfl rfl (by decide +kernel) ⟨by decide, by decide⟩) 0 rfl rfl dX1_needDoor_14 rfl (Nat.le_of_ble_eq_true rfl) ⟨Nat.zero_le _, Nat.zero_le _⟩ (fun z w hp => ?_)
  obtain ⟨rfl, rfl⟩ := hp
  refine g_istore_n (pc := 17) (lv' := [(3, .int (iI (NX (S 0 10) r t))), (0, .ref (q 0)), (1, .int (iI r)), (2, .int (iI t))]) C dX1_needDoor_17 rfl (by decide) rfl ?_
  refine g_iload_n (pc := 18) C dX1_needDoor_18 rfl rfl ?_
  refine g_iconst (pc := 19) C dX1_needDoor_19 ?_
  refine g_icmp_ne (pc := 20) (tgt := 31) C dX1_needDoor_20 (by decide) (by omega) (by omega) (fun c1 => ?_) (fun c1 => ?_)
  · exact absurd hd c1
  · exact g_throw0 (ik := 187) (ic := 189) C hex hlt (by decide +kernel) (by decide +kernel) (by decide +kernel) C.hZ.2.2.2.2.2.1.2.2.2.1 (by decide +kernel) (by decide +kernel) (by decide +kernel) dX1_needDoor_23 dX1_needDoor_26 dX1_needDoor_27 dX1_needDoor_30 (by decide)

set_option maxHeartbeats 400000 in
set_option maxRecDepth 100000 in
theorem c_X1_setRings_x1 (l : Launch) (hlt : l.stackTraces = false) (K : KK) (q : Nat → Nat) (S : Nat → Int → Int) (H : HS S) (r : Int) (hr : -2147483648 ≤ r ∧ r < 2147483648) (hno : ¬ (1 ≤ r ∧ r ≤ 5)) : hMX l yX1_setRings wsX1_setRings (rmX 7) K [.ref (q 0), .int (iI r)] (wX K q S) E_A := by
  have hn := H.n
  have hk9 := H.1
  refine in_MX (cc := cX1_setRings) (maxL := 2) (rt := (some .int)) (lv := [(0, .ref (q 0)), (1, .int (iI r))]) (by decide) rfl (Nat.le_of_ble_eq_true rfl) rfl ?_
  intro p e s m args below meth c A C hex
  have hinX1 : ∀ w ∈ wsX10, w ∈ wsX1_setRings := by decide +kernel
  refine g_iload_n (pc := 0) C dX1_setRings_0 rfl rfl ?_
  refine g_iconst (pc := 1) C dX1_setRings_1 ?_
  refine g_iconst (pc := 2) C dX1_setRings_2 ?_
  exact g_callSX (pc := 3) (As := [.int (iI r), .int (iI 1), .int (iI 5)]) (rest := []) C hex (c_X1_needNumber_x l hlt K _ r 1 5 (by omega) (by omega) (by omega) (by omega)) (cwS 3 C.hts gX1_setRings_X1_needNumber rfl rfl rfl (by decide +kernel) ⟨by decide, by decide⟩) dX1_setRings_3 rfl (Nat.le_of_ble_eq_true rfl) ⟨by decide, by decide⟩

set_option maxHeartbeats 400000 in
set_option maxRecDepth 100000 in
theorem c_X1_put_x1 (l : Launch) (hlt : l.stackTraces = false) (K : KK) (q : Nat → Nat) (S : Nat → Int → Int) (H : HS S) (r t : Int) (hr : -2147483648 ≤ r ∧ r < 2147483648) (ht : -2147483648 ≤ t ∧ t < 2147483648) (hno : ¬ (0 ≤ r ∧ r < S 0 10)) : hMX l yX1_put wsX1_put (rmX 8) K [.ref (q 0), .int (iI r), .int (iI t)] (wX K q S) E_I := by
  have hn := H.n
  have hk9 := H.1
  refine in_MX (cc := cX1_put) (maxL := 4) (rt := (some .int)) (lv := [(0, .ref (q 0)), (1, .int (iI r)), (2, .int (iI t))]) (by decide) rfl (Nat.le_of_ble_eq_true rfl) rfl ?_
  intro p e s m args below meth c A C hex
  have hinX1 : ∀ w ∈ wsX10, w ∈ wsX1_put := by decide +kernel
  refine g_aload_n (pc := 0) C dX1_put_0 rfl rfl ?_
  refine g_iload_n (pc := 1) C dX1_put_1 rfl rfl ?_
  exact g_callVX (pc := 2) (As := [.int (iI r)]) (rest := []) C hex (c_X1_needRoom_x l hlt K q S H r (by omega) (by omega)) (cwV 1 C.hts gX1_put_X1_needRoom rfl rfl rfl (by decide +kernel) ⟨by decide, by decide⟩) 0 rfl rfl dX1_put_2 rfl (Nat.le_of_ble_eq_true rfl) ⟨by decide, by decide⟩

set_option maxHeartbeats 400000 in
set_option maxRecDepth 100000 in
theorem c_X1_put_x2 (l : Launch) (hlt : l.stackTraces = false) (K : KK) (q : Nat → Nat) (S : Nat → Int → Int) (H : HS S) (r t : Int) (hr : -2147483648 ≤ r ∧ r < 2147483648) (ht : -2147483648 ≤ t ∧ t < 2147483648) (hok : 0 ≤ r ∧ r < S 0 10) (hno : ¬ (0 ≤ t ∧ t < 3)) : hMX l yX1_put wsX1_put (rmX 8) K [.ref (q 0), .int (iI r), .int (iI t)] (wX K q S) E_I := by
  have hn := H.n
  have hk9 := H.1
  refine in_MX (cc := cX1_put) (maxL := 4) (rt := (some .int)) (lv := [(0, .ref (q 0)), (1, .int (iI r)), (2, .int (iI t))]) (by decide) rfl (Nat.le_of_ble_eq_true rfl) rfl ?_
  intro p e s m args below meth c A C hex
  have hinX1 : ∀ w ∈ wsX10, w ∈ wsX1_put := by decide +kernel
  refine g_aload_n (pc := 0) C dX1_put_0 rfl rfl ?_
  refine g_iload_n (pc := 1) C dX1_put_1 rfl rfl ?_
  refine g_callVV (pc := 2) (As := [.int (iI r)]) (rest := []) C (c_X1_needRoom_ok l K q S hn r (by omega)) (cwV 1 C.hts gX1_put_X1_needRoom rfl rfl rfl (by decide +kernel) ⟨by decide, by decide⟩) 0 rfl rfl dX1_put_2 rfl (Nat.le_of_ble_eq_true rfl) ⟨Nat.zero_le _, Nat.zero_le _⟩ (fun w hp => ?_)
  subst hp
  refine g_iload_n (pc := 5) C dX1_put_5 rfl rfl ?_
  refine g_iconst (pc := 6) C dX1_put_6 ?_
  exact g_callSX (pc := 7) (As := [.int (iI t), .int (iI 3)]) (rest := []) C hex (c_X1_needIndex_x l hlt K _ t 3 (by omega) (by omega) (by omega)) (cwS 2 C.hts gX1_put_X1_needIndex rfl rfl rfl (by decide +kernel) ⟨by decide, by decide⟩) dX1_put_7 rfl (Nat.le_of_ble_eq_true rfl) ⟨by decide, by decide⟩

set_option maxHeartbeats 400000 in
set_option maxRecDepth 100000 in
theorem c_X1_shut_x1 (l : Launch) (hlt : l.stackTraces = false) (K : KK) (q : Nat → Nat) (S : Nat → Int → Int) (H : HS S) (r t b : Int) (hr : -2147483648 ≤ r ∧ r < 2147483648) (ht : -2147483648 ≤ t ∧ t < 2147483648) (hno : ¬ (0 ≤ r ∧ r < S 0 10)) : hMX l yX1_shut wsX1_shut (rmX 9) K [.ref (q 0), .int (iI r), .int (iI t), .int (iI b)] (wX K q S) E_I := by
  have hn := H.n
  have hk9 := H.1
  refine in_MX (cc := cX1_shut) (maxL := 6) (rt := (some .boolean)) (lv := [(0, .ref (q 0)), (1, .int (iI r)), (2, .int (iI t)), (3, .int (iI b))]) (by decide) rfl (Nat.le_of_ble_eq_true rfl) rfl ?_
  intro p e s m args below meth c A C hex
  have hinX1 : ∀ w ∈ wsX10, w ∈ wsX1_shut := by decide +kernel
  refine g_aload_n (pc := 0) C dX1_shut_0 rfl rfl ?_
  refine g_iload_n (pc := 1) C dX1_shut_1 rfl rfl ?_
  refine g_iload_n (pc := 2) C dX1_shut_2 rfl rfl ?_
  exact g_callVX (pc := 3) (As := [.int (iI r), .int (iI t)]) (rest := []) C hex (c_X1_needDoor_x1 l hlt K q S H r t hr ht hno) (cwV 2 C.hts gX1_shut_X1_needDoor rfl rfl rfl (by decide +kernel) ⟨by decide, by decide⟩) 0 rfl rfl dX1_shut_3 rfl (Nat.le_of_ble_eq_true rfl) ⟨by decide, by decide⟩

set_option maxHeartbeats 400000 in
set_option maxRecDepth 100000 in
theorem c_X1_shut_x2 (l : Launch) (hlt : l.stackTraces = false) (K : KK) (q : Nat → Nat) (S : Nat → Int → Int) (H : HS S) (r t b : Int) (hr : -2147483648 ≤ r ∧ r < 2147483648) (ht : -2147483648 ≤ t ∧ t < 2147483648) (hok : 0 ≤ r ∧ r < S 0 10) (hno : ¬ (0 ≤ t ∧ t < 6)) : hMX l yX1_shut wsX1_shut (rmX 9) K [.ref (q 0), .int (iI r), .int (iI t), .int (iI b)] (wX K q S) E_I := by
  have hn := H.n
  have hk9 := H.1
  refine in_MX (cc := cX1_shut) (maxL := 6) (rt := (some .boolean)) (lv := [(0, .ref (q 0)), (1, .int (iI r)), (2, .int (iI t)), (3, .int (iI b))]) (by decide) rfl (Nat.le_of_ble_eq_true rfl) rfl ?_
  intro p e s m args below meth c A C hex
  have hinX1 : ∀ w ∈ wsX10, w ∈ wsX1_shut := by decide +kernel
  refine g_aload_n (pc := 0) C dX1_shut_0 rfl rfl ?_
  refine g_iload_n (pc := 1) C dX1_shut_1 rfl rfl ?_
  refine g_iload_n (pc := 2) C dX1_shut_2 rfl rfl ?_
  exact g_callVX (pc := 3) (As := [.int (iI r), .int (iI t)]) (rest := []) C hex (c_X1_needDoor_x2 l hlt K q S H r t hr ht hok hno) (cwV 2 C.hts gX1_shut_X1_needDoor rfl rfl rfl (by decide +kernel) ⟨by decide, by decide⟩) 0 rfl rfl dX1_shut_3 rfl (Nat.le_of_ble_eq_true rfl) ⟨by decide, by decide⟩

set_option maxHeartbeats 400000 in
set_option maxRecDepth 100000 in
theorem c_X1_shut_x3 (l : Launch) (hlt : l.stackTraces = false) (K : KK) (q : Nat → Nat) (S : Nat → Int → Int) (H : HS S) (r t b : Int) (hok : 0 ≤ r ∧ r < S 0 10) (ht : 0 ≤ t ∧ t < 6) (hd : NX (S 0 10) r t = -1) : hMX l yX1_shut wsX1_shut (rmX 9) K [.ref (q 0), .int (iI r), .int (iI t), .int (iI b)] (wX K q S) E_S := by
  have hn := H.n
  have hk9 := H.1
  refine in_MX (cc := cX1_shut) (maxL := 6) (rt := (some .boolean)) (lv := [(0, .ref (q 0)), (1, .int (iI r)), (2, .int (iI t)), (3, .int (iI b))]) (by decide) rfl (Nat.le_of_ble_eq_true rfl) rfl ?_
  intro p e s m args below meth c A C hex
  have hinX1 : ∀ w ∈ wsX10, w ∈ wsX1_shut := by decide +kernel
  refine g_aload_n (pc := 0) C dX1_shut_0 rfl rfl ?_
  refine g_iload_n (pc := 1) C dX1_shut_1 rfl rfl ?_
  refine g_iload_n (pc := 2) C dX1_shut_2 rfl rfl ?_
  exact g_callVX (pc := 3) (As := [.int (iI r), .int (iI t)]) (rest := []) C hex (c_X1_needDoor_x3 l hlt K q S H r t hok ht hd) (cwV 2 C.hts gX1_shut_X1_needDoor rfl rfl rfl (by decide +kernel) ⟨by decide, by decide⟩) 0 rfl rfl dX1_shut_3 rfl (Nat.le_of_ble_eq_true rfl) ⟨by decide, by decide⟩

set_option maxHeartbeats 400000 in
set_option maxRecDepth 100000 in
theorem c_X1_isShut_x1 (l : Launch) (hlt : l.stackTraces = false) (K : KK) (q : Nat → Nat) (S : Nat → Int → Int) (H : HS S) (r t : Int) (hr : -2147483648 ≤ r ∧ r < 2147483648) (ht : -2147483648 ≤ t ∧ t < 2147483648) (hno : ¬ (0 ≤ r ∧ r < S 0 10)) : hMX l yX1_isShut wsX1_isShut (rmX 9) K [.ref (q 0), .int (iI r), .int (iI t)] (wX K q S) E_I := by
  have hn := H.n
  have hk9 := H.1
  refine in_MX (cc := cX1_isShut) (maxL := 3) (rt := (some .boolean)) (lv := [(0, .ref (q 0)), (1, .int (iI r)), (2, .int (iI t))]) (by decide) rfl (Nat.le_of_ble_eq_true rfl) rfl ?_
  intro p e s m args below meth c A C hex
  have hinX1 : ∀ w ∈ wsX10, w ∈ wsX1_isShut := by decide +kernel
  refine g_aload_n (pc := 0) C dX1_isShut_0 rfl rfl ?_
  refine g_iload_n (pc := 1) C dX1_isShut_1 rfl rfl ?_
  refine g_iload_n (pc := 2) C dX1_isShut_2 rfl rfl ?_
  exact g_callVX (pc := 3) (As := [.int (iI r), .int (iI t)]) (rest := []) C hex (c_X1_needDoor_x1 l hlt K q S H r t hr ht hno) (cwV 2 C.hts gX1_isShut_X1_needDoor rfl rfl rfl (by decide +kernel) ⟨by decide, by decide⟩) 0 rfl rfl dX1_isShut_3 rfl (Nat.le_of_ble_eq_true rfl) ⟨by decide, by decide⟩

set_option maxHeartbeats 400000 in
set_option maxRecDepth 100000 in
theorem c_X1_isShut_x2 (l : Launch) (hlt : l.stackTraces = false) (K : KK) (q : Nat → Nat) (S : Nat → Int → Int) (H : HS S) (r t : Int) (hr : -2147483648 ≤ r ∧ r < 2147483648) (ht : -2147483648 ≤ t ∧ t < 2147483648) (hok : 0 ≤ r ∧ r < S 0 10) (hno : ¬ (0 ≤ t ∧ t < 6)) : hMX l yX1_isShut wsX1_isShut (rmX 9) K [.ref (q 0), .int (iI r), .int (iI t)] (wX K q S) E_I := by
  have hn := H.n
  have hk9 := H.1
  refine in_MX (cc := cX1_isShut) (maxL := 3) (rt := (some .boolean)) (lv := [(0, .ref (q 0)), (1, .int (iI r)), (2, .int (iI t))]) (by decide) rfl (Nat.le_of_ble_eq_true rfl) rfl ?_
  intro p e s m args below meth c A C hex
  have hinX1 : ∀ w ∈ wsX10, w ∈ wsX1_isShut := by decide +kernel
  refine g_aload_n (pc := 0) C dX1_isShut_0 rfl rfl ?_
  refine g_iload_n (pc := 1) C dX1_isShut_1 rfl rfl ?_
  refine g_iload_n (pc := 2) C dX1_isShut_2 rfl rfl ?_
  exact g_callVX (pc := 3) (As := [.int (iI r), .int (iI t)]) (rest := []) C hex (c_X1_needDoor_x2 l hlt K q S H r t hr ht hok hno) (cwV 2 C.hts gX1_isShut_X1_needDoor rfl rfl rfl (by decide +kernel) ⟨by decide, by decide⟩) 0 rfl rfl dX1_isShut_3 rfl (Nat.le_of_ble_eq_true rfl) ⟨by decide, by decide⟩

set_option maxHeartbeats 400000 in
set_option maxRecDepth 100000 in
theorem c_X1_isShut_x3 (l : Launch) (hlt : l.stackTraces = false) (K : KK) (q : Nat → Nat) (S : Nat → Int → Int) (H : HS S) (r t : Int) (hok : 0 ≤ r ∧ r < S 0 10) (ht : 0 ≤ t ∧ t < 6) (hd : NX (S 0 10) r t = -1) : hMX l yX1_isShut wsX1_isShut (rmX 9) K [.ref (q 0), .int (iI r), .int (iI t)] (wX K q S) E_S := by
  have hn := H.n
  have hk9 := H.1
  refine in_MX (cc := cX1_isShut) (maxL := 3) (rt := (some .boolean)) (lv := [(0, .ref (q 0)), (1, .int (iI r)), (2, .int (iI t))]) (by decide) rfl (Nat.le_of_ble_eq_true rfl) rfl ?_
  intro p e s m args below meth c A C hex
  have hinX1 : ∀ w ∈ wsX10, w ∈ wsX1_isShut := by decide +kernel
  refine g_aload_n (pc := 0) C dX1_isShut_0 rfl rfl ?_
  refine g_iload_n (pc := 1) C dX1_isShut_1 rfl rfl ?_
  refine g_iload_n (pc := 2) C dX1_isShut_2 rfl rfl ?_
  exact g_callVX (pc := 3) (As := [.int (iI r), .int (iI t)]) (rest := []) C hex (c_X1_needDoor_x3 l hlt K q S H r t hok ht hd) (cwV 2 C.hts gX1_isShut_X1_needDoor rfl rfl rfl (by decide +kernel) ⟨by decide, by decide⟩) 0 rfl rfl dX1_isShut_3 rfl (Nat.le_of_ble_eq_true rfl) ⟨by decide, by decide⟩

set_option maxHeartbeats 400000 in
set_option maxRecDepth 100000 in
theorem c_X1_turn_x1 (l : Launch) (hlt : l.stackTraces = false) (K : KK) (q : Nat → Nat) (S : Nat → Int → Int) (H : HS S) (r t : Int) (hr : -2147483648 ≤ r ∧ r < 2147483648) (ht : -2147483648 ≤ t ∧ t < 2147483648) (hno : ¬ (0 ≤ r ∧ r ≤ S 0 9)) : hMX l yX1_turn wsX1_turn (rmX 8) K [.ref (q 0), .int (iI r), .int (iI t)] (wX K q S) E_I := by
  have hn := H.n
  have hk9 := H.1
  refine in_MX (cc := cX1_turn) (maxL := 4) (rt := (some .int)) (lv := [(0, .ref (q 0)), (1, .int (iI r)), (2, .int (iI t))]) (by decide) rfl (Nat.le_of_ble_eq_true rfl) rfl ?_
  intro p e s m args below meth c A C hex
  have hinX1 : ∀ w ∈ wsX10, w ∈ wsX1_turn := by decide +kernel
  refine g_aload_n (pc := 0) C dX1_turn_0 rfl rfl ?_
  refine g_iload_n (pc := 1) C dX1_turn_1 rfl rfl ?_
  exact g_callVX (pc := 2) (As := [.int (iI r)]) (rest := []) C hex (c_X1_needRing_x l hlt K q S H r (by omega) (by omega)) (cwV 1 C.hts gX1_turn_X1_needRing rfl rfl rfl (by decide +kernel) ⟨by decide, by decide⟩) 0 rfl rfl dX1_turn_2 rfl (Nat.le_of_ble_eq_true rfl) ⟨by decide, by decide⟩

set_option maxHeartbeats 400000 in
set_option maxRecDepth 100000 in
theorem c_X1_turn_x2 (l : Launch) (hlt : l.stackTraces = false) (K : KK) (q : Nat → Nat) (S : Nat → Int → Int) (H : HS S) (r t : Int) (hr : -2147483648 ≤ r ∧ r < 2147483648) (ht : -2147483648 ≤ t ∧ t < 2147483648) (hok : 0 ≤ r ∧ r ≤ S 0 9) (hno : ¬ (0 ≤ t ∧ t ≤ 29)) : hMX l yX1_turn wsX1_turn (rmX 8) K [.ref (q 0), .int (iI r), .int (iI t)] (wX K q S) E_A := by
  have hn := H.n
  have hk9 := H.1
  refine in_MX (cc := cX1_turn) (maxL := 4) (rt := (some .int)) (lv := [(0, .ref (q 0)), (1, .int (iI r)), (2, .int (iI t))]) (by decide) rfl (Nat.le_of_ble_eq_true rfl) rfl ?_
  intro p e s m args below meth c A C hex
  have hinX1 : ∀ w ∈ wsX10, w ∈ wsX1_turn := by decide +kernel
  refine g_aload_n (pc := 0) C dX1_turn_0 rfl rfl ?_
  refine g_iload_n (pc := 1) C dX1_turn_1 rfl rfl ?_
  refine g_callVV (pc := 2) (As := [.int (iI r)]) (rest := []) C (c_X1_needRing_ok l K q S hk9 r (by omega)) (cwV 1 C.hts gX1_turn_X1_needRing rfl rfl rfl (by decide +kernel) ⟨by decide, by decide⟩) 0 rfl rfl dX1_turn_2 rfl (Nat.le_of_ble_eq_true rfl) ⟨Nat.zero_le _, Nat.zero_le _⟩ (fun w hp => ?_)
  subst hp
  refine g_iload_n (pc := 5) C dX1_turn_5 rfl rfl ?_
  refine g_iconst (pc := 6) C dX1_turn_6 ?_
  refine g_bipush (pc := 7) C dX1_turn_7 (by decide +kernel) ?_
  exact g_callSX (pc := 9) (As := [.int (iI t), .int (iI 0), .int (iI 29)]) (rest := []) C hex (c_X1_needNumber_x l hlt K _ t 0 29 (by omega) (by omega) (by omega) (by omega)) (cwS 3 C.hts gX1_turn_X1_needNumber rfl rfl rfl (by decide +kernel) ⟨by decide, by decide⟩) dX1_turn_9 rfl (Nat.le_of_ble_eq_true rfl) ⟨by decide, by decide⟩

set_option maxHeartbeats 400000 in
set_option maxRecDepth 100000 in
theorem c_X1_turnAll_x1 (l : Launch) (hlt : l.stackTraces = false) (K : KK) (q : Nat → Nat) (S : Nat → Int → Int) (H : HS S) (r : Int) (hr : -2147483648 ≤ r ∧ r < 2147483648) (hno : ¬ (0 ≤ r ∧ r ≤ 5)) : hMX l yX1_turnAll wsX1_turnAll (rmX 7) K [.ref (q 0), .int (iI r)] (wX K q S) E_A := by
  have hn := H.n
  have hk9 := H.1
  refine in_MX (cc := cX1_turnAll) (maxL := 2) (rt := (some .int)) (lv := [(0, .ref (q 0)), (1, .int (iI r))]) (by decide) rfl (Nat.le_of_ble_eq_true rfl) rfl ?_
  intro p e s m args below meth c A C hex
  have hinX1 : ∀ w ∈ wsX10, w ∈ wsX1_turnAll := by decide +kernel
  refine g_iload_n (pc := 0) C dX1_turnAll_0 rfl rfl ?_
  refine g_iconst (pc := 1) C dX1_turnAll_1 ?_
  refine g_iconst (pc := 2) C dX1_turnAll_2 ?_
  exact g_callSX (pc := 3) (As := [.int (iI r), .int (iI 0), .int (iI 5)]) (rest := []) C hex (c_X1_needNumber_x l hlt K _ r 0 5 (by omega) (by omega) (by omega) (by omega)) (cwS 3 C.hts gX1_turnAll_X1_needNumber rfl rfl rfl (by decide +kernel) ⟨by decide, by decide⟩) dX1_turnAll_3 rfl (Nat.le_of_ble_eq_true rfl) ⟨by decide, by decide⟩

set_option maxHeartbeats 400000 in
set_option maxRecDepth 100000 in
theorem c_X1_about_x1 (l : Launch) (hlt : l.stackTraces = false) (K : KK) (q : Nat → Nat) (S : Nat → Int → Int) (H : HS S) (r t : Int) (hr : -2147483648 ≤ r ∧ r < 2147483648) (ht : -2147483648 ≤ t ∧ t < 2147483648) (hno : ¬ (0 ≤ r ∧ r < S 0 10)) : hMX l yX1_about wsX1_about (rmX 8) K [.ref (q 0), .int (iI r), .int (iI t)] (wX K q S) E_I := by
  have hn := H.n
  have hk9 := H.1
  refine in_MX (cc := cX1_about) (maxL := 3) (rt := (some .int)) (lv := [(0, .ref (q 0)), (1, .int (iI r)), (2, .int (iI t))]) (by decide) rfl (Nat.le_of_ble_eq_true rfl) rfl ?_
  intro p e s m args below meth c A C hex
  have hinX1 : ∀ w ∈ wsX10, w ∈ wsX1_about := by decide +kernel
  refine g_aload_n (pc := 0) C dX1_about_0 rfl rfl ?_
  refine g_iload_n (pc := 1) C dX1_about_1 rfl rfl ?_
  exact g_callVX (pc := 2) (As := [.int (iI r)]) (rest := []) C hex (c_X1_needRoom_x l hlt K q S H r (by omega) (by omega)) (cwV 1 C.hts gX1_about_X1_needRoom rfl rfl rfl (by decide +kernel) ⟨by decide, by decide⟩) 0 rfl rfl dX1_about_2 rfl (Nat.le_of_ble_eq_true rfl) ⟨by decide, by decide⟩

set_option maxHeartbeats 400000 in
set_option maxRecDepth 100000 in
theorem c_X1_about_x2 (l : Launch) (hlt : l.stackTraces = false) (K : KK) (q : Nat → Nat) (S : Nat → Int → Int) (H : HS S) (r t : Int) (hr : -2147483648 ≤ r ∧ r < 2147483648) (ht : -2147483648 ≤ t ∧ t < 2147483648) (hok : 0 ≤ r ∧ r < S 0 10) (hno : ¬ (0 ≤ t ∧ t < 6)) : hMX l yX1_about wsX1_about (rmX 8) K [.ref (q 0), .int (iI r), .int (iI t)] (wX K q S) E_I := by
  have hn := H.n
  have hk9 := H.1
  refine in_MX (cc := cX1_about) (maxL := 3) (rt := (some .int)) (lv := [(0, .ref (q 0)), (1, .int (iI r)), (2, .int (iI t))]) (by decide) rfl (Nat.le_of_ble_eq_true rfl) rfl ?_
  intro p e s m args below meth c A C hex
  have hinX1 : ∀ w ∈ wsX10, w ∈ wsX1_about := by decide +kernel
  refine g_aload_n (pc := 0) C dX1_about_0 rfl rfl ?_
  refine g_iload_n (pc := 1) C dX1_about_1 rfl rfl ?_
  refine g_callVV (pc := 2) (As := [.int (iI r)]) (rest := []) C (c_X1_needRoom_ok l K q S hn r (by omega)) (cwV 1 C.hts gX1_about_X1_needRoom rfl rfl rfl (by decide +kernel) ⟨by decide, by decide⟩) 0 rfl rfl dX1_about_2 rfl (Nat.le_of_ble_eq_true rfl) ⟨Nat.zero_le _, Nat.zero_le _⟩ (fun w hp => ?_)
  subst hp
  refine g_iload_n (pc := 5) C dX1_about_5 rfl rfl ?_
  refine g_bipush (pc := 6) C dX1_about_6 (by decide +kernel) ?_
  exact g_callSX (pc := 8) (As := [.int (iI t), .int (iI 6)]) (rest := []) C hex (c_X1_needIndex_x l hlt K _ t 6 (by omega) (by omega) (by omega)) (cwS 2 C.hts gX1_about_X1_needIndex rfl rfl rfl (by decide +kernel) ⟨by decide, by decide⟩) dX1_about_8 rfl (Nat.le_of_ble_eq_true rfl) ⟨by decide, by decide⟩

set_option maxHeartbeats 400000 in
set_option maxRecDepth 100000 in
theorem c_X1_beside_x1 (l : Launch) (hlt : l.stackTraces = false) (K : KK) (q : Nat → Nat) (S : Nat → Int → Int) (H : HS S) (r t : Int) (hr : -2147483648 ≤ r ∧ r < 2147483648) (ht : -2147483648 ≤ t ∧ t < 2147483648) (hno : ¬ (0 ≤ r ∧ r < S 0 10)) : hMX l yX1_beside wsX1_beside (rmX 8) K [.ref (q 0), .int (iI r), .int (iI t)] (wX K q S) E_I := by
  have hn := H.n
  have hk9 := H.1
  refine in_MX (cc := cX1_beside) (maxL := 3) (rt := (some .int)) (lv := [(0, .ref (q 0)), (1, .int (iI r)), (2, .int (iI t))]) (by decide) rfl (Nat.le_of_ble_eq_true rfl) rfl ?_
  intro p e s m args below meth c A C hex
  refine g_aload_n (pc := 0) C dX1_beside_0 rfl rfl ?_
  refine g_iload_n (pc := 1) C dX1_beside_1 rfl rfl ?_
  exact g_callVX (pc := 2) (As := [.int (iI r)]) (rest := []) C hex (c_X1_needRoom_x l hlt K q S H r (by omega) (by omega)) (cwV 1 C.hts gX1_beside_X1_needRoom rfl rfl rfl (by decide +kernel) ⟨by decide, by decide⟩) 0 rfl rfl dX1_beside_2 rfl (Nat.le_of_ble_eq_true rfl) ⟨by decide, by decide⟩

set_option maxHeartbeats 400000 in
set_option maxRecDepth 100000 in
theorem c_X1_beside_x2 (l : Launch) (hlt : l.stackTraces = false) (K : KK) (q : Nat → Nat) (S : Nat → Int → Int) (H : HS S) (r t : Int) (hr : -2147483648 ≤ r ∧ r < 2147483648) (ht : -2147483648 ≤ t ∧ t < 2147483648) (hok : 0 ≤ r ∧ r < S 0 10) (hno : ¬ (0 ≤ t ∧ t < 6)) : hMX l yX1_beside wsX1_beside (rmX 8) K [.ref (q 0), .int (iI r), .int (iI t)] (wX K q S) E_I := by
  have hn := H.n
  have hk9 := H.1
  refine in_MX (cc := cX1_beside) (maxL := 3) (rt := (some .int)) (lv := [(0, .ref (q 0)), (1, .int (iI r)), (2, .int (iI t))]) (by decide) rfl (Nat.le_of_ble_eq_true rfl) rfl ?_
  intro p e s m args below meth c A C hex
  refine g_aload_n (pc := 0) C dX1_beside_0 rfl rfl ?_
  refine g_iload_n (pc := 1) C dX1_beside_1 rfl rfl ?_
  refine g_callVV (pc := 2) (As := [.int (iI r)]) (rest := []) C (c_X1_needRoom_ok l K q S hn r (by omega)) (cwV 1 C.hts gX1_beside_X1_needRoom rfl rfl rfl (by decide +kernel) ⟨by decide, by decide⟩) 0 rfl rfl dX1_beside_2 rfl (Nat.le_of_ble_eq_true rfl) ⟨Nat.zero_le _, Nat.zero_le _⟩ (fun w hp => ?_)
  subst hp
  refine g_iload_n (pc := 5) C dX1_beside_5 rfl rfl ?_
  refine g_bipush (pc := 6) C dX1_beside_6 (by decide +kernel) ?_
  exact g_callSX (pc := 8) (As := [.int (iI t), .int (iI 6)]) (rest := []) C hex (c_X1_needIndex_x l hlt K _ t 6 (by omega) (by omega) (by omega)) (cwS 2 C.hts gX1_beside_X1_needIndex rfl rfl rfl (by decide +kernel) ⟨by decide, by decide⟩) dX1_beside_8 rfl (Nat.le_of_ble_eq_true rfl) ⟨by decide, by decide⟩

set_option maxHeartbeats 400000 in
set_option maxRecDepth 100000 in
theorem c_X1_far_x1 (l : Launch) (hlt : l.stackTraces = false) (K : KK) (q : Nat → Nat) (S : Nat → Int → Int) (H : HS S) (r t : Int) (hr : -2147483648 ≤ r ∧ r < 2147483648) (ht : -2147483648 ≤ t ∧ t < 2147483648) (hno : ¬ (0 ≤ r ∧ r < S 0 10)) : hMX l yX1_far wsX1_far (rmX 8) K [.ref (q 0), .int (iI r), .int (iI t)] (wX K q S) E_I := by
  have hn := H.n
  have hk9 := H.1
  refine in_MX (cc := cX1_far) (maxL := 5) (rt := (some .int)) (lv := [(0, .ref (q 0)), (1, .int (iI r)), (2, .int (iI t))]) (by decide) rfl (Nat.le_of_ble_eq_true rfl) rfl ?_
  intro p e s m args below meth c A C hex
  have hinX1 : ∀ w ∈ wsX10, w ∈ wsX1_far := by decide +kernel
  refine g_aload_n (pc := 0) C dX1_far_0 rfl rfl ?_
  refine g_iload_n (pc := 1) C dX1_far_1 rfl rfl ?_
  exact g_callVX (pc := 2) (As := [.int (iI r)]) (rest := []) C hex (c_X1_needRoom_x l hlt K q S H r (by omega) (by omega)) (cwV 1 C.hts gX1_far_X1_needRoom rfl rfl rfl (by decide +kernel) ⟨by decide, by decide⟩) 0 rfl rfl dX1_far_2 rfl (Nat.le_of_ble_eq_true rfl) ⟨by decide, by decide⟩

set_option maxHeartbeats 400000 in
set_option maxRecDepth 100000 in
theorem c_X1_far_x2 (l : Launch) (hlt : l.stackTraces = false) (K : KK) (q : Nat → Nat) (S : Nat → Int → Int) (H : HS S) (r t : Int) (hr : -2147483648 ≤ r ∧ r < 2147483648) (ht : -2147483648 ≤ t ∧ t < 2147483648) (hok : 0 ≤ r ∧ r < S 0 10) (hno : ¬ (0 ≤ t ∧ t < S 0 10)) : hMX l yX1_far wsX1_far (rmX 8) K [.ref (q 0), .int (iI r), .int (iI t)] (wX K q S) E_I := by
  have hn := H.n
  have hk9 := H.1
  refine in_MX (cc := cX1_far) (maxL := 5) (rt := (some .int)) (lv := [(0, .ref (q 0)), (1, .int (iI r)), (2, .int (iI t))]) (by decide) rfl (Nat.le_of_ble_eq_true rfl) rfl ?_
  intro p e s m args below meth c A C hex
  have hinX1 : ∀ w ∈ wsX10, w ∈ wsX1_far := by decide +kernel
  refine g_aload_n (pc := 0) C dX1_far_0 rfl rfl ?_
  refine g_iload_n (pc := 1) C dX1_far_1 rfl rfl ?_
  refine g_callVV (pc := 2) (As := [.int (iI r)]) (rest := []) C (c_X1_needRoom_ok l K q S hn r (by omega)) (cwV 1 C.hts gX1_far_X1_needRoom rfl rfl rfl (by decide +kernel) ⟨by decide, by decide⟩) 0 rfl rfl dX1_far_2 rfl (Nat.le_of_ble_eq_true rfl) ⟨Nat.zero_le _, Nat.zero_le _⟩ (fun w hp => ?_)
  subst hp
  refine g_aload_n (pc := 5) C dX1_far_5 rfl rfl ?_
  refine g_iload_n (pc := 6) C dX1_far_6 rfl rfl ?_
  exact g_callVX (pc := 7) (As := [.int (iI t)]) (rest := []) C hex (c_X1_needRoom_x l hlt K q S H t (by omega) (by omega)) (cwV 1 C.hts gX1_far_X1_needRoom rfl rfl rfl (by decide +kernel) ⟨by decide, by decide⟩) 0 rfl rfl dX1_far_7 rfl (Nat.le_of_ble_eq_true rfl) ⟨by decide, by decide⟩

set_option maxHeartbeats 400000 in
set_option maxRecDepth 100000 in
theorem c_X1_sees_x1 (l : Launch) (hlt : l.stackTraces = false) (K : KK) (q : Nat → Nat) (S : Nat → Int → Int) (H : HS S) (r t : Int) (hr : -2147483648 ≤ r ∧ r < 2147483648) (ht : -2147483648 ≤ t ∧ t < 2147483648) (hno : ¬ (0 ≤ r ∧ r < S 0 10)) : hMX l yX1_sees wsX1_sees (rmX 8) K [.ref (q 0), .int (iI r), .int (iI t)] (wX K q S) E_I := by
  have hn := H.n
  have hk9 := H.1
  refine in_MX (cc := cX1_sees) (maxL := 5) (rt := (some .boolean)) (lv := [(0, .ref (q 0)), (1, .int (iI r)), (2, .int (iI t))]) (by decide) rfl (Nat.le_of_ble_eq_true rfl) rfl ?_
  intro p e s m args below meth c A C hex
  have hinX1 : ∀ w ∈ wsX10, w ∈ wsX1_sees := by decide +kernel
  refine g_aload_n (pc := 0) C dX1_sees_0 rfl rfl ?_
  refine g_iload_n (pc := 1) C dX1_sees_1 rfl rfl ?_
  exact g_callVX (pc := 2) (As := [.int (iI r)]) (rest := []) C hex (c_X1_needRoom_x l hlt K q S H r (by omega) (by omega)) (cwV 1 C.hts gX1_sees_X1_needRoom rfl rfl rfl (by decide +kernel) ⟨by decide, by decide⟩) 0 rfl rfl dX1_sees_2 rfl (Nat.le_of_ble_eq_true rfl) ⟨by decide, by decide⟩

set_option maxHeartbeats 400000 in
set_option maxRecDepth 100000 in
theorem c_X1_sees_x2 (l : Launch) (hlt : l.stackTraces = false) (K : KK) (q : Nat → Nat) (S : Nat → Int → Int) (H : HS S) (r t : Int) (hr : -2147483648 ≤ r ∧ r < 2147483648) (ht : -2147483648 ≤ t ∧ t < 2147483648) (hok : 0 ≤ r ∧ r < S 0 10) (hno : ¬ (0 ≤ t ∧ t < S 0 10)) : hMX l yX1_sees wsX1_sees (rmX 8) K [.ref (q 0), .int (iI r), .int (iI t)] (wX K q S) E_I := by
  have hn := H.n
  have hk9 := H.1
  refine in_MX (cc := cX1_sees) (maxL := 5) (rt := (some .boolean)) (lv := [(0, .ref (q 0)), (1, .int (iI r)), (2, .int (iI t))]) (by decide) rfl (Nat.le_of_ble_eq_true rfl) rfl ?_
  intro p e s m args below meth c A C hex
  have hinX1 : ∀ w ∈ wsX10, w ∈ wsX1_sees := by decide +kernel
  refine g_aload_n (pc := 0) C dX1_sees_0 rfl rfl ?_
  refine g_iload_n (pc := 1) C dX1_sees_1 rfl rfl ?_
  refine g_callVV (pc := 2) (As := [.int (iI r)]) (rest := []) C (c_X1_needRoom_ok l K q S hn r (by omega)) (cwV 1 C.hts gX1_sees_X1_needRoom rfl rfl rfl (by decide +kernel) ⟨by decide, by decide⟩) 0 rfl rfl dX1_sees_2 rfl (Nat.le_of_ble_eq_true rfl) ⟨Nat.zero_le _, Nat.zero_le _⟩ (fun w hp => ?_)
  subst hp
  refine g_aload_n (pc := 5) C dX1_sees_5 rfl rfl ?_
  refine g_iload_n (pc := 6) C dX1_sees_6 rfl rfl ?_
  exact g_callVX (pc := 7) (As := [.int (iI t)]) (rest := []) C hex (c_X1_needRoom_x l hlt K q S H t (by omega) (by omega)) (cwV 1 C.hts gX1_sees_X1_needRoom rfl rfl rfl (by decide +kernel) ⟨by decide, by decide⟩) 0 rfl rfl dX1_sees_7 rfl (Nat.le_of_ble_eq_true rfl) ⟨by decide, by decide⟩

set_option maxHeartbeats 400000 in
set_option maxRecDepth 100000 in
theorem c_X1_way_x1 (l : Launch) (hlt : l.stackTraces = false) (K : KK) (q : Nat → Nat) (S : Nat → Int → Int) (H : HS S) (r t : Int) (hr : -2147483648 ≤ r ∧ r < 2147483648) (ht : -2147483648 ≤ t ∧ t < 2147483648) (hno : ¬ (0 ≤ r ∧ r < S 0 10)) : hMX l yX1_way wsX1_way (rmX 8) K [.ref (q 0), .int (iI r), .int (iI t)] (wX K q S) E_I := by
  have hn := H.n
  have hk9 := H.1
  refine in_MX (cc := cX1_way) (maxL := 3) (rt := (some .int)) (lv := [(0, .ref (q 0)), (1, .int (iI r)), (2, .int (iI t))]) (by decide) rfl (Nat.le_of_ble_eq_true rfl) rfl ?_
  intro p e s m args below meth c A C hex
  refine g_aload_n (pc := 0) C dX1_way_0 rfl rfl ?_
  refine g_iload_n (pc := 1) C dX1_way_1 rfl rfl ?_
  exact g_callVX (pc := 2) (As := [.int (iI r)]) (rest := []) C hex (c_X1_needRoom_x l hlt K q S H r (by omega) (by omega)) (cwV 1 C.hts gX1_way_X1_needRoom rfl rfl rfl (by decide +kernel) ⟨by decide, by decide⟩) 0 rfl rfl dX1_way_2 rfl (Nat.le_of_ble_eq_true rfl) ⟨by decide, by decide⟩

set_option maxHeartbeats 400000 in
set_option maxRecDepth 100000 in
theorem c_X1_way_x2 (l : Launch) (hlt : l.stackTraces = false) (K : KK) (q : Nat → Nat) (S : Nat → Int → Int) (H : HS S) (r t : Int) (hr : -2147483648 ≤ r ∧ r < 2147483648) (ht : -2147483648 ≤ t ∧ t < 2147483648) (hok : 0 ≤ r ∧ r < S 0 10) (hno : ¬ (0 ≤ t ∧ t < S 0 10)) : hMX l yX1_way wsX1_way (rmX 8) K [.ref (q 0), .int (iI r), .int (iI t)] (wX K q S) E_I := by
  have hn := H.n
  have hk9 := H.1
  refine in_MX (cc := cX1_way) (maxL := 3) (rt := (some .int)) (lv := [(0, .ref (q 0)), (1, .int (iI r)), (2, .int (iI t))]) (by decide) rfl (Nat.le_of_ble_eq_true rfl) rfl ?_
  intro p e s m args below meth c A C hex
  refine g_aload_n (pc := 0) C dX1_way_0 rfl rfl ?_
  refine g_iload_n (pc := 1) C dX1_way_1 rfl rfl ?_
  refine g_callVV (pc := 2) (As := [.int (iI r)]) (rest := []) C (c_X1_needRoom_ok l K q S hn r (by omega)) (cwV 1 C.hts gX1_way_X1_needRoom rfl rfl rfl (by decide +kernel) ⟨by decide, by decide⟩) 0 rfl rfl dX1_way_2 rfl (Nat.le_of_ble_eq_true rfl) ⟨Nat.zero_le _, Nat.zero_le _⟩ (fun w hp => ?_)
  subst hp
  refine g_aload_n (pc := 5) C dX1_way_5 rfl rfl ?_
  refine g_iload_n (pc := 6) C dX1_way_6 rfl rfl ?_
  exact g_callVX (pc := 7) (As := [.int (iI t)]) (rest := []) C hex (c_X1_needRoom_x l hlt K q S H t (by omega) (by omega)) (cwV 1 C.hts gX1_way_X1_needRoom rfl rfl rfl (by decide +kernel) ⟨by decide, by decide⟩) 0 rfl rfl dX1_way_7 rfl (Nat.le_of_ble_eq_true rfl) ⟨by decide, by decide⟩

set_option maxHeartbeats 400000 in
set_option maxRecDepth 100000 in
theorem c_X1_side_x1 (l : Launch) (hlt : l.stackTraces = false) (K : KK) (q : Nat → Nat) (S : Nat → Int → Int) (H : HS S) (r t : Int) (hr : -2147483648 ≤ r ∧ r < 2147483648) (ht : -2147483648 ≤ t ∧ t < 2147483648) (hno : ¬ (0 ≤ r ∧ r < S 0 10)) : hMX l yX1_side wsX1_side (rmX 8) K [.ref (q 0), .int (iI r), .int (iI t)] (wX K q S) E_I := by
  have hn := H.n
  have hk9 := H.1
  refine in_MX (cc := cX1_side) (maxL := 8) (rt := (some .int)) (lv := [(0, .ref (q 0)), (1, .int (iI r)), (2, .int (iI t))]) (by decide) rfl (Nat.le_of_ble_eq_true rfl) rfl ?_
  intro p e s m args below meth c A C hex
  have hinX1 : ∀ w ∈ wsX10, w ∈ wsX1_side := by decide +kernel
  refine g_aload_n (pc := 0) C dX1_side_0 rfl rfl ?_
  refine g_iload_n (pc := 1) C dX1_side_1 rfl rfl ?_
  exact g_callVX (pc := 2) (As := [.int (iI r)]) (rest := []) C hex (c_X1_needRoom_x l hlt K q S H r (by omega) (by omega)) (cwV 1 C.hts gX1_side_X1_needRoom rfl rfl rfl (by decide +kernel) ⟨by decide, by decide⟩) 0 rfl rfl dX1_side_2 rfl (Nat.le_of_ble_eq_true rfl) ⟨by decide, by decide⟩

set_option maxHeartbeats 400000 in
set_option maxRecDepth 100000 in
theorem c_X1_side_x2 (l : Launch) (hlt : l.stackTraces = false) (K : KK) (q : Nat → Nat) (S : Nat → Int → Int) (H : HS S) (r t : Int) (hr : -2147483648 ≤ r ∧ r < 2147483648) (ht : -2147483648 ≤ t ∧ t < 2147483648) (hok : 0 ≤ r ∧ r < S 0 10) (hno : ¬ (0 ≤ t ∧ t < S 0 10)) : hMX l yX1_side wsX1_side (rmX 8) K [.ref (q 0), .int (iI r), .int (iI t)] (wX K q S) E_I := by
  have hn := H.n
  have hk9 := H.1
  refine in_MX (cc := cX1_side) (maxL := 8) (rt := (some .int)) (lv := [(0, .ref (q 0)), (1, .int (iI r)), (2, .int (iI t))]) (by decide) rfl (Nat.le_of_ble_eq_true rfl) rfl ?_
  intro p e s m args below meth c A C hex
  have hinX1 : ∀ w ∈ wsX10, w ∈ wsX1_side := by decide +kernel
  refine g_aload_n (pc := 0) C dX1_side_0 rfl rfl ?_
  refine g_iload_n (pc := 1) C dX1_side_1 rfl rfl ?_
  refine g_callVV (pc := 2) (As := [.int (iI r)]) (rest := []) C (c_X1_needRoom_ok l K q S hn r (by omega)) (cwV 1 C.hts gX1_side_X1_needRoom rfl rfl rfl (by decide +kernel) ⟨by decide, by decide⟩) 0 rfl rfl dX1_side_2 rfl (Nat.le_of_ble_eq_true rfl) ⟨Nat.zero_le _, Nat.zero_le _⟩ (fun w hp => ?_)
  subst hp
  refine g_aload_n (pc := 5) C dX1_side_5 rfl rfl ?_
  refine g_iload_n (pc := 6) C dX1_side_6 rfl rfl ?_
  exact g_callVX (pc := 7) (As := [.int (iI t)]) (rest := []) C hex (c_X1_needRoom_x l hlt K q S H t (by omega) (by omega)) (cwV 1 C.hts gX1_side_X1_needRoom rfl rfl rfl (by decide +kernel) ⟨by decide, by decide⟩) 0 rfl rfl dX1_side_7 rfl (Nat.le_of_ble_eq_true rfl) ⟨by decide, by decide⟩

set_option maxHeartbeats 400000 in
set_option maxRecDepth 100000 in
theorem c_X1_reach_x1 (l : Launch) (hlt : l.stackTraces = false) (K : KK) (q : Nat → Nat) (S : Nat → Int → Int) (H : HS S) (r t : Int) (hr : -2147483648 ≤ r ∧ r < 2147483648) (ht : -2147483648 ≤ t ∧ t < 2147483648) (hno : ¬ (0 ≤ r ∧ r < S 0 10)) : hMX l yX1_reach wsX1_reach (rmX 8) K [.ref (q 0), .int (iI r), .int (iI t)] (wX K q S) E_I := by
  have hn := H.n
  have hk9 := H.1
  refine in_MX (cc := cX1_reach) (maxL := 5) (rt := (some .int)) (lv := [(0, .ref (q 0)), (1, .int (iI r)), (2, .int (iI t))]) (by decide) rfl (Nat.le_of_ble_eq_true rfl) rfl ?_
  intro p e s m args below meth c A C hex
  have hinX1 : ∀ w ∈ wsX10, w ∈ wsX1_reach := by decide +kernel
  refine g_aload_n (pc := 0) C dX1_reach_0 rfl rfl ?_
  refine g_iload_n (pc := 1) C dX1_reach_1 rfl rfl ?_
  exact g_callVX (pc := 2) (As := [.int (iI r)]) (rest := []) C hex (c_X1_needRoom_x l hlt K q S H r (by omega) (by omega)) (cwV 1 C.hts gX1_reach_X1_needRoom rfl rfl rfl (by decide +kernel) ⟨by decide, by decide⟩) 0 rfl rfl dX1_reach_2 rfl (Nat.le_of_ble_eq_true rfl) ⟨by decide, by decide⟩

set_option maxHeartbeats 400000 in
set_option maxRecDepth 100000 in
theorem c_X1_reach_x2 (l : Launch) (hlt : l.stackTraces = false) (K : KK) (q : Nat → Nat) (S : Nat → Int → Int) (H : HS S) (r t : Int) (hr : -2147483648 ≤ r ∧ r < 2147483648) (ht : -2147483648 ≤ t ∧ t < 2147483648) (hok : 0 ≤ r ∧ r < S 0 10) (hno : ¬ (0 ≤ t ∧ t ≤ 99)) : hMX l yX1_reach wsX1_reach (rmX 8) K [.ref (q 0), .int (iI r), .int (iI t)] (wX K q S) E_A := by
  have hn := H.n
  have hk9 := H.1
  refine in_MX (cc := cX1_reach) (maxL := 5) (rt := (some .int)) (lv := [(0, .ref (q 0)), (1, .int (iI r)), (2, .int (iI t))]) (by decide) rfl (Nat.le_of_ble_eq_true rfl) rfl ?_
  intro p e s m args below meth c A C hex
  have hinX1 : ∀ w ∈ wsX10, w ∈ wsX1_reach := by decide +kernel
  refine g_aload_n (pc := 0) C dX1_reach_0 rfl rfl ?_
  refine g_iload_n (pc := 1) C dX1_reach_1 rfl rfl ?_
  refine g_callVV (pc := 2) (As := [.int (iI r)]) (rest := []) C (c_X1_needRoom_ok l K q S hn r (by omega)) (cwV 1 C.hts gX1_reach_X1_needRoom rfl rfl rfl (by decide +kernel) ⟨by decide, by decide⟩) 0 rfl rfl dX1_reach_2 rfl (Nat.le_of_ble_eq_true rfl) ⟨Nat.zero_le _, Nat.zero_le _⟩ (fun w hp => ?_)
  subst hp
  refine g_iload_n (pc := 5) C dX1_reach_5 rfl rfl ?_
  refine g_iconst (pc := 6) C dX1_reach_6 ?_
  refine g_bipush (pc := 7) C dX1_reach_7 (by decide +kernel) ?_
  exact g_callSX (pc := 9) (As := [.int (iI t), .int (iI 0), .int (iI 99)]) (rest := []) C hex (c_X1_needNumber_x l hlt K _ t 0 99 (by omega) (by omega) (by omega) (by omega)) (cwS 3 C.hts gX1_reach_X1_needNumber rfl rfl rfl (by decide +kernel) ⟨by decide, by decide⟩) dX1_reach_9 rfl (Nat.le_of_ble_eq_true rfl) ⟨by decide, by decide⟩

set_option maxHeartbeats 400000 in
set_option maxRecDepth 100000 in
theorem c_X1_ring_x1 (l : Launch) (hlt : l.stackTraces = false) (K : KK) (q : Nat → Nat) (S : Nat → Int → Int) (H : HS S) (r t : Int) (hr : -2147483648 ≤ r ∧ r < 2147483648) (ht : -2147483648 ≤ t ∧ t < 2147483648) (hno : ¬ (0 ≤ r ∧ r ≤ S 0 9)) : hMX l yX1_ring wsX1_ring (rmX 8) K [.ref (q 0), .int (iI r), .int (iI t)] (wX K q S) E_I := by
  have hn := H.n
  have hk9 := H.1
  refine in_MX (cc := cX1_ring) (maxL := 5) (rt := (some .int)) (lv := [(0, .ref (q 0)), (1, .int (iI r)), (2, .int (iI t))]) (by decide) rfl (Nat.le_of_ble_eq_true rfl) rfl ?_
  intro p e s m args below meth c A C hex
  have hinX1 : ∀ w ∈ wsX10, w ∈ wsX1_ring := by decide +kernel
  refine g_aload_n (pc := 0) C dX1_ring_0 rfl rfl ?_
  refine g_iload_n (pc := 1) C dX1_ring_1 rfl rfl ?_
  exact g_callVX (pc := 2) (As := [.int (iI r)]) (rest := []) C hex (c_X1_needRing_x l hlt K q S H r (by omega) (by omega)) (cwV 1 C.hts gX1_ring_X1_needRing rfl rfl rfl (by decide +kernel) ⟨by decide, by decide⟩) 0 rfl rfl dX1_ring_2 rfl (Nat.le_of_ble_eq_true rfl) ⟨by decide, by decide⟩

set_option maxHeartbeats 400000 in
set_option maxRecDepth 100000 in
theorem c_X1_ring_x2 (l : Launch) (hlt : l.stackTraces = false) (K : KK) (q : Nat → Nat) (S : Nat → Int → Int) (H : HS S) (r t : Int) (hr : -2147483648 ≤ r ∧ r < 2147483648) (ht : -2147483648 ≤ t ∧ t < 2147483648) (hok : 0 ≤ r ∧ r ≤ S 0 9) (hno : ¬ (0 ≤ t ∧ t < 4)) : hMX l yX1_ring wsX1_ring (rmX 8) K [.ref (q 0), .int (iI r), .int (iI t)] (wX K q S) E_I := by
  have hn := H.n
  have hk9 := H.1
  refine in_MX (cc := cX1_ring) (maxL := 5) (rt := (some .int)) (lv := [(0, .ref (q 0)), (1, .int (iI r)), (2, .int (iI t))]) (by decide) rfl (Nat.le_of_ble_eq_true rfl) rfl ?_
  intro p e s m args below meth c A C hex
  have hinX1 : ∀ w ∈ wsX10, w ∈ wsX1_ring := by decide +kernel
  refine g_aload_n (pc := 0) C dX1_ring_0 rfl rfl ?_
  refine g_iload_n (pc := 1) C dX1_ring_1 rfl rfl ?_
  refine g_callVV (pc := 2) (As := [.int (iI r)]) (rest := []) C (c_X1_needRing_ok l K q S hk9 r (by omega)) (cwV 1 C.hts gX1_ring_X1_needRing rfl rfl rfl (by decide +kernel) ⟨by decide, by decide⟩) 0 rfl rfl dX1_ring_2 rfl (Nat.le_of_ble_eq_true rfl) ⟨Nat.zero_le _, Nat.zero_le _⟩ (fun w hp => ?_)
  subst hp
  refine g_iload_n (pc := 5) C dX1_ring_5 rfl rfl ?_
  refine g_iconst (pc := 6) C dX1_ring_6 ?_
  exact g_callSX (pc := 7) (As := [.int (iI t), .int (iI 4)]) (rest := []) C hex (c_X1_needIndex_x l hlt K _ t 4 (by omega) (by omega) (by omega)) (cwS 2 C.hts gX1_ring_X1_needIndex rfl rfl rfl (by decide +kernel) ⟨by decide, by decide⟩) dX1_ring_7 rfl (Nat.le_of_ble_eq_true rfl) ⟨by decide, by decide⟩

set_option maxHeartbeats 400000 in
set_option maxRecDepth 100000 in
theorem c_X1_count_x1 (l : Launch) (hlt : l.stackTraces = false) (K : KK) (q : Nat → Nat) (S : Nat → Int → Int) (H : HS S) (r : Int) (hr : -2147483648 ≤ r ∧ r < 2147483648) (hno : ¬ (0 ≤ r ∧ r < 7)) : hMX l yX1_count wsX1_count (rmX 7) K [.ref (q 0), .int (iI r)] (wX K q S) E_I := by
  have hn := H.n
  have hk9 := H.1
  refine in_MX (cc := cX1_count) (maxL := 2) (rt := (some .int)) (lv := [(0, .ref (q 0)), (1, .int (iI r))]) (by decide) rfl (Nat.le_of_ble_eq_true rfl) rfl ?_
  intro p e s m args below meth c A C hex
  have hinX1 : ∀ w ∈ wsX10, w ∈ wsX1_count := by decide +kernel
  refine g_iload_n (pc := 0) C dX1_count_0 rfl rfl ?_
  refine g_bipush (pc := 1) C dX1_count_1 (by decide +kernel) ?_
  exact g_callSX (pc := 3) (As := [.int (iI r), .int (iI 7)]) (rest := []) C hex (c_X1_needIndex_x l hlt K _ r 7 (by omega) (by omega) (by omega)) (cwS 2 C.hts gX1_count_X1_needIndex rfl rfl rfl (by decide +kernel) ⟨by decide, by decide⟩) dX1_count_3 rfl (Nat.le_of_ble_eq_true rfl) ⟨by decide, by decide⟩

set_option maxHeartbeats 400000 in
set_option maxRecDepth 100000 in
theorem c_X1_would_x1 (l : Launch) (hlt : l.stackTraces = false) (K : KK) (q : Nat → Nat) (S : Nat → Int → Int) (H : HS S) (r t : Int) (hr : -2147483648 ≤ r ∧ r < 2147483648) (ht : -2147483648 ≤ t ∧ t < 2147483648) (hno : ¬ (0 ≤ r ∧ r ≤ S 0 9)) : hMX l yX1_would wsX1_would (rmX 8) K [.ref (q 0), .int (iI r), .int (iI t)] (wX K q S) E_I := by
  have hn := H.n
  have hk9 := H.1
  refine in_MX (cc := cX1_would) (maxL := 3) (rt := (some .int)) (lv := [(0, .ref (q 0)), (1, .int (iI r)), (2, .int (iI t))]) (by decide) rfl (Nat.le_of_ble_eq_true rfl) rfl ?_
  intro p e s m args below meth c A C hex
  refine g_aload_n (pc := 0) C dX1_would_0 rfl rfl ?_
  refine g_iload_n (pc := 1) C dX1_would_1 rfl rfl ?_
  exact g_callVX (pc := 2) (As := [.int (iI r)]) (rest := []) C hex (c_X1_needRing_x l hlt K q S H r (by omega) (by omega)) (cwV 1 C.hts gX1_would_X1_needRing rfl rfl rfl (by decide +kernel) ⟨by decide, by decide⟩) 0 rfl rfl dX1_would_2 rfl (Nat.le_of_ble_eq_true rfl) ⟨by decide, by decide⟩

set_option maxHeartbeats 400000 in
set_option maxRecDepth 100000 in
theorem c_X1_would_x2 (l : Launch) (hlt : l.stackTraces = false) (K : KK) (q : Nat → Nat) (S : Nat → Int → Int) (H : HS S) (r t : Int) (hr : -2147483648 ≤ r ∧ r < 2147483648) (ht : -2147483648 ≤ t ∧ t < 2147483648) (hok : 0 ≤ r ∧ r ≤ S 0 9) (hno : ¬ (0 ≤ t ∧ t < SZ r)) : hMX l yX1_would wsX1_would (rmX 8) K [.ref (q 0), .int (iI r), .int (iI t)] (wX K q S) E_A := by
  have hn := H.n
  have hk9 := H.1
  have hfz := FR_SZ (k := r) (by omega)
  refine in_MX (cc := cX1_would) (maxL := 3) (rt := (some .int)) (lv := [(0, .ref (q 0)), (1, .int (iI r)), (2, .int (iI t))]) (by decide) rfl (Nat.le_of_ble_eq_true rfl) rfl ?_
  intro p e s m args below meth c A C hex
  refine g_aload_n (pc := 0) C dX1_would_0 rfl rfl ?_
  refine g_iload_n (pc := 1) C dX1_would_1 rfl rfl ?_
  refine g_callVV (pc := 2) (As := [.int (iI r)]) (rest := []) C (c_X1_needRing_ok l K q S hk9 r (by omega)) (cwV 1 C.hts gX1_would_X1_needRing rfl rfl rfl (by decide +kernel) ⟨by decide, by decide⟩) 0 rfl rfl dX1_would_2 rfl (Nat.le_of_ble_eq_true rfl) ⟨Nat.zero_le _, Nat.zero_le _⟩ (fun w hp => ?_)
  subst hp
  refine g_iload_n (pc := 5) C dX1_would_5 rfl rfl ?_
  refine g_iconst (pc := 6) C dX1_would_6 ?_
  refine g_iload_n (pc := 7) C dX1_would_7 rfl rfl ?_
  refine g_callSI (pc := 8) (As := [.int (iI r)]) (rest := [.int (iI 0), .int (iI t)]) C (c_X0_sizeOf l K _ r (by omega)) (va_cwS 1 C.hts gX1_would_X0_sizeOf rfl rfl rfl (by decide +kernel) ⟨by decide, by decide⟩) dX1_would_8 rfl (Nat.le_of_ble_eq_true rfl) ⟨Nat.zero_le _, Nat.zero_le _⟩ (fun z w hp => ?_)
  obtain ⟨rfl, rfl⟩ := hp
  refine g_iconst (pc := 11) C dX1_would_11 ?_
  refine g_isub (pc := 12) C dX1_would_12 ?_
  exact g_callSX (pc := 13) (As := [.int (iI t), .int (iI 0), .int (iI ((SZ r) - 1))]) (rest := []) C hex (c_X1_needNumber_x l hlt K _ t 0 ((SZ r) - 1) (by omega) (by omega) (by omega) (by omega)) (cwS 3 C.hts gX1_would_X1_needNumber rfl rfl rfl (by decide +kernel) ⟨by decide, by decide⟩) dX1_would_13 rfl (Nat.le_of_ble_eq_true rfl) ⟨by decide, by decide⟩

set_option maxHeartbeats 400000 in
set_option maxRecDepth 100000 in
theorem c_X1_advise_x1 (l : Launch) (hlt : l.stackTraces = false) (K : KK) (q : Nat → Nat) (S : Nat → Int → Int) (H : HS S) (r : Int) (hr : -2147483648 ≤ r ∧ r < 2147483648) (hno : ¬ (0 ≤ r ∧ r ≤ S 0 9)) : hMX l yX1_advise wsX1_advise (rmX 8) K [.ref (q 0), .int (iI r)] (wX K q S) E_I := by
  have hn := H.n
  have hk9 := H.1
  refine in_MX (cc := cX1_advise) (maxL := 6) (rt := (some .int)) (lv := [(0, .ref (q 0)), (1, .int (iI r))]) (by decide) rfl (Nat.le_of_ble_eq_true rfl) rfl ?_
  intro p e s m args below meth c A C hex
  refine g_aload_n (pc := 0) C dX1_advise_0 rfl rfl ?_
  refine g_iload_n (pc := 1) C dX1_advise_1 rfl rfl ?_
  exact g_callVX (pc := 2) (As := [.int (iI r)]) (rest := []) C hex (c_X1_needRing_x l hlt K q S H r (by omega) (by omega)) (cwV 1 C.hts gX1_advise_X1_needRing rfl rfl rfl (by decide +kernel) ⟨by decide, by decide⟩) 0 rfl rfl dX1_advise_2 rfl (Nat.le_of_ble_eq_true rfl) ⟨by decide, by decide⟩
