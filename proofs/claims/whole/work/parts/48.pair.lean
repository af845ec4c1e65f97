theorem fU_cg {f g : Int → Int} {n : Int} (ef : ∀ j, 0 ≤ j → j < n → f j = g j) (r v : Int) : ∀ j, 0 ≤ j → j < n → fU f r v j = fU g r v j := by
  intro j h0 h1
  unfold fU
  rw [ef j h0 h1]
set_option maxHeartbeats 400000 in
theorem pair_setRings {K : KK} {qm : Nat → Nat} {S T : Nat → Int → Int} (L : LI S T) {k : Int} {z bb : Int} {g2 : Nat → Int64} {S2 : Nat → Int → Int} {w : va_W} (hp : ((1 ≤ k ∧ k ≤ 5) ∧ z = 0 ∧ ∃ a : Int, g2 0 = (iI a).toInt64 ∧ (a = FR (k + 1)) ∧ (S2 0 9 = k ∧ S2 0 10 = FR (k + 1) ∧ (∀ j, 0 ≤ j → j < 91 → S2 7 j = 0) ∧ (∀ j, 0 ≤ j → j < 546 → S2 8 j = 0) ∧ LK S2)) ∨ ((¬ (1 ≤ k ∧ k ≤ 5)) ∧ z = 1 ∧ S2 = S)) (mp : ((1 ≤ k ∧ k ≤ 5) ∧ bb = FR (k + 1) ∧ ∃ T2, w = wM K qm T2 ∧ BMI k 0 T2 (FR (k + 1))) ∨ (¬ (1 ≤ k ∧ k ≤ 5) ∧ bb = 0 ∧ ∃ T2, w = wM K qm T2 ∧ UM T T2 (T 4) (T 6) 1)) : ∃ T2 : Nat → Int → Int, w = wM K qm T2 ∧ LI S2 T2 ∧ T2 0 0 = z ∧ (0 ≤ z ∧ z ≤ 2) ∧ (z = 0 → g2 0 = (iI bb).toInt64) := by
  have hk1 := L.2.2.2.1
  have hn1 := L.2.2.2.2.1
  have hn := L.1.n
  have hk9 := L.1.1
  have hh := L.1.hh
  try rw [hn1] at mp
  try rw [hk1] at mp
  rcases hp with ⟨hc, hz, a, ha, hr, hU⟩ | ⟨hc, hz, hU⟩
  · rcases mp with ⟨mc, mz, T2, rfl, V⟩ | ⟨mc, mz, T2, rfl, V⟩
    · have R := LI_set hc hU.1 hU.2.1 hU.2.2.1 hU.2.2.2.1 hU.2.2.2.2 V
      have hab : a = bb := hr.trans mz.symm
      exact ⟨T2, rfl, R.1, R.2.trans hz.symm, by omega, fun _ => by rw [ha, hab]⟩
    · first
      | exact absurd hc (by omega)
      | exact ⟨T2, rfl, (LI_bad L hU V).1, (LI_bad L hU V).2.trans hz.symm, by omega, fun h0 => absurd h0 (by omega)⟩
  · rcases mp with ⟨mc, mz, T2, rfl, V⟩ | ⟨mc, mz, T2, rfl, V⟩
    · first
      | exact absurd hc (by omega)
      | exact ⟨T2, rfl, (LI_bad L hU V).1, (LI_bad L hU V).2.trans hz.symm, by omega, fun h0 => absurd h0 (by omega)⟩
    · first
      | exact absurd hc (by omega)
      | exact ⟨T2, rfl, (LI_bad L hU V).1, (LI_bad L hU V).2.trans hz.symm, by omega, fun h0 => absurd h0 (by omega)⟩
set_option maxHeartbeats 400000 in
theorem pair_put {K : KK} {qm : Nat → Nat} {S T : Nat → Int → Int} (L : LI S T) {r v : Int} {z bb : Int} {g2 : Nat → Int64} {S2 : Nat → Int → Int} {w : va_W} (hp : (((0 ≤ r ∧ r < S 0 10) ∧ (0 ≤ v ∧ v < 3)) ∧ z = 0 ∧ ∃ a : Int, g2 0 = (iI a).toInt64 ∧ (a = S 7 r) ∧ (UP S S2 (fU (S 7) r v) (S 8))) ∨ ((¬ (0 ≤ r ∧ r < S 0 10)) ∧ z = 1 ∧ S2 = S) ∨ (((0 ≤ r ∧ r < S 0 10) ∧ ¬ (0 ≤ v ∧ v < 3)) ∧ z = 1 ∧ S2 = S)) (mp : (((0 ≤ r ∧ r < T 0 2) ∧ (0 ≤ v ∧ v ≤ 2)) ∧ (bb = T 4 r) ∧ ∃ T2, w = wM K qm T2 ∧ UM T T2 (fU (T 4) r v) (T 6) 0) ∨ ((¬ ((0 ≤ r ∧ r < T 0 2) ∧ (0 ≤ v ∧ v ≤ 2))) ∧ (bb = 0) ∧ ∃ T2, w = wM K qm T2 ∧ UM T T2 (T 4) (T 6) 1)) : ∃ T2 : Nat → Int → Int, w = wM K qm T2 ∧ LI S2 T2 ∧ T2 0 0 = z ∧ (0 ≤ z ∧ z ≤ 2) ∧ (z = 0 → g2 0 = (iI bb).toInt64) := by
  have hk1 := L.2.2.2.1
  have hn1 := L.2.2.2.2.1
  have hn := L.1.n
  have hk9 := L.1.1
  have hh := L.1.hh
  try rw [hn1] at mp
  try rw [hk1] at mp
  rcases hp with ⟨hc, hz, a, ha, hr, hU⟩ | ⟨hc, hz, hU⟩ | ⟨hc, hz, hU⟩
  · rcases mp with ⟨mc, mz, T2, rfl, V⟩ | ⟨mc, mz, T2, rfl, V⟩
    · have R := LI_up L hU V (fU_cg L.ef r v) L.2.2.2.2.2.2.1 (fU_b L.1.2.2.1 (by omega)) L.1.2.2.2 L.2.2.2.2.2.2.2
      have hab : a = bb := hr.trans ((L.ef r (by omega) (by omega)).symm.trans mz.symm)
      exact ⟨T2, rfl, R.1, R.2.trans hz.symm, by omega, fun _ => by rw [ha, hab]⟩
    · first
      | exact absurd hc (by omega)
      | exact ⟨T2, rfl, (LI_bad L hU V).1, (LI_bad L hU V).2.trans hz.symm, by omega, fun h0 => absurd h0 (by omega)⟩
  · rcases mp with ⟨mc, mz, T2, rfl, V⟩ | ⟨mc, mz, T2, rfl, V⟩
    · first
      | exact absurd hc (by omega)
      | exact ⟨T2, rfl, (LI_bad L hU V).1, (LI_bad L hU V).2.trans hz.symm, by omega, fun h0 => absurd h0 (by omega)⟩
    · first
      | exact absurd hc (by omega)
      | exact ⟨T2, rfl, (LI_bad L hU V).1, (LI_bad L hU V).2.trans hz.symm, by omega, fun h0 => absurd h0 (by omega)⟩
  · rcases mp with ⟨mc, mz, T2, rfl, V⟩ | ⟨mc, mz, T2, rfl, V⟩
    · first
      | exact absurd hc (by omega)
      | exact ⟨T2, rfl, (LI_bad L hU V).1, (LI_bad L hU V).2.trans hz.symm, by omega, fun h0 => absurd h0 (by omega)⟩
    · first
      | exact absurd hc (by omega)
      | exact ⟨T2, rfl, (LI_bad L hU V).1, (LI_bad L hU V).2.trans hz.symm, by omega, fun h0 => absurd h0 (by omega)⟩
set_option maxHeartbeats 400000 in
theorem pair_shut {K : KK} {qm : Nat → Nat} {S T : Nat → Int → Int} (L : LI S T) {r t b : Int} (hb2 : b = 0 ∨ b = 1) {z bb : Int} {g2 : Nat → Int64} {S2 : Nat → Int → Int} {w : va_W} (hp : (((0 ≤ r ∧ r < S 0 10) ∧ (0 ≤ t ∧ t < 6) ∧ ¬ NX (S 0 10) r t = -1) ∧ z = 0 ∧ ∃ a : Int, g2 0 = (if a = 0 then 0 else 1) ∧ (a = S 8 (r * 6 + t)) ∧ (UP S S2 (S 7) (fU (fU (S 8) (r * 6 + t) b) (NX (S 0 10) r t * 6 + (t + 3) % 6) b))) ∨ ((¬ (0 ≤ r ∧ r < S 0 10)) ∧ z = 1 ∧ S2 = S) ∨ (((0 ≤ r ∧ r < S 0 10) ∧ ¬ (0 ≤ t ∧ t < 6)) ∧ z = 1 ∧ S2 = S) ∨ (((0 ≤ r ∧ r < S 0 10) ∧ (0 ≤ t ∧ t < 6) ∧ NX (S 0 10) r t = -1) ∧ z = 2 ∧ S2 = S)) (mp : (((0 ≤ r ∧ r < T 0 2) ∧ (0 ≤ t ∧ t < 6) ∧ ¬ NX (T 0 2) r t = -1) ∧ (bb = T 6 (6 * r + t)) ∧ ∃ T2, w = wM K qm T2 ∧ UM T T2 (T 4) (fU (fU (T 6) (6 * r + t) b) (6 * NX (T 0 2) r t + (t + 3) % 6) b) 0) ∨ ((¬ ((0 ≤ r ∧ r < T 0 2) ∧ (0 ≤ t ∧ t < 6))) ∧ (bb = 0) ∧ ∃ T2, w = wM K qm T2 ∧ UM T T2 (T 4) (T 6) 1) ∨ ((((0 ≤ r ∧ r < T 0 2) ∧ (0 ≤ t ∧ t < 6)) ∧ NX (T 0 2) r t = -1) ∧ (bb = 0) ∧ ∃ T2, w = wM K qm T2 ∧ UM T T2 (T 4) (T 6) 2)) : ∃ T2 : Nat → Int → Int, w = wM K qm T2 ∧ LI S2 T2 ∧ T2 0 0 = z ∧ (0 ≤ z ∧ z ≤ 2) ∧ (z = 0 → g2 0 = (if bb = 0 then 0 else 1)) ∧ (0 ≤ bb ∧ bb ≤ 1) := by
  have hk1 := L.2.2.2.1
  have hn1 := L.2.2.2.2.1
  have hn := L.1.n
  have hk9 := L.1.1
  have hh := L.1.hh
  try rw [hn1] at mp
  try rw [hk1] at mp
  rcases hp with ⟨hc, hz, a, ha, hr, hU⟩ | ⟨hc, hz, hU⟩ | ⟨hc, hz, hU⟩ | ⟨hc, hz, hU⟩
  · rcases mp with ⟨mc, mz, T2, rfl, V⟩ | ⟨mc, mz, T2, rfl, V⟩ | ⟨mc, mz, T2, rfl, V⟩
    · have R := LI_up L hU V L.ef (fun j h0 h1 => by rw [show 6 * r + t = r * 6 + t by omega, show 6 * NX (S 0 10) r t + (t + 3) % 6 = NX (S 0 10) r t * 6 + (t + 3) % 6 by omega, fU2, fU2, L.2.2.2.2.2.2.1 j h0 h1]) L.1.2.2.1 (fU_b (fU_b L.1.2.2.2 (by omega)) (by omega)) (SYM_shut (by omega) L.2.2.2.2.2.2.2 (by omega) (by omega) (by omega))
      have hab : a = bb := by rw [hr, mz, show 6 * r + t = r * 6 + t by omega]; exact (L.2.2.2.2.2.2.1 _ (by omega) (by omega)).symm
      exact ⟨T2, rfl, R.1, R.2.trans hz.symm, by omega, fun _ => by rw [ha, hab], (by have h8 := hh (r * 6 + t) (by omega) (by omega); omega)⟩
    · first
      | exact absurd hc (by omega)
      | exact ⟨T2, rfl, (LI_bad L hU V).1, (LI_bad L hU V).2.trans hz.symm, by omega, fun h0 => absurd h0 (by omega), by omega⟩
    · first
      | exact absurd hc (by omega)
      | exact ⟨T2, rfl, (LI_bad L hU V).1, (LI_bad L hU V).2.trans hz.symm, by omega, fun h0 => absurd h0 (by omega), by omega⟩
  · rcases mp with ⟨mc, mz, T2, rfl, V⟩ | ⟨mc, mz, T2, rfl, V⟩ | ⟨mc, mz, T2, rfl, V⟩
    · first
      | exact absurd hc (by omega)
      | exact ⟨T2, rfl, (LI_bad L hU V).1, (LI_bad L hU V).2.trans hz.symm, by omega, fun h0 => absurd h0 (by omega), by omega⟩
    · first
      | exact absurd hc (by omega)
      | exact ⟨T2, rfl, (LI_bad L hU V).1, (LI_bad L hU V).2.trans hz.symm, by omega, fun h0 => absurd h0 (by omega), by omega⟩
    · first
      | exact absurd hc (by omega)
      | exact ⟨T2, rfl, (LI_bad L hU V).1, (LI_bad L hU V).2.trans hz.symm, by omega, fun h0 => absurd h0 (by omega), by omega⟩
  · rcases mp with ⟨mc, mz, T2, rfl, V⟩ | ⟨mc, mz, T2, rfl, V⟩ | ⟨mc, mz, T2, rfl, V⟩
    · first
      | exact absurd hc (by omega)
      | exact ⟨T2, rfl, (LI_bad L hU V).1, (LI_bad L hU V).2.trans hz.symm, by omega, fun h0 => absurd h0 (by omega), by omega⟩
    · first
      | exact absurd hc (by omega)
      | exact ⟨T2, rfl, (LI_bad L hU V).1, (LI_bad L hU V).2.trans hz.symm, by omega, fun h0 => absurd h0 (by omega), by omega⟩
    · first
      | exact absurd hc (by omega)
      | exact ⟨T2, rfl, (LI_bad L hU V).1, (LI_bad L hU V).2.trans hz.symm, by omega, fun h0 => absurd h0 (by omega), by omega⟩
  · rcases mp with ⟨mc, mz, T2, rfl, V⟩ | ⟨mc, mz, T2, rfl, V⟩ | ⟨mc, mz, T2, rfl, V⟩
    · first
      | exact absurd hc (by omega)
      | exact ⟨T2, rfl, (LI_bad L hU V).1, (LI_bad L hU V).2.trans hz.symm, by omega, fun h0 => absurd h0 (by omega), by omega⟩
    · first
      | exact absurd hc (by omega)
      | exact ⟨T2, rfl, (LI_bad L hU V).1, (LI_bad L hU V).2.trans hz.symm, by omega, fun h0 => absurd h0 (by omega), by omega⟩
    · first
      | exact absurd hc (by omega)
      | exact ⟨T2, rfl, (LI_bad L hU V).1, (LI_bad L hU V).2.trans hz.symm, by omega, fun h0 => absurd h0 (by omega), by omega⟩
set_option maxHeartbeats 400000 in
theorem pair_turn {K : KK} {qm : Nat → Nat} {S T : Nat → Int → Int} (L : LI S T) {k b : Int} {z bb : Int} {g2 : Nat → Int64} {S2 : Nat → Int → Int} {w : va_W} (hp : (((0 ≤ k ∧ k ≤ S 0 9) ∧ (0 ≤ b ∧ b ≤ 29)) ∧ z = 0 ∧ ∃ a : Int, g2 0 = (iI a).toInt64 ∧ (a = LIT (S 0 10) (rot k b (S 7) (S 7)) (S 8)) ∧ (UP S S2 (rot k b (S 7) (S 7)) (S 8))) ∨ ((¬ (0 ≤ k ∧ k ≤ S 0 9)) ∧ z = 1 ∧ S2 = S) ∨ (((0 ≤ k ∧ k ≤ S 0 9) ∧ ¬ (0 ≤ b ∧ b ≤ 29)) ∧ z = 2 ∧ S2 = S)) (mp : (((0 ≤ k ∧ k ≤ T 0 1) ∧ (0 ≤ b ∧ b ≤ 29)) ∧ (bb = LIT (T 0 2) (rot k b (T 4) (T 4)) (T 6)) ∧ ∃ T2, w = wM K qm T2 ∧ UM T T2 (rot k b (T 4) (T 4)) (T 6) 0) ∨ ((¬ (0 ≤ k ∧ k ≤ T 0 1)) ∧ (bb = 0) ∧ ∃ T2, w = wM K qm T2 ∧ UM T T2 (T 4) (T 6) 1) ∨ (((0 ≤ k ∧ k ≤ T 0 1) ∧ ¬ (0 ≤ b ∧ b ≤ 29)) ∧ (bb = 0) ∧ ∃ T2, w = wM K qm T2 ∧ UM T T2 (T 4) (T 6) 2)) : ∃ T2 : Nat → Int → Int, w = wM K qm T2 ∧ LI S2 T2 ∧ T2 0 0 = z ∧ (0 ≤ z ∧ z ≤ 2) ∧ (z = 0 → g2 0 = (iI bb).toInt64) := by
  have hk1 := L.2.2.2.1
  have hn1 := L.2.2.2.2.1
  have hn := L.1.n
  have hk9 := L.1.1
  have hh := L.1.hh
  try rw [hn1] at mp
  try rw [hk1] at mp
  rcases hp with ⟨hc, hz, a, ha, hr, hU⟩ | ⟨hc, hz, hU⟩ | ⟨hc, hz, hU⟩
  · rcases mp with ⟨mc, mz, T2, rfl, V⟩ | ⟨mc, mz, T2, rfl, V⟩ | ⟨mc, mz, T2, rfl, V⟩
    · have hfr0 := FR_m (k := k) (m := S 0 9) (by omega) (by omega)
      have hfe := L.1.2.1
      have hfr : FR k + SZ k ≤ 91 := by rw [← hfe] at hfr0; omega
      have R := LI_up L hU V (rot_cg L.ef L.eh (K := S 0 9) (by omega) (by omega) L.1.2.1) L.2.2.2.2.2.2.1 (rot_in (by omega) (n := 91) hfr L.1.2.2.1 L.1.2.2.1) L.1.2.2.2 L.2.2.2.2.2.2.2
      have hab : a = bb := by rw [hr, mz]; exact (LIT_cong (rot_cg L.ef L.eh (K := S 0 9) (by omega) (by omega) L.1.2.1) L.eh).symm
      exact ⟨T2, rfl, R.1, R.2.trans hz.symm, by omega, fun _ => by rw [ha, hab]⟩
    · first
      | exact absurd hc (by omega)
      | exact ⟨T2, rfl, (LI_bad L hU V).1, (LI_bad L hU V).2.trans hz.symm, by omega, fun h0 => absurd h0 (by omega)⟩
    · first
      | exact absurd hc (by omega)
      | exact ⟨T2, rfl, (LI_bad L hU V).1, (LI_bad L hU V).2.trans hz.symm, by omega, fun h0 => absurd h0 (by omega)⟩
  · rcases mp with ⟨mc, mz, T2, rfl, V⟩ | ⟨mc, mz, T2, rfl, V⟩ | ⟨mc, mz, T2, rfl, V⟩
    · first
      | exact absurd hc (by omega)
      | exact ⟨T2, rfl, (LI_bad L hU V).1, (LI_bad L hU V).2.trans hz.symm, by omega, fun h0 => absurd h0 (by omega)⟩
    · first
      | exact absurd hc (by omega)
      | exact ⟨T2, rfl, (LI_bad L hU V).1, (LI_bad L hU V).2.trans hz.symm, by omega, fun h0 => absurd h0 (by omega)⟩
    · first
      | exact absurd hc (by omega)
      | exact ⟨T2, rfl, (LI_bad L hU V).1, (LI_bad L hU V).2.trans hz.symm, by omega, fun h0 => absurd h0 (by omega)⟩
  · rcases mp with ⟨mc, mz, T2, rfl, V⟩ | ⟨mc, mz, T2, rfl, V⟩ | ⟨mc, mz, T2, rfl, V⟩
    · first
      | exact absurd hc (by omega)
      | exact ⟨T2, rfl, (LI_bad L hU V).1, (LI_bad L hU V).2.trans hz.symm, by omega, fun h0 => absurd h0 (by omega)⟩
    · first
      | exact absurd hc (by omega)
      | exact ⟨T2, rfl, (LI_bad L hU V).1, (LI_bad L hU V).2.trans hz.symm, by omega, fun h0 => absurd h0 (by omega)⟩
    · first
      | exact absurd hc (by omega)
      | exact ⟨T2, rfl, (LI_bad L hU V).1, (LI_bad L hU V).2.trans hz.symm, by omega, fun h0 => absurd h0 (by omega)⟩
set_option maxHeartbeats 400000 in
theorem pair_turnAll {K : KK} {qm : Nat → Nat} {S T : Nat → Int → Int} (L : LI S T) {b : Int} {z bb : Int} {g2 : Nat → Int64} {S2 : Nat → Int → Int} {w : va_W} (hp : ((0 ≤ b ∧ b ≤ 5) ∧ z = 0 ∧ ∃ a : Int, g2 0 = (iI a).toInt64 ∧ (∃ F : Int → Int, a = LIT (S 0 10) F (S 8) ∧ (∀ j, 0 ≤ j → j < S 0 10 → F j = AT (S 7) b j) ∧ (∀ j, S 0 10 ≤ j → F j = S 7 j) ∧ UP S S2 F (S 8)) ∧ (True)) ∨ ((¬ (0 ≤ b ∧ b ≤ 5)) ∧ z = 1 ∧ S2 = S)) (mp : ((0 ≤ b ∧ b ≤ 5) ∧ ∃ F : Int → Int, bb = LIT (T 0 2) F (T 6) ∧ (∀ j, 0 ≤ j → j < T 0 2 → F j = AT (T 4) b j) ∧ ∃ T2, w = wM K qm T2 ∧ UM T T2 F (T 6) 0) ∨ (¬ (0 ≤ b ∧ b ≤ 5) ∧ bb = 0 ∧ ∃ T2, w = wM K qm T2 ∧ UM T T2 (T 4) (T 6) 1)) : ∃ T2 : Nat → Int → Int, w = wM K qm T2 ∧ LI S2 T2 ∧ T2 0 0 = z ∧ (0 ≤ z ∧ z ≤ 2) ∧ (z = 0 → g2 0 = (iI bb).toInt64) := by
  have hk1 := L.2.2.2.1
  have hn1 := L.2.2.2.2.1
  have hn := L.1.n
  have hk9 := L.1.1
  have hh := L.1.hh
  try rw [hn1] at mp
  try rw [hk1] at mp
  rcases hp with ⟨hc, hz, a, ha, hr, hU⟩ | ⟨hc, hz, hU⟩
  · rcases mp with ⟨mc, F2, mz, hF2, T2, rfl, V⟩ | ⟨mc, mz, T2, rfl, V⟩
    · obtain ⟨F, hr, hF, hFo, hU0⟩ := hr
      have hFF : ∀ j, 0 ≤ j → j < S 0 10 → F2 j = F j := fun j h0 h1 => by rw [hF2 j h0 h1, hF j h0 h1]; exact AT_cg L.ef L.eh L.1.1 L.1.2.1 j h0 h1
      have hFb := AT_in hn (f := S 7) (b := b) L.1.2.2.1 hF
      have R := LI_up L hU0 V hFF L.2.2.2.2.2.2.1 (fun j h0 h1 => by
        by_cases c : j < S 0 10
        · exact hFb j h0 c
        · rw [hFo j (by omega)]; exact L.1.2.2.1 j h0 h1) L.1.2.2.2 L.2.2.2.2.2.2.2
      have hab : a = bb := by rw [hr, mz]; exact (LIT_cong hFF L.eh).symm
      exact ⟨T2, rfl, R.1, R.2.trans hz.symm, by omega, fun _ => by rw [ha, hab]⟩
    · first
      | exact absurd hc (by omega)
      | exact ⟨T2, rfl, (LI_bad L hU V).1, (LI_bad L hU V).2.trans hz.symm, by omega, fun h0 => absurd h0 (by omega)⟩
  · rcases mp with ⟨mc, F2, mz, hF2, T2, rfl, V⟩ | ⟨mc, mz, T2, rfl, V⟩
    · first
      | exact absurd hc (by omega)
      | exact ⟨T2, rfl, (LI_bad L hU V).1, (LI_bad L hU V).2.trans hz.symm, by omega, fun h0 => absurd h0 (by omega)⟩
    · first
      | exact absurd hc (by omega)
      | exact ⟨T2, rfl, (LI_bad L hU V).1, (LI_bad L hU V).2.trans hz.symm, by omega, fun h0 => absurd h0 (by omega)⟩
set_option maxHeartbeats 400000 in
theorem pair_about {K : KK} {qm : Nat → Nat} {S T : Nat → Int → Int} (L : LI S T) {r v : Int} {z bb : Int} {g2 : Nat → Int64} {S2 : Nat → Int → Int} {w : va_W} (hp : (((0 ≤ r ∧ r < S 0 10) ∧ (0 ≤ v ∧ v < 6)) ∧ z = 0 ∧ ∃ a : Int, g2 0 = (iI a).toInt64 ∧ (a = ABT (S 0 10) (S 7) (S 8) r v) ∧ (UP S S2 (S 7) (S 8))) ∨ ((¬ (0 ≤ r ∧ r < S 0 10)) ∧ z = 1 ∧ S2 = S) ∨ (((0 ≤ r ∧ r < S 0 10) ∧ ¬ (0 ≤ v ∧ v < 6)) ∧ z = 1 ∧ S2 = S)) (mp : (((0 ≤ r ∧ r < T 0 2) ∧ (0 ≤ v ∧ v ≤ 5)) ∧ (bb = ABT (T 0 2) (T 4) (T 6) r v) ∧ ∃ T2, w = wM K qm T2 ∧ UM T T2 (T 4) (T 6) 0) ∨ ((¬ ((0 ≤ r ∧ r < T 0 2) ∧ (0 ≤ v ∧ v ≤ 5))) ∧ (bb = 0) ∧ ∃ T2, w = wM K qm T2 ∧ UM T T2 (T 4) (T 6) 1)) : ∃ T2 : Nat → Int → Int, w = wM K qm T2 ∧ LI S2 T2 ∧ T2 0 0 = z ∧ (0 ≤ z ∧ z ≤ 2) ∧ (z = 0 → g2 0 = (iI bb).toInt64) := by
  have hk1 := L.2.2.2.1
  have hn1 := L.2.2.2.2.1
  have hn := L.1.n
  have hk9 := L.1.1
  have hh := L.1.hh
  try rw [hn1] at mp
  try rw [hk1] at mp
  rcases hp with ⟨hc, hz, a, ha, hr, hU⟩ | ⟨hc, hz, hU⟩ | ⟨hc, hz, hU⟩
  · rcases mp with ⟨mc, mz, T2, rfl, V⟩ | ⟨mc, mz, T2, rfl, V⟩
    · have R := LI_same L hU V
      have hab : a = bb := by rw [hr, mz]; exact (ABT_cg L.ef L.eh (by omega) v).symm
      exact ⟨T2, rfl, R.1, R.2.trans hz.symm, by omega, fun _ => by rw [ha, hab]⟩
    · first
      | exact absurd hc (by omega)
      | exact ⟨T2, rfl, (LI_bad L hU V).1, (LI_bad L hU V).2.trans hz.symm, by omega, fun h0 => absurd h0 (by omega)⟩
  · rcases mp with ⟨mc, mz, T2, rfl, V⟩ | ⟨mc, mz, T2, rfl, V⟩
    · first
      | exact absurd hc (by omega)
      | exact ⟨T2, rfl, (LI_bad L hU V).1, (LI_bad L hU V).2.trans hz.symm, by omega, fun h0 => absurd h0 (by omega)⟩
    · first
      | exact absurd hc (by omega)
      | exact ⟨T2, rfl, (LI_bad L hU V).1, (LI_bad L hU V).2.trans hz.symm, by omega, fun h0 => absurd h0 (by omega)⟩
  · rcases mp with ⟨mc, mz, T2, rfl, V⟩ | ⟨mc, mz, T2, rfl, V⟩
    · first
      | exact absurd hc (by omega)
      | exact ⟨T2, rfl, (LI_bad L hU V).1, (LI_bad L hU V).2.trans hz.symm, by omega, fun h0 => absurd h0 (by omega)⟩
    · first
      | exact absurd hc (by omega)
      | exact ⟨T2, rfl, (LI_bad L hU V).1, (LI_bad L hU V).2.trans hz.symm, by omega, fun h0 => absurd h0 (by omega)⟩
set_option maxHeartbeats 400000 in
theorem pair_beside {K : KK} {qm : Nat → Nat} {S T : Nat → Int → Int} (L : LI S T) {r t : Int} {z bb : Int} {g2 : Nat → Int64} {S2 : Nat → Int → Int} {w : va_W} (hp : (((0 ≤ r ∧ r < S 0 10) ∧ (0 ≤ t ∧ t < 6)) ∧ z = 0 ∧ ∃ a : Int, g2 0 = (iI a).toInt64 ∧ (a = NX (S 0 10) r t) ∧ (UP S S2 (S 7) (S 8))) ∨ ((¬ (0 ≤ r ∧ r < S 0 10)) ∧ z = 1 ∧ S2 = S) ∨ (((0 ≤ r ∧ r < S 0 10) ∧ ¬ (0 ≤ t ∧ t < 6)) ∧ z = 1 ∧ S2 = S)) (mp : (((0 ≤ r ∧ r < T 0 2) ∧ (0 ≤ t ∧ t < 6)) ∧ (bb = NX (T 0 2) r t) ∧ ∃ T2, w = wM K qm T2 ∧ UM T T2 (T 4) (T 6) 0) ∨ ((¬ ((0 ≤ r ∧ r < T 0 2) ∧ (0 ≤ t ∧ t < 6))) ∧ (bb = 0) ∧ ∃ T2, w = wM K qm T2 ∧ UM T T2 (T 4) (T 6) 1)) : ∃ T2 : Nat → Int → Int, w = wM K qm T2 ∧ LI S2 T2 ∧ T2 0 0 = z ∧ (0 ≤ z ∧ z ≤ 2) ∧ (z = 0 → g2 0 = (iI bb).toInt64) := by
  have hk1 := L.2.2.2.1
  have hn1 := L.2.2.2.2.1
  have hn := L.1.n
  have hk9 := L.1.1
  have hh := L.1.hh
  try rw [hn1] at mp
  try rw [hk1] at mp
  rcases hp with ⟨hc, hz, a, ha, hr, hU⟩ | ⟨hc, hz, hU⟩ | ⟨hc, hz, hU⟩
  · rcases mp with ⟨mc, mz, T2, rfl, V⟩ | ⟨mc, mz, T2, rfl, V⟩
    · have R := LI_same L hU V
      have hab : a = bb := hr.trans mz.symm
      exact ⟨T2, rfl, R.1, R.2.trans hz.symm, by omega, fun _ => by rw [ha, hab]⟩
    · first
      | exact absurd hc (by omega)
      | exact ⟨T2, rfl, (LI_bad L hU V).1, (LI_bad L hU V).2.trans hz.symm, by omega, fun h0 => absurd h0 (by omega)⟩
  · rcases mp with ⟨mc, mz, T2, rfl, V⟩ | ⟨mc, mz, T2, rfl, V⟩
    · first
      | exact absurd hc (by omega)
      | exact ⟨T2, rfl, (LI_bad L hU V).1, (LI_bad L hU V).2.trans hz.symm, by omega, fun h0 => absurd h0 (by omega)⟩
    · first
      | exact absurd hc (by omega)
      | exact ⟨T2, rfl, (LI_bad L hU V).1, (LI_bad L hU V).2.trans hz.symm, by omega, fun h0 => absurd h0 (by omega)⟩
  · rcases mp with ⟨mc, mz, T2, rfl, V⟩ | ⟨mc, mz, T2, rfl, V⟩
    · first
      | exact absurd hc (by omega)
      | exact ⟨T2, rfl, (LI_bad L hU V).1, (LI_bad L hU V).2.trans hz.symm, by omega, fun h0 => absurd h0 (by omega)⟩
    · first
      | exact absurd hc (by omega)
      | exact ⟨T2, rfl, (LI_bad L hU V).1, (LI_bad L hU V).2.trans hz.symm, by omega, fun h0 => absurd h0 (by omega)⟩
set_option maxHeartbeats 400000 in
theorem pair_isShut {K : KK} {qm : Nat → Nat} {S T : Nat → Int → Int} (L : LI S T) {r t : Int} {z bb : Int} {g2 : Nat → Int64} {S2 : Nat → Int → Int} {w : va_W} (hp : (((0 ≤ r ∧ r < S 0 10) ∧ (0 ≤ t ∧ t < 6) ∧ ¬ NX (S 0 10) r t = -1) ∧ z = 0 ∧ ∃ a : Int, g2 0 = (if a = 0 then 0 else 1) ∧ (a = S 8 (r * 6 + t)) ∧ (UP S S2 (S 7) (S 8))) ∨ ((¬ (0 ≤ r ∧ r < S 0 10)) ∧ z = 1 ∧ S2 = S) ∨ (((0 ≤ r ∧ r < S 0 10) ∧ ¬ (0 ≤ t ∧ t < 6)) ∧ z = 1 ∧ S2 = S) ∨ (((0 ≤ r ∧ r < S 0 10) ∧ (0 ≤ t ∧ t < 6) ∧ NX (S 0 10) r t = -1) ∧ z = 2 ∧ S2 = S)) (mp : (((0 ≤ r ∧ r < T 0 2) ∧ (0 ≤ t ∧ t < 6) ∧ ¬ NX (T 0 2) r t = -1) ∧ (bb = T 6 (6 * r + t)) ∧ ∃ T2, w = wM K qm T2 ∧ UM T T2 (T 4) (T 6) 0) ∨ ((¬ ((0 ≤ r ∧ r < T 0 2) ∧ (0 ≤ t ∧ t < 6))) ∧ (bb = 0) ∧ ∃ T2, w = wM K qm T2 ∧ UM T T2 (T 4) (T 6) 1) ∨ ((((0 ≤ r ∧ r < T 0 2) ∧ (0 ≤ t ∧ t < 6)) ∧ NX (T 0 2) r t = -1) ∧ (bb = 0) ∧ ∃ T2, w = wM K qm T2 ∧ UM T T2 (T 4) (T 6) 2)) : ∃ T2 : Nat → Int → Int, w = wM K qm T2 ∧ LI S2 T2 ∧ T2 0 0 = z ∧ (0 ≤ z ∧ z ≤ 2) ∧ (z = 0 → g2 0 = (if bb = 0 then 0 else 1)) ∧ (0 ≤ bb ∧ bb ≤ 1) := by
  have hk1 := L.2.2.2.1
  have hn1 := L.2.2.2.2.1
  have hn := L.1.n
  have hk9 := L.1.1
  have hh := L.1.hh
  try rw [hn1] at mp
  try rw [hk1] at mp
  rcases hp with ⟨hc, hz, a, ha, hr, hU⟩ | ⟨hc, hz, hU⟩ | ⟨hc, hz, hU⟩ | ⟨hc, hz, hU⟩
  · rcases mp with ⟨mc, mz, T2, rfl, V⟩ | ⟨mc, mz, T2, rfl, V⟩ | ⟨mc, mz, T2, rfl, V⟩
    · have R := LI_same L hU V
      have hab : a = bb := by rw [hr, mz, show 6 * r + t = r * 6 + t by omega]; exact (L.2.2.2.2.2.2.1 _ (by omega) (by omega)).symm
      exact ⟨T2, rfl, R.1, R.2.trans hz.symm, by omega, fun _ => by rw [ha, hab], (by have h8 := hh (r * 6 + t) (by omega) (by omega); omega)⟩
    · first
      | exact absurd hc (by omega)
      | exact ⟨T2, rfl, (LI_bad L hU V).1, (LI_bad L hU V).2.trans hz.symm, by omega, fun h0 => absurd h0 (by omega), by omega⟩
    · first
      | exact absurd hc (by omega)
      | exact ⟨T2, rfl, (LI_bad L hU V).1, (LI_bad L hU V).2.trans hz.symm, by omega, fun h0 => absurd h0 (by omega), by omega⟩
  · rcases mp with ⟨mc, mz, T2, rfl, V⟩ | ⟨mc, mz, T2, rfl, V⟩ | ⟨mc, mz, T2, rfl, V⟩
    · first
      | exact absurd hc (by omega)
      | exact ⟨T2, rfl, (LI_bad L hU V).1, (LI_bad L hU V).2.trans hz.symm, by omega, fun h0 => absurd h0 (by omega), by omega⟩
    · first
      | exact absurd hc (by omega)
      | exact ⟨T2, rfl, (LI_bad L hU V).1, (LI_bad L hU V).2.trans hz.symm, by omega, fun h0 => absurd h0 (by omega), by omega⟩
    · first
      | exact absurd hc (by omega)
      | exact ⟨T2, rfl, (LI_bad L hU V).1, (LI_bad L hU V).2.trans hz.symm, by omega, fun h0 => absurd h0 (by omega), by omega⟩
  · rcases mp with ⟨mc, mz, T2, rfl, V⟩ | ⟨mc, mz, T2, rfl, V⟩ | ⟨mc, mz, T2, rfl, V⟩
    · first
      | exact absurd hc (by omega)
      | exact ⟨T2, rfl, (LI_bad L hU V).1, (LI_bad L hU V).2.trans hz.symm, by omega, fun h0 => absurd h0 (by omega), by omega⟩
    · first
      | exact absurd hc (by omega)
      | exact ⟨T2, rfl, (LI_bad L hU V).1, (LI_bad L hU V).2.trans hz.symm, by omega, fun h0 => absurd h0 (by omega), by omega⟩
    · first
      | exact absurd hc (by omega)
      | exact ⟨T2, rfl, (LI_bad L hU V).1, (LI_bad L hU V).2.trans hz.symm, by omega, fun h0 => absurd h0 (by omega), by omega⟩
  · rcases mp with ⟨mc, mz, T2, rfl, V⟩ | ⟨mc, mz, T2, rfl, V⟩ | ⟨mc, mz, T2, rfl, V⟩
    · first
      | exact absurd hc (by omega)
      | exact ⟨T2, rfl, (LI_bad L hU V).1, (LI_bad L hU V).2.trans hz.symm, by omega, fun h0 => absurd h0 (by omega), by omega⟩
    · first
      | exact absurd hc (by omega)
      | exact ⟨T2, rfl, (LI_bad L hU V).1, (LI_bad L hU V).2.trans hz.symm, by omega, fun h0 => absurd h0 (by omega), by omega⟩
    · first
      | exact absurd hc (by omega)
      | exact ⟨T2, rfl, (LI_bad L hU V).1, (LI_bad L hU V).2.trans hz.symm, by omega, fun h0 => absurd h0 (by omega), by omega⟩
set_option maxHeartbeats 400000 in
theorem pair_far {K : KK} {qm : Nat → Nat} {S T : Nat → Int → Int} (L : LI S T) {x y : Int} {z bb : Int} {g2 : Nat → Int64} {S2 : Nat → Int → Int} {w : va_W} (hp : (((0 ≤ x ∧ x < S 0 10) ∧ (0 ≤ y ∧ y < S 0 10)) ∧ z = 0 ∧ ∃ a : Int, g2 0 = (iI a).toInt64 ∧ (a = FA x y) ∧ (UP S S2 (S 7) (S 8))) ∨ ((¬ (0 ≤ x ∧ x < S 0 10)) ∧ z = 1 ∧ S2 = S) ∨ (((0 ≤ x ∧ x < S 0 10) ∧ ¬ (0 ≤ y ∧ y < S 0 10)) ∧ z = 1 ∧ S2 = S)) (mp : (((0 ≤ x ∧ x < T 0 2) ∧ (0 ≤ y ∧ y < T 0 2)) ∧ (bb = FA x y) ∧ ∃ T2, w = wM K qm T2 ∧ UM T T2 (T 4) (T 6) 0) ∨ ((¬ ((0 ≤ x ∧ x < T 0 2) ∧ (0 ≤ y ∧ y < T 0 2))) ∧ (bb = 0) ∧ ∃ T2, w = wM K qm T2 ∧ UM T T2 (T 4) (T 6) 1)) : ∃ T2 : Nat → Int → Int, w = wM K qm T2 ∧ LI S2 T2 ∧ T2 0 0 = z ∧ (0 ≤ z ∧ z ≤ 2) ∧ (z = 0 → g2 0 = (iI bb).toInt64) := by
  have hk1 := L.2.2.2.1
  have hn1 := L.2.2.2.2.1
  have hn := L.1.n
  have hk9 := L.1.1
  have hh := L.1.hh
  try rw [hn1] at mp
  try rw [hk1] at mp
  rcases hp with ⟨hc, hz, a, ha, hr, hU⟩ | ⟨hc, hz, hU⟩ | ⟨hc, hz, hU⟩
  · rcases mp with ⟨mc, mz, T2, rfl, V⟩ | ⟨mc, mz, T2, rfl, V⟩
    · have R := LI_same L hU V
      have hab : a = bb := hr.trans mz.symm
      exact ⟨T2, rfl, R.1, R.2.trans hz.symm, by omega, fun _ => by rw [ha, hab]⟩
    · first
      | exact absurd hc (by omega)
      | exact ⟨T2, rfl, (LI_bad L hU V).1, (LI_bad L hU V).2.trans hz.symm, by omega, fun h0 => absurd h0 (by omega)⟩
  · rcases mp with ⟨mc, mz, T2, rfl, V⟩ | ⟨mc, mz, T2, rfl, V⟩
    · first
      | exact absurd hc (by omega)
      | exact ⟨T2, rfl, (LI_bad L hU V).1, (LI_bad L hU V).2.trans hz.symm, by omega, fun h0 => absurd h0 (by omega)⟩
    · first
      | exact absurd hc (by omega)
      | exact ⟨T2, rfl, (LI_bad L hU V).1, (LI_bad L hU V).2.trans hz.symm, by omega, fun h0 => absurd h0 (by omega)⟩
  · rcases mp with ⟨mc, mz, T2, rfl, V⟩ | ⟨mc, mz, T2, rfl, V⟩
    · first
      | exact absurd hc (by omega)
      | exact ⟨T2, rfl, (LI_bad L hU V).1, (LI_bad L hU V).2.trans hz.symm, by omega, fun h0 => absurd h0 (by omega)⟩
    · first
      | exact absurd hc (by omega)
      | exact ⟨T2, rfl, (LI_bad L hU V).1, (LI_bad L hU V).2.trans hz.symm, by omega, fun h0 => absurd h0 (by omega)⟩
set_option maxHeartbeats 400000 in
theorem pair_sees {K : KK} {qm : Nat → Nat} {S T : Nat → Int → Int} (L : LI S T) {x y : Int} {z bb : Int} {g2 : Nat → Int64} {S2 : Nat → Int → Int} {w : va_W} (hp : (((0 ≤ x ∧ x < S 0 10) ∧ (0 ≤ y ∧ y < S 0 10)) ∧ z = 0 ∧ ∃ a : Int, g2 0 = (if a = 0 then 0 else 1) ∧ (a = if 0 < sL (ind y) (beam (S 0 10) (S 7) (S 8) x) then 1 else 0) ∧ (UP S S2 (S 7) (S 8))) ∨ ((¬ (0 ≤ x ∧ x < S 0 10)) ∧ z = 1 ∧ S2 = S) ∨ (((0 ≤ x ∧ x < S 0 10) ∧ ¬ (0 ≤ y ∧ y < S 0 10)) ∧ z = 1 ∧ S2 = S)) (mp : (((0 ≤ x ∧ x < T 0 2) ∧ (0 ≤ y ∧ y < T 0 2)) ∧ (bb = if 0 < sL (ind y) (beam (T 0 2) (T 4) (T 6) x) then 1 else 0) ∧ ∃ T2, w = wM K qm T2 ∧ UM T T2 (T 4) (T 6) 0) ∨ ((¬ ((0 ≤ x ∧ x < T 0 2) ∧ (0 ≤ y ∧ y < T 0 2))) ∧ (bb = 0) ∧ ∃ T2, w = wM K qm T2 ∧ UM T T2 (T 4) (T 6) 1)) : ∃ T2 : Nat → Int → Int, w = wM K qm T2 ∧ LI S2 T2 ∧ T2 0 0 = z ∧ (0 ≤ z ∧ z ≤ 2) ∧ (z = 0 → g2 0 = (if bb = 0 then 0 else 1)) ∧ (0 ≤ bb ∧ bb ≤ 1) := by
  have hk1 := L.2.2.2.1
  have hn1 := L.2.2.2.2.1
  have hn := L.1.n
  have hk9 := L.1.1
  have hh := L.1.hh
  try rw [hn1] at mp
  try rw [hk1] at mp
  rcases hp with ⟨hc, hz, a, ha, hr, hU⟩ | ⟨hc, hz, hU⟩ | ⟨hc, hz, hU⟩
  · rcases mp with ⟨mc, mz, T2, rfl, V⟩ | ⟨mc, mz, T2, rfl, V⟩
    · have R := LI_same L hU V
      have hab : a = bb := by rw [hr, mz, beam_cong L.ef L.eh (by omega)]
      exact ⟨T2, rfl, R.1, R.2.trans hz.symm, by omega, fun _ => by rw [ha, hab], (by rw [mz]; split <;> omega)⟩
    · first
      | exact absurd hc (by omega)
      | exact ⟨T2, rfl, (LI_bad L hU V).1, (LI_bad L hU V).2.trans hz.symm, by omega, fun h0 => absurd h0 (by omega), by omega⟩
  · rcases mp with ⟨mc, mz, T2, rfl, V⟩ | ⟨mc, mz, T2, rfl, V⟩
    · first
      | exact absurd hc (by omega)
      | exact ⟨T2, rfl, (LI_bad L hU V).1, (LI_bad L hU V).2.trans hz.symm, by omega, fun h0 => absurd h0 (by omega), by omega⟩
    · first
      | exact absurd hc (by omega)
      | exact ⟨T2, rfl, (LI_bad L hU V).1, (LI_bad L hU V).2.trans hz.symm, by omega, fun h0 => absurd h0 (by omega), by omega⟩
  · rcases mp with ⟨mc, mz, T2, rfl, V⟩ | ⟨mc, mz, T2, rfl, V⟩
    · first
      | exact absurd hc (by omega)
      | exact ⟨T2, rfl, (LI_bad L hU V).1, (LI_bad L hU V).2.trans hz.symm, by omega, fun h0 => absurd h0 (by omega), by omega⟩
    · first
      | exact absurd hc (by omega)
      | exact ⟨T2, rfl, (LI_bad L hU V).1, (LI_bad L hU V).2.trans hz.symm, by omega, fun h0 => absurd h0 (by omega), by omega⟩
set_option maxHeartbeats 400000 in
theorem pair_way {K : KK} {qm : Nat → Nat} {S T : Nat → Int → Int} (L : LI S T) {x y : Int} {z bb : Int} {g2 : Nat → Int64} {S2 : Nat → Int → Int} {w : va_W} (hp : (((0 ≤ x ∧ x < S 0 10) ∧ (0 ≤ y ∧ y < S 0 10)) ∧ z = 0 ∧ ∃ a : Int, g2 0 = (iI a).toInt64 ∧ (dR (S 0 10) (S 7) (S 8) x y a) ∧ (UP S S2 (S 7) (S 8))) ∨ ((¬ (0 ≤ x ∧ x < S 0 10)) ∧ z = 1 ∧ S2 = S) ∨ (((0 ≤ x ∧ x < S 0 10) ∧ ¬ (0 ≤ y ∧ y < S 0 10)) ∧ z = 1 ∧ S2 = S)) (mp : (((0 ≤ x ∧ x < T 0 2) ∧ (0 ≤ y ∧ y < T 0 2)) ∧ (dR (T 0 2) (T 4) (T 6) x y bb) ∧ ∃ T2, w = wM K qm T2 ∧ UM T T2 (T 4) (T 6) 0) ∨ ((¬ ((0 ≤ x ∧ x < T 0 2) ∧ (0 ≤ y ∧ y < T 0 2))) ∧ (bb = 0) ∧ ∃ T2, w = wM K qm T2 ∧ UM T T2 (T 4) (T 6) 1)) : ∃ T2 : Nat → Int → Int, w = wM K qm T2 ∧ LI S2 T2 ∧ T2 0 0 = z ∧ (0 ≤ z ∧ z ≤ 2) ∧ (z = 0 → g2 0 = (iI bb).toInt64) := by
  have hk1 := L.2.2.2.1
  have hn1 := L.2.2.2.2.1
  have hn := L.1.n
  have hk9 := L.1.1
  have hh := L.1.hh
  try rw [hn1] at mp
  try rw [hk1] at mp
  rcases hp with ⟨hc, hz, a, ha, hr, hU⟩ | ⟨hc, hz, hU⟩ | ⟨hc, hz, hU⟩
  · rcases mp with ⟨mc, mz, T2, rfl, V⟩ | ⟨mc, mz, T2, rfl, V⟩
    · have R := LI_same L hU V
      have hab : a = bb := dR_u hr (dR_cg L.ef L.eh (by omega) mz)
      exact ⟨T2, rfl, R.1, R.2.trans hz.symm, by omega, fun _ => by rw [ha, hab]⟩
    · first
      | exact absurd hc (by omega)
      | exact ⟨T2, rfl, (LI_bad L hU V).1, (LI_bad L hU V).2.trans hz.symm, by omega, fun h0 => absurd h0 (by omega)⟩
  · rcases mp with ⟨mc, mz, T2, rfl, V⟩ | ⟨mc, mz, T2, rfl, V⟩
    · first
      | exact absurd hc (by omega)
      | exact ⟨T2, rfl, (LI_bad L hU V).1, (LI_bad L hU V).2.trans hz.symm, by omega, fun h0 => absurd h0 (by omega)⟩
    · first
      | exact absurd hc (by omega)
      | exact ⟨T2, rfl, (LI_bad L hU V).1, (LI_bad L hU V).2.trans hz.symm, by omega, fun h0 => absurd h0 (by omega)⟩
  · rcases mp with ⟨mc, mz, T2, rfl, V⟩ | ⟨mc, mz, T2, rfl, V⟩
    · first
      | exact absurd hc (by omega)
      | exact ⟨T2, rfl, (LI_bad L hU V).1, (LI_bad L hU V).2.trans hz.symm, by omega, fun h0 => absurd h0 (by omega)⟩
    · first
      | exact absurd hc (by omega)
      | exact ⟨T2, rfl, (LI_bad L hU V).1, (LI_bad L hU V).2.trans hz.symm, by omega, fun h0 => absurd h0 (by omega)⟩
set_option maxHeartbeats 400000 in
theorem pair_side {K : KK} {qm : Nat → Nat} {S T : Nat → Int → Int} (L : LI S T) {x y : Int} {z bb : Int} {g2 : Nat → Int64} {S2 : Nat → Int → Int} {w : va_W} (hp : (((0 ≤ x ∧ x < S 0 10) ∧ (0 ≤ y ∧ y < S 0 10)) ∧ z = 0 ∧ ∃ a : Int, g2 0 = (iI a).toInt64 ∧ (SDc (S 0 10) (S 7) (S 8) x y a) ∧ (UP S S2 (S 7) (S 8))) ∨ ((¬ (0 ≤ x ∧ x < S 0 10)) ∧ z = 1 ∧ S2 = S) ∨ (((0 ≤ x ∧ x < S 0 10) ∧ ¬ (0 ≤ y ∧ y < S 0 10)) ∧ z = 1 ∧ S2 = S)) (mp : (((0 ≤ x ∧ x < T 0 2) ∧ (0 ≤ y ∧ y < T 0 2)) ∧ (SDm (T 0 2) (T 4) (T 6) x y bb) ∧ ∃ T2, w = wM K qm T2 ∧ UM T T2 (T 4) (T 6) 0) ∨ ((¬ ((0 ≤ x ∧ x < T 0 2) ∧ (0 ≤ y ∧ y < T 0 2))) ∧ (bb = 0) ∧ ∃ T2, w = wM K qm T2 ∧ UM T T2 (T 4) (T 6) 1)) : ∃ T2 : Nat → Int → Int, w = wM K qm T2 ∧ LI S2 T2 ∧ T2 0 0 = z ∧ (0 ≤ z ∧ z ≤ 2) ∧ (z = 0 → g2 0 = (iI bb).toInt64) := by
  have hk1 := L.2.2.2.1
  have hn1 := L.2.2.2.2.1
  have hn := L.1.n
  have hk9 := L.1.1
  have hh := L.1.hh
  try rw [hn1] at mp
  try rw [hk1] at mp
  rcases hp with ⟨hc, hz, a, ha, hr, hU⟩ | ⟨hc, hz, hU⟩ | ⟨hc, hz, hU⟩
  · rcases mp with ⟨mc, mz, T2, rfl, V⟩ | ⟨mc, mz, T2, rfl, V⟩
    · have R := LI_same L hU V
      have hab : a = bb := SD_e hr (SDm_cg L.ef L.eh (by omega) mz)
      exact ⟨T2, rfl, R.1, R.2.trans hz.symm, by omega, fun _ => by rw [ha, hab]⟩
    · first
      | exact absurd hc (by omega)
      | exact ⟨T2, rfl, (LI_bad L hU V).1, (LI_bad L hU V).2.trans hz.symm, by omega, fun h0 => absurd h0 (by omega)⟩
  · rcases mp with ⟨mc, mz, T2, rfl, V⟩ | ⟨mc, mz, T2, rfl, V⟩
    · first
      | exact absurd hc (by omega)
      | exact ⟨T2, rfl, (LI_bad L hU V).1, (LI_bad L hU V).2.trans hz.symm, by omega, fun h0 => absurd h0 (by omega)⟩
    · first
      | exact absurd hc (by omega)
      | exact ⟨T2, rfl, (LI_bad L hU V).1, (LI_bad L hU V).2.trans hz.symm, by omega, fun h0 => absurd h0 (by omega)⟩
  · rcases mp with ⟨mc, mz, T2, rfl, V⟩ | ⟨mc, mz, T2, rfl, V⟩
    · first
      | exact absurd hc (by omega)
      | exact ⟨T2, rfl, (LI_bad L hU V).1, (LI_bad L hU V).2.trans hz.symm, by omega, fun h0 => absurd h0 (by omega)⟩
    · first
      | exact absurd hc (by omega)
      | exact ⟨T2, rfl, (LI_bad L hU V).1, (LI_bad L hU V).2.trans hz.symm, by omega, fun h0 => absurd h0 (by omega)⟩
set_option maxHeartbeats 400000 in
theorem pair_reach {K : KK} {qm : Nat → Nat} {S T : Nat → Int → Int} (L : LI S T) {r t : Int} {z bb : Int} {g2 : Nat → Int64} {S2 : Nat → Int → Int} {w : va_W} (hp : (((0 ≤ r ∧ r < S 0 10) ∧ (0 ≤ t ∧ t ≤ 99)) ∧ z = 0 ∧ ∃ a : Int, g2 0 = (iI a).toInt64 ∧ (∃ D : Int → Int, (∀ j, 0 ≤ j → j < S 0 10 → dR (S 0 10) (S 7) (S 8) r j (D j)) ∧ a = sm (fun j => if ¬ D j = -1 ∧ D j ≤ t then 1 else 0) 0 (S 0 10)) ∧ (UP S S2 (S 7) (S 8))) ∨ ((¬ (0 ≤ r ∧ r < S 0 10)) ∧ z = 1 ∧ S2 = S) ∨ (((0 ≤ r ∧ r < S 0 10) ∧ ¬ (0 ≤ t ∧ t ≤ 99)) ∧ z = 2 ∧ S2 = S)) (mp : (((0 ≤ r ∧ r < T 0 2) ∧ (0 ≤ t ∧ t ≤ 99)) ∧ (∃ D : Int → Int, (∀ j, 0 ≤ j → j < T 0 2 → dR (T 0 2) (T 4) (T 6) r j (D j)) ∧ bb = sm (fun j => if ¬ D j = -1 ∧ D j ≤ t then 1 else 0) 0 (T 0 2)) ∧ ∃ T2, w = wM K qm T2 ∧ UM T T2 (T 4) (T 6) 0) ∨ ((¬ (0 ≤ r ∧ r < T 0 2)) ∧ (bb = 0) ∧ ∃ T2, w = wM K qm T2 ∧ UM T T2 (T 4) (T 6) 1) ∨ (((0 ≤ r ∧ r < T 0 2) ∧ ¬ (0 ≤ t ∧ t ≤ 99)) ∧ (bb = 0) ∧ ∃ T2, w = wM K qm T2 ∧ UM T T2 (T 4) (T 6) 2)) : ∃ T2 : Nat → Int → Int, w = wM K qm T2 ∧ LI S2 T2 ∧ T2 0 0 = z ∧ (0 ≤ z ∧ z ≤ 2) ∧ (z = 0 → g2 0 = (iI bb).toInt64) := by
  have hk1 := L.2.2.2.1
  have hn1 := L.2.2.2.2.1
  have hn := L.1.n
  have hk9 := L.1.1
  have hh := L.1.hh
  try rw [hn1] at mp
  try rw [hk1] at mp
  rcases hp with ⟨hc, hz, a, ha, hr, hU⟩ | ⟨hc, hz, hU⟩ | ⟨hc, hz, hU⟩
  · rcases mp with ⟨mc, mz, T2, rfl, V⟩ | ⟨mc, mz, T2, rfl, V⟩ | ⟨mc, mz, T2, rfl, V⟩
    · have R := LI_same L hU V
      have hab : a = bb := by
        obtain ⟨D, hD, e1⟩ := hr
        obtain ⟨D2, hD2, e2⟩ := mz
        rw [e1, e2]
        exact sm_cong (fun j h0 h1 => by
            show (if ¬ D j = -1 ∧ D j ≤ t then (1 : Int) else 0) = if ¬ D2 j = -1 ∧ D2 j ≤ t then 1 else 0
            rw [dR_u (hD j h0 h1) (dR_cg L.ef L.eh (by omega) (hD2 j h0 h1))])
      exact ⟨T2, rfl, R.1, R.2.trans hz.symm, by omega, fun _ => by rw [ha, hab]⟩
    · first
      | exact absurd hc (by omega)
      | exact ⟨T2, rfl, (LI_bad L hU V).1, (LI_bad L hU V).2.trans hz.symm, by omega, fun h0 => absurd h0 (by omega)⟩
    · first
      | exact absurd hc (by omega)
      | exact ⟨T2, rfl, (LI_bad L hU V).1, (LI_bad L hU V).2.trans hz.symm, by omega, fun h0 => absurd h0 (by omega)⟩
  · rcases mp with ⟨mc, mz, T2, rfl, V⟩ | ⟨mc, mz, T2, rfl, V⟩ | ⟨mc, mz, T2, rfl, V⟩
    · first
      | exact absurd hc (by omega)
      | exact ⟨T2, rfl, (LI_bad L hU V).1, (LI_bad L hU V).2.trans hz.symm, by omega, fun h0 => absurd h0 (by omega)⟩
    · first
      | exact absurd hc (by omega)
      | exact ⟨T2, rfl, (LI_bad L hU V).1, (LI_bad L hU V).2.trans hz.symm, by omega, fun h0 => absurd h0 (by omega)⟩
    · first
      | exact absurd hc (by omega)
      | exact ⟨T2, rfl, (LI_bad L hU V).1, (LI_bad L hU V).2.trans hz.symm, by omega, fun h0 => absurd h0 (by omega)⟩
  · rcases mp with ⟨mc, mz, T2, rfl, V⟩ | ⟨mc, mz, T2, rfl, V⟩ | ⟨mc, mz, T2, rfl, V⟩
    · first
      | exact absurd hc (by omega)
      | exact ⟨T2, rfl, (LI_bad L hU V).1, (LI_bad L hU V).2.trans hz.symm, by omega, fun h0 => absurd h0 (by omega)⟩
    · first
      | exact absurd hc (by omega)
      | exact ⟨T2, rfl, (LI_bad L hU V).1, (LI_bad L hU V).2.trans hz.symm, by omega, fun h0 => absurd h0 (by omega)⟩
    · first
      | exact absurd hc (by omega)
      | exact ⟨T2, rfl, (LI_bad L hU V).1, (LI_bad L hU V).2.trans hz.symm, by omega, fun h0 => absurd h0 (by omega)⟩
set_option maxHeartbeats 400000 in
theorem pair_ring {K : KK} {qm : Nat → Nat} {S T : Nat → Int → Int} (L : LI S T) {k v : Int} {z bb : Int} {g2 : Nat → Int64} {S2 : Nat → Int → Int} {w : va_W} (hp : (((0 ≤ k ∧ k ≤ S 0 9) ∧ (0 ≤ v ∧ v < 4)) ∧ z = 0 ∧ ∃ a : Int, g2 0 = (iI a).toInt64 ∧ (a = RNG (S 0 10) (S 7) (S 8) k v) ∧ (UP S S2 (S 7) (S 8))) ∨ ((¬ (0 ≤ k ∧ k ≤ S 0 9)) ∧ z = 1 ∧ S2 = S) ∨ (((0 ≤ k ∧ k ≤ S 0 9) ∧ ¬ (0 ≤ v ∧ v < 4)) ∧ z = 1 ∧ S2 = S)) (mp : (((0 ≤ k ∧ k ≤ T 0 1) ∧ (0 ≤ v ∧ v ≤ 3)) ∧ (bb = RNG (T 0 2) (T 4) (T 6) k v) ∧ ∃ T2, w = wM K qm T2 ∧ UM T T2 (T 4) (T 6) 0) ∨ ((¬ ((0 ≤ k ∧ k ≤ T 0 1) ∧ (0 ≤ v ∧ v ≤ 3))) ∧ (bb = 0) ∧ ∃ T2, w = wM K qm T2 ∧ UM T T2 (T 4) (T 6) 1)) : ∃ T2 : Nat → Int → Int, w = wM K qm T2 ∧ LI S2 T2 ∧ T2 0 0 = z ∧ (0 ≤ z ∧ z ≤ 2) ∧ (z = 0 → g2 0 = (iI bb).toInt64) := by
  have hk1 := L.2.2.2.1
  have hn1 := L.2.2.2.2.1
  have hn := L.1.n
  have hk9 := L.1.1
  have hh := L.1.hh
  try rw [hn1] at mp
  try rw [hk1] at mp
  rcases hp with ⟨hc, hz, a, ha, hr, hU⟩ | ⟨hc, hz, hU⟩ | ⟨hc, hz, hU⟩
  · rcases mp with ⟨mc, mz, T2, rfl, V⟩ | ⟨mc, mz, T2, rfl, V⟩
    · have R := LI_same L hU V
      have hab : a = bb := by rw [hr, mz]; exact (RNG_cg L.ef L.eh (K := S 0 9) (by omega) (by omega) L.1.2.1 v).symm
      exact ⟨T2, rfl, R.1, R.2.trans hz.symm, by omega, fun _ => by rw [ha, hab]⟩
    · first
      | exact absurd hc (by omega)
      | exact ⟨T2, rfl, (LI_bad L hU V).1, (LI_bad L hU V).2.trans hz.symm, by omega, fun h0 => absurd h0 (by omega)⟩
  · rcases mp with ⟨mc, mz, T2, rfl, V⟩ | ⟨mc, mz, T2, rfl, V⟩
    · first
      | exact absurd hc (by omega)
      | exact ⟨T2, rfl, (LI_bad L hU V).1, (LI_bad L hU V).2.trans hz.symm, by omega, fun h0 => absurd h0 (by omega)⟩
    · first
      | exact absurd hc (by omega)
      | exact ⟨T2, rfl, (LI_bad L hU V).1, (LI_bad L hU V).2.trans hz.symm, by omega, fun h0 => absurd h0 (by omega)⟩
  · rcases mp with ⟨mc, mz, T2, rfl, V⟩ | ⟨mc, mz, T2, rfl, V⟩
    · first
      | exact absurd hc (by omega)
      | exact ⟨T2, rfl, (LI_bad L hU V).1, (LI_bad L hU V).2.trans hz.symm, by omega, fun h0 => absurd h0 (by omega)⟩
    · first
      | exact absurd hc (by omega)
      | exact ⟨T2, rfl, (LI_bad L hU V).1, (LI_bad L hU V).2.trans hz.symm, by omega, fun h0 => absurd h0 (by omega)⟩
set_option maxHeartbeats 400000 in
theorem pair_count {K : KK} {qm : Nat → Nat} {S T : Nat → Int → Int} (L : LI S T) {v : Int} {z bb : Int} {g2 : Nat → Int64} {S2 : Nat → Int → Int} {w : va_W} (hp : ((0 ≤ v ∧ v < 7) ∧ z = 0 ∧ ∃ a : Int, g2 0 = (iI a).toInt64 ∧ (a = CNT (S 0 9) (S 0 10) (S 7) (S 8) v) ∧ (UP S S2 (S 7) (S 8))) ∨ ((¬ (0 ≤ v ∧ v < 7)) ∧ z = 1 ∧ S2 = S)) (mp : ((0 ≤ v ∧ v ≤ 6) ∧ (bb = CNT (T 0 1) (T 0 2) (T 4) (T 6) v) ∧ ∃ T2, w = wM K qm T2 ∧ UM T T2 (T 4) (T 6) 0) ∨ ((¬ (0 ≤ v ∧ v ≤ 6)) ∧ (bb = 0) ∧ ∃ T2, w = wM K qm T2 ∧ UM T T2 (T 4) (T 6) 1)) : ∃ T2 : Nat → Int → Int, w = wM K qm T2 ∧ LI S2 T2 ∧ T2 0 0 = z ∧ (0 ≤ z ∧ z ≤ 2) ∧ (z = 0 → g2 0 = (iI bb).toInt64) := by
  have hk1 := L.2.2.2.1
  have hn1 := L.2.2.2.2.1
  have hn := L.1.n
  have hk9 := L.1.1
  have hh := L.1.hh
  try rw [hn1] at mp
  try rw [hk1] at mp
  rcases hp with ⟨hc, hz, a, ha, hr, hU⟩ | ⟨hc, hz, hU⟩
  · rcases mp with ⟨mc, mz, T2, rfl, V⟩ | ⟨mc, mz, T2, rfl, V⟩
    · have R := LI_same L hU V
      have hab : a = bb := by rw [hr, mz]; exact (CNT_cg L.ef L.eh _ v).symm
      exact ⟨T2, rfl, R.1, R.2.trans hz.symm, by omega, fun _ => by rw [ha, hab]⟩
    · first
      | exact absurd hc (by omega)
      | exact ⟨T2, rfl, (LI_bad L hU V).1, (LI_bad L hU V).2.trans hz.symm, by omega, fun h0 => absurd h0 (by omega)⟩
  · rcases mp with ⟨mc, mz, T2, rfl, V⟩ | ⟨mc, mz, T2, rfl, V⟩
    · first
      | exact absurd hc (by omega)
      | exact ⟨T2, rfl, (LI_bad L hU V).1, (LI_bad L hU V).2.trans hz.symm, by omega, fun h0 => absurd h0 (by omega)⟩
    · first
      | exact absurd hc (by omega)
      | exact ⟨T2, rfl, (LI_bad L hU V).1, (LI_bad L hU V).2.trans hz.symm, by omega, fun h0 => absurd h0 (by omega)⟩
set_option maxHeartbeats 400000 in
theorem pair_would {K : KK} {qm : Nat → Nat} {S T : Nat → Int → Int} (L : LI S T) {k b : Int} {z bb : Int} {g2 : Nat → Int64} {S2 : Nat → Int → Int} {w : va_W} (hp : (((0 ≤ k ∧ k ≤ S 0 9) ∧ (0 ≤ b ∧ b < SZ k)) ∧ z = 0 ∧ ∃ a : Int, g2 0 = (iI a).toInt64 ∧ (a = LIT (S 0 10) (rot k b (S 7) (S 7)) (S 8)) ∧ (UP S S2 (S 7) (S 8))) ∨ ((¬ (0 ≤ k ∧ k ≤ S 0 9)) ∧ z = 1 ∧ S2 = S) ∨ (((0 ≤ k ∧ k ≤ S 0 9) ∧ ¬ (0 ≤ b ∧ b < SZ k)) ∧ z = 2 ∧ S2 = S)) (mp : (((0 ≤ k ∧ k ≤ T 0 1) ∧ (0 ≤ b ∧ b < SZ k)) ∧ (bb = LIT (T 0 2) (rot k b (T 4) (T 4)) (T 6)) ∧ ∃ T2, w = wM K qm T2 ∧ UM T T2 (T 4) (T 6) 0) ∨ ((¬ (0 ≤ k ∧ k ≤ T 0 1)) ∧ (bb = 0) ∧ ∃ T2, w = wM K qm T2 ∧ UM T T2 (T 4) (T 6) 1) ∨ (((0 ≤ k ∧ k ≤ T 0 1) ∧ ¬ (0 ≤ b ∧ b < SZ k)) ∧ (bb = 0) ∧ ∃ T2, w = wM K qm T2 ∧ UM T T2 (T 4) (T 6) 2)) : ∃ T2 : Nat → Int → Int, w = wM K qm T2 ∧ LI S2 T2 ∧ T2 0 0 = z ∧ (0 ≤ z ∧ z ≤ 2) ∧ (z = 0 → g2 0 = (iI bb).toInt64) := by
  have hk1 := L.2.2.2.1
  have hn1 := L.2.2.2.2.1
  have hn := L.1.n
  have hk9 := L.1.1
  have hh := L.1.hh
  try rw [hn1] at mp
  try rw [hk1] at mp
  rcases hp with ⟨hc, hz, a, ha, hr, hU⟩ | ⟨hc, hz, hU⟩ | ⟨hc, hz, hU⟩
  · rcases mp with ⟨mc, mz, T2, rfl, V⟩ | ⟨mc, mz, T2, rfl, V⟩ | ⟨mc, mz, T2, rfl, V⟩
    · have R := LI_same L hU V
      have hab : a = bb := by rw [hr, mz]; exact (LIT_cong (rot_cg L.ef L.eh (K := S 0 9) (by omega) (by omega) L.1.2.1) L.eh).symm
      exact ⟨T2, rfl, R.1, R.2.trans hz.symm, by omega, fun _ => by rw [ha, hab]⟩
    · first
      | exact absurd hc (by omega)
      | exact ⟨T2, rfl, (LI_bad L hU V).1, (LI_bad L hU V).2.trans hz.symm, by omega, fun h0 => absurd h0 (by omega)⟩
    · first
      | exact absurd hc (by omega)
      | exact ⟨T2, rfl, (LI_bad L hU V).1, (LI_bad L hU V).2.trans hz.symm, by omega, fun h0 => absurd h0 (by omega)⟩
  · rcases mp with ⟨mc, mz, T2, rfl, V⟩ | ⟨mc, mz, T2, rfl, V⟩ | ⟨mc, mz, T2, rfl, V⟩
    · first
      | exact absurd hc (by omega)
      | exact ⟨T2, rfl, (LI_bad L hU V).1, (LI_bad L hU V).2.trans hz.symm, by omega, fun h0 => absurd h0 (by omega)⟩
    · first
      | exact absurd hc (by omega)
      | exact ⟨T2, rfl, (LI_bad L hU V).1, (LI_bad L hU V).2.trans hz.symm, by omega, fun h0 => absurd h0 (by omega)⟩
    · first
      | exact absurd hc (by omega)
      | exact ⟨T2, rfl, (LI_bad L hU V).1, (LI_bad L hU V).2.trans hz.symm, by omega, fun h0 => absurd h0 (by omega)⟩
  · rcases mp with ⟨mc, mz, T2, rfl, V⟩ | ⟨mc, mz, T2, rfl, V⟩ | ⟨mc, mz, T2, rfl, V⟩
    · first
      | exact absurd hc (by omega)
      | exact ⟨T2, rfl, (LI_bad L hU V).1, (LI_bad L hU V).2.trans hz.symm, by omega, fun h0 => absurd h0 (by omega)⟩
    · first
      | exact absurd hc (by omega)
      | exact ⟨T2, rfl, (LI_bad L hU V).1, (LI_bad L hU V).2.trans hz.symm, by omega, fun h0 => absurd h0 (by omega)⟩
    · first
      | exact absurd hc (by omega)
      | exact ⟨T2, rfl, (LI_bad L hU V).1, (LI_bad L hU V).2.trans hz.symm, by omega, fun h0 => absurd h0 (by omega)⟩
set_option maxHeartbeats 400000 in
theorem pair_advise {K : KK} {qm : Nat → Nat} {S T : Nat → Int → Int} (L : LI S T) {k : Int} {z bb : Int} {g2 : Nat → Int64} {S2 : Nat → Int → Int} {w : va_W} (hp : ((0 ≤ k ∧ k ≤ S 0 9) ∧ z = 0 ∧ ∃ a : Int, g2 0 = (iI a).toInt64 ∧ (AV (S 0 10) (S 7) (S 8) k a) ∧ (UP S S2 (S 7) (S 8))) ∨ ((¬ (0 ≤ k ∧ k ≤ S 0 9)) ∧ z = 1 ∧ S2 = S)) (mp : ((0 ≤ k ∧ k ≤ T 0 1) ∧ (AV (T 0 2) (T 4) (T 6) k bb) ∧ ∃ T2, w = wM K qm T2 ∧ UM T T2 (T 4) (T 6) 0) ∨ ((¬ (0 ≤ k ∧ k ≤ T 0 1)) ∧ (bb = 0) ∧ ∃ T2, w = wM K qm T2 ∧ UM T T2 (T 4) (T 6) 1)) : ∃ T2 : Nat → Int → Int, w = wM K qm T2 ∧ LI S2 T2 ∧ T2 0 0 = z ∧ (0 ≤ z ∧ z ≤ 2) ∧ (z = 0 → g2 0 = (iI bb).toInt64) := by
  have hk1 := L.2.2.2.1
  have hn1 := L.2.2.2.2.1
  have hn := L.1.n
  have hk9 := L.1.1
  have hh := L.1.hh
  try rw [hn1] at mp
  try rw [hk1] at mp
  rcases hp with ⟨hc, hz, a, ha, hr, hU⟩ | ⟨hc, hz, hU⟩
  · rcases mp with ⟨mc, mz, T2, rfl, V⟩ | ⟨mc, mz, T2, rfl, V⟩
    · have R := LI_same L hU V
      have hab : a = bb := AV_u hr (AV_cg L.ef L.eh (K := S 0 9) (by omega) (by omega) L.1.2.1 mz)
      exact ⟨T2, rfl, R.1, R.2.trans hz.symm, by omega, fun _ => by rw [ha, hab]⟩
    · first
      | exact absurd hc (by omega)
      | exact ⟨T2, rfl, (LI_bad L hU V).1, (LI_bad L hU V).2.trans hz.symm, by omega, fun h0 => absurd h0 (by omega)⟩
  · rcases mp with ⟨mc, mz, T2, rfl, V⟩ | ⟨mc, mz, T2, rfl, V⟩
    · first
      | exact absurd hc (by omega)
      | exact ⟨T2, rfl, (LI_bad L hU V).1, (LI_bad L hU V).2.trans hz.symm, by omega, fun h0 => absurd h0 (by omega)⟩
    · first
      | exact absurd hc (by omega)
      | exact ⟨T2, rfl, (LI_bad L hU V).1, (LI_bad L hU V).2.trans hz.symm, by omega, fun h0 => absurd h0 (by omega)⟩
