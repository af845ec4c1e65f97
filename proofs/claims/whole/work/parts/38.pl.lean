def PLI (T : Nat → Int → Int) (m : Int) : Prop := (∀ j, 0 ≤ j → j < m → T 1 j = TA j ∧ T 2 j = TD j ∧ T 3 j = TR j) ∧ ∀ j, 0 ≤ j → j < 121 → T 4 j = if TC j < m then TC j else -1
theorem PL_add {m : Int} {T : Nat → Int → Int} (B : PLI T m) (hm : 0 ≤ m ∧ m < 91) : PLI (sA (sA (sA (sA T 1 (fU (T 1) m (TA m))) 2 (fU (T 2) m (TD m))) 3 (fU (T 3) m (TR m))) 4 (fU (T 4) ((TD m + 5) * 11 + TA m + 5) m)) (m + 1) := by
  obtain ⟨b3, b4⟩ := B
  refine ⟨fun j h0 h1 => ?_, fun j h0 h1 => ?_⟩
  · show fU (T 1) m (TA m) j = TA j ∧ fU (T 2) m (TD m) j = TD j ∧ fU (T 3) m (TR m) j = TR j
    by_cases e : j = m
    · rw [e, fU_at, fU_at, fU_at]
      exact ⟨rfl, rfl, rfl⟩
    · rw [fU_ne _ _ _ e, fU_ne _ _ _ e, fU_ne _ _ _ e]
      exact b3 j h0 (by omega)
  · show fU (T 4) ((TD m + 5) * 11 + TA m + 5) m j = if TC j < m + 1 then TC j else -1
    rw [show (TD m + 5) * 11 + TA m + 5 = 11 * (TD m + 5) + TA m + 5 by omega]
    by_cases e : j = 11 * (TD m + 5) + TA m + 5
    · rw [e, fU_at, (TC1 hm).1, if_pos (by omega)]
    · rw [fU_ne _ _ _ e, b4 j h0 h1]
      have h2 := TC2 ⟨h0, h1⟩
      have h3 : ¬ TC j = m := by
        intro h4
        rw [h4] at h2
        rcases h2 with h2 | h2
        · omega
        · exact e h2.symm
      by_cases h5 : TC j < m
      · rw [if_pos h5, if_pos (by omega)]
      · rw [if_neg h5, if_neg (by omega)]
theorem PL_0 (T : Nat → Int → Int) (h3 : ∀ j, 0 ≤ j → j < 121 → T 4 j = -1) : PLI T 0 := by
  refine ⟨fun j h0 h1 => by omega, fun j h0 h1 => ?_⟩
  have := TC_b j
  rw [h3 j h0 h1]
  by_cases e : TC j < 0
  · rw [if_pos e]; omega
  · rw [if_neg e]
theorem l5_s (tu g : Int) : (tu + 1) * g = tu * g + g := by
  rw [Int.add_mul, Int.one_mul]
theorem PL_TN {T : Nat → Int → Int} (B : PLI T 91) {r t : Int} (hr : 0 ≤ r ∧ r < 91) (ht : 0 ≤ t ∧ t < 6) : (if (-5 ≤ T 1 r + stX t ∧ T 1 r + stX t ≤ 5) ∧ (-5 ≤ T 2 r + stY t ∧ T 2 r + stY t ≤ 5) then T 4 ((T 2 r + stY t + 5) * 11 + (T 1 r + stX t) + 5) else -1) = TN (r * 6 + t) := by
  have h := NX_RXY 91 hr ht
  rw [(B.1 r hr.1 hr.2).1, (B.1 r hr.1 hr.2).2.1]
  have h2 := TN_b (r * 6 + t)
  rw [show NX 91 r t = TN (r * 6 + t) from if_pos (by omega)] at h
  rw [← h]
  unfold RXY
  by_cases c : (-5 ≤ TA r + stX t ∧ TA r + stX t ≤ 5) ∧ (-5 ≤ TD r + stY t ∧ TD r + stY t ≤ 5)
  · rw [if_pos c, B.2 _ (by omega) (by omega), if_pos c]
  · rw [if_neg c, if_neg c, if_pos (by omega)]
