def BMI (k c : Int) (T : Nat → Int → Int) (m : Int) : Prop := T 0 0 = c ∧ T 0 1 = k ∧ T 0 2 = m ∧ (∀ j, 0 ≤ j → j < m → T 1 j = TA j ∧ T 2 j = TD j ∧ T 3 j = TR j ∧ T 4 j = 0) ∧ (∀ j, 0 ≤ j → j < 121 → T 5 j = if TC j < m then TC j else -1) ∧ (∀ j, 0 ≤ j → j < 546 → T 6 j = 0)
def TC1ok : Bool := (List.range 91).all (fun m => decide (TC (11 * (TD m + 5) + TA m + 5) = m ∧ 0 ≤ 11 * (TD m + 5) + TA m + 5 ∧ 11 * (TD m + 5) + TA m + 5 < 121))
theorem TC1ok_t : TC1ok = true := by decide +kernel
def TC2ok : Bool := (List.range 121).all (fun j => decide (TC j = -1 ∨ 11 * (TD (TC j) + 5) + TA (TC j) + 5 = j))
theorem TC2ok_t : TC2ok = true := by decide +kernel
theorem TC1 {m : Int} (h : 0 ≤ m ∧ m < 91) : TC (11 * (TD m + 5) + TA m + 5) = m ∧ 0 ≤ 11 * (TD m + 5) + TA m + 5 ∧ 11 * (TD m + 5) + TA m + 5 < 121 := by
  have h1 := TC1ok_t
  unfold TC1ok at h1
  rw [List.all_eq_true] at h1
  have h2 := of_decide_eq_true (h1 m.toNat (List.mem_range.mpr (by omega)))
  rw [show ((m.toNat : Nat) : Int) = m by omega] at h2
  exact h2
theorem TC2 {j : Int} (h : 0 ≤ j ∧ j < 121) : TC j = -1 ∨ 11 * (TD (TC j) + 5) + TA (TC j) + 5 = j := by
  have h1 := TC2ok_t
  unfold TC2ok at h1
  rw [List.all_eq_true] at h1
  have h2 := of_decide_eq_true (h1 j.toNat (List.mem_range.mpr (by omega)))
  rw [show ((j.toNat : Nat) : Int) = j by omega] at h2
  exact h2
def BTok : Bool := (List.range 6).all (fun g => (List.range 6).all (fun l => (List.range 5).all (fun s => decide (1 ≤ g → s < g → TR (FR g + l * g + s) = g ∧ FR g + l * g + s < FR (g + 1) ∧ 0 ≤ FR g + l * g + s ∧ FR g + l * g + s < 91 ∧ (FR g + l * g + s + 1 < FR (g + 1) → TA (FR g + l * g + s + 1) = TA (FR g + l * g + s) + stX (((l : Int) + 2) % 6) ∧ TD (FR g + l * g + s + 1) = TD (FR g + l * g + s) + stY (((l : Int) + 2) % 6))))))
theorem BTok_t : BTok = true := by decide +kernel
theorem BT {g tu i m : Int} (hg : 1 ≤ g ∧ g ≤ 5) (ht : 2 ≤ tu ∧ tu < 8) (hi : 0 ≤ i ∧ i < g) (hm : m = FR g + (tu - 2) * g + i) : TR m = g ∧ m < FR (g + 1) ∧ 0 ≤ m ∧ m < 91 ∧ (m + 1 < FR (g + 1) → TA (m + 1) = TA m + stX (tu % 6) ∧ TD (m + 1) = TD m + stY (tu % 6)) := by
  have h := BTok_t
  unfold BTok at h
  rw [List.all_eq_true] at h
  have h1 := h g.toNat (List.mem_range.mpr (by omega))
  rw [List.all_eq_true] at h1
  have h2 := h1 (tu - 2).toNat (List.mem_range.mpr (by omega))
  rw [List.all_eq_true] at h2
  have h3 := of_decide_eq_true (h2 i.toNat (List.mem_range.mpr (by omega)))
  rw [show ((g.toNat : Nat) : Int) = g by omega, show (((tu - 2).toNat : Nat) : Int) = tu - 2 by omega, show ((i.toNat : Nat) : Int) = i by omega, show tu - 2 + 2 = tu by omega, ← hm] at h3
  exact h3 (by omega) (by omega)
theorem BM_add {k c m : Int} {T : Nat → Int → Int} (B : BMI k c T m) (hm : 0 ≤ m ∧ m < 91) : BMI k c (sA (sA (sA (sA (sA (sA T 1 (fU (T 1) (T 0 2) (TA m))) 2 (fU (T 2) (T 0 2) (TD m))) 3 (fU (T 3) (T 0 2) (TR m))) 4 (fU (T 4) (T 0 2) 0)) 5 (fU (T 5) (11 * (TD m + 5) + TA m + 5) (T 0 2))) 0 (fU (T 0) 2 (T 0 2 + 1))) (m + 1) := by
  obtain ⟨b0, b1, b2, b3, b4, b5⟩ := B
  refine ⟨b0, b1, (by show T 0 2 + 1 = m + 1; rw [b2]), fun j h0 h1 => ?_, fun j h0 h1 => ?_, b5⟩
  · show fU (T 1) (T 0 2) (TA m) j = TA j ∧ fU (T 2) (T 0 2) (TD m) j = TD j ∧ fU (T 3) (T 0 2) (TR m) j = TR j ∧ fU (T 4) (T 0 2) 0 j = 0
    rw [b2]
    by_cases e : j = m
    · rw [e, fU_at, fU_at, fU_at, fU_at]
      exact ⟨rfl, rfl, rfl, rfl⟩
    · rw [fU_ne _ _ _ e, fU_ne _ _ _ e, fU_ne _ _ _ e, fU_ne _ _ _ e]
      exact b3 j h0 (by omega)
  · show fU (T 5) (11 * (TD m + 5) + TA m + 5) (T 0 2) j = if TC j < m + 1 then TC j else -1
    rw [b2]
    by_cases e : j = 11 * (TD m + 5) + TA m + 5
    · rw [e, fU_at, (TC1 hm).1, if_pos (by omega)]
    · rw [fU_ne _ _ _ e, b4 j h0 h1]
      have h2 := TC2 ⟨h0, h1⟩
      have h3 : ¬ TC j = m := by
        intro h4
        rw [h4] at h2
        rcases h2 with h2 | h2
        · omega
        · exact e h2.symm
      by_cases h5 : TC j < m
      · rw [if_pos h5, if_pos (by omega)]
      · rw [if_neg h5, if_neg (by omega)]
theorem BM_0 (k : Int) (T : Nat → Int → Int) (h1 : T 0 1 = k) (h2 : T 0 2 = 0) (h3 : ∀ j, 0 ≤ j → j < 121 → T 5 j = -1) (h4 : ∀ j, 0 ≤ j → j < 546 → T 6 j = 0) : BMI k (T 0 0) T 0 := by
  refine ⟨rfl, h1, h2, fun j h0 h1 => by omega, fun j h0 h1 => ?_, h4⟩
  have := TC_b j
  rw [h3 j h0 h1]
  by_cases e : TC j < 0
  · rw [if_pos e]; omega
  · rw [if_neg e]
theorem BMI_HT {k c : Int} {T : Nat → Int → Int} (hk : 1 ≤ k ∧ k ≤ 5) (B : BMI k c T (FR (k + 1))) : HT T := by
  obtain ⟨b0, b1, b2, b3, b4, b5⟩ := B
  unfold HT
  rw [b1, b2]
  exact ⟨hk, rfl, fun j h0 h1 => ⟨(b3 j h0 h1).1, (b3 j h0 h1).2.1, (b3 j h0 h1).2.2.1⟩, b4⟩
theorem BT_0 {g : Int} (hg : 1 ≤ g ∧ g ≤ 5) : TA (FR g) = g ∧ TD (FR g) = 0 := by
  rcases (by omega : g = 1 ∨ g = 2 ∨ g = 3 ∨ g = 4 ∨ g = 5) with h | h | h | h | h <;> subst h <;> decide +kernel
theorem tu_s (tu g : Int) : (tu + 1 - 2) * g = (tu - 2) * g + g := by
  rw [show tu + 1 - 2 = (tu - 2) + 1 by omega, Int.add_mul, Int.one_mul]
