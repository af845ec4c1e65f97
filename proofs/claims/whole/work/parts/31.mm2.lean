theorem mul_6 {x y : Int} (hx : 0 ≤ x ∧ x ≤ 5) (hy : 0 ≤ y ∧ y ≤ 6) : 0 ≤ x * y ∧ x * y ≤ 30 := by
  rcases (by omega : x = 0 ∨ x = 1 ∨ x = 2 ∨ x = 3 ∨ x = 4 ∨ x = 5) with h | h | h | h | h | h <;> subst h <;> omega
theorem fU_fU (f : Int → Int) (i a b : Int) : fU (fU f i a) i b = fU f i b := by
  funext j
  show (if j = i then b else if j = i then a else f j) = if j = i then b else f j
  by_cases e : j = i
  · rw [if_pos e, if_pos e]
  · rw [if_neg e, if_neg e, if_neg e]
theorem PCm_s (n : Int) (f h : Int → Int) {m : Int} (hm : 0 ≤ m) : PCm n f h (m + 1) = PCm n f h m + pI (¬ f m = 1 ∧ ∀ i, 0 ≤ i → i < m → ∀ t, ¬ PT n f h t m i) := sm_s (fun r => pI (¬ f r = 1 ∧ ∀ i, 0 ≤ i → i < r → ∀ t, ¬ PT n f h t r i)) hm
theorem PCm_0 (n : Int) (f h : Int → Int) : PCm n f h 0 = 0 := sm_0 _ _
theorem dR_m1 {n : Int} {f h : Int → Int} {a b d : Int} (p : dR n f h a b d) : d = -1 ↔ ∀ t, ¬ PT n f h t a b := by
  constructor
  · intro e
    rcases p with ⟨_, p⟩ | ⟨p, _⟩
    · exact p
    · omega
  · intro e
    rcases p with ⟨p, _⟩ | ⟨_, p, _⟩
    · exact p
    · exact absurd p (e _)
theorem sA3_self (S : Nat → Int → Int) : sA (sA (sA S 7 (S 7)) 8 (S 8)) 9 (S 9) = S := by
  rw [sA_self, sA_self, sA_self]
theorem sA3_7 (S : Nat → Int → Int) (L : Int → Int) : sA (sA (sA S 7 L) 8 (S 8)) 9 (S 9) = sA S 7 L := by
  rw [show sA (sA S 7 L) 8 (S 8) = sA S 7 L from sA_self (sA S 7 L) 8]
  exact sA_self (sA S 7 L) 9
theorem sA3_8 (S : Nat → Int → Int) (D u : Int → Int) : sA (sA (sA S 7 (S 7)) 8 D) 9 u = sA (sA S 8 D) 9 u := by
  rw [sA_self]
theorem fU_bk {f : Int → Int} {r v : Int} (h : f r = 0) : fU (fU f r v) r 0 = f := by
  rw [fU_fU]
  funext j
  show (if j = r then 0 else f j) = f j
  by_cases e : j = r
  · rw [if_pos e, e, h]
  · rw [if_neg e]
theorem AT_in2 {k n : Int} (hk : 1 ≤ k ∧ k ≤ 5) (hn : n = FR (k + 1)) {f g : Int → Int} {b : Int} (hf : ∀ j, 0 ≤ j → j < n → 0 ≤ f j ∧ f j ≤ 2) (hg : ∀ j, 0 ≤ j → j < n → g j = AT f b j) : ∀ j, 0 ≤ j → j < n → 0 ≤ g j ∧ g j ≤ 2 := by
  intro j h0 h1
  have hn2 := FR_n hk
  have h2 := TR_r (j := j) (by omega)
  have h3 := TR_b j
  have h4 := FR_SZ (k := TR j) h3
  have hm := rot_m (k := TR j) (b := 0) h3 (j - FR (TR j) - TR j * b)
  have h6 : TR j ≤ k := by
    refine Classical.byContradiction fun q => ?_
    have h7 := FR_m (k := k) (m := TR j - 1) (by omega) (by omega)
    rw [show TR j - 1 + 1 = TR j by omega] at h7
    have h8 := FR_s (k := k) (by omega)
    omega
  have h9 := FR_m (k := TR j) (m := k) (by omega) hk.2
  rw [hg j h0 h1]
  exact hf _ (by omega) (by omega)
