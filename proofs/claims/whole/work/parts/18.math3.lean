def LK (S : Nat → Int → Int) : Prop := ∀ j, 0 ≤ j → j < S 0 10 → S 9 j = LT (S 0 10) (S 7) (S 8) (S 0 10) j
def UP (S S2 : Nat → Int → Int) (f h : Int → Int) : Prop := S2 0 = S 0 ∧ S2 7 = f ∧ S2 8 = h ∧ LK S2
theorem HS.hf {S : Nat → Int → Int} (H : HS S) : ∀ j, 0 ≤ j → j < S 0 10 → 0 ≤ S 7 j ∧ S 7 j ≤ 2 := fun j h0 h1 => H.2.2.1 j h0 (by have := H.n; omega)
theorem HS.hh {S : Nat → Int → Int} (H : HS S) : ∀ j, 0 ≤ j → j < 546 → 0 ≤ S 8 j ∧ S 8 j ≤ 1 := H.2.2.2
theorem mul_5 {x y : Int} (hx : 0 ≤ x ∧ x ≤ 5) (hy : 0 ≤ y ∧ y ≤ 5) : 0 ≤ x * y ∧ x * y ≤ 25 := by
  rcases (by omega : x = 0 ∨ x = 1 ∨ x = 2 ∨ x = 3 ∨ x = 4 ∨ x = 5) with h | h | h | h | h | h <;> subst h <;> omega
theorem FR_0 : FR 0 = 0 := by decide
theorem LK.b {S : Nat → Int → Int} (L : LK S) (hn : 7 ≤ S 0 10 ∧ S 0 10 ≤ 91) : ∀ j, 0 ≤ j → j < S 0 10 → 0 ≤ S 9 j ∧ S 9 j ≤ 100000 := by
  intro j h0 h1
  have h2 := LT_b (S 0 10) (S 7) (S 8) (m := S 0 10) (by omega) j
  have h3 := L j h0 h1
  omega
theorem rot_in {k b : Int} {f g : Int → Int} (hk : 0 ≤ k ∧ k ≤ 5) {n lo hi : Int} (hn : FR k + SZ k ≤ n) (hf : ∀ j, 0 ≤ j → j < n → lo ≤ f j ∧ f j ≤ hi) (hg : ∀ j, 0 ≤ j → j < n → lo ≤ g j ∧ g j ≤ hi) : ∀ j, 0 ≤ j → j < n → lo ≤ rot k b f g j ∧ rot k b f g j ≤ hi := by
  intro j h0 h1
  unfold rot
  have hm := rot_m (b := b) hk (j - FR k - b)
  have hs := FR_SZ hk
  by_cases c : FR k ≤ j ∧ j < FR k + SZ k
  · rw [if_pos c]
    exact hf _ (by omega) (by omega)
  · rw [if_neg c]
    exact hg j h0 h1
theorem FR_m {k m : Int} (hk : 0 ≤ k ∧ k ≤ m) (hm : m ≤ 5) : FR k + SZ k ≤ FR (m + 1) := by
  have h1 := FR_SZ (k := k) (by omega)
  have h2 := FR_SZ (k := m) (by omega)
  have h3 := FR_s (k := m) (by omega)
  omega
theorem sm_pI (P : Int → Prop) {a b : Int} (hab : a ≤ b) : 0 ≤ sm (fun r => pI (P r)) a b ∧ sm (fun r => pI (P r)) a b ≤ 1 * (b - a) := sm_le hab (fun j _ _ => by
  show 0 ≤ pI (P j) ∧ pI (P j) ≤ 1
  by_cases c : P j
  · rw [pI_1 c]; omega
  · rw [pI_0 c]; omega)
theorem sm_if {P : Int → Prop} [d : DecidablePred P] {a b : Int} (hab : a ≤ b) : 0 ≤ sm (fun r => if P r then 1 else 0) a b ∧ sm (fun r => if P r then 1 else 0) a b ≤ 1 * (b - a) := sm_le hab (fun j _ _ => by
  show 0 ≤ (if P j then (1 : Int) else 0) ∧ (if P j then (1 : Int) else 0) ≤ 1
  split <;> omega)
theorem fFm (f : Int → Int) {j : Int} (h : 0 ≤ j ∧ j < 91) : -1 ≤ fF f 91 (-1) j ∧ fF f 91 (-1) j ≤ 90 := by
  rw [show fF f 91 (-1) j = -1 from if_pos h]
  omega
