def HT (S : Nat → Int → Int) : Prop := (1 ≤ S 0 1 ∧ S 0 1 ≤ 5) ∧ S 0 2 = FR (S 0 1 + 1) ∧ (∀ j, 0 ≤ j → j < S 0 2 → S 1 j = TA j ∧ S 2 j = TD j ∧ S 3 j = TR j) ∧ (∀ j, 0 ≤ j → j < 121 → S 5 j = if TC j < S 0 2 then TC j else -1)
theorem HT.n {S : Nat → Int → Int} (h : HT S) : 7 ≤ S 0 2 ∧ S 0 2 ≤ 91 := by
  rw [h.2.1]
  exact FR_n h.1
def NXok : Bool := (List.range 91).all (fun r => (List.range 6).all (fun t => decide (TN ((r : Int) * 6 + t) = if (-5 ≤ TA r + stX t ∧ TA r + stX t ≤ 5) ∧ (-5 ≤ TD r + stY t ∧ TD r + stY t ≤ 5) then TC ((TD r + stY t + 5) * 11 + (TA r + stX t) + 5) else -1)))
theorem NXok_t : NXok = true := by decide +kernel
theorem NX_RXY (n : Int) {r t : Int} (hr : 0 ≤ r ∧ r < 91) (ht : 0 ≤ t ∧ t < 6) : RXY n (TA r + stX t) (TD r + stY t) = NX n r t := by
  have h := all2 (p := fun r t => decide (TN ((r : Int) * 6 + t) = if (-5 ≤ TA r + stX t ∧ TA r + stX t ≤ 5) ∧ (-5 ≤ TD r + stY t ∧ TD r + stY t ≤ 5) then TC ((TD r + stY t + 5) * 11 + (TA r + stX t) + 5) else -1)) NXok_t hr ht
  rw [decide_eq_true_eq] at h
  rw [show ((r.toNat : Nat) : Int) = r by omega, show ((t.toNat : Nat) : Int) = t by omega] at h
  unfold RXY NX
  rw [← h]
theorem stX_b (t : Int) : -1 ≤ stX t ∧ stX t ≤ 1 := by
  unfold stX
  split
  · omega
  · split
    · omega
    · split
      · omega
      · split
        · omega
        · split <;> omega
theorem stY_b (t : Int) : -1 ≤ stY t ∧ stY t ≤ 1 := by
  unfold stY
  split
  · omega
  · split
    · omega
    · split
      · omega
      · split
        · omega
        · split <;> omega
def mvP (k b : Int) (f g : Int → Int) (i : Int) : Int → Int := fun j => if (0 ≤ j ∧ j < SZ k) ∧ (j - b) % SZ k < i then f (FR k + (j - b) % SZ k) else g j
theorem mvP_0 (k b : Int) (f g : Int → Int) (hk : 0 ≤ k ∧ k ≤ 5) : mvP k b f g 0 = g := by
  funext j
  unfold mvP
  have := rot_m (b := b) hk (j - b)
  rw [if_neg (by omega)]
theorem mvP_s {k b : Int} (f g : Int → Int) {i : Int} (hk : 0 ≤ k ∧ k ≤ 5) (hi : 0 ≤ i ∧ i < SZ k) : fU (mvP k b f g i) ((i + b) % SZ k) (f (FR k + i)) = mvP k b f g (i + 1) := by
  funext j
  unfold fU mvP
  have hm := rot_m (b := b) hk (i + b)
  by_cases c : 0 ≤ j ∧ j < SZ k
  · have h1 := rot_n (F := 0) (b := b) (SZ_6 hk) hi (j := j) (by omega)
    rw [Int.sub_zero, Int.zero_add] at h1
    by_cases e : j = (i + b) % SZ k
    · have h2 := h1.mpr e
      rw [if_pos e, if_pos ⟨c, by omega⟩, h2]
    · have h2 : ¬ (j - b) % SZ k = i := fun q => e (h1.mp q)
      rw [if_neg e]
      by_cases c2 : (j - b) % SZ k < i
      · rw [if_pos ⟨c, c2⟩, if_pos ⟨c, by omega⟩]
      · rw [if_neg (fun q => c2 q.2), if_neg (by omega)]
  · rw [if_neg (by omega), if_neg (fun q => c q.1), if_neg (fun q => c q.1)]
theorem mvP_n (k b : Int) (f g : Int → Int) (hk : 0 ≤ k ∧ k ≤ 5) : fC (mvP k b f g (SZ k)) f 0 (FR k) (SZ k) = rot k b f f := by
  funext j
  unfold fC rot mvP
  by_cases c : FR k ≤ j ∧ j < FR k + SZ k
  · have hm := rot_m (b := b) hk (0 + (j - FR k) - b)
    rw [if_pos c, if_pos c, if_pos (by omega), show 0 + (j - FR k) - b = j - FR k - b by omega]
  · rw [if_neg c, if_neg c]
theorem AT_0 (f : Int → Int) (b : Int) : AT f b 0 = f 0 := by
  unfold AT
  rw [show TR 0 = 0 by decide +kernel, show FR 0 = 0 by decide, show SZ 0 = 1 by decide]
  congr 1
  omega
theorem AT_rot2 {f g : Int → Int} {k b j : Int} (hk : 0 ≤ k ∧ k ≤ 5) (h : FR k ≤ j ∧ j < FR k + SZ k) (hg : ∀ i, FR k ≤ i → i < FR k + SZ k → g i = f i) : rot k (k * b) g g j = AT f b j := by
  have hm := rot_m (b := b) hk (j - FR k - k * b)
  unfold rot AT
  rw [if_pos h, TR_u hk h, hg _ (by omega) (by omega)]
theorem rot_out {k b j : Int} {f g : Int → Int} (h : ¬ (FR k ≤ j ∧ j < FR k + SZ k)) : rot k b f g j = g j := if_neg h
theorem rot_inv {k b : Int} (f : Int → Int) (hk : 0 ≤ k ∧ k ≤ 5) : rot k (SZ k - b) (rot k b f f) (rot k b f f) = f := by
  funext j
  unfold rot
  by_cases c : FR k ≤ j ∧ j < FR k + SZ k
  · have hm := rot_m (b := b) hk (j - FR k - (SZ k - b))
    rw [if_pos c, if_pos (by omega)]
    congr 1
    have h6 := SZ_6 hk
    rcases h6 with h | h | h | h | h | h <;> rw [h] at c hm ⊢ <;> omega
  · rw [if_neg c, if_neg c]
def UM (S S2 : Nat → Int → Int) (f h : Int → Int) (c : Int) : Prop := S2 0 = fU (S 0) 0 c ∧ S2 1 = S 1 ∧ S2 2 = S 2 ∧ S2 3 = S 3 ∧ S2 4 = f ∧ S2 5 = S 5 ∧ S2 6 = h
theorem sm_shift (g : Int → Int) (F : Int) {m : Int} (hm : 0 ≤ m) : sm (fun j => g (F + j)) 0 m = sm g F (F + m) := by
  refine sm_ind (P := fun m => sm (fun j => g (F + j)) 0 m = sm g F (F + m)) (by rw [sm_0, Int.add_zero, sm_0]) (fun b hb ih => ?_) m hm
  rw [sm_s _ hb, ← Int.add_assoc, sm_s g (by omega : F ≤ F + b), ih]
theorem sm_split (g : Int → Int) {a b c : Int} (hab : a ≤ b) (hbc : b ≤ c) : sm g a c = sm g a b + sm g b c := by
  refine sm_ind (P := fun c => sm g a c = sm g a b + sm g b c) (by rw [sm_0]; omega) (fun d hd ih => ?_) c hbc
  rw [sm_s g (by omega : a ≤ d), sm_s g hd, ih]
  omega
theorem sm_zero {g : Int → Int} {a b : Int} (h : ∀ j, a ≤ j → j < b → g j = 0) : sm g a b = 0 := by
  by_cases hab : a ≤ b
  · have h1 : sm g a b = sm (fun _ => 0) a b := sm_cong h
    have h2 := sm_le (g := fun _ => (0 : Int)) (c := 0) hab (fun _ _ _ => by omega)
    rw [h1]
    omega
  · exact sm_out g (by omega)
theorem sm_ring {v k m : Int} (f : Int → Int) (hk : 0 ≤ k ∧ k ≤ m) (hm : m ≤ 5) : sm (fun j => if (k = -1 ∨ TR j = k) ∧ f j = v then 1 else 0) 0 (FR (m + 1)) = sm (fun j => if f j = v then 1 else 0) (FR k) (FR k + SZ k) := by
  have h1 := FR_m hk hm
  have h2 := FR_SZ (k := k) (by omega)
  have h3 : FR (m + 1) ≤ 91 := by
    by_cases c : 1 ≤ m
    · exact (FR_n ⟨c, hm⟩).2
    · have : m = 0 := by omega
      subst this
      decide
  rw [sm_split _ (a := 0) (b := FR k) (c := FR (m + 1)) (by omega) (by omega), sm_split _ (a := FR k) (b := FR k + SZ k) (c := FR (m + 1)) (by omega) h1]
  have z1 : sm (fun j => if (k = -1 ∨ TR j = k) ∧ f j = v then (1 : Int) else 0) 0 (FR k) = 0 := sm_zero (fun j g0 g1 => if_neg (fun q => by
    have h4 := TR_r (j := j) (by omega)
    have h5 : TR j = k := by omega
    rw [h5] at h4
    omega))
  have z2 : sm (fun j => if (k = -1 ∨ TR j = k) ∧ f j = v then (1 : Int) else 0) (FR k + SZ k) (FR (m + 1)) = 0 := sm_zero (fun j g0 g1 => if_neg (fun q => by
    have h4 := TR_r (j := j) (by omega)
    have h5 : TR j = k := by omega
    rw [h5] at h4
    omega))
  have z3 : sm (fun j => if (k = -1 ∨ TR j = k) ∧ f j = v then (1 : Int) else 0) (FR k) (FR k + SZ k) = sm (fun j => if f j = v then 1 else 0) (FR k) (FR k + SZ k) := sm_cong (fun j g0 g1 => by
    have h4 := TR_u (j := j) (k := k) (by omega) ⟨g0, g1⟩
    show (if (k = -1 ∨ TR j = k) ∧ f j = v then (1 : Int) else 0) = if f j = v then 1 else 0
    by_cases c : f j = v
    · rw [if_pos ⟨Or.inr h4, c⟩, if_pos c]
    · rw [if_neg (fun q => c q.2), if_neg c])
  rw [z1, z2, z3]
  omega
