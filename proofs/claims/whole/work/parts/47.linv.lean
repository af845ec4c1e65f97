/-! what the two sides have in common -/
def LI (S T : Nat → Int → Int) : Prop := HS S ∧ LK S ∧ HT T ∧ T 0 1 = S 0 9 ∧ T 0 2 = S 0 10 ∧ (∀ j, 0 ≤ j → j < S 0 10 → T 4 j = S 7 j) ∧ (∀ j, 0 ≤ j → j < 546 → T 6 j = S 8 j) ∧ SYM (S 0 10) (S 8)
theorem LI.hf {S T : Nat → Int → Int} (L : LI S T) : ∀ j, 0 ≤ j → j < T 0 2 → 0 ≤ T 4 j ∧ T 4 j ≤ 2 := by
  obtain ⟨H, _, _, _, e2, e4, _, _⟩ := L
  intro j h0 h1
  rw [e4 j h0 (by omega)]
  exact H.hf j h0 (by omega)
theorem LI.hh {S T : Nat → Int → Int} (L : LI S T) : ∀ j, 0 ≤ j → j < 546 → 0 ≤ T 6 j ∧ T 6 j ≤ 1 := by
  obtain ⟨H, _, _, _, e2, e4, e6, _⟩ := L
  intro j h0 h1
  rw [e6 j h0 h1]
  exact H.hh j h0 h1
theorem LI.ef {S T : Nat → Int → Int} (L : LI S T) : ∀ j, 0 ≤ j → j < S 0 10 → T 4 j = S 7 j := L.2.2.2.2.2.1
theorem LI.eh {S T : Nat → Int → Int} (L : LI S T) : ∀ j, 0 ≤ j → j < S 0 10 * 6 → T 6 j = S 8 j := by
  intro j h0 h1
  have := L.1.n
  exact L.2.2.2.2.2.2.1 j h0 (by omega)
theorem LI.Y {S T : Nat → Int → Int} (L : LI S T) : SYM (T 0 2) (T 6) := by
  have hn := L.1.n
  obtain ⟨H, _, _, _, e2, _, e6, Y⟩ := L
  rw [e2]
  intro r t h0 h1 h2 h3
  have hb := NX_b (S 0 10) r t
  have y := Y r t h0 h1 h2 h3
  refine ⟨fun c => ?_, fun c => ?_⟩
  · rw [e6 _ (by omega) (by omega)]
    exact y.1 c
  · rw [e6 _ (by omega) (by omega), e6 _ (by omega) (by omega)]
    exact y.2 c
theorem LI_up {S T S2 T2 : Nat → Int → Int} {f h f' h' : Int → Int} {c : Int} (L : LI S T) (U : UP S S2 f h) (V : UM T T2 f' h' c) (e1 : ∀ j, 0 ≤ j → j < S 0 10 → f' j = f j) (e2 : ∀ j, 0 ≤ j → j < 546 → h' j = h j) (bf : ∀ j, 0 ≤ j → j < 91 → 0 ≤ f j ∧ f j ≤ 2) (bh : ∀ j, 0 ≤ j → j < 546 → 0 ≤ h j ∧ h j ≤ 1) (Y : SYM (S 0 10) h) : LI S2 T2 ∧ T2 0 0 = c := by
  obtain ⟨H, K, M, k1, k2, _, _, _⟩ := L
  obtain ⟨u0, u7, u8, uK⟩ := U
  obtain ⟨v0, v1, v2, v3, v4, v5, v6⟩ := V
  have a1 : T2 0 1 = T 0 1 := by rw [v0]; rfl
  have a2 : T2 0 2 = T 0 2 := by rw [v0]; rfl
  refine ⟨⟨⟨by rw [u0]; exact H.1, by rw [u0]; exact H.2.1, by rw [u7]; exact bf, by rw [u8]; exact bh⟩, uK, ⟨by rw [a1]; exact M.1, by rw [a1, a2]; exact M.2.1, fun j h0 h1 => ?_, fun j h0 h1 => ?_⟩, by rw [a1, u0]; exact k1, by rw [a2, u0]; exact k2, fun j h0 h1 => ?_, fun j h0 h1 => ?_, by rw [u0, u8]; exact Y⟩, by rw [v0]; rfl⟩
  · rw [v1, v2, v3]
    exact M.2.2.1 j h0 (by rw [← a2]; exact h1)
  · rw [v5, a2]
    exact M.2.2.2 j h0 h1
  · rw [v4, u7]
    exact e1 j h0 (by rw [← u0]; exact h1)
  · rw [v6, u8]
    exact e2 j h0 h1
theorem LI_same {S T S2 T2 : Nat → Int → Int} {c : Int} (L : LI S T) (U : UP S S2 (S 7) (S 8)) (V : UM T T2 (T 4) (T 6) c) : LI S2 T2 ∧ T2 0 0 = c :=
  LI_up L U V L.ef L.2.2.2.2.2.2.1 L.1.2.2.1 L.1.2.2.2 L.2.2.2.2.2.2.2
theorem LI_bad {S T S2 T2 : Nat → Int → Int} {c : Int} (L : LI S T) (U : S2 = S) (V : UM T T2 (T 4) (T 6) c) : LI S2 T2 ∧ T2 0 0 = c := by
  subst U
  exact LI_same L ⟨rfl, rfl, rfl, L.2.1⟩ V
theorem fU2 (h : Int → Int) (a c b j : Int) : fU (fU h a b) c b j = if j = a ∨ j = c then b else h j := by
  show (if j = c then b else if j = a then b else h j) = _
  by_cases e : j = c
  · rw [if_pos e, if_pos (Or.inr e)]
  · rw [if_neg e]
    by_cases e2 : j = a
    · rw [if_pos e2, if_pos (Or.inl e2)]
    · rw [if_neg e2, if_neg (fun w => w.elim e2 e)]
theorem SYM_shut {n : Int} {h : Int → Int} (hn : n ≤ 91) (Y : SYM n h) {r t b : Int} (hr : 0 ≤ r ∧ r < n) (ht : 0 ≤ t ∧ t < 6) (hx : ¬ NX n r t = -1) : SYM n (fU (fU h (r * 6 + t) b) (NX n r t * 6 + (t + 3) % 6) b) := by
  have hs := NX_sym hn hr ht hx
  have hb := NX_b n r t
  obtain ⟨x, hx2⟩ : ∃ x, x = NX n r t := ⟨_, rfl⟩
  rw [← hx2] at hs hb hx ⊢
  intro r2 t2 h0 h1 h2 h3
  have y := Y r2 t2 h0 h1 h2 h3
  rw [fU2, fU2]
  refine ⟨fun c => ?_, fun c => ?_⟩
  · rw [if_neg]
    · exact y.1 c
    · rintro (e | e)
      · have e1 : r2 = r := by omega
        have e2 : t2 = t := by omega
        rw [e1, e2, ← hx2] at c
        exact hx c
      · have e1 : r2 = x := by omega
        have e2 : t2 = (t + 3) % 6 := by omega
        rw [e1, e2, hs] at c
        omega
  · have hs2 := NX_sym hn ⟨h0, h1⟩ ⟨h2, h3⟩ c
    have hb2 := NX_b n r2 t2
    have y2 := y.2 c
    obtain ⟨x2, hx3⟩ : ∃ x2, x2 = NX n r2 t2 := ⟨_, rfl⟩
    rw [← hx3] at hs2 hb2 y2 c ⊢
    by_cases k1 : r2 * 6 + t2 = r * 6 + t ∨ r2 * 6 + t2 = x * 6 + (t + 3) % 6
    · rw [if_pos k1, if_pos]
      rcases k1 with e | e
      · have e1 : r2 = r := by omega
        have e2 : t2 = t := by omega
        rw [e1, e2, ← hx2] at hx3
        right
        omega
      · have e1 : r2 = x := by omega
        have e2 : t2 = (t + 3) % 6 := by omega
        rw [e1, e2, hs] at hx3
        left
        omega
    · rw [if_neg k1, if_neg]
      · exact y2
      · rintro (e | e)
        · have e1 : x2 = r := by omega
          have e2 : (t2 + 3) % 6 = t := by omega
          rw [e1, e2, ← hx2] at hs2
          omega
        · have e1 : x2 = x := by omega
          have e2 : (t2 + 3) % 6 = (t + 3) % 6 := by omega
          rw [e1, e2, hs] at hs2
          omega
theorem LI_set {S2 T2 : Nat → Int → Int} {k : Int} (hk : 1 ≤ k ∧ k ≤ 5) (a1 : S2 0 9 = k) (a2 : S2 0 10 = FR (k + 1)) (a3 : ∀ j, 0 ≤ j → j < 91 → S2 7 j = 0) (a4 : ∀ j, 0 ≤ j → j < 546 → S2 8 j = 0) (a5 : LK S2) {c : Int} (B : BMI k c T2 (FR (k + 1))) : LI S2 T2 ∧ T2 0 0 = c := by
  have hn := FR_n hk
  have HTB := BMI_HT hk B
  obtain ⟨b0, b1, b2, b3, b4, b5⟩ := B
  refine ⟨⟨⟨by rw [a1]; exact hk, by rw [a1, a2], fun j h0 h1 => by rw [a3 j h0 h1]; omega, fun j h0 h1 => by rw [a4 j h0 h1]; omega⟩, a5, HTB, by rw [b1, a1], by rw [b2, a2], fun j h0 h1 => ?_, fun j h0 h1 => ?_, fun r t h0 h1 h2 h3 => ?_⟩, b0⟩
  · rw [a2] at h1
    rw [(b3 j h0 h1).2.2.2, a3 j h0 (by omega)]
  · rw [b5 j h0 h1, a4 j h0 h1]
  · rw [a2] at h1 ⊢
    have hb := NX_b (FR (k + 1)) r t
    refine ⟨fun _ => a4 _ (by omega) (by omega), fun c => ?_⟩
    rw [a4 _ (by omega) (by omega), a4 _ (by omega) (by omega)]
