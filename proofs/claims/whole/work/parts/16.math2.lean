theorem LT_s (n : Int) (f h : Int → Int) {m : Int} (hm : 0 ≤ m) (j : Int) : LT n f h (m + 1) j = LT n f h m j + (if f m = 2 then sL (ind j) (beam n f h m) else 0) := sm_s (fun r => if f r = 2 then sL (ind j) (beam n f h r) else 0) hm
theorem LT_0 (n : Int) (f h : Int → Int) (j : Int) : LT n f h 0 j = 0 := sm_0 _ _
noncomputable def pI (P : Prop) : Int := @ite Int P (Classical.propDecidable P) 1 0
theorem pI_1 {P : Prop} (h : P) : pI P = 1 := @if_pos P (Classical.propDecidable P) h Int 1 0
theorem pI_0 {P : Prop} (h : ¬ P) : pI P = 0 := @if_neg P (Classical.propDecidable P) h Int 1 0
theorem pI_c {P R : Prop} (h : P ↔ R) : pI P = pI R := by
  by_cases p : P
  · rw [pI_1 p, pI_1 (h.mp p)]
  · rw [pI_0 p, pI_0 (fun q => p (h.mpr q))]
noncomputable def PC (n : Int) (f h : Int → Int) (m : Int) : Int := sm (fun r => pI (¬ f r = 1 ∧ ∀ i, 0 ≤ i → i < r → ¬ f i = 1 → ∀ t, ¬ PT n f h t i r)) 0 m
theorem PC_s (n : Int) (f h : Int → Int) {m : Int} (hm : 0 ≤ m) : PC n f h (m + 1) = PC n f h m + pI (¬ f m = 1 ∧ ∀ i, 0 ≤ i → i < m → ¬ f i = 1 → ∀ t, ¬ PT n f h t i m) := sm_s (fun r => pI (¬ f r = 1 ∧ ∀ i, 0 ≤ i → i < r → ¬ f i = 1 → ∀ t, ¬ PT n f h t i r)) hm
def VS (n : Int) (f h D : Int → Int) (r : Int) : Prop := ∀ j, 0 ≤ j → j < n → (¬ D j = -1 ↔ ∃ i t, (0 ≤ i ∧ i < r) ∧ ¬ f i = 1 ∧ PT n f h t i j)
theorem VS_0 (n : Int) (f h D : Int → Int) (hD : ∀ j, 0 ≤ j → j < n → D j = -1) : VS n f h D 0 := by
  intro j h1 h2
  constructor
  · intro h3
    exact absurd (hD j h1 h2) h3
  · rintro ⟨i, t, h3, _⟩
    omega
theorem VS_cl {n : Int} {f h D : Int → Int} {r : Int} (V : VS n f h D r) : CL n f h D := by
  intro j h1 h2 h3 s h4 h5
  by_cases c : ON n f h j s = -1
  · exact Or.inl c
  · refine Or.inr ?_
    have hb := ON_b n f h j s
    obtain ⟨i, t, h6, h7, h8⟩ := (V j h1 h2).mp h3
    exact (V _ (by omega) (by omega)).mpr ⟨i, t + 1, h6, h7, j, s, ⟨h4, h5⟩, h8, rfl, c⟩
theorem VS_wall {n : Int} {f h D : Int → Int} {r : Int} (V : VS n f h D r) (hr : f r = 1) : VS n f h D (r + 1) := by
  intro j h1 h2
  refine (V j h1 h2).trans ⟨?_, ?_⟩
  · rintro ⟨i, t, h3, h4, h5⟩
    exact ⟨i, t, by omega, h4, h5⟩
  · rintro ⟨i, t, h3, h4, h5⟩
    have : ¬ i = r := fun e => h4 (by rw [e]; exact hr)
    exact ⟨i, t, by omega, h4, h5⟩
theorem VS_old {n : Int} {f h D : Int → Int} {r : Int} (V : VS n f h D r) (hr : 0 ≤ r ∧ r < n) (hD : ¬ D r = -1) : VS n f h D (r + 1) := by
  obtain ⟨i0, t0, g1, g2, g3⟩ := (V r hr.1 hr.2).mp hD
  intro j h1 h2
  refine (V j h1 h2).trans ⟨?_, ?_⟩
  · rintro ⟨i, t, h3, h4, h5⟩
    exact ⟨i, t, by omega, h4, h5⟩
  · rintro ⟨i, t, h3, h4, h5⟩
    by_cases e : i = r
    · rw [e] at h5
      exact ⟨i0, t0 + t, g1, g2, PT_add t t0 g3 h5⟩
    · exact ⟨i, t, by omega, h4, h5⟩
theorem VS_new {n : Int} {f h D D2 q : Int → Int} {r e : Int} (V : VS n f h D r) (hr : 0 ≤ r ∧ r < n) (hf : ¬ f r = 1) (B : BI n f h r D D2 q e e) : VS n f h D2 (r + 1) := by
  intro j h1 h2
  refine (BI_vis B (VS_cl V) hr ⟨h1, h2⟩).trans ⟨?_, ?_⟩
  · rintro (h3 | ⟨t, h3⟩)
    · obtain ⟨i, t, h4, h5, h6⟩ := (V j h1 h2).mp h3
      exact ⟨i, t, by omega, h5, h6⟩
    · exact ⟨r, t, by omega, hf, h3⟩
  · rintro ⟨i, t, h3, h4, h5⟩
    by_cases e1 : i = r
    · rw [e1] at h5
      exact Or.inr ⟨t, h5⟩
    · exact Or.inl ((V j h1 h2).mpr ⟨i, t, by omega, h4, h5⟩)
theorem VS_no {n : Int} {f h D : Int → Int} {r : Int} (V : VS n f h D r) (hr : 0 ≤ r ∧ r < n) (hD : D r = -1) : ∀ i, 0 ≤ i → i < r → ¬ f i = 1 → ∀ t, ¬ PT n f h t i r := by
  intro i h1 h2 h3 t p
  exact (V r hr.1 hr.2).mpr ⟨i, t, ⟨h1, h2⟩, h3, p⟩ hD
theorem VS_yes {n : Int} {f h D : Int → Int} {r : Int} (V : VS n f h D r) (hr : 0 ≤ r ∧ r < n) (hD : ¬ D r = -1) : ¬ ∀ i, 0 ≤ i → i < r → ¬ f i = 1 → ∀ t, ¬ PT n f h t i r := by
  intro hall
  obtain ⟨i, t, h1, h2, h3⟩ := (V r hr.1 hr.2).mp hD
  exact hall i h1.1 h1.2 h2 t h3
theorem BI_rng {n : Int} {f h : Int → Int} {a : Int} {D0 D q : Int → Int} {i e : Int} (B : BI n f h a D0 D q i e) (hn : n ≤ 91) (h0 : ∀ j, 0 ≤ j → j < n → -1 ≤ D0 j ∧ D0 j ≤ 90) : ∀ j, 0 ≤ j → j < n → -1 ≤ D j ∧ D j ≤ 90 := by
  intro j h1 h2
  have h3 := h0 j h1 h2
  rcases BI_back B ⟨h1, h2⟩ with e1 | ⟨h4, _, _⟩
  · rw [e1]; exact h3
  · omega
