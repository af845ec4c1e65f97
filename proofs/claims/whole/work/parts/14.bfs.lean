theorem fb_holes : ∀ (m n : Nat) (f : Nat → Nat), (∀ i, i < n → f i < m) → (∀ i j, i < j → j < n → f i ≠ f j) → n ≤ m := by
  intro m
  induction m with
  | zero =>
    intro n f h1 _
    rcases Nat.eq_zero_or_pos n with h | h
    · omega
    · exact absurd (h1 0 h) (Nat.not_lt_zero _)
  | succ m ih =>
    intro n f h1 h2
    by_cases hx : ∃ i, i < n ∧ f i = m
    · obtain ⟨a, ha, hfa⟩ := hx
      have hg := ih (n - 1) (fun i => if i < a then f i else f (i + 1)) (by
        intro i hi
        by_cases q : i < a
        · simp only [if_pos q]
          have b1 := h1 i (by omega)
          have b2 := h2 i a q ha
          omega
        · simp only [if_neg q]
          have b1 := h1 (i + 1) (by omega)
          have b2 := h2 a (i + 1) (by omega) (by omega)
          omega) (by
        intro i j hij hj
        by_cases q : i < a
        · by_cases r : j < a
          · simp only [if_pos q, if_pos r]
            exact h2 i j hij (by omega)
          · simp only [if_pos q, if_neg r]
            exact h2 i (j + 1) (by omega) (by omega)
        · have r : ¬ j < a := by omega
          simp only [if_neg q, if_neg r]
          exact h2 (i + 1) (j + 1) (by omega) (by omega))
      omega
    · have hg := ih n f (fun i hi => by
        have b1 := h1 i hi
        have b2 : f i ≠ m := fun e => hx ⟨i, hi, e⟩
        omega) h2
      omega
section BFS
variable (n : Int) (f h : Int → Int)
def PT : Nat → Int → Int → Prop
  | 0, a, b => a = b
  | t + 1, a, b => ∃ c s : Int, (0 ≤ s ∧ s < 6) ∧ PT t a c ∧ ON n f h c s = b ∧ ¬ b = -1
def PRO (D0 D q : Int → Int) (t s : Int) : Prop := ON n f h (q t) s = -1 ∨ (¬ D (ON n f h (q t) s) = -1 ∧ (¬ D0 (ON n f h (q t) s) = -1 ∨ D (ON n f h (q t) s) ≤ D (q t) + 1))
def BI (a : Int) (D0 D q : Int → Int) (i e : Int) : Prop :=
  (0 ≤ i ∧ i ≤ e ∧ 1 ≤ e) ∧ (q 0 = a ∧ D a = 0) ∧
  (∀ t, 0 ≤ t → t < e → (0 ≤ q t ∧ q t < n) ∧ D0 (q t) = -1 ∧ (0 ≤ D (q t) ∧ D (q t) ≤ t) ∧ PT n f h (D (q t)).toNat a (q t)) ∧
  (∀ t u, 0 ≤ t → t < u → u < e → ¬ q t = q u) ∧
  (∀ j, 0 ≤ j → j < n → D j = D0 j ∨ ∃ t, 0 ≤ t ∧ t < e ∧ q t = j) ∧
  (∀ t u, 0 ≤ t → t ≤ u → u < e → D (q t) ≤ D (q u)) ∧
  (i < e → ∀ t, 0 ≤ t → t < e → D (q t) ≤ D (q i) + 1) ∧
  (∀ t s, 0 ≤ t → t < i → 0 ≤ s → s < 6 → PRO n f h D0 D q t s)
def dR (a b d : Int) : Prop := (d = -1 ∧ ∀ t, ¬ PT n f h t a b) ∨ ((0 ≤ d ∧ d ≤ 90) ∧ PT n f h d.toNat a b ∧ ∀ t : Nat, PT n f h t a b → d ≤ t)
end BFS
theorem PT_rng {n : Int} {f h : Int → Int} {a : Int} (ha : 0 ≤ a ∧ a < n) : ∀ (t : Nat) {b : Int}, PT n f h t a b → 0 ≤ b ∧ b < n
  | 0, b, p => by
    have : a = b := p
    omega
  | t + 1, b, p => by
    obtain ⟨c, s, _, _, e, hb⟩ := p
    have := ON_b n f h c s
    omega
theorem PT_add {n : Int} {f h : Int → Int} {a b : Int} : ∀ (u t : Nat) {c : Int}, PT n f h t a b → PT n f h u b c → PT n f h (t + u) a c
  | 0, t, c, p, r => by
    have : b = c := r
    rw [← this]
    exact p
  | u + 1, t, c, p, r => by
    obtain ⟨d, s, hs, q, e, hc⟩ := r
    exact ⟨d, s, hs, PT_add u t p q, e, hc⟩
theorem PT_1 {n : Int} {f h : Int → Int} {a s : Int} (hs : 0 ≤ s ∧ s < 6) (hb : ¬ ON n f h a s = -1) : PT n f h 1 a (ON n f h a s) := ⟨a, s, hs, rfl, rfl, hb⟩
theorem PT_head {n : Int} {f h : Int → Int} {a : Int} : ∀ (t : Nat) {b : Int}, PT n f h (t + 1) a b → ∃ s : Int, (0 ≤ s ∧ s < 6) ∧ ¬ ON n f h a s = -1 ∧ PT n f h t (ON n f h a s) b
  | 0, b, p => by
    obtain ⟨c, s, hs, q, e, hb⟩ := p
    have : a = c := q
    subst this
    exact ⟨s, hs, by rw [e]; exact hb, e⟩
  | t + 1, b, p => by
    obtain ⟨c, s, hs, q, e, hb⟩ := p
    obtain ⟨s2, h2, h3, q2⟩ := PT_head t q
    exact ⟨s2, h2, h3, c, s, hs, q2, e, hb⟩
theorem dR_u {n : Int} {f h : Int → Int} {a b d d2 : Int} (p : dR n f h a b d) (r : dR n f h a b d2) : d = d2 := by
  rcases p with ⟨e, p⟩ | ⟨hd, p, pm⟩
  · rcases r with ⟨e2, r⟩ | ⟨hd2, r, rm⟩
    · omega
    · exact absurd r (p _)
  · rcases r with ⟨e2, r⟩ | ⟨hd2, r, rm⟩
    · exact absurd p (r _)
    · have h1 := pm _ r
      have h2 := rm _ p
      omega
theorem BI_init {n : Int} {f h : Int → Int} {a : Int} (ha : 0 ≤ a ∧ a < n) {D0 q0 : Int → Int} (h0 : D0 a = -1) : BI n f h a D0 (fU D0 a 0) (fU q0 0 a) 0 1 := by
  have hq : ∀ t, 0 ≤ t → t < 1 → fU q0 0 a t = a := by
    intro t h1 h2
    rw [show t = 0 by omega, fU_at]
  refine ⟨by omega, ⟨fU_at _ _ _, fU_at _ _ _⟩, fun t h1 h2 => ?_, fun t u h1 h2 h3 => by omega, fun j h1 h2 => ?_, fun t u h1 h2 h3 => ?_, fun _ t h1 h2 => ?_, fun t s h1 h2 _ _ => by omega⟩
  · rw [hq t h1 h2, fU_at]
    exact ⟨ha, h0, by omega, rfl⟩
  · by_cases e : j = a
    · exact Or.inr ⟨0, by omega, by omega, by rw [e, fU_at]⟩
    · exact Or.inl (fU_ne _ _ _ e)
  · rw [hq t h1 (by omega), hq u (by omega) h3]
    omega
  · rw [hq t h1 h2, hq 0 (by omega) (by omega)]
    omega
theorem BI_in {n : Int} {f h : Int → Int} {a : Int} {D0 D q : Int → Int} {i e : Int} (B : BI n f h a D0 D q i e) {t : Int} (h1 : 0 ≤ t) (h2 : t < e) : (0 ≤ q t ∧ q t < n) ∧ D0 (q t) = -1 ∧ (0 ≤ D (q t) ∧ D (q t) ≤ t) ∧ PT n f h (D (q t)).toNat a (q t) := B.2.2.1 t h1 h2
theorem BI_skip {n : Int} {f h : Int → Int} {a : Int} {D0 D q : Int → Int} {i e s : Int} (B : BI n f h a D0 D q i e) (hi : i < e) (hv : ON n f h (q i) s = -1 ∨ ¬ D (ON n f h (q i) s) = -1) : PRO n f h D0 D q i s := by
  rcases hv with hv | hv
  · exact Or.inl hv
  · have hb := ON_b n f h (q i) s
    by_cases c : ON n f h (q i) s = -1
    · exact Or.inl c
    · refine Or.inr ⟨hv, ?_⟩
      rcases B.2.2.2.2.1 _ (by omega) (by omega : ON n f h (q i) s < n) with e1 | ⟨t, h1, h2, h3⟩
      · exact Or.inl (by rw [← e1]; exact hv)
      · refine Or.inr ?_
        rw [← h3]
        exact B.2.2.2.2.2.2.1 hi t h1 h2
theorem BI_next {n : Int} {f h : Int → Int} {a : Int} {D0 D q : Int → Int} {i e : Int} (B : BI n f h a D0 D q i e) (hi : i < e) (hp : ∀ s, 0 ≤ s → s < 6 → PRO n f h D0 D q i s) : BI n f h a D0 D q (i + 1) e := by
  obtain ⟨b1, b2, b3, b4, b5, b6, b7, b8⟩ := B
  refine ⟨by omega, b2, b3, b4, b5, b6, fun hi2 t h1 h2 => ?_, fun t s h1 h2 h3 h4 => ?_⟩
  · have h3 := b7 hi t h1 h2
    have h4 := b6 i (i + 1) (by omega) (by omega) hi2
    omega
  · by_cases e1 : t = i
    · rw [e1]
      exact hp s h3 h4
    · exact b8 t s h1 (by omega) h3 h4
theorem BI_new {n : Int} {f h : Int → Int} {a : Int} {D0 D q : Int → Int} {i e x : Int} (B : BI n f h a D0 D q i e) (hx : D x = -1) : ∀ t, 0 ≤ t → t < e → ¬ q t = x := by
  intro t h1 h2 e1
  have := (BI_in B h1 h2).2.2.1
  rw [e1] at this
  omega
theorem BI_card {n : Int} {f h : Int → Int} {a : Int} {D0 D q : Int → Int} {i e : Int} (B : BI n f h a D0 D q i e) : e ≤ n := by
  have hn : 0 ≤ n := by
    have := (BI_in B (t := 0) (by omega) (by have := B.1; omega)).1
    omega
  have := fb_holes n.toNat e.toNat (fun t => (q t).toNat) (fun t ht => by
    have := (BI_in B (t := t) (by omega) (by omega)).1
    show (q t).toNat < n.toNat
    omega) (fun t u h1 h2 h3 => by
    have h4 := B.2.2.2.1 t u (by omega) (by omega) (by omega)
    have h5 := (BI_in B (t := t) (by omega) (by omega)).1
    have h6 := (BI_in B (t := u) (by omega) (by omega)).1
    have h7 : (q t).toNat = (q u).toNat := h3
    omega)
  omega
theorem BI_visit {n : Int} {f h : Int → Int} {a : Int} {D0 D q : Int → Int} {i e s : Int} (B : BI n f h a D0 D q i e) (hi : i < e) (hs : 0 ≤ s ∧ s < 6) (hb : ¬ ON n f h (q i) s = -1) (hv : D (ON n f h (q i) s) = -1) :
    BI n f h a D0 (fU D (ON n f h (q i) s) (D (q i) + 1)) (fU q e (ON n f h (q i) s)) i (e + 1) ∧ (∀ s2, 0 ≤ s2 → s2 < s → PRO n f h D0 D q i s2 → PRO n f h D0 (fU D (ON n f h (q i) s) (D (q i) + 1)) (fU q e (ON n f h (q i) s)) i s2) ∧ PRO n f h D0 (fU D (ON n f h (q i) s) (D (q i) + 1)) (fU q e (ON n f h (q i) s)) i s := by
  have hnew := BI_new B hv
  have B' := B
  obtain ⟨b1, b2, b3, b4, b5, b6, b7, b8⟩ := B
  have hr := ON_b n f h (q i) s
  obtain ⟨x, hx⟩ : ∃ x, x = ON n f h (q i) s := ⟨_, rfl⟩
  rw [← hx] at hb hv hr hnew ⊢
  have hq : ∀ t, t < e → fU q e x t = q t := fun t ht => fU_ne _ _ _ (by omega)
  have hD : ∀ t, 0 ≤ t → t < e → fU D x (D (q i) + 1) (q t) = D (q t) := fun t h1 h2 => fU_ne _ _ _ (hnew t h1 h2)
  have hqe : fU q e x e = x := fU_at _ _ _
  have hDx : fU D x (D (q i) + 1) x = D (q i) + 1 := fU_at _ _ _
  have hDi := (b3 i (by omega) hi).2.2
  have hD0 : D0 x = -1 := by
    rcases b5 x (by omega) (by omega) with e1 | ⟨t, h1, h2, h3⟩
    · rw [← e1]; exact hv
    · exact absurd h3 (hnew t h1 h2)
  have keep : ∀ t s2, 0 ≤ t → t < e → PRO n f h D0 D q t s2 → PRO n f h D0 (fU D x (D (q i) + 1)) (fU q e x) t s2 := by
    intro t s2 h1 h2 p
    unfold PRO at p ⊢
    rw [hq t h2, hD t h1 h2]
    rcases p with p | ⟨p1, p2⟩
    · exact Or.inl p
    · refine Or.inr ?_
      by_cases e1 : ON n f h (q t) s2 = x
      · rw [e1] at p1
        exact absurd hv p1
      · rw [fU_ne _ _ _ e1]
        exact ⟨p1, p2⟩
  refine ⟨⟨by omega, ⟨by rw [hq 0 (by omega)]; exact b2.1, ?_⟩, fun t h1 h2 => ?_, fun t u h1 h2 h3 => ?_, fun j h1 h2 => ?_, fun t u h1 h2 h3 => ?_, fun _ t h1 h2 => ?_, fun t s2 h1 h2 h3 h4 => keep t s2 h1 (by omega) (b8 t s2 h1 h2 h3 h4)⟩, fun s2 h1 h2 p => keep i s2 (by omega) hi p, ?_⟩
  · rw [fU_ne _ _ _ (fun e1 => by rw [← e1, b2.2] at hv; omega)]
    exact b2.2
  · by_cases e1 : t = e
    · rw [e1, hqe, hDx]
      refine ⟨by omega, hD0, by omega, ?_⟩
      rw [show (D (q i) + 1).toNat = (D (q i)).toNat + 1 by omega]
      exact ⟨q i, s, hs, (b3 i (by omega) hi).2.2.2, hx.symm, hb⟩
    · rw [hq t (by omega), hD t h1 (by omega)]
      exact b3 t h1 (by omega)
  · by_cases e1 : u = e
    · rw [e1, hqe, hq t (by omega)]
      exact hnew t h1 (by omega)
    · rw [hq t (by omega), hq u (by omega)]
      exact b4 t u h1 h2 (by omega)
  · by_cases e1 : j = x
    · exact Or.inr ⟨e, by omega, by omega, by rw [hqe, e1]⟩
    · rcases b5 j h1 h2 with e2 | ⟨t, h3, h4, h5⟩
      · exact Or.inl (by rw [fU_ne _ _ _ e1]; exact e2)
      · exact Or.inr ⟨t, h3, by omega, by rw [hq t h4]; exact h5⟩
  · by_cases e1 : u = e
    · rw [e1, hqe, hDx]
      by_cases e2 : t = e
      · rw [e2, hqe, hDx]
        omega
      · rw [hq t (by omega), hD t h1 (by omega)]
        exact b7 hi t h1 (by omega)
    · rw [hq t (by omega), hq u (by omega), hD t h1 (by omega), hD u (by omega) (by omega)]
      exact b6 t u h1 h2 (by omega)
  · rw [hq i hi, hD i (by omega) hi]
    by_cases e1 : t = e
    · rw [e1, hqe, hDx]
      omega
    · rw [hq t (by omega), hD t h1 (by omega)]
      exact b7 hi t h1 (by omega)
  · unfold PRO
    rw [hq i hi, hD i (by omega) hi, ← hx, hDx]
    exact Or.inr ⟨by omega, Or.inr (Int.le_refl _)⟩
theorem BI_end {n : Int} {f h : Int → Int} {a : Int} {D0 D q : Int → Int} {e : Int} (B : BI n f h a D0 D q e e) (hcl : ∀ j, 0 ≤ j → j < n → ¬ D0 j = -1 → ∀ s, 0 ≤ s → s < 6 → ON n f h j s = -1 ∨ ¬ D0 (ON n f h j s) = -1) (ha : 0 ≤ a ∧ a < n) : ∀ (t : Nat) (b : Int), PT n f h t a b → ¬ D b = -1 ∧ (¬ D0 b = -1 ∨ D b ≤ t)
  | 0, b, p => by
    have : a = b := p
    rw [← this, B.2.1.2]
    exact ⟨by omega, Or.inr (by omega)⟩
  | t + 1, b, p => by
    obtain ⟨c, s, hs, q1, e1, hb⟩ := p
    have hc := PT_rng ha t q1
    have hbr := ON_b n f h c s
    obtain ⟨i1, i2⟩ := BI_end B hcl ha t c q1
    have hkeep : ∀ j, 0 ≤ j → j < n → ¬ D0 j = -1 → ¬ D j = -1 := by
      intro j h1 h2 h3
      rcases B.2.2.2.2.1 j h1 h2 with e2 | ⟨u, h4, h5, h6⟩
      · rw [e2]; exact h3
      · have := (BI_in B h4 h5).2.2.1
        rw [h6] at this
        omega
    rw [e1] at hbr
    by_cases c0 : D0 c = -1
    · rcases B.2.2.2.2.1 c hc.1 hc.2 with e2 | ⟨u, h4, h5, h6⟩
      · rw [c0] at e2
        exact absurd e2 i1
      · have h7 := B.2.2.2.2.2.2.2 u s h4 h5 hs.1 hs.2
        unfold PRO at h7
        rw [h6, e1] at h7
        rcases h7 with h7 | ⟨h7, h8⟩
        · exact absurd h7 hb
        · refine ⟨h7, ?_⟩
          rcases i2 with i2 | i2
          · exact absurd c0 i2
          · omega
    · have h7 := hcl c hc.1 hc.2 c0 s hs.1 hs.2
      rw [e1] at h7
      rcases h7 with h7 | h7
      · exact absurd h7 hb
      · exact ⟨hkeep b (by omega) (by omega) h7, Or.inl h7⟩
theorem BI_back {n : Int} {f h : Int → Int} {a : Int} {D0 D q : Int → Int} {i e : Int} (B : BI n f h a D0 D q i e) {j : Int} (hj : 0 ≤ j ∧ j < n) : D j = D0 j ∨ ((0 ≤ D j ∧ D j ≤ n - 1) ∧ PT n f h (D j).toNat a j ∧ D0 j = -1) := by
  rcases B.2.2.2.2.1 j hj.1 hj.2 with e1 | ⟨t, h1, h2, h3⟩
  · exact Or.inl e1
  · refine Or.inr ?_
    have h4 := BI_in B h1 h2
    have h5 := BI_card B
    rw [h3] at h4
    exact ⟨by omega, h4.2.2.2, h4.2.1⟩
theorem BI_dR {n : Int} {f h : Int → Int} {a : Int} {D0 D q : Int → Int} {e : Int} (B : BI n f h a D0 D q e e) (hn : n ≤ 91) (h0 : ∀ j, 0 ≤ j → j < n → D0 j = -1) (ha : 0 ≤ a ∧ a < n) {j : Int} (hj : 0 ≤ j ∧ j < n) : dR n f h a j (D j) := by
  have hcl : ∀ j, 0 ≤ j → j < n → ¬ D0 j = -1 → ∀ s, 0 ≤ s → s < 6 → ON n f h j s = -1 ∨ ¬ D0 (ON n f h j s) = -1 := fun j h1 h2 h3 => absurd (h0 j h1 h2) h3
  have he := BI_end B hcl ha
  rcases BI_back B hj with e1 | ⟨h1, h2, h3⟩
  · refine Or.inl ⟨by rw [e1]; exact h0 j hj.1 hj.2, fun t p => (he t j p).1 (by rw [e1]; exact h0 j hj.1 hj.2)⟩
  · refine Or.inr ⟨by omega, h2, fun t p => ?_⟩
    rcases (he t j p).2 with h4 | h4
    · exact absurd h3 h4
    · exact h4
def CL (n : Int) (f h D0 : Int → Int) : Prop := ∀ j, 0 ≤ j → j < n → ¬ D0 j = -1 → ∀ s, 0 ≤ s → s < 6 → ON n f h j s = -1 ∨ ¬ D0 (ON n f h j s) = -1
theorem BI_vis {n : Int} {f h : Int → Int} {a : Int} {D0 D q : Int → Int} {e : Int} (B : BI n f h a D0 D q e e) (hcl : CL n f h D0) (ha : 0 ≤ a ∧ a < n) {j : Int} (hj : 0 ≤ j ∧ j < n) : ¬ D j = -1 ↔ (¬ D0 j = -1 ∨ ∃ t, PT n f h t a j) := by
  constructor
  · intro h1
    rcases BI_back B hj with e1 | ⟨_, h2, _⟩
    · exact Or.inl (by rw [← e1]; exact h1)
    · exact Or.inr ⟨_, h2⟩
  · intro h1
    rcases h1 with h1 | ⟨t, p⟩
    · rcases BI_back B hj with e1 | ⟨_, _, h3⟩
      · rw [e1]; exact h1
      · exact absurd h3 h1
    · exact (BI_end B hcl ha t j p).1
