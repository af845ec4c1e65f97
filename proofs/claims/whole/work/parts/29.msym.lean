section SYMs
variable (n : Int) (f h : Int → Int)
def SYM (n : Int) (h : Int → Int) : Prop := ∀ r t, 0 ≤ r → r < n → 0 ≤ t → t < 6 → (NX n r t = -1 → h (r * 6 + t) = 0) ∧ (¬ NX n r t = -1 → h (NX n r t * 6 + (t + 3) % 6) = h (r * 6 + t))
noncomputable def PCm (m : Int) : Int := sm (fun r => pI (¬ f r = 1 ∧ ∀ i, 0 ≤ i → i < r → ∀ t, ¬ PT n f h t r i)) 0 m
def SDm (a b z : Int) : Prop := ∃ st, dR n f h a b st ∧ ((st < 1 ∧ z = -1) ∨ (1 ≤ st ∧ (0 ≤ z ∧ z < 6) ∧ ¬ ON n f h a z = -1 ∧ dR n f h (ON n f h a z) b (st - 1) ∧ ∀ s, 0 ≤ s → s < z → ON n f h a s = -1 ∨ ∃ d2, dR n f h (ON n f h a s) b d2 ∧ ¬ d2 = st - 1) ∨ (1 ≤ st ∧ z = -1 ∧ ∀ s, 0 ≤ s → s < 6 → ON n f h a s = -1 ∨ ∃ d2, dR n f h (ON n f h a s) b d2 ∧ ¬ d2 = st - 1))
end SYMs
theorem ON_some {n : Int} {f h : Int → Int} {r t : Int} (c : ¬ ON n f h r t = -1) : ON n f h r t = NX n r t ∧ ¬ NX n r t = -1 ∧ h (r * 6 + t) = 0 ∧ ¬ f (NX n r t) = 1 := by
  unfold ON at c ⊢
  by_cases c2 : NX n r t = -1 ∨ ¬ h (r * 6 + t) = 0 ∨ f (NX n r t) = 1
  · rw [if_pos c2] at c
    exact absurd rfl c
  · rw [if_neg c2]
    exact ⟨rfl, fun e => c2 (Or.inl e), Classical.byContradiction fun e => c2 (Or.inr (Or.inl e)), fun e => c2 (Or.inr (Or.inr e))⟩
def TSok : Bool := (List.range 91).all (fun r => (List.range 6).all (fun t => decide (TN ((r : Int) * 6 + t) = -1 ∨ TN (TN ((r : Int) * 6 + t) * 6 + ((t : Int) + 3) % 6) = r)))
theorem TSok_t : TSok = true := by decide +kernel
theorem NX_sym {n r t : Int} (hn : n ≤ 91) (hr : 0 ≤ r ∧ r < n) (ht : 0 ≤ t ∧ t < 6) (hx : ¬ NX n r t = -1) : NX n (NX n r t) ((t + 3) % 6) = r := by
  have h := all2 (p := fun r t => decide (TN ((r : Int) * 6 + t) = -1 ∨ TN (TN ((r : Int) * 6 + t) * 6 + ((t : Int) + 3) % 6) = r)) TSok_t (r := r) (t := t) (by omega) ht
  rw [decide_eq_true_eq] at h
  rw [show ((r.toNat : Nat) : Int) = r by omega, show ((t.toNat : Nat) : Int) = t by omega] at h
  unfold NX at hx ⊢
  by_cases c : TN (r * 6 + t) < n
  · rw [if_pos c] at hx ⊢
    rcases h with h | h
    · exact absurd h hx
    · rw [h, if_pos hr.2]
  · rw [if_neg c] at hx
    exact absurd rfl hx
theorem ON_sym {n : Int} {f h : Int → Int} (hn : n ≤ 91) (Y : SYM n h) {a s : Int} (ha : 0 ≤ a ∧ a < n) (hs : 0 ≤ s ∧ s < 6) (c : ¬ ON n f h a s = -1) (hf : ¬ f a = 1) : ON n f h (ON n f h a s) ((s + 3) % 6) = a := by
  obtain ⟨e1, e2, e3, e4⟩ := ON_some c
  have h1 := NX_sym hn ha hs e2
  have h2 := (Y a s ha.1 ha.2 hs.1 hs.2).2 e2
  rw [e1]
  unfold ON
  rw [h1, h2, e3, if_neg (by omega)]
theorem PT_nw {n : Int} {f h : Int → Int} {a : Int} (hf : ¬ f a = 1) : ∀ (t : Nat) {b : Int}, PT n f h t a b → ¬ f b = 1
  | 0, b, p => by
    have : a = b := p
    rw [← this]
    exact hf
  | t + 1, b, p => by
    obtain ⟨c, s, hs, q, e, hb⟩ := p
    have h1 := ON_some (n := n) (f := f) (h := h) (r := c) (t := s) (by rw [e]; exact hb)
    rw [← e, h1.1]
    exact h1.2.2.2
theorem PT_sym {n : Int} {f h : Int → Int} (hn : n ≤ 91) (Y : SYM n h) {a : Int} (ha : 0 ≤ a ∧ a < n) (hf : ¬ f a = 1) : ∀ (t : Nat) {b : Int}, PT n f h t a b → PT n f h t b a
  | 0, b, p => by
    have : a = b := p
    exact this.symm
  | t + 1, b, p => by
    obtain ⟨c, s, hs, q, e, hb⟩ := p
    have hc := PT_rng ha t q
    have h1 := ON_sym hn Y hc hs (by rw [e]; exact hb) (PT_nw hf t q)
    rw [e] at h1
    have h2 : PT n f h 1 b c := ⟨b, (s + 3) % 6, by omega, rfl, h1, by omega⟩
    have h3 := PT_add t 1 h2 (PT_sym hn Y ha hf t q)
    rw [Nat.add_comm] at h3
    exact h3
theorem PCm_e {n : Int} {f h : Int → Int} (hn : n ≤ 91) (Y : SYM n h) {m : Int} (hm : m ≤ n) : PCm n f h m = PC n f h m := by
  unfold PCm PC
  refine sm_cong (fun r h0 h1 => pI_c ⟨fun q => ⟨q.1, fun i g0 g1 g2 t p => q.2 i g0 g1 t (PT_sym hn Y ⟨g0, by omega⟩ g2 t p)⟩, fun q => ⟨q.1, fun i g0 g1 t p => ?_⟩⟩)
  exact q.2 i g0 g1 (PT_nw q.1 t p) t (PT_sym hn Y ⟨h0, by omega⟩ q.1 t p)
theorem dR_hd {n : Int} {f h : Int → Int} {a b st : Int} (hd : dR n f h a b st) (h1 : 1 ≤ st) : ∃ s, (0 ≤ s ∧ s < 6) ∧ ¬ ON n f h a s = -1 ∧ dR n f h (ON n f h a s) b (st - 1) := by
  rcases hd with ⟨e, _⟩ | ⟨hr, p, mn⟩
  · omega
  · rw [show st.toNat = (st - 1).toNat + 1 by omega] at p
    obtain ⟨s, hs, hc, q⟩ := PT_head _ p
    refine ⟨s, hs, hc, Or.inr ⟨by omega, q, fun u r => ?_⟩⟩
    have h2 := PT_add u 1 (PT_1 hs hc) r
    have h3 := mn _ h2
    omega
theorem dR_st {n : Int} {f h : Int → Int} {a b st s d : Int} (hd : dR n f h a b st) (hs : 0 ≤ s ∧ s < 6) (hc : ¬ ON n f h a s = -1) (h2 : dR n f h (ON n f h a s) b d) (h3 : ¬ d = -1) : ¬ st = -1 ∧ st ≤ d + 1 := by
  rcases h2 with ⟨e, _⟩ | ⟨hr, q, _⟩
  · exact absurd e h3
  · have h4 := PT_add _ 1 (PT_1 hs hc) q
    rcases hd with ⟨e, no⟩ | ⟨hr2, p, mn⟩
    · exact absurd h4 (no _)
    · have := mn _ h4
      omega
theorem dR_0 {n : Int} {f h : Int → Int} {a b : Int} (hd : dR n f h a b 0) : a = b := by
  rcases hd with ⟨e, _⟩ | ⟨_, p, _⟩
  · omega
  · exact p
theorem dR_same {n : Int} {f h : Int → Int} {a st : Int} (hd : dR n f h a a st) : st = 0 := by
  rcases hd with ⟨_, no⟩ | ⟨hr, _, mn⟩
  · exact absurd (show PT n f h 0 a a from rfl) (no 0)
  · have := mn 0 rfl
    omega
theorem SD_e {n : Int} {f h : Int → Int} {a b z z2 : Int} (p : SDc n f h a b z) (r : SDm n f h a b z2) : z = z2 := by
  obtain ⟨st, hd, r⟩ := r
  have hdb := dR_b hd
  rcases p with ⟨e, hz⟩ | ⟨hab, ⟨hz, hall⟩ | ⟨hz, hc, d, hd1, hdz, hall⟩⟩
  · subst e
    have := dR_same hd
    omega
  · by_cases h1 : 1 ≤ st
    · obtain ⟨s, hs, hc, h2⟩ := dR_hd hd h1
      rcases hall s hs.1 hs.2 with g | g
      · exact absurd g hc
      · have := dR_u g h2
        omega
    · omega
  · have h1 := dR_st hd hz hc hdz hd1
    have h0 : ¬ st = 0 := fun e => hab (dR_0 (by rw [e] at hd; exact hd))
    obtain ⟨s0, hs0, hc0, h2⟩ := dR_hd hd (by omega)
    have h3 : d ≤ st - 1 := by
      rcases hall s0 hs0.1 hs0.2 with g | ⟨d2, g1, g2⟩
      · exact absurd g hc0
      · have := dR_u g1 h2
        omega
    have h4 : d = st - 1 := by omega
    rcases r with ⟨r1, _⟩ | ⟨_, r2, r3, r4, r5⟩ | ⟨_, r2, r3⟩
    · omega
    · by_cases c1 : z < z2
      · rcases r5 z hz.1 c1 with g | ⟨d2, g1, g2⟩
        · exact absurd g hc
        · exact absurd ((dR_u g1 hdz).trans h4) g2
      · by_cases c2 : z2 < z
        · rcases hall z2 r2.1 r2.2 with g | ⟨d2, g1, g2⟩
          · exact absurd g r3
          · have := dR_u g1 r4
            omega
        · omega
    · rcases r3 z hz.1 hz.2 with g | ⟨d2, g1, g2⟩
      · exact absurd g hc
      · exact absurd ((dR_u g1 hdz).trans h4) g2
theorem sm_add (g k : Int → Int) {a b : Int} (hab : a ≤ b) : sm (fun j => g j + k j) a b = sm g a b + sm k a b := by
  refine sm_ind (P := fun b => sm (fun j => g j + k j) a b = sm g a b + sm k a b) (by rw [sm_0, sm_0, sm_0]; omega) (fun d hd ih => ?_) b hab
  rw [sm_s _ hd, sm_s _ hd, sm_s _ hd, ih]
  omega
theorem sm_swap (F : Int → Int → Int) {n m : Int} (hn : 0 ≤ n) (hm : 0 ≤ m) : sm (fun i => sm (fun j => F i j) 0 m) 0 n = sm (fun j => sm (fun i => F i j) 0 n) 0 m := by
  refine sm_ind (P := fun n => sm (fun i => sm (fun j => F i j) 0 m) 0 n = sm (fun j => sm (fun i => F i j) 0 n) 0 m) ?_ (fun d hd ih => ?_) n hn
  · rw [sm_0, sm_zero (fun j _ _ => sm_0 _ _)]
  · rw [sm_s _ hd, ih, ← sm_add _ _ hm]
    exact sm_cong (fun j _ _ => (sm_s (fun i => F i j) hd).symm)
theorem sm_pick {c n : Int} (hc : 0 ≤ c ∧ c < n) (v : Int) : sm (fun j => if c = j then v else 0) 0 n = v := by
  rw [sm_split _ (a := 0) (b := c) (c := n) (by omega) (by omega), sm_split _ (a := c) (b := c + 1) (c := n) (by omega) (by omega), sm_s _ (Int.le_refl c), sm_0, sm_zero (fun j _ _ => if_neg (by omega)), sm_zero (fun j _ _ => if_neg (by omega)), if_pos rfl]
  omega
theorem sm_none {c n : Int} (hc : ¬ (0 ≤ c ∧ c < n)) (v : Int) : sm (fun j => if c = j then v else 0) 0 n = 0 := sm_zero (fun j _ _ => if_neg (by omega))
theorem G_e {n : Int} {h g : Int → Int} (hn : 0 ≤ n ∧ n ≤ 91) (Y : SYM n h) (hg : ∀ j, g j = if h j = 0 then 0 else 1) {t : Int} (ht : 0 ≤ t ∧ t < 3) : sm (fun r => g (r * 6 + t)) 0 n = sm (fun r => g (r * 6 + (t + 3))) 0 n := by
  have side : ∀ t, 0 ≤ t → t < 6 → sm (fun r => g (r * 6 + t)) 0 n = sm (fun r => sm (fun r2 => if NX n r t = r2 then g (r * 6 + t) else 0) 0 n) 0 n := fun t h0 h1 => sm_cong (fun r g0 g1 => by
    have hb := NX_b n r t
    by_cases c : NX n r t = -1
    · rw [sm_none (by omega), hg, (Y r t g0 g1 h0 h1).1 c]
      rfl
    · rw [sm_pick (by omega)])
  rw [side t (by omega) (by omega), side (t + 3) (by omega) (by omega), sm_swap (fun r r2 => if NX n r t = r2 then g (r * 6 + t) else 0) hn.1 hn.1]
  refine sm_cong (fun r2 g0 g1 => sm_cong (fun r g2 g3 => ?_))
  show (if NX n r t = r2 then g (r * 6 + t) else 0) = (if NX n r2 (t + 3) = r then g (r2 * 6 + (t + 3)) else 0)
  by_cases c : NX n r t = r2
  · have h1 := NX_sym hn.2 ⟨g2, g3⟩ (t := t) (by omega) (by omega)
    have h2 := (Y r t g2 g3 (by omega) (by omega)).2 (by omega)
    rw [show (t + 3) % 6 = t + 3 by omega, c] at h1 h2
    rw [if_pos c, if_pos h1, hg, hg, h2]
  · rw [if_neg c]
    by_cases c2 : NX n r2 (t + 3) = r
    · have h1 := NX_sym hn.2 ⟨g0, g1⟩ (t := t + 3) (by omega) (by omega)
      rw [show (t + 3 + 3) % 6 = t by omega, c2] at h1
      exact absurd h1 c
    · rw [if_neg c2]
theorem sm_6 (g : Int → Int) (a : Int) : sm g a (a + 6) = g a + g (a + 1) + g (a + 2) + g (a + 3) + g (a + 4) + g (a + 5) := by
  rw [show a + 6 = a + 1 + 1 + 1 + 1 + 1 + 1 by omega, sm_s g (by omega), sm_s g (by omega), sm_s g (by omega), sm_s g (by omega), sm_s g (by omega), sm_s g (by omega), sm_0, show a + 1 + 1 = a + 2 by omega, show a + 2 + 1 = a + 3 by omega, show a + 3 + 1 = a + 4 by omega, show a + 4 + 1 = a + 5 by omega]
  omega
theorem DS_e {n : Int} {h : Int → Int} (hn : 0 ≤ n ∧ n ≤ 91) (Y : SYM n h) : sm (fun j => if h j = 0 then 0 else 1) 0 (6 * n) = 2 * sm (fun r => sm (fun t => if h (r * 6 + t) = 0 then 0 else 1) 0 3) 0 n := by
  obtain ⟨g, hg⟩ : ∃ g : Int → Int, g = fun j => if h j = 0 then 0 else 1 := ⟨_, rfl⟩
  have hg2 : ∀ j, g j = if h j = 0 then 0 else 1 := fun j => by rw [hg]
  have e3 : ∀ r, sm (fun t => if h (r * 6 + t) = 0 then (0 : Int) else 1) 0 3 = g (r * 6 + 0) + g (r * 6 + 1) + g (r * 6 + 2) := by
    intro r
    rw [show (3 : Int) = 0 + 1 + 1 + 1 by omega, sm_s _ (by omega), sm_s _ (by omega), sm_s _ (by omega), sm_0, hg2, hg2, hg2]
    show 0 + (if h (r * 6 + 0) = 0 then (0 : Int) else 1) + (if h (r * 6 + (0 + 1)) = 0 then 0 else 1) + (if h (r * 6 + (0 + 1 + 1)) = 0 then 0 else 1) = _
    rw [show (0 : Int) + 1 = 1 by omega, show (1 : Int) + 1 = 2 by omega]
    omega
  have eL : ∀ m, 0 ≤ m → sm g 0 (6 * m) = sm (fun r => (g (r * 6 + 0) + g (r * 6 + 1) + g (r * 6 + 2)) + (g (r * 6 + 3) + g (r * 6 + 4) + g (r * 6 + 5))) 0 m := by
    intro m hm
    refine sm_ind (P := fun m => sm g 0 (6 * m) = sm (fun r => (g (r * 6 + 0) + g (r * 6 + 1) + g (r * 6 + 2)) + (g (r * 6 + 3) + g (r * 6 + 4) + g (r * 6 + 5))) 0 m) (by rw [Int.mul_zero, sm_0, sm_0]) (fun d hd ih => ?_) m hm
    rw [show 6 * (d + 1) = 6 * d + 6 by omega, sm_split g (a := 0) (b := 6 * d) (c := 6 * d + 6) (by omega) (by omega), ih, sm_s _ hd, sm_6, show 6 * d = d * 6 by omega, Int.add_zero]
    omega
  have eA : sm (fun r => sm (fun t => if h (r * 6 + t) = 0 then (0 : Int) else 1) 0 3) 0 n = sm (fun r => g (r * 6 + 0) + g (r * 6 + 1) + g (r * 6 + 2)) 0 n := sm_cong (fun r _ _ => e3 r)
  rw [← hg, eL n hn.1, eA, sm_add _ _ hn.1, sm_add (fun r => g (r * 6 + 0) + g (r * 6 + 1)) (fun r => g (r * 6 + 2)) hn.1, sm_add (fun r => g (r * 6 + 0)) (fun r => g (r * 6 + 1)) hn.1, sm_add (fun r => g (r * 6 + 3) + g (r * 6 + 4)) (fun r => g (r * 6 + 5)) hn.1, sm_add (fun r => g (r * 6 + 3)) (fun r => g (r * 6 + 4)) hn.1]
  have q0 := G_e hn Y hg2 (t := 0) (by omega)
  have q1 := G_e hn Y hg2 (t := 1) (by omega)
  have q2 := G_e hn Y hg2 (t := 2) (by omega)
  rw [show (0 : Int) + 3 = 3 by omega] at q0
  rw [show (1 : Int) + 3 = 4 by omega] at q1
  rw [show (2 : Int) + 3 = 5 by omega] at q2
  omega
