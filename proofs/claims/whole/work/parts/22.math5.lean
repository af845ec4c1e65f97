section SDIs
variable (n : Int) (f h : Int → Int) (a b : Int)
def SDI (t ch fw : Int) : Prop := (ch = -1 ∧ fw = 91 ∧ ∀ s, 0 ≤ s → s < t → ON n f h a s = -1 ∨ dR n f h (ON n f h a s) b (-1)) ∨ ((0 ≤ ch ∧ ch < t) ∧ ¬ ON n f h a ch = -1 ∧ (0 ≤ fw ∧ fw ≤ 90) ∧ dR n f h (ON n f h a ch) b fw ∧ ∀ s, 0 ≤ s → s < t → ON n f h a s = -1 ∨ ∃ d2, dR n f h (ON n f h a s) b d2 ∧ (d2 = -1 ∨ (fw ≤ d2 ∧ (s < ch → fw < d2))))
end SDIs
theorem SDI_0 (n : Int) (f h : Int → Int) (a b : Int) : SDI n f h a b 0 (-1) 91 := Or.inl ⟨rfl, rfl, fun s h0 h1 => by omega⟩
theorem SDI_fw {n : Int} {f h : Int → Int} {a b t ch fw : Int} (I : SDI n f h a b t ch fw) : 0 ≤ fw ∧ fw ≤ 91 := by
  rcases I with ⟨_, e, _⟩ | ⟨_, _, e, _⟩ <;> omega
theorem SDI_none {n : Int} {f h : Int → Int} {a b t ch fw : Int} (I : SDI n f h a b t ch fw) (hn : ON n f h a t = -1 ∨ dR n f h (ON n f h a t) b (-1)) : SDI n f h a b (t + 1) ch fw := by
  rcases I with ⟨g1, g2, g3⟩ | ⟨g1, g2, g3, g4, g5⟩
  · refine Or.inl ⟨g1, g2, fun s h0 h1 => ?_⟩
    by_cases e : s = t
    · rw [e]; exact hn
    · exact g3 s h0 (by omega)
  · refine Or.inr ⟨by omega, g2, g3, g4, fun s h0 h1 => ?_⟩
    by_cases e : s = t
    · rw [e]
      rcases hn with hn | hn
      · exact Or.inl hn
      · exact Or.inr ⟨-1, hn, Or.inl rfl⟩
    · exact g5 s h0 (by omega)
theorem SDI_keep {n : Int} {f h : Int → Int} {a b t ch fw d : Int} (I : SDI n f h a b t ch fw) (hd : dR n f h (ON n f h a t) b d) (hf : fw ≤ d) : SDI n f h a b (t + 1) ch fw := by
  have hb := dR_b hd
  rcases I with ⟨g1, g2, g3⟩ | ⟨g1, g2, g3, g4, g5⟩
  · omega
  · refine Or.inr ⟨by omega, g2, g3, g4, fun s h0 h1 => ?_⟩
    by_cases e : s = t
    · rw [e]
      exact Or.inr ⟨d, hd, Or.inr ⟨hf, by omega⟩⟩
    · exact g5 s h0 (by omega)
theorem SDI_new {n : Int} {f h : Int → Int} {a b t ch fw d : Int} (I : SDI n f h a b t ch fw) (ht : 0 ≤ t) (hn : ¬ ON n f h a t = -1) (hd : dR n f h (ON n f h a t) b d) (h1 : ¬ d = -1) (hf : d < fw) : SDI n f h a b (t + 1) t d := by
  have hb := dR_b hd
  refine Or.inr ⟨by omega, hn, by omega, hd, fun s h0 h2 => ?_⟩
  by_cases e : s = t
  · rw [e]
    exact Or.inr ⟨d, hd, Or.inr ⟨by omega, by omega⟩⟩
  · rcases I with ⟨g1, g2, g3⟩ | ⟨g1, g2, g3, g4, g5⟩
    · rcases g3 s h0 (by omega) with g | g
      · exact Or.inl g
      · exact Or.inr ⟨-1, g, Or.inl rfl⟩
    · rcases g5 s h0 (by omega) with g | ⟨d2, g6, g7⟩
      · exact Or.inl g
      · exact Or.inr ⟨d2, g6, by omega⟩
theorem SDI_end {n : Int} {f h : Int → Int} {a b t ch fw : Int} (I : SDI n f h a b t ch fw) (ht : t = 6) (hab : ¬ a = b) : SDc n f h a b ch := by
  subst ht
  refine Or.inr ⟨hab, ?_⟩
  rcases I with ⟨g1, g2, g3⟩ | ⟨g1, g2, g3, g4, g5⟩
  · exact Or.inl ⟨g1, g3⟩
  · exact Or.inr ⟨g1, g2, fw, by omega, g4, g5⟩
section AVs
variable (n : Int) (f h : Int → Int) (k : Int)
def AVI (t ch mo : Int) : Prop := (t = 0 ∧ ch = 0 ∧ mo = -1) ∨ ((0 ≤ ch ∧ ch < t) ∧ mo = LIT n (rot k ch f f) h ∧ ∀ b, 0 ≤ b → b < t → LIT n (rot k b f f) h ≤ mo ∧ (b < ch → LIT n (rot k b f f) h < mo))
def BSI (r ch mo : Int) : Prop := (ch = -1 ∧ mo = -1 ∧ ∀ j, 0 ≤ j → j < r → ¬ f j = 0) ∨ ((0 ≤ ch ∧ ch < r) ∧ f ch = 0 ∧ mo = DK n f h ch ∧ ∀ j, 0 ≤ j → j < r → f j = 0 → DK n f h j ≤ mo ∧ (j < ch → DK n f h j < mo))
end AVs
theorem AVI_mo {n : Int} (hn : 0 ≤ n) {f h : Int → Int} {k t ch mo : Int} (I : AVI n f h k t ch mo) : -1 ≤ mo ∧ mo ≤ n := by
  rcases I with ⟨_, _, e⟩ | ⟨_, e, _⟩
  · omega
  · have := LIT_b hn (rot k ch f f) h
    omega
theorem AVI_keep {n : Int} {f h : Int → Int} {k t ch mo : Int} (hn : 0 ≤ n) (I : AVI n f h k t ch mo) (hl : LIT n (rot k t f f) h ≤ mo) : AVI n f h k (t + 1) ch mo := by
  have := LIT_b hn (rot k t f f) h
  rcases I with ⟨_, _, e⟩ | ⟨g1, g2, g3⟩
  · omega
  · refine Or.inr ⟨by omega, g2, fun b h0 h1 => ?_⟩
    by_cases e : b = t
    · subst e
      exact ⟨hl, by omega⟩
    · exact g3 b h0 (by omega)
theorem AVI_new {n : Int} {f h : Int → Int} {k t ch mo : Int} (ht : 0 ≤ t) (I : AVI n f h k t ch mo) (hl : mo < LIT n (rot k t f f) h) : AVI n f h k (t + 1) t (LIT n (rot k t f f) h) := by
  refine Or.inr ⟨by omega, rfl, fun b h0 h1 => ?_⟩
  by_cases e : b = t
  · subst e
    exact ⟨Int.le_refl _, by omega⟩
  · rcases I with ⟨g0, _, g2⟩ | ⟨g1, g2, g3⟩
    · omega
    · have := g3 b h0 (by omega)
      omega
theorem AVI_end {n : Int} {f h : Int → Int} {k t ch mo : Int} (I : AVI n f h k t ch mo) (ht : t = SZ k) (hs : 0 < SZ k) : AV n f h k ch := by
  rcases I with ⟨g0, _, _⟩ | ⟨g1, g2, g3⟩
  · omega
  · subst g2
    subst ht
    exact ⟨g1, g3⟩
theorem BSI_mo {n : Int} {f h : Int → Int} {r ch mo : Int} (I : BSI n f h r ch mo) : -1 ≤ mo ∧ mo ≤ 67 := by
  rcases I with ⟨_, e, _⟩ | ⟨_, _, e, _⟩
  · omega
  · have := DK_b n f h ch
    omega
theorem BSI_skip {n : Int} {f h : Int → Int} {r ch mo : Int} (I : BSI n f h r ch mo) (hf : ¬ f r = 0) : BSI n f h (r + 1) ch mo := by
  rcases I with ⟨g0, g1, g2⟩ | ⟨g0, g1, g2, g3⟩
  · refine Or.inl ⟨g0, g1, fun j h0 h1 => ?_⟩
    by_cases e : j = r
    · rw [e]; exact hf
    · exact g2 j h0 (by omega)
  · refine Or.inr ⟨by omega, g1, g2, fun j h0 h1 h2 => ?_⟩
    by_cases e : j = r
    · rw [e] at h2
      exact absurd h2 hf
    · exact g3 j h0 (by omega) h2
theorem BSI_keep {n : Int} {f h : Int → Int} {r ch mo : Int} (I : BSI n f h r ch mo) (hl : DK n f h r ≤ mo) : BSI n f h (r + 1) ch mo := by
  have := DK_b n f h r
  rcases I with ⟨g0, g1, g2⟩ | ⟨g0, g1, g2, g3⟩
  · omega
  · refine Or.inr ⟨by omega, g1, g2, fun j h0 h1 h2 => ?_⟩
    by_cases e : j = r
    · subst e
      exact ⟨hl, by omega⟩
    · exact g3 j h0 (by omega) h2
theorem BSI_new {n : Int} {f h : Int → Int} {r ch mo : Int} (hr : 0 ≤ r) (I : BSI n f h r ch mo) (hf : f r = 0) (hl : mo < DK n f h r) : BSI n f h (r + 1) r (DK n f h r) := by
  refine Or.inr ⟨by omega, hf, rfl, fun j h0 h1 h2 => ?_⟩
  by_cases e : j = r
  · subst e
    exact ⟨Int.le_refl _, by omega⟩
  · rcases I with ⟨g0, g1, g2⟩ | ⟨g0, g1, g2, g3⟩
    · exact absurd h2 (g2 j h0 (by omega))
    · have := g3 j h0 (by omega) h2
      omega
theorem BSI_end {n : Int} {f h : Int → Int} {r ch mo : Int} (I : BSI n f h r ch mo) (hr : r = n) : BS n f h ch := by
  subst hr
  rcases I with ⟨g0, g1, g2⟩ | ⟨g0, g1, g2, g3⟩
  · exact Or.inl ⟨g0, g2⟩
  · subst g2
    exact Or.inr ⟨g0, g1, g3⟩
def dN (x : Int → Int) (d : Int64) : Nat → Int64
  | 0 => d
  | m + 1 => dN x d m * 31 + Int64.ofInt (x m)
def dI (x : Int → Int) (d : Int64) (m : Int) : Int64 := dN x d m.toNat
theorem dI_0 (x : Int → Int) (d : Int64) : dI x d 0 = d := rfl
theorem dI_s (x : Int → Int) (d : Int64) {m : Int} (hm : 0 ≤ m) : dI x d (m + 1) = dI x d m * 31 + Int64.ofInt (x m) := by
  unfold dI
  rw [show (m + 1).toNat = m.toNat + 1 by omega]
  show dN x d m.toNat * 31 + Int64.ofInt (x (m.toNat : Int)) = _
  rw [show ((m.toNat : Nat) : Int) = m by omega]
def dON (g : Int → Int64 → Int64) (d : Int64) : Nat → Int64
  | 0 => d
  | m + 1 => g m (dON g d m)
def dO (g : Int → Int64 → Int64) (d : Int64) (m : Int) : Int64 := dON g d m.toNat
theorem dO_0 (g : Int → Int64 → Int64) (d : Int64) : dO g d 0 = d := rfl
theorem dO_s (g : Int → Int64 → Int64) (d : Int64) {m : Int} (hm : 0 ≤ m) : dO g d (m + 1) = g m (dO g d m) := by
  unfold dO
  rw [show (m + 1).toNat = m.toNat + 1 by omega]
  show g (m.toNat : Int) (dON g d m.toNat) = _
  rw [show ((m.toNat : Nat) : Int) = m by omega]
noncomputable def DIG (k n : Int) (f h : Int → Int) : Int64 := dO (fun g d => dI (RNG n f h g) d 4) (dO (fun r d => dI (fun t => if h (r * 6 + t) = 0 then 0 else 1) (dI (ABT n f h r) d 6) 6) (dI (CNT k n f h) 1733 7) n) (k + 1)
theorem CNT_b {k n : Int} {f h : Int → Int} (hk : 1 ≤ k ∧ k ≤ 5) (hn : 7 ≤ n ∧ n ≤ 91) (w : Int) : -100000 ≤ CNT k n f h w ∧ CNT k n f h w ≤ 100000 := by
  have h1 := sm_if (P := fun j => f j = 1) (a := 0) (b := n) (by omega)
  have h2 := sm_if (P := fun j => f j = 2) (a := 0) (b := n) (by omega)
  have h3 := LIT_b (n := n) (by omega) f h
  have h4 := sm_pI (fun r => ¬ f r = 1 ∧ ∀ i, 0 ≤ i → i < r → ¬ f i = 1 → ∀ t, ¬ PT n f h t i r) (a := 0) (b := n) (by omega)
  have h5 := sm_le (g := fun r => sm (fun t => if h (r * 6 + t) = 0 then 0 else 1) 0 3) (c := 3) (a := 0) (b := n) (by omega) (fun r _ _ => by
    have := sm_le (g := fun t => if h (r * 6 + t) = 0 then (0 : Int) else 1) (c := 1) (a := 0) (b := 3) (by omega) (fun t _ _ => by
      show 0 ≤ (if h (r * 6 + t) = 0 then (0 : Int) else 1) ∧ (if h (r * 6 + t) = 0 then (0 : Int) else 1) ≤ 1
      split <;> omega)
    show 0 ≤ sm (fun t => if h (r * 6 + t) = 0 then 0 else 1) 0 3 ∧ sm (fun t => if h (r * 6 + t) = 0 then 0 else 1) 0 3 ≤ 3
    omega)
  unfold CNT PC
  split
  · omega
  · split
    · omega
    · split
      · omega
      · split
        · omega
        · split
          · omega
          · split
            · omega
            · omega
theorem ABT_b {n : Int} {f h : Int → Int} (hn : 7 ≤ n ∧ n ≤ 91) {r : Int} (hf : 0 ≤ f r ∧ f r ≤ 2) (w : Int) : -100000 ≤ ABT n f h r w ∧ ABT n f h r w ≤ 100000 := by
  have h1 := TA_b r
  have h2 := TD_b r
  have h3 := TR_b r
  have h4 := LT_b n f h (m := n) (by omega) r
  have h5 := sm_le (g := fun t => if ON n f h r t = -1 then (0 : Int) else 1) (c := 1) (a := 0) (b := 6) (by omega) (fun t _ _ => by
    show 0 ≤ (if ON n f h r t = -1 then (0 : Int) else 1) ∧ (if ON n f h r t = -1 then (0 : Int) else 1) ≤ 1
    split <;> omega)
  unfold ABT
  split
  · omega
  · split
    · omega
    · split
      · omega
      · split
        · omega
        · split
          · omega
          · omega
theorem RNG_b {n : Int} {f h : Int → Int} {k : Int} (hk : 0 ≤ k ∧ k ≤ 5) (w : Int) : -100000 ≤ RNG n f h k w ∧ RNG n f h k w ≤ 100000 := by
  have h0 := FR_SZ hk
  have h1 := sm_if (P := fun j => f j = 1) (a := FR k) (b := FR k + SZ k) (by omega)
  have h2 := sm_if (P := fun j => f j = 2) (a := FR k) (b := FR k + SZ k) (by omega)
  have h3 := sm_if (P := fun j => 0 < LT n f h n j) (a := FR k) (b := FR k + SZ k) (by omega)
  unfold RNG
  split
  · omega
  · split
    · omega
    · split
      · omega
      · omega
theorem UP_HS {S T : Nat → Int → Int} (H : HS S) (U : UP S T (S 7) (S 8)) : HS T := by
  obtain ⟨h1, h2, h3, h4⟩ := U
  unfold HS
  rw [h1, h2, h3]
  exact H
theorem UP_t {S T V : Nat → Int → Int} (U : UP S T (S 7) (S 8)) (U2 : UP T V (T 7) (T 8)) : UP S V (S 7) (S 8) := ⟨U2.1.trans U.1, U2.2.1.trans U.2.1, U2.2.2.1.trans U.2.2.1, U2.2.2.2⟩
theorem UP_r {S : Nat → Int → Int} (L : LK S) : UP S S (S 7) (S 8) := ⟨rfl, rfl, rfl, L⟩
theorem AT_in {n : Int} (hn : 7 ≤ n ∧ n ≤ 91) {f g : Int → Int} {b : Int} (hf : ∀ j, 0 ≤ j → j < 91 → 0 ≤ f j ∧ f j ≤ 2) (hg : ∀ j, 0 ≤ j → j < n → g j = AT f b j) : ∀ j, 0 ≤ j → j < n → 0 ≤ g j ∧ g j ≤ 2 := by
  intro j h0 h1
  rw [hg j h0 h1]
  have h5 := TR_r (j := j) (by omega)
  have h6 := TR_b j
  have h7 := rot_m (k := TR j) (b := 0) h6 (j - FR (TR j) - TR j * b)
  have h8 := FR_SZ (k := TR j) h6
  exact hf _ (by omega) (by omega)
