/-! what agrees in range gives the same answers -/
theorem ON_cg {n : Int} {f g h h2 : Int → Int} (ef : ∀ j, 0 ≤ j → j < n → f j = g j) (eh : ∀ j, 0 ≤ j → j < n * 6 → h j = h2 j) {r t : Int} (hr : 0 ≤ r ∧ r < n) (ht : 0 ≤ t ∧ t < 6) : ON n f h r t = ON n g h2 r t := by
  rw [ON_cong ef r t, ON_cong2 (h2 := h2) (eh _ (by omega) (by omega))]
theorem PT_cg {n : Int} {f g h h2 : Int → Int} (ef : ∀ j, 0 ≤ j → j < n → f j = g j) (eh : ∀ j, 0 ≤ j → j < n * 6 → h j = h2 j) {a : Int} (ha : 0 ≤ a ∧ a < n) : ∀ (t : Nat) {b : Int}, PT n f h t a b → PT n g h2 t a b
  | 0, _, p => p
  | t + 1, b, ⟨c, s, hs, p, e, hb⟩ => by
    have hc := PT_rng ha t p
    exact ⟨c, s, hs, PT_cg ef eh ha t p, by rw [← ON_cg ef eh hc hs]; exact e, hb⟩
theorem sy {k : Int} {u v : Int → Int} (e : ∀ j, 0 ≤ j → j < k → u j = v j) : ∀ j, 0 ≤ j → j < k → v j = u j := fun j h0 h1 => (e j h0 h1).symm
theorem PT_iff {n : Int} {f g h h2 : Int → Int} (ef : ∀ j, 0 ≤ j → j < n → f j = g j) (eh : ∀ j, 0 ≤ j → j < n * 6 → h j = h2 j) {a : Int} (ha : 0 ≤ a ∧ a < n) (t : Nat) (b : Int) : PT n f h t a b ↔ PT n g h2 t a b := ⟨PT_cg ef eh ha t, PT_cg (sy ef) (sy eh) ha t⟩
theorem dR_cg {n : Int} {f g h h2 : Int → Int} (ef : ∀ j, 0 ≤ j → j < n → f j = g j) (eh : ∀ j, 0 ≤ j → j < n * 6 → h j = h2 j) {a b d : Int} (ha : 0 ≤ a ∧ a < n) (p : dR n f h a b d) : dR n g h2 a b d := by
  rcases p with ⟨p1, p2⟩ | ⟨p1, p2, p3⟩
  · exact Or.inl ⟨p1, fun t q => p2 t ((PT_iff ef eh ha t b).mpr q)⟩
  · exact Or.inr ⟨p1, (PT_iff ef eh ha _ b).mp p2, fun t q => p3 t ((PT_iff ef eh ha t b).mpr q)⟩
theorem SDm_cg {n : Int} {f g h h2 : Int → Int} (ef : ∀ j, 0 ≤ j → j < n → f j = g j) (eh : ∀ j, 0 ≤ j → j < n * 6 → h j = h2 j) {a b z : Int} (ha : 0 ≤ a ∧ a < n) (p : SDm n f h a b z) : SDm n g h2 a b z := by
  have hON : ∀ s, 0 ≤ s → s < 6 → ON n f h a s = ON n g h2 a s := fun s h0 h1 => ON_cg ef eh ha ⟨h0, h1⟩
  have hs2 : ∀ (st s : Int), 0 ≤ s → s < 6 → (ON n f h a s = -1 ∨ ∃ d2, dR n f h (ON n f h a s) b d2 ∧ ¬ d2 = st - 1) → (ON n g h2 a s = -1 ∨ ∃ d2, dR n g h2 (ON n g h2 a s) b d2 ∧ ¬ d2 = st - 1) := by
    intro st s h0 h1 q
    have hb := ON_b n f h a s
    rw [← hON s h0 h1]
    rcases q with q | ⟨d2, q1, q2⟩
    · exact Or.inl q
    · by_cases c : ON n f h a s = -1
      · exact Or.inl c
      · exact Or.inr ⟨d2, dR_cg ef eh (by omega) q1, q2⟩
  obtain ⟨st, p1, p2⟩ := p
  refine ⟨st, dR_cg ef eh ha p1, ?_⟩
  rcases p2 with p2 | ⟨p2, p3, p4, p5, p6⟩ | ⟨p2, p3, p4⟩
  · exact Or.inl p2
  · have hb := ON_b n f h a z
    refine Or.inr (Or.inl ⟨p2, p3, by rw [← hON z p3.1 p3.2]; exact p4, by rw [← hON z p3.1 p3.2]; exact dR_cg ef eh (by omega) p5, fun s h0 h1 => hs2 st s h0 (by omega) (p6 s h0 h1)⟩)
  · exact Or.inr (Or.inr ⟨p2, p3, fun s h0 h1 => hs2 st s h0 h1 (p4 s h0 h1)⟩)
theorem PC_cg {n : Int} {f g h h2 : Int → Int} (ef : ∀ j, 0 ≤ j → j < n → f j = g j) (eh : ∀ j, 0 ≤ j → j < n * 6 → h j = h2 j) {m : Int} (hm : m ≤ n) : PC n f h m = PC n g h2 m := by
  refine sm_cong (fun r h0 h1 => ?_)
  refine pI_c ⟨fun p => ⟨by rw [← ef r h0 (by omega)]; exact p.1, fun i g0 g1 g2 t q => p.2 i g0 g1 (by rw [ef i g0 (by omega)]; exact g2) t ((PT_iff ef eh ⟨g0, by omega⟩ t r).mpr q)⟩, fun p => ⟨by rw [ef r h0 (by omega)]; exact p.1, fun i g0 g1 g2 t q => p.2 i g0 g1 (by rw [← ef i g0 (by omega)]; exact g2) t ((PT_iff ef eh ⟨g0, by omega⟩ t r).mp q)⟩⟩
theorem ABT_cg {n : Int} {f g h h2 : Int → Int} (ef : ∀ j, 0 ≤ j → j < n → f j = g j) (eh : ∀ j, 0 ≤ j → j < n * 6 → h j = h2 j) {r : Int} (hr : 0 ≤ r ∧ r < n) (w : Int) : ABT n f h r w = ABT n g h2 r w := by
  unfold ABT
  rw [ef r hr.1 hr.2, LT_cong ef eh (Int.le_refl _) r, sm_cong (g := fun t => if ON n f h r t = -1 then 0 else 1) (h := fun t => if ON n g h2 r t = -1 then 0 else 1) (fun t h0 h1 => by
    show (if ON n f h r t = -1 then (0 : Int) else 1) = if ON n g h2 r t = -1 then 0 else 1
    rw [ON_cg ef eh hr ⟨h0, h1⟩])]
theorem smf_cg {n : Int} {f g h h2 : Int → Int} (ef : ∀ j, 0 ≤ j → j < n → f j = g j) (eh : ∀ j, 0 ≤ j → j < n * 6 → h j = h2 j) (v : Int) {a b : Int} (ha : 0 ≤ a) (hb : b ≤ n) : sm (fun j => if f j = v then 1 else 0) a b = sm (fun j => if g j = v then 1 else 0) a b := sm_cong (fun j h0 h1 => by
  show (if f j = v then (1 : Int) else 0) = if g j = v then 1 else 0
  rw [ef j (by omega) (by omega)])
theorem RNG_cg {n : Int} {f g h h2 : Int → Int} (ef : ∀ j, 0 ≤ j → j < n → f j = g j) (eh : ∀ j, 0 ≤ j → j < n * 6 → h j = h2 j) {k K : Int} (hk : 0 ≤ k ∧ k ≤ K) (hK : K ≤ 5) (hn : n = FR (K + 1)) (w : Int) : RNG n f h k w = RNG n g h2 k w := by
  have h1 := FR_m hk hK
  have h3 := FR_SZ (k := k) (by omega)
  unfold RNG
  rw [smf_cg ef eh 1 (a := FR k) (b := FR k + SZ k) (by omega) (by omega), smf_cg ef eh 2 (a := FR k) (b := FR k + SZ k) (by omega) (by omega), sm_cong (g := fun j => if 0 < LT n f h n j then 1 else 0) (h := fun j => if 0 < LT n g h2 n j then 1 else 0) (fun j h0 h1 => by
    show (if 0 < LT n f h n j then (1 : Int) else 0) = if 0 < LT n g h2 n j then 1 else 0
    rw [LT_cong ef eh (Int.le_refl _) j])]
theorem CNT_cg {n : Int} {f g h h2 : Int → Int} (ef : ∀ j, 0 ≤ j → j < n → f j = g j) (eh : ∀ j, 0 ≤ j → j < n * 6 → h j = h2 j) (k w : Int) : CNT k n f h w = CNT k n g h2 w := by
  unfold CNT
  rw [smf_cg ef eh 1 (a := 0) (b := n) (by omega) (by omega), smf_cg ef eh 2 (a := 0) (b := n) (by omega) (by omega), LIT_cong ef eh, PC_cg ef eh (Int.le_refl _), sm_cong (g := fun r => sm (fun t => if h (r * 6 + t) = 0 then 0 else 1) 0 3) (h := fun r => sm (fun t => if h2 (r * 6 + t) = 0 then 0 else 1) 0 3) (fun r h0 h1 => sm_cong (fun t g0 g1 => by
    show (if h (r * 6 + t) = 0 then (0 : Int) else 1) = if h2 (r * 6 + t) = 0 then 0 else 1
    rw [eh _ (by omega) (by omega)]))]
theorem rot_cg {n : Int} {f g h h2 : Int → Int} (ef : ∀ j, 0 ≤ j → j < n → f j = g j) (eh : ∀ j, 0 ≤ j → j < n * 6 → h j = h2 j) {k K b : Int} (hk : 0 ≤ k ∧ k ≤ K) (hK : K ≤ 5) (hn : n = FR (K + 1)) : ∀ j, 0 ≤ j → j < n → rot k b f f j = rot k b g g j := by
  intro j h0 h1
  have h2 := FR_m hk hK
  have hm := rot_m (k := k) (b := 0) (by omega) (j - FR k - b)
  have h3 := FR_SZ (k := k) (by omega)
  unfold rot
  by_cases c : FR k ≤ j ∧ j < FR k + SZ k
  · rw [if_pos c, if_pos c]
    exact ef _ (by omega) (by omega)
  · rw [if_neg c, if_neg c]
    exact ef j h0 h1
theorem AV_cg {n : Int} {f g h h2 : Int → Int} (ef : ∀ j, 0 ≤ j → j < n → f j = g j) (eh : ∀ j, 0 ≤ j → j < n * 6 → h j = h2 j) {k K z : Int} (hk : 0 ≤ k ∧ k ≤ K) (hK : K ≤ 5) (hn : n = FR (K + 1)) (p : AV n f h k z) : AV n g h2 k z := by
  have e : ∀ b, LIT n (rot k b f f) h = LIT n (rot k b g g) h2 := fun b => LIT_cong (rot_cg ef eh hk hK hn) eh
  refine ⟨p.1, fun b h0 h1 => ?_⟩
  rw [← e b, ← e z]
  exact p.2 b h0 h1
theorem DK_cg {n : Int} {f g h h2 : Int → Int} (ef : ∀ j, 0 ≤ j → j < n → f j = g j) (eh : ∀ j, 0 ≤ j → j < n * 6 → h j = h2 j) {r : Int} (hr : 0 ≤ r ∧ r < n) : DK n f h r = DK n g h2 r := by
  unfold DK
  rw [beam_cong ef eh hr]
  refine sL_cong (fun x hx => ?_)
  show (if LT n f h n x = 0 then (1 : Int) else 0) = if LT n g h2 n x = 0 then 1 else 0
  rw [LT_cong ef eh (Int.le_refl _) x]
theorem BS_cg {n : Int} {f g h h2 : Int → Int} (ef : ∀ j, 0 ≤ j → j < n → f j = g j) (eh : ∀ j, 0 ≤ j → j < n * 6 → h j = h2 j) {z : Int} (p : BS n f h z) : BS n g h2 z := by
  rcases p with ⟨p1, p2⟩ | ⟨p1, p2, p3⟩
  · exact Or.inl ⟨p1, fun r h0 h1 => by rw [← ef r h0 h1]; exact p2 r h0 h1⟩
  · refine Or.inr ⟨p1, by rw [← ef z p1.1 p1.2]; exact p2, fun r h0 h1 h3 => ?_⟩
    rw [← DK_cg ef eh ⟨h0, h1⟩, ← DK_cg ef eh p1]
    exact p3 r h0 h1 (by rw [ef r h0 h1]; exact h3)
theorem AT_cg {n : Int} {f g h h2 : Int → Int} (ef : ∀ j, 0 ≤ j → j < n → f j = g j) (eh : ∀ j, 0 ≤ j → j < n * 6 → h j = h2 j) {K b : Int} (hK : 1 ≤ K ∧ K ≤ 5) (hn : n = FR (K + 1)) : ∀ j, 0 ≤ j → j < n → AT f b j = AT g b j := by
  intro j h0 h1
  have hn2 := FR_n hK
  have h2 := TR_r (j := j) (by omega)
  have h3 := TR_b j
  have h4 := FR_SZ (k := TR j) h3
  have hm := rot_m (k := TR j) (b := 0) h3 (j - FR (TR j) - TR j * b)
  have h6 : TR j ≤ K := by
    refine Classical.byContradiction fun q => ?_
    have h7 := FR_m (k := K) (m := TR j - 1) (by omega) (by omega)
    rw [show TR j - 1 + 1 = TR j by omega] at h7
    have h8 := FR_s (k := K) (by omega)
    omega
  have h9 := FR_m (k := TR j) (m := K) (by omega) hK.2
  exact ef _ (by omega) (by omega)
theorem SX_cg {n : Int} {f g h h2 : Int → Int} (ef : ∀ j, 0 ≤ j → j < n → f j = g j) (eh : ∀ j, 0 ≤ j → j < n * 6 → h j = h2 j) {K z : Int} (hK : 1 ≤ K ∧ K ≤ 5) (hn : n = FR (K + 1)) (p : SX n f z) : SX n g z := by
  have e : ∀ b, SM6 n f b ↔ SM6 n g b := fun b => ⟨fun q j h0 h1 => by rw [← AT_cg ef eh hK hn j h0 h1, ← ef j h0 h1]; exact q j h0 h1, fun q j h0 h1 => by rw [AT_cg ef eh hK hn j h0 h1, ef j h0 h1]; exact q j h0 h1⟩
  exact ⟨p.1, fun b h0 h1 q => p.2.1 b h0 h1 ((e b).mpr q), p.2.2.elim Or.inl (fun q => Or.inr ((e z).mp q))⟩
theorem SUM_cg {n : Int} {f g h h2 : Int → Int} (ef : ∀ j, 0 ≤ j → j < n → f j = g j) (eh : ∀ j, 0 ≤ j → j < n * 6 → h j = h2 j) : SUM n f h = SUM n g h2 := sm_cong (fun j _ _ => LT_cong ef eh (Int.le_refl _) j)
theorem MN_cg {n : Int} {f g h h2 : Int → Int} (ef : ∀ j, 0 ≤ j → j < n → f j = g j) (eh : ∀ j, 0 ≤ j → j < n * 6 → h j = h2 j) {r : UInt64} (p : MN n f h r) : MN n g h2 r := by
  unfold MN at p ⊢
  rw [LIT_cong ef eh, SUM_cg ef eh] at p
  exact p
theorem dI_cg {x y : Int → Int} {d : Int64} {m : Int} (e : ∀ j, 0 ≤ j → j < m → x j = y j) (hm : 0 ≤ m) : dI x d m = dI y d m := by
  have key : ∀ k : Nat, (k : Int) ≤ m → dI x d k = dI y d k := by
    intro k
    induction k with
    | zero => intro _; rfl
    | succ k ih =>
      intro hk
      show dI x d ((k : Int) + 1) = dI y d ((k : Int) + 1)
      rw [dI_s x d (by omega), dI_s y d (by omega), ih (by omega), e k (by omega) (by omega)]
  have := key m.toNat (by omega)
  rw [show ((m.toNat : Nat) : Int) = m by omega] at this
  exact this
theorem dO_cg {x y : Int → Int64 → Int64} {d d2 : Int64} {m : Int} (ed : d = d2) (e : ∀ j, 0 ≤ j → j < m → ∀ c, x j c = y j c) (hm : 0 ≤ m) : dO x d m = dO y d2 m := by
  subst ed
  have key : ∀ k : Nat, (k : Int) ≤ m → dO x d k = dO y d k := by
    intro k
    induction k with
    | zero => intro _; rfl
    | succ k ih =>
      intro hk
      show dO x d ((k : Int) + 1) = dO y d ((k : Int) + 1)
      rw [dO_s x d (by omega), dO_s y d (by omega), ih (by omega), e k (by omega) (by omega)]
  have := key m.toNat (by omega)
  rw [show ((m.toNat : Nat) : Int) = m by omega] at this
  exact this
theorem DIG_cg {k n : Int} {f g h h2 : Int → Int} (hk : 1 ≤ k ∧ k ≤ 5) (hn : n = FR (k + 1)) (ef : ∀ j, 0 ≤ j → j < n → f j = g j) (eh : ∀ j, 0 ≤ j → j < n * 6 → h j = h2 j) : DIG k n f h = DIG k n g h2 := by
  have hn2 := FR_n hk
  unfold DIG
  refine dO_cg (dO_cg (dI_cg (fun j _ _ => CNT_cg ef eh k j) (by omega)) (fun r h0 h1 c => ?_) (by omega)) (fun r h0 h1 c => ?_) (by omega)
  · show dI (fun t => if h (r * 6 + t) = 0 then 0 else 1) (dI (ABT n f h r) c 6) 6 = dI (fun t => if h2 (r * 6 + t) = 0 then 0 else 1) (dI (ABT n g h2 r) c 6) 6
    rw [dI_cg (x := ABT n f h r) (y := ABT n g h2 r) (fun j _ _ => ABT_cg ef eh ⟨h0, by omega⟩ j) (by omega)]
    refine dI_cg (fun t g0 g1 => ?_) (by omega)
    show (if h (r * 6 + t) = 0 then (0 : Int) else 1) = if h2 (r * 6 + t) = 0 then 0 else 1
    rw [eh _ (by omega) (by omega)]
  · exact dI_cg (fun j _ _ => RNG_cg ef eh ⟨h0, by omega⟩ hk.2 hn j) (by omega)
