/-! lists as rows -/
def lg (l : List Int) (i : Int) : Int := l.getD i.toNat 0
def sL (g : Int → Int) : List Int → Int
  | [] => 0
  | x :: t => g x + sL g t
theorem sL_app (g : Int → Int) : ∀ (a b : List Int), sL g (a ++ b) = sL g a + sL g b
  | [], b => by
    show sL g b = 0 + sL g b
    omega
  | x :: t, b => by
    show g x + sL g (t ++ b) = g x + sL g t + sL g b
    rw [sL_app g t b]
    omega
theorem sL_take (g : Int → Int) (l : List Int) {i : Int} (h : 0 ≤ i ∧ i < l.length) : sL g (l.take (i + 1).toNat) = sL g (l.take i.toNat) + g (lg l i) := by
  have hl : i.toNat < l.length := by omega
  rw [show (i + 1).toNat = i.toNat + 1 by omega, List.take_succ_eq_append_getElem hl, sL_app]
  show _ + (g l[i.toNat] + 0) = _
  unfold lg
  rw [List.getD_eq_getElem?_getD, List.getElem?_eq_getElem hl]
  show _ + (g l[i.toNat] + 0) = _ + g l[i.toNat]
  omega
theorem sL_take0 (g : Int → Int) (l : List Int) : sL g (l.take (0 : Int).toNat) = 0 := rfl
theorem sL_takeAll (g : Int → Int) (l : List Int) {i : Int} (h : i = l.length) : sL g (l.take i.toNat) = sL g l := by
  rw [List.take_of_length_le (by omega)]
theorem sL_b (g : Int → Int) (hg : ∀ x, 0 ≤ g x ∧ g x ≤ 1) : ∀ l : List Int, 0 ≤ sL g l ∧ sL g l ≤ l.length
  | [] => by
    show (0 : Int) ≤ 0 ∧ (0 : Int) ≤ ((0 : Nat) : Int)
    omega
  | x :: t => by
    have h1 := hg x
    have h2 := sL_b g hg t
    show 0 ≤ g x + sL g t ∧ g x + sL g t ≤ ((t.length + 1 : Nat) : Int)
    omega
theorem sL_cong {g h : Int → Int} : ∀ {l : List Int}, (∀ x ∈ l, g x = h x) → sL g l = sL h l
  | [], _ => rfl
  | x :: t, e => by
    show g x + sL g t = h x + sL h t
    rw [e x List.mem_cons_self, sL_cong (fun y hy => e y (List.mem_cons_of_mem _ hy))]
theorem lg_app1 {l m : List Int} {i : Int} (h : 0 ≤ i ∧ i < l.length) : lg (l ++ m) i = lg l i := by
  unfold lg
  rw [List.getD_eq_getElem?_getD, List.getD_eq_getElem?_getD, List.getElem?_append_left (by omega)]
theorem lg_app2 {l : List Int} {x i : Int} (h : i = l.length) : lg (l ++ [x]) i = x := by
  unfold lg
  rw [List.getD_eq_getElem?_getD, List.getElem?_append_right (by omega), show i.toNat - l.length = 0 by omega]
  rfl
theorem lg_mem {l : List Int} {i : Int} (h : 0 ≤ i ∧ i < l.length) : lg l i ∈ l := by
  unfold lg
  rw [List.getD_eq_getElem?_getD, List.getElem?_eq_getElem (by omega : i.toNat < l.length)]
  exact List.getElem_mem _
/-! rays, beams, light -/
section RAY
variable (n : Int) (f h : Int → Int)
def rayN (t : Int) : Nat → Int → List Int
  | 0, _ => []
  | k + 1, x => if x = -1 then [] else x :: rayN t k (ON n f h x t)
def ray (r t : Int) : List Int := rayN n f h t 11 (ON n f h r t)
def bm (r : Int) : Nat → List Int
  | 0 => [r]
  | t + 1 => bm r t ++ ray n f h r t
def beam (r : Int) : List Int := bm n f h r 6
def ind (j : Int) : Int → Int := fun x => if x = j then 1 else 0
def LT (m j : Int) : Int := sm (fun r => if f r = 2 then sL (ind j) (beam n f h r) else 0) 0 m
def LIT : Int := sm (fun j => if 0 < LT n f h n j then 1 else 0) 0 n
end RAY
theorem ind_b (j x : Int) : 0 ≤ ind j x ∧ ind j x ≤ 1 := by
  unfold ind
  split <;> omega
theorem rayN_none (n : Int) (f h : Int → Int) (t : Int) (k : Nat) : rayN n f h t k (-1) = [] := by
  cases k with
  | zero => rfl
  | succ k => exact if_pos rfl
theorem rayN_some (n : Int) (f h : Int → Int) (t : Int) (k : Nat) {x : Int} (hx : ¬ x = -1) : rayN n f h t (k + 1) x = x :: rayN n f h t k (ON n f h x t) := if_neg hx
theorem rayN_len (n : Int) (f h : Int → Int) (t : Int) : ∀ (k : Nat) (x : Int), (rayN n f h t k x).length ≤ k
  | 0, _ => Nat.le_refl _
  | k + 1, x => by
    by_cases hx : x = -1
    · rw [hx, rayN_none]
      exact Nat.zero_le _
    · rw [rayN_some _ _ _ _ _ hx]
      exact Nat.succ_le_succ (rayN_len n f h t k _)
theorem rayN_mem (n : Int) (f h : Int → Int) (t : Int) : ∀ (k : Nat) (x : Int), (x = -1 ∨ (0 ≤ x ∧ x < n)) → ∀ y ∈ rayN n f h t k x, 0 ≤ y ∧ y < n
  | 0, _, _, y, hy => nomatch hy
  | k + 1, x, hx, y, hy => by
    by_cases h1 : x = -1
    · rw [h1, rayN_none] at hy
      nomatch hy
    · rw [rayN_some _ _ _ _ _ h1] at hy
      rcases List.mem_cons.mp hy with e | hy
      · subst e
        omega
      · refine rayN_mem n f h t k _ ?_ y hy
        have := ON_b n f h x t
        omega
theorem bm_len (n : Int) (f h : Int → Int) (r : Int) : ∀ t : Nat, ((bm n f h r t).length : Int) ≤ 1 + 11 * t
  | 0 => by
    show ((1 : Nat) : Int) ≤ 1 + 11 * ((0 : Nat) : Int)
    omega
  | t + 1 => by
    have h1 := bm_len n f h r t
    have h2 : (ray n f h r t).length ≤ 11 := rayN_len n f h t 11 _
    show ((bm n f h r t ++ ray n f h r t).length : Int) ≤ _
    rw [List.length_append]
    omega
theorem bm_mem (n : Int) (f h : Int → Int) {r : Int} (hr : 0 ≤ r ∧ r < n) : ∀ (t : Nat), ∀ y ∈ bm n f h r t, 0 ≤ y ∧ y < n
  | 0, y, hy => by
    have : y = r := List.mem_singleton.mp hy
    omega
  | t + 1, y, hy => by
    rcases List.mem_append.mp hy with h1 | h1
    · exact bm_mem n f h hr t y h1
    · refine rayN_mem n f h t 11 _ ?_ y h1
      have := ON_b n f h r t
      omega
theorem beam_len (n : Int) (f h : Int → Int) (r : Int) : ((beam n f h r).length : Int) ≤ 67 := bm_len n f h r 6
theorem LT_b (n : Int) (f h : Int → Int) {m : Int} (hm : 0 ≤ m) (j : Int) : 0 ≤ LT n f h m j ∧ LT n f h m j ≤ 67 * m := by
  have := sm_le (g := fun r => if f r = 2 then sL (ind j) (beam n f h r) else 0) (c := 67) hm (fun r _ _ => by
    have h1 := sL_b (ind j) (ind_b j) (beam n f h r)
    have h2 := beam_len n f h r
    show 0 ≤ (if f r = 2 then sL (ind j) (beam n f h r) else 0) ∧ (if f r = 2 then sL (ind j) (beam n f h r) else 0) ≤ 67
    split <;> omega)
  rw [Int.sub_zero] at this
  exact this
theorem ON_cong {n : Int} {f g h : Int → Int} (e : ∀ j, 0 ≤ j → j < n → f j = g j) (r t : Int) : ON n f h r t = ON n g h r t := by
  have hb := NX_b n r t
  unfold ON
  by_cases c : NX n r t = -1
  · rw [if_pos (Or.inl c), if_pos (Or.inl c)]
  · rw [e _ (by omega) (by omega)]
theorem ON_cong2 {n : Int} {f h h2 : Int → Int} {r t : Int} (e : h (r * 6 + t) = h2 (r * 6 + t)) : ON n f h r t = ON n f h2 r t := by
  unfold ON
  rw [e]
theorem rayN_cong {n : Int} {f g h h2 : Int → Int} (ef : ∀ j, 0 ≤ j → j < n → f j = g j) {t : Int} (ht : 0 ≤ t ∧ t < 6) (eh : ∀ j, 0 ≤ j → j < n * 6 → h j = h2 j) : ∀ (k : Nat) (x : Int), (x = -1 ∨ (0 ≤ x ∧ x < n)) → rayN n f h t k x = rayN n g h2 t k x
  | 0, _, _ => rfl
  | k + 1, x, hx => by
    by_cases c : x = -1
    · rw [c, rayN_none, rayN_none]
    · rw [rayN_some _ _ _ _ _ c, rayN_some _ _ _ _ _ c, ON_cong ef x t, ON_cong2 (eh _ (by omega) (by omega))]
      congr 1
      refine rayN_cong ef ht eh k _ ?_
      have := ON_b n g h2 x t
      omega
theorem bm_cong {n : Int} {f g h h2 : Int → Int} (ef : ∀ j, 0 ≤ j → j < n → f j = g j) (eh : ∀ j, 0 ≤ j → j < n * 6 → h j = h2 j) {r : Int} (hr : 0 ≤ r ∧ r < n) : ∀ t : Nat, t ≤ 6 → bm n f h r t = bm n g h2 r t
  | 0, _ => rfl
  | t + 1, ht => by
    show bm n f h r t ++ ray n f h r t = bm n g h2 r t ++ ray n g h2 r t
    rw [bm_cong ef eh hr t (by omega)]
    congr 1
    unfold ray
    rw [ON_cong ef r t, ON_cong2 (h2 := h2) (eh _ (by omega) (by omega))]
    refine rayN_cong ef (by omega) eh 11 _ ?_
    have := ON_b n g h2 r t
    omega
theorem beam_cong {n : Int} {f g h h2 : Int → Int} (ef : ∀ j, 0 ≤ j → j < n → f j = g j) (eh : ∀ j, 0 ≤ j → j < n * 6 → h j = h2 j) {r : Int} (hr : 0 ≤ r ∧ r < n) : beam n f h r = beam n g h2 r := bm_cong ef eh hr 6 (Nat.le_refl _)
theorem LT_cong {n : Int} {f g h h2 : Int → Int} (ef : ∀ j, 0 ≤ j → j < n → f j = g j) (eh : ∀ j, 0 ≤ j → j < n * 6 → h j = h2 j) {m : Int} (hm : m ≤ n) (j : Int) : LT n f h m j = LT n g h2 m j := by
  unfold LT
  refine sm_cong (fun r h0 h1 => ?_)
  show (if f r = 2 then sL (ind j) (beam n f h r) else 0) = (if g r = 2 then sL (ind j) (beam n g h2 r) else 0)
  rw [ef r h0 (by omega), beam_cong ef eh ⟨h0, by omega⟩]
theorem LIT_cong {n : Int} {f g h h2 : Int → Int} (ef : ∀ j, 0 ≤ j → j < n → f j = g j) (eh : ∀ j, 0 ≤ j → j < n * 6 → h j = h2 j) : LIT n f h = LIT n g h2 := by
  unfold LIT
  refine sm_cong (fun j _ _ => ?_)
  show (if 0 < LT n f h n j then (1 : Int) else 0) = (if 0 < LT n g h2 n j then 1 else 0)
  rw [LT_cong ef eh (Int.le_refl _) j]
def TPok : Bool := (List.range 91).all (fun r => (List.range 6).all (fun t => decide (TN ((r : Int) * 6 + t) = -1 ∨ TP (TN ((r : Int) * 6 + t) * 6 + t) + 1 ≤ TP ((r : Int) * 6 + t)) && decide (0 ≤ TP ((r : Int) * 6 + t) ∧ TP ((r : Int) * 6 + t) ≤ 10)))
theorem TPok_t : TPok = true := by decide +kernel
theorem all2 {p : Nat → Nat → Bool} {a b : Nat} (h : (List.range a).all (fun r => (List.range b).all (fun t => p r t)) = true) {r t : Int} (hr : 0 ≤ r ∧ r < a) (ht : 0 ≤ t ∧ t < b) : p r.toNat t.toNat = true := by
  have h1 := List.all_eq_true.mp h r.toNat (List.mem_range.mpr (by omega))
  exact List.all_eq_true.mp h1 t.toNat (List.mem_range.mpr (by omega))
theorem TP_f {r t : Int} (hr : 0 ≤ r ∧ r < 91) (ht : 0 ≤ t ∧ t < 6) : (TN (r * 6 + t) = -1 ∨ TP (TN (r * 6 + t) * 6 + t) + 1 ≤ TP (r * 6 + t)) ∧ 0 ≤ TP (r * 6 + t) ∧ TP (r * 6 + t) ≤ 10 := by
  have h := all2 (p := fun r t => decide (TN ((r : Int) * 6 + t) = -1 ∨ TP (TN ((r : Int) * 6 + t) * 6 + t) + 1 ≤ TP ((r : Int) * 6 + t)) && decide (0 ≤ TP ((r : Int) * 6 + t) ∧ TP ((r : Int) * 6 + t) ≤ 10)) TPok_t hr ht
  rw [Bool.and_eq_true, decide_eq_true_eq, decide_eq_true_eq] at h
  rw [show ((r.toNat : Nat) : Int) = r by omega, show ((t.toNat : Nat) : Int) = t by omega] at h
  exact ⟨h.1, h.2⟩
theorem ON_TN (n : Int) (f h : Int → Int) (r t : Int) : ON n f h r t = -1 ∨ (ON n f h r t = TN (r * 6 + t) ∧ ¬ TN (r * 6 + t) = -1 ∧ TN (r * 6 + t) < n) := by
  have hb := ON_b n f h r t
  by_cases c : ON n f h r t = -1
  · exact Or.inl c
  · refine Or.inr ?_
    unfold ON at c hb ⊢
    by_cases c2 : NX n r t = -1 ∨ ¬ h (r * 6 + t) = 0 ∨ f (NX n r t) = 1
    · rw [if_pos c2] at c
      exact absurd rfl c
    · rw [if_neg c2] at c ⊢
      unfold NX at c ⊢
      by_cases c3 : TN (r * 6 + t) < n
      · rw [if_pos c3] at c ⊢
        exact ⟨rfl, c, c3⟩
      · rw [if_neg c3] at c
        exact absurd rfl c
def MU (x t : Int) : Int := if x = -1 then 0 else TP (x * 6 + t) + 1
theorem MU_b {x t : Int} (hx : x = -1 ∨ (0 ≤ x ∧ x < 91)) (ht : 0 ≤ t ∧ t < 6) : 0 ≤ MU x t ∧ MU x t ≤ 11 := by
  unfold MU
  by_cases c : x = -1
  · rw [if_pos c]
    omega
  · rw [if_neg c]
    have := (TP_f (r := x) (t := t) (by omega) ht).2
    omega
theorem MU_s (n : Int) (f h : Int → Int) {x t : Int} (hx : 0 ≤ x ∧ x < 91) (ht : 0 ≤ t ∧ t < 6) : MU (ON n f h x t) t + 1 ≤ MU x t := by
  have h1 := TP_f hx ht
  have h2 := ON_TN n f h x t
  unfold MU
  rw [if_neg (by omega : ¬ x = -1)]
  rcases h2 with e | ⟨e, e2, _⟩
  · rw [if_pos e]
    omega
  · rw [if_neg (by rw [e]; exact e2), e]
    omega
/-! turning -/
def rot (k b : Int) (f g : Int → Int) : Int → Int := fun j => if FR k ≤ j ∧ j < FR k + SZ k then f (FR k + (j - FR k - b) % SZ k) else g j
def rotP (k b : Int) (f g : Int → Int) (i : Int) : Int → Int := fun j => if (FR k ≤ j ∧ j < FR k + SZ k) ∧ (j - FR k - b) % SZ k < i then f (FR k + (j - FR k - b) % SZ k) else g j
theorem FR_SZ {k : Int} (hk : 0 ≤ k ∧ k ≤ 5) : (k = 0 ∧ FR k = 0 ∧ SZ k = 1) ∨ (k = 1 ∧ FR k = 1 ∧ SZ k = 6) ∨ (k = 2 ∧ FR k = 7 ∧ SZ k = 12) ∨ (k = 3 ∧ FR k = 19 ∧ SZ k = 18) ∨ (k = 4 ∧ FR k = 37 ∧ SZ k = 24) ∨ (k = 5 ∧ FR k = 61 ∧ SZ k = 30) := by
  rcases (by omega : k = 0 ∨ k = 1 ∨ k = 2 ∨ k = 3 ∨ k = 4 ∨ k = 5) with h | h | h | h | h | h <;> subst h <;> decide +kernel
theorem FR_s {k : Int} (hk : 0 ≤ k ∧ k ≤ 5) : FR (k + 1) = FR k + SZ k := by
  rcases (by omega : k = 0 ∨ k = 1 ∨ k = 2 ∨ k = 3 ∨ k = 4 ∨ k = 5) with h | h | h | h | h | h <;> subst h <;> decide +kernel
theorem rot_n {F n b i j : Int} (hn : n = 1 ∨ n = 6 ∨ n = 12 ∨ n = 18 ∨ n = 24 ∨ n = 30) (hi : 0 ≤ i ∧ i < n) (hj : F ≤ j ∧ j < F + n) : (j - F - b) % n = i ↔ j = F + (i + b) % n := by
  rcases hn with h | h | h | h | h | h <;> subst h <;> omega
theorem SZ_6 {k : Int} (hk : 0 ≤ k ∧ k ≤ 5) : SZ k = 1 ∨ SZ k = 6 ∨ SZ k = 12 ∨ SZ k = 18 ∨ SZ k = 24 ∨ SZ k = 30 := by
  have := FR_SZ hk
  omega
theorem rot_i {k b i j : Int} (hk : 0 ≤ k ∧ k ≤ 5) (hi : 0 ≤ i ∧ i < SZ k) (hj : FR k ≤ j ∧ j < FR k + SZ k) : (j - FR k - b) % SZ k = i ↔ j = FR k + (i + b) % SZ k := rot_n (SZ_6 hk) hi hj
theorem rot_m {k b : Int} (hk : 0 ≤ k ∧ k ≤ 5) (x : Int) : 0 ≤ x % SZ k ∧ x % SZ k < SZ k := by
  rcases FR_SZ hk with ⟨_, e1, e2⟩ | ⟨_, e1, e2⟩ | ⟨_, e1, e2⟩ | ⟨_, e1, e2⟩ | ⟨_, e1, e2⟩ | ⟨_, e1, e2⟩ <;> rw [e2] <;> omega
theorem rotP_0 (k b : Int) (f g : Int → Int) (hk : 0 ≤ k ∧ k ≤ 5) : rotP k b f g 0 = g := by
  funext j
  unfold rotP
  have := rot_m (b := b) hk (j - FR k - b)
  rw [if_neg (by omega)]
theorem rotP_n (k b : Int) (f g : Int → Int) (hk : 0 ≤ k ∧ k ≤ 5) : rotP k b f g (SZ k) = rot k b f g := by
  funext j
  unfold rotP rot
  have := rot_m (b := b) hk (j - FR k - b)
  by_cases c : FR k ≤ j ∧ j < FR k + SZ k
  · rw [if_pos ⟨c, this.2⟩, if_pos c]
  · rw [if_neg (fun q => c q.1), if_neg c]
theorem rotP_s {k b : Int} (f g : Int → Int) {i : Int} (hk : 0 ≤ k ∧ k ≤ 5) (hi : 0 ≤ i ∧ i < SZ k) : fU (rotP k b f g i) (FR k + (i + b) % SZ k) (f (FR k + i)) = rotP k b f g (i + 1) := by
  funext j
  unfold fU rotP
  have hm := rot_m (b := b) hk (i + b)
  by_cases c : FR k ≤ j ∧ j < FR k + SZ k
  · have h1 := rot_i (b := b) hk hi c
    by_cases e : j = FR k + (i + b) % SZ k
    · have h2 := h1.mpr e
      rw [if_pos e, if_pos ⟨c, by omega⟩, h2]
    · have h2 : ¬ (j - FR k - b) % SZ k = i := fun q => e (h1.mp q)
      rw [if_neg e]
      by_cases c2 : (j - FR k - b) % SZ k < i
      · rw [if_pos ⟨c, c2⟩, if_pos ⟨c, by omega⟩]
      · rw [if_neg (fun q => c2 q.2), if_neg (by omega)]
  · rw [if_neg (by omega), if_neg (fun q => c q.1), if_neg (fun q => c q.1)]
def AT (f : Int → Int) (b j : Int) : Int := f (FR (TR j) + (j - FR (TR j) - TR j * b) % SZ (TR j))
def TRok : Bool := (List.range 91).all (fun r => (List.range 6).all (fun k => decide (FR k ≤ (r : Int) ∧ (r : Int) < FR k + SZ k → TR r = k) && decide (FR (TR r) ≤ (r : Int) ∧ (r : Int) < FR (TR r) + SZ (TR r))))
theorem TRok_t : TRok = true := by decide +kernel
theorem TR_u {j k : Int} (hk : 0 ≤ k ∧ k ≤ 5) (h : FR k ≤ j ∧ j < FR k + SZ k) : TR j = k := by
  have hj : 0 ≤ j ∧ j < 91 := by
    have := FR_SZ hk
    omega
  have h1 := all2 (p := fun r k => decide (FR k ≤ (r : Int) ∧ (r : Int) < FR k + SZ k → TR r = k) && decide (FR (TR r) ≤ (r : Int) ∧ (r : Int) < FR (TR r) + SZ (TR r))) TRok_t hj (show 0 ≤ k ∧ k < ((6 : Nat) : Int) by omega)
  rw [Bool.and_eq_true, decide_eq_true_eq, decide_eq_true_eq] at h1
  rw [show ((j.toNat : Nat) : Int) = j by omega, show ((k.toNat : Nat) : Int) = k by omega] at h1
  exact h1.1 h
theorem TR_r {j : Int} (hj : 0 ≤ j ∧ j < 91) : FR (TR j) ≤ j ∧ j < FR (TR j) + SZ (TR j) := by
  have h1 := all2 (p := fun r k => decide (FR k ≤ (r : Int) ∧ (r : Int) < FR k + SZ k → TR r = k) && decide (FR (TR r) ≤ (r : Int) ∧ (r : Int) < FR (TR r) + SZ (TR r))) TRok_t hj (show (0 : Int) ≤ 0 ∧ (0 : Int) < ((6 : Nat) : Int) by omega)
  rw [Bool.and_eq_true, decide_eq_true_eq, decide_eq_true_eq] at h1
  rw [show ((j.toNat : Nat) : Int) = j by omega] at h1
  exact h1.2
theorem AT_rot {f g : Int → Int} {k b j : Int} (hk : 0 ≤ k ∧ k ≤ 5) (h : FR k ≤ j ∧ j < FR k + SZ k) : rot k (k * b) f g j = AT f b j := by
  unfold rot AT
  rw [if_pos h, TR_u hk h]
