theorem LT_zero {n : Int} {f h : Int → Int} {m : Int} (hm : 0 ≤ m) (hf : ∀ r, 0 ≤ r → r < m → ¬ f r = 2) (j : Int) : LT n f h m j = 0 := by
  have h1 : LT n f h m j = sm (fun _ => 0) 0 m := sm_cong (fun r h0 h1 => if_neg (hf r h0 h1))
  rw [h1]
  have h2 := sm_le (g := fun _ => (0 : Int)) (c := 0) hm (fun _ _ _ => by omega)
  omega
theorem fC_rot {k b : Int} (f g : Int → Int) : fC (rot k b f g) f (FR k) (FR k) (SZ k) = rot k b f f := by
  funext j
  unfold fC rot
  by_cases c : FR k ≤ j ∧ j < FR k + SZ k
  · rw [if_pos c, if_pos c, if_pos (by omega), show FR k + (j - FR k) = j by omega]
  · rw [if_neg c, if_neg c]
def ab (x : Int) : Int := if 0 ≤ x then x else -x
theorem ab_b (x : Int) : 0 ≤ ab x ∧ (ab x = x ∨ ab x = -x) := by
  unfold ab
  split <;> omega
def FA (a b : Int) : Int := (ab (TA a - TA b) + ab (TD a - TD b) + ab ((TA a - TA b) + (TD a - TD b))) / 2
theorem g_ab {p : Program} {l : Launch} {e : Env} {R : Room} {s : State} {m : MethodId} {args : Array Value} {below : List Frame} {meth : Method} {c : Code} {cc : ByteArray} {nL : Nat} {rt : Option FieldType} {Ts : List Cond} {own : String} {K : KK} {A : Nat → Prop} {k n : Nat} {Q : State → Prop} {pc : Nat} {lv : List (Nat × Value)} {st : List Value} {ws : va_W} (C : hCx p s m args meth c cc nL rt Ts own K A) {index : Nat} (hlink : Cond.methodLink own index Lib.Math.abs.name ∈ Ts) (hstat : Cond.static Lib.Math.abs.name ∈ Ts) (hini : Cond.initialized "java/lang/Math" ∈ Ts) (hcode : Cond.code Lib.Math.abs.name Lib.Math.abs.code 1 (some .int) ∈ Ts) (hfr : 1 ≤ R.frames) (hlo : (st.map fun v => v.category).sum + 13 ≤ R.locals) (hk : k ≤ R.cells ∧ n ≤ R.slots) {x : Int} (hx : -2147483648 ≤ x ∧ x < 2147483648) (d : decode cc pc = .ok (.invokestatic index, 3)) (kk : hG p l e R s m args below meth c nL K A k n Q (pc + 3) lv (.int (iI (ab x)) :: st) ws) : hG p l e R s m args below meth c nL K A k n Q pc lv (.int (iI x) :: st) ws := g_abs C hlink hstat hini hcode hfr hlo hk hx d kk
theorem sL_nn (g : Int → Int) (hg : ∀ x, 0 ≤ g x) : ∀ l : List Int, 0 ≤ sL g l
  | [] => Int.le_refl _
  | x :: t => by
    have h1 := hg x
    have h2 := sL_nn g hg t
    show 0 ≤ g x + sL g t
    omega
theorem sL_take_le (g : Int → Int) (hg : ∀ x, 0 ≤ g x) (l : List Int) (i : Nat) : sL g (l.take i) ≤ sL g l := by
  have h1 : sL g (l.take i ++ l.drop i) = sL g (l.take i) + sL g (l.drop i) := sL_app g _ _
  rw [List.take_append_drop] at h1
  have := sL_nn g hg (l.drop i)
  omega
theorem sL_pos {l : List Int} {b i : Int} (h : 0 ≤ i ∧ i < l.length) (e : lg l i = b) : 0 < sL (ind b) l := by
  have h1 := sL_take (ind b) l h
  rw [e] at h1
  have h2 : ind b b = 1 := if_pos rfl
  have h3 := sL_nn (ind b) (fun x => (ind_b b x).1) (l.take i.toNat)
  have h4 := sL_take_le (ind b) (fun x => (ind_b b x).1) l (i + 1).toNat
  omega
noncomputable def CNT (k n : Int) (f h : Int → Int) (w : Int) : Int := if w = 0 then n else if w = 1 then k else if w = 2 then sm (fun j => if f j = 1 then 1 else 0) 0 n else if w = 3 then sm (fun j => if f j = 2 then 1 else 0) 0 n else if w = 4 then sm (fun r => sm (fun t => if h (r * 6 + t) = 0 then 0 else 1) 0 3) 0 n else if w = 5 then LIT n f h else PC n f h n
def ABT (n : Int) (f h : Int → Int) (r w : Int) : Int := if w = 0 then TA r else if w = 1 then TD r else if w = 2 then TR r else if w = 3 then f r else if w = 4 then LT n f h n r else sm (fun t => if ON n f h r t = -1 then 0 else 1) 0 6
def RNG (n : Int) (f h : Int → Int) (k w : Int) : Int := if w = 0 then SZ k else if w = 1 then sm (fun j => if f j = 1 then 1 else 0) (FR k) (FR k + SZ k) else if w = 2 then sm (fun j => if f j = 2 then 1 else 0) (FR k) (FR k + SZ k) else sm (fun j => if 0 < LT n f h n j then 1 else 0) (FR k) (FR k + SZ k)
def RXY (n x y : Int) : Int := if (if (-5 ≤ x ∧ x ≤ 5) ∧ (-5 ≤ y ∧ y ≤ 5) then TC ((y + 5) * 11 + x + 5) else -1) < n then (if (-5 ≤ x ∧ x ≤ 5) ∧ (-5 ≤ y ∧ y ≤ 5) then TC ((y + 5) * 11 + x + 5) else -1) else -1
def SDc (n : Int) (f h : Int → Int) (a b z : Int) : Prop := (a = b ∧ z = -1) ∨ (¬ a = b ∧ ((z = -1 ∧ ∀ s, 0 ≤ s → s < 6 → ON n f h a s = -1 ∨ dR n f h (ON n f h a s) b (-1)) ∨ ((0 ≤ z ∧ z < 6) ∧ ¬ ON n f h a z = -1 ∧ ∃ d, ¬ d = -1 ∧ dR n f h (ON n f h a z) b d ∧ ∀ s, 0 ≤ s → s < 6 → ON n f h a s = -1 ∨ ∃ d2, dR n f h (ON n f h a s) b d2 ∧ (d2 = -1 ∨ (d ≤ d2 ∧ (s < z → d < d2))))))
def DK (n : Int) (f h : Int → Int) (r : Int) : Int := sL (fun x => if LT n f h n x = 0 then 1 else 0) (beam n f h r)
theorem DK_e {n : Int} {f h g : Int → Int} (hg : ∀ j, 0 ≤ j → j < n → g j = LT n f h n j) {r : Int} (hr : 0 ≤ r ∧ r < n) : sL (fun x => if g x = 0 then 1 else 0) (beam n f h r) = DK n f h r := sL_cong (fun x hx => by
  have := bm_mem n f h hr 6 x hx
  show (if g x = 0 then (1 : Int) else 0) = if LT n f h n x = 0 then 1 else 0
  rw [hg x this.1 this.2])
theorem DK_b (n : Int) (f h : Int → Int) (r : Int) : 0 ≤ DK n f h r ∧ DK n f h r ≤ 67 := by
  have h1 := sL_b (fun x => if LT n f h n x = 0 then 1 else 0) (fun x => by
    show 0 ≤ (if LT n f h n x = 0 then (1 : Int) else 0) ∧ (if LT n f h n x = 0 then (1 : Int) else 0) ≤ 1
    split <;> omega) (beam n f h r)
  have h2 := beam_len n f h r
  unfold DK
  omega
theorem LIT_b {n : Int} (hn : 0 ≤ n) (f h : Int → Int) : 0 ≤ LIT n f h ∧ LIT n f h ≤ n := by
  have := sm_if (P := fun j => 0 < LT n f h n j) hn
  unfold LIT
  omega
def BS (n : Int) (f h : Int → Int) (z : Int) : Prop := (z = -1 ∧ ∀ r, 0 ≤ r → r < n → ¬ f r = 0) ∨ ((0 ≤ z ∧ z < n) ∧ f z = 0 ∧ ∀ r, 0 ≤ r → r < n → f r = 0 → DK n f h r ≤ DK n f h z ∧ (r < z → DK n f h r < DK n f h z))
def AV (n : Int) (f h : Int → Int) (k z : Int) : Prop := (0 ≤ z ∧ z < SZ k) ∧ ∀ b, 0 ≤ b → b < SZ k → LIT n (rot k b f f) h ≤ LIT n (rot k z f f) h ∧ (b < z → LIT n (rot k b f f) h < LIT n (rot k z f f) h)
def SM6 (n : Int) (f : Int → Int) (b : Int) : Prop := ∀ j, 0 ≤ j → j < n → AT f b j = f j
def SX (n : Int) (f : Int → Int) (z : Int) : Prop := (1 ≤ z ∧ z ≤ 6) ∧ (∀ b, 1 ≤ b → b < z → ¬ SM6 n f b) ∧ (z = 6 ∨ SM6 n f z)
theorem fU_b {f : Int → Int} {i v lo hi n : Int} (hf : ∀ j, 0 ≤ j → j < n → lo ≤ f j ∧ f j ≤ hi) (hv : lo ≤ v ∧ v ≤ hi) : ∀ j, 0 ≤ j → j < n → lo ≤ fU f i v j ∧ fU f i v j ≤ hi := by
  intro j h0 h1
  unfold fU
  split
  · exact hv
  · exact hf j h0 h1
theorem dR_b {n : Int} {f h : Int → Int} {a b d : Int} (p : dR n f h a b d) : -1 ≤ d ∧ d ≤ 90 := by
  rcases p with ⟨e, _⟩ | ⟨hd, _, _⟩ <;> omega
