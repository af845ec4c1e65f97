/-! numbers -/
def iI (z : Int) : Int32 := Int32.ofInt z
theorem iI_add (a b : Int) : iI a + iI b = iI (a + b) := (Int32.ofInt_add a b).symm
theorem iI_sub (a b : Int) : iI a - iI b = iI (a - b) := (Int32.ofInt_sub a b).symm
theorem iI_mul (a b : Int) : iI a * iI b = iI (a * b) := (Int32.ofInt_mul a b).symm
theorem iI_neg (a : Int) : -iI a = iI (-a) := (Int32.ofInt_neg a).symm
theorem iI_toInt {z : Int} (h : -2147483648 ≤ z ∧ z < 2147483648) : (iI z).toInt = z := Int32.toInt_ofInt_of_le (by omega) (by omega)
theorem iI_self (x : Int32) : iI x.toInt = x := Int32.ofInt_toInt x
theorem iI_rng (x : Int32) : -2147483648 ≤ x.toInt ∧ x.toInt < 2147483648 := by
  have h1 := Int32.le_toInt x
  have h2 := Int32.toInt_lt x
  omega
theorem iI_le {a b : Int} (ha : -2147483648 ≤ a ∧ a < 2147483648) (hb : -2147483648 ≤ b ∧ b < 2147483648) : iI a ≤ iI b ↔ a ≤ b := by
  rw [Int32.le_iff_toInt_le, iI_toInt ha, iI_toInt hb]
theorem iI_lt {a b : Int} (ha : -2147483648 ≤ a ∧ a < 2147483648) (hb : -2147483648 ≤ b ∧ b < 2147483648) : iI a < iI b ↔ a < b := by
  rw [Int32.lt_iff_toInt_lt, iI_toInt ha, iI_toInt hb]
theorem iI_eq {a b : Int} (ha : -2147483648 ≤ a ∧ a < 2147483648) (hb : -2147483648 ≤ b ∧ b < 2147483648) : iI a = iI b ↔ a = b := by
  rw [← Int32.toInt_inj, iI_toInt ha, iI_toInt hb]
theorem iI_0 : iI 0 = 0 := by decide +kernel
theorem iI_clamp {z : Int} (h : 0 ≤ z ∧ z < 2147483648) : (iI z).toNatClampNeg = z.toNat := by
  show (iI z).toInt.toNat = z.toNat
  rw [iI_toInt (by omega)]
theorem iI_in {z : Int} {n : Nat} (h : 0 ≤ z ∧ z < n ∧ z < 2147483648) : vp_in (iI z) n := by
  rw [vp_in_iff, iI_toInt (by omega)]
  omega
theorem iI_div {a b : Int} (ha : 0 ≤ a ∧ a < 2147483648) (hb : 0 < b ∧ b < 2147483648) : iI a / iI b = iI (a / b) := by
  rw [← Int32.toInt_inj, Int32.toInt_div_of_ne_left, iI_toInt (by omega), iI_toInt (by omega), Int.tdiv_eq_ediv_of_nonneg (by omega), iI_toInt]
  · have h1 : 0 ≤ a / b := Int.ediv_nonneg (by omega) (by omega)
    have h2 : a / b ≤ a := Int.ediv_le_self _ (by omega)
    omega
  · intro h
    have h2 := congrArg Int32.toInt h
    rw [iI_toInt (by omega)] at h2
    have h3 : Int32.minValue.toInt = -2147483648 := by decide +kernel
    omega
theorem iI_rem {a b : Int} (ha : 0 ≤ a ∧ a < 2147483648) (hb : 0 < b ∧ b < 2147483648) : iI a - iI a / iI b * iI b = iI (a % b) := by
  rw [iI_div ha hb, iI_mul, iI_sub]
  congr 1
  have := Int.emod_add_mul_ediv a b
  rw [Int.mul_comm (a / b) b]
  omega
theorem iI_abs {a : Int} (ha : -2147483648 ≤ a ∧ a < 2147483648) : (if 0 ≤ iI a then iI a else 0 - iI a) = iI (if 0 ≤ a then a else -a) := by
  have h0 : (0 : Int32) = iI 0 := iI_0.symm
  rw [h0]
  have h1 := iI_le (a := 0) (b := a) (by omega) ha
  by_cases h : 0 ≤ a
  · rw [if_pos (h1.mpr h), if_pos h]
  · rw [if_neg (fun q => h (h1.mp q)), if_neg h, iI_sub]
    congr 1
    omega
def vF (f : Int → Int) : Nat → Int32 := fun j => iI (f (j : Int))
def fU (f : Int → Int) (i v : Int) : Int → Int := fun j => if j = i then v else f j
theorem fU_at (f : Int → Int) (i v : Int) : fU f i v i = v := if_pos rfl
theorem fU_ne (f : Int → Int) (i v : Int) {j : Int} (h : j ≠ i) : fU f i v j = f j := if_neg h
theorem vF_up (f : Int → Int) {i : Int} (v : Int) (h : 0 ≤ i ∧ i < 2147483648) : upd (vF f) (iI i).toNatClampNeg (iI v) = vF (fU f i v) := by
  rw [iI_clamp h]
  funext j
  unfold upd vF fU
  by_cases e : j = i.toNat
  · rw [if_pos e, if_pos (by omega)]
  · rw [if_neg e, if_neg (by omega)]
theorem vF_at (f : Int → Int) {i : Int} (h : 0 ≤ i ∧ i < 2147483648) : vF f (iI i).toNatClampNeg = iI (f i) := by
  rw [iI_clamp h]
  unfold vF
  congr 2
  omega
def fC (f g : Int → Int) (sp dp n : Int) : Int → Int := fun j => if dp ≤ j ∧ j < dp + n then f (sp + (j - dp)) else g j
theorem vF_cpy (f g : Int → Int) {sp dp n : Int} (h1 : 0 ≤ sp ∧ sp < 2147483648) (h2 : 0 ≤ dp ∧ dp < 2147483648) (h3 : 0 ≤ n ∧ n < 2147483648) : va_cpy (vF f) (vF g) (iI sp).toNatClampNeg (iI dp).toNatClampNeg (iI n).toNatClampNeg = vF (fC f g sp dp n) := by
  rw [iI_clamp h1, iI_clamp h2, iI_clamp h3]
  funext j
  unfold va_cpy vF fC
  by_cases e : dp ≤ (j : Int) ∧ (j : Int) < dp + n
  · rw [if_pos e, if_pos (by omega)]
    congr 2
    omega
  · rw [if_neg e, if_neg (by omega)]
/-! locals -/
def lk : List (Nat × Value) → Nat → Option Value
  | [], _ => none
  | (j, v) :: t, i => cond (Nat.beq j i) (some v) (lk t i)
theorem lk_mem : ∀ {l : List (Nat × Value)} {i : Nat} {v : Value}, lk l i = some v → (i, v) ∈ l
  | [], _, _, h => nomatch h
  | (j, w) :: t, i, v, h => by
    unfold lk at h
    cases hb : Nat.beq j i
    · rw [hb] at h
      exact List.mem_cons_of_mem _ (lk_mem h)
    · rw [hb] at h
      have e1 : j = i := Nat.eq_of_beq_eq_true hb
      have e2 : w = v := Option.some.inj h
      rw [e1, e2]
      exact List.mem_cons_self
theorem lk_at {ls : Array Slot} {nL : Nat} {l : List (Nat × Value)} (h : lv_has ls nL l) {i : Nat} {v : Value} (hk : lk l i = some v) : ls[i]? = some (.val v) := h.2.2 (i, v) (lk_mem hk)
/-! the walk's frame of reference -/
abbrev KK : Type := va_G × (Nat → ClassId) × (Nat → Nat)
def tys0 (K : KK) : List (ClassId × FieldType) := [(K.2.1 0, .int), (K.2.1 1, .boolean), (K.2.1 2, .long)]
def aI (K : KK) (n : Nat) (f : Int → Int) : va_E := .inl (K.2.1 0, n, .inl (vF f))
def aZ (K : KK) (n : Nat) (f : Int → Int) : va_E := .inl (K.2.1 1, n, .inl (vF f))
def aJ (K : KK) (n : Nat) (f : Nat → Int64) : va_E := .inl (K.2.1 2, n, .inr (.inl f))
def stX : Int → Int := fun j => if j = 0 then 1 else if j = 1 then 0 else if j = 2 then -1 else if j = 3 then -1 else if j = 4 then 0 else 1
def stY : Int → Int := fun j => if j = 0 then 0 else if j = 1 then 1 else if j = 2 then 1 else if j = 3 then 0 else if j = 4 then -1 else -1
def ZS (C n : String) (t : Nat) (f : Int → Int) (A : Nat → Prop) (U : State) (H : Heap) : Prop := va_Z C n "[I" (.ref t) A U H ∧ va_T .int t 6 (fun j => .int (vF f j)) A U H
theorem ZS.moved {C n : String} {t : Nat} {f : Int → Int} {A : Nat → Prop} {u U : State} {H : Heap} (hvm : u.vm.Alike U.vm) (h : ZS C n t f A u H) : ZS C n t f A U H := ⟨h.1.moved hvm, h.2.moved hvm⟩
theorem ZS.kept {C n : String} {t : Nat} {f : Int → Int} {A : Nat → Prop} {U : State} {H H1 : Heap} (h : ZS C n t f A U H) (hq : ∀ a : Nat, a < H.size → ¬ A a → H1[a]? = H[a]?) : ZS C n t f A U H1 := ⟨h.1.kept hq, h.2.kept hq⟩
theorem ZS.narrow {C n : String} {t : Nat} {f : Int → Int} {A B : Nat → Prop} {U : State} {H : Heap} (h : ZS C n t f A U H) (hAB : ∀ q, B q → A q) : ZS C n t f B U H := ⟨h.1.narrow hAB, h.2.narrow hAB⟩
def E_I : String := "java/lang/IndexOutOfBoundsException"
def E_A : String := "java/lang/IllegalArgumentException"
def E_S : String := "java/lang/IllegalStateException"
def CA (E : String) (U : State) : Prop := (Cond.castable E E).before #[] U = true
theorem CA.moved {E : String} {u U : State} (hvm : u.vm.Alike U.vm) (h : CA E u) : CA E U := va_tabs rfl (rfl : (u.setVm U.vm).vm = U.vm) (by rw [Cond.castable_setVm hvm]; exact h)
def DC (E : String) (U : State) : Prop := (Cond.declares ⟨E, "<init>", "()V"⟩).before #[] U = true
theorem DC.moved {E : String} {u U : State} (hvm : u.vm.Alike U.vm) (h : DC E u) : DC E U := va_tabs rfl (rfl : (u.setVm U.vm).vm = U.vm) (by rw [Cond.declares_setVm hvm]; exact h)
def D3 (U : State) : Prop := DC "java/lang/RuntimeException" U ∧ DC "java/lang/Exception" U ∧ DC "java/lang/Throwable" U
theorem D3.moved {u U : State} (hvm : u.vm.Alike U.vm) (h : D3 u) : D3 U := ⟨h.1.moved hvm, h.2.1.moved hvm, h.2.2.moved hvm⟩
def XF (U : State) : Prop := CA E_I U ∧ CA E_A U ∧ CA E_S U ∧ va_Nc E_S E_I U ∧ va_Nc E_A E_I U ∧ D3 U
theorem XF.moved {u U : State} (hvm : u.vm.Alike U.vm) (h : XF u) : XF U := ⟨h.1.moved hvm, h.2.1.moved hvm, h.2.2.1.moved hvm, va_Nc.moved hvm h.2.2.2.1, va_Nc.moved hvm h.2.2.2.2.1, h.2.2.2.2.2.moved hvm⟩
def ZT (K : KK) (A : Nat → Prop) (U : State) (H : Heap) : Prop :=
  ZS "HexRooms$Plan" "STEP_ACROSS" (K.2.2 0) stX A U H ∧ ZS "HexRooms$Plan" "STEP_DOWN" (K.2.2 1) stY A U H ∧ ZS "HexRoomsModel" "ACROSS" (K.2.2 2) stX A U H ∧ ZS "HexRoomsModel" "DOWN" (K.2.2 3) stY A U H ∧
  vx_Zq Bundle.tN "UNASSIGNED_STACK" Bundle.steD A U H ∧ (vx_Zq Bundle.tN "SUPPRESSED_SENTINEL" Bundle.listD A U H ∧ XF U) ∧ va_Nw (.methodLinkNest RX0 44 yX1_doorOf RX1) U
theorem ZT.moved {K : KK} {A : Nat → Prop} {u U : State} {H : Heap} (hW : u.WarmedH U.vm) (h : ZT K A u H) : ZT K A U H := by
  obtain ⟨h1, h2, h3, h4, h5, h6, h7⟩ := h
  have hvm := hW.alike
  exact ⟨h1.moved hvm, h2.moved hvm, h3.moved hvm, h4.moved hvm, h5.moved hvm, ⟨h6.1.moved hvm, h6.2.moved hvm⟩, h7.warmM hW⟩
theorem ZT.blind {K : KK} {A : Nat → Prop} {u U : State} {H : Heap} (hvm : u.vm = U.vm) (h : ZT K A u H) : ZT K A U H := by
  obtain ⟨h1, h2, h3, h4, h5, h6, h7⟩ := h
  have hal : u.vm.Alike U.vm := by rw [hvm]; exact Vm.Alike.refl _
  exact ⟨h1.moved hal, h2.moved hal, h3.moved hal, h4.moved hal, h5.moved hal, ⟨h6.1.moved hal, h6.2.moved hal⟩, h7.same rfl hvm⟩
theorem ZT.kept {K : KK} {A : Nat → Prop} {U : State} {H H1 : Heap} (h : ZT K A U H) (hq : ∀ a : Nat, a < H.size → ¬ A a → H1[a]? = H[a]?) : ZT K A U H1 := by
  obtain ⟨h1, h2, h3, h4, h5, h6, h7⟩ := h
  exact ⟨h1.kept hq, h2.kept hq, h3.kept hq, h4.kept hq, h5.kept hq, ⟨h6.1.kept hq, h6.2⟩, h7⟩
theorem ZT.narrow {K : KK} {A B : Nat → Prop} {U : State} {H : Heap} (h : ZT K A U H) (hAB : ∀ q, B q → A q) : ZT K B U H := by
  obtain ⟨h1, h2, h3, h4, h5, h6, h7⟩ := h
  exact ⟨h1.narrow hAB, h2.narrow hAB, h3.narrow hAB, h4.narrow hAB, h5.narrow hAB, ⟨h6.1.narrow hAB, h6.2⟩, h7⟩
def hCx (p : Program) (s : State) (m : MethodId) (args : Array Value) (meth : Method) (c : Code) (cc : ByteArray) (nL : Nat) (rt : Option FieldType) (Ts : List Cond) (own : String) (K : KK) (A : Nat → Prop) : Prop :=
  p.tables.exec = Jvm.exec ∧ c.code = cc ∧ c.maxLocals = nL ∧ meth.sig.returnType = rt ∧ (∀ w ∈ Ts, w.before args s = true) ∧ s.vm.findClass own = some m.cls ∧ meth.locks = false ∧ va_K K.1 vwCl (tys0 K) s ∧ ZT K A s s.heap ∧ ∀ q : Nat, s.heap.size ≤ q → A q
def hG (p : Program) (l : Launch) (e : Env) (R : Room) (s : State) (m : MethodId) (args : Array Value) (below : List Frame) (meth : Method) (c : Code) (nL : Nat) (K : KK) (A : Nat → Prop) (k n : Nat) (Q : State → Prop) (pc : Nat) (lv : List (Nat × Value)) (st : List Value) (ws : va_W) : Prop :=
  ∀ (H : Heap) (locs : List Loc) (ls : Array Slot), va_P K.1 vwCl ws H → va_D A ws → va_S A s.heap H locs → lv_has ls nL lv → W p l e R s m args below meth c H locs k n Q (F0 m pc ls st)
def Pc0 (K : KK) (w0 : va_W) (As : List Value) (sz : Nat) : Array Value → State → Prop := va_Pc As (fun U => U.heap.size = sz ∧ va_P K.1 vwCl w0 U.heap ∧ va_K K.1 vwCl (tys0 K) U ∧ va_D (fun _ => True) w0 ∧ ZT K (va_A w0 sz) U U.heap)
def Bd0 (K : KK) (A : Nat → Prop) (w : va_W) (t : State) : Prop := va_P K.1 vwCl w t.heap ∧ va_K K.1 vwCl (tys0 K) t ∧ va_D A w
def hMI (l : Launch) (y : MethodName) (wy : List Cond) (rm : Room) (K : KK) (As : List Value) (w0 : va_W) (post : Int → va_W → Prop) : Prop :=
  ∀ sz : Nat, Met l y wy rm (Pc0 K w0 As sz) (va_Qi (fun r w => ∃ z : Int, r = iI z ∧ post z w) (Bd0 K (va_A w0 sz)) (va_A w0 sz)) 0 0 (va_A w0 sz)
def hMV (l : Launch) (y : MethodName) (wy : List Cond) (rm : Room) (K : KK) (As : List Value) (w0 : va_W) (post : va_W → Prop) : Prop :=
  ∀ sz : Nat, Met l y wy rm (Pc0 K w0 As sz) (va_Qv post (Bd0 K (va_A w0 sz)) (va_A w0 sz)) 0 0 (va_A w0 sz)
def hML (l : Launch) (y : MethodName) (wy : List Cond) (rm : Room) (K : KK) (As : List Value) (w0 : va_W) (post : Int64 → va_W → Prop) : Prop :=
  ∀ sz : Nat, Met l y wy rm (Pc0 K w0 As sz) (va_Ql post (Bd0 K (va_A w0 sz)) (va_A w0 sz)) 0 0 (va_A w0 sz)
def QI (K : KK) (A : Nat → Prop) (below : List Frame) (args : Array Value) (s : State) (post : Int → va_W → Prop) : State → Prop := MQ below (va_Qi (fun r w => ∃ z : Int, r = iI z ∧ post z w) (Bd0 K A) A) args s 0 0 A
def QV (K : KK) (A : Nat → Prop) (below : List Frame) (args : Array Value) (s : State) (post : va_W → Prop) : State → Prop := MQ below (va_Qv post (Bd0 K A) A) args s 0 0 A
def QL (K : KK) (A : Nat → Prop) (below : List Frame) (args : Array Value) (s : State) (post : Int64 → va_W → Prop) : State → Prop := MQ below (va_Ql post (Bd0 K A) A) args s 0 0 A
section GL
variable {p : Program} {l : Launch} {e : Env} {R : Room} {s : State} {m : MethodId} {args : Array Value} {below : List Frame} {meth : Method} {c : Code} {cc : ByteArray} {nL : Nat} {rt : Option FieldType} {Ts : List Cond} {own : String} {K : KK} {A : Nat → Prop} {k n : Nat} {Q : State → Prop} {pc : Nat} {lv lv' : List (Nat × Value)} {st : List Value} {ws : va_W}
theorem hCx.hx (C : hCx p s m args meth c cc nL rt Ts own K A) : p.tables.exec = Jvm.exec := C.1
theorem hCx.hb (C : hCx p s m args meth c cc nL rt Ts own K A) : c.code = cc := C.2.1
theorem hCx.hml (C : hCx p s m args meth c cc nL rt Ts own K A) : c.maxLocals = nL := C.2.2.1
theorem hCx.hr (C : hCx p s m args meth c cc nL rt Ts own K A) : meth.sig.returnType = rt := C.2.2.2.1
theorem hCx.hts (C : hCx p s m args meth c cc nL rt Ts own K A) : ∀ w ∈ Ts, w.before args s = true := C.2.2.2.2.1
theorem hCx.hown (C : hCx p s m args meth c cc nL rt Ts own K A) : s.vm.findClass own = some m.cls := C.2.2.2.2.2.1
theorem hCx.hlo (C : hCx p s m args meth c cc nL rt Ts own K A) : meth.locks = false := C.2.2.2.2.2.2.1
theorem hCx.hK (C : hCx p s m args meth c cc nL rt Ts own K A) : va_K K.1 vwCl (tys0 K) s := C.2.2.2.2.2.2.2.1
theorem hCx.hZ (C : hCx p s m args meth c cc nL rt Ts own K A) : ZT K A s s.heap := C.2.2.2.2.2.2.2.2.1
theorem hCx.hA (C : hCx p s m args meth c cc nL rt Ts own K A) : ∀ q : Nat, s.heap.size ≤ q → A q := C.2.2.2.2.2.2.2.2.2
theorem g_iconst (C : hCx p s m args meth c cc nL rt Ts own K A) {v : Int} (d : decode cc pc = .ok (.iconst v, 1)) (kk : hG p l e R s m args below meth c nL K A k n Q (pc + 1) lv (.int (iI v) :: st) ws) : hG p l e R s m args below meth c nL K A k n Q pc lv st ws :=
  fun H locs ls hP hD hS hl => lv_iconst C.hx C.hb d rfl (kk H locs ls hP hD hS hl)
theorem g_bipush (C : hCx p s m args meth c cc nL rt Ts own K A) {v : Int} (d : decode cc pc = .ok (.bipush v, 2)) (hv : (Int8.ofInt v).toInt32 = iI v) (kk : hG p l e R s m args below meth c nL K A k n Q (pc + 2) lv (.int (iI v) :: st) ws) : hG p l e R s m args below meth c nL K A k n Q pc lv st ws :=
  fun H locs ls hP hD hS hl => lv_bipush C.hx C.hb d hv (kk H locs ls hP hD hS hl)
theorem g_sipush (C : hCx p s m args meth c cc nL rt Ts own K A) {v : Int} (d : decode cc pc = .ok (.sipush v, 3)) (hv : (Int16.ofInt v).toInt32 = iI v) (kk : hG p l e R s m args below meth c nL K A k n Q (pc + 3) lv (.int (iI v) :: st) ws) : hG p l e R s m args below meth c nL K A k n Q pc lv st ws :=
  fun H locs ls hP hD hS hl => lv_sipush C.hx C.hb d hv (kk H locs ls hP hD hS hl)
theorem g_iload_n (C : hCx p s m args meth c cc nL rt Ts own K A) {f : Fin 4} {i : Nat} {x : Int32} (d : decode cc pc = .ok (.iload_n f, 1)) (hi : (f : Nat) = i) (h : lk lv i = some (.int x)) (kk : hG p l e R s m args below meth c nL K A k n Q (pc + 1) lv (.int x :: st) ws) : hG p l e R s m args below meth c nL K A k n Q pc lv st ws :=
  fun H locs ls hP hD hS hl => lv_iload_n C.hx C.hb d hi (lk_at hl h) (kk H locs ls hP hD hS hl)
theorem g_iload (C : hCx p s m args meth c cc nL rt Ts own K A) {i : Nat} {x : Int32} (d : decode cc pc = .ok (.iload i, 2)) (h : lk lv i = some (.int x)) (kk : hG p l e R s m args below meth c nL K A k n Q (pc + 2) lv (.int x :: st) ws) : hG p l e R s m args below meth c nL K A k n Q pc lv st ws :=
  fun H locs ls hP hD hS hl => lv_iload C.hx C.hb d (lk_at hl h) (kk H locs ls hP hD hS hl)
theorem g_aload_n (C : hCx p s m args meth c cc nL rt Ts own K A) {f : Fin 4} {i : Nat} {x : Nat} (d : decode cc pc = .ok (.aload_n f, 1)) (hi : (f : Nat) = i) (h : lk lv i = some (.ref x)) (kk : hG p l e R s m args below meth c nL K A k n Q (pc + 1) lv (.ref x :: st) ws) : hG p l e R s m args below meth c nL K A k n Q pc lv st ws :=
  fun H locs ls hP hD hS hl => lv_aload_n C.hx C.hb d hi (lk_at hl h) (kk H locs ls hP hD hS hl)
theorem g_aload (C : hCx p s m args meth c cc nL rt Ts own K A) {i : Nat} {x : Nat} (d : decode cc pc = .ok (.aload i, 2)) (h : lk lv i = some (.ref x)) (kk : hG p l e R s m args below meth c nL K A k n Q (pc + 2) lv (.ref x :: st) ws) : hG p l e R s m args below meth c nL K A k n Q pc lv st ws :=
  fun H locs ls hP hD hS hl => lv_aload C.hx C.hb d (lk_at hl h) (kk H locs ls hP hD hS hl)
theorem g_lload_n (C : hCx p s m args meth c cc nL rt Ts own K A) {f : Fin 4} {i : Nat} {x : Int64} (d : decode cc pc = .ok (.lload_n f, 1)) (hi : (f : Nat) = i) (h : lk lv i = some (.long x)) (kk : hG p l e R s m args below meth c nL K A k n Q (pc + 1) lv (.long x :: st) ws) : hG p l e R s m args below meth c nL K A k n Q pc lv st ws :=
  fun H locs ls hP hD hS hl => lv_lload_n C.hx C.hb d hi (lk_at hl h) (kk H locs ls hP hD hS hl)
theorem g_dload (C : hCx p s m args meth c cc nL rt Ts own K A) {i : Nat} {x : UInt64} (d : decode cc pc = .ok (.dload i, 2)) (h : lk lv i = some (.double x)) (kk : hG p l e R s m args below meth c nL K A k n Q (pc + 2) lv (.double x :: st) ws) : hG p l e R s m args below meth c nL K A k n Q pc lv st ws :=
  fun H locs ls hP hD hS hl => lv_dload C.hx C.hb d (lk_at hl h) (kk H locs ls hP hD hS hl)
theorem g_istore_n (C : hCx p s m args meth c cc nL rt Ts own K A) {f : Fin 4} {i : Nat} {x : Int32} (d : decode cc pc = .ok (.istore_n f, 1)) (hi : (f : Nat) = i) (hn : i < nL) (hl : (i, Value.int x) :: lv.filter (fun q => !(q.1 == i) && !(q.1 + 1 == i && q.2.category == 2)) = lv') (kk : hG p l e R s m args below meth c nL K A k n Q (pc + 1) lv' st ws) : hG p l e R s m args below meth c nL K A k n Q pc lv (.int x :: st) ws :=
  fun H locs ls hP hD hS h => lv_istore_n C.hx C.hb d hi h hn hl (fun ls' h' => kk H locs ls' hP hD hS h')
theorem g_istore (C : hCx p s m args meth c cc nL rt Ts own K A) {i : Nat} {x : Int32} (d : decode cc pc = .ok (.istore i, 2)) (hn : i < nL) (hl : (i, Value.int x) :: lv.filter (fun q => !(q.1 == i) && !(q.1 + 1 == i && q.2.category == 2)) = lv') (kk : hG p l e R s m args below meth c nL K A k n Q (pc + 2) lv' st ws) : hG p l e R s m args below meth c nL K A k n Q pc lv (.int x :: st) ws :=
  fun H locs ls hP hD hS h => lv_istore C.hx C.hb d h hn hl (fun ls' h' => kk H locs ls' hP hD hS h')
theorem g_astore_n (C : hCx p s m args meth c cc nL rt Ts own K A) {f : Fin 4} {i : Nat} {x : Nat} (d : decode cc pc = .ok (.astore_n f, 1)) (hi : (f : Nat) = i) (hn : i < nL) (hl : (i, Value.ref x) :: lv.filter (fun q => !(q.1 == i) && !(q.1 + 1 == i && q.2.category == 2)) = lv') (kk : hG p l e R s m args below meth c nL K A k n Q (pc + 1) lv' st ws) : hG p l e R s m args below meth c nL K A k n Q pc lv (.ref x :: st) ws :=
  fun H locs ls hP hD hS h => lv_astore_n C.hx C.hb d hi h hn hl (fun ls' h' => kk H locs ls' hP hD hS h')
theorem g_astore (C : hCx p s m args meth c cc nL rt Ts own K A) {i : Nat} {x : Nat} (d : decode cc pc = .ok (.astore i, 2)) (hn : i < nL) (hl : (i, Value.ref x) :: lv.filter (fun q => !(q.1 == i) && !(q.1 + 1 == i && q.2.category == 2)) = lv') (kk : hG p l e R s m args below meth c nL K A k n Q (pc + 2) lv' st ws) : hG p l e R s m args below meth c nL K A k n Q pc lv (.ref x :: st) ws :=
  fun H locs ls hP hD hS h => lv_astore C.hx C.hb d h hn hl (fun ls' h' => kk H locs ls' hP hD hS h')
theorem g_lstore_n (C : hCx p s m args meth c cc nL rt Ts own K A) {f : Fin 4} {i : Nat} {x : Int64} (d : decode cc pc = .ok (.lstore_n f, 1)) (hi : (f : Nat) = i) (hn : i + 1 < nL) (hl : (i, Value.long x) :: lv.filter (fun q => !(q.1 == i) && (!(q.1 == i + 1) && !(q.1 + 1 == i && q.2.category == 2))) = lv') (kk : hG p l e R s m args below meth c nL K A k n Q (pc + 1) lv' st ws) : hG p l e R s m args below meth c nL K A k n Q pc lv (.long x :: st) ws :=
  fun H locs ls hP hD hS h => lv_lstore_n C.hx C.hb d hi h hn hl (fun ls' h' => kk H locs ls' hP hD hS h')
theorem g_dstore (C : hCx p s m args meth c cc nL rt Ts own K A) {i : Nat} {x : UInt64} (d : decode cc pc = .ok (.dstore i, 2)) (hn : i + 1 < nL) (hl : (i, Value.double x) :: lv.filter (fun q => !(q.1 == i) && (!(q.1 == i + 1) && !(q.1 + 1 == i && q.2.category == 2))) = lv') (kk : hG p l e R s m args below meth c nL K A k n Q (pc + 2) lv' st ws) : hG p l e R s m args below meth c nL K A k n Q pc lv (.double x :: st) ws :=
  fun H locs ls hP hD hS h => lv_dstore C.hx C.hb d h hn hl (fun ls' h' => kk H locs ls' hP hD hS h')
theorem g_iinc (C : hCx p s m args meth c cc nL rt Ts own K A) {i : Nat} {v z : Int} (d : decode cc pc = .ok (.iinc i v, 3)) (h : lk lv i = some (.int (iI z))) (hn : i < nL) (hl : (i, Value.int (iI (z + v))) :: lv.filter (fun q => !(q.1 == i) && !(q.1 + 1 == i && q.2.category == 2)) = lv') (kk : hG p l e R s m args below meth c nL K A k n Q (pc + 3) lv' st ws) : hG p l e R s m args below meth c nL K A k n Q pc lv st ws := by
  intro H locs ls hP hD hS h0
  obtain ⟨j, hj⟩ := List.getElem?_of_mem (lk_mem h)
  exact lv_iinc (v := iI (z + v)) C.hx C.hb d h0 hj (iI_add z v) hn hl (fun ls' h' => kk H locs ls' hP hD hS h')
theorem g_iadd (C : hCx p s m args meth c cc nL rt Ts own K A) {x y : Int} (d : decode cc pc = .ok (.iadd, 1)) (kk : hG p l e R s m args below meth c nL K A k n Q (pc + 1) lv (.int (iI (x + y)) :: st) ws) : hG p l e R s m args below meth c nL K A k n Q pc lv (.int (iI y) :: .int (iI x) :: st) ws :=
  fun H locs ls hP hD hS hl => lv_iadd C.hx C.hb d (by rw [iI_add]; exact kk H locs ls hP hD hS hl)
theorem g_isub (C : hCx p s m args meth c cc nL rt Ts own K A) {x y : Int} (d : decode cc pc = .ok (.isub, 1)) (kk : hG p l e R s m args below meth c nL K A k n Q (pc + 1) lv (.int (iI (x - y)) :: st) ws) : hG p l e R s m args below meth c nL K A k n Q pc lv (.int (iI y) :: .int (iI x) :: st) ws :=
  fun H locs ls hP hD hS hl => lv_isub C.hx C.hb d (by rw [iI_sub]; exact kk H locs ls hP hD hS hl)
theorem g_imul (C : hCx p s m args meth c cc nL rt Ts own K A) {x y : Int} (d : decode cc pc = .ok (.imul, 1)) (kk : hG p l e R s m args below meth c nL K A k n Q (pc + 1) lv (.int (iI (x * y)) :: st) ws) : hG p l e R s m args below meth c nL K A k n Q pc lv (.int (iI y) :: .int (iI x) :: st) ws :=
  fun H locs ls hP hD hS hl => lv_imul C.hx C.hb d (by rw [iI_mul]; exact kk H locs ls hP hD hS hl)
theorem iI_ne0 {b : Int} (hb : 0 < b ∧ b < 2147483648) : ¬ iI b = 0 := by
  rw [← iI_0, iI_eq (by omega) (by omega)]
  omega
theorem g_idiv (C : hCx p s m args meth c cc nL rt Ts own K A) {x y : Int} (d : decode cc pc = .ok (.idiv, 1)) (hx : 0 ≤ x ∧ x < 2147483648) (hy : 0 < y ∧ y < 2147483648) (kk : hG p l e R s m args below meth c nL K A k n Q (pc + 1) lv (.int (iI (x / y)) :: st) ws) : hG p l e R s m args below meth c nL K A k n Q pc lv (.int (iI y) :: .int (iI x) :: st) ws :=
  fun H locs ls hP hD hS hl => lv_idiv C.hx C.hb d (iI_ne0 hy) (by rw [iI_div hx hy]; exact kk H locs ls hP hD hS hl)
theorem g_irem (C : hCx p s m args meth c cc nL rt Ts own K A) {x y : Int} (d : decode cc pc = .ok (.irem, 1)) (hx : 0 ≤ x ∧ x < 2147483648) (hy : 0 < y ∧ y < 2147483648) (kk : hG p l e R s m args below meth c nL K A k n Q (pc + 1) lv (.int (iI (x % y)) :: st) ws) : hG p l e R s m args below meth c nL K A k n Q pc lv (.int (iI y) :: .int (iI x) :: st) ws :=
  fun H locs ls hP hD hS hl => lv_irem C.hx C.hb d (iI_ne0 hy) (by rw [iI_rem hx hy]; exact kk H locs ls hP hD hS hl)
theorem g_goto (C : hCx p s m args meth c cc nL rt Ts own K A) {off : Int} {tgt : Nat} (d : decode cc pc = .ok (.goto off, 3)) (ht : (pc : Int) + off = (tgt : Int)) (kk : hG p l e R s m args below meth c nL K A k n Q tgt lv st ws) : hG p l e R s m args below meth c nL K A k n Q pc lv st ws :=
  fun H locs ls hP hD hS hl => lv_goto C.hx C.hb d ht (kk H locs ls hP hD hS hl)
theorem g_dup (C : hCx p s m args meth c cc nL rt Ts own K A) {v : Value} (d : decode cc pc = .ok (.dup, 1)) (hv : v.category = 1) (kk : hG p l e R s m args below meth c nL K A k n Q (pc + 1) lv (v :: v :: st) ws) : hG p l e R s m args below meth c nL K A k n Q pc lv (v :: st) ws :=
  fun H locs ls hP hD hS hl => lv_dup C.hx C.hb d hv (kk H locs ls hP hD hS hl)
theorem g_dup2 (C : hCx p s m args meth c cc nL rt Ts own K A) {v w : Value} (d : decode cc pc = .ok (.dup2, 1)) (hv : v.category = 1) (hw : w.category = 1) (kk : hG p l e R s m args below meth c nL K A k n Q (pc + 1) lv (v :: w :: v :: w :: st) ws) : hG p l e R s m args below meth c nL K A k n Q pc lv (v :: w :: st) ws :=
  fun H locs ls hP hD hS hl => lv_dup2_11 C.hx C.hb d hv hw (kk H locs ls hP hD hS hl)
theorem g_pop (C : hCx p s m args meth c cc nL rt Ts own K A) {v : Value} (d : decode cc pc = .ok (.pop, 1)) (hv : v.category = 1) (kk : hG p l e R s m args below meth c nL K A k n Q (pc + 1) lv st ws) : hG p l e R s m args below meth c nL K A k n Q pc lv (v :: st) ws :=
  fun H locs ls hP hD hS hl => lv_pop C.hx C.hb d hv (kk H locs ls hP hD hS hl)
theorem g_if_eq (C : hCx p s m args meth c cc nL rt Ts own K A) {x off : Int} {tgt : Nat} (d : decode cc pc = .ok (.ifCond .eq off, 3)) (ht : (pc : Int) + off = (tgt : Int)) (hx : -2147483648 ≤ x ∧ x < 2147483648) (kt : x = 0 → hG p l e R s m args below meth c nL K A k n Q tgt lv st ws) (kf : ¬ x = 0 → hG p l e R s m args below meth c nL K A k n Q (pc + 3) lv st ws) : hG p l e R s m args below meth c nL K A k n Q pc lv (.int (iI x) :: st) ws :=
  fun H locs ls hP hD hS hl => lv_if_eq C.hx C.hb d ht (fun h => kt ((iI_eq hx (by omega)).mp (by rw [iI_0]; exact h)) H locs ls hP hD hS hl) (fun h => kf (fun q => h (by rw [q, iI_0])) H locs ls hP hD hS hl)
theorem g_if_ne (C : hCx p s m args meth c cc nL rt Ts own K A) {x off : Int} {tgt : Nat} (d : decode cc pc = .ok (.ifCond .ne off, 3)) (ht : (pc : Int) + off = (tgt : Int)) (hx : -2147483648 ≤ x ∧ x < 2147483648) (kt : ¬ x = 0 → hG p l e R s m args below meth c nL K A k n Q tgt lv st ws) (kf : x = 0 → hG p l e R s m args below meth c nL K A k n Q (pc + 3) lv st ws) : hG p l e R s m args below meth c nL K A k n Q pc lv (.int (iI x) :: st) ws :=
  fun H locs ls hP hD hS hl => lv_if_ne C.hx C.hb d ht (fun h => kt (fun q => h (by rw [q, iI_0])) H locs ls hP hD hS hl) (fun h => kf ((iI_eq hx (by omega)).mp (by rw [iI_0]; exact h)) H locs ls hP hD hS hl)
theorem g_if_lt (C : hCx p s m args meth c cc nL rt Ts own K A) {x off : Int} {tgt : Nat} (d : decode cc pc = .ok (.ifCond .lt off, 3)) (ht : (pc : Int) + off = (tgt : Int)) (hx : -2147483648 ≤ x ∧ x < 2147483648) (kt : x < 0 → hG p l e R s m args below meth c nL K A k n Q tgt lv st ws) (kf : ¬ x < 0 → hG p l e R s m args below meth c nL K A k n Q (pc + 3) lv st ws) : hG p l e R s m args below meth c nL K A k n Q pc lv (.int (iI x) :: st) ws :=
  fun H locs ls hP hD hS hl => lv_if_lt C.hx C.hb d ht (fun h => kt ((iI_lt hx (by omega)).mp (by rw [iI_0]; exact h)) H locs ls hP hD hS hl) (fun h => kf (fun q => h (by rw [← iI_0]; exact (iI_lt hx (by omega)).mpr q)) H locs ls hP hD hS hl)
theorem g_if_le (C : hCx p s m args meth c cc nL rt Ts own K A) {x off : Int} {tgt : Nat} (d : decode cc pc = .ok (.ifCond .le off, 3)) (ht : (pc : Int) + off = (tgt : Int)) (hx : -2147483648 ≤ x ∧ x < 2147483648) (kt : x ≤ 0 → hG p l e R s m args below meth c nL K A k n Q tgt lv st ws) (kf : ¬ x ≤ 0 → hG p l e R s m args below meth c nL K A k n Q (pc + 3) lv st ws) : hG p l e R s m args below meth c nL K A k n Q pc lv (.int (iI x) :: st) ws :=
  fun H locs ls hP hD hS hl => lv_if_le C.hx C.hb d ht (fun h => kt ((iI_le hx (by omega)).mp (by rw [iI_0]; exact h)) H locs ls hP hD hS hl) (fun h => kf (fun q => h (by rw [← iI_0]; exact (iI_le hx (by omega)).mpr q)) H locs ls hP hD hS hl)
theorem g_icmp_eq (C : hCx p s m args meth c cc nL rt Ts own K A) {x y off : Int} {tgt : Nat} (d : decode cc pc = .ok (.if_icmp .eq off, 3)) (ht : (pc : Int) + off = (tgt : Int)) (hx : -2147483648 ≤ x ∧ x < 2147483648) (hy : -2147483648 ≤ y ∧ y < 2147483648) (kt : x = y → hG p l e R s m args below meth c nL K A k n Q tgt lv st ws) (kf : ¬ x = y → hG p l e R s m args below meth c nL K A k n Q (pc + 3) lv st ws) : hG p l e R s m args below meth c nL K A k n Q pc lv (.int (iI y) :: .int (iI x) :: st) ws :=
  fun H locs ls hP hD hS hl => lv_icmp_eq C.hx C.hb d ht (fun h => kt ((iI_eq hx hy).mp h) H locs ls hP hD hS hl) (fun h => kf (fun q => h ((iI_eq hx hy).mpr q)) H locs ls hP hD hS hl)
theorem g_icmp_ne (C : hCx p s m args meth c cc nL rt Ts own K A) {x y off : Int} {tgt : Nat} (d : decode cc pc = .ok (.if_icmp .ne off, 3)) (ht : (pc : Int) + off = (tgt : Int)) (hx : -2147483648 ≤ x ∧ x < 2147483648) (hy : -2147483648 ≤ y ∧ y < 2147483648) (kt : ¬ x = y → hG p l e R s m args below meth c nL K A k n Q tgt lv st ws) (kf : x = y → hG p l e R s m args below meth c nL K A k n Q (pc + 3) lv st ws) : hG p l e R s m args below meth c nL K A k n Q pc lv (.int (iI y) :: .int (iI x) :: st) ws :=
  fun H locs ls hP hD hS hl => lv_icmp_ne C.hx C.hb d ht (fun h => kt (fun q => h ((iI_eq hx hy).mpr q)) H locs ls hP hD hS hl) (fun h => kf ((iI_eq hx hy).mp h) H locs ls hP hD hS hl)
theorem g_icmp_lt (C : hCx p s m args meth c cc nL rt Ts own K A) {x y off : Int} {tgt : Nat} (d : decode cc pc = .ok (.if_icmp .lt off, 3)) (ht : (pc : Int) + off = (tgt : Int)) (hx : -2147483648 ≤ x ∧ x < 2147483648) (hy : -2147483648 ≤ y ∧ y < 2147483648) (kt : x < y → hG p l e R s m args below meth c nL K A k n Q tgt lv st ws) (kf : ¬ x < y → hG p l e R s m args below meth c nL K A k n Q (pc + 3) lv st ws) : hG p l e R s m args below meth c nL K A k n Q pc lv (.int (iI y) :: .int (iI x) :: st) ws :=
  fun H locs ls hP hD hS hl => lv_icmp_lt C.hx C.hb d ht (fun h => kt ((iI_lt hx hy).mp h) H locs ls hP hD hS hl) (fun h => kf (fun q => h ((iI_lt hx hy).mpr q)) H locs ls hP hD hS hl)
theorem g_icmp_ge (C : hCx p s m args meth c cc nL rt Ts own K A) {x y off : Int} {tgt : Nat} (d : decode cc pc = .ok (.if_icmp .ge off, 3)) (ht : (pc : Int) + off = (tgt : Int)) (hx : -2147483648 ≤ x ∧ x < 2147483648) (hy : -2147483648 ≤ y ∧ y < 2147483648) (kt : y ≤ x → hG p l e R s m args below meth c nL K A k n Q tgt lv st ws) (kf : ¬ y ≤ x → hG p l e R s m args below meth c nL K A k n Q (pc + 3) lv st ws) : hG p l e R s m args below meth c nL K A k n Q pc lv (.int (iI y) :: .int (iI x) :: st) ws :=
  fun H locs ls hP hD hS hl => lv_icmp_ge C.hx C.hb d ht (fun h => kt ((iI_le hy hx).mp h) H locs ls hP hD hS hl) (fun h => kf (fun q => h ((iI_le hy hx).mpr q)) H locs ls hP hD hS hl)
theorem g_icmp_gt (C : hCx p s m args meth c cc nL rt Ts own K A) {x y off : Int} {tgt : Nat} (d : decode cc pc = .ok (.if_icmp .gt off, 3)) (ht : (pc : Int) + off = (tgt : Int)) (hx : -2147483648 ≤ x ∧ x < 2147483648) (hy : -2147483648 ≤ y ∧ y < 2147483648) (kt : y < x → hG p l e R s m args below meth c nL K A k n Q tgt lv st ws) (kf : ¬ y < x → hG p l e R s m args below meth c nL K A k n Q (pc + 3) lv st ws) : hG p l e R s m args below meth c nL K A k n Q pc lv (.int (iI y) :: .int (iI x) :: st) ws :=
  fun H locs ls hP hD hS hl => lv_icmp_gt C.hx C.hb d ht (fun h => kt ((iI_lt hy hx).mp h) H locs ls hP hD hS hl) (fun h => kf (fun q => h ((iI_lt hy hx).mpr q)) H locs ls hP hD hS hl)
theorem g_icmp_le (C : hCx p s m args meth c cc nL rt Ts own K A) {x y off : Int} {tgt : Nat} (d : decode cc pc = .ok (.if_icmp .le off, 3)) (ht : (pc : Int) + off = (tgt : Int)) (hx : -2147483648 ≤ x ∧ x < 2147483648) (hy : -2147483648 ≤ y ∧ y < 2147483648) (kt : x ≤ y → hG p l e R s m args below meth c nL K A k n Q tgt lv st ws) (kf : ¬ x ≤ y → hG p l e R s m args below meth c nL K A k n Q (pc + 3) lv st ws) : hG p l e R s m args below meth c nL K A k n Q pc lv (.int (iI y) :: .int (iI x) :: st) ws :=
  fun H locs ls hP hD hS hl => lv_icmp_le C.hx C.hb d ht (fun h => kt ((iI_le hx hy).mp h) H locs ls hP hD hS hl) (fun h => kf (fun q => h ((iI_le hx hy).mpr q)) H locs ls hP hD hS hl)
theorem g_tsw (C : hCx p s m args meth c cc nL rt Ts own K A) {z dflt lo hi off : Int} {offs : Array Int} {len tgt : Nat} (d : decode cc pc = .ok (.tableswitch dflt lo hi offs, len)) (hz : -2147483648 ≤ z ∧ z < 2147483648) (h1 : ¬ z < lo) (h2 : ¬ hi < z) (ho : offs[(z - lo).toNat]? = some off) (ht : (pc : Int) + off = (tgt : Int)) (kk : hG p l e R s m args below meth c nL K A k n Q tgt lv st ws) : hG p l e R s m args below meth c nL K A k n Q pc lv (.int (iI z) :: st) ws :=
  fun H locs ls hP hD hS hl => lv_tableIn C.hx C.hb d (by rw [iI_toInt hz]; exact h1) (by rw [iI_toInt hz]; exact h2) (by rw [iI_toInt hz]; exact ho) ht (kk H locs ls hP hD hS hl)
theorem g_tswD (C : hCx p s m args meth c cc nL rt Ts own K A) {z dflt lo hi : Int} {offs : Array Int} {len tgt : Nat} (d : decode cc pc = .ok (.tableswitch dflt lo hi offs, len)) (hz : -2147483648 ≤ z ∧ z < 2147483648) (h1 : z < lo ∨ hi < z) (ht : (pc : Int) + dflt = (tgt : Int)) (kk : hG p l e R s m args below meth c nL K A k n Q tgt lv st ws) : hG p l e R s m args below meth c nL K A k n Q pc lv (.int (iI z) :: st) ws :=
  fun H locs ls hP hD hS hl => lv_tableOut C.hx C.hb d (by rw [iI_toInt hz]; exact h1) ht (kk H locs ls hP hD hS hl)
theorem g_get (C : hCx p s m args meth c cc nL rt Ts own K A) {ref Cn : String} {T : u_T} {N ci index a : Nat} (q0 : Nat) {fs : List Value} (he : ws[q0]? = some (a, .inr (ci, fs))) (hc : vwCl[ci]? = some (Cn, T, N)) (hin : ∀ w ∈ u_ws Cn T N, w ∈ Ts) (f : Nat) (hk : f < N) (hlink : (Cond.fieldLink own index ref (T f).2.1 (T f).2.2.1) ∈ Ts) (hsame : ref = (T f).1) {v : Value} (hv : fs[f]? = some v) (d : decode cc pc = .ok (.getfield index, 3)) (kk : hG p l e R s m args below meth c nL K A k n Q (pc + 3) lv (v :: st) ws) : hG p l e R s m args below meth c nL K A k n Q pc lv (.ref a :: st) ws :=
  fun H locs ls hP hD hS hl => va_get C.hx C.hb C.hts hin C.hown C.hK hP q0 he hc f hk (C.hts _ hlink) (fun _ h => by rw [hsame]; exact h) hv d (kk H locs ls hP hD hS hl)
theorem g_put (C : hCx p s m args meth c cc nL rt Ts own K A) {ref Cn : String} {T : u_T} {N ci index a : Nat} (q0 : Nat) {fs : List Value} (he : ws[q0]? = some (a, .inr (ci, fs))) (hc : vwCl[ci]? = some (Cn, T, N)) (hin : ∀ w ∈ u_ws Cn T N, w ∈ Ts) (ty0 : Nat → FieldType) (hty : ∀ k, k < N → parseFieldDescriptor (T k).2.2.1 = some (ty0 k)) (hnm : ∀ a, a < N → ∀ b, b < N → a ≠ b → (T a).2.1 ≠ (T b).2.1) (f : Nat) (hk : f < N) (hlink : (Cond.fieldLink own index ref (T f).2.1 (T f).2.2.1) ∈ Ts) (hsame : ref = (T f).1) (hfin : (T f).2.2.2 = false) (hd : ty0 f = .int) {x : Int32} (hl0 : f < fs.length) (d : decode cc pc = .ok (.putfield index, 3)) {ws' : va_W} (hw : ws.set q0 (a, .inr (ci, fs.set f (.int x))) = ws') (kk : hG p l e R s m args below meth c nL K A k n Q (pc + 3) lv st ws') : hG p l e R s m args below meth c nL K A k n Q pc lv (.int x :: .ref a :: st) ws := by
  intro H locs ls hP hD hS hl
  subst hw
  exact va_put (ty := .int) (v := .int x) C.hx C.hb C.hts hin ty0 hty hnm C.hown C.hK hP hD hS q0 he hc f hk (C.hts _ hlink) (fun _ h => by rw [hsame]; exact h) hfin (by rw [hty f hk, hd]) rfl rfl hl0 d (fun H1 locs1 hP hD hS => kk H1 locs1 ls hP hD hS hl)
theorem g_iaload (C : hCx p s m args meth c cc nL rt Ts own K A) {a N : Nat} {f : Int → Int} {i : Int} (q0 : Nat) (he : ws[q0]? = some (a, aI K N f)) (hi : 0 ≤ i ∧ i < N ∧ i < 2147483648) (d : decode cc pc = .ok (.iaload, 1)) (kk : hG p l e R s m args below meth c nL K A k n Q (pc + 1) lv (.int (iI (f i)) :: st) ws) : hG p l e R s m args below meth c nL K A k n Q pc lv (.int (iI i) :: .ref a :: st) ws :=
  fun H locs ls hP hD hS hl => va_iald (cA := K.2.1 0) (f := vF f) C.hx C.hb C.hK hP q0 0 he rfl (iI_in hi) d (by rw [vF_at f (by omega)]; exact kk H locs ls hP hD hS hl)
theorem g_baload (C : hCx p s m args meth c cc nL rt Ts own K A) {a N : Nat} {f : Int → Int} {i : Int} (q0 : Nat) (he : ws[q0]? = some (a, aZ K N f)) (hi : 0 ≤ i ∧ i < N ∧ i < 2147483648) (d : decode cc pc = .ok (.baload, 1)) (kk : hG p l e R s m args below meth c nL K A k n Q (pc + 1) lv (.int (iI (f i)) :: st) ws) : hG p l e R s m args below meth c nL K A k n Q pc lv (.int (iI i) :: .ref a :: st) ws :=
  fun H locs ls hP hD hS hl => va_zald (cA := K.2.1 1) (f := vF f) C.hx C.hb C.hK hP q0 1 he rfl (iI_in hi) d (by rw [vF_at f (by omega)]; exact kk H locs ls hP hD hS hl)
theorem g_iastore (C : hCx p s m args meth c cc nL rt Ts own K A) {a N : Nat} {f : Int → Int} {i v : Int} (q0 : Nat) (he : ws[q0]? = some (a, aI K N f)) (hi : 0 ≤ i ∧ i < N ∧ i < 2147483648) (d : decode cc pc = .ok (.iastore, 1)) {ws' : va_W} (hw : ws.set q0 (a, aI K N (fU f i v)) = ws') (kk : hG p l e R s m args below meth c nL K A k n Q (pc + 1) lv st ws') : hG p l e R s m args below meth c nL K A k n Q pc lv (.int (iI v) :: .int (iI i) :: .ref a :: st) ws := by
  intro H locs ls hP hD hS hl
  refine va_iast (cA := K.2.1 0) (f := vF f) C.hx C.hb C.hK hP hD hS q0 0 he rfl (iI_in hi) d (fun H1 locs1 hP hD hS => ?_)
  rw [vF_up f v (by omega)] at hP hD
  subst hw
  exact kk H1 locs1 ls hP hD hS hl
theorem iI_bool {v : Int} (h : v = 0 ∨ v = 1) : vp_nar .boolean (iI v) = iI v := by
  rcases h with rfl | rfl <;> decide +kernel
theorem g_bastore (C : hCx p s m args meth c cc nL rt Ts own K A) {a N : Nat} {f : Int → Int} {i v : Int} (q0 : Nat) (he : ws[q0]? = some (a, aZ K N f)) (hi : 0 ≤ i ∧ i < N ∧ i < 2147483648) (hv : v = 0 ∨ v = 1) (d : decode cc pc = .ok (.bastore, 1)) {ws' : va_W} (hw : ws.set q0 (a, aZ K N (fU f i v)) = ws') (kk : hG p l e R s m args below meth c nL K A k n Q (pc + 1) lv st ws') : hG p l e R s m args below meth c nL K A k n Q pc lv (.int (iI v) :: .int (iI i) :: .ref a :: st) ws := by
  intro H locs ls hP hD hS hl
  refine va_zast (cA := K.2.1 1) (f := vF f) C.hx C.hb C.hK hP hD hS q0 1 he rfl (iI_in hi) d (fun H1 locs1 hP hD hS => ?_)
  rw [iI_bool hv, vF_up f v (by omega)] at hP hD
  subst hw
  exact kk H1 locs1 ls hP hD hS hl
theorem g_alen (C : hCx p s m args meth c cc nL rt Ts own K A) {a N : Nat} {f : Int → Int} (q0 : Nat) (he : ws[q0]? = some (a, aI K N f)) (d : decode cc pc = .ok (.arraylength, 1)) (kk : hG p l e R s m args below meth c nL K A k n Q (pc + 1) lv (.int (iI (N : Int)) :: st) ws) : hG p l e R s m args below meth c nL K A k n Q pc lv (.ref a :: st) ws :=
  fun H locs ls hP hD hS hl => va_alen (cA := K.2.1 0) (x := (N, .inl (vF f))) C.hx C.hb C.hK hP q0 0 he rfl (v := iI (N : Int)) (Int32.ofInt_eq_ofNat).symm d (kk H locs ls hP hD hS hl)
theorem g_alenZ (C : hCx p s m args meth c cc nL rt Ts own K A) {a N : Nat} {f : Int → Int} (q0 : Nat) (he : ws[q0]? = some (a, aZ K N f)) (d : decode cc pc = .ok (.arraylength, 1)) (kk : hG p l e R s m args below meth c nL K A k n Q (pc + 1) lv (.int (iI (N : Int)) :: st) ws) : hG p l e R s m args below meth c nL K A k n Q pc lv (.ref a :: st) ws :=
  fun H locs ls hP hD hS hl => va_alen (cA := K.2.1 1) (x := (N, .inl (vF f))) C.hx C.hb C.hK hP q0 1 he rfl (v := iI (N : Int)) (Int32.ofInt_eq_ofNat).symm d (kk H locs ls hP hD hS hl)
theorem g_getS (C : hCx p s m args meth c cc nL rt Ts own K A) {Cn nm : String} {t index : Nat} {f : Int → Int} (hz : ZS Cn nm t f A s s.heap) (hlink : (Cond.fieldLink own index Cn nm "[I") ∈ Ts) (d : decode cc pc = .ok (.getstatic index, 3)) (kk : hG p l e R s m args below meth c nL K A k n Q (pc + 3) lv (.ref t :: st) ws) : hG p l e R s m args below meth c nL K A k n Q pc lv st ws :=
  fun H locs ls hP hD hS hl => va_gets C.hx C.hb hz.1 hS C.hown (C.hts _ hlink) (fun _ h => h) d (kk H locs ls hP hD hS hl)
theorem g_ialoadS (C : hCx p s m args meth c cc nL rt Ts own K A) {Cn nm : String} {t : Nat} {f : Int → Int} {i : Int} (hz : ZS Cn nm t f A s s.heap) (hi : 0 ≤ i ∧ i < 6) (d : decode cc pc = .ok (.iaload, 1)) (kk : hG p l e R s m args below meth c nL K A k n Q (pc + 1) lv (.int (iI (f i)) :: st) ws) : hG p l e R s m args below meth c nL K A k n Q pc lv (.int (iI i) :: .ref t :: st) ws :=
  fun H locs ls hP hD hS hl => va_ti C.hx C.hb hz.2 hS (iI_in (by omega)) rfl d (by rw [vF_at f (by omega)]; exact kk H locs ls hP hD hS hl)
theorem g_fr (hD : va_D A ws) {H : Heap} {locs : List Loc} (hS : va_S A s.heap H locs) (hA : ∀ q : Nat, s.heap.size ≤ q → A q) : ∀ q, va_A ws H.size q → A q := by
  intro q h
  rcases h with ⟨j, x, h⟩ | h
  · exact hD.2 j _ h
  · exact hA q (Nat.le_trans hS.1 h)
theorem g_pre (C : hCx p s m args meth c cc nL rt Ts own K A) {H : Heap} {locs : List Loc} (hP : va_P K.1 vwCl ws H) (hD : va_D A ws) (hS : va_S A s.heap H locs) (As : List Value) {U : State} (hU : U.heap = H) (hW : s.WarmedH U.vm) : Pc0 K ws As H.size As.toArray U := by
  refine ⟨rfl, by rw [hU], by rw [hU]; exact hP, va_K.moved hW.alike C.hK, hD.weaken (fun _ _ _ _ => trivial), ?_⟩
  rw [hU]
  exact (ZT.moved hW (C.hZ.kept hS.2.1)).narrow (g_fr hD hS C.hA)
theorem g_blind (As : List Value) (sz : Nat) : FrameBlind (Pc0 K ws As sz) := by
  intro a U g mk h
  obtain ⟨h0, h1, h2, h3, h4, h5⟩ := h
  exact ⟨h0, h1, h2, va_K.moved (u := U) (U := U.calling g mk a) (Vm.Alike.refl U.vm) h3, h4, ZT.blind (u := U) (U := U.calling g mk a) rfl h5⟩
theorem g_callVI (C : hCx p s m args meth c cc nL rt Ts own K A) {y : MethodName} {wy : List Cond} {rm : Room} {bytes : ByteArray} {maxL index a : Nat} {ret : Option FieldType} {Cn : String} {As rest : List Value} {post : Int → va_W → Prop} (hM : hMI l y wy rm K (.ref a :: As) ws post) (cw : CallW R s args own Cn index y bytes maxL ret wy rm 0 0 As.length) (q0 : Nat) {ci : Nat} {fs : List Value} {T : u_T} {N : Nat} (he : ws[q0]? = some (a, .inr (ci, fs))) (hc : vwCl[ci]? = some (Cn, T, N)) (d : decode cc pc = .ok (.invokevirtual index, 3)) (hst : st = As.reverse ++ .ref a :: rest) (hcat : (rest.map fun v => v.category).sum ≤ 8) (hk : k ≤ R.cells ∧ n ≤ R.slots) (kk : ∀ z w, post z w → hG p l e R s m args below meth c nL K A k n Q (pc + 3) lv (.int (iI z) :: rest) w) : hG p l e R s m args below meth c nL K A k n Q pc lv st ws := by
  intro H locs ls hP hD hS hl
  have hF := g_fr hD hS C.hA
  refine va_calli (va_runV (As := As) (rest := rest) ⟨C.hx, C.hb, C.hml, C.hown, C.hts⟩ (hM H.size) cw ⟨g_blind _ _, va_recv C.hK hP hc he, fun U hU hW => g_pre C hP hD hS _ hU hW⟩ rfl rfl hl.1 hst (lv_room hcat) d hk) hS (fun q _ h => hF q h) hF (fun r w t H1 locs1 ht hvm hp hB hz1 hk1 hS1 => ?_)
  obtain ⟨z, rfl, hp⟩ := hp
  exact kk z w hp H1 locs1 ls (by rw [← ht]; exact hB.1) (hB.2.2.weaken (fun _ _ _ h => hF _ h)) hS1 hl
theorem g_callVV (C : hCx p s m args meth c cc nL rt Ts own K A) {y : MethodName} {wy : List Cond} {rm : Room} {bytes : ByteArray} {maxL index a : Nat} {ret : Option FieldType} {Cn : String} {As rest : List Value} {post : va_W → Prop} (hM : hMV l y wy rm K (.ref a :: As) ws post) (cw : CallW R s args own Cn index y bytes maxL ret wy rm 0 0 As.length) (q0 : Nat) {ci : Nat} {fs : List Value} {T : u_T} {N : Nat} (he : ws[q0]? = some (a, .inr (ci, fs))) (hc : vwCl[ci]? = some (Cn, T, N)) (d : decode cc pc = .ok (.invokevirtual index, 3)) (hst : st = As.reverse ++ .ref a :: rest) (hcat : (rest.map fun v => v.category).sum ≤ 8) (hk : k ≤ R.cells ∧ n ≤ R.slots) (kk : ∀ w, post w → hG p l e R s m args below meth c nL K A k n Q (pc + 3) lv rest w) : hG p l e R s m args below meth c nL K A k n Q pc lv st ws := by
  intro H locs ls hP hD hS hl
  have hF := g_fr hD hS C.hA
  refine va_callv (va_runV (As := As) (rest := rest) ⟨C.hx, C.hb, C.hml, C.hown, C.hts⟩ (hM H.size) cw ⟨g_blind _ _, va_recv C.hK hP hc he, fun U hU hW => g_pre C hP hD hS _ hU hW⟩ rfl rfl hl.1 hst (lv_room hcat) d hk) hS (fun q _ h => hF q h) hF (fun w t H1 locs1 ht hvm hp hB hz1 hk1 hS1 => ?_)
  exact kk w hp H1 locs1 ls (by rw [← ht]; exact hB.1) (hB.2.2.weaken (fun _ _ _ h => hF _ h)) hS1 hl
theorem g_callVL (C : hCx p s m args meth c cc nL rt Ts own K A) {y : MethodName} {wy : List Cond} {rm : Room} {bytes : ByteArray} {maxL index a : Nat} {ret : Option FieldType} {Cn : String} {As rest : List Value} {post : Int64 → va_W → Prop} (hM : hML l y wy rm K (.ref a :: As) ws post) (cw : CallW R s args own Cn index y bytes maxL ret wy rm 0 0 As.length) (q0 : Nat) {ci : Nat} {fs : List Value} {T : u_T} {N : Nat} (he : ws[q0]? = some (a, .inr (ci, fs))) (hc : vwCl[ci]? = some (Cn, T, N)) (d : decode cc pc = .ok (.invokevirtual index, 3)) (hst : st = As.reverse ++ .ref a :: rest) (hcat : (rest.map fun v => v.category).sum ≤ 8) (hk : k ≤ R.cells ∧ n ≤ R.slots) (kk : ∀ z w, post z w → hG p l e R s m args below meth c nL K A k n Q (pc + 3) lv (.long z :: rest) w) : hG p l e R s m args below meth c nL K A k n Q pc lv st ws := by
  intro H locs ls hP hD hS hl
  have hF := g_fr hD hS C.hA
  refine va_calll (va_runV (As := As) (rest := rest) ⟨C.hx, C.hb, C.hml, C.hown, C.hts⟩ (hM H.size) cw ⟨g_blind _ _, va_recv C.hK hP hc he, fun U hU hW => g_pre C hP hD hS _ hU hW⟩ rfl rfl hl.1 hst (lv_room hcat) d hk) hS (fun q _ h => hF q h) hF (fun r w t H1 locs1 ht hvm hp hB hz1 hk1 hS1 => ?_)
  exact kk r w hp H1 locs1 ls (by rw [← ht]; exact hB.1) (hB.2.2.weaken (fun _ _ _ h => hF _ h)) hS1 hl
theorem g_callSI (C : hCx p s m args meth c cc nL rt Ts own K A) {y : MethodName} {wy : List Cond} {rm : Room} {bytes : ByteArray} {maxL index : Nat} {ret : Option FieldType} {As rest : List Value} {post : Int → va_W → Prop} (hM : hMI l y wy rm K As ws post) (cw : CallB R s args own index y bytes maxL ret wy rm 0 0 As.length ∧ (Cond.static y).before args s = true) (d : decode cc pc = .ok (.invokestatic index, 3)) (hst : st = As.reverse ++ rest) (hcat : (rest.map fun v => v.category).sum ≤ 8) (hk : k ≤ R.cells ∧ n ≤ R.slots) (kk : ∀ z w, post z w → hG p l e R s m args below meth c nL K A k n Q (pc + 3) lv (.int (iI z) :: rest) w) : hG p l e R s m args below meth c nL K A k n Q pc lv st ws := by
  intro H locs ls hP hD hS hl
  have hF := g_fr hD hS C.hA
  refine va_calli (va_runS (As := As) (rest := rest) ⟨C.hx, C.hb, C.hml, C.hown, C.hts⟩ (hM H.size) cw ⟨g_blind _ _, fun U hU hW => g_pre C hP hD hS _ hU hW⟩ rfl rfl hl.1 hst (lv_room hcat) d hk) hS (fun q _ h => hF q h) hF (fun r w t H1 locs1 ht hvm hp hB hz1 hk1 hS1 => ?_)
  obtain ⟨z, rfl, hp⟩ := hp
  exact kk z w hp H1 locs1 ls (by rw [← ht]; exact hB.1) (hB.2.2.weaken (fun _ _ _ h => hF _ h)) hS1 hl
theorem g_callSV (C : hCx p s m args meth c cc nL rt Ts own K A) {y : MethodName} {wy : List Cond} {rm : Room} {bytes : ByteArray} {maxL index : Nat} {ret : Option FieldType} {As rest : List Value} {post : va_W → Prop} (hM : hMV l y wy rm K As ws post) (cw : CallB R s args own index y bytes maxL ret wy rm 0 0 As.length ∧ (Cond.static y).before args s = true) (d : decode cc pc = .ok (.invokestatic index, 3)) (hst : st = As.reverse ++ rest) (hcat : (rest.map fun v => v.category).sum ≤ 8) (hk : k ≤ R.cells ∧ n ≤ R.slots) (kk : ∀ w, post w → hG p l e R s m args below meth c nL K A k n Q (pc + 3) lv rest w) : hG p l e R s m args below meth c nL K A k n Q pc lv st ws := by
  intro H locs ls hP hD hS hl
  have hF := g_fr hD hS C.hA
  refine va_callv (va_runS (As := As) (rest := rest) ⟨C.hx, C.hb, C.hml, C.hown, C.hts⟩ (hM H.size) cw ⟨g_blind _ _, fun U hU hW => g_pre C hP hD hS _ hU hW⟩ rfl rfl hl.1 hst (lv_room hcat) d hk) hS (fun q _ h => hF q h) hF (fun w t H1 locs1 ht hvm hp hB hz1 hk1 hS1 => ?_)
  exact kk w hp H1 locs1 ls (by rw [← ht]; exact hB.1) (hB.2.2.weaken (fun _ _ _ h => hF _ h)) hS1 hl
theorem g_callNI (C : hCx p s m args meth c cc nL rt Ts own K A) {y : MethodName} {wy : List Cond} {rm : Room} {bytes : ByteArray} {maxL index : Nat} {host : String} {ret : Option FieldType} {As rest : List Value} {post : Int → va_W → Prop} (hM : hMI l y wy rm K As ws post) (cw : va_CN R s args own index y host bytes maxL ret wy rm 0 0 As.length ∧ (Cond.static y).before args s = true ∧ True) (d : decode cc pc = .ok (.invokestatic index, 3)) (hst : st = As.reverse ++ rest) (hcat : (rest.map fun v => v.category).sum ≤ 8) (hk : k ≤ R.cells ∧ n ≤ R.slots) (kk : ∀ z w, post z w → hG p l e R s m args below meth c nL K A k n Q (pc + 3) lv (.int (iI z) :: rest) w) : hG p l e R s m args below meth c nL K A k n Q pc lv st ws := by
  intro H locs ls hP hD hS hl
  have hF := g_fr hD hS C.hA
  refine va_calli (va_runSN (As := As) (rest := rest) ⟨C.hx, C.hb, C.hml, C.hown, C.hts⟩ (hM H.size) cw ⟨g_blind _ _, fun U hU hW => g_pre C hP hD hS _ hU hW⟩ rfl rfl hl.1 hst (lv_room hcat) d hk) hS (fun q _ h => hF q h) hF (fun r w t H1 locs1 ht hvm hp hB hz1 hk1 hS1 => ?_)
  obtain ⟨z, rfl, hp⟩ := hp
  exact kk z w hp H1 locs1 ls (by rw [← ht]; exact hB.1) (hB.2.2.weaken (fun _ _ _ h => hF _ h)) hS1 hl
theorem g_ireturn (C : hCx p s m args meth c cc nL rt Ts own K A) {post : Int → va_W → Prop} {z : Int} (hrt : rt = some .int) (d : decode cc pc = .ok (.ireturn, 1)) (h : post z ws) : hG p l e R s m args below meth c nL K A 0 0 (QI K A below args s post) pc lv [.int (iI z)] ws := by
  subst hrt
  exact fun H locs ls hP hD hS hl => W.iret C.hx C.hb C.hr (fun t ht hW => ⟨⟨iI z, ws, rfl, ⟨z, rfl, h⟩, by rw [ht]; exact hP, va_K.moved hW.alike C.hK, hD⟩, hS.F ht⟩) hS.2.2 d C.hlo
theorem g_zreturn (C : hCx p s m args meth c cc nL rt Ts own K A) {post : Int → va_W → Prop} {z : Int} (hrt : rt = some .boolean) (hz : z = 0 ∨ z = 1) (d : decode cc pc = .ok (.ireturn, 1)) (h : post z ws) : hG p l e R s m args below meth c nL K A 0 0 (QI K A below args s post) pc lv [.int (iI z)] ws := by
  subst hrt
  have hn : narrow .boolean (.int (iI z)) = .int (iI z) := by rcases hz with rfl | rfl <;> decide +kernel
  exact fun H locs ls hP hD hS hl => W.zret C.hx C.hb C.hr hn (fun t ht hW => ⟨⟨iI z, ws, rfl, ⟨z, rfl, h⟩, by rw [ht]; exact hP, va_K.moved hW.alike C.hK, hD⟩, hS.F ht⟩) hS.2.2 d C.hlo
theorem g_return (C : hCx p s m args meth c cc nL rt Ts own K A) {post : va_W → Prop} (hrt : rt = none) (d : decode cc pc = .ok (.return_, 1)) (h : post ws) : hG p l e R s m args below meth c nL K A 0 0 (QV K A below args s post) pc lv [] ws := by
  subst hrt
  exact fun H locs ls hP hD hS hl => W.vret C.hx C.hb C.hr (fun t ht hW => ⟨⟨ws, rfl, h, by rw [ht]; exact hP, va_K.moved hW.alike C.hK, hD⟩, hS.F ht⟩) hS.2.2 d C.hlo
theorem g_lreturn (C : hCx p s m args meth c cc nL rt Ts own K A) {post : Int64 → va_W → Prop} {z : Int64} (hrt : rt = some .long) (d : decode cc pc = .ok (.lreturn, 1)) (h : post z ws) : hG p l e R s m args below meth c nL K A 0 0 (QL K A below args s post) pc lv [.long z] ws := by
  subst hrt
  exact fun H locs ls hP hD hS hl => W.lret C.hx C.hb C.hr (fun t ht hW => ⟨⟨z, ws, rfl, h, by rw [ht]; exact hP, va_K.moved hW.alike C.hK, hD⟩, hS.F ht⟩) hS.2.2 d C.hlo
end GL
theorem in_MI {l : Launch} {y : MethodName} {wy ws' : List Cond} {rm : Room} {K : KK} {As : List Value} {w0 : va_W} {post : Int → va_W → Prop} {cc : ByteArray} {maxL : Nat} {rt : Option FieldType} {lv : List (Nat × Value)} (hy : plainName y.cls = true) (hw : wy = Cond.code y cc maxL rt :: ws') (hsz : (lg_sl As).length ≤ maxL) (hlv : lv_args 0 As = lv)
    (body : ∀ p e s m args below meth c A, hCx p s m args meth c cc maxL rt wy y.cls K A → hG p l e rm s m args below meth c maxL K A 0 0 (QI K A below args s post) 0 lv [] w0) : hMI l y wy rm K As w0 post := by
  intro sz
  refine Met.ofW (cc := cc) (maxL := maxL) (ret := rt) hy hw ?_
  intro p e s m args below meth c s₁ B hml hv
  obtain ⟨rfl, hsz0, hP, hK, hD0, hZ⟩ := hv
  subst hsz0
  subst hlv
  have hD := hD0.self (sz := s.heap.size)
  rw [lg_entry_eq]
  exact body p e s m _ below meth c (va_A w0 s.heap.size) ⟨B.exec, B.bytes, hml, B.returns, atoms_spec (ws := wy) B.pre, findClass_of_methodNamed B.named, B.notSynchronized, hK, hZ, fun q h => Or.inr h⟩ s.heap [] _ hP hD va_S.rf (lv_entry As hsz)
theorem in_MV {l : Launch} {y : MethodName} {wy ws' : List Cond} {rm : Room} {K : KK} {As : List Value} {w0 : va_W} {post : va_W → Prop} {cc : ByteArray} {maxL : Nat} {rt : Option FieldType} {lv : List (Nat × Value)} (hy : plainName y.cls = true) (hw : wy = Cond.code y cc maxL rt :: ws') (hsz : (lg_sl As).length ≤ maxL) (hlv : lv_args 0 As = lv)
    (body : ∀ p e s m args below meth c A, hCx p s m args meth c cc maxL rt wy y.cls K A → hG p l e rm s m args below meth c maxL K A 0 0 (QV K A below args s post) 0 lv [] w0) : hMV l y wy rm K As w0 post := by
  intro sz
  refine Met.ofW (cc := cc) (maxL := maxL) (ret := rt) hy hw ?_
  intro p e s m args below meth c s₁ B hml hv
  obtain ⟨rfl, hsz0, hP, hK, hD0, hZ⟩ := hv
  subst hsz0
  subst hlv
  have hD := hD0.self (sz := s.heap.size)
  rw [lg_entry_eq]
  exact body p e s m _ below meth c (va_A w0 s.heap.size) ⟨B.exec, B.bytes, hml, B.returns, atoms_spec (ws := wy) B.pre, findClass_of_methodNamed B.named, B.notSynchronized, hK, hZ, fun q h => Or.inr h⟩ s.heap [] _ hP hD va_S.rf (lv_entry As hsz)
theorem in_ML {l : Launch} {y : MethodName} {wy ws' : List Cond} {rm : Room} {K : KK} {As : List Value} {w0 : va_W} {post : Int64 → va_W → Prop} {cc : ByteArray} {maxL : Nat} {rt : Option FieldType} {lv : List (Nat × Value)} (hy : plainName y.cls = true) (hw : wy = Cond.code y cc maxL rt :: ws') (hsz : (lg_sl As).length ≤ maxL) (hlv : lv_args 0 As = lv)
    (body : ∀ p e s m args below meth c A, hCx p s m args meth c cc maxL rt wy y.cls K A → hG p l e rm s m args below meth c maxL K A 0 0 (QL K A below args s post) 0 lv [] w0) : hML l y wy rm K As w0 post := by
  intro sz
  refine Met.ofW (cc := cc) (maxL := maxL) (ret := rt) hy hw ?_
  intro p e s m args below meth c s₁ B hml hv
  obtain ⟨rfl, hsz0, hP, hK, hD0, hZ⟩ := hv
  subst hsz0
  subst hlv
  have hD := hD0.self (sz := s.heap.size)
  rw [lg_entry_eq]
  exact body p e s m _ below meth c (va_A w0 s.heap.size) ⟨B.exec, B.bytes, hml, B.returns, atoms_spec (ws := wy) B.pre, findClass_of_methodNamed B.named, B.notSynchronized, hK, hZ, fun q h => Or.inr h⟩ s.heap [] _ hP hD va_S.rf (lv_entry As hsz)
