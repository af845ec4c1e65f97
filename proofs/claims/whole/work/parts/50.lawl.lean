/-! the law's own rows -/
theorem and31 (x : Int) : ∃ z : Int, iI x &&& iI 31 = iI z ∧ 0 ≤ z ∧ z ≤ 31 := by
  refine ⟨(iI x &&& iI 31).toInt, (iI_self _).symm, ?_⟩
  have h0 : (iI 31).toBitVec = 31#32 := by decide +kernel
  have h3 : ∀ y : Int32, (y &&& iI 31).toBitVec.toNat ≤ 31 := by
    intro y
    rw [Int32.toBitVec_and, h0, BitVec.toNat_and]
    exact Nat.and_le_right
  have h1 := h3 (iI x)
  generalize iI x &&& iI 31 = y at h1 ⊢
  have h2 : y.toInt = (y.toBitVec.toNat : Int) := by
    show y.toBitVec.toInt = _
    exact BitVec.toInt_eq_toNat_of_lt (by omega)
  omega
abbrev lA (s : State) : Nat → Prop := fun q => s.heap.size ≤ q
abbrev lwW (K : KK) (qm : Nat → Nat) (T : Nat → Int → Int) (o : Nat) (g : Nat → Int64) (q : Nat → Nat) (S : Nat → Int → Int) : va_W := wM K qm T ++ ((o, aJ K 1 g) :: wX K q S)
def xI (xs : Nat → Int32) (j : Int) : Int := (xs j.toNat).toInt
theorem xI_b (xs : Nat → Int32) (j : Int) : -2147483648 ≤ xI xs j ∧ xI xs j < 2147483648 := iI_rng _
section GLW
variable {p : Program} {l : Launch} {e : Env} {R : Room} {s : State} {m : MethodId} {args : Array Value} {below : List Frame} {meth : Method} {c : Code} {cc : ByteArray} {nL : Nat} {rt : Option FieldType} {Ts : List Cond} {own : String} {K : KK} {A : Nat → Prop} {k n : Nat} {Q : State → Prop} {pc : Nat} {lv lv' : List (Nat × Value)} {st : List Value} {ws : va_W}
theorem g_icmp_eqS (C : hCx p s m args meth c cc nL rt Ts own K A) {x off : Int} {tgt : Nat} (d : decode cc pc = .ok (.if_icmp .eq off, 3)) (ht : (pc : Int) + off = (tgt : Int)) (kt : hG p l e R s m args below meth c nL K A k n Q tgt lv st ws) : hG p l e R s m args below meth c nL K A k n Q pc lv (.int (iI x) :: .int (iI x) :: st) ws :=
  fun H locs ls hP hD hS hl => lv_icmp_eq C.hx C.hb d ht (fun _ => kt H locs ls hP hD hS hl) (fun h => absurd rfl h)
theorem g_sld (C : hCx p s m args meth c cc nL rt Ts own K A) {b L : Nat} {xs : Nat → Int32} (hX : va_X b L xs s s.heap) (hbl : b < s.heap.size) (hbA : ¬ A b) {i : Int} (hi : 0 ≤ i ∧ i < L ∧ i < 2147483648) (d : decode cc pc = .ok (.iaload, 1)) (kk : hG p l e R s m args below meth c nL K A k n Q (pc + 1) lv (.int (iI (xI xs i)) :: st) ws) : hG p l e R s m args below meth c nL K A k n Q pc lv (.int (iI i) :: .ref b :: st) ws := by
  intro H locs ls hP hD hS hl
  refine va_sld C.hx C.hb hX hbl hbA hS (iI_in hi) d ?_
  rw [iI_clamp (by omega)]
  have h := kk H locs ls hP hD hS hl
  rw [show iI (xI xs i) = xs i.toNat from iI_self _] at h
  exact h
theorem g_slen (C : hCx p s m args meth c cc nL rt Ts own K A) {b L : Nat} {xs : Nat → Int32} (hX : va_X b L xs s s.heap) (hbl : b < s.heap.size) (hbA : ¬ A b) (hL : L < 100000) (d : decode cc pc = .ok (.arraylength, 1)) (kk : hG p l e R s m args below meth c nL K A k n Q (pc + 1) lv (.int (iI (L : Int)) :: st) ws) : hG p l e R s m args below meth c nL K A k n Q pc lv (.ref b :: st) ws := by
  intro H locs ls hP hD hS hl
  refine va_slen C.hx C.hb hX hbl hbA hS d ?_
  have h := kk H locs ls hP hD hS hl
  rw [show iI (L : Int) = Int32.ofNat L by
    rw [← Int32.toInt_inj, iI_toInt (by omega), Int32.toInt_ofNat_of_lt (by omega)]] at h
  exact h
theorem g_iand (C : hCx p s m args meth c cc nL rt Ts own K A) {x : Int} (d : decode cc pc = .ok (.iand, 1)) (kk : ∀ z, 0 ≤ z → z ≤ 31 → hG p l e R s m args below meth c nL K A k n Q (pc + 1) lv (.int (iI z) :: st) ws) : hG p l e R s m args below meth c nL K A k n Q pc lv (.int (iI 31) :: .int (iI x) :: st) ws := by
  intro H locs ls hP hD hS hl
  refine lv_iand C.hx C.hb d ?_
  obtain ⟨z, h1, h2, h3⟩ := and31 x
  rw [h1]
  exact kk z h2 h3 H locs ls hP hD hS hl
theorem gl_dstore (C : hCx p s m args meth c cc nL rt Ts own K A) {i : Nat} {x : UInt64} (d : decode cc pc = .ok (.dstore i, 2)) (hn : i + 1 < nL) (hl : (i, Value.double x) :: lv.filter (fun q => !(q.1 == i) && (!(q.1 == i + 1) && !(q.1 + 1 == i && q.2.category == 2))) = lv') (kk : hG p l e R s m args below meth c nL K A k n Q (pc + 2) lv' st ws) : hG p l e R s m args below meth c nL K A k n Q pc lv (.double x :: st) ws :=
  fun H locs ls hP hD hS h => lv_dstore C.hx C.hb d h hn hl (fun ls' h' => kk H locs ls' hP hD hS h')
theorem gl_dload (C : hCx p s m args meth c cc nL rt Ts own K A) {i : Nat} {x : UInt64} (d : decode cc pc = .ok (.dload i, 2)) (h : lk lv i = some (.double x)) (kk : hG p l e R s m args below meth c nL K A k n Q (pc + 2) lv (.double x :: st) ws) : hG p l e R s m args below meth c nL K A k n Q pc lv st ws :=
  fun H locs ls hP hD hS hl => lv_dload C.hx C.hb d (lk_at hl h) (kk H locs ls hP hD hS hl)
theorem gl_dcmp (C : hCx p s m args meth c cc nL rt Ts own K A) {x y : UInt64} {op : CmpOp} {z : Int} (d : decode cc pc = .ok (.dcmp op, 1)) (hz : Op.cmpValue (FP.dcmp x y) op = iI z) (kk : hG p l e R s m args below meth c nL K A k n Q (pc + 1) lv (.int (iI z) :: st) ws) : hG p l e R s m args below meth c nL K A k n Q pc lv (.double y :: .double x :: st) ws := by
  intro H locs ls hP hD hS hl
  refine lv_dcmp C.hx C.hb d ?_
  rw [hz]
  exact kk H locs ls hP hD hS hl
end GLW
