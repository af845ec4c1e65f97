/-! methods that may draw -/
def hMD (l : Launch) (y : MethodName) (wy : List Cond) (rm : Room) (K : KK) (As : List Value) (w0 : va_W) (post : UInt64 → va_W → Prop) : Prop :=
  ∀ sz : Nat, MetD lw_cs l y wy rm (Pc0 K w0 As sz) (va_Qd post (Bd0 K (va_A w0 sz)) (va_A w0 sz)) 0 0 (va_A w0 sz)
section GD
variable {p : Program} {l : Launch} {e : Env} {R : Room} {s : State} {m : MethodId} {args : Array Value} {below : List Frame} {meth : Method} {c : Code} {cc : ByteArray} {nL : Nat} {rt : Option FieldType} {Ts : List Cond} {own : String} {K : KK} {A : Nat → Prop} {k n : Nat} {Q : State → Prop} {pc : Nat} {lv lv' : List (Nat × Value)} {st : List Value} {ws : va_W}
theorem hCx.dr (C : hCx p s m args meth c cc nL rt Ts own K A) (d : Drawn) : hCx p (s.setDrawn d) m args meth c cc nL rt Ts own K A :=
  ⟨C.hx, C.hb, C.hml, C.hr, dr_words C.hts d, C.hown, C.hlo, va_K.moved (u := s) (U := s.setDrawn d) (Vm.Alike.refl s.vm) C.hK, ZT.blind (u := s) (U := s.setDrawn d) rfl C.hZ, C.hA⟩
theorem g_i2d (C : hCx p s m args meth c cc nL rt Ts own K A) {x : Int} (d : decode cc pc = .ok (.i2d, 1)) (kk : hG p l e R s m args below meth c nL K A k n Q (pc + 1) lv (.double (FP.i2d (iI x)) :: st) ws) : hG p l e R s m args below meth c nL K A k n Q pc lv (.int (iI x) :: st) ws :=
  fun H locs ls hP hD hS hl => lv_i2d C.hx C.hb d (kk H locs ls hP hD hS hl)
theorem g_dconst0 (C : hCx p s m args meth c cc nL rt Ts own K A) (d : decode cc pc = .ok (.dconst 0, 1)) (kk : hG p l e R s m args below meth c nL K A k n Q (pc + 1) lv (.double FP.dconst0 :: st) ws) : hG p l e R s m args below meth c nL K A k n Q pc lv st ws :=
  fun H locs ls hP hD hS hl => lv_dconst0 C.hx C.hb d (kk H locs ls hP hD hS hl)
theorem in_MD {y : MethodName} {wy ws' : List Cond} {rm : Room} {As : List Value} {w0 : va_W} {post : UInt64 → va_W → Prop} {maxL pcd : Nat} (hy : plainName y.cls = true) (hw : wy = Cond.code y cc maxL rt :: ws') (hsz : (lg_sl As).length ≤ maxL) (hlv : lv_args 0 As = lv) (hrt : rt = some .double) (dd : decode cc pcd = .ok (.ddiv, 1)) (de : decode cc (pcd + 1) = .ok (.dreturn, 1))
    (body : ∀ p e s m args below meth c A (Q : State → Prop), (∀ lv ws v, post v ws → hG p l e rm s m args below meth c maxL K A 0 0 Q (pcd + 1) lv [.double v] ws) → (∀ lv ws x y, (∀ r, alike64 r (FP.ddiv x y) = true → post r ws) → hG p l e rm s m args below meth c maxL K A 0 0 Q pcd lv [.double y, .double x] ws) → hCx p s m args meth c cc maxL rt wy y.cls K A → hG p l e rm s m args below meth c maxL K A 0 0 Q 0 lv [] w0) : hMD l y wy rm K As w0 post := by
  intro sz
  refine MetD.ofW (cc := cc) (maxL := maxL) (ret := rt) hy hw ?_
  intro p e s m args below meth c s₁ B hml hv hd0
  obtain ⟨rfl, hsz0, hP, hK, hD0, hZ⟩ := hv
  subst hsz0
  subst hlv
  have hD := hD0.self (sz := s.heap.size)
  rw [lg_entry_eq]
  have C : hCx p s m As.toArray meth c cc maxL rt wy y.cls K (va_A w0 s.heap.size) := ⟨B.exec, B.bytes, hml, B.returns, atoms_spec (ws := wy) B.pre, findClass_of_methodNamed B.named, B.notSynchronized, hK, hZ, fun q h => Or.inr h⟩
  have E0 : ∀ d1 : Drawn, s.drawn.sameBut d1 lw_cs → ∀ lv ws v, post v ws → hG p l e rm (s.setDrawn d1) m As.toArray below meth c maxL K (va_A w0 s.heap.size) 0 0 (MQD lw_cs below (va_Qd post (Bd0 K (va_A w0 s.heap.size)) (va_A w0 s.heap.size)) As.toArray s 0 0 (va_A w0 s.heap.size)) (pcd + 1) lv [.double v] ws := by
    intro d1 hd1 lv ws v hp H locs ls hP hD hS hl
    subst hrt
    have hlo := C.hlo
    exact W.endD hd1 (W.dret (C.dr d1).hx C.hb C.hr (fun t ht hW => ⟨⟨v, ws, rfl, hp, by rw [ht]; exact hP, va_K.moved hW.alike (C.dr d1).hK, hD⟩, hS.F ht⟩) hS.2.2 de)
  exact body p e (s.setDrawn s.drawn) m _ below meth c (va_A w0 s.heap.size) _ (E0 s.drawn hd0) (fun lv ws x y h H locs ls hP hD hS hl => lv_ddiv_any hd0 lw_bits C.hx C.hb dd (fun r d1 hal hd1 => E0 d1 hd1 lv ws r (h r hal) H locs ls hP hD hS hl)) (C.dr s.drawn) s.heap [] _ hP hD va_S.rf (lv_entry As hsz)
end GD
def SUM (n : Int) (f h : Int → Int) : Int := sm (fun j => LT n f h n j) 0 n
def MN (n : Int) (f h : Int → Int) (r : UInt64) : Prop := (LIT n f h = 0 ∧ r = FP.dconst0) ∨ (¬ LIT n f h = 0 ∧ alike64 r (FP.ddiv (FP.i2d (iI (SUM n f h))) (FP.i2d (iI (LIT n f h)))) = true)
