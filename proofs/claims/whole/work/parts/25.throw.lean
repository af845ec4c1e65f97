abbrev rmX (i : Nat) : Room := { frames := i, cells := 1, slots := 6, locals := 32 * i }
def hMX (l : Launch) (y : MethodName) (wy : List Cond) (rm : Room) (K : KK) (As : List Value) (w0 : va_W) (E : String) : Prop :=
  ∀ sz : Nat, vx_Met l y wy rm (Pc0 K w0 As sz) (fun _ _ _ _ => False) (vx_X (fun _ : Unit => True) (fun E2 _ t => E2 = E ∧ Bd0 K (va_A w0 sz) w0 t) (va_A w0 sz)) 1 6 (va_A w0 sz)
def QX (K : KK) (A : Nat → Prop) (below : List Frame) (args : Array Value) (s : State) (w0 : va_W) (E : String) : State → Prop := vx_MQ below (fun _ _ _ _ => False) (vx_X (fun _ : Unit => True) (fun E2 _ t => E2 = E ∧ Bd0 K A w0 t) A) args s 1 6 A
theorem in_MX {l : Launch} {y : MethodName} {wy ws' : List Cond} {rm : Room} {K : KK} {As : List Value} {w0 : va_W} {E : String} {cc : ByteArray} {maxL : Nat} {rt : Option FieldType} {lv : List (Nat × Value)} (hy : plainName y.cls = true) (hw : wy = Cond.code y cc maxL rt :: ws') (hsz : (lg_sl As).length ≤ maxL) (hlv : lv_args 0 As = lv)
    (body : ∀ p e s m args below meth c A, hCx p s m args meth c cc maxL rt wy y.cls K A → (∀ x ∈ c.exceptionTable.toList, False) → hG p l e rm s m args below meth c maxL K A 0 0 (QX K A below args s w0 E) 0 lv [] w0) : hMX l y wy rm K As w0 E := by
  intro sz
  refine vx_ofW (cc := cc) (maxL := maxL) (ret := rt) hy hw ?_
  intro p e s m args below meth c s₁ B hml hex hv
  obtain ⟨rfl, hsz0, hP, hK, hD0, hZ⟩ := hv
  subst hsz0
  subst hlv
  have hD := hD0.self (sz := s.heap.size)
  rw [lg_entry_eq]
  exact body p e s m _ below meth c (va_A w0 s.heap.size) ⟨B.exec, B.bytes, hml, B.returns, atoms_spec (ws := wy) B.pre, findClass_of_methodNamed B.named, B.notSynchronized, hK, hZ, fun q h => Or.inr h⟩ hex s.heap [] _ hP hD va_S.rf (lv_entry As hsz)
section G3
variable {p : Program} {l : Launch} {e : Env} {R : Room} {s : State} {m : MethodId} {args : Array Value} {below : List Frame} {meth : Method} {c : Code} {cc : ByteArray} {nL : Nat} {rt : Option FieldType} {Ts : List Cond} {own : String} {K : KK} {A : Nat → Prop} {k n : Nat} {Q : State → Prop} {pc : Nat} {lv lv' : List (Nat × Value)} {st : List Value} {ws : va_W}
theorem g_throw0 (C : hCx p s m args meth c cc nL rt Ts own K A) (hex : ∀ x ∈ c.exceptionTable.toList, False) (hl : l.stackTraces = false) {E : String} {ik ic : Nat} (hk : Cond.classLink own ik E ∈ Ts) (hini : Cond.initialized E ∈ Ts) (hat : ∀ w ∈ (vx_at0 own ic E ["java/lang/RuntimeException", "java/lang/Exception"]).filter goodWord, w ∈ Ts) (hca : CA E s) (hng : ∀ w ∈ (vx_at0 own ic E ["java/lang/RuntimeException", "java/lang/Exception"]).filter (fun w => !goodWord w), w ∈ [Cond.castable E E, Cond.declares ⟨"java/lang/RuntimeException", "<init>", "()V"⟩, Cond.declares ⟨"java/lang/Exception", "<init>", "()V"⟩, Cond.declares ⟨"java/lang/Throwable", "<init>", "()V"⟩]) (hcls : Bundle.fit E = true) (hgood : ∀ w ∈ Cond.classLink own ik E :: Cond.initialized E :: vx_at0 own ic E ["java/lang/RuntimeException", "java/lang/Exception"], vx_ot w = true)
    (d0 : decode cc pc = .ok (.new ik, 3)) (d3 : decode cc (pc + 3) = .ok (.dup, 1)) (d4 : decode cc (pc + 4) = .ok (.invokespecial ic, 3)) (d7 : decode cc (pc + 7) = .ok (.athrow, 1)) (hR : 5 < R.frames ∧ (st.map fun v => v.category).sum + 81 ≤ R.locals ∧ 1 ≤ R.cells ∧ 6 ≤ R.slots) : hG p l e R s m args below meth c nL K A 0 0 (QX K A below args s ws E) pc lv st ws := by
  intro H locs ls hP hD hS hl0
  have hcast : (Cond.castable E E).before args s = true := va_tabs rfl rfl hca
  have hat' : ∀ w ∈ vx_at0 own ic E ["java/lang/RuntimeException", "java/lang/Exception"], w.before args s = true := vx_hat (fun w hw => C.hts w (hat w hw)) hng (vx_c hcast (vx_c (va_tabs rfl rfl C.hZ.2.2.2.2.2.1.2.2.2.2.2.2.1) (vx_c (va_tabs rfl rfl C.hZ.2.2.2.2.2.1.2.2.2.2.2.2.2.1) (vx_c (va_tabs rfl rfl C.hZ.2.2.2.2.2.1.2.2.2.2.2.2.2.2) vx_n))))
  refine vx_throw0 (names := ["java/lang/RuntimeException", "java/lang/Exception"]) C.hx C.hb hl C.hown hcls (by decide +kernel) (C.hts _ hk) (C.hts _ hini) hat' hgood C.hZ.2.2.2.2.1 C.hZ.2.2.2.2.2.1.1 hS (hl0.1.trans C.hml.symm) d0 d3 d4 d7 (fun x hx => (hex x hx).elim) hR.1 hR.2.1 (by show 0 + 1 ≤ R.cells; omega) (by show 0 + 6 ≤ R.slots; omega) C.hlo (fun t hvm h1 h2 => ?_) hS.2.2 (Nat.le_refl _) (Nat.le_refl _)
  refine ⟨(), trivial, ⟨rfl, hP.kept (fun j x hx => h2 x.1 (vx_lt hP hx)), va_K.moved hvm C.hK, hD⟩, Nat.le_trans hS.1 h1, fun q g1 g2 => ?_⟩
  rw [h2 q (Nat.lt_of_lt_of_le g1 hS.1)]
  exact hS.2.1 q g1 g2
theorem g_thrown {mc ms : Nat} {free : Addr → Prop} {A0 : Nat → Prop} {H0 H : Heap} {locs : List Loc} {ls : Array Slot} {st0 rest : List Value} {cells slots : Nat} {SX : Type} {px : SX → Prop} {BX : String → SX → State → Prop} {AX : Nat → Prop} (hr : vx_Run p l e R s m args below meth c H locs cells slots mc ms (F0 m pc ls st0) rest (fun _ _ _ => False) (vx_X px BX AX) free) (hS : va_S A0 H0 H locs) (hf : ∀ q, free q → A0 q) (hAX : ∀ q, q < H.size → AX q → A0 q)
    (kx : ∀ (E : String) (ce : Cell) (q9 : Addr) (u : SX) (t : State) (H1 : Heap) (locs1 : List Loc), t.heap = H1 → s.vm.Alike t.vm → px u → BX E u t → H.size ≤ H1.size → (∀ q : Nat, q < H.size → ¬ AX q → H1[q]? = H[q]?) → va_S A0 H0 H1 locs1 → H1[q9]? = some ce → ce.vm = .none → s.vm.findClass E = some ce.cls → vx_W p l e R s m args below meth c H1 locs1 (cells + mc) (slots + ms) Q (F0 m pc ls rest) q9) : W p l e R s m args below meth c H locs cells slots Q (F0 m pc ls st0) := by
  intro T hT X
  rcases hr T hT X with ⟨v, st₀, t, T', L, h0, X', hL, e1, e2, hff, st⟩ | ⟨q, st₀, t, T', L, E, ce, h0, X', hL, e1, e2, ⟨u, hp, hb, hF⟩, hce, hcv, hcl, st⟩
  · exact hff.elim
  · obtain ⟨k1, k2, k3⟩ := vx_keep h0 e1 hS hAX hf hL hF
    obtain ⟨t2, a1, b1⟩ := kx E ce q u t T'.heap (locs ++ L) e1.symm (by rw [← e2]; exact X'.warmed.alike) hp hb k1 k2 k3 (by rw [e1]; exact hce) hcv hcl T' rfl X'
    exact ⟨t2, st.trans a1, b1⟩
theorem g_callVX (C : hCx p s m args meth c cc nL rt Ts own K A) (hex : ∀ x ∈ c.exceptionTable.toList, False) {y : MethodName} {wy : List Cond} {rm : Room} {bytes : ByteArray} {maxL index a : Nat} {ret : Option FieldType} {Cn : String} {As rest : List Value} {E : String} (hM : hMX l y wy rm K (.ref a :: As) ws E) (cw : CallW R s args own Cn index y bytes maxL ret wy rm 1 6 As.length) (q0 : Nat) {ci : Nat} {fs : List Value} {T : u_T} {N : Nat} (he : ws[q0]? = some (a, .inr (ci, fs))) (hc : vwCl[ci]? = some (Cn, T, N)) (d : decode cc pc = .ok (.invokevirtual index, 3)) (hst : st = As.reverse ++ .ref a :: rest) (hcat : (rest.map fun v => v.category).sum ≤ 8) (hk : 1 ≤ R.cells ∧ 6 ≤ R.slots) : hG p l e R s m args below meth c nL K A 0 0 (QX K A below args s ws E) pc lv st ws := by
  intro H locs ls hP hD hS hl
  have hF := g_fr hD hS C.hA
  refine g_thrown (mc := 1) (ms := 6) (vx_runV (As := As) (rest := rest) ⟨C.hx, C.hb, C.hml, C.hown, C.hts⟩ (hM H.size) cw ⟨g_blind _ _, va_recv C.hK hP hc he, fun U hU hW => g_pre C hP hD hS _ hU hW⟩ rfl rfl hl.1 hst (lv_room hcat) d ⟨by omega, by omega⟩) hS hF (fun q _ h => hF q h) (fun E2 ce q9 u t H1 locs1 ht hvm hp hB hz1 hk1 hS1 hce hcv hcl => ?_)
  obtain ⟨rfl, hB⟩ := hB
  exact vx_out (fun x hx => (hex x hx).elim) C.hlo hce hcv hcl (fun t2 h2 hal => ⟨(), trivial, ⟨rfl, by rw [h2, ← ht]; exact hB.1, va_K.moved hal C.hK, hB.2.2.weaken (fun _ _ _ h => hF _ h)⟩, hS1.F h2⟩) hS1.2.2 (by omega) (by omega)
theorem g_callSX (C : hCx p s m args meth c cc nL rt Ts own K A) (hex : ∀ x ∈ c.exceptionTable.toList, False) {y : MethodName} {wy : List Cond} {rm : Room} {bytes : ByteArray} {maxL index : Nat} {ret : Option FieldType} {As rest : List Value} {E : String} (hM : hMX l y wy rm K As ws E) (cw : CallB R s args own index y bytes maxL ret wy rm 1 6 As.length ∧ (Cond.static y).before args s = true) (d : decode cc pc = .ok (.invokestatic index, 3)) (hst : st = As.reverse ++ rest) (hcat : (rest.map fun v => v.category).sum ≤ 8) (hk : 1 ≤ R.cells ∧ 6 ≤ R.slots) : hG p l e R s m args below meth c nL K A 0 0 (QX K A below args s ws E) pc lv st ws := by
  intro H locs ls hP hD hS hl
  have hF := g_fr hD hS C.hA
  refine g_thrown (mc := 1) (ms := 6) (vx_runS (As := As) (rest := rest) ⟨C.hx, C.hb, C.hml, C.hown, C.hts⟩ (hM H.size) cw ⟨g_blind _ _, fun U hU hW => g_pre C hP hD hS _ hU hW⟩ rfl rfl hl.1 hst (lv_room hcat) d ⟨by omega, by omega⟩) hS hF (fun q _ h => hF q h) (fun E2 ce q9 u t H1 locs1 ht hvm hp hB hz1 hk1 hS1 hce hcv hcl => ?_)
  obtain ⟨rfl, hB⟩ := hB
  exact vx_out (fun x hx => (hex x hx).elim) C.hlo hce hcv hcl (fun t2 h2 hal => ⟨(), trivial, ⟨rfl, by rw [h2, ← ht]; exact hB.1, va_K.moved hal C.hK, hB.2.2.weaken (fun _ _ _ h => hF _ h)⟩, hS1.F h2⟩) hS1.2.2 (by omega) (by omega)
end G3
set_option maxHeartbeats 400000 in
set_option maxRecDepth 100000 in
theorem c_X1_needIndex_x (l : Launch) (hlt : l.stackTraces = false) (K : KK) (ws : va_W) (i b : Int) (hi : -2147483648 ≤ i ∧ i < 2147483648) (hb : -2147483648 ≤ b ∧ b < 2147483648) (hno : ¬ (0 ≤ i ∧ i < b)) : hMX l yX1_needIndex wsX1_needIndex (rmX 6) K [.int (iI i), .int (iI b)] ws E_I := by
  refine in_MX (cc := cX1_needIndex) (maxL := 2) (rt := none) (lv := [(0, .int (iI i)), (1, .int (iI b))]) (by decide) rfl (Nat.le_of_ble_eq_true rfl) rfl ?_
  intro p e s m args below meth c A C hex
  have T0 : hG p l e (rmX 6) s m args below meth c 2 K A 0 0 (QX K A below args s ws E_I) 9 [(0, .int (iI i)), (1, .int (iI b))] [] ws :=
    g_throw0 (ik := 181) (ic := 183) C hex hlt (by decide +kernel) (by decide +kernel) (by decide +kernel) C.hZ.2.2.2.2.2.1.2.1 (by decide +kernel) (by decide +kernel) (by decide +kernel) dX1_needIndex_9 dX1_needIndex_12 dX1_needIndex_13 dX1_needIndex_16 (by decide)
  refine g_iload_n (pc := 0) C dX1_needIndex_0 rfl rfl ?_
  refine g_if_lt (pc := 1) (tgt := 9) C dX1_needIndex_1 (by decide) (by omega) (fun c1 => T0) (fun c1 => ?_)
  refine g_iload_n (pc := 4) C dX1_needIndex_4 rfl rfl ?_
  refine g_iload_n (pc := 5) C dX1_needIndex_5 rfl rfl ?_
  refine g_icmp_lt (pc := 6) (tgt := 17) C dX1_needIndex_6 (by decide) (by omega) (by omega) (fun c2 => ?_) (fun c2 => T0)
  exact absurd c2 (by omega)
set_option maxHeartbeats 400000 in
set_option maxRecDepth 100000 in
theorem c_X1_needNumber_x (l : Launch) (hlt : l.stackTraces = false) (K : KK) (ws : va_W) (i a b : Int) (hi : -2147483648 ≤ i ∧ i < 2147483648) (ha : -2147483648 ≤ a ∧ a < 2147483648) (hb : -2147483648 ≤ b ∧ b < 2147483648) (hno : ¬ (a ≤ i ∧ i ≤ b)) : hMX l yX1_needNumber wsX1_needNumber (rmX 6) K [.int (iI i), .int (iI a), .int (iI b)] ws E_A := by
  refine in_MX (cc := cX1_needNumber) (maxL := 3) (rt := none) (lv := [(0, .int (iI i)), (1, .int (iI a)), (2, .int (iI b))]) (by decide) rfl (Nat.le_of_ble_eq_true rfl) rfl ?_
  intro p e s m args below meth c A C hex
  have T0 : hG p l e (rmX 6) s m args below meth c 3 K A 0 0 (QX K A below args s ws E_A) 10 [(0, .int (iI i)), (1, .int (iI a)), (2, .int (iI b))] [] ws :=
    g_throw0 (ik := 184) (ic := 186) C hex hlt (by decide +kernel) (by decide +kernel) (by decide +kernel) C.hZ.2.2.2.2.2.1.2.2.1 (by decide +kernel) (by decide +kernel) (by decide +kernel) dX1_needNumber_10 dX1_needNumber_13 dX1_needNumber_14 dX1_needNumber_17 (by decide)
  refine g_iload_n (pc := 0) C dX1_needNumber_0 rfl rfl ?_
  refine g_iload_n (pc := 1) C dX1_needNumber_1 rfl rfl ?_
  refine g_icmp_lt (pc := 2) (tgt := 10) C dX1_needNumber_2 (by decide) (by omega) (by omega) (fun c1 => T0) (fun c1 => ?_)
  refine g_iload_n (pc := 5) C dX1_needNumber_5 rfl rfl ?_
  refine g_iload_n (pc := 6) C dX1_needNumber_6 rfl rfl ?_
  refine g_icmp_le (pc := 7) (tgt := 18) C dX1_needNumber_7 (by decide) (by omega) (by omega) (fun c2 => ?_) (fun c2 => T0)
  exact absurd c2 (by omega)
