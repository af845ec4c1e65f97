/-! calls on a part of the world; helpers that catch -/
def hMH (l : Launch) (y : MethodName) (wy : List Cond) (rm : Room) (K : KK) (As : List Value) (w0 : va_W) (post : Int → va_W → Prop) : Prop :=
  ∀ sz : Nat, Met l y wy rm (Pc0 K w0 As sz) (va_Qi (fun r w => ∃ z : Int, r = iI z ∧ post z w) (Bd0 K (va_A w0 sz)) (va_A w0 sz)) 1 6 (va_A w0 sz)
def QH (K : KK) (A : Nat → Prop) (below : List Frame) (args : Array Value) (s : State) (post : Int → va_W → Prop) : State → Prop := MQ below (va_Qi (fun r w => ∃ z : Int, r = iI z ∧ post z w) (Bd0 K A) A) args s 1 6 A
section GF
variable {p : Program} {l : Launch} {e : Env} {R : Room} {s : State} {m : MethodId} {args : Array Value} {below : List Frame} {meth : Method} {c : Code} {cc : ByteArray} {nL : Nat} {rt : Option FieldType} {Ts : List Cond} {own : String} {K : KK} {A : Nat → Prop} {k n : Nat} {Q : State → Prop} {pc : Nat} {lv lv' : List (Nat × Value)} {st : List Value} {ws wc wr : va_W}
theorem g_callVIF (C : hCx p s m args meth c cc nL rt Ts own K A) {y : MethodName} {wy : List Cond} {rm : Room} {bytes : ByteArray} {maxL index a : Nat} {ret : Option FieldType} {Cn : String} {As rest : List Value} {post : Int → va_W → Prop} (isC isR : List Nat) (hC : isC.map (fun i => ws[i]?) = wc.map some) (hR : isR.map (fun i => ws[i]?) = wr.map some) (hnC : va_nd isC = true) (hnR : va_nd isR = true) (hdis : ∀ i ∈ isR, i ∉ isC) (hM : hMI l y wy rm K (.ref a :: As) wc post) (cw : CallW R s args own Cn index y bytes maxL ret wy rm 0 0 As.length) (q0 : Nat) {ci : Nat} {fs : List Value} {T : u_T} {N : Nat} (he : wc[q0]? = some (a, .inr (ci, fs))) (hc : vwCl[ci]? = some (Cn, T, N)) (d : decode cc pc = .ok (.invokevirtual index, 3)) (hst : st = As.reverse ++ .ref a :: rest) (hcat : (rest.map fun v => v.category).sum ≤ 8) (hk : k ≤ R.cells ∧ n ≤ R.slots) (kk : ∀ z w, post z w → hG p l e R s m args below meth c nL K A k n Q (pc + 3) lv (.int (iI z) :: rest) (wr ++ w)) : hG p l e R s m args below meth c nL K A k n Q pc lv st ws := by
  intro H locs ls hP hD hS hl
  have hPc := hP.sub isC (fm_map hC)
  have hDc := hD.sub isC hnC hC
  have hF := g_fr hDc hS C.hA
  refine va_calli (va_runV (As := As) (rest := rest) ⟨C.hx, C.hb, C.hml, C.hown, C.hts⟩ (hM H.size) cw ⟨g_blind _ _, va_recv C.hK hPc hc he, fun U hU hW => g_pre C hPc hDc hS _ hU hW⟩ rfl rfl hl.1 hst (lv_room hcat) d hk) hS (fun q _ h => hF q h) hF (fun r w t H1 locs1 ht hvm hp hB hz1 hk1 hS1 => ?_)
  obtain ⟨z, rfl, hp⟩ := hp
  have hB1 := hB.1
  rw [ht] at hB1
  obtain ⟨hP2, hD2⟩ := va_join (w1 := w) hP hD isC isR hC hR hnR hdis hk1 hF hB1 hB.2.2
  exact kk z w hp H1 locs1 ls hP2 hD2 hS1 hl
theorem g_callVLF (C : hCx p s m args meth c cc nL rt Ts own K A) {y : MethodName} {wy : List Cond} {rm : Room} {bytes : ByteArray} {maxL index a : Nat} {ret : Option FieldType} {Cn : String} {As rest : List Value} {post : Int64 → va_W → Prop} (isC isR : List Nat) (hC : isC.map (fun i => ws[i]?) = wc.map some) (hR : isR.map (fun i => ws[i]?) = wr.map some) (hnC : va_nd isC = true) (hnR : va_nd isR = true) (hdis : ∀ i ∈ isR, i ∉ isC) (hM : hML l y wy rm K (.ref a :: As) wc post) (cw : CallW R s args own Cn index y bytes maxL ret wy rm 0 0 As.length) (q0 : Nat) {ci : Nat} {fs : List Value} {T : u_T} {N : Nat} (he : wc[q0]? = some (a, .inr (ci, fs))) (hc : vwCl[ci]? = some (Cn, T, N)) (d : decode cc pc = .ok (.invokevirtual index, 3)) (hst : st = As.reverse ++ .ref a :: rest) (hcat : (rest.map fun v => v.category).sum ≤ 8) (hk : k ≤ R.cells ∧ n ≤ R.slots) (kk : ∀ z w, post z w → hG p l e R s m args below meth c nL K A k n Q (pc + 3) lv (.long z :: rest) (wr ++ w)) : hG p l e R s m args below meth c nL K A k n Q pc lv st ws := by
  intro H locs ls hP hD hS hl
  have hPc := hP.sub isC (fm_map hC)
  have hDc := hD.sub isC hnC hC
  have hF := g_fr hDc hS C.hA
  refine va_calll (va_runV (As := As) (rest := rest) ⟨C.hx, C.hb, C.hml, C.hown, C.hts⟩ (hM H.size) cw ⟨g_blind _ _, va_recv C.hK hPc hc he, fun U hU hW => g_pre C hPc hDc hS _ hU hW⟩ rfl rfl hl.1 hst (lv_room hcat) d hk) hS (fun q _ h => hF q h) hF (fun z w t H1 locs1 ht hvm hp hB hz1 hk1 hS1 => ?_)
  have hB1 := hB.1
  rw [ht] at hB1
  obtain ⟨hP2, hD2⟩ := va_join (w1 := w) hP hD isC isR hC hR hnR hdis hk1 hF hB1 hB.2.2
  exact kk z w hp H1 locs1 ls hP2 hD2 hS1 hl
theorem g_callVDF {d0 : Drawn} (hd0 : s.drawn.sameBut d0 lw_cs) (C : hCx p (s.setDrawn d0) m args meth c cc nL rt Ts own K A) {y : MethodName} {wy : List Cond} {rm : Room} {bytes : ByteArray} {maxL index a : Nat} {ret : Option FieldType} {Cn : String} {As rest : List Value} {post : UInt64 → va_W → Prop} (isC isR : List Nat) (hC : isC.map (fun i => ws[i]?) = wc.map some) (hR : isR.map (fun i => ws[i]?) = wr.map some) (hnC : va_nd isC = true) (hnR : va_nd isR = true) (hdis : ∀ i ∈ isR, i ∉ isC) (hM : hMD l y wy rm K (.ref a :: As) wc post) (cw : CallW R (s.setDrawn d0) args own Cn index y bytes maxL ret wy rm 0 0 As.length) (q0 : Nat) {ci : Nat} {fs : List Value} {T : u_T} {N : Nat} (he : wc[q0]? = some (a, .inr (ci, fs))) (hc : vwCl[ci]? = some (Cn, T, N)) (d : decode cc pc = .ok (.invokevirtual index, 3)) (hst : st = As.reverse ++ .ref a :: rest) (hcat : (rest.map fun v => v.category).sum ≤ 8) (hk : k ≤ R.cells ∧ n ≤ R.slots) (kk : ∀ z w, post z w → ∀ d1 : Drawn, s.drawn.sameBut d1 lw_cs → hG p l e R (s.setDrawn d1) m args below meth c nL K A k n Q (pc + 3) lv (.double z :: rest) (wr ++ w)) : hG p l e R (s.setDrawn d0) m args below meth c nL K A k n Q pc lv st ws := by
  intro H locs ls hP hD hS hl
  have hPc := hP.sub isC (fm_map hC)
  have hDc := hD.sub isC hnC hC
  have hF := g_fr hDc hS C.hA
  refine va_calldD hd0 (va_runV_D (As := As) (rest := rest) ⟨C.hx, C.hb, C.hml, C.hown, C.hts⟩ (hM H.size) cw ⟨g_blind _ _, va_recv C.hK hPc hc he, fun U hU hW => g_pre C hPc hDc hS _ hU hW⟩ rfl rfl hl.1 hst (lv_room hcat) d hk) hS (fun q _ h => hF q h) hF (fun z w t H1 locs1 ht hvm hp hB hz1 hk1 hS1 d1 hd1 => ?_)
  have hB1 := hB.1
  rw [ht] at hB1
  obtain ⟨hP2, hD2⟩ := va_join (w1 := w) hP hD isC isR hC hR hnR hdis hk1 hF hB1 hB.2.2
  exact kk z w hp d1 hd1 H1 locs1 ls hP2 hD2 hS1 hl
theorem g_callSHF (C : hCx p s m args meth c cc nL rt Ts own K A) {y : MethodName} {wy : List Cond} {rm : Room} {bytes : ByteArray} {maxL index : Nat} {ret : Option FieldType} {hh : List (Nat × Nat × Nat × Nat)} {As rest : List Value} {post : Int → va_W → Prop} (isC isR : List Nat) (hC : isC.map (fun i => ws[i]?) = wc.map some) (hR : isR.map (fun i => ws[i]?) = wr.map some) (hnC : va_nd isC = true) (hnR : va_nd isR = true) (hdis : ∀ i ∈ isR, i ∉ isC) (hM : hMH l y wy rm K As wc post) (cw : vx_CSW R s args own index y bytes maxL ret hh wy rm 1 6 As.length) (d : decode cc pc = .ok (.invokestatic index, 3)) (hst : st = As.reverse ++ rest) (hcat : (rest.map fun v => v.category).sum ≤ 8) (hk : k + 1 ≤ R.cells ∧ n + 6 ≤ R.slots) (kk : ∀ z w, post z w → hG p l e R s m args below meth c nL K A (k + 1) (n + 6) Q (pc + 3) lv (.int (iI z) :: rest) (wr ++ w)) : hG p l e R s m args below meth c nL K A k n Q pc lv st ws := by
  intro H locs ls hP hD hS hl
  have hPc := hP.sub isC (fm_map hC)
  have hDc := hD.sub isC hnC hC
  have hF := g_fr hDc hS C.hA
  refine va_calli (vx_runSW (As := As) (rest := rest) ⟨C.hx, C.hb, C.hml, C.hown, C.hts⟩ (hM H.size) cw ⟨g_blind _ _, fun U hU hW => g_pre C hPc hDc hS _ hU hW⟩ rfl rfl hl.1 hst (lv_room hcat) d hk) hS (fun q _ h => hF q h) hF (fun r w t H1 locs1 ht hvm hp hB hz1 hk1 hS1 => ?_)
  obtain ⟨z, rfl, hp⟩ := hp
  have hB1 := hB.1
  rw [ht] at hB1
  obtain ⟨hP2, hD2⟩ := va_join (w1 := w) hP hD isC isR hC hR hnR hdis hk1 hF hB1 hB.2.2
  exact kk z w hp H1 locs1 ls hP2 hD2 hS1 hl
theorem g_callVXF (C : hCx p s m args meth c cc nL rt Ts own K A) {hh : List (Nat × Nat × Nat × Nat)} (htab : c.exceptionTable.toList = tableOf hh) {y : MethodName} {wy : List Cond} {rm : Room} {bytes : ByteArray} {maxL index a : Nat} {ret : Option FieldType} {Cn : String} {As rest : List Value} {E : String} (isC isR : List Nat) (hC : isC.map (fun i => ws[i]?) = wc.map some) (hR : isR.map (fun i => ws[i]?) = wr.map some) (hnC : va_nd isC = true) (hnR : va_nd isR = true) (hdis : ∀ i ∈ isR, i ∉ isC) (hM : hMX l y wy rm K (.ref a :: As) wc E) (cw : CallW R s args own Cn index y bytes maxL ret wy rm 1 6 As.length) (q0 : Nat) {ci : Nat} {fs : List Value} {T : u_T} {N : Nat} (he : wc[q0]? = some (a, .inr (ci, fs))) (hc : vwCl[ci]? = some (Cn, T, N)) (d : decode cc pc = .ok (.invokevirtual index, 3)) (hst : st = As.reverse ++ .ref a :: rest) (hcat : (rest.map fun v => v.category).sum ≤ 8) (hk : k + 1 ≤ R.cells ∧ n + 6 ≤ R.slots)
    (pre : List ExceptionTableEntry) (x : ExceptionTableEntry) (suf : List ExceptionTableEntry) (hsplit : tableOf hh = pre ++ x :: suf) (hpass : ∀ z ∈ pre, covers z pc = false ∨ (z.catchType ≠ 0 ∧ ∃ nm : String, (Cond.classLink own z.catchType nm).before args s = true ∧ va_Nc E nm s)) (hx : covers x pc = true) (h0 : x.catchType ≠ 0) (hlink : (Cond.classLink own x.catchType E) ∈ Ts) (hcast : CA E s)
    (kk : ∀ q9 : Nat, hG p l e R s m args below meth c nL K A (k + 1) (n + 6) Q x.handlerPc lv [.ref q9] (wr ++ wc)) : hG p l e R s m args below meth c nL K A k n Q pc lv st ws := by
  intro H locs ls hP hD hS hl
  have hPc := hP.sub isC (fm_map hC)
  have hDc := hD.sub isC hnC hC
  have hF := g_fr hDc hS C.hA
  refine g_thrown (mc := 1) (ms := 6) (vx_runV (As := As) (rest := rest) ⟨C.hx, C.hb, C.hml, C.hown, C.hts⟩ (hM H.size) cw ⟨g_blind _ _, va_recv C.hK hPc hc he, fun U hU hW => g_pre C hPc hDc hS _ hU hW⟩ rfl rfl hl.1 hst (lv_room hcat) d hk) hS hF (fun q _ h => hF q h) (fun E2 ce q9 u t H1 locs1 ht hvm hp hB hz1 hk1 hS1 hce hcv hcl => ?_)
  obtain ⟨rfl, hB⟩ := hB
  have hB1 := hB.1
  rw [ht] at hB1
  obtain ⟨hP2, hD2⟩ := va_join (w1 := wc) hP hD isC isR hC hR hnR hdis hk1 hF hB1 hB.2.2
  exact vx_catch C.hown pre x suf (htab.trans hsplit) hpass hx h0 (C.hts _ hlink) (va_tabs rfl rfl hcast) hce hcv hcl (kk q9 H1 locs1 ls hP2 hD2 hS1 hl)
theorem in_MH {y : MethodName} {wy ws' : List Cond} {rm : Room} {As : List Value} {w0 : va_W} {post : Int → va_W → Prop} {maxL : Nat} {hh : List (Nat × Nat × Nat × Nat)} (hy : plainName y.cls = true) (hw : wy = Cond.codeWith y cc maxL rt hh :: ws') (hsz : (lg_sl As).length ≤ maxL) (hlv : lv_args 0 As = lv)
    (body : ∀ p e s m args below meth c A, hCx p s m args meth c cc maxL rt wy y.cls K A → c.exceptionTable.toList = tableOf hh → hG p l e rm s m args below meth c maxL K A 0 0 (QH K A below args s post) 0 lv [] w0) : hMH l y wy rm K As w0 post := by
  intro sz
  refine va_MetW (cc := cc) (maxL := maxL) (ret := rt) hy hw ?_
  intro p e s m args below meth c s₁ B hml hv
  obtain ⟨rfl, hsz0, hP, hK, hD0, hZ⟩ := hv
  subst hsz0
  subst hlv
  have hD := hD0.self (sz := s.heap.size)
  have hts := atoms_spec (ws := wy) B.pre
  have htab : c.exceptionTable.toList = tableOf hh := vx_table (x := y) B (hts (Cond.codeWith y cc maxL rt hh) (by rw [hw]; exact List.mem_cons_self))
  rw [lg_entry_eq]
  exact body p e s m _ below meth c (va_A w0 s.heap.size) ⟨B.exec, B.bytes, hml, B.returns, hts, findClass_of_methodNamed B.named, B.notSynchronized, hK, hZ, fun q h => Or.inr h⟩ htab s.heap [] _ hP hD va_S.rf (lv_entry As hsz)
theorem g_ireturnH (C : hCx p s m args meth c cc nL rt Ts own K A) {post : Int → va_W → Prop} {z : Int} (hrt : rt = some .int) (hk : k ≤ 1) (hn : n ≤ 6) (d : decode cc pc = .ok (.ireturn, 1)) (h : post z ws) : hG p l e R s m args below meth c nL K A k n (QH K A below args s post) pc lv [.int (iI z)] ws := by
  subst hrt
  exact fun H locs ls hP hD hS hl => W.widen hk hn (W.iret C.hx C.hb C.hr (fun t ht hW => ⟨⟨iI z, ws, rfl, ⟨z, rfl, h⟩, by rw [ht]; exact hP, va_K.moved hW.alike C.hK, hD⟩, hS.F ht⟩) hS.2.2 d C.hlo)
theorem g_laload (C : hCx p s m args meth c cc nL rt Ts own K A) {N a : Nat} {f : Nat → Int64} (q0 : Nat) (he : ws[q0]? = some (a, aJ K N f)) {i : Int} (hi : 0 ≤ i ∧ i < N ∧ i < 2147483648) (d : decode cc pc = .ok (.laload, 1)) (kk : hG p l e R s m args below meth c nL K A k n Q (pc + 1) lv (.long (f i.toNat) :: st) ws) : hG p l e R s m args below meth c nL K A k n Q pc lv (.int (iI i) :: .ref a :: st) ws := by
  intro H locs ls hP hD hS hl
  refine va_lald C.hx C.hb C.hK hP q0 2 he rfl (iI_in hi) d ?_
  rw [iI_clamp (by omega)]
  exact kk H locs ls hP hD hS hl
theorem g_lastore (C : hCx p s m args meth c cc nL rt Ts own K A) {N a : Nat} {f : Nat → Int64} (q0 : Nat) (he : ws[q0]? = some (a, aJ K N f)) {i : Int} {x : Int64} (hi : 0 ≤ i ∧ i < N ∧ i < 2147483648) (d : decode cc pc = .ok (.lastore, 1)) {ws' : va_W} (hw : ws.set q0 (a, aJ K N (vp_updL f i.toNat x)) = ws') (kk : hG p l e R s m args below meth c nL K A k n Q (pc + 1) lv st ws') : hG p l e R s m args below meth c nL K A k n Q pc lv (.long x :: .int (iI i) :: .ref a :: st) ws := by
  intro H locs ls hP hD hS hl
  subst hw
  refine va_last C.hx C.hb C.hK hP hD hS q0 2 he rfl (iI_in hi) d (fun H1 locs1 hP hD hS => ?_)
  rw [iI_clamp (by omega)] at hP hD
  exact kk H1 locs1 ls hP hD hS hl
theorem g_lconst (C : hCx p s m args meth c cc nL rt Ts own K A) {j : Fin 2} {v : Int64} (d : decode cc pc = .ok (.lconst j, 1)) (hv : Int64.ofNat (j : Nat) = v) (kk : hG p l e R s m args below meth c nL K A k n Q (pc + 1) lv (.long v :: st) ws) : hG p l e R s m args below meth c nL K A k n Q pc lv st ws :=
  fun H locs ls hP hD hS hl => lv_lconst C.hx C.hb d hv (kk H locs ls hP hD hS hl)
theorem g_lcmp_same (C : hCx p s m args meth c cc nL rt Ts own K A) {x : Int64} (d : decode cc pc = .ok (.lcmp, 1)) (kk : hG p l e R s m args below meth c nL K A k n Q (pc + 1) lv (.int (iI 0) :: st) ws) : hG p l e R s m args below meth c nL K A k n Q pc lv (.long x :: .long x :: st) ws := by
  intro H locs ls hP hD hS hl
  refine W.lcmp C.hx C.hb d ?_
  have h1 := kk H locs ls hP hD hS hl
  rw [iI_0] at h1
  have h2 : lg_cmp x x = 0 := by
    unfold lg_cmp
    simp
  rw [h2]
  exact h1
end GF
