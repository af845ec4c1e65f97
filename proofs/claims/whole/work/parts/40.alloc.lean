/-! new cells, constructors, calls on a part of the world -/
theorem fm_map {α β : Type} {f : α → Option β} : ∀ {l : List α} {w : List β}, l.map f = w.map some → l.filterMap f = w
  | [], [], _ => rfl
  | [], _ :: _, h => nomatch h
  | _ :: _, [], h => nomatch h
  | a :: l, b :: w, h => by
    have h1 : f a = some b := (List.cons.inj h).1
    have h2 : l.map f = w.map some := (List.cons.inj h).2
    rw [List.filterMap_cons, h1]
    show b :: l.filterMap f = b :: w
    rw [fm_map h2]
def hMC (l : Launch) (y : MethodName) (wy : List Cond) (rm : Room) (K : KK) (As : List Value) (w0 : va_W) (post : va_W → Prop) (mc ms : Nat) : Prop :=
  ∀ sz : Nat, Met l y wy rm (Pc0 K w0 As sz) (va_Qv post (Bd0 K (va_A w0 sz)) (va_A w0 sz)) mc ms (va_A w0 sz)
def QC (K : KK) (A : Nat → Prop) (below : List Frame) (args : Array Value) (s : State) (post : va_W → Prop) (mc ms : Nat) : State → Prop := MQ below (va_Qv post (Bd0 K A) A) args s mc ms A
section GA
variable {p : Program} {l : Launch} {e : Env} {R : Room} {s : State} {m : MethodId} {args : Array Value} {below : List Frame} {meth : Method} {c : Code} {cc : ByteArray} {nL : Nat} {rt : Option FieldType} {Ts : List Cond} {own : String} {K : KK} {A : Nat → Prop} {k n : Nat} {Q : State → Prop} {pc : Nat} {lv lv' : List (Nat × Value)} {st : List Value} {ws : va_W}
theorem g_newI (C : hCx p s m args meth c cc nL rt Ts own K A) {N : Nat} (harr : (Cond.arrayClass .int) ∈ Ts) (hN : N < 100000) (hc : k + 1 ≤ R.cells) (hs : n + N ≤ R.slots) (d : decode cc pc = .ok (.newarray .int, 2)) (kk : ∀ q, hG p l e R s m args below meth c nL K A (k + 1) (n + N) Q (pc + 2) lv (.ref q :: st) (ws ++ [(q, aI K N (fun _ => 0))])) : hG p l e R s m args below meth c nL K A k n Q pc lv (.int (iI (N : Int)) :: st) ws := by
  intro H locs ls hP hD hS hl
  refine va_newa (atype := .int) (ty := .int) (N' := N) (a0 := (N, .inl (vF (fun _ => 0)))) C.hx C.hb (C.hts _ harr) rfl C.hK hP hD hS C.hA (fun cA => ?_) ?_ ?_ ?_ hc hs d (fun q cA H1 hK1 hP1 hD1 hS1 => ?_)
  · show arrV cA N (fun _ => Value.int (iI 0)) = arrV cA N (fun _ => Value.int 0)
    rw [iI_0]
  · show ¬ iI (N : Int) < 0
    rw [show (0 : Int32) = iI 0 from iI_0.symm, iI_lt (by omega) (by omega)]
    omega
  · rw [iI_clamp (by omega)]
    omega
  · show N * 4 ≤ 536870912
    omega
  · have h1 : s.vm.findClass "[I" = some cA := (hK1.2 3 (cA, .int) rfl).2
    have h2 : s.vm.findClass "[I" = some (K.2.1 0) := (C.hK.2 0 (K.2.1 0, .int) rfl).2
    have h3 : cA = K.2.1 0 := Option.some.inj (h1.symm.trans h2)
    subst h3
    exact kk q H1 _ ls hP1 hD1 hS1 hl
theorem g_newZ (C : hCx p s m args meth c cc nL rt Ts own K A) {N : Nat} (harr : (Cond.arrayClass .boolean) ∈ Ts) (hN : N < 100000) (hc : k + 1 ≤ R.cells) (hs : n + N ≤ R.slots) (d : decode cc pc = .ok (.newarray .boolean, 2)) (kk : ∀ q, hG p l e R s m args below meth c nL K A (k + 1) (n + N) Q (pc + 2) lv (.ref q :: st) (ws ++ [(q, aZ K N (fun _ => 0))])) : hG p l e R s m args below meth c nL K A k n Q pc lv (.int (iI (N : Int)) :: st) ws := by
  intro H locs ls hP hD hS hl
  refine va_newa (atype := .boolean) (ty := .boolean) (N' := N) (a0 := (N, .inl (vF (fun _ => 0)))) C.hx C.hb (C.hts _ harr) rfl C.hK hP hD hS C.hA (fun cA => ?_) ?_ ?_ ?_ hc hs d (fun q cA H1 hK1 hP1 hD1 hS1 => ?_)
  · show arrV cA N (fun _ => Value.int (iI 0)) = arrV cA N (fun _ => Value.int 0)
    rw [iI_0]
  · show ¬ iI (N : Int) < 0
    rw [show (0 : Int32) = iI 0 from iI_0.symm, iI_lt (by omega) (by omega)]
    omega
  · rw [iI_clamp (by omega)]
    omega
  · show N * 1 ≤ 536870912
    omega
  · have h1 : s.vm.findClass "[Z" = some cA := (hK1.2 3 (cA, .boolean) rfl).2
    have h2 : s.vm.findClass "[Z" = some (K.2.1 1) := (C.hK.2 1 (K.2.1 1, .boolean) rfl).2
    have h3 : cA = K.2.1 1 := Option.some.inj (h1.symm.trans h2)
    subst h3
    exact kk q H1 _ ls hP1 hD1 hS1 hl
theorem g_newJ (C : hCx p s m args meth c cc nL rt Ts own K A) {N : Nat} (harr : (Cond.arrayClass .long) ∈ Ts) (hN : N < 100000) (hc : k + 1 ≤ R.cells) (hs : n + N ≤ R.slots) (d : decode cc pc = .ok (.newarray .long, 2)) (kk : ∀ q, hG p l e R s m args below meth c nL K A (k + 1) (n + N) Q (pc + 2) lv (.ref q :: st) (ws ++ [(q, aJ K N (fun _ => 0))])) : hG p l e R s m args below meth c nL K A k n Q pc lv (.int (iI (N : Int)) :: st) ws := by
  intro H locs ls hP hD hS hl
  refine va_newa (atype := .long) (ty := .long) (N' := N) (a0 := (N, .inr (.inl (fun _ => 0)))) C.hx C.hb (C.hts _ harr) rfl C.hK hP hD hS C.hA (fun cA => rfl) ?_ ?_ ?_ hc hs d (fun q cA H1 hK1 hP1 hD1 hS1 => ?_)
  · show ¬ iI (N : Int) < 0
    rw [show (0 : Int32) = iI 0 from iI_0.symm, iI_lt (by omega) (by omega)]
    omega
  · rw [iI_clamp (by omega)]
    omega
  · show N * 8 ≤ 536870912
    omega
  · have h1 : s.vm.findClass "[J" = some cA := (hK1.2 3 (cA, .long) rfl).2
    have h2 : s.vm.findClass "[J" = some (K.2.1 2) := (C.hK.2 2 (K.2.1 2, .long) rfl).2
    have h3 : cA = K.2.1 2 := Option.some.inj (h1.symm.trans h2)
    subst h3
    exact kk q H1 _ ls hP1 hD1 hS1 hl
theorem g_newO (C : hCx p s m args meth c cc nL rt Ts own K A) {Cn : String} {T : u_T} {N ci index : Nat} (hin : ∀ w ∈ u_ws Cn T N, w ∈ Ts) (ty : Nat → FieldType) (hty : ∀ k, k < N → parseFieldDescriptor (T k).2.2.1 = some (ty k)) (hcl : (Cond.classLink own index Cn) ∈ Ts) (hinst : (Cond.instantiable Cn N) ∈ Ts) (hini : (Cond.initialized Cn) ∈ Ts) (hc : vwCl[ci]? = some (Cn, T, N)) {fs : List Value} (hfs : ∀ j, j < N → defaultValue (ty j) = vp_V fs j) (hcells : k + 1 ≤ R.cells) (hslots : n + N ≤ R.slots) (d : decode cc pc = .ok (.new index, 3)) (kk : ∀ q, hG p l e R s m args below meth c nL K A (k + 1) (n + N) Q (pc + 3) lv (.ref q :: st) (ws ++ [(q, .inr (ci, fs))])) : hG p l e R s m args below meth c nL K A k n Q pc lv st ws :=
  fun H locs ls hP hD hS hl => va_new C.hx C.hb C.hts hin ty hty C.hown (C.hts _ hcl) (C.hts _ hinst) (C.hts _ hini) C.hK hP hD hS C.hA hc hfs hcells hslots d (fun q H1 hP1 hD1 hS1 => kk q H1 _ ls hP1 hD1 hS1 hl)
theorem g_obj (C : hCx p s m args meth c cc nL rt Ts own K A) {idx a : Nat} (hlink : (Cond.methodLink own idx Lib.objectInit) ∈ Ts) (hinst : (Cond.instanceMethod Lib.objectInit) ∈ Ts) (hcode : (Cond.code Lib.objectInit ⟨#[0xb1]⟩ 1 none) ∈ Ts) (d : decode cc pc = .ok (.invokespecial idx, 3)) (hf : 1 ≤ R.frames) (hlo : 20 ≤ R.locals) (kk : hG p l e R s m args below meth c nL K A k n Q (pc + 3) lv [] ws) : hG p l e R s m args below meth c nL K A k n Q pc lv [.ref a] ws := by
  intro H locs ls hP hD hS hl
  refine W.objInit C.hx C.hb C.hown (C.hts _ hlink) (C.hts _ hinst) (C.hts _ hcode) rfl (by rw [C.hml]; exact hl.1) rfl d hf (Nat.le_trans (Nat.le_of_ble_eq_true rfl) hlo) ?_
  exact W.eq (g2 := F0 m (pc + 3) ls []) rfl (kk H locs ls hP hD hS hl)
theorem g_putF (C : hCx p s m args meth c cc nL rt Ts own K A) {ref Cn : String} {T : u_T} {N ci index a : Nat} (q0 : Nat) {fs : List Value} (he : ws[q0]? = some (a, .inr (ci, fs))) (hc : vwCl[ci]? = some (Cn, T, N)) (hin : ∀ w ∈ u_ws Cn T N, w ∈ Ts) (ty0 : Nat → FieldType) (hty : ∀ k, k < N → parseFieldDescriptor (T k).2.2.1 = some (ty0 k)) (hnm : ∀ a, a < N → ∀ b, b < N → a ≠ b → (T a).2.1 ≠ (T b).2.1) (f : Nat) (hk : f < N) (hlink : (Cond.fieldLink own index ref (T f).2.1 (T f).2.2.1) ∈ Ts) (hsame : ref = (T f).1) (hfin : (T f).2.2.2 = true) (hin2 : meth.name = "<init>") (hdecl : (T f).1 = own) {r : Nat} (hn : narrow (ty0 f) (.ref r) = .ref r) (hfit : fits (ty0 f) (.ref r) = true) (hl0 : f < fs.length) (d : decode cc pc = .ok (.putfield index, 3)) {ws' : va_W} (hw : ws.set q0 (a, .inr (ci, fs.set f (.ref r))) = ws') (kk : hG p l e R s m args below meth c nL K A k n Q (pc + 3) lv st ws') : hG p l e R s m args below meth c nL K A k n Q pc lv (.ref r :: .ref a :: st) ws := by
  intro H locs ls hP hD hS hl
  subst hw
  exact va_putF (v := .ref r) C.hx C.hb C.hts hin ty0 hty hnm C.hown C.hK hP hD hS q0 he hc f hk (C.hts _ hlink) (fun _ h => by rw [hsame]; exact h) hfin hin2 hdecl (hty f hk) hn hfit hl0 d (fun H1 locs1 hP hD hS => kk H1 locs1 ls hP hD hS hl)
theorem g_perm (is : List Nat) (hn : va_nd is = true) {ws' : va_W} (h : is.map (fun i => ws[i]?) = ws'.map some) (kk : hG p l e R s m args below meth c nL K A k n Q pc lv st ws') : hG p l e R s m args below meth c nL K A k n Q pc lv st ws :=
  fun H locs ls hP hD hS hl => kk H locs ls (hP.sub is (fm_map h)) (hD.sub is hn h) hS hl
/-- the same cells, said of other functions -/
def Wsame : va_W → va_W → Prop
  | [], [] => True
  | a :: t, b :: u => (a = b ∨ ∃ (cA : ClassId) (N : Nat) (f g : Int → Int), a = (a.1, .inl (cA, N, .inl (vF f))) ∧ b = (a.1, .inl (cA, N, .inl (vF g))) ∧ ∀ j, 0 ≤ j → j < (N : Int) → f j = g j) ∧ Wsame t u
  | _, _ => False
theorem arr_c {cA : ClassId} {N : Nat} {f g : Int → Int} (h : ∀ j, 0 ≤ j → j < (N : Int) → f j = g j) : vp_cell cA (N, .inl (vF f)) = vp_cell cA (N, .inl (vF g)) := by
  rw [vp_cell_i, vp_cell_i]
  unfold arrV
  congr 1
  apply congrArg
  funext j
  show Value.int (iI (f (j.val : Int))) = Value.int (iI (g (j.val : Int)))
  have hj := j.isLt
  rw [h _ (by omega) (by omega)]
theorem Wsame.at {D : va_G} {cl : List vw_C} {H : Heap} : ∀ {a b : va_W}, Wsame a b → ∀ (i : Nat) (q : Nat × va_E), b[i]? = some q → ∃ q2 : Nat × va_E, a[i]? = some q2 ∧ q2.1 = q.1 ∧ (va_at D cl q2 H → va_at D cl q H)
  | [], [], _, i, q, hq => by rw [List.getElem?_nil] at hq; exact nomatch hq
  | [], _ :: _, h, _, _, _ => h.elim
  | _ :: _, [], h, _, _, _ => h.elim
  | a :: t, b :: u, h, 0, q, hq => by
    have e : b = q := Option.some.inj hq
    subst e
    rcases h.1 with h1 | ⟨cA, N, f, g, h1, h2, h3⟩
    · subst h1
      exact ⟨a, rfl, rfl, fun w => w⟩
    · refine ⟨a, rfl, by rw [h2], fun w => ?_⟩
      rw [h1] at w
      rw [h2]
      show H[a.1]? = some (vp_cell cA (N, .inl (vF g)))
      rw [← arr_c h3]
      exact w
  | _ :: t, _ :: u, h, i + 1, q, hq => Wsame.at (a := t) (b := u) h.2 i q hq
theorem g_same {ws' : va_W} (h : Wsame ws ws') (kk : hG p l e R s m args below meth c nL K A k n Q pc lv st ws') : hG p l e R s m args below meth c nL K A k n Q pc lv st ws := by
  intro H locs ls hP hD hS hl
  refine kk H locs ls (fun i q hq => ?_) ⟨fun i j a b ha hb hab => ?_, fun i q hq => ?_⟩ hS hl
  · obtain ⟨q2, h1, _, h3⟩ := Wsame.at (D := K.1) (cl := vwCl) (H := H) h i q hq
    exact h3 (hP i q2 h1)
  · obtain ⟨a2, h1, h2, _⟩ := Wsame.at (D := K.1) (cl := vwCl) (H := H) h i a ha
    obtain ⟨b2, g1, g2, _⟩ := Wsame.at (D := K.1) (cl := vwCl) (H := H) h j b hb
    exact hD.1 i j a2 b2 h1 g1 (by rw [h2, g2, hab])
  · obtain ⟨q2, h1, h2, _⟩ := Wsame.at (D := K.1) (cl := vwCl) (H := H) h i q hq
    rw [← h2]
    exact hD.2 i q2 h1
theorem g_returnC (C : hCx p s m args meth c cc nL rt Ts own K A) {post : va_W → Prop} (hrt : rt = none) (d : decode cc pc = .ok (.return_, 1)) (h : post ws) : hG p l e R s m args below meth c nL K A k n (QC K A below args s post k n) pc lv [] ws := by
  subst hrt
  exact fun H locs ls hP hD hS hl => W.vret C.hx C.hb C.hr (fun t ht hW => ⟨⟨ws, rfl, h, by rw [ht]; exact hP, va_K.moved hW.alike C.hK, hD⟩, hS.F ht⟩) hS.2.2 d C.hlo
theorem in_MC {y : MethodName} {wy ws' : List Cond} {rm : Room} {As : List Value} {w0 : va_W} {post : va_W → Prop} {mc ms : Nat} {maxL : Nat} (hy : plainName y.cls = true) (hnm : y.name = "<init>") (hw : wy = Cond.code y cc maxL rt :: ws') (hsz : (lg_sl As).length ≤ maxL) (hlv : lv_args 0 As = lv)
    (body : ∀ p e s m args below meth c A, hCx p s m args meth c cc maxL rt wy y.cls K A → meth.name = "<init>" → hG p l e rm s m args below meth c maxL K A 0 0 (QC K A below args s post mc ms) 0 lv [] w0) : hMC l y wy rm K As w0 post mc ms := by
  intro sz
  refine Met.ofW (cc := cc) (maxL := maxL) (ret := rt) hy hw ?_
  intro p e s m args below meth c s₁ B hml hv
  obtain ⟨rfl, hsz0, hP, hK, hD0, hZ⟩ := hv
  subst hsz0
  subst hlv
  have hD := hD0.self (sz := s.heap.size)
  have hin : meth.name = y.name := (name_of_methodNamed B.named B.method).1
  rw [lg_entry_eq]
  exact body p e s m _ below meth c (va_A w0 s.heap.size) ⟨B.exec, B.bytes, hml, B.returns, atoms_spec (ws := wy) B.pre, findClass_of_methodNamed B.named, B.notSynchronized, hK, hZ, fun q h => Or.inr h⟩ (by rw [hin, hnm]) s.heap [] _ hP hD va_S.rf (lv_entry As hsz)
theorem g_callIF (C : hCx p s m args meth c cc nL rt Ts own K A) {y : MethodName} {wy : List Cond} {rm : Room} {bytes : ByteArray} {maxL index a mc ms : Nat} {As rest : List Value} {post : va_W → Prop} {wc wr : va_W} (isC isR : List Nat) (hC : isC.map (fun i => ws[i]?) = wc.map some) (hR : isR.map (fun i => ws[i]?) = wr.map some) (hnC : va_nd isC = true) (hnR : va_nd isR = true) (hdis : ∀ i ∈ isR, i ∉ isC) (hM : hMC l y wy rm K (.ref a :: As) wc post mc ms) (cw : CallB R s args own index y bytes maxL none wy rm mc ms As.length ∧ y.name = "<init>" ∧ (Cond.instanceMethod y).before args s = true) (d : decode cc pc = .ok (.invokespecial index, 3)) (hst : st = As.reverse ++ .ref a :: rest) (hcat : (rest.map fun v => v.category).sum ≤ 8) (hk : k + mc ≤ R.cells ∧ n + ms ≤ R.slots) (kk : ∀ w, post w → hG p l e R s m args below meth c nL K A (k + mc) (n + ms) Q (pc + 3) lv rest (wr ++ w)) : hG p l e R s m args below meth c nL K A k n Q pc lv st ws := by
  intro H locs ls hP hD hS hl
  have hPc := hP.sub isC (fm_map hC)
  have hDc := hD.sub isC hnC hC
  have hF := g_fr hDc hS C.hA
  refine va_callv (va_runI (As := As) (rest := rest) ⟨C.hx, C.hb, C.hml, C.hown, C.hts⟩ (hM H.size) cw ⟨g_blind _ _, fun U hU hW => g_pre C hPc hDc hS _ hU hW⟩ rfl rfl hl.1 hst (lv_room hcat) d hk) hS (fun q _ h => hF q h) hF (fun w t H1 locs1 ht hvm hp hB hz1 hk1 hS1 => ?_)
  have hB1 := hB.1
  rw [ht] at hB1
  obtain ⟨hP2, hD2⟩ := va_join (w1 := w) hP hD isC isR hC hR hnR hdis hk1 hF hB1 hB.2.2
  exact kk w hp H1 locs1 ls hP2 hD2 hS1 hl
end GA
