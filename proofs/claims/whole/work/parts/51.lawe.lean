theorem hlt_of {l : Launch} (h : l.flags = flags0) : l.stackTraces = false := by
  unfold Launch.stackTraces
  rw [h]
  decide +kernel
theorem lw_end {p : Program} {l : Launch} {e : Env} {s : State} {m : MethodId} {below : List Frame} {meth : Method} {c : Code} {b : Nat} {K : KK} {Ts : List Cond} {own : String} (C : hCx p s m #[.ref b] meth c cL_law 9 ret Ts own K (lA s)) {d0 : Drawn} (hd0 : s.drawn.sameBut d0 lw_cs) {k n : Nat} (hk : k ≤ 1054) (hn : n ≤ 11758) {lv : List (Nat × Value)} {ws : va_W} : hG p l e room_1 (s.setDrawn d0) m #[.ref b] below meth c 9 K (lA s) k n (lw_Z below #[.ref b] s) 1421 lv [] ws := by
  refine g_iconst (pc := 1421) (C.dr d0) dL_law_1421 ?_
  intro H locs ls hP hD hS hl
  refine va_forget (fun q hq => hS.2.2 q hq) ?_
  refine W.widen hk hn ?_
  have hlo := C.hlo
  have h := lw_ret (l := l) (e := e) (m := m) (b := b) (below := below) (H := H) (ls := ls) hd0 C.hx C.hb C.hr hlo dL_law_1422
  rw [show iI 1 = 1 by decide +kernel]
  exact h
