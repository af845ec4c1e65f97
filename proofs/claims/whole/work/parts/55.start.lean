theorem arr_of {args : Array Value} {s : State} {ty : FieldType} (h : (Cond.arrayClass ty).before args s = true) : ∃ cA, ArrOfT s cA ty ∧ s.vm.findClass ("[" ++ ty.toString) = some cA := by
  obtain ⟨c, k, comp, h1, h2, h3⟩ := Cond.arrayClass_spec h
  exact ⟨c, fun n z => ⟨fun k h => (by cases h), k, h2, comp, h3⟩, h1⟩
theorem zs_of {args : Array Value} {s : State} {C n : String} (f : Int → Int) (harr : (Cond.arrayOf (.static C n "[I") .int).before args s = true) (hlen : (Cond.eq (.length (.static C n "[I")) (.int 6)).before args s = true) (hel : ∀ j : Nat, j < 6 → (Cond.eq (.elem (.static C n "[I") (.int (Int32.ofNat j))) (.int (vF f j))).before args s = true) (hl : (Cond.laysStatic C n "[I").before args s = true) (hini : (Cond.initialized C).before args s = true) : ∃ t, ZS C n t f (lA s) s s.heap := by
  obtain ⟨t, ht, hT⟩ := va_Tof (f := fun j => .int (vF f j)) (N := 6) (A := lA s) (by decide) harr (va_eqt hlen) (fun j hj => va_eqt (hel j hj)) (fun a h9 => Nat.not_le.mpr h9)
  exact ⟨t, va_Zof hl hini ht (fun a h9 => Nat.not_le.mpr h9), hT⟩
set_option maxHeartbeats 4000000 in
set_option maxRecDepth 100000 in
theorem law_K {p : Program} {s : State} {m : MethodId} {meth : Method} {c : Code} {b L : Nat} {xs : Nat → Int32} (C0 : lw_At p s m meth c b L xs) : ∃ K : KK, hCx p s m #[.ref b] meth c cL_law 9 ret wsL_law RL K (lA s) := by
  obtain ⟨hx, hb, hr, hml, hown, hts0, hX, hbl, hlocks, hgv⟩ := id C0
  have hs := flat_of_before _ hgv
  have hts : ∀ w ∈ wsL_law, w.before #[Value.ref b] s = true := fun w h => hts0 w (wsL_law_in w h)
  obtain ⟨c0, i0, k0⟩ := u_known (C := RX0) (T := TX0) (N := 5) (n := 5) hts0 lwc_X00 (hts0 (.instantiable RX0 5) (by decide +kernel))
  obtain ⟨c1, i1, k1⟩ := u_known (C := RX1) (T := TX1) (N := 11) (n := 11) hts0 lwc_X10 (hts0 (.instantiable RX1 11) (by decide +kernel))
  obtain ⟨c2, i2, k2⟩ := u_known (C := RX2) (T := TX2) (N := 13) (n := 13) hts0 lwc_X20 (hts0 (.instantiable RX2 13) (by decide +kernel))
  obtain ⟨cI, aI1, aI2⟩ := arr_of (ty := .int) (hts0 _ (by decide +kernel))
  obtain ⟨cZ, aZ1, aZ2⟩ := arr_of (ty := .boolean) (hts0 _ (by decide +kernel))
  obtain ⟨cJ, aJ1, aJ2⟩ := arr_of (ty := .long) (hts0 _ (by decide +kernel))
  have hel : ∀ (C n : String) (f : Int → Int), (∀ j : Nat, j < 6 → (Cond.eq (.elem (.static C n "[I") (.int (Int32.ofNat j))) (.int (vF f j))) ∈ flatC (Cond.and given_1 narrow_1)) → ∀ j : Nat, j < 6 → (Cond.eq (.elem (.static C n "[I") (.int (Int32.ofNat j))) (.int (vF f j))).before #[Value.ref b] s = true := fun C n f h j hj => hs _ (h j hj)
  obtain ⟨t0, z0⟩ := zs_of (C := "HexRooms$Plan") (n := "STEP_ACROSS") stX (hs _ (by decide +kernel)) (hs _ (by decide +kernel)) (hel _ _ _ (fun j hj => by rcases (by omega : j = 0 ∨ j = 1 ∨ j = 2 ∨ j = 3 ∨ j = 4 ∨ j = 5) with h | h | h | h | h | h <;> subst h <;> decide +kernel)) (hts0 _ (by decide +kernel)) (hts0 _ (by decide +kernel))
  obtain ⟨t1, z1⟩ := zs_of (C := "HexRooms$Plan") (n := "STEP_DOWN") stY (hs _ (by decide +kernel)) (hs _ (by decide +kernel)) (hel _ _ _ (fun j hj => by rcases (by omega : j = 0 ∨ j = 1 ∨ j = 2 ∨ j = 3 ∨ j = 4 ∨ j = 5) with h | h | h | h | h | h <;> subst h <;> decide +kernel)) (hts0 _ (by decide +kernel)) (hts0 _ (by decide +kernel))
  obtain ⟨t2, z2⟩ := zs_of (C := "HexRoomsModel") (n := "ACROSS") stX (hs _ (by decide +kernel)) (hs _ (by decide +kernel)) (hel _ _ _ (fun j hj => by rcases (by omega : j = 0 ∨ j = 1 ∨ j = 2 ∨ j = 3 ∨ j = 4 ∨ j = 5) with h | h | h | h | h | h <;> subst h <;> decide +kernel)) (hts0 _ (by decide +kernel)) (hts0 _ (by decide +kernel))
  obtain ⟨t3, z3⟩ := zs_of (C := "HexRoomsModel") (n := "DOWN") stY (hs _ (by decide +kernel)) (hs _ (by decide +kernel)) (hel _ _ _ (fun j hj => by rcases (by omega : j = 0 ∨ j = 1 ∨ j = 2 ∨ j = 3 ∨ j = 4 ∨ j = 5) with h | h | h | h | h | h <;> subst h <;> decide +kernel)) (hts0 _ (by decide +kernel)) (hts0 _ (by decide +kernel))
  have zq1 : vx_Zq Bundle.tN "UNASSIGNED_STACK" Bundle.steD (lA s) s s.heap := vx_Zqof (hts0 _ (by decide +kernel)) (hts0 _ (by decide +kernel)) (hs _ (by decide +kernel)) (fun a h9 => Nat.not_le.mpr h9)
  have zq2 : vx_Zq Bundle.tN "SUPPRESSED_SENTINEL" Bundle.listD (lA s) s s.heap := vx_Zqof (hts0 _ (by decide +kernel)) (hts0 _ (by decide +kernel)) (hs _ (by decide +kernel)) (fun a h9 => Nat.not_le.mpr h9)
  have xf : XF s := ⟨va_tabs rfl rfl (hts0 (Cond.castable E_I E_I) (by decide +kernel)), va_tabs rfl rfl (hts0 (Cond.castable E_A E_A) (by decide +kernel)), va_tabs rfl rfl (hts0 (Cond.castable E_S E_S) (by decide +kernel)), va_Nc.of (hs _ (by decide +kernel)), va_Nc.of (hs _ (by decide +kernel)), va_tabs rfl rfl (hts0 (Cond.declares ⟨"java/lang/RuntimeException", "<init>", "()V"⟩) (by decide +kernel)), va_tabs rfl rfl (hts0 (Cond.declares ⟨"java/lang/Exception", "<init>", "()V"⟩) (by decide +kernel)), va_tabs rfl rfl (hts0 (Cond.declares ⟨"java/lang/Throwable", "<init>", "()V"⟩) (by decide +kernel))⟩
  have nw : va_Nw (.methodLinkNest RX0 44 yX1_doorOf RX1) s := va_Nw.of rfl (hts0 _ (by decide +kernel))
  refine ⟨((fun k => if k = 0 then c0 else if k = 1 then c1 else c2, fun k => if k = 0 then i0 else if k = 1 then i1 else i2), (fun k => if k = 0 then cI else if k = 1 then cZ else cJ), fun k => if k = 0 then t0 else if k = 1 then t1 else if k = 2 then t2 else t3), hx, hb, hml, hr, hts, hown, hlocks, ⟨fun k q hq => ?_, fun k q hq => ?_⟩, ⟨z0, z1, z2, z3, zq1, ⟨zq2, xf⟩, nw⟩, fun q h => h⟩
  · match k, hq with
    | 0, hq => cases hq; exact k0
    | 1, hq => cases hq; exact k1
    | 2, hq => cases hq; exact k2
    | k + 3, hq => simp [vwCl] at hq
  · match k, hq with
    | 0, hq => cases hq; exact ⟨aI1, aI2⟩
    | 1, hq => cases hq; exact ⟨aZ1, aZ2⟩
    | 2, hq => cases hq; exact ⟨aJ1, aJ2⟩
    | k + 3, hq => simp [tys0] at hq
