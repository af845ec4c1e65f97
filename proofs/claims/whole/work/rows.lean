section
-- ===== PART A: goes FIRST, ahead of the names: the tables' words, and 'selects' of the private methods out of them =====
/-- a private method of a class that the tables say can be made, by its rows of tables_1 -/
def lw_okq (q : MethodName × Nat) : Prop := (q.1.cls ≠ "java/lang/invoke/MethodHandle" ∧ q.1.cls ≠ "java/lang/invoke/VarHandle") ∧ Cond.instantiable q.1.cls q.2 ∈ tables_1 ∧ Cond.privateMethod q.1 ∈ tables_1 ∧ Cond.instanceMethod q.1 ∈ tables_1
theorem lw_p0 : lw_okq (⟨"HexRooms$Plan", "placeRoom", "(IIII)V"⟩, 5) := ⟨⟨by decide +kernel, by decide +kernel⟩, List.mem_of_getElem? (i := 22) (by decide +kernel), List.mem_of_getElem? (i := 31) (by decide +kernel), List.mem_of_getElem? (i := 32) (by decide +kernel)⟩
theorem lw_p1 : lw_okq (⟨"HexRooms$Plan", "placeRing", "(I)V"⟩, 5) := ⟨⟨by decide +kernel, by decide +kernel⟩, List.mem_of_getElem? (i := 22) (by decide +kernel), List.mem_of_getElem? (i := 38) (by decide +kernel), List.mem_of_getElem? (i := 39) (by decide +kernel)⟩
theorem lw_p2 : lw_okq (⟨"HexRooms$Plan", "joinRooms", "()V"⟩, 5) := ⟨⟨by decide +kernel, by decide +kernel⟩, List.mem_of_getElem? (i := 22) (by decide +kernel), List.mem_of_getElem? (i := 49) (by decide +kernel), List.mem_of_getElem? (i := 50) (by decide +kernel)⟩
theorem lw_p3 : lw_okq (⟨"HexRooms", "build", "(I)V"⟩, 11) := ⟨⟨by decide +kernel, by decide +kernel⟩, List.mem_of_getElem? (i := 14) (by decide +kernel), List.mem_of_getElem? (i := 80) (by decide +kernel), List.mem_of_getElem? (i := 81) (by decide +kernel)⟩
theorem lw_p4 : lw_okq (⟨"HexRooms", "orNone", "(I)I"⟩, 11) := ⟨⟨by decide +kernel, by decide +kernel⟩, List.mem_of_getElem? (i := 14) (by decide +kernel), List.mem_of_getElem? (i := 126) (by decide +kernel), List.mem_of_getElem? (i := 127) (by decide +kernel)⟩
theorem lw_p5 : lw_okq (⟨"HexRooms", "turnAllInto", "(I[I)V"⟩, 11) := ⟨⟨by decide +kernel, by decide +kernel⟩, List.mem_of_getElem? (i := 14) (by decide +kernel), List.mem_of_getElem? (i := 134) (by decide +kernel), List.mem_of_getElem? (i := 135) (by decide +kernel)⟩
theorem lw_p6 : lw_okq (⟨"HexRooms", "turnRingInto", "(II[I)V"⟩, 11) := ⟨⟨by decide +kernel, by decide +kernel⟩, List.mem_of_getElem? (i := 14) (by decide +kernel), List.mem_of_getElem? (i := 138) (by decide +kernel), List.mem_of_getElem? (i := 139) (by decide +kernel)⟩
theorem lw_p7 : lw_okq (⟨"HexRooms", "isTrialAsNow", "()Z"⟩, 11) := ⟨⟨by decide +kernel, by decide +kernel⟩, List.mem_of_getElem? (i := 14) (by decide +kernel), List.mem_of_getElem? (i := 145) (by decide +kernel), List.mem_of_getElem? (i := 146) (by decide +kernel)⟩
theorem lw_p8 : lw_okq (⟨"HexRooms", "newlyLitFrom", "(I)I"⟩, 11) := ⟨⟨by decide +kernel, by decide +kernel⟩, List.mem_of_getElem? (i := 14) (by decide +kernel), List.mem_of_getElem? (i := 153) (by decide +kernel), List.mem_of_getElem? (i := 154) (by decide +kernel)⟩
theorem lw_p9 : lw_okq (⟨"HexRooms", "beamFrom", "([II)I"⟩, 11) := ⟨⟨by decide +kernel, by decide +kernel⟩, List.mem_of_getElem? (i := 14) (by decide +kernel), List.mem_of_getElem? (i := 157) (by decide +kernel), List.mem_of_getElem? (i := 158) (by decide +kernel)⟩
theorem lw_p10 : lw_okq (⟨"HexRooms", "onward", "([III)I"⟩, 11) := ⟨⟨by decide +kernel, by decide +kernel⟩, List.mem_of_getElem? (i := 14) (by decide +kernel), List.mem_of_getElem? (i := 161) (by decide +kernel), List.mem_of_getElem? (i := 162) (by decide +kernel)⟩
theorem lw_p11 : lw_okq (⟨"HexRooms", "neighbour", "(II)I"⟩, 11) := ⟨⟨by decide +kernel, by decide +kernel⟩, List.mem_of_getElem? (i := 14) (by decide +kernel), List.mem_of_getElem? (i := 165) (by decide +kernel), List.mem_of_getElem? (i := 166) (by decide +kernel)⟩
theorem lw_p12 : lw_okq (⟨"java/lang/Throwable", "fillInStackTrace", "(I)Ljava/lang/Throwable;"⟩, 6) := ⟨⟨by decide +kernel, by decide +kernel⟩, List.mem_of_getElem? (i := 232) (by decide +kernel), List.mem_of_getElem? (i := 230) (by decide +kernel), List.mem_of_getElem? (i := 231) (by decide +kernel)⟩
theorem lw_p13 : lw_okq (⟨"HexRooms", "standing", "(III)I"⟩, 11) := ⟨⟨by decide +kernel, by decide +kernel⟩, List.mem_of_getElem? (i := 14) (by decide +kernel), List.mem_of_getElem? (i := 257) (by decide +kernel), List.mem_of_getElem? (i := 258) (by decide +kernel)⟩
theorem lw_p14 : lw_okq (⟨"HexRooms", "doorsShut", "()I"⟩, 11) := ⟨⟨by decide +kernel, by decide +kernel⟩, List.mem_of_getElem? (i := 14) (by decide +kernel), List.mem_of_getElem? (i := 261) (by decide +kernel), List.mem_of_getElem? (i := 262) (by decide +kernel)⟩
theorem lw_p15 : lw_okq (⟨"HexRooms", "parts", "()I"⟩, 11) := ⟨⟨by decide +kernel, by decide +kernel⟩, List.mem_of_getElem? (i := 14) (by decide +kernel), List.mem_of_getElem? (i := 265) (by decide +kernel), List.mem_of_getElem? (i := 266) (by decide +kernel)⟩
def lw_privs_1 : List (MethodName × Nat) := [(⟨"HexRooms$Plan", "placeRoom", "(IIII)V"⟩, 5), (⟨"HexRooms$Plan", "placeRing", "(I)V"⟩, 5), (⟨"HexRooms$Plan", "joinRooms", "()V"⟩, 5), (⟨"HexRooms", "build", "(I)V"⟩, 11), (⟨"HexRooms", "orNone", "(I)I"⟩, 11), (⟨"HexRooms", "turnAllInto", "(I[I)V"⟩, 11), (⟨"HexRooms", "turnRingInto", "(II[I)V"⟩, 11), (⟨"HexRooms", "isTrialAsNow", "()Z"⟩, 11), (⟨"HexRooms", "newlyLitFrom", "(I)I"⟩, 11), (⟨"HexRooms", "beamFrom", "([II)I"⟩, 11), (⟨"HexRooms", "onward", "([III)I"⟩, 11), (⟨"HexRooms", "neighbour", "(II)I"⟩, 11), (⟨"java/lang/Throwable", "fillInStackTrace", "(I)Ljava/lang/Throwable;"⟩, 6), (⟨"HexRooms", "standing", "(III)I"⟩, 11), (⟨"HexRooms", "doorsShut", "()I"⟩, 11), (⟨"HexRooms", "parts", "()I"⟩, 11)]
theorem lw_r1 : ∀ q ∈ lw_privs_1, lw_okq q := List.forall_mem_cons.mpr ⟨lw_p0, List.forall_mem_cons.mpr ⟨lw_p1, List.forall_mem_cons.mpr ⟨lw_p2, List.forall_mem_cons.mpr ⟨lw_p3, List.forall_mem_cons.mpr ⟨lw_p4, List.forall_mem_cons.mpr ⟨lw_p5, List.forall_mem_cons.mpr ⟨lw_p6, List.forall_mem_cons.mpr ⟨lw_p7, List.forall_mem_cons.mpr ⟨lw_p8, List.forall_mem_cons.mpr ⟨lw_p9, List.forall_mem_cons.mpr ⟨lw_p10, List.forall_mem_cons.mpr ⟨lw_p11, List.forall_mem_cons.mpr ⟨lw_p12, List.forall_mem_cons.mpr ⟨lw_p13, List.forall_mem_cons.mpr ⟨lw_p14, List.forall_mem_cons.mpr ⟨lw_p15, fun _ h => absurd h List.not_mem_nil⟩⟩⟩⟩⟩⟩⟩⟩⟩⟩⟩⟩⟩⟩⟩⟩
theorem lw_p16 : lw_okq (⟨"HexRooms", "forgetSteps", "()V"⟩, 11) := ⟨⟨by decide +kernel, by decide +kernel⟩, List.mem_of_getElem? (i := 14) (by decide +kernel), List.mem_of_getElem? (i := 269) (by decide +kernel), List.mem_of_getElem? (i := 270) (by decide +kernel)⟩
theorem lw_p17 : lw_okq (⟨"HexRooms", "spreadFrom", "(I)V"⟩, 11) := ⟨⟨by decide +kernel, by decide +kernel⟩, List.mem_of_getElem? (i := 14) (by decide +kernel), List.mem_of_getElem? (i := 273) (by decide +kernel), List.mem_of_getElem? (i := 274) (by decide +kernel)⟩
theorem lw_p18 : lw_okq (⟨"HexRooms", "needRoom", "(I)V"⟩, 11) := ⟨⟨by decide +kernel, by decide +kernel⟩, List.mem_of_getElem? (i := 14) (by decide +kernel), List.mem_of_getElem? (i := 281) (by decide +kernel), List.mem_of_getElem? (i := 282) (by decide +kernel)⟩
theorem lw_p19 : lw_okq (⟨"HexRooms", "sidesOnward", "(I)I"⟩, 11) := ⟨⟨by decide +kernel, by decide +kernel⟩, List.mem_of_getElem? (i := 14) (by decide +kernel), List.mem_of_getElem? (i := 297) (by decide +kernel), List.mem_of_getElem? (i := 298) (by decide +kernel)⟩
theorem lw_p20 : lw_okq (⟨"HexRooms", "needRing", "(I)V"⟩, 11) := ⟨⟨by decide +kernel, by decide +kernel⟩, List.mem_of_getElem? (i := 14) (by decide +kernel), List.mem_of_getElem? (i := 305) (by decide +kernel), List.mem_of_getElem? (i := 306) (by decide +kernel)⟩
theorem lw_p21 : lw_okq (⟨"HexRooms", "relight", "()I"⟩, 11) := ⟨⟨by decide +kernel, by decide +kernel⟩, List.mem_of_getElem? (i := 14) (by decide +kernel), List.mem_of_getElem? (i := 343) (by decide +kernel), List.mem_of_getElem? (i := 344) (by decide +kernel)⟩
theorem lw_p22 : lw_okq (⟨"HexRooms", "shine", "([I[I)I"⟩, 11) := ⟨⟨by decide +kernel, by decide +kernel⟩, List.mem_of_getElem? (i := 14) (by decide +kernel), List.mem_of_getElem? (i := 347) (by decide +kernel), List.mem_of_getElem? (i := 348) (by decide +kernel)⟩
theorem lw_p23 : lw_okq (⟨"HexRooms", "needDoor", "(II)I"⟩, 11) := ⟨⟨by decide +kernel, by decide +kernel⟩, List.mem_of_getElem? (i := 14) (by decide +kernel), List.mem_of_getElem? (i := 359) (by decide +kernel), List.mem_of_getElem? (i := 360) (by decide +kernel)⟩
theorem lw_p24 : lw_okq (⟨"HexRooms", "stepsBetween", "(II)I"⟩, 11) := ⟨⟨by decide +kernel, by decide +kernel⟩, List.mem_of_getElem? (i := 14) (by decide +kernel), List.mem_of_getElem? (i := 440) (by decide +kernel), List.mem_of_getElem? (i := 441) (by decide +kernel)⟩
theorem lw_p25 : lw_okq (⟨"HexRooms", "litAfterTurn", "(II)I"⟩, 11) := ⟨⟨by decide +kernel, by decide +kernel⟩, List.mem_of_getElem? (i := 14) (by decide +kernel), List.mem_of_getElem? (i := 473) (by decide +kernel), List.mem_of_getElem? (i := 474) (by decide +kernel)⟩
theorem lw_p26 : lw_okq (⟨"HexRoomsModel", "build", "(I)V"⟩, 13) := ⟨⟨by decide +kernel, by decide +kernel⟩, List.mem_of_getElem? (i := 484) (by decide +kernel), List.mem_of_getElem? (i := 490) (by decide +kernel), List.mem_of_getElem? (i := 491) (by decide +kernel)⟩
theorem lw_p27 : lw_okq (⟨"HexRoomsModel", "add", "(III)V"⟩, 13) := ⟨⟨by decide +kernel, by decide +kernel⟩, List.mem_of_getElem? (i := 484) (by decide +kernel), List.mem_of_getElem? (i := 494) (by decide +kernel), List.mem_of_getElem? (i := 495) (by decide +kernel)⟩
theorem lw_p28 : lw_okq (⟨"HexRoomsModel", "fail", "(I)I"⟩, 13) := ⟨⟨by decide +kernel, by decide +kernel⟩, List.mem_of_getElem? (i := 484) (by decide +kernel), List.mem_of_getElem? (i := 553) (by decide +kernel), List.mem_of_getElem? (i := 554) (by decide +kernel)⟩
theorem lw_p29 : lw_okq (⟨"HexRoomsModel", "isRoom", "(I)Z"⟩, 13) := ⟨⟨by decide +kernel, by decide +kernel⟩, List.mem_of_getElem? (i := 484) (by decide +kernel), List.mem_of_getElem? (i := 561) (by decide +kernel), List.mem_of_getElem? (i := 562) (by decide +kernel)⟩
theorem lw_p30 : lw_okq (⟨"HexRoomsModel", "next", "(II)I"⟩, 13) := ⟨⟨by decide +kernel, by decide +kernel⟩, List.mem_of_getElem? (i := 484) (by decide +kernel), List.mem_of_getElem? (i := 572) (by decide +kernel), List.mem_of_getElem? (i := 573) (by decide +kernel)⟩
theorem lw_p31 : lw_okq (⟨"HexRoomsModel", "found", "(II)I"⟩, 13) := ⟨⟨by decide +kernel, by decide +kernel⟩, List.mem_of_getElem? (i := 484) (by decide +kernel), List.mem_of_getElem? (i := 576) (by decide +kernel), List.mem_of_getElem? (i := 577) (by decide +kernel)⟩
def lw_privs_2 : List (MethodName × Nat) := [(⟨"HexRooms", "forgetSteps", "()V"⟩, 11), (⟨"HexRooms", "spreadFrom", "(I)V"⟩, 11), (⟨"HexRooms", "needRoom", "(I)V"⟩, 11), (⟨"HexRooms", "sidesOnward", "(I)I"⟩, 11), (⟨"HexRooms", "needRing", "(I)V"⟩, 11), (⟨"HexRooms", "relight", "()I"⟩, 11), (⟨"HexRooms", "shine", "([I[I)I"⟩, 11), (⟨"HexRooms", "needDoor", "(II)I"⟩, 11), (⟨"HexRooms", "stepsBetween", "(II)I"⟩, 11), (⟨"HexRooms", "litAfterTurn", "(II)I"⟩, 11), (⟨"HexRoomsModel", "build", "(I)V"⟩, 13), (⟨"HexRoomsModel", "add", "(III)V"⟩, 13), (⟨"HexRoomsModel", "fail", "(I)I"⟩, 13), (⟨"HexRoomsModel", "isRoom", "(I)Z"⟩, 13), (⟨"HexRoomsModel", "next", "(II)I"⟩, 13), (⟨"HexRoomsModel", "found", "(II)I"⟩, 13)]
theorem lw_r2 : ∀ q ∈ lw_privs_2, lw_okq q := List.forall_mem_cons.mpr ⟨lw_p16, List.forall_mem_cons.mpr ⟨lw_p17, List.forall_mem_cons.mpr ⟨lw_p18, List.forall_mem_cons.mpr ⟨lw_p19, List.forall_mem_cons.mpr ⟨lw_p20, List.forall_mem_cons.mpr ⟨lw_p21, List.forall_mem_cons.mpr ⟨lw_p22, List.forall_mem_cons.mpr ⟨lw_p23, List.forall_mem_cons.mpr ⟨lw_p24, List.forall_mem_cons.mpr ⟨lw_p25, List.forall_mem_cons.mpr ⟨lw_p26, List.forall_mem_cons.mpr ⟨lw_p27, List.forall_mem_cons.mpr ⟨lw_p28, List.forall_mem_cons.mpr ⟨lw_p29, List.forall_mem_cons.mpr ⟨lw_p30, List.forall_mem_cons.mpr ⟨lw_p31, fun _ h => absurd h List.not_mem_nil⟩⟩⟩⟩⟩⟩⟩⟩⟩⟩⟩⟩⟩⟩⟩⟩
theorem lw_p32 : lw_okq (⟨"HexRoomsModel", "isRing", "(I)Z"⟩, 13) := ⟨⟨by decide +kernel, by decide +kernel⟩, List.mem_of_getElem? (i := 484) (by decide +kernel), List.mem_of_getElem? (i := 584) (by decide +kernel), List.mem_of_getElem? (i := 585) (by decide +kernel)⟩
theorem lw_p33 : lw_okq (⟨"HexRoomsModel", "move", "(II)V"⟩, 13) := ⟨⟨by decide +kernel, by decide +kernel⟩, List.mem_of_getElem? (i := 484) (by decide +kernel), List.mem_of_getElem? (i := 588) (by decide +kernel), List.mem_of_getElem? (i := 589) (by decide +kernel)⟩
theorem lw_p34 : lw_okq (⟨"HexRoomsModel", "lit", "()I"⟩, 13) := ⟨⟨by decide +kernel, by decide +kernel⟩, List.mem_of_getElem? (i := 484) (by decide +kernel), List.mem_of_getElem? (i := 599) (by decide +kernel), List.mem_of_getElem? (i := 600) (by decide +kernel)⟩
theorem lw_p35 : lw_okq (⟨"HexRoomsModel", "shine", "(I)V"⟩, 13) := ⟨⟨by decide +kernel, by decide +kernel⟩, List.mem_of_getElem? (i := 484) (by decide +kernel), List.mem_of_getElem? (i := 603) (by decide +kernel), List.mem_of_getElem? (i := 604) (by decide +kernel)⟩
theorem lw_p36 : lw_okq (⟨"HexRoomsModel", "on", "(II)I"⟩, 13) := ⟨⟨by decide +kernel, by decide +kernel⟩, List.mem_of_getElem? (i := 484) (by decide +kernel), List.mem_of_getElem? (i := 607) (by decide +kernel), List.mem_of_getElem? (i := 608) (by decide +kernel)⟩
theorem lw_p37 : lw_okq (⟨"HexRoomsModel", "moveAll", "(I)V"⟩, 13) := ⟨⟨by decide +kernel, by decide +kernel⟩, List.mem_of_getElem? (i := 484) (by decide +kernel), List.mem_of_getElem? (i := 615) (by decide +kernel), List.mem_of_getElem? (i := 616) (by decide +kernel)⟩
theorem lw_p38 : lw_okq (⟨"HexRoomsModel", "roomTold", "(II)I"⟩, 13) := ⟨⟨by decide +kernel, by decide +kernel⟩, List.mem_of_getElem? (i := 484) (by decide +kernel), List.mem_of_getElem? (i := 627) (by decide +kernel), List.mem_of_getElem? (i := 628) (by decide +kernel)⟩
theorem lw_p39 : lw_okq (⟨"HexRoomsModel", "sidesOn", "(I)I"⟩, 13) := ⟨⟨by decide +kernel, by decide +kernel⟩, List.mem_of_getElem? (i := 484) (by decide +kernel), List.mem_of_getElem? (i := 631) (by decide +kernel), List.mem_of_getElem? (i := 632) (by decide +kernel)⟩
theorem lw_p40 : lw_okq (⟨"HexRoomsModel", "spread", "(I)I"⟩, 13) := ⟨⟨by decide +kernel, by decide +kernel⟩, List.mem_of_getElem? (i := 484) (by decide +kernel), List.mem_of_getElem? (i := 656) (by decide +kernel), List.mem_of_getElem? (i := 657) (by decide +kernel)⟩
theorem lw_p41 : lw_okq (⟨"HexRoomsModel", "ringTold", "(II)I"⟩, 13) := ⟨⟨by decide +kernel, by decide +kernel⟩, List.mem_of_getElem? (i := 484) (by decide +kernel), List.mem_of_getElem? (i := 672) (by decide +kernel), List.mem_of_getElem? (i := 673) (by decide +kernel)⟩
theorem lw_p42 : lw_okq (⟨"HexRoomsModel", "standing", "(II)I"⟩, 13) := ⟨⟨by decide +kernel, by decide +kernel⟩, List.mem_of_getElem? (i := 484) (by decide +kernel), List.mem_of_getElem? (i := 676) (by decide +kernel), List.mem_of_getElem? (i := 677) (by decide +kernel)⟩
theorem lw_p43 : lw_okq (⟨"HexRoomsModel", "counted", "(I)I"⟩, 13) := ⟨⟨by decide +kernel, by decide +kernel⟩, List.mem_of_getElem? (i := 484) (by decide +kernel), List.mem_of_getElem? (i := 684) (by decide +kernel), List.mem_of_getElem? (i := 685) (by decide +kernel)⟩
theorem lw_p44 : lw_okq (⟨"HexRoomsModel", "parts", "()I"⟩, 13) := ⟨⟨by decide +kernel, by decide +kernel⟩, List.mem_of_getElem? (i := 484) (by decide +kernel), List.mem_of_getElem? (i := 688) (by decide +kernel), List.mem_of_getElem? (i := 689) (by decide +kernel)⟩
theorem lw_p45 : lw_okq (⟨"HexRoomsModel", "isAlike", "(I)Z"⟩, 13) := ⟨⟨by decide +kernel, by decide +kernel⟩, List.mem_of_getElem? (i := 484) (by decide +kernel), List.mem_of_getElem? (i := 696) (by decide +kernel), List.mem_of_getElem? (i := 697) (by decide +kernel)⟩
theorem lw_p46 : lw_okq (⟨"HexRoomsModel", "litBy", "(II)I"⟩, 13) := ⟨⟨by decide +kernel, by decide +kernel⟩, List.mem_of_getElem? (i := 484) (by decide +kernel), List.mem_of_getElem? (i := 704) (by decide +kernel), List.mem_of_getElem? (i := 705) (by decide +kernel)⟩
def lw_privs_3 : List (MethodName × Nat) := [(⟨"HexRoomsModel", "isRing", "(I)Z"⟩, 13), (⟨"HexRoomsModel", "move", "(II)V"⟩, 13), (⟨"HexRoomsModel", "lit", "()I"⟩, 13), (⟨"HexRoomsModel", "shine", "(I)V"⟩, 13), (⟨"HexRoomsModel", "on", "(II)I"⟩, 13), (⟨"HexRoomsModel", "moveAll", "(I)V"⟩, 13), (⟨"HexRoomsModel", "roomTold", "(II)I"⟩, 13), (⟨"HexRoomsModel", "sidesOn", "(I)I"⟩, 13), (⟨"HexRoomsModel", "spread", "(I)I"⟩, 13), (⟨"HexRoomsModel", "ringTold", "(II)I"⟩, 13), (⟨"HexRoomsModel", "standing", "(II)I"⟩, 13), (⟨"HexRoomsModel", "counted", "(I)I"⟩, 13), (⟨"HexRoomsModel", "parts", "()I"⟩, 13), (⟨"HexRoomsModel", "isAlike", "(I)Z"⟩, 13), (⟨"HexRoomsModel", "litBy", "(II)I"⟩, 13)]
theorem lw_r3 : ∀ q ∈ lw_privs_3, lw_okq q := List.forall_mem_cons.mpr ⟨lw_p32, List.forall_mem_cons.mpr ⟨lw_p33, List.forall_mem_cons.mpr ⟨lw_p34, List.forall_mem_cons.mpr ⟨lw_p35, List.forall_mem_cons.mpr ⟨lw_p36, List.forall_mem_cons.mpr ⟨lw_p37, List.forall_mem_cons.mpr ⟨lw_p38, List.forall_mem_cons.mpr ⟨lw_p39, List.forall_mem_cons.mpr ⟨lw_p40, List.forall_mem_cons.mpr ⟨lw_p41, List.forall_mem_cons.mpr ⟨lw_p42, List.forall_mem_cons.mpr ⟨lw_p43, List.forall_mem_cons.mpr ⟨lw_p44, List.forall_mem_cons.mpr ⟨lw_p45, List.forall_mem_cons.mpr ⟨lw_p46, fun _ h => absurd h List.not_mem_nil⟩⟩⟩⟩⟩⟩⟩⟩⟩⟩⟩⟩⟩⟩⟩
def lw_privs : List (MethodName × Nat) := lw_privs_1 ++ (lw_privs_2 ++ (lw_privs_3))
def lw_tbl : List Cond := k2_sels lw_privs ++ tables_1
theorem lw_privs_ok : ∀ q ∈ lw_privs, lw_okq q := by
  show ∀ q ∈ lw_privs_1 ++ (lw_privs_2 ++ (lw_privs_3)), lw_okq q
  exact List.forall_mem_append.mpr ⟨lw_r1, List.forall_mem_append.mpr ⟨lw_r2, lw_r3⟩⟩
/-- the streams that the claim lets the run draw from -/
abbrev lw_cs : List Choice := [Jvm.Choice.named "NaN.bits"]
theorem lw_bits : nanBits ∈ lw_cs := by first | decide | exact List.mem_cons_self | simp [lw_cs, nanBits]
-- ===== end of PART A; then your names; then what follows =====
end
section
/-! ===== BEGIN words of one list among another's, by their places ===== -/
theorem goodIn_r {big : List Cond} (ws : List Cond) (ps : List Nat) (hp : ws = ps.filterMap (fun i => big[i]?)) (h : ws.all goodWord = true) : GoodIn big ws := by
  intro w hw
  have h1 := List.all_eq_true.mp h w hw
  rw [hp] at hw
  obtain ⟨i, -, hi⟩ := List.mem_filterMap.mp hw
  have hm : w ∈ big := by first | exact List.mem_of_getElem? hi | exact List.getElem?_mem hi
  exact ⟨hm, good_of_word h1⟩
theorem goodIn_app {big a b : List Cond} (ha : GoodIn big a) (hb : GoodIn big b) : GoodIn big (a ++ b) := fun w h => (List.mem_append.mp h).elim (ha w) (hb w)
theorem goodIn_ca {big a b : List Cond} {c : Cond} (ha : GoodIn big (c :: a)) (hb : GoodIn big b) : GoodIn big (c :: (a ++ b)) := fun w h => (List.mem_cons.mp h).elim (fun e => ha w (List.mem_cons.mpr (Or.inl e))) (fun h => (List.mem_append.mp h).elim (fun h => ha w (List.mem_cons.mpr (Or.inr h))) (hb w))
theorem goodIn_sub {big ws : List Cond} (hm : ∀ w ∈ ws, w ∈ big) (h : ws.all goodWord = true) : GoodIn big ws := fun w hw => ⟨hm w hw, good_of_word (List.all_eq_true.mp h w hw)⟩
/-! ===== END ===== -/

/-! ===== BEGIN exceptions that leave a method, and their catching by the caller (launches without stack traces) ===== -/
section VXA
/-! The laws vx_back, vx_callV, vx_callS, vx_callSW, vx_throw0, vx_throwS follow proofs of the library, with one case more: JvmDerived/Free/Laws.lean (Back.of_free), Shelf42/LK1.lean (callV, callS), Shelf/KitTraced.lean (throwNew0V, throwNewS). -/
/-- where a method has thrown q: the class by its name, the cell, what was written, the world -/
def vx_T (XC : String → State → State → Prop) (st : State) (q : Addr) (t : State) (mc ms : Nat) (free : Addr → Prop) : Prop :=
  ∃ (E : String) (ce : Cell) (L : List Loc), XC E st t ∧ t.heap[q]? = some ce ∧ ce.vm = .none ∧ st.vm.findClass E = some ce.cls ∧ st.WarmedH t.vm ∧ st.sameButNew ({ t with vm := st.vm } : State) L mc ms ∧ ∀ z ∈ L, free z.base
def vx_Q (Qc : Array Value → State → Outcome → State → Prop) (XC : String → State → State → Prop) (mc ms : Nat) (free : Addr → Prop) : Array Value → State → Outcome → State → Prop := fun a st o t =>
  (Qc a st o t ∧ ∃ L, FrameEnd st o t L mc ms ∧ ∀ q ∈ L, free q.base) ∨ ∃ q, o = .threw q ∧ vx_T XC st q t mc ms free
/-- a callee that returns or throws -/
def vx_Met (l : Launch) (y : MethodName) (ws : List Cond) (rm : Room) (Pc : Array Value → State → Prop) (Qc : Array Value → State → Outcome → State → Prop) (XC : String → State → State → Prop) (mc ms : Nat) (free : Addr → Prop) : Prop :=
  MetFree l y (headSpec ws rm) Pc (fun _ _ _ _ _ => True) (vx_Q Qc XC mc ms free)
def vx_Post (XC : String → State → State → Prop) (mc ms : Nat) (free : Addr → Prop) : Pt → Array Value → Addr → Pt → Prop := fun A a q B =>
  ∃ (g : JFrame) (mk : MethodId) (t : State) (L : List Loc) (E : String) (ce : Cell), B.U.heap = t.heap ∧ B.U.vm = t.vm ∧ XC E (A.U.calling g mk a) t ∧ t.heap[q]? = some ce ∧ ce.vm = .none ∧ A.U.vm.findClass E = some ce.cls ∧ B.locs = A.locs ++ L ∧ (∀ z ∈ L, free z.base) ∧ B.cells = A.cells + mc ∧ B.slots = A.slots + ms
def vx_Back (l : Launch) (R : Room) (p : Program) (e : Env) (below : List Frame) (s : State) (sargs : Array Value) (y : MethodName) (len W9 : Nat)
    (Pre : Pt → Array Value → Prop) (Post : Pt → Array Value → Option Value → Pt → Prop) (PostX : Pt → Array Value → Addr → Pt → Prop) : Prop :=
  ∀ (m : MethodId) (meth : Method) (c : Code) (A : Pt) (g : JFrame) (ig : Instr) (mk : MethodId) (a : Array Value),
    Stand p l e R s m sargs below meth c A.U A.locs A.cells A.slots → g.method = m → g.locals.size = c.maxLocals → decode c.code g.pc = .ok (ig, len) →
    2 * g.monitorRoom + (g.stack.map fun v => v.category).sum ≤ W9 → A.U.methodNamed? y = some mk → Pre A a →
    (∃ (v : Option Value) (B : Pt), Stand p l e R s m sargs below meth c B.U B.locs B.cells B.slots ∧ Post A a v B ∧
      Steps p.tables e below (doInvoke e (A.U.setTop g) [] mk a).1 (B.U.setTop { g with pc := g.pc + len, stack := v.toList ++ g.stack })) ∨
    (∃ (q : Addr) (B : Pt), Stand p l e R s m sargs below meth c B.U B.locs B.cells B.slots ∧ PostX A a q B ∧
      Steps p.tables e below (doInvoke e (A.U.setTop g) [] mk a).1 ((B.U.setTop g).pushFrame (.throwing q)))
section Payer
variable {l : Launch} {R : Room} {p : Program} {e : Env} {below : List Frame} {s : State} {sargs : Array Value} {y : MethodName} {len W9 : Nat}
theorem vx_back {ws : List Cond} {rm : Room} {Pc : Array Value → State → Prop} {Qc : Array Value → State → Outcome → State → Prop} {XC : String → State → State → Prop} {mc ms : Nat} {free : Addr → Prop} {bytes : ByteArray} {maxL : Nat} {ret : Option FieldType}
    (hM : vx_Met l y ws rm Pc Qc XC mc ms free) (hblind : FrameBlind Pc) (hrc : rm.cells = mc) (hrs : rm.slots = ms)
    (hframes : rm.frames + 1 ≤ R.frames) (hlocals : W9 + (maxL + 11) + rm.locals ≤ R.locals)
    (hws : ∀ w ∈ ws, ∀ a' U, s.WarmedH U.vm → w.before a' U = true) (hcode : Cond.code y bytes maxL ret ∈ ws) (hinit : ∀ a' U, s.WarmedH U.vm → (Cond.initialized y.cls).before a' U = true) :
    vx_Back l R p e below s sargs y len W9 (PreOf R mc ms Pc) (PostOf Qc mc ms free) (vx_Post XC mc ms free) := by
  intro m meth c A g ig mk a X hg hsize hdg hW hn hp
  have h1 : (headSpec ws rm).pre.before a A.U = true := atoms_intro fun w hw => hws w hw _ _ X.warmed
  have h2 : (Cond.code y bytes maxL ret).before a A.U = true := hws _ hcode _ _ X.warmed
  have h3 : (Cond.initialized y.cls).before a A.U = true := hinit _ _ X.warmed
  have h4 : A.cells + (headSpec ws rm).room.cells ≤ R.cells := by rw [show (headSpec ws rm).room.cells = mc from hrc]; exact hp.1
  have h5 : A.slots + (headSpec ws rm).room.slots ≤ R.slots := by rw [show (headSpec ws rm).room.slots = ms from hrs]; exact hp.2.1
  have hPc : Pc a (A.U.calling g mk a) := hblind _ _ _ _ hp.2.2
  obtain ⟨U, Ls, c0, s0⟩ := A
  dsimp only [Pt.U, Pt.locs, Pt.cells, Pt.slots] at h1 h2 h3 h4 h5 X hn hPc ⊢
  obtain ⟨methY, cY, hmY, hcY, -, hlY, -, -, -, -⟩ := Cond.code_spec hn h2
  obtain ⟨kY, hkY, -⟩ := className_of_methodNamed hn
  have hinitY : kY.init = .initialized := Cond.initialized_spec (findClass_of_methodNamed hn) hkY h3
  have h : At U g.method c below := by rw [hg]; exact X.here
  have hlocals9 : W9 + (maxL + 11) + (headSpec ws rm).room.locals ≤ R.locals := hlocals
  have happ : (headSpec ws rm).appliesLoose y e.platform (U.calling g mk a) = true :=
    Spec.appliesLoose_calling (g := g) h hdg hn hkY hinitY
      (X.room_calling (g := g) (R' := (headSpec ws rm).room) hsize hmY hcY hframes (by rw [hlY]; omega) h4 h5) h1
  obtain ⟨mid, hmid⟩ := h.above
  have hfr : (U.setTop g).frames = (.java g :: mid) ++ below := by rw [State.frames_setTop' g h.top, hmid]; rfl
  obtain ⟨o, s₂, hsteps, -, hend, hq⟩ := Steps.callFree hM p X.admits X.cas X.clock (acts := []) hfr happ hPc trivial
  have hq' : vx_Q Qc XC mc ms free a (U.calling g mk a) o s₂ := hq
  rw [State.frames_setTop' g h.top] at hend
  obtain ⟨g₀, hg0⟩ := Option.isSome_iff_exists.mp h.top
  obtain ⟨r, hr⟩ := State.topJava?_eq_some.mp hg0
  have hr' : (({ U with heap := s₂.heap, slotsUsed := s₂.slotsUsed } : State).setVm s₂.vm).frames = .java g₀ :: r := hr
  rcases hq' with ⟨hqc, L, hfe, hL⟩ | ⟨q, rfl, E, ce, L, hx, hce, hcv, hcl, hW₂, hsm, hL⟩
  · obtain ⟨⟨v, rfl⟩, hW₂, e2, q2, q3, q4, q5, q6⟩ := id hfe
    have e3 : s₂ = ({ (U.calling g mk a).setFrames s₂.frames with heap := s₂.heap, slotsUsed := s₂.slotsUsed } : State).setVm s₂.vm := by
      have : s₂ = ({ s₂ with vm := (U.calling g mk a).vm } : State).setVm s₂.vm := rfl
      rw [e2] at this
      exact this
    obtain ⟨c₂, i₂, len₂, hc₂, hd₂, hf₂⟩ := hend
    have hW' : U.WarmedH s₂.vm := hW₂
    have hcc : c₂ = c := by
      have h1 : s₂.code? g.method = U.code? g.method := by
        rw [State.code?_eq, State.code?_eq, hW'.alike.method?]
      exact Option.some.inj (hc₂.symm.trans (h1.trans h.code))
    subst hcc
    have hlen : len₂ = len := by rw [hdg] at hd₂; cases hd₂; rfl
    subst hlen
    have hs₂ : s₂ = (({ U with heap := s₂.heap, slotsUsed := s₂.slotsUsed } : State).setVm s₂.vm).setTop { g with pc := g.pc + len₂, stack := v.toList ++ g.stack } := by
      refine e3.trans ?_
      rw [hf₂, State.calling_eq h.top, State.setFrames_setFrames, State.setTop_of_frames _ hr', hr]
      rfl
    have hsame : U.sameButNew ({ U with heap := s₂.heap, slotsUsed := s₂.slotsUsed } : State) L mc ms := by
      refine ⟨?_, q2, q3, q4, q5, q6⟩
      obtain ⟨t, ht, -⟩ := State.frames_cons hr
      show ({ U with heap := s₂.heap, slotsUsed := s₂.slotsUsed } : State) = { U.setFrames U.frames with heap := s₂.heap, slotsUsed := s₂.slotsUsed }
      rw [State.setFrames_self ht]
    subst hg
    refine Or.inl ⟨v, ⟨(({ U with heap := s₂.heap, slotsUsed := s₂.slotsUsed } : State).setVm s₂.vm), Ls ++ L, c0 + mc, s0 + ms⟩,
      ⟨X.admits, X.cas, X.clock, X.frames, X.room, X.hears, X.method, X.code, (X.here.setHeapUsed s₂.heap s₂.slotsUsed).setVm hW'.alike, X.tail, State.WarmedH.trans X.warmed hW', X.limits, X.bytes, X.same.trans (hsame.setVm s.vm)⟩,
      ⟨g, mk, s₂, L, rfl, rfl, hqc, rfl, hL, rfl, rfl⟩, ?_⟩
    show Steps p.tables e below _ ((({ U with heap := s₂.heap, slotsUsed := s₂.slotsUsed } : State).setVm s₂.vm).setTop { g with pc := g.pc + len₂, stack := v.toList ++ g.stack })
    rw [← hs₂]
    exact hsteps
  · obtain ⟨e2, q2, q3, q4, q5, q6⟩ := id hsm
    have e3 : s₂ = ({ (U.calling g mk a).setFrames s₂.frames with heap := s₂.heap, slotsUsed := s₂.slotsUsed } : State).setVm s₂.vm := by
      have : s₂ = ({ s₂ with vm := (U.calling g mk a).vm } : State).setVm s₂.vm := rfl
      rw [e2] at this
      exact this
    have hf₂ : s₂.frames = .throwing q :: .java g :: U.frames.tail := hend
    have hW' : U.WarmedH s₂.vm := hW₂
    have hs₂ : s₂ = ((({ U with heap := s₂.heap, slotsUsed := s₂.slotsUsed } : State).setVm s₂.vm).setTop g).pushFrame (.throwing q) := by
      refine e3.trans ?_
      rw [hf₂, State.calling_eq h.top, State.setFrames_setFrames, State.pushFrame, State.frames_setTop _ hr', State.setTop_of_frames _ hr', State.setFrames_setFrames, hr]
      rfl
    have hsame : U.sameButNew ({ U with heap := s₂.heap, slotsUsed := s₂.slotsUsed } : State) L mc ms := by
      refine ⟨?_, q2, q3, q4, q5, q6⟩
      obtain ⟨t, ht, -⟩ := State.frames_cons hr
      show ({ U with heap := s₂.heap, slotsUsed := s₂.slotsUsed } : State) = { U.setFrames U.frames with heap := s₂.heap, slotsUsed := s₂.slotsUsed }
      rw [State.setFrames_self ht]
    subst hg
    refine Or.inr ⟨q, ⟨(({ U with heap := s₂.heap, slotsUsed := s₂.slotsUsed } : State).setVm s₂.vm), Ls ++ L, c0 + mc, s0 + ms⟩,
      ⟨X.admits, X.cas, X.clock, X.frames, X.room, X.hears, X.method, X.code, (X.here.setHeapUsed s₂.heap s₂.slotsUsed).setVm hW'.alike, X.tail, State.WarmedH.trans X.warmed hW', X.limits, X.bytes, X.same.trans (hsame.setVm s.vm)⟩,
      ⟨g, mk, s₂, L, E, ce, rfl, rfl, hx, hce, hcv, hcl, rfl, hL, rfl, rfl⟩, ?_⟩
    show Steps p.tables e below _ (((({ U with heap := s₂.heap, slotsUsed := s₂.slotsUsed } : State).setVm s₂.vm).setTop g).pushFrame (.throwing q))
    rw [← hs₂]
    exact hsteps
end Payer
section Calls
variable {p : Program} {l : Launch} {e : Env} {R : Room} {s : State} {m : MethodId} {args : Array Value} {below : List Frame} {meth : Method} {c : Code} {T : State} {locs : List Loc} {cells slots : Nat}
theorem vx_callV (X : Stand p l e R s m args below meth c T locs cells slots) (hexec : p.tables.exec = Jvm.exec) {own C : String} {index : Nat} {y : MethodName} {bytes : ByteArray} {maxL : Nat} {ret : Option FieldType}
    (hown : s.vm.findClass own = some m.cls) (hlink : (Cond.methodLink own index y).before args s = true) (hinst : (Cond.instanceMethod y).before args s = true) (hsel : (Cond.selects C y y).before args s = true)
    (hcode : (Cond.code y bytes maxL ret).before args s = true) (hy : y.cls ≠ "java/lang/invoke/MethodHandle" ∧ y.cls ≠ "java/lang/invoke/VarHandle")
    {W9 : Nat} {Pre : Pt → Array Value → Prop} {Post : Pt → Array Value → Option Value → Pt → Prop} {PostX : Pt → Array Value → Addr → Pt → Prop} (hK : vx_Back l R p e below s args y 3 W9 Pre Post PostX)
    {b : Addr} {cellB : Cell} (hcell : T.heap[b]? = some cellB) (hobj : cellB.vm.isStatics = false) (hcls : s.vm.findClass C = some cellB.cls)
    {g : JFrame} (hg : g.method = m) (hsize : g.locals.size = c.maxLocals) {argsL rest : List Value} (hlen : ∀ sig, parseMethodDescriptor y.desc = some sig → argsL.length = sig.parameters.length)
    (hstack : g.stack = argsL.reverse ++ .ref b :: rest) (hW : 2 * g.monitorRoom + (rest.map fun v => v.category).sum ≤ W9) (hdg : decode c.code g.pc = .ok (.invokevirtual index, 3))
    (hpre : ∀ vm₁, s.WarmedH vm₁ → Pre ⟨T.setVm vm₁, locs, cells, slots⟩ (Value.ref b :: argsL).toArray) :
    (∃ (v : Option Value) (vm₁ : Vm) (B : Pt), s.WarmedH vm₁ ∧ Stand p l e R s m args below meth c B.U B.locs B.cells B.slots ∧ Post ⟨T.setVm vm₁, locs, cells, slots⟩ (Value.ref b :: argsL).toArray v B ∧
      ∀ target, Steps p.tables e below (B.U.setTop { g with pc := g.pc + 3, stack := v.toList ++ rest }) target → Steps p.tables e below (T.setTop g) target) ∨
    (∃ (q : Addr) (vm₁ : Vm) (B : Pt), s.WarmedH vm₁ ∧ Stand p l e R s m args below meth c B.U B.locs B.cells B.slots ∧ PostX ⟨T.setVm vm₁, locs, cells, slots⟩ (Value.ref b :: argsL).toArray q B ∧
      Steps p.tables e below (T.setTop g) ((B.U.setTop { g with stack := rest }).pushFrame (.throwing q))) := by
  obtain ⟨mk, methM, hnamed, hmethM, hstM, habM⟩ := Cond.instanceMethod_spec hinst
  obtain ⟨methM', cM, hmethM', -, -, -, -, -, -, hsigM⟩ := Cond.code_spec hnamed hcode
  cases hmethM.symm.trans hmethM'
  obtain ⟨c2, r2, m2, q1, q2, q3, q4, kP, hkP, hkPi⟩ := Cond.selects_spec hsel
  cases hcls.symm.trans q1
  cases (State.methodFound?_of_named hnamed hy).symm.trans q2
  cases hnamed.symm.trans q3
  have hselP : selectMethod e.platform s.vm cellB.cls mk = .method mk := by rw [Launch.admits_selectMethod X.admits]; exact q4
  obtain ⟨vm₁, X₁, hstep₁⟩ := X.invokevirtual hexec hown hlink hnamed hmethM hstM hkP hkPi hy (a := b) (cell := cellB) hcell
    (fun z h => by rw [h] at hobj; cases hobj) hselP hmethM habM hkP hkPi (g := g) hg (argsL := argsL) (rest := rest) (hlen _ hsigM) hstack hdg
  rcases hK m meth c ⟨T.setVm vm₁, locs, cells, slots⟩ { g with stack := rest } (.invokevirtual index) mk (Value.ref b :: argsL).toArray X₁ hg hsize hdg hW (X₁.named hnamed) (hpre vm₁ X₁.warmed) with ⟨v, B, X', hpost, hsteps⟩ | ⟨q, B, X', hpost, hsteps⟩
  · exact Or.inl ⟨v, vm₁, B, X₁.warmed, X', hpost, fun target h => hstep₁ _ fun acts => by rw [doInvoke_state]; exact hsteps.trans h⟩
  · exact Or.inr ⟨q, vm₁, B, X₁.warmed, X', hpost, hstep₁ _ fun acts => by rw [doInvoke_state]; exact hsteps⟩
theorem vx_callS (X : Stand p l e R s m args below meth c T locs cells slots) (hexec : p.tables.exec = Jvm.exec) {own : String} {index : Nat} {y : MethodName} {bytes : ByteArray} {maxL : Nat} {ret : Option FieldType}
    (hown : s.vm.findClass own = some m.cls) (hlink : (Cond.methodLink own index y).before args s = true) (hstat : (Cond.static y).before args s = true) (hinit : (Cond.initialized y.cls).before args s = true)
    (hcode : (Cond.code y bytes maxL ret).before args s = true) (hy : y.cls ≠ "java/lang/invoke/MethodHandle" ∧ y.cls ≠ "java/lang/invoke/VarHandle")
    {W9 : Nat} {Pre : Pt → Array Value → Prop} {Post : Pt → Array Value → Option Value → Pt → Prop} {PostX : Pt → Array Value → Addr → Pt → Prop} (hK : vx_Back l R p e below s args y 3 W9 Pre Post PostX)
    {g : JFrame} (hg : g.method = m) (hsize : g.locals.size = c.maxLocals) {argsL rest : List Value} (hlen : ∀ sig, parseMethodDescriptor y.desc = some sig → argsL.length = sig.parameters.length)
    (hstack : g.stack = argsL.reverse ++ rest) (hW : 2 * g.monitorRoom + (rest.map fun v => v.category).sum ≤ W9) (hdg : decode c.code g.pc = .ok (.invokestatic index, 3))
    (hpre : ∀ vm₁, s.WarmedH vm₁ → Pre ⟨T.setVm vm₁, locs, cells, slots⟩ argsL.toArray) :
    (∃ (v : Option Value) (vm₁ : Vm) (B : Pt), s.WarmedH vm₁ ∧ Stand p l e R s m args below meth c B.U B.locs B.cells B.slots ∧ Post ⟨T.setVm vm₁, locs, cells, slots⟩ argsL.toArray v B ∧
      ∀ target, Steps p.tables e below (B.U.setTop { g with pc := g.pc + 3, stack := v.toList ++ rest }) target → Steps p.tables e below (T.setTop g) target) ∨
    (∃ (q : Addr) (vm₁ : Vm) (B : Pt), s.WarmedH vm₁ ∧ Stand p l e R s m args below meth c B.U B.locs B.cells B.slots ∧ PostX ⟨T.setVm vm₁, locs, cells, slots⟩ argsL.toArray q B ∧
      Steps p.tables e below (T.setTop g) ((B.U.setTop { g with stack := rest }).pushFrame (.throwing q))) := by
  obtain ⟨mk, hnamed⟩ := Cond.code_named hcode
  obtain ⟨methM, cM, hmethM, -, -, -, -, -, -, hsigM⟩ := Cond.code_spec hnamed hcode
  have hstatic : methM.isStatic = true := Cond.static_spec hnamed hmethM hstat
  obtain ⟨kP, hkP, -⟩ := className_of_methodNamed hnamed
  have hinitP : kP.init = .initialized := Cond.initialized_spec (findClass_of_methodNamed hnamed) hkP hinit
  obtain ⟨vm₁, X₁, hstep₁⟩ := X.invokestatic hexec hown hlink hnamed hmethM hstatic hkP hinitP hy (g := g) hg (argsL := argsL) (rest := rest) (hlen _ hsigM) hstack hdg
  rcases hK m meth c ⟨T.setVm vm₁, locs, cells, slots⟩ { g with stack := rest } (.invokestatic index) mk argsL.toArray X₁ hg hsize hdg hW (X₁.named hnamed) (hpre vm₁ X₁.warmed) with ⟨v, B, X', hpost, hsteps⟩ | ⟨q, B, X', hpost, hsteps⟩
  · exact Or.inl ⟨v, vm₁, B, X₁.warmed, X', hpost, fun target h => hstep₁ _ fun acts => by rw [doInvoke_state]; exact hsteps.trans h⟩
  · exact Or.inr ⟨q, vm₁, B, X₁.warmed, X', hpost, hstep₁ _ fun acts => by rw [doInvoke_state]; exact hsteps⟩
end Calls
theorem vx_cls {s : State} {T : State} {vm₁ : Vm} {E : String} {k : ClassId} (hW : s.WarmedH vm₁) (h : (T.setVm vm₁).vm.findClass E = some k) : s.vm.findClass E = some k := by
  have h1 : vm₁.findClass E = some k := h
  rw [hW.alike.findClass] at h1
  exact h1
/-- the method's frame g, with q thrown over it -/
def vx_W (p : Program) (l : Launch) (e : Env) (R : Room) (s : State) (m : MethodId) (args : Array Value) (below : List Frame) (meth : Method) (c : Code) (H : Heap) (locs : List Loc) (cells slots : Nat) (Q : State → Prop) (g : JFrame) (q : Addr) : Prop :=
  ∀ T : State, T.heap = H → Stand p l e R s m args below meth c T locs cells slots → ∃ t, Steps p.tables e below ((T.setTop g).pushFrame (.throwing q)) t ∧ Q t
def vx_Run (p : Program) (l : Launch) (e : Env) (R : Room) (s : State) (m : MethodId) (args : Array Value) (below : List Frame) (meth : Method) (c : Code) (H : Heap) (locs : List Loc) (cells slots mc ms : Nat) (g : JFrame) (rest : List Value) (Qa : State → Outcome → State → Prop) (XC : String → State → State → Prop) (free : Addr → Prop) : Prop :=
  ∀ T : State, T.heap = H → Stand p l e R s m args below meth c T locs cells slots →
    (∃ (v : Option Value) (st₀ t T' : State) (L : List Loc), st₀.heap = H ∧ Stand p l e R s m args below meth c T' (locs ++ L) (cells + mc) (slots + ms) ∧ (∀ q ∈ L, free q.base) ∧ T'.heap = t.heap ∧ T'.vm = t.vm ∧ Qa st₀ (.returned v) t ∧
      Goes p e below T g T' { g with pc := g.pc + 3, stack := v.toList ++ rest }) ∨
    (∃ (q : Addr) (st₀ t T' : State) (L : List Loc) (E : String) (ce : Cell), st₀.heap = H ∧ Stand p l e R s m args below meth c T' (locs ++ L) (cells + mc) (slots + ms) ∧ (∀ z ∈ L, free z.base) ∧ T'.heap = t.heap ∧ T'.vm = t.vm ∧ XC E st₀ t ∧ t.heap[q]? = some ce ∧ ce.vm = .none ∧ s.vm.findClass E = some ce.cls ∧
      Steps p.tables e below (T.setTop g) ((T'.setTop { g with stack := rest }).pushFrame (.throwing q)))
def vx_X {S : Type} (px : S → Prop) (B : String → S → State → Prop) (A : Nat → Prop) : String → State → State → Prop := fun E st t => ∃ u : S, px u ∧ B E u t ∧ va_F A st t
section Runs
variable {p : Program} {l : Launch} {e : Env} {R : Room} {s : State} {m : MethodId} {args : Array Value} {below : List Frame} {meth : Method} {c : Code} {H : Heap} {locs : List Loc} {cells slots : Nat}
variable {y : MethodName} {bytes cc : ByteArray} {maxL nL mc ms n index : Nat} {ret : Option FieldType} {ws : List Cond} {rm : Room} {Pc : Array Value → State → Prop} {Qc : Array Value → State → Outcome → State → Prop} {XC : String → State → State → Prop} {free : Addr → Prop} {Ts : List Cond} {own C : String} {b : Addr} {As rest : List Value} {g : JFrame}
theorem vx_callBack (cb : CallB R s args own index y bytes maxL ret ws rm mc ms n) (hM : vx_Met l y ws rm Pc Qc XC mc ms free) (hbl : FrameBlind Pc) : vx_Back l R p e below s args y 3 8 (PreOf R mc ms Pc) (PostOf Qc mc ms free) (vx_Post XC mc ms free) := by
  obtain ⟨hrc, hrs, hfr, hlo, hws, hcw, -, hini, -⟩ := cb
  exact vx_back (bytes := bytes) (maxL := maxL) (ret := ret) hM hbl hrc hrs hfr hlo hws hcw (fun a' U hW => word_at hW (Or.inl (by first | rfl | simp [Cond.onTables, Cond.keeps, Cond.steady])) hini)
theorem vx_runV (S : CallFix p m c cc nL s args Ts own) (hM : vx_Met l y ws rm Pc Qc XC mc ms free) (cw : CallW R s args own C index y bytes maxL ret ws rm mc ms n) (hp : PreV s H C b Pc As)
    (hg : g.method = m) (hn : As.length = n) (hsize : g.locals.size = nL) (hstack : g.stack = As.reverse ++ .ref b :: rest) (hW : 2 * g.monitorRoom + (rest.map fun v => v.category).sum ≤ 8) (hdg : decode cc g.pc = .ok (.invokevirtual index, 3)) (hf : cells + mc ≤ R.cells ∧ slots + ms ≤ R.slots) :
    vx_Run p l e R s m args below meth c H locs cells slots mc ms g rest (Qc (Value.ref b :: As).toArray) XC free := by
  have hK : vx_Back l R p e below s args y 3 8 (PreOf R mc ms Pc) (PostOf Qc mc ms free) (vx_Post XC mc ms free) := vx_callBack cw.1 hM hp.1
  obtain ⟨⟨-, -, -, -, -, -, hcode, -, hy, hlen, hl⟩, hin, hse⟩ := cw
  obtain ⟨hx, hb, hml, ho, -⟩ := S
  obtain ⟨-, ⟨cellB, hcB, hoB, hclB⟩, hPc⟩ := hp
  intro T hT X
  rcases vx_callV X hx (C := C) (bytes := bytes) (maxL := maxL) (ret := ret) ho hl hin hse hcode hy hK (by rw [hT]; exact hcB) hoB hclB hg (hsize.trans hml.symm) (argsL := As) (rest := rest) (fun sig h => hn.trans (hlen sig h)) hstack hW (by rw [hb]; exact hdg)
    (fun vm₁ hW₁ => ⟨hf.1, hf.2, hPc (T.setVm vm₁) hT hW₁⟩) with ⟨v, vm₁, ⟨U', l2, c2, s2⟩, hW₁, X', ⟨g', mk, t, L, e1, e2, hq, h1, hL, h2, h3⟩, st⟩ | ⟨q, vm₁, ⟨U', l2, c2, s2⟩, hW₁, X', ⟨g', mk, t, L, E, ce, e1, e2, hq, hce, hcv, hcl, h1, hL, h2, h3⟩, st⟩
  · dsimp only [Pt.U, Pt.locs, Pt.cells, Pt.slots] at X' e1 e2 h1 h2 h3 st
    subst h1; subst h2; subst h3
    exact Or.inl ⟨v, (T.setVm vm₁).calling g' mk (Value.ref b :: As).toArray, t, U', L, hT, X', hL, e1, e2, hq, st⟩
  · dsimp only [Pt.U, Pt.locs, Pt.cells, Pt.slots] at X' e1 e2 h1 h2 h3 st hcl
    subst h1; subst h2; subst h3
    exact Or.inr ⟨q, (T.setVm vm₁).calling g' mk (Value.ref b :: As).toArray, t, U', L, E, ce, hT, X', hL, e1, e2, hq, hce, hcv, vx_cls hW₁ hcl, st⟩
theorem vx_runS (S : CallFix p m c cc nL s args Ts own) (hM : vx_Met l y ws rm Pc Qc XC mc ms free) (cw : CallB R s args own index y bytes maxL ret ws rm mc ms n ∧ (Cond.static y).before args s = true) (hp : PreS s H Pc As)
    (hg : g.method = m) (hn : As.length = n) (hsize : g.locals.size = nL) (hstack : g.stack = As.reverse ++ rest) (hW : 2 * g.monitorRoom + (rest.map fun v => v.category).sum ≤ 8) (hdg : decode cc g.pc = .ok (.invokestatic index, 3)) (hf : cells + mc ≤ R.cells ∧ slots + ms ≤ R.slots) :
    vx_Run p l e R s m args below meth c H locs cells slots mc ms g rest (Qc As.toArray) XC free := by
  have hK : vx_Back l R p e below s args y 3 8 (PreOf R mc ms Pc) (PostOf Qc mc ms free) (vx_Post XC mc ms free) := vx_callBack cw.1 hM hp.1
  obtain ⟨⟨-, -, -, -, -, -, hcode, hini, hy, hlen, hl⟩, hstt⟩ := cw
  obtain ⟨hx, hb, hml, ho, -⟩ := S
  intro T hT X
  rcases vx_callS X hx (bytes := bytes) (maxL := maxL) (ret := ret) ho hl hstt hini hcode hy hK hg (hsize.trans hml.symm) (argsL := As) (rest := rest) (fun sig h => hn.trans (hlen sig h)) hstack hW (by rw [hb]; exact hdg)
    (fun vm₁ hW₁ => ⟨hf.1, hf.2, hp.2 (T.setVm vm₁) hT hW₁⟩) with ⟨v, vm₁, ⟨U', l2, c2, s2⟩, hW₁, X', ⟨g', mk, t, L, e1, e2, hq, h1, hL, h2, h3⟩, st⟩ | ⟨q, vm₁, ⟨U', l2, c2, s2⟩, hW₁, X', ⟨g', mk, t, L, E, ce, e1, e2, hq, hce, hcv, hcl, h1, hL, h2, h3⟩, st⟩
  · dsimp only [Pt.U, Pt.locs, Pt.cells, Pt.slots] at X' e1 e2 h1 h2 h3 st
    subst h1; subst h2; subst h3
    exact Or.inl ⟨v, (T.setVm vm₁).calling g' mk As.toArray, t, U', L, hT, X', hL, e1, e2, hq, st⟩
  · dsimp only [Pt.U, Pt.locs, Pt.cells, Pt.slots] at X' e1 e2 h1 h2 h3 st hcl
    subst h1; subst h2; subst h3
    exact Or.inr ⟨q, (T.setVm vm₁).calling g' mk As.toArray, t, U', L, E, ce, hT, X', hL, e1, e2, hq, hce, hcv, vx_cls hW₁ hcl, st⟩
end Runs
section Rows
variable {p : Program} {l : Launch} {e : Env} {R : Room} {s : State} {m : MethodId} {args : Array Value} {below : List Frame} {meth : Method} {c : Code} {H : Heap} {locs : List Loc} {cells slots : Nat} {Q : State → Prop}
variable {mc ms : Nat} {free : Addr → Prop} {A0 A1 : Nat → Prop} {H0 : Heap} {a : Array Value} {pc : Nat} {ls : Array Slot} {st0 rest : List Value}
theorem vx_keep {st₀ t T' : State} {L : List Loc} (h0 : st₀.heap = H) (e1 : T'.heap = t.heap) (hS : va_S A0 H0 H locs) (hA : ∀ q, q < H.size → A1 q → A0 q) (hf : ∀ q, free q → A0 q) (hL : ∀ q ∈ L, free q.base) (hF : va_F A1 st₀ t) :
    H.size ≤ T'.heap.size ∧ (∀ q : Nat, q < H.size → ¬ A1 q → T'.heap[q]? = H[q]?) ∧ va_S A0 H0 T'.heap (locs ++ L) := by
  obtain ⟨hz, hk⟩ := hF
  rw [h0] at hz hk
  exact ⟨by rw [e1]; exact hz, fun q h1 h2 => by rw [e1]; exact hk q h1 h2,
    ⟨Nat.le_trans hS.1 (by rw [e1]; exact hz), fun q h1 h2 => by rw [e1, hk q (Nat.lt_of_lt_of_le h1 hS.1) (fun z => h2 (hA q (Nat.lt_of_lt_of_le h1 hS.1) z))]; exact hS.2.1 q h1 h2, fun q hq => by
      rcases List.mem_append.mp hq with h | h
      · exact hS.2.2 q h
      · exact hf _ (hL q h)⟩⟩
theorem vx_calli {S SX : Type} {post : Int32 → S → Prop} {px : SX → Prop} {B : S → State → Prop} {BX : String → SX → State → Prop} {AX : Nat → Prop} (hr : vx_Run p l e R s m args below meth c H locs cells slots mc ms (F0 m pc ls st0) rest (va_Qi post B A1 a) (vx_X px BX AX) free) (hS : va_S A0 H0 H locs) (hA : ∀ q, q < H.size → A1 q → A0 q) (hf : ∀ q, free q → A0 q) (hAX : ∀ q, q < H.size → AX q → A0 q)
    (kx : ∀ (E : String) (ce : Cell) (q9 : Addr) (u : SX) (t : State) (H1 : Heap) (locs1 : List Loc), t.heap = H1 → s.vm.Alike t.vm → px u → BX E u t → H.size ≤ H1.size → (∀ q : Nat, q < H.size → ¬ AX q → H1[q]? = H[q]?) → va_S A0 H0 H1 locs1 → H1[q9]? = some ce → ce.vm = .none → s.vm.findClass E = some ce.cls → vx_W p l e R s m args below meth c H1 locs1 (cells + mc) (slots + ms) Q (F0 m pc ls rest) q9)
    (kk : ∀ (r : Int32) (u : S) (t : State) (H1 : Heap) (locs1 : List Loc), t.heap = H1 → s.vm.Alike t.vm → post r u → B u t → H.size ≤ H1.size → (∀ q : Nat, q < H.size → ¬ A1 q → H1[q]? = H[q]?) → va_S A0 H0 H1 locs1 → W p l e R s m args below meth c H1 locs1 (cells + mc) (slots + ms) Q (F0 m (pc + 3) ls (.int r :: rest))) : W p l e R s m args below meth c H locs cells slots Q (F0 m pc ls st0) := by
  intro T hT X
  rcases hr T hT X with ⟨v, st₀, t, T', L, h0, X', hL, e1, e2, ⟨⟨r, u, hv, hp, hb⟩, hF⟩, st⟩ | ⟨q, st₀, t, T', L, E, ce, h0, X', hL, e1, e2, ⟨u, hp, hb, hF⟩, hce, hcv, hcl, st⟩
  · cases hv
    obtain ⟨k1, k2, k3⟩ := vx_keep h0 e1 hS hA hf hL hF
    obtain ⟨t2, a1, b1⟩ := kk r u t T'.heap (locs ++ L) e1.symm (by rw [← e2]; exact X'.warmed.alike) hp hb k1 k2 k3 T' rfl X'
    exact ⟨t2, st t2 a1, b1⟩
  · obtain ⟨k1, k2, k3⟩ := vx_keep h0 e1 hS hAX hf hL hF
    obtain ⟨t2, a1, b1⟩ := kx E ce q u t T'.heap (locs ++ L) e1.symm (by rw [← e2]; exact X'.warmed.alike) hp hb k1 k2 k3 (by rw [e1]; exact hce) hcv hcl T' rfl X'
    exact ⟨t2, st.trans a1, b1⟩
theorem vx_calll {S SX : Type} {post : Int64 → S → Prop} {px : SX → Prop} {B : S → State → Prop} {BX : String → SX → State → Prop} {AX : Nat → Prop} (hr : vx_Run p l e R s m args below meth c H locs cells slots mc ms (F0 m pc ls st0) rest (va_Ql post B A1 a) (vx_X px BX AX) free) (hS : va_S A0 H0 H locs) (hA : ∀ q, q < H.size → A1 q → A0 q) (hf : ∀ q, free q → A0 q) (hAX : ∀ q, q < H.size → AX q → A0 q)
    (kx : ∀ (E : String) (ce : Cell) (q9 : Addr) (u : SX) (t : State) (H1 : Heap) (locs1 : List Loc), t.heap = H1 → s.vm.Alike t.vm → px u → BX E u t → H.size ≤ H1.size → (∀ q : Nat, q < H.size → ¬ AX q → H1[q]? = H[q]?) → va_S A0 H0 H1 locs1 → H1[q9]? = some ce → ce.vm = .none → s.vm.findClass E = some ce.cls → vx_W p l e R s m args below meth c H1 locs1 (cells + mc) (slots + ms) Q (F0 m pc ls rest) q9)
    (kk : ∀ (r : Int64) (u : S) (t : State) (H1 : Heap) (locs1 : List Loc), t.heap = H1 → s.vm.Alike t.vm → post r u → B u t → H.size ≤ H1.size → (∀ q : Nat, q < H.size → ¬ A1 q → H1[q]? = H[q]?) → va_S A0 H0 H1 locs1 → W p l e R s m args below meth c H1 locs1 (cells + mc) (slots + ms) Q (F0 m (pc + 3) ls (.long r :: rest))) : W p l e R s m args below meth c H locs cells slots Q (F0 m pc ls st0) := by
  intro T hT X
  rcases hr T hT X with ⟨v, st₀, t, T', L, h0, X', hL, e1, e2, ⟨⟨r, u, hv, hp, hb⟩, hF⟩, st⟩ | ⟨q, st₀, t, T', L, E, ce, h0, X', hL, e1, e2, ⟨u, hp, hb, hF⟩, hce, hcv, hcl, st⟩
  · cases hv
    obtain ⟨k1, k2, k3⟩ := vx_keep h0 e1 hS hA hf hL hF
    obtain ⟨t2, a1, b1⟩ := kk r u t T'.heap (locs ++ L) e1.symm (by rw [← e2]; exact X'.warmed.alike) hp hb k1 k2 k3 T' rfl X'
    exact ⟨t2, st t2 a1, b1⟩
  · obtain ⟨k1, k2, k3⟩ := vx_keep h0 e1 hS hAX hf hL hF
    obtain ⟨t2, a1, b1⟩ := kx E ce q u t T'.heap (locs ++ L) e1.symm (by rw [← e2]; exact X'.warmed.alike) hp hb k1 k2 k3 (by rw [e1]; exact hce) hcv hcl T' rfl X'
    exact ⟨t2, st.trans a1, b1⟩
theorem vx_callf {S SX : Type} {post : UInt32 → S → Prop} {px : SX → Prop} {B : S → State → Prop} {BX : String → SX → State → Prop} {AX : Nat → Prop} (hr : vx_Run p l e R s m args below meth c H locs cells slots mc ms (F0 m pc ls st0) rest (va_Qf post B A1 a) (vx_X px BX AX) free) (hS : va_S A0 H0 H locs) (hA : ∀ q, q < H.size → A1 q → A0 q) (hf : ∀ q, free q → A0 q) (hAX : ∀ q, q < H.size → AX q → A0 q)
    (kx : ∀ (E : String) (ce : Cell) (q9 : Addr) (u : SX) (t : State) (H1 : Heap) (locs1 : List Loc), t.heap = H1 → s.vm.Alike t.vm → px u → BX E u t → H.size ≤ H1.size → (∀ q : Nat, q < H.size → ¬ AX q → H1[q]? = H[q]?) → va_S A0 H0 H1 locs1 → H1[q9]? = some ce → ce.vm = .none → s.vm.findClass E = some ce.cls → vx_W p l e R s m args below meth c H1 locs1 (cells + mc) (slots + ms) Q (F0 m pc ls rest) q9)
    (kk : ∀ (r : UInt32) (u : S) (t : State) (H1 : Heap) (locs1 : List Loc), t.heap = H1 → s.vm.Alike t.vm → post r u → B u t → H.size ≤ H1.size → (∀ q : Nat, q < H.size → ¬ A1 q → H1[q]? = H[q]?) → va_S A0 H0 H1 locs1 → W p l e R s m args below meth c H1 locs1 (cells + mc) (slots + ms) Q (F0 m (pc + 3) ls (.float r :: rest))) : W p l e R s m args below meth c H locs cells slots Q (F0 m pc ls st0) := by
  intro T hT X
  rcases hr T hT X with ⟨v, st₀, t, T', L, h0, X', hL, e1, e2, ⟨⟨r, u, hv, hp, hb⟩, hF⟩, st⟩ | ⟨q, st₀, t, T', L, E, ce, h0, X', hL, e1, e2, ⟨u, hp, hb, hF⟩, hce, hcv, hcl, st⟩
  · cases hv
    obtain ⟨k1, k2, k3⟩ := vx_keep h0 e1 hS hA hf hL hF
    obtain ⟨t2, a1, b1⟩ := kk r u t T'.heap (locs ++ L) e1.symm (by rw [← e2]; exact X'.warmed.alike) hp hb k1 k2 k3 T' rfl X'
    exact ⟨t2, st t2 a1, b1⟩
  · obtain ⟨k1, k2, k3⟩ := vx_keep h0 e1 hS hAX hf hL hF
    obtain ⟨t2, a1, b1⟩ := kx E ce q u t T'.heap (locs ++ L) e1.symm (by rw [← e2]; exact X'.warmed.alike) hp hb k1 k2 k3 (by rw [e1]; exact hce) hcv hcl T' rfl X'
    exact ⟨t2, st.trans a1, b1⟩
theorem vx_calld {S SX : Type} {post : UInt64 → S → Prop} {px : SX → Prop} {B : S → State → Prop} {BX : String → SX → State → Prop} {AX : Nat → Prop} (hr : vx_Run p l e R s m args below meth c H locs cells slots mc ms (F0 m pc ls st0) rest (va_Qd post B A1 a) (vx_X px BX AX) free) (hS : va_S A0 H0 H locs) (hA : ∀ q, q < H.size → A1 q → A0 q) (hf : ∀ q, free q → A0 q) (hAX : ∀ q, q < H.size → AX q → A0 q)
    (kx : ∀ (E : String) (ce : Cell) (q9 : Addr) (u : SX) (t : State) (H1 : Heap) (locs1 : List Loc), t.heap = H1 → s.vm.Alike t.vm → px u → BX E u t → H.size ≤ H1.size → (∀ q : Nat, q < H.size → ¬ AX q → H1[q]? = H[q]?) → va_S A0 H0 H1 locs1 → H1[q9]? = some ce → ce.vm = .none → s.vm.findClass E = some ce.cls → vx_W p l e R s m args below meth c H1 locs1 (cells + mc) (slots + ms) Q (F0 m pc ls rest) q9)
    (kk : ∀ (r : UInt64) (u : S) (t : State) (H1 : Heap) (locs1 : List Loc), t.heap = H1 → s.vm.Alike t.vm → post r u → B u t → H.size ≤ H1.size → (∀ q : Nat, q < H.size → ¬ A1 q → H1[q]? = H[q]?) → va_S A0 H0 H1 locs1 → W p l e R s m args below meth c H1 locs1 (cells + mc) (slots + ms) Q (F0 m (pc + 3) ls (.double r :: rest))) : W p l e R s m args below meth c H locs cells slots Q (F0 m pc ls st0) := by
  intro T hT X
  rcases hr T hT X with ⟨v, st₀, t, T', L, h0, X', hL, e1, e2, ⟨⟨r, u, hv, hp, hb⟩, hF⟩, st⟩ | ⟨q, st₀, t, T', L, E, ce, h0, X', hL, e1, e2, ⟨u, hp, hb, hF⟩, hce, hcv, hcl, st⟩
  · cases hv
    obtain ⟨k1, k2, k3⟩ := vx_keep h0 e1 hS hA hf hL hF
    obtain ⟨t2, a1, b1⟩ := kk r u t T'.heap (locs ++ L) e1.symm (by rw [← e2]; exact X'.warmed.alike) hp hb k1 k2 k3 T' rfl X'
    exact ⟨t2, st t2 a1, b1⟩
  · obtain ⟨k1, k2, k3⟩ := vx_keep h0 e1 hS hAX hf hL hF
    obtain ⟨t2, a1, b1⟩ := kx E ce q u t T'.heap (locs ++ L) e1.symm (by rw [← e2]; exact X'.warmed.alike) hp hb k1 k2 k3 (by rw [e1]; exact hce) hcv hcl T' rfl X'
    exact ⟨t2, st.trans a1, b1⟩
theorem vx_callv {S SX : Type} {post : S → Prop} {px : SX → Prop} {B : S → State → Prop} {BX : String → SX → State → Prop} {AX : Nat → Prop} (hr : vx_Run p l e R s m args below meth c H locs cells slots mc ms (F0 m pc ls st0) rest (va_Qv post B A1 a) (vx_X px BX AX) free) (hS : va_S A0 H0 H locs) (hA : ∀ q, q < H.size → A1 q → A0 q) (hf : ∀ q, free q → A0 q) (hAX : ∀ q, q < H.size → AX q → A0 q)
    (kx : ∀ (E : String) (ce : Cell) (q9 : Addr) (u : SX) (t : State) (H1 : Heap) (locs1 : List Loc), t.heap = H1 → s.vm.Alike t.vm → px u → BX E u t → H.size ≤ H1.size → (∀ q : Nat, q < H.size → ¬ AX q → H1[q]? = H[q]?) → va_S A0 H0 H1 locs1 → H1[q9]? = some ce → ce.vm = .none → s.vm.findClass E = some ce.cls → vx_W p l e R s m args below meth c H1 locs1 (cells + mc) (slots + ms) Q (F0 m pc ls rest) q9)
    (kk : ∀ (u : S) (t : State) (H1 : Heap) (locs1 : List Loc), t.heap = H1 → s.vm.Alike t.vm → post u → B u t → H.size ≤ H1.size → (∀ q : Nat, q < H.size → ¬ A1 q → H1[q]? = H[q]?) → va_S A0 H0 H1 locs1 → W p l e R s m args below meth c H1 locs1 (cells + mc) (slots + ms) Q (F0 m (pc + 3) ls (rest))) : W p l e R s m args below meth c H locs cells slots Q (F0 m pc ls st0) := by
  intro T hT X
  rcases hr T hT X with ⟨v, st₀, t, T', L, h0, X', hL, e1, e2, ⟨⟨u, hv, hp, hb⟩, hF⟩, st⟩ | ⟨q, st₀, t, T', L, E, ce, h0, X', hL, e1, e2, ⟨u, hp, hb, hF⟩, hce, hcv, hcl, st⟩
  · cases hv
    obtain ⟨k1, k2, k3⟩ := vx_keep h0 e1 hS hA hf hL hF
    obtain ⟨t2, a1, b1⟩ := kk u t T'.heap (locs ++ L) e1.symm (by rw [← e2]; exact X'.warmed.alike) hp hb k1 k2 k3 T' rfl X'
    exact ⟨t2, st t2 a1, b1⟩
  · obtain ⟨k1, k2, k3⟩ := vx_keep h0 e1 hS hAX hf hL hF
    obtain ⟨t2, a1, b1⟩ := kx E ce q u t T'.heap (locs ++ L) e1.symm (by rw [← e2]; exact X'.warmed.alike) hp hb k1 k2 k3 (by rw [e1]; exact hce) hcv hcl T' rfl X'
    exact ⟨t2, st.trans a1, b1⟩
/-- caught by the row x of this method's table; the rows ahead don't take it -/
theorem vx_catch {own name : String} {E : String} {ce : Cell} {q : Addr} (hown : s.vm.findClass own = some m.cls) (pre : List ExceptionTableEntry) (x : ExceptionTableEntry) (suf : List ExceptionTableEntry) (hsplit : c.exceptionTable.toList = pre ++ x :: suf)
    (hpass : ∀ z ∈ pre, covers z pc = false ∨ (z.catchType ≠ 0 ∧ ∃ nm : String, (Cond.classLink own z.catchType nm).before args s = true ∧ va_Nc E nm s)) (hx : covers x pc = true) (h0 : x.catchType ≠ 0)
    (hlink : (Cond.classLink own x.catchType name).before args s = true) (hcast : (Cond.castable E name).before args s = true) (hcell : H[q]? = some ce) (hv : ce.vm = .none) (hcl : s.vm.findClass E = some ce.cls)
    (kk : W p l e R s m args below meth c H locs cells slots Q (F0 m x.handlerPc ls [.ref q])) : vx_W p l e R s m args below meth c H locs cells slots Q (F0 m pc ls rest) q := by
  intro T hT X
  have hpl : e.platform.magicAccessors = ({} : Platform).magicAccessors := by rw [X.admits.platform]
  obtain ⟨c3, c4, hc3, hc4, hasg⟩ := Cond.castable_spec hcast
  cases Option.some.inj (hc3.symm.trans hcl)
  obtain ⟨c5, hc5, hcl5⟩ := Cond.classLink_spec hown hlink e.platform hpl
  cases Option.some.inj (hc4.symm.trans hc5)
  obtain ⟨vm', X', st⟩ := X.thenCaughtThrough q (g := F0 m pc ls rest) rfl (Steps.refl _) (by rw [hT]; exact hcell) (by rw [hv]; rfl) (by obtain ⟨k9, h9, -⟩ := Vm.findClass_spec hcl; exact ⟨k9, h9⟩) pre x suf hsplit
    (fun z hz => by
      rcases hpass z hz with h | ⟨hz0, nm, hl1, hn1⟩
      · exact Or.inl h
      · obtain ⟨c6, hc6, hcl6⟩ := Cond.classLink_spec hown hl1 e.platform hpl
        obtain ⟨a8, b8, h1, h2, h3⟩ := hn1
        cases Option.some.inj (h1.symm.trans hcl)
        cases Option.some.inj (h2.symm.trans hc6)
        exact Or.inr ⟨hz0, _, hcl6, h3⟩) hx (Or.inr ⟨h0, c4, hcl5, hasg⟩)
  obtain ⟨t, a1, b1⟩ := kk (T.setVm vm') hT X'
  exact ⟨t, st.trans a1, b1⟩
end Rows
section Ends
variable {p : Program} {l : Launch} {e : Env} {R : Room} {s : State} {m : MethodId} {args : Array Value} {below : List Frame} {meth : Method} {c : Code} {H : Heap} {locs : List Loc} {cells slots : Nat} {Q : State → Prop}
variable {mc ms : Nat} {free : Addr → Prop} {A0 A1 : Nat → Prop} {H0 : Heap} {a : Array Value} {ls : Array Slot} {st0 rest : List Value}
variable {Qc : Array Value → State → Outcome → State → Prop} {XC : String → State → State → Prop}
/-- what a body that may throw owes at its end -/
def vx_MQ (below : List Frame) (Qc : Array Value → State → Outcome → State → Prop) (XC : String → State → State → Prop) (a : Array Value) (s : State) (mc ms : Nat) (free : Addr → Prop) : State → Prop := fun t =>
  ∃ o, t.status = .running ∧ Ended t below o ∧ vx_Q Qc XC mc ms free a s o t
theorem vx_ret {g : JFrame} {mc ms : Nat} (k : W p l e R s m args below meth c H locs cells slots (MQ below Qc args s mc ms free) g) : W p l e R s m args below meth c H locs cells slots (vx_MQ below Qc XC args s mc ms free) g := by
  intro T hT X
  obtain ⟨t, a1, o, b1, b2, b3, b4⟩ := k T hT X
  exact ⟨t, a1, o, b1, b2, Or.inl ⟨b3, b4⟩⟩
/-- not caught here: it goes on to the caller -/
theorem vx_widen {g : JFrame} {q : Addr} {k n : Nat} (h1 : cells ≤ k) (h2 : slots ≤ n) (kk : vx_W p l e R s m args below meth c H locs k n Q g q) : vx_W p l e R s m args below meth c H locs cells slots Q g q := fun T hT X => kk T hT (stand_widen X h1 h2)
theorem vx_out {pc : Nat} {E : String} {ce : Cell} {q : Addr} {mc ms : Nat} (hout : ∀ x ∈ c.exceptionTable.toList, covers x pc = false) (hlocks : meth.locks = false) (hcell : H[q]? = some ce) (hv : ce.vm = .none) (hcl : s.vm.findClass E = some ce.cls)
    (hx : ∀ t : State, t.heap = H → s.vm.Alike t.vm → XC E s t) (hf : ∀ z ∈ locs, free z.base) (hc : cells ≤ mc) (hs : slots ≤ ms) :
    vx_W p l e R s m args below meth c H locs cells slots (vx_MQ below Qc XC args s mc ms free) (F0 m pc ls rest) q := by
  intro T hT X
  obtain ⟨st1, hrun, hend, hW, hsm⟩ := X.leaveThrown q (g := F0 m pc ls rest) rfl rfl rfl hout hlocks
  have hcell9 : (T.setFrames (.throwing q :: below)).heap[q]? = some ce := by
    show T.heap[q]? = some ce
    rw [hT]; exact hcell
  exact ⟨_, st1, .threw q, hrun, hend, Or.inr ⟨q, rfl, E, ce, locs, hx _ hT hW.alike, hcell9, hv, hcl, hW, hsm.mono hc hs, hf⟩⟩
theorem vx_frame {U : State} {k n : Nat} (h : s.sameButNew ({ U with vm := s.vm } : State) locs k n) : s.heap.size ≤ U.heap.size ∧ ∀ q : Nat, q < s.heap.size → (∀ z ∈ locs, z.base ≠ q) → U.heap[q]? = s.heap[q]? := by
  obtain ⟨-, h2, -, -, -, h6⟩ := h
  refine ⟨h2, fun q hq hz => ?_⟩
  obtain ⟨c9, e1, e2, e3, e4⟩ := h6 q _ (Array.getElem?_eq_getElem hq)
  have hs : c9.slots = (s.heap[q]).slots := Array.ext_getElem? fun i => e4 i fun hm => hz _ hm rfl
  have h9 : c9 = s.heap[q] := by
    rw [hs] at e2
    exact e2
  have e5 : U.heap[q]? = some c9 := e1
  rw [e5, h9, Array.getElem?_eq_getElem hq]
/-- the words of a throw but the four that speak of the heap -/
def vx_no (w : Cond) : Bool := decide (w ≠ .isRef (.static Bundle.tN "UNASSIGNED_STACK" Bundle.steD)) && decide (w ≠ .isRef (.static Bundle.tN "SUPPRESSED_SENTINEL" Bundle.listD)) && decide (w ≠ .laysStatic Bundle.tN "UNASSIGNED_STACK" Bundle.steD) && decide (w ≠ .laysStatic Bundle.tN "SUPPRESSED_SENTINEL" Bundle.listD)
def vx_at0 (own : String) (ic : Nat) (X : String) (names : List String) : List Cond := (Bundle.ownAtoms0 own ic X names).filter vx_no
def vx_atS (own : String) (ic : Nat) (X : String) (names : List String) : List Cond := (Bundle.ownAtoms own ic X names).filter vx_no
/-- a word that the tables alone decide, or a good one -/
def vx_ot (w : Cond) : Bool := w.onTables || goodWord w
theorem vx_ot_at {args a' : Array Value} {s U : State} {w : Cond} (hW : s.WarmedH U.vm) (hvm : s.vm = U.vm) (hg : vx_ot w = true) (h : w.before args s = true) : w.before a' U = true := by
  simp only [vx_ot, Bool.or_eq_true] at hg
  rcases hg with hg | hg
  · exact va_tabs hg hvm h
  · exact word_at hW (good_of_word hg) h
/-- a list's words: the good ones out of the method's own list, the others by premises of their own -/
theorem vx_hat {args : Array Value} {s : State} {L B : List Cond} (h1 : ∀ w ∈ L.filter goodWord, w.before args s = true) (h2 : ∀ w ∈ L.filter (fun w => !goodWord w), w ∈ B) (h3 : ∀ w ∈ B, w.before args s = true) : ∀ w ∈ L, w.before args s = true := by
  intro w hw
  by_cases g : goodWord w = true
  · exact h1 w (List.mem_filter.mpr ⟨hw, g⟩)
  · refine h3 w (h2 w (List.mem_filter.mpr ⟨hw, ?_⟩))
    show (!goodWord w) = true
    cases hgw : goodWord w
    · rfl
    · exact absurd hgw g
theorem vx_c {args : Array Value} {s : State} {w : Cond} {B : List Cond} (h : w.before args s = true) (t : ∀ w ∈ B, w.before args s = true) : ∀ w' ∈ w :: B, w'.before args s = true := fun w' h' => (List.mem_cons.mp h').elim (fun e => by rw [e]; exact h) (t w')
theorem vx_n {args : Array Value} {s : State} : ∀ w ∈ ([] : List Cond), w.before args s = true := fun _ h => nomatch h
theorem vx_own {args : Array Value} {s : State} {L : List Cond} (h1 : ∀ w ∈ L.filter vx_no, w.before args s = true)
    (hU : (Cond.isRef (.static Bundle.tN "UNASSIGNED_STACK" Bundle.steD)).before args s = true) (hN : (Cond.isRef (.static Bundle.tN "SUPPRESSED_SENTINEL" Bundle.listD)).before args s = true)
    (lU : (Cond.laysStatic Bundle.tN "UNASSIGNED_STACK" Bundle.steD).before args s = true) (lN : (Cond.laysStatic Bundle.tN "SUPPRESSED_SENTINEL" Bundle.listD).before args s = true) : ∀ w ∈ L, w.before args s = true := by
  intro w hw
  by_cases e1 : w = .isRef (.static Bundle.tN "UNASSIGNED_STACK" Bundle.steD)
  · rw [e1]; exact hU
  · by_cases e2 : w = .isRef (.static Bundle.tN "SUPPRESSED_SENTINEL" Bundle.listD)
    · rw [e2]; exact hN
    · by_cases e3 : w = .laysStatic Bundle.tN "UNASSIGNED_STACK" Bundle.steD
      · rw [e3]; exact lU
      · by_cases e4 : w = .laysStatic Bundle.tN "SUPPRESSED_SENTINEL" Bundle.listD
        · rw [e4]; exact lN
        · exact h1 w (List.mem_filter.mpr ⟨hw, by unfold vx_no; rw [decide_eq_true e1, decide_eq_true e2, decide_eq_true e3, decide_eq_true e4]; rfl⟩)
/-- where a static field lies, its class's statics cell in H -/
def vx_L (C n d : String) (A : Nat → Prop) (U : State) (H : Heap) : Prop := ∃ (c : ClassId) (k : Class) (i : Nat) (f : Field) (a : Nat) (cell : Cell), U.vm.findClass C = some c ∧ U.fieldFound? C n d = some (c, k, i, f) ∧ f.isStatic = true ∧ k.statics = some a ∧ H[a]? = some cell ∧ cell.vm.isStatics = true ∧ cell.cls = c ∧ f.slot < cell.slots.size ∧ k.staticTypes[f.slot]? = some f.type ∧ ¬ A a
theorem vx_L.moved {C n d : String} {A : Nat → Prop} {u U : State} {H : Heap} (hvm : u.vm.Alike U.vm) (h : vx_L C n d A u H) : vx_L C n d A U H := by
  obtain ⟨c, k, i, f, a, cell, h1, h2, h3, h4, h5, h6, h7, h8, h9, h10⟩ := h
  obtain ⟨k', hi', he⟩ := State.fieldFound?_setVm hvm h2
  exact ⟨c, k', i, f, a, cell, by rw [hvm.findClass]; exact h1, hi', h3, by rw [he]; exact h4, h5, h6, h7, h8, by rw [he]; exact h9, h10⟩
theorem vx_L.kept {C n d : String} {A : Nat → Prop} {U : State} {H H1 : Heap} (h : vx_L C n d A U H) (hq : ∀ a : Nat, a < H.size → ¬ A a → H1[a]? = H[a]?) : vx_L C n d A U H1 := by
  obtain ⟨c, k, i, f, a, cell, h1, h2, h3, h4, h5, h6, h7, h8, h9, h10⟩ := h
  exact ⟨c, k, i, f, a, cell, h1, h2, h3, h4, by rw [hq a (Array.getElem?_eq_some_iff.mp h5).1 h10]; exact h5, h6, h7, h8, h9, h10⟩
theorem vx_L.narrow {C n d : String} {A B : Nat → Prop} {U : State} {H : Heap} (h : vx_L C n d A U H) (hAB : ∀ q, B q → A q) : vx_L C n d B U H := by
  obtain ⟨c, k, i, f, a, cell, h1, h2, h3, h4, h5, h6, h7, h8, h9, h10⟩ := h
  exact ⟨c, k, i, f, a, cell, h1, h2, h3, h4, h5, h6, h7, h8, h9, fun z => h10 (hAB _ z)⟩
theorem vx_L.word {C n d : String} {A : Nat → Prop} {s : State} {args : Array Value} (h : vx_L C n d A s s.heap) : (Cond.laysStatic C n d).before args s = true := by
  obtain ⟨c, k, i, f, a, cell, h1, h2, h3, h4, h5, h6, h7, h8, h9, -⟩ := h
  show (Cond.laysStatic C n d).holds args s none s [] = true
  exact Cond.laysStatic_of h1 h2 h3 h4 h5 h6 h7 h8 h9
/-- .. and what it holds: null or some reference -/
def vx_Zq (C n d : String) (A : Nat → Prop) (U : State) (H : Heap) : Prop := va_Zq C n d A U H ∧ vx_L C n d A U H
theorem vx_Zq.moved {C n d : String} {A : Nat → Prop} {u U : State} {H : Heap} (hvm : u.vm.Alike U.vm) (h : vx_Zq C n d A u H) : vx_Zq C n d A U H := ⟨va_Zq.moved hvm h.1, vx_L.moved hvm h.2⟩
theorem vx_Zq.kept {C n d : String} {A : Nat → Prop} {U : State} {H H1 : Heap} (h : vx_Zq C n d A U H) (hq : ∀ a : Nat, a < H.size → ¬ A a → H1[a]? = H[a]?) : vx_Zq C n d A U H1 := ⟨va_Zq.kept h.1 hq, vx_L.kept h.2 hq⟩
theorem vx_Zq.narrow {C n d : String} {A B : Nat → Prop} {U : State} {H : Heap} (h : vx_Zq C n d A U H) (hAB : ∀ q, B q → A q) : vx_Zq C n d B U H := ⟨va_Zq.narrow h.1 hAB, vx_L.narrow h.2 hAB⟩
theorem vx_Zqof {args : Array Value} {s : State} {C n d : String} {A : Nat → Prop} (hl : (Cond.laysStatic C n d).before args s = true) (hini : (Cond.initialized C).before args s = true) (h : (Cond.isRef (.static C n d)).before args s = true) (hA : ∀ a : Nat, a < s.heap.size → ¬ A a) : vx_Zq C n d A s s.heap := by
  refine ⟨va_Zqof hl hini h hA, ?_⟩
  obtain ⟨c, k, i, f, a, cell, h1, h2, h3, h4, h5, h6, h7, h8, h9⟩ := Cond.laysStatic_spec hl
  exact ⟨c, k, i, f, a, cell, h1, h2, h3, h4, h5, h6, h7, h8, h9, hA a (Array.getElem?_eq_some_iff.mp h5).1⟩
theorem vx_isRef {C n d : String} {v : Value} {A : Nat → Prop} {s : State} {args : Array Value} (h : va_Z C n d v A s s.heap) (hv : v.isRef = true) : (Cond.isRef (.static C n d)).before args s = true := by
  obtain ⟨cf, kf, fi, f, a, cell, h1, h2, h3, h4, h5, h6, h7, -⟩ := h
  have he : (Term.static C n d).eval args s none [] s = some v := by
    simp [Term.eval, State.fieldNamed?, h1, h2, h4, h5, h6, h7]
  simp only [Cond.before, Cond.holds, Cond.value, he]
  cases v <;> simp_all [Value.isRef]
theorem vx_isRefq {C n d : String} {A : Nat → Prop} {s : State} {args : Array Value} (h : va_Zq C n d A s s.heap) : (Cond.isRef (.static C n d)).before args s = true := by
  rcases h with h | ⟨t, h⟩
  · exact vx_isRef h rfl
  · exact vx_isRef h rfl
/-- the same frame, seen from here: as if the method were called anew in this heap -/
theorem vx_rebase {T : State} (X : Stand p l e R s m args below meth c T locs cells slots) {R' : Room} (hf : R'.frames ≤ R.frames) (hl : R'.locals ≤ R.locals) (hc : cells + R'.cells ≤ R.cells) (hs : slots + R'.slots ≤ R.slots) :
    Stand p l e R' ((T.setVm s.vm).setFrames (.invoking m args :: below)) m args below meth c T [] 0 0 := by
  have htop : (T.setVm s.vm).topJava?.isSome := X.here.top
  have hF : ((T.setVm s.vm).setFrames (.invoking m args :: below)).frames = .invoking m args :: below := State.frames_setFrames _ (State.cur_lt_of_top htop)
  obtain ⟨g₀, hg0⟩ := Option.isSome_iff_exists.mp htop
  obtain ⟨r, hr⟩ := State.topJava?_eq_some.mp hg0
  have hl9 : e.platform.stackLimits (T.setVm s.vm).me = e.platform.stackLimits s.me := X.limits
  have hb9 : (T.setVm s.vm).me.stackBytes = s.me.stackBytes := X.bytes
  refine ⟨X.admits, X.cas, X.clock, hF, ?_, X.hears, X.method, X.code, X.here, X.tail, X.warmed, ?_, ?_, ?_⟩
  · have h := X.room
    have hU : ((T.setVm s.vm).setFrames (.invoking m args :: below)).localsInUse = s.localsInUse := by
      rw [State.localsInUse_invoking hF (meth := meth) (c := c) X.method X.code, State.localsInUse_invoking X.frames X.method X.code]
    simp only [State.hasRoom, Bool.and_eq_true, decide_eq_true_eq] at h ⊢
    obtain ⟨⟨⟨⟨h1, h2, h3, h4, h5, h6⟩, h7⟩, h8⟩, h9⟩ := h
    rw [X.frames, List.length_cons] at h2 h3
    have q1 := X.heapSize
    have q2 := X.used
    simp only [hF, hU, List.length_cons, State.stackLimits_setFrames, State.stackBytes_setFrames, hl9, hb9]
    refine ⟨⟨⟨⟨by omega, by omega, by omega, by omega, by omega, h6⟩, ?_⟩, ?_⟩, X.book⟩
    · show T.heap.size + R'.cells ≤ e.platform.maxCells
      omega
    · show T.slotsUsed + R'.slots ≤ e.platform.maxSlots
      omega
  · rw [State.stackLimits_setFrames]; rfl
  · rw [State.stackBytes_setFrames]; rfl
  · refine ⟨?_, Nat.le_refl _, Nat.le_refl _, ?_, ?_, fun a c9 h9 => ⟨c9, h9, rfl, rfl, fun _ _ => rfl⟩⟩
    · obtain ⟨t, ht, -⟩ := State.frames_cons hr
      show T.setVm s.vm = { ((T.setVm s.vm).setFrames (.invoking m args :: below)).setFrames (T.setVm s.vm).frames with heap := T.heap, slotsUsed := T.slotsUsed }
      rw [State.setFrames_setFrames, State.setFrames_self ht]
      rfl
    · show T.slotsUsed = T.slotsUsed + ((T.heap.toList.drop T.heap.size).map (·.slots.size)).sum
      rw [List.drop_eq_nil_of_le (Nat.le_of_eq Array.length_toList)]
      rfl
    · show ((T.heap.toList.drop T.heap.size).map (·.slots.size)).sum ≤ 0
      rw [List.drop_eq_nil_of_le (Nat.le_of_eq Array.length_toList)]
      exact Nat.le_refl _
/-- 'throw new E()': new; dup; invokespecial; athrow -/
theorem vx_throw0 {cc : ByteArray} {pc : Nat} (hexec : p.tables.exec = Jvm.exec) (hb : c.code = cc) (hl : l.stackTraces = false) {own cls : String} {names : List String} {ik ic mc ms : Nat} {A : Nat → Prop}
    (hown : s.vm.findClass own = some m.cls) (hcls : Bundle.fit cls = true) (hnames : ∀ n ∈ names, Bundle.fit n = true)
    (hk : (Cond.classLink own ik cls).before args s = true) (hini : (Cond.initialized cls).before args s = true) (hat : ∀ w ∈ vx_at0 own ic cls names, w.before args s = true)
    (hgood : ∀ w ∈ Cond.classLink own ik cls :: Cond.initialized cls :: vx_at0 own ic cls names, vx_ot w = true)
    (hU : vx_Zq Bundle.tN "UNASSIGNED_STACK" Bundle.steD A s s.heap) (hN : vx_Zq Bundle.tN "SUPPRESSED_SENTINEL" Bundle.listD A s s.heap) (hS : va_S A s.heap H locs) (hsize : ls.size = c.maxLocals)
    (d0 : decode cc pc = .ok (.new ik, 3)) (d3 : decode cc (pc + 3) = .ok (.dup, 1)) (d4 : decode cc (pc + 4) = .ok (.invokespecial ic, 3)) (d7 : decode cc (pc + 7) = .ok (.athrow, 1))
    (hout : ∀ x ∈ c.exceptionTable.toList, covers x (pc + 7) = false)
    (hRframes : names.length + 3 < R.frames) (hRlocals : (rest.map fun v => v.category).sum + (13 * (names.length + 1) + 42) ≤ R.locals) (hRcells : cells + 1 ≤ R.cells) (hRslots : slots + 6 ≤ R.slots) (hlocks : meth.locks = false)
    (hx : ∀ t : State, s.vm.Alike t.vm → H.size ≤ t.heap.size → (∀ q : Nat, q < H.size → t.heap[q]? = H[q]?) → XC cls s t)
    (hf : ∀ z ∈ locs, free z.base) (hc : cells + 1 ≤ mc) (hs : slots + 6 ≤ ms) :
    W p l e R s m args below meth c H locs cells slots (vx_MQ below Qc XC args s mc ms free) (F0 m pc ls rest) := by
  intro T hT X
  have htr : e.platform.stackTraces = false := (show e.platform.stackTraces = l.stackTraces by rw [X.admits.platform]).trans hl
  have Y := vx_rebase X (R' := { frames := R.frames, locals := R.locals, cells := 1, slots := 6 }) (Nat.le_refl _) (Nat.le_refl _) hRcells hRslots
  obtain ⟨s', hA⟩ : ∃ z, z = (T.setVm s.vm).setFrames (.invoking m args :: below) := ⟨_, rfl⟩
  rw [← hA] at Y
  have hvm : s'.vm = s.vm := by rw [hA]; rfl
  have hhp : s'.heap = H := by rw [hA]; exact hT
  have hW0 : s.WarmedH s'.vm := by rw [hvm]; exact State.WarmedH.refl s
  have hat' : ∀ w ∈ vx_at0 own ic cls names, w.before args s' = true := fun w hw => vx_ot_at hW0 hvm.symm (hgood w (List.mem_cons_of_mem _ (List.mem_cons_of_mem _ hw))) (hat w hw)
  have hk' : (Cond.classLink own ik cls).before args s' = true := vx_ot_at hW0 hvm.symm (hgood _ List.mem_cons_self) hk
  have hini' : (Cond.initialized cls).before args s' = true := vx_ot_at hW0 hvm.symm (hgood _ (List.mem_cons_of_mem _ List.mem_cons_self)) hini
  have hU' : vx_Zq Bundle.tN "UNASSIGNED_STACK" Bundle.steD A s' s'.heap := by rw [hhp]; exact vx_Zq.moved hW0.alike (hU.kept hS.2.1)
  have hN' : vx_Zq Bundle.tN "SUPPRESSED_SENTINEL" Bundle.listD A s' s'.heap := by rw [hhp]; exact vx_Zq.moved hW0.alike (hN.kept hS.2.1)
  have h : ∀ w ∈ Bundle.ownAtoms0 own ic cls names, w.before args s' = true := vx_own hat' (vx_isRefq hU'.1) (vx_isRefq hN'.1) hU'.2.word hN'.2.word
  have hown' : s'.vm.findClass own = some m.cls := by rw [hvm]; exact hown
  have hins : (Cond.instantiable cls 6).before args s' = true := h _ (by simp [Bundle.ownAtoms0])
  obtain ⟨vm₁, cX, kX, hfX, hkX, -, -, X₁, st1⟩ := Y.newCold hexec (own := own) (C := cls) (index := ik) (n := 6) hown' hk' hins hini'
    (g := F0 m pc ls rest) rfl (by rw [hb]; exact d0) (Nat.le_refl _) (Nat.le_refl _)
  generalize hT1 : (T.setVm vm₁).pushCell { cls := cX, slots := kX.instanceTypes.map defaultValue, vm := .none } = T1 at X₁ st1
  have hcat : (Value.ref T.heap.size).category = 1 := rfl
  have hcellA : T1.heap[T.heap.size]? = some (freshCell cX kX) := by rw [← hT1]; exact State.heap_pushCell_size _ _
  have d3' : decode c.code (pc + 3) = .ok (.dup, 1) := by rw [hb]; exact d3
  obtain ⟨U, hsteps, hrun, hend, hW, hsame, ce, hce, hO⟩ := X₁.ctorThrow0 hexec htr (own := own) (cls := cls) (names := names) (ic := ic) hown' hcls hnames h (fun x hx => nomatch hx) hfX hkX hcellA (by rw [hhp, hT]; exact Nat.le_refl _)
    (g := { method := m, pc := pc + 4, locals := ls, stack := .ref T.heap.size :: .ref T.heap.size :: rest, locked := none }) rfl hsize rfl rfl (rest := rest) rfl
    (by rw [hb]; exact d4) (by rw [hb]; exact d7) hout hRframes (by simp only [List.map_cons, List.sum_cons, hcat]; omega) hlocks
  obtain ⟨f1, f2⟩ := vx_frame hsame
  rw [hhp] at f1 f2
  have hWs : s.WarmedH U.vm := State.WarmedH.trans hW0 hW
  have hcl : s.vm.findClass cls = some ce.cls := by
    have h9 := hO.cls
    rw [hvm] at h9
    exact h9
  have hall : s.sameButNew ({ U with vm := s.vm } : State) locs mc ms := by
    subst hA
    obtain ⟨e1, e2⟩ := hsame
    rw [State.setFrames_setFrames] at e1
    have h2 : (T.setVm s.vm).sameButNew ({ U with vm := s.vm } : State) [] (0 + 1) (0 + 6) := ⟨e1, e2⟩
    have h3 := X.same.trans h2
    rw [List.append_nil] at h3
    exact h3.mono hc hs
  refine ⟨U, ?_, .threw T.heap.size, hrun, hend, Or.inr ⟨T.heap.size, rfl, cls, ce, locs, hx U hWs.alike f1 (fun q hq => f2 q hq (fun z hz => nomatch hz)), hce, hO.vm, hcl, hWs, hall, hf⟩⟩
  refine st1 _ ?_
  show Steps p.tables e below (T1.setTop { method := m, pc := pc + 3, locals := ls, stack := .ref T.heap.size :: rest, locked := none }) _
  jvm_step X₁.here [X₁.here.top, hexec, d3', Value.category]
  exact hsteps
/-- 'throw new E("text")': new; dup; ldc; invokespecial; athrow -/
theorem vx_throwS {cc : ByteArray} {pc : Nat} (hexec : p.tables.exec = Jvm.exec) (hb : c.code = cc) (hl : l.stackTraces = false) {own cls text : String} {names : List String} {ik is ic mc ms sa : Nat} {A : Nat → Prop}
    (hown : s.vm.findClass own = some m.cls) (hcls : Bundle.fit cls = true) (hnames : ∀ n ∈ names, Bundle.fit n = true)
    (hk : (Cond.classLink own ik cls).before args s = true) (hini : (Cond.initialized cls).before args s = true) (hstr : vk_R own is text sa s) (hat : ∀ w ∈ vx_atS own ic cls names, w.before args s = true)
    (hgood : ∀ w ∈ Cond.classLink own ik cls :: Cond.initialized cls :: vx_atS own ic cls names, vx_ot w = true)
    (hU : vx_Zq Bundle.tN "UNASSIGNED_STACK" Bundle.steD A s s.heap) (hN : vx_Zq Bundle.tN "SUPPRESSED_SENTINEL" Bundle.listD A s s.heap) (hS : va_S A s.heap H locs) (hsize : ls.size = c.maxLocals)
    (d0 : decode cc pc = .ok (.new ik, 3)) (d3 : decode cc (pc + 3) = .ok (.dup, 1)) (d4 : decode cc (pc + 4) = .ok (.ldc is, 2)) (d6 : decode cc (pc + 6) = .ok (.invokespecial ic, 3)) (d9 : decode cc (pc + 9) = .ok (.athrow, 1))
    (hout : ∀ x ∈ c.exceptionTable.toList, covers x (pc + 9) = false)
    (hRframes : names.length + 3 < R.frames) (hRlocals : (rest.map fun v => v.category).sum + (13 * (names.length + 1) + 43) ≤ R.locals) (hRcells : cells + 1 ≤ R.cells) (hRslots : slots + 6 ≤ R.slots) (hlocks : meth.locks = false)
    (hx : ∀ t : State, s.vm.Alike t.vm → H.size ≤ t.heap.size → (∀ q : Nat, q < H.size → t.heap[q]? = H[q]?) → XC cls s t)
    (hf : ∀ z ∈ locs, free z.base) (hc : cells + 1 ≤ mc) (hs : slots + 6 ≤ ms) :
    W p l e R s m args below meth c H locs cells slots (vx_MQ below Qc XC args s mc ms free) (F0 m pc ls rest) := by
  intro T hT X
  have htr : e.platform.stackTraces = false := (show e.platform.stackTraces = l.stackTraces by rw [X.admits.platform]).trans hl
  have Y := vx_rebase X (R' := { frames := R.frames, locals := R.locals, cells := 1, slots := 6 }) (Nat.le_refl _) (Nat.le_refl _) hRcells hRslots
  obtain ⟨s', hA⟩ : ∃ z, z = (T.setVm s.vm).setFrames (.invoking m args :: below) := ⟨_, rfl⟩
  rw [← hA] at Y
  have hvm : s'.vm = s.vm := by rw [hA]; rfl
  have hhp : s'.heap = H := by rw [hA]; exact hT
  have hW0 : s.WarmedH s'.vm := by rw [hvm]; exact State.WarmedH.refl s
  have hat' : ∀ w ∈ vx_atS own ic cls names, w.before args s' = true := fun w hw => vx_ot_at hW0 hvm.symm (hgood w (List.mem_cons_of_mem _ (List.mem_cons_of_mem _ hw))) (hat w hw)
  have hk' : (Cond.classLink own ik cls).before args s' = true := vx_ot_at hW0 hvm.symm (hgood _ List.mem_cons_self) hk
  have hini' : (Cond.initialized cls).before args s' = true := vx_ot_at hW0 hvm.symm (hgood _ (List.mem_cons_of_mem _ List.mem_cons_self)) hini
  have hU' : vx_Zq Bundle.tN "UNASSIGNED_STACK" Bundle.steD A s' s'.heap := by rw [hhp]; exact vx_Zq.moved hW0.alike (hU.kept hS.2.1)
  have hN' : vx_Zq Bundle.tN "SUPPRESSED_SENTINEL" Bundle.listD A s' s'.heap := by rw [hhp]; exact vx_Zq.moved hW0.alike (hN.kept hS.2.1)
  have h : ∀ w ∈ Bundle.ownAtoms own ic cls names, w.before args s' = true := vx_own hat' (vx_isRefq hU'.1) (vx_isRefq hN'.1) hU'.2.word hN'.2.word
  have hown' : s'.vm.findClass own = some m.cls := by rw [hvm]; exact hown
  have hins : (Cond.instantiable cls 6).before args s' = true := h _ (by simp [Bundle.ownAtoms])
  obtain ⟨vm₁, cX, kX, hfX, hkX, -, -, X₁, st1⟩ := Y.newCold hexec (own := own) (C := cls) (index := ik) (n := 6) hown' hk' hins hini'
    (g := F0 m pc ls rest) rfl (by rw [hb]; exact d0) (Nat.le_refl _) (Nat.le_refl _)
  generalize hT1 : (T.setVm vm₁).pushCell { cls := cX, slots := kX.instanceTypes.map defaultValue, vm := .none } = T1 at X₁ st1
  have hcat : (Value.ref T.heap.size).category = 1 := rfl
  have hcellA : T1.heap[T.heap.size]? = some (freshCell cX kX) := by rw [← hT1]; exact State.heap_pushCell_size _ _
  have d3' : decode c.code (pc + 3) = .ok (.dup, 1) := by rw [hb]; exact d3
  have d4' : decode c.code (pc + 4) = .ok (.ldc is, 2) := by rw [hb]; exact d4
  have hstr' : vk_R own is text sa s' := vk_R.warm hW0 hstr
  obtain ⟨U, hsteps, hrun, hend, hW, hsame, ce, hce, hO⟩ := X₁.ctorThrowS hexec htr (own := own) (cls := cls) (names := names) (ic := ic) hown' hcls hnames h (fun x hx => nomatch hx) hfX hkX hcellA (by rw [hhp, hT]; exact Nat.le_refl _) (msg := .ref sa) rfl
    (g := { method := m, pc := pc + 6, locals := ls, stack := .ref sa :: .ref T.heap.size :: .ref T.heap.size :: rest, locked := none }) rfl hsize rfl rfl (rest := rest) rfl
    (by rw [hb]; exact d6) (by rw [hb]; exact d9) hout hRframes (by simp only [List.map_cons, List.sum_cons, hcat]; omega) hlocks
  obtain ⟨f1, f2⟩ := vx_frame hsame
  rw [hhp] at f1 f2
  have hWs : s.WarmedH U.vm := State.WarmedH.trans hW0 hW
  have hcl : s.vm.findClass cls = some ce.cls := by
    have h9 := hO.cls
    rw [hvm] at h9
    exact h9
  have hall : s.sameButNew ({ U with vm := s.vm } : State) locs mc ms := by
    subst hA
    obtain ⟨e1, e2⟩ := hsame
    rw [State.setFrames_setFrames] at e1
    have h2 : (T.setVm s.vm).sameButNew ({ U with vm := s.vm } : State) [] (0 + 1) (0 + 6) := ⟨e1, e2⟩
    have h3 := X.same.trans h2
    rw [List.append_nil] at h3
    exact h3.mono hc hs
  refine ⟨U, ?_, .threw T.heap.size, hrun, hend, Or.inr ⟨T.heap.size, rfl, cls, ce, locs, hx U hWs.alike f1 (fun q hq => f2 q hq (fun z hz => nomatch hz)), hce, hO.vm, hcl, hWs, hall, hf⟩⟩
  refine st1 _ ?_
  show Steps p.tables e below (T1.setTop { method := m, pc := pc + 3, locals := ls, stack := .ref T.heap.size :: rest, locked := none }) _
  jvm_step X₁.here [X₁.here.top, hexec, d3', Value.category]
  exact X₁.ldcString hexec (own := own) (text := text) (index := is) (a := sa) hown' hstr'.1 hstr'.2
    (g := { method := m, pc := pc + 4, locals := ls, stack := .ref T.heap.size :: .ref T.heap.size :: rest, locked := none }) rfl d4' _ hsteps
/-- 'throw new E("text")', the text by a wide index -/
theorem vx_throwSW {cc : ByteArray} {pc : Nat} (hexec : p.tables.exec = Jvm.exec) (hb : c.code = cc) (hl : l.stackTraces = false) {own cls text : String} {names : List String} {ik is ic mc ms sa : Nat} {A : Nat → Prop}
    (hown : s.vm.findClass own = some m.cls) (hcls : Bundle.fit cls = true) (hnames : ∀ n ∈ names, Bundle.fit n = true)
    (hk : (Cond.classLink own ik cls).before args s = true) (hini : (Cond.initialized cls).before args s = true) (hstr : vk_R own is text sa s) (hat : ∀ w ∈ vx_atS own ic cls names, w.before args s = true)
    (hgood : ∀ w ∈ Cond.classLink own ik cls :: Cond.initialized cls :: vx_atS own ic cls names, vx_ot w = true)
    (hU : vx_Zq Bundle.tN "UNASSIGNED_STACK" Bundle.steD A s s.heap) (hN : vx_Zq Bundle.tN "SUPPRESSED_SENTINEL" Bundle.listD A s s.heap) (hS : va_S A s.heap H locs) (hsize : ls.size = c.maxLocals)
    (d0 : decode cc pc = .ok (.new ik, 3)) (d3 : decode cc (pc + 3) = .ok (.dup, 1)) (d4 : decode cc (pc + 4) = .ok (.ldc_w is, 3)) (d7 : decode cc (pc + 7) = .ok (.invokespecial ic, 3)) (d10 : decode cc (pc + 10) = .ok (.athrow, 1))
    (hout : ∀ x ∈ c.exceptionTable.toList, covers x (pc + 10) = false)
    (hRframes : names.length + 3 < R.frames) (hRlocals : (rest.map fun v => v.category).sum + (13 * (names.length + 1) + 43) ≤ R.locals) (hRcells : cells + 1 ≤ R.cells) (hRslots : slots + 6 ≤ R.slots) (hlocks : meth.locks = false)
    (hx : ∀ t : State, s.vm.Alike t.vm → H.size ≤ t.heap.size → (∀ q : Nat, q < H.size → t.heap[q]? = H[q]?) → XC cls s t)
    (hf : ∀ z ∈ locs, free z.base) (hc : cells + 1 ≤ mc) (hs : slots + 6 ≤ ms) :
    W p l e R s m args below meth c H locs cells slots (vx_MQ below Qc XC args s mc ms free) (F0 m pc ls rest) := by
  intro T hT X
  have htr : e.platform.stackTraces = false := (show e.platform.stackTraces = l.stackTraces by rw [X.admits.platform]).trans hl
  have Y := vx_rebase X (R' := { frames := R.frames, locals := R.locals, cells := 1, slots := 6 }) (Nat.le_refl _) (Nat.le_refl _) hRcells hRslots
  obtain ⟨s', hA⟩ : ∃ z, z = (T.setVm s.vm).setFrames (.invoking m args :: below) := ⟨_, rfl⟩
  rw [← hA] at Y
  have hvm : s'.vm = s.vm := by rw [hA]; rfl
  have hhp : s'.heap = H := by rw [hA]; exact hT
  have hW0 : s.WarmedH s'.vm := by rw [hvm]; exact State.WarmedH.refl s
  have hat' : ∀ w ∈ vx_atS own ic cls names, w.before args s' = true := fun w hw => vx_ot_at hW0 hvm.symm (hgood w (List.mem_cons_of_mem _ (List.mem_cons_of_mem _ hw))) (hat w hw)
  have hk' : (Cond.classLink own ik cls).before args s' = true := vx_ot_at hW0 hvm.symm (hgood _ List.mem_cons_self) hk
  have hini' : (Cond.initialized cls).before args s' = true := vx_ot_at hW0 hvm.symm (hgood _ (List.mem_cons_of_mem _ List.mem_cons_self)) hini
  have hU' : vx_Zq Bundle.tN "UNASSIGNED_STACK" Bundle.steD A s' s'.heap := by rw [hhp]; exact vx_Zq.moved hW0.alike (hU.kept hS.2.1)
  have hN' : vx_Zq Bundle.tN "SUPPRESSED_SENTINEL" Bundle.listD A s' s'.heap := by rw [hhp]; exact vx_Zq.moved hW0.alike (hN.kept hS.2.1)
  have h : ∀ w ∈ Bundle.ownAtoms own ic cls names, w.before args s' = true := vx_own hat' (vx_isRefq hU'.1) (vx_isRefq hN'.1) hU'.2.word hN'.2.word
  have hown' : s'.vm.findClass own = some m.cls := by rw [hvm]; exact hown
  have hins : (Cond.instantiable cls 6).before args s' = true := h _ (by simp [Bundle.ownAtoms])
  obtain ⟨vm₁, cX, kX, hfX, hkX, -, -, X₁, st1⟩ := Y.newCold hexec (own := own) (C := cls) (index := ik) (n := 6) hown' hk' hins hini'
    (g := F0 m pc ls rest) rfl (by rw [hb]; exact d0) (Nat.le_refl _) (Nat.le_refl _)
  generalize hT1 : (T.setVm vm₁).pushCell { cls := cX, slots := kX.instanceTypes.map defaultValue, vm := .none } = T1 at X₁ st1
  have hcat : (Value.ref T.heap.size).category = 1 := rfl
  have hcellA : T1.heap[T.heap.size]? = some (freshCell cX kX) := by rw [← hT1]; exact State.heap_pushCell_size _ _
  have d3' : decode c.code (pc + 3) = .ok (.dup, 1) := by rw [hb]; exact d3
  have d4' : decode c.code (pc + 4) = .ok (.ldc_w is, 3) := by rw [hb]; exact d4
  have hstr' : vk_R own is text sa s' := vk_R.warm hW0 hstr
  obtain ⟨U, hsteps, hrun, hend, hW, hsame, ce, hce, hO⟩ := X₁.ctorThrowS hexec htr (own := own) (cls := cls) (names := names) (ic := ic) hown' hcls hnames h (fun x hx => nomatch hx) hfX hkX hcellA (by rw [hhp, hT]; exact Nat.le_refl _) (msg := .ref sa) rfl
    (g := { method := m, pc := pc + 7, locals := ls, stack := .ref sa :: .ref T.heap.size :: .ref T.heap.size :: rest, locked := none }) rfl hsize rfl rfl (rest := rest) rfl
    (by rw [hb]; exact d7) (by rw [hb]; exact d10) hout hRframes (by simp only [List.map_cons, List.sum_cons, hcat]; omega) hlocks
  obtain ⟨f1, f2⟩ := vx_frame hsame
  rw [hhp] at f1 f2
  have hWs : s.WarmedH U.vm := State.WarmedH.trans hW0 hW
  have hcl : s.vm.findClass cls = some ce.cls := by
    have h9 := hO.cls
    rw [hvm] at h9
    exact h9
  have hall : s.sameButNew ({ U with vm := s.vm } : State) locs mc ms := by
    subst hA
    obtain ⟨e1, e2⟩ := hsame
    rw [State.setFrames_setFrames] at e1
    have h2 : (T.setVm s.vm).sameButNew ({ U with vm := s.vm } : State) [] (0 + 1) (0 + 6) := ⟨e1, e2⟩
    have h3 := X.same.trans h2
    rw [List.append_nil] at h3
    exact h3.mono hc hs
  refine ⟨U, ?_, .threw T.heap.size, hrun, hend, Or.inr ⟨T.heap.size, rfl, cls, ce, locs, hx U hWs.alike f1 (fun q hq => f2 q hq (fun z hz => nomatch hz)), hce, hO.vm, hcl, hWs, hall, hf⟩⟩
  refine st1 _ ?_
  show Steps p.tables e below (T1.setTop { method := m, pc := pc + 3, locals := ls, stack := .ref T.heap.size :: rest, locked := none }) _
  jvm_step X₁.here [X₁.here.top, hexec, d3', Value.category]
  exact X₁.ldcStringW hexec (own := own) (text := text) (index := is) (a := sa) hown' hstr'.1 hstr'.2
    (g := { method := m, pc := pc + 4, locals := ls, stack := .ref T.heap.size :: .ref T.heap.size :: rest, locked := none }) rfl d4' _ hsteps
end Ends
section Bodies
variable {l : Launch}
theorem vx_ofW {y : MethodName} {ws ws' : List Cond} {rm : Room} {Pc : Array Value → State → Prop} {Qc : Array Value → State → Outcome → State → Prop} {XC : String → State → State → Prop} {mc ms : Nat} {free : Addr → Prop} {cc : ByteArray} {maxL : Nat} {ret : Option FieldType}
    (hy : plainName y.cls = true) (hw : ws = Cond.code y cc maxL ret :: ws')
    (body : ∀ p e s m args below meth c s₁, BodyLoose p l y (headSpec ws rm) cc maxL ret e s m args below meth c s₁ → c.maxLocals = maxL → (∀ x ∈ c.exceptionTable.toList, False) → Pc args s →
      W p l e (headSpec ws rm).room s m args below meth c s.heap [] 0 0 (vx_MQ below Qc XC args s mc ms free) (entryFrame m args maxL)) : vx_Met l y ws rm Pc Qc XC mc ms free := by
  refine MetFree.of_bodyS (code := cc) (maxLocals := maxL) (ret := ret) hy ?_ ?_
  · intro args s m h hn
    obtain ⟨meth, c, h1, h2, h3, h4, h5, h6, -, -⟩ := Cond.code_spec hn (atoms_spec (ws := ws) h _ (by rw [hw]; exact List.mem_cons_self))
    exact ⟨meth, c, h1, h2, h3, h4, h5, h6⟩
  · intro p e s m args below meth c s₁ B hml hP _
    have hh0 : s₁.heap = s.heap := by rw [B.state]; rfl
    have ht : ∀ x ∈ c.exceptionTable.toList, False := by
      obtain ⟨meth9, c9, h1, h2, -, -, -, -, h7, -⟩ := Cond.code_spec B.named (atoms_spec (ws := ws) B.pre _ (by rw [hw]; exact List.mem_cons_self))
      cases Option.some.inj (h1.symm.trans B.method)
      cases Option.some.inj (h2.symm.trans (Stand.of_body B).code)
      intro x hx
      rw [Array.isEmpty_iff.mp h7] at hx
      cases hx
    obtain ⟨t, a1, o, b1, b2, b3⟩ := body p e s m args below meth c s₁ B hml ht hP s₁ hh0 (Stand.of_body B)
    exact ⟨t, o, a1, b1, b2, b3⟩
/-- the table of a body with handlers -/
theorem vx_table {p : Program} {x y : MethodName} {S : Spec} {cc bytes : ByteArray} {maxL maxL' : Nat} {ret ret' : Option FieldType} {e : Env} {s s₁ : State} {m : MethodId} {args : Array Value} {below : List Frame} {meth : Method} {c : Code} {hh : List (Nat × Nat × Nat × Nat)}
    (B : BodyLoose p l y S cc maxL ret e s m args below meth c s₁) (h : (Cond.codeWith y bytes maxL' ret' hh).before args s = true) : c.exceptionTable.toList = tableOf hh := by
  obtain ⟨m9, meth9, c9, hn9, h1, h2, -, -, h6, -⟩ := Cond.codeWith_spec h
  cases Option.some.inj (hn9.symm.trans B.named)
  cases Option.some.inj (h1.symm.trans B.method)
  cases Option.some.inj (h2.symm.trans (Stand.of_body B).code)
  rw [← h6, table_eq]
end Bodies
end VXA
/-! ===== END ===== -/
/-! ===== BEGIN a static call of a method with an exception table ===== -/
section VXS
variable {p : Program} {l : Launch} {e : Env} {R : Room} {s : State} {m : MethodId} {args : Array Value} {below : List Frame} {meth : Method} {c : Code} {T : State} {H : Heap} {locs : List Loc} {cells slots : Nat}
abbrev vx_CSW (R : Room) (s : State) (args : Array Value) (own : String) (index : Nat) (y : MethodName) (bytes : ByteArray) (maxL : Nat) (ret : Option FieldType) (hh : List (Nat × Nat × Nat × Nat)) (ws : List Cond) (rm : Room) (mc ms n : Nat) : Prop :=
  (rm.cells = mc ∧ rm.slots = ms ∧ rm.frames + 1 ≤ R.frames ∧ 8 + (maxL + 11) + rm.locals ≤ R.locals ∧ (∀ w ∈ ws, ∀ (a' : Array Value) (U : State), s.WarmedH U.vm → w.before a' U = true) ∧ Cond.codeWith y bytes maxL ret hh ∈ ws) ∧
  (Cond.codeWith y bytes maxL ret hh).before args s = true ∧ (Cond.initialized y.cls).before args s = true ∧ (y.cls ≠ "java/lang/invoke/MethodHandle" ∧ y.cls ≠ "java/lang/invoke/VarHandle") ∧
  (∀ sig, parseMethodDescriptor y.desc = some sig → n = sig.parameters.length) ∧ (Cond.methodLink own index y).before args s = true ∧ (Cond.static y).before args s = true
theorem vx_cwSW {own : String} {index maxL mc ms : Nat} {y : MethodName} {bytes : ByteArray} {ret : Option FieldType} {hh : List (Nat × Nat × Nat × Nat)} {Ts ws ws' : List Cond} {rm : Room} (n : Nat) (ht : ∀ w ∈ Ts, w.before args s = true) (hT : GoodIn Ts (va_wsS own index y ws)) (hw : ws = Cond.codeWith y bytes maxL ret hh :: ws') (hrc : rm.cells = mc) (hrs : rm.slots = ms)
    (hd : y.cls ≠ "java/lang/invoke/MethodHandle" ∧ y.cls ≠ "java/lang/invoke/VarHandle" ∧ (parseMethodDescriptor y.desc).map (fun d => d.parameters.length) = some n) (hR : rm.frames + 1 ≤ R.frames ∧ 8 + (maxL + 11) + rm.locals ≤ R.locals) :
    vx_CSW R s args own index y bytes maxL ret hh ws rm mc ms n := by
  have ok : ∀ w ∈ va_wsS own index y ws, w.before args s = true := fun w h => ht w (hT w h).1
  have hG : GoodIn Ts ws := fun w h => hT w (by unfold va_wsS; exact List.mem_append_right _ h)
  have hc : Cond.codeWith y bytes maxL ret hh ∈ ws := by rw [hw]; exact List.mem_cons_self
  refine ⟨⟨hrc, hrs, hR.1, hR.2, pay_in ht hG, hc⟩, ht _ (hG _ hc).1, ok _ (by simp [va_wsS]), ⟨hd.1, hd.2.1⟩, fun sig h => ?_, ok _ (by simp [va_wsS]), ok _ (by simp [va_wsS])⟩
  have h2 := hd.2.2
  rw [h] at h2
  exact (Option.some.inj h2).symm
theorem vx_callSW (X : Stand p l e R s m args below meth c T locs cells slots) (hexec : p.tables.exec = Jvm.exec) {own : String} {index : Nat} {y : MethodName} {bytes : ByteArray} {maxL : Nat} {ret : Option FieldType} {hh : List (Nat × Nat × Nat × Nat)}
    (hown : s.vm.findClass own = some m.cls) (hlink : (Cond.methodLink own index y).before args s = true) (hstat : (Cond.static y).before args s = true) (hinit : (Cond.initialized y.cls).before args s = true)
    (hcode : (Cond.codeWith y bytes maxL ret hh).before args s = true) (hy : y.cls ≠ "java/lang/invoke/MethodHandle" ∧ y.cls ≠ "java/lang/invoke/VarHandle")
    {W9 : Nat} {Pre : Pt → Array Value → Prop} {Post : Pt → Array Value → Option Value → Pt → Prop} (hK : Back l R p e below s args y 3 W9 Pre Post)
    {g : JFrame} (hg : g.method = m) (hsize : g.locals.size = c.maxLocals) {argsL rest : List Value} (hlen : ∀ sig, parseMethodDescriptor y.desc = some sig → argsL.length = sig.parameters.length)
    (hstack : g.stack = argsL.reverse ++ rest) (hW : 2 * g.monitorRoom + (rest.map fun v => v.category).sum ≤ W9) (hdg : decode c.code g.pc = .ok (.invokestatic index, 3))
    (hpre : ∀ vm₁, s.WarmedH vm₁ → Pre ⟨T.setVm vm₁, locs, cells, slots⟩ argsL.toArray) :
    ∃ (v : Option Value) (vm₁ : Vm) (B : Pt), s.WarmedH vm₁ ∧ Stand p l e R s m args below meth c B.U B.locs B.cells B.slots ∧ Post ⟨T.setVm vm₁, locs, cells, slots⟩ argsL.toArray v B ∧
      ∀ target, Steps p.tables e below (B.U.setTop { g with pc := g.pc + 3, stack := v.toList ++ rest }) target → Steps p.tables e below (T.setTop g) target := by
  obtain ⟨mk, methM, cM, hnamed, hmethM, -, -, -, -, -, -, hsigM⟩ := Cond.codeWith_spec hcode
  have hstatic : methM.isStatic = true := Cond.static_spec hnamed hmethM hstat
  obtain ⟨kP, hkP, -⟩ := className_of_methodNamed hnamed
  have hinitP : kP.init = .initialized := Cond.initialized_spec (findClass_of_methodNamed hnamed) hkP hinit
  obtain ⟨vm₁, X₁, hstep₁⟩ := X.invokestatic hexec hown hlink hnamed hmethM hstatic hkP hinitP hy (g := g) hg (argsL := argsL) (rest := rest) (hlen _ hsigM) hstack hdg
  obtain ⟨v, B, X', hpost, hsteps⟩ := hK m meth c ⟨T.setVm vm₁, locs, cells, slots⟩ { g with stack := rest } (.invokestatic index) mk argsL.toArray X₁ hg hsize hdg hW (X₁.named hnamed) (hpre vm₁ X₁.warmed)
  exact ⟨v, vm₁, B, X₁.warmed, X', hpost, fun target h => hstep₁ _ fun acts => by rw [doInvoke_state]; exact hsteps.trans h⟩
theorem vx_runSW {y : MethodName} {bytes cc : ByteArray} {maxL nL mc ms n index : Nat} {ret : Option FieldType} {hh : List (Nat × Nat × Nat × Nat)} {ws : List Cond} {rm : Room} {Pc : Array Value → State → Prop} {Qc : Array Value → State → Outcome → State → Prop} {free : Addr → Prop} {Ts : List Cond} {own : String} {As rest : List Value} {g : JFrame}
    (S : CallFix p m c cc nL s args Ts own) (hM : Met l y ws rm Pc Qc mc ms free) (cw : vx_CSW R s args own index y bytes maxL ret hh ws rm mc ms n) (hp : PreS s H Pc As)
    (hg : g.method = m) (hn : As.length = n) (hsize : g.locals.size = nL) (hstack : g.stack = As.reverse ++ rest) (hW : 2 * g.monitorRoom + (rest.map fun v => v.category).sum ≤ 8) (hdg : decode cc g.pc = .ok (.invokestatic index, 3)) (hf : cells + mc ≤ R.cells ∧ slots + ms ≤ R.slots) :
    va_Run p l e R s m args below meth c H locs cells slots mc ms g rest (Qc As.toArray) (free) := by
  obtain ⟨⟨hrc, hrs, hfr, hlo, hws, hcw⟩, hcode, hini, hy, hlen, hl, hstt⟩ := cw
  have hK : Back l R p e below s args y 3 8 (PreOf R mc ms Pc) (PostOf Qc mc ms free) := va_backW (hh := hh) (bytes := bytes) (maxL := maxL) (ret := ret) hM hp.1 hrc hrs hfr hlo hws hcw (fun a' U hW => word_at hW (Or.inl (by first | rfl | simp [Cond.onTables, Cond.keeps, Cond.steady])) hini)
  obtain ⟨hx, hb, hml, ho, -⟩ := S
  intro T hT X
  obtain ⟨v, vm₁, ⟨U', l2, c2, s2⟩, hW₁, X', ⟨g', mk, t, L, e1, e2, hq, h1, hL, h2, h3⟩, st⟩ := vx_callSW X hx (hh := hh) (bytes := bytes) (maxL := maxL) (ret := ret) ho hl hstt hini hcode hy hK hg (hsize.trans hml.symm) (argsL := As) (rest := rest) (fun sig h => hn.trans (hlen sig h)) hstack hW (by rw [hb]; exact hdg)
    (fun vm₁ hW₁ => ⟨hf.1, hf.2, hp.2 (T.setVm vm₁) hT hW₁⟩)
  dsimp only [Pt.U, Pt.locs, Pt.cells, Pt.slots] at X' e1 e2 h1 h2 h3 st
  subst h1; subst h2; subst h3
  exact ⟨v, (T.setVm vm₁).calling g' mk As.toArray, t, U', L, hT, X', hL, e1, e2, hq, st⟩
/-- not caught here, past rows that name other classes: it goes on to the caller -/
theorem vx_outP {p : Program} {l : Launch} {e : Env} {R : Room} {s : State} {m : MethodId} {args : Array Value} {below : List Frame} {meth : Method} {c : Code} {H : Heap} {locs : List Loc} {cells slots : Nat} {free : Addr → Prop} {ls : Array Slot} {rest : List Value} {Qc : Array Value → State → Outcome → State → Prop} {XC : String → State → State → Prop}
    {pc : Nat} {own E : String} {ce : Cell} {q : Addr} {mc ms : Nat} (hown : s.vm.findClass own = some m.cls) (hlocks : meth.locks = false)
    (hpass : ∀ z ∈ c.exceptionTable.toList, covers z pc = false ∨ (z.catchType ≠ 0 ∧ ∃ nm : String, (Cond.classLink own z.catchType nm).before args s = true ∧ va_Nc E nm s)) (hcell : H[q]? = some ce) (hv : ce.vm = .none) (hcl : s.vm.findClass E = some ce.cls)
    (hx : ∀ t : State, t.heap = H → s.vm.Alike t.vm → XC E s t) (hf : ∀ z ∈ locs, free z.base) (hc : cells ≤ mc) (hs : slots ≤ ms) :
    vx_W p l e R s m args below meth c H locs cells slots (vx_MQ below Qc XC args s mc ms free) (F0 m pc ls rest) q := by
  intro T hT X
  have hpl : e.platform.magicAccessors = ({} : Platform).magicAccessors := by rw [X.admits.platform]
  obtain ⟨vm', hW', X', st⟩ := X.outThrough hlocks q (g := F0 m pc ls rest) rfl rfl rfl (cell := ce) (by rw [hT]; exact hcell) (by rw [hv]; rfl)
    (by obtain ⟨k9, h9, -⟩ := Vm.findClass_spec hcl; exact ⟨k9, h9⟩) (fun z hz => by
      rcases hpass z hz with h | ⟨hz0, nm, hl1, hn1⟩
      · exact Or.inl h
      · obtain ⟨c6, hc6, hcl6⟩ := Cond.classLink_spec hown hl1 e.platform hpl
        obtain ⟨a8, b8, h1, h2, h3⟩ := hn1
        cases Option.some.inj (h1.symm.trans hcl)
        cases Option.some.inj (h2.symm.trans hc6)
        exact Or.inr ⟨hz0, _, hcl6, h3⟩)
  obtain ⟨g₀, hfr⟩ := X'.frames_eq
  have hcell9 : ((T.setVm vm').setFrames (.throwing q :: below)).heap[q]? = some ce := by
    show T.heap[q]? = some ce
    rw [hT]; exact hcell
  have hend : Ended ((T.setVm vm').setFrames (.throwing q :: below)) below (.threw q) := State.frames_setFrames _ (State.cur_lt_of_frames hfr)
  refine ⟨(T.setVm vm').setFrames (.throwing q :: below), ?_, .threw q, X'.here.running, hend, Or.inr ⟨q, rfl, E, ce, locs, hx _ hT (X'.ends _).1.alike, hcell9, hv, hcl, (X'.ends _).1, (X'.ends _).2.mono hc hs, hf⟩⟩
  rw [X.pushThrowing_eq]
  exact st
/-- a thing of a world lies in the heap -/
theorem vx_lt {D : va_G} {cl : List vw_C} {ws : va_W} {H1 : Heap} (h : va_P D cl ws H1) {k : Nat} {q : Nat × va_E} (hk : ws[k]? = some q) : q.1 < H1.size := (h k q hk).lt
end VXS
/-! ===== END ===== -/
/-! ===== BEGIN methods with a table of their own: called by a name, returning or throwing ===== -/
section VXH
/-! vx_backW, vx_callVX, vx_callSX, vx_callVW, vx_runVW, vx_runVX, vx_runSX, vx_ofWH follow the same proofs as their sisters above (Free/Laws.lean, Shelf42/LK1.lean); vx_outP calls Shelf42/NT130.lean (outThrough). -/
section
variable {l : Launch} {R : Room} {p : Program} {e : Env} {below : List Frame} {s : State} {sargs : Array Value} {y : MethodName} {len W9 : Nat}
theorem vx_backW {ws : List Cond} {rm : Room} {Pc : Array Value → State → Prop} {Qc : Array Value → State → Outcome → State → Prop} {XC : String → State → State → Prop} {mc ms : Nat} {free : Addr → Prop} {bytes : ByteArray} {maxL : Nat} {ret : Option FieldType} {hh : List (Nat × Nat × Nat × Nat)}
    (hM : vx_Met l y ws rm Pc Qc XC mc ms free) (hblind : FrameBlind Pc) (hrc : rm.cells = mc) (hrs : rm.slots = ms)
    (hframes : rm.frames + 1 ≤ R.frames) (hlocals : W9 + (maxL + 11) + rm.locals ≤ R.locals)
    (hws : ∀ w ∈ ws, ∀ a' U, s.WarmedH U.vm → w.before a' U = true) (hcode : Cond.codeWith y bytes maxL ret hh ∈ ws) (hinit : ∀ a' U, s.WarmedH U.vm → (Cond.initialized y.cls).before a' U = true) :
    vx_Back l R p e below s sargs y len W9 (PreOf R mc ms Pc) (PostOf Qc mc ms free) (vx_Post XC mc ms free) := by
  intro m meth c A g ig mk a X hg hsize hdg hW hn hp
  have h1 : (headSpec ws rm).pre.before a A.U = true := atoms_intro fun w hw => hws w hw _ _ X.warmed
  have h2 : (Cond.codeWith y bytes maxL ret hh).before a A.U = true := hws _ hcode _ _ X.warmed
  have h3 : (Cond.initialized y.cls).before a A.U = true := hinit _ _ X.warmed
  have h4 : A.cells + (headSpec ws rm).room.cells ≤ R.cells := by rw [show (headSpec ws rm).room.cells = mc from hrc]; exact hp.1
  have h5 : A.slots + (headSpec ws rm).room.slots ≤ R.slots := by rw [show (headSpec ws rm).room.slots = ms from hrs]; exact hp.2.1
  have hPc : Pc a (A.U.calling g mk a) := hblind _ _ _ _ hp.2.2
  obtain ⟨U, Ls, c0, s0⟩ := A
  dsimp only [Pt.U, Pt.locs, Pt.cells, Pt.slots] at h1 h2 h3 h4 h5 X hn hPc ⊢
  obtain ⟨m9, methY, cY, hn9, hmY, hcY, -, hlY, -⟩ := Cond.codeWith_spec h2
  cases Option.some.inj (hn9.symm.trans hn)
  obtain ⟨kY, hkY, -⟩ := className_of_methodNamed hn
  have hinitY : kY.init = .initialized := Cond.initialized_spec (findClass_of_methodNamed hn) hkY h3
  have h : At U g.method c below := by rw [hg]; exact X.here
  have hlocals9 : W9 + (maxL + 11) + (headSpec ws rm).room.locals ≤ R.locals := hlocals
  have happ : (headSpec ws rm).appliesLoose y e.platform (U.calling g mk a) = true :=
    Spec.appliesLoose_calling (g := g) h hdg hn hkY hinitY
      (X.room_calling (g := g) (R' := (headSpec ws rm).room) hsize hmY hcY hframes (by rw [hlY]; omega) h4 h5) h1
  obtain ⟨mid, hmid⟩ := h.above
  have hfr : (U.setTop g).frames = (.java g :: mid) ++ below := by rw [State.frames_setTop' g h.top, hmid]; rfl
  obtain ⟨o, s₂, hsteps, -, hend, hq⟩ := Steps.callFree hM p X.admits X.cas X.clock (acts := []) hfr happ hPc trivial
  have hq' : vx_Q Qc XC mc ms free a (U.calling g mk a) o s₂ := hq
  rw [State.frames_setTop' g h.top] at hend
  obtain ⟨g₀, hg0⟩ := Option.isSome_iff_exists.mp h.top
  obtain ⟨r, hr⟩ := State.topJava?_eq_some.mp hg0
  have hr' : (({ U with heap := s₂.heap, slotsUsed := s₂.slotsUsed } : State).setVm s₂.vm).frames = .java g₀ :: r := hr
  rcases hq' with ⟨hqc, L, hfe, hL⟩ | ⟨q, rfl, E, ce, L, hx, hce, hcv, hcl, hW₂, hsm, hL⟩
  · obtain ⟨⟨v, rfl⟩, hW₂, e2, q2, q3, q4, q5, q6⟩ := id hfe
    have e3 : s₂ = ({ (U.calling g mk a).setFrames s₂.frames with heap := s₂.heap, slotsUsed := s₂.slotsUsed } : State).setVm s₂.vm := by
      have : s₂ = ({ s₂ with vm := (U.calling g mk a).vm } : State).setVm s₂.vm := rfl
      rw [e2] at this
      exact this
    obtain ⟨c₂, i₂, len₂, hc₂, hd₂, hf₂⟩ := hend
    have hW' : U.WarmedH s₂.vm := hW₂
    have hcc : c₂ = c := by
      have h1 : s₂.code? g.method = U.code? g.method := by
        rw [State.code?_eq, State.code?_eq, hW'.alike.method?]
      exact Option.some.inj (hc₂.symm.trans (h1.trans h.code))
    subst hcc
    have hlen : len₂ = len := by rw [hdg] at hd₂; cases hd₂; rfl
    subst hlen
    have hs₂ : s₂ = (({ U with heap := s₂.heap, slotsUsed := s₂.slotsUsed } : State).setVm s₂.vm).setTop { g with pc := g.pc + len₂, stack := v.toList ++ g.stack } := by
      refine e3.trans ?_
      rw [hf₂, State.calling_eq h.top, State.setFrames_setFrames, State.setTop_of_frames _ hr', hr]
      rfl
    have hsame : U.sameButNew ({ U with heap := s₂.heap, slotsUsed := s₂.slotsUsed } : State) L mc ms := by
      refine ⟨?_, q2, q3, q4, q5, q6⟩
      obtain ⟨t, ht, -⟩ := State.frames_cons hr
      show ({ U with heap := s₂.heap, slotsUsed := s₂.slotsUsed } : State) = { U.setFrames U.frames with heap := s₂.heap, slotsUsed := s₂.slotsUsed }
      rw [State.setFrames_self ht]
    subst hg
    refine Or.inl ⟨v, ⟨(({ U with heap := s₂.heap, slotsUsed := s₂.slotsUsed } : State).setVm s₂.vm), Ls ++ L, c0 + mc, s0 + ms⟩,
      ⟨X.admits, X.cas, X.clock, X.frames, X.room, X.hears, X.method, X.code, (X.here.setHeapUsed s₂.heap s₂.slotsUsed).setVm hW'.alike, X.tail, State.WarmedH.trans X.warmed hW', X.limits, X.bytes, X.same.trans (hsame.setVm s.vm)⟩,
      ⟨g, mk, s₂, L, rfl, rfl, hqc, rfl, hL, rfl, rfl⟩, ?_⟩
    show Steps p.tables e below _ ((({ U with heap := s₂.heap, slotsUsed := s₂.slotsUsed } : State).setVm s₂.vm).setTop { g with pc := g.pc + len₂, stack := v.toList ++ g.stack })
    rw [← hs₂]
    exact hsteps
  · obtain ⟨e2, q2, q3, q4, q5, q6⟩ := id hsm
    have e3 : s₂ = ({ (U.calling g mk a).setFrames s₂.frames with heap := s₂.heap, slotsUsed := s₂.slotsUsed } : State).setVm s₂.vm := by
      have : s₂ = ({ s₂ with vm := (U.calling g mk a).vm } : State).setVm s₂.vm := rfl
      rw [e2] at this
      exact this
    have hf₂ : s₂.frames = .throwing q :: .java g :: U.frames.tail := hend
    have hW' : U.WarmedH s₂.vm := hW₂
    have hs₂ : s₂ = ((({ U with heap := s₂.heap, slotsUsed := s₂.slotsUsed } : State).setVm s₂.vm).setTop g).pushFrame (.throwing q) := by
      refine e3.trans ?_
      rw [hf₂, State.calling_eq h.top, State.setFrames_setFrames, State.pushFrame, State.frames_setTop _ hr', State.setTop_of_frames _ hr', State.setFrames_setFrames, hr]
      rfl
    have hsame : U.sameButNew ({ U with heap := s₂.heap, slotsUsed := s₂.slotsUsed } : State) L mc ms := by
      refine ⟨?_, q2, q3, q4, q5, q6⟩
      obtain ⟨t, ht, -⟩ := State.frames_cons hr
      show ({ U with heap := s₂.heap, slotsUsed := s₂.slotsUsed } : State) = { U.setFrames U.frames with heap := s₂.heap, slotsUsed := s₂.slotsUsed }
      rw [State.setFrames_self ht]
    subst hg
    refine Or.inr ⟨q, ⟨(({ U with heap := s₂.heap, slotsUsed := s₂.slotsUsed } : State).setVm s₂.vm), Ls ++ L, c0 + mc, s0 + ms⟩,
      ⟨X.admits, X.cas, X.clock, X.frames, X.room, X.hears, X.method, X.code, (X.here.setHeapUsed s₂.heap s₂.slotsUsed).setVm hW'.alike, X.tail, State.WarmedH.trans X.warmed hW', X.limits, X.bytes, X.same.trans (hsame.setVm s.vm)⟩,
      ⟨g, mk, s₂, L, E, ce, rfl, rfl, hx, hce, hcv, hcl, rfl, hL, rfl, rfl⟩, ?_⟩
    show Steps p.tables e below _ (((({ U with heap := s₂.heap, slotsUsed := s₂.slotsUsed } : State).setVm s₂.vm).setTop g).pushFrame (.throwing q))
    rw [← hs₂]
    exact hsteps
end
variable {p : Program} {l : Launch} {e : Env} {R : Room} {s : State} {m : MethodId} {args : Array Value} {below : List Frame} {meth : Method} {c : Code} {T : State} {H : Heap} {locs : List Loc} {cells slots : Nat}
theorem vx_callVX (X : Stand p l e R s m args below meth c T locs cells slots) (hexec : p.tables.exec = Jvm.exec) {own C : String} {index : Nat} {y : MethodName} {bytes : ByteArray} {maxL : Nat} {ret : Option FieldType} {hh : List (Nat × Nat × Nat × Nat)}
    (hown : s.vm.findClass own = some m.cls) (hlink : (Cond.methodLink own index y).before args s = true) (hinst : (Cond.instanceMethod y).before args s = true) (hsel : (Cond.selects C y y).before args s = true)
    (hcode : (Cond.codeWith y bytes maxL ret hh).before args s = true) (hy : y.cls ≠ "java/lang/invoke/MethodHandle" ∧ y.cls ≠ "java/lang/invoke/VarHandle")
    {W9 : Nat} {Pre : Pt → Array Value → Prop} {Post : Pt → Array Value → Option Value → Pt → Prop} {PostX : Pt → Array Value → Addr → Pt → Prop} (hK : vx_Back l R p e below s args y 3 W9 Pre Post PostX)
    {b : Addr} {cellB : Cell} (hcell : T.heap[b]? = some cellB) (hobj : cellB.vm.isStatics = false) (hcls : s.vm.findClass C = some cellB.cls)
    {g : JFrame} (hg : g.method = m) (hsize : g.locals.size = c.maxLocals) {argsL rest : List Value} (hlen : ∀ sig, parseMethodDescriptor y.desc = some sig → argsL.length = sig.parameters.length)
    (hstack : g.stack = argsL.reverse ++ .ref b :: rest) (hW : 2 * g.monitorRoom + (rest.map fun v => v.category).sum ≤ W9) (hdg : decode c.code g.pc = .ok (.invokevirtual index, 3))
    (hpre : ∀ vm₁, s.WarmedH vm₁ → Pre ⟨T.setVm vm₁, locs, cells, slots⟩ (Value.ref b :: argsL).toArray) :
    (∃ (v : Option Value) (vm₁ : Vm) (B : Pt), s.WarmedH vm₁ ∧ Stand p l e R s m args below meth c B.U B.locs B.cells B.slots ∧ Post ⟨T.setVm vm₁, locs, cells, slots⟩ (Value.ref b :: argsL).toArray v B ∧
      ∀ target, Steps p.tables e below (B.U.setTop { g with pc := g.pc + 3, stack := v.toList ++ rest }) target → Steps p.tables e below (T.setTop g) target) ∨
    (∃ (q : Addr) (vm₁ : Vm) (B : Pt), s.WarmedH vm₁ ∧ Stand p l e R s m args below meth c B.U B.locs B.cells B.slots ∧ PostX ⟨T.setVm vm₁, locs, cells, slots⟩ (Value.ref b :: argsL).toArray q B ∧
      Steps p.tables e below (T.setTop g) ((B.U.setTop { g with stack := rest }).pushFrame (.throwing q))) := by
  obtain ⟨mk, methM, hnamed, hmethM, hstM, habM⟩ := Cond.instanceMethod_spec hinst
  obtain ⟨m8, methM', cM, hn8, hmethM', -, -, -, -, -, -, hsigM⟩ := Cond.codeWith_spec hcode
  cases Option.some.inj (hn8.symm.trans hnamed)
  cases hmethM.symm.trans hmethM'
  obtain ⟨c2, r2, m2, q1, q2, q3, q4, kP, hkP, hkPi⟩ := Cond.selects_spec hsel
  cases hcls.symm.trans q1
  cases (State.methodFound?_of_named hnamed hy).symm.trans q2
  cases hnamed.symm.trans q3
  have hselP : selectMethod e.platform s.vm cellB.cls mk = .method mk := by rw [Launch.admits_selectMethod X.admits]; exact q4
  obtain ⟨vm₁, X₁, hstep₁⟩ := X.invokevirtual hexec hown hlink hnamed hmethM hstM hkP hkPi hy (a := b) (cell := cellB) hcell
    (fun z h => by rw [h] at hobj; cases hobj) hselP hmethM habM hkP hkPi (g := g) hg (argsL := argsL) (rest := rest) (hlen _ hsigM) hstack hdg
  rcases hK m meth c ⟨T.setVm vm₁, locs, cells, slots⟩ { g with stack := rest } (.invokevirtual index) mk (Value.ref b :: argsL).toArray X₁ hg hsize hdg hW (X₁.named hnamed) (hpre vm₁ X₁.warmed) with ⟨v, B, X', hpost, hsteps⟩ | ⟨q, B, X', hpost, hsteps⟩
  · exact Or.inl ⟨v, vm₁, B, X₁.warmed, X', hpost, fun target h => hstep₁ _ fun acts => by rw [doInvoke_state]; exact hsteps.trans h⟩
  · exact Or.inr ⟨q, vm₁, B, X₁.warmed, X', hpost, hstep₁ _ fun acts => by rw [doInvoke_state]; exact hsteps⟩
theorem vx_callSX (X : Stand p l e R s m args below meth c T locs cells slots) (hexec : p.tables.exec = Jvm.exec) {own : String} {index : Nat} {y : MethodName} {bytes : ByteArray} {maxL : Nat} {ret : Option FieldType} {hh : List (Nat × Nat × Nat × Nat)}
    (hown : s.vm.findClass own = some m.cls) (hlink : (Cond.methodLink own index y).before args s = true) (hstat : (Cond.static y).before args s = true) (hinit : (Cond.initialized y.cls).before args s = true)
    (hcode : (Cond.codeWith y bytes maxL ret hh).before args s = true) (hy : y.cls ≠ "java/lang/invoke/MethodHandle" ∧ y.cls ≠ "java/lang/invoke/VarHandle")
    {W9 : Nat} {Pre : Pt → Array Value → Prop} {Post : Pt → Array Value → Option Value → Pt → Prop} {PostX : Pt → Array Value → Addr → Pt → Prop} (hK : vx_Back l R p e below s args y 3 W9 Pre Post PostX)
    {g : JFrame} (hg : g.method = m) (hsize : g.locals.size = c.maxLocals) {argsL rest : List Value} (hlen : ∀ sig, parseMethodDescriptor y.desc = some sig → argsL.length = sig.parameters.length)
    (hstack : g.stack = argsL.reverse ++ rest) (hW : 2 * g.monitorRoom + (rest.map fun v => v.category).sum ≤ W9) (hdg : decode c.code g.pc = .ok (.invokestatic index, 3))
    (hpre : ∀ vm₁, s.WarmedH vm₁ → Pre ⟨T.setVm vm₁, locs, cells, slots⟩ argsL.toArray) :
    (∃ (v : Option Value) (vm₁ : Vm) (B : Pt), s.WarmedH vm₁ ∧ Stand p l e R s m args below meth c B.U B.locs B.cells B.slots ∧ Post ⟨T.setVm vm₁, locs, cells, slots⟩ argsL.toArray v B ∧
      ∀ target, Steps p.tables e below (B.U.setTop { g with pc := g.pc + 3, stack := v.toList ++ rest }) target → Steps p.tables e below (T.setTop g) target) ∨
    (∃ (q : Addr) (vm₁ : Vm) (B : Pt), s.WarmedH vm₁ ∧ Stand p l e R s m args below meth c B.U B.locs B.cells B.slots ∧ PostX ⟨T.setVm vm₁, locs, cells, slots⟩ argsL.toArray q B ∧
      Steps p.tables e below (T.setTop g) ((B.U.setTop { g with stack := rest }).pushFrame (.throwing q))) := by
  obtain ⟨mk, methM, cM, hnamed, hmethM, -, -, -, -, -, -, hsigM⟩ := Cond.codeWith_spec hcode
  have hstatic : methM.isStatic = true := Cond.static_spec hnamed hmethM hstat
  obtain ⟨kP, hkP, -⟩ := className_of_methodNamed hnamed
  have hinitP : kP.init = .initialized := Cond.initialized_spec (findClass_of_methodNamed hnamed) hkP hinit
  obtain ⟨vm₁, X₁, hstep₁⟩ := X.invokestatic hexec hown hlink hnamed hmethM hstatic hkP hinitP hy (g := g) hg (argsL := argsL) (rest := rest) (hlen _ hsigM) hstack hdg
  rcases hK m meth c ⟨T.setVm vm₁, locs, cells, slots⟩ { g with stack := rest } (.invokestatic index) mk argsL.toArray X₁ hg hsize hdg hW (X₁.named hnamed) (hpre vm₁ X₁.warmed) with ⟨v, B, X', hpost, hsteps⟩ | ⟨q, B, X', hpost, hsteps⟩
  · exact Or.inl ⟨v, vm₁, B, X₁.warmed, X', hpost, fun target h => hstep₁ _ fun acts => by rw [doInvoke_state]; exact hsteps.trans h⟩
  · exact Or.inr ⟨q, vm₁, B, X₁.warmed, X', hpost, hstep₁ _ fun acts => by rw [doInvoke_state]; exact hsteps⟩
theorem vx_callVW (X : Stand p l e R s m args below meth c T locs cells slots) (hexec : p.tables.exec = Jvm.exec) {own C : String} {index : Nat} {y : MethodName} {bytes : ByteArray} {maxL : Nat} {ret : Option FieldType} {hh : List (Nat × Nat × Nat × Nat)}
    (hown : s.vm.findClass own = some m.cls) (hlink : (Cond.methodLink own index y).before args s = true) (hinst : (Cond.instanceMethod y).before args s = true) (hsel : (Cond.selects C y y).before args s = true)
    (hcode : (Cond.codeWith y bytes maxL ret hh).before args s = true) (hy : y.cls ≠ "java/lang/invoke/MethodHandle" ∧ y.cls ≠ "java/lang/invoke/VarHandle")
    {W9 : Nat} {Pre : Pt → Array Value → Prop} {Post : Pt → Array Value → Option Value → Pt → Prop} (hK : Back l R p e below s args y 3 W9 Pre Post)
    {b : Addr} {cellB : Cell} (hcell : T.heap[b]? = some cellB) (hobj : cellB.vm.isStatics = false) (hcls : s.vm.findClass C = some cellB.cls)
    {g : JFrame} (hg : g.method = m) (hsize : g.locals.size = c.maxLocals) {argsL rest : List Value} (hlen : ∀ sig, parseMethodDescriptor y.desc = some sig → argsL.length = sig.parameters.length)
    (hstack : g.stack = argsL.reverse ++ .ref b :: rest) (hW : 2 * g.monitorRoom + (rest.map fun v => v.category).sum ≤ W9) (hdg : decode c.code g.pc = .ok (.invokevirtual index, 3))
    (hpre : ∀ vm₁, s.WarmedH vm₁ → Pre ⟨T.setVm vm₁, locs, cells, slots⟩ (Value.ref b :: argsL).toArray) :
    ∃ (v : Option Value) (vm₁ : Vm) (B : Pt), s.WarmedH vm₁ ∧ Stand p l e R s m args below meth c B.U B.locs B.cells B.slots ∧ Post ⟨T.setVm vm₁, locs, cells, slots⟩ (Value.ref b :: argsL).toArray v B ∧
      ∀ target, Steps p.tables e below (B.U.setTop { g with pc := g.pc + 3, stack := v.toList ++ rest }) target → Steps p.tables e below (T.setTop g) target := by
  obtain ⟨mk, methM, hnamed, hmethM, hstM, habM⟩ := Cond.instanceMethod_spec hinst
  obtain ⟨m8, methM', cM, hn8, hmethM', -, -, -, -, -, -, hsigM⟩ := Cond.codeWith_spec hcode
  cases Option.some.inj (hn8.symm.trans hnamed)
  cases hmethM.symm.trans hmethM'
  obtain ⟨c2, r2, m2, q1, q2, q3, q4, kP, hkP, hkPi⟩ := Cond.selects_spec hsel
  cases hcls.symm.trans q1
  cases (State.methodFound?_of_named hnamed hy).symm.trans q2
  cases hnamed.symm.trans q3
  have hselP : selectMethod e.platform s.vm cellB.cls mk = .method mk := by rw [Launch.admits_selectMethod X.admits]; exact q4
  obtain ⟨vm₁, X₁, hstep₁⟩ := X.invokevirtual hexec hown hlink hnamed hmethM hstM hkP hkPi hy (a := b) (cell := cellB) hcell
    (fun z h => by rw [h] at hobj; cases hobj) hselP hmethM habM hkP hkPi (g := g) hg (argsL := argsL) (rest := rest) (hlen _ hsigM) hstack hdg
  obtain ⟨v, B, X', hpost, hsteps⟩ := hK m meth c ⟨T.setVm vm₁, locs, cells, slots⟩ { g with stack := rest } (.invokevirtual index) mk (Value.ref b :: argsL).toArray X₁ hg hsize hdg hW (X₁.named hnamed) (hpre vm₁ X₁.warmed)
  exact ⟨v, vm₁, B, X₁.warmed, X', hpost, fun target h => hstep₁ _ fun acts => by rw [doInvoke_state]; exact hsteps.trans h⟩
abbrev vx_CVW (R : Room) (s : State) (args : Array Value) (own C : String) (index : Nat) (y : MethodName) (bytes : ByteArray) (maxL : Nat) (ret : Option FieldType) (hh : List (Nat × Nat × Nat × Nat)) (ws : List Cond) (rm : Room) (mc ms n : Nat) : Prop :=
  (rm.cells = mc ∧ rm.slots = ms ∧ rm.frames + 1 ≤ R.frames ∧ 8 + (maxL + 11) + rm.locals ≤ R.locals ∧ (∀ w ∈ ws, ∀ (a' : Array Value) (U : State), s.WarmedH U.vm → w.before a' U = true) ∧ Cond.codeWith y bytes maxL ret hh ∈ ws) ∧
  (Cond.codeWith y bytes maxL ret hh).before args s = true ∧ (Cond.initialized y.cls).before args s = true ∧ (y.cls ≠ "java/lang/invoke/MethodHandle" ∧ y.cls ≠ "java/lang/invoke/VarHandle") ∧
  (∀ sig, parseMethodDescriptor y.desc = some sig → n = sig.parameters.length) ∧ (Cond.methodLink own index y).before args s = true ∧ (Cond.instanceMethod y).before args s = true ∧ (Cond.selects C y y).before args s = true
theorem vx_cwVW {own C : String} {index maxL mc ms : Nat} {y : MethodName} {bytes : ByteArray} {ret : Option FieldType} {hh : List (Nat × Nat × Nat × Nat)} {Ts ws ws' : List Cond} {rm : Room} (n : Nat) (ht : ∀ w ∈ Ts, w.before args s = true) (hT : GoodIn Ts (wsV own index C y ws)) (hw : ws = Cond.codeWith y bytes maxL ret hh :: ws') (hrc : rm.cells = mc) (hrs : rm.slots = ms)
    (hd : y.cls = C ∧ y.cls ≠ "java/lang/invoke/MethodHandle" ∧ y.cls ≠ "java/lang/invoke/VarHandle" ∧ (parseMethodDescriptor y.desc).map (fun d => d.parameters.length) = some n) (hR : rm.frames + 1 ≤ R.frames ∧ 8 + (maxL + 11) + rm.locals ≤ R.locals) :
    vx_CVW R s args own C index y bytes maxL ret hh ws rm mc ms n := by
  obtain ⟨hC, hd⟩ := hd
  subst hC
  have ok : ∀ w ∈ wsV own index y.cls y ws, w.before args s = true := fun w h => ht w (hT w h).1
  have hG : GoodIn Ts ws := fun w h => hT w (by unfold wsV; exact List.mem_append_right _ h)
  have hc : Cond.codeWith y bytes maxL ret hh ∈ ws := by rw [hw]; exact List.mem_cons_self
  refine ⟨⟨hrc, hrs, hR.1, hR.2, pay_in ht hG, hc⟩, ht _ (hG _ hc).1, ok _ (by simp [wsV]), ⟨hd.1, hd.2.1⟩, fun sig h => ?_, ok _ (by simp [wsV]), ok _ (by simp [wsV]), ok _ (by simp [wsV])⟩
  have h2 := hd.2.2
  rw [h] at h2
  exact (Option.some.inj h2).symm
theorem vx_runVW {y : MethodName} {bytes cc : ByteArray} {maxL nL mc ms n index : Nat} {ret : Option FieldType} {hh : List (Nat × Nat × Nat × Nat)} {ws : List Cond} {rm : Room} {Pc : Array Value → State → Prop} {Qc : Array Value → State → Outcome → State → Prop} {free : Addr → Prop} {Ts : List Cond} {own C : String} {b : Addr} {As rest : List Value} {g : JFrame}
    (S : CallFix p m c cc nL s args Ts own) (hM : Met l y ws rm Pc Qc mc ms free) (cw : vx_CVW R s args own C index y bytes maxL ret hh ws rm mc ms n) (hp : PreV s H C b Pc As)
    (hg : g.method = m) (hn : As.length = n) (hsize : g.locals.size = nL) (hstack : g.stack = As.reverse ++ .ref b :: rest) (hW : 2 * g.monitorRoom + (rest.map fun v => v.category).sum ≤ 8) (hdg : decode cc g.pc = .ok (.invokevirtual index, 3)) (hf : cells + mc ≤ R.cells ∧ slots + ms ≤ R.slots) :
    va_Run p l e R s m args below meth c H locs cells slots mc ms g rest (Qc (Value.ref b :: As).toArray) free := by
  obtain ⟨⟨hrc, hrs, hfr, hlo, hws, hcw⟩, hcode, hini, hy, hlen, hl, hin, hse⟩ := cw
  have hK : Back l R p e below s args y 3 8 (PreOf R mc ms Pc) (PostOf Qc mc ms free) := va_backW (hh := hh) (bytes := bytes) (maxL := maxL) (ret := ret) hM hp.1 hrc hrs hfr hlo hws hcw (fun a' U hW => word_at hW (Or.inl (by first | rfl | simp [Cond.onTables, Cond.keeps, Cond.steady])) hini)
  obtain ⟨hx, hb, hml, ho, -⟩ := S
  obtain ⟨-, ⟨cellB, hcB, hoB, hclB⟩, hPc⟩ := hp
  intro T hT X
  obtain ⟨v, vm₁, ⟨U', l2, c2, s2⟩, hW₁, X', ⟨g', mk, t, L, e1, e2, hq, h1, hL, h2, h3⟩, st⟩ := vx_callVW X hx (C := C) (hh := hh) (bytes := bytes) (maxL := maxL) (ret := ret) ho hl hin hse hcode hy hK (by rw [hT]; exact hcB) hoB hclB hg (hsize.trans hml.symm) (argsL := As) (rest := rest) (fun sig h => hn.trans (hlen sig h)) hstack hW (by rw [hb]; exact hdg)
    (fun vm₁ hW₁ => ⟨hf.1, hf.2, hPc (T.setVm vm₁) hT hW₁⟩)
  dsimp only [Pt.U, Pt.locs, Pt.cells, Pt.slots] at X' e1 e2 h1 h2 h3 st
  subst h1; subst h2; subst h3
  exact ⟨v, (T.setVm vm₁).calling g' mk (Value.ref b :: As).toArray, t, U', L, hT, X', hL, e1, e2, hq, st⟩
section
variable {y : MethodName} {bytes cc : ByteArray} {maxL nL mc ms n index : Nat} {ret : Option FieldType} {ws : List Cond} {rm : Room} {Pc : Array Value → State → Prop} {Qc : Array Value → State → Outcome → State → Prop} {XC : String → State → State → Prop} {free : Addr → Prop} {Ts : List Cond} {own C : String} {b : Addr} {As rest : List Value} {g : JFrame}
theorem vx_runVX {hh : List (Nat × Nat × Nat × Nat)} (S : CallFix p m c cc nL s args Ts own) (hM : vx_Met l y ws rm Pc Qc XC mc ms free) (cw : vx_CVW R s args own C index y bytes maxL ret hh ws rm mc ms n) (hp : PreV s H C b Pc As)
    (hg : g.method = m) (hn : As.length = n) (hsize : g.locals.size = nL) (hstack : g.stack = As.reverse ++ .ref b :: rest) (hW : 2 * g.monitorRoom + (rest.map fun v => v.category).sum ≤ 8) (hdg : decode cc g.pc = .ok (.invokevirtual index, 3)) (hf : cells + mc ≤ R.cells ∧ slots + ms ≤ R.slots) :
    vx_Run p l e R s m args below meth c H locs cells slots mc ms g rest (Qc (Value.ref b :: As).toArray) XC free := by
  obtain ⟨⟨hrc, hrs, hfr, hlo, hws, hcw⟩, hcode, hini, hy, hlen, hl, hin, hse⟩ := cw
  have hK : vx_Back l R p e below s args y 3 8 (PreOf R mc ms Pc) (PostOf Qc mc ms free) (vx_Post XC mc ms free) := vx_backW (hh := hh) (bytes := bytes) (maxL := maxL) (ret := ret) hM hp.1 hrc hrs hfr hlo hws hcw (fun a' U hW => word_at hW (Or.inl (by first | rfl | simp [Cond.onTables, Cond.keeps, Cond.steady])) hini)
  obtain ⟨hx, hb, hml, ho, -⟩ := S
  obtain ⟨-, ⟨cellB, hcB, hoB, hclB⟩, hPc⟩ := hp
  intro T hT X
  rcases vx_callVX X hx (C := C) (hh := hh) (bytes := bytes) (maxL := maxL) (ret := ret) ho hl hin hse hcode hy hK (by rw [hT]; exact hcB) hoB hclB hg (hsize.trans hml.symm) (argsL := As) (rest := rest) (fun sig h => hn.trans (hlen sig h)) hstack hW (by rw [hb]; exact hdg)
    (fun vm₁ hW₁ => ⟨hf.1, hf.2, hPc (T.setVm vm₁) hT hW₁⟩) with ⟨v, vm₁, ⟨U', l2, c2, s2⟩, hW₁, X', ⟨g', mk, t, L, e1, e2, hq, h1, hL, h2, h3⟩, st⟩ | ⟨q, vm₁, ⟨U', l2, c2, s2⟩, hW₁, X', ⟨g', mk, t, L, E, ce, e1, e2, hq, hce, hcv, hcl, h1, hL, h2, h3⟩, st⟩
  · dsimp only [Pt.U, Pt.locs, Pt.cells, Pt.slots] at X' e1 e2 h1 h2 h3 st
    subst h1; subst h2; subst h3
    exact Or.inl ⟨v, (T.setVm vm₁).calling g' mk (Value.ref b :: As).toArray, t, U', L, hT, X', hL, e1, e2, hq, st⟩
  · dsimp only [Pt.U, Pt.locs, Pt.cells, Pt.slots] at X' e1 e2 h1 h2 h3 st hcl
    subst h1; subst h2; subst h3
    exact Or.inr ⟨q, (T.setVm vm₁).calling g' mk (Value.ref b :: As).toArray, t, U', L, E, ce, hT, X', hL, e1, e2, hq, hce, hcv, vx_cls hW₁ hcl, st⟩
theorem vx_runSX {hh : List (Nat × Nat × Nat × Nat)} (S : CallFix p m c cc nL s args Ts own) (hM : vx_Met l y ws rm Pc Qc XC mc ms free) (cw : vx_CSW R s args own index y bytes maxL ret hh ws rm mc ms n) (hp : PreS s H Pc As)
    (hg : g.method = m) (hn : As.length = n) (hsize : g.locals.size = nL) (hstack : g.stack = As.reverse ++ rest) (hW : 2 * g.monitorRoom + (rest.map fun v => v.category).sum ≤ 8) (hdg : decode cc g.pc = .ok (.invokestatic index, 3)) (hf : cells + mc ≤ R.cells ∧ slots + ms ≤ R.slots) :
    vx_Run p l e R s m args below meth c H locs cells slots mc ms g rest (Qc As.toArray) XC free := by
  obtain ⟨⟨hrc, hrs, hfr, hlo, hws, hcw⟩, hcode, hini, hy, hlen, hl, hstt⟩ := cw
  have hK : vx_Back l R p e below s args y 3 8 (PreOf R mc ms Pc) (PostOf Qc mc ms free) (vx_Post XC mc ms free) := vx_backW (hh := hh) (bytes := bytes) (maxL := maxL) (ret := ret) hM hp.1 hrc hrs hfr hlo hws hcw (fun a' U hW => word_at hW (Or.inl (by first | rfl | simp [Cond.onTables, Cond.keeps, Cond.steady])) hini)
  obtain ⟨hx, hb, hml, ho, -⟩ := S
  intro T hT X
  rcases vx_callSX X hx (hh := hh) (bytes := bytes) (maxL := maxL) (ret := ret) ho hl hstt hini hcode hy hK hg (hsize.trans hml.symm) (argsL := As) (rest := rest) (fun sig h => hn.trans (hlen sig h)) hstack hW (by rw [hb]; exact hdg)
    (fun vm₁ hW₁ => ⟨hf.1, hf.2, hp.2 (T.setVm vm₁) hT hW₁⟩) with ⟨v, vm₁, ⟨U', l2, c2, s2⟩, hW₁, X', ⟨g', mk, t, L, e1, e2, hq, h1, hL, h2, h3⟩, st⟩ | ⟨q, vm₁, ⟨U', l2, c2, s2⟩, hW₁, X', ⟨g', mk, t, L, E, ce, e1, e2, hq, hce, hcv, hcl, h1, hL, h2, h3⟩, st⟩
  · dsimp only [Pt.U, Pt.locs, Pt.cells, Pt.slots] at X' e1 e2 h1 h2 h3 st
    subst h1; subst h2; subst h3
    exact Or.inl ⟨v, (T.setVm vm₁).calling g' mk As.toArray, t, U', L, hT, X', hL, e1, e2, hq, st⟩
  · dsimp only [Pt.U, Pt.locs, Pt.cells, Pt.slots] at X' e1 e2 h1 h2 h3 st hcl
    subst h1; subst h2; subst h3
    exact Or.inr ⟨q, (T.setVm vm₁).calling g' mk As.toArray, t, U', L, E, ce, hT, X', hL, e1, e2, hq, hce, hcv, vx_cls hW₁ hcl, st⟩
end
end VXH
theorem vx_ofWH {l : Launch} {y : MethodName} {ws ws' : List Cond} {rm : Room} {Pc : Array Value → State → Prop} {Qc : Array Value → State → Outcome → State → Prop} {XC : String → State → State → Prop} {mc ms : Nat} {free : Addr → Prop} {cc : ByteArray} {maxL : Nat} {ret : Option FieldType} {hh : List (Nat × Nat × Nat × Nat)}
    (hy : plainName y.cls = true) (hw : ws = Cond.codeWith y cc maxL ret hh :: ws')
    (body : ∀ p e s m args below meth c s₁, BodyLoose p l y (headSpec ws rm) cc maxL ret e s m args below meth c s₁ → c.maxLocals = maxL → Pc args s →
      W p l e (headSpec ws rm).room s m args below meth c s.heap [] 0 0 (vx_MQ below Qc XC args s mc ms free) (entryFrame m args maxL)) : vx_Met l y ws rm Pc Qc XC mc ms free := by
  refine MetFree.of_bodyS (code := cc) (maxLocals := maxL) (ret := ret) hy ?_ ?_
  · intro args s m h hn
    obtain ⟨m9, meth, c, hn9, h1, h2, h3, h4, -, h5, h6, -⟩ := Cond.codeWith_spec (atoms_spec (ws := ws) h _ (by rw [hw]; exact List.mem_cons_self))
    cases hn.symm.trans hn9
    exact ⟨meth, c, h1, h2, h3, h4, h5, h6⟩
  · intro p e s m args below meth c s₁ B hml hP _
    have hh0 : s₁.heap = s.heap := by rw [B.state]; rfl
    obtain ⟨t, a1, o, b1, b2, b3⟩ := body p e s m args below meth c s₁ B hml hP s₁ hh0 (Stand.of_body B)
    exact ⟨t, o, a1, b1, b2, b3⟩
/-! ===== END ===== -/
end
section
/-! ===== BEGIN printed: names, fields, word lists, decode rows ===== -/
def RX0 : String := "HexRooms$Plan"
def TX0 : u_T := fun k => match k with
  | 0 => ("HexRooms$Plan", "acrosses", "[I", true)
  | 1 => ("HexRooms$Plan", "downs", "[I", true)
  | 2 => ("HexRooms$Plan", "rings", "[I", true)
  | 3 => ("HexRooms$Plan", "cells", "[I", true)
  | _ => ("HexRooms$Plan", "neighbours", "[I", true)
def tyX0 : Nat → FieldType := fun k => match k with
  | 0 => .array .int
  | 1 => .array .int
  | 2 => .array .int
  | 3 => .array .int
  | _ => .array .int
abbrev wsX00 : List Cond := u_ws RX0 TX0 5
theorem nmX0 : ∀ a, a < 5 → ∀ b, b < 5 → a ≠ b → (TX0 a).2.1 ≠ (TX0 b).2.1 := by decide +kernel
theorem tyX0_ok : ∀ k, k < 5 → parseFieldDescriptor (TX0 k).2.2.1 = some (tyX0 k) := by decide +kernel
abbrev cX0_init : ByteArray := prog_2_method_1_code
def yX0_init : MethodName := ⟨RX0, "<init>", "()V"⟩
abbrev cX0_firstRoomOf : ByteArray := prog_2_method_2_code
def yX0_firstRoomOf : MethodName := ⟨RX0, "firstRoomOf", "(I)I"⟩
abbrev cX0_sizeOf : ByteArray := prog_2_method_3_code
def yX0_sizeOf : MethodName := ⟨RX0, "sizeOf", "(I)I"⟩
abbrev cX0_acrossOf : ByteArray := prog_2_method_4_code
def yX0_acrossOf : MethodName := ⟨RX0, "acrossOf", "(I)I"⟩
abbrev cX0_downOf : ByteArray := prog_2_method_5_code
def yX0_downOf : MethodName := ⟨RX0, "downOf", "(I)I"⟩
abbrev cX0_ringOf : ByteArray := prog_2_method_6_code
def yX0_ringOf : MethodName := ⟨RX0, "ringOf", "(I)I"⟩
abbrev cX0_nextTo : ByteArray := prog_2_method_7_code
def yX0_nextTo : MethodName := ⟨RX0, "nextTo", "(II)I"⟩
abbrev cX0_roomAt : ByteArray := prog_2_method_8_code
def yX0_roomAt : MethodName := ⟨RX0, "roomAt", "(II)I"⟩
abbrev cX0_isOnPlan : ByteArray := prog_2_method_9_code
def yX0_isOnPlan : MethodName := ⟨RX0, "isOnPlan", "(I)Z"⟩
abbrev cX0_cellOf : ByteArray := prog_2_method_10_code
def yX0_cellOf : MethodName := ⟨RX0, "cellOf", "(II)I"⟩
abbrev cX0_placeRing : ByteArray := prog_2_method_11_code
def yX0_placeRing : MethodName := ⟨RX0, "placeRing", "(I)V"⟩
abbrev cX0_placeRoom : ByteArray := prog_2_method_12_code
def yX0_placeRoom : MethodName := ⟨RX0, "placeRoom", "(IIII)V"⟩
abbrev cX0_joinRooms : ByteArray := prog_2_method_13_code
def yX0_joinRooms : MethodName := ⟨RX0, "joinRooms", "()V"⟩
def RX1 : String := "HexRooms"
def TX1 : u_T := fun k => match k with
  | 0 => ("HexRooms", "plan", "LHexRooms$Plan;", true)
  | 1 => ("HexRooms", "floors", "[I", true)
  | 2 => ("HexRooms", "shutDoors", "[Z", true)
  | 3 => ("HexRooms", "light", "[I", true)
  | 4 => ("HexRooms", "trialFloors", "[I", true)
  | 5 => ("HexRooms", "trialLight", "[I", true)
  | 6 => ("HexRooms", "beam", "[I", true)
  | 7 => ("HexRooms", "stepsTo", "[I", true)
  | 8 => ("HexRooms", "queue", "[I", true)
  | 9 => ("HexRooms", "rings", "I", false)
  | _ => ("HexRooms", "rooms", "I", false)
def tyX1 : Nat → FieldType := fun k => match k with
  | 0 => .object "HexRooms$Plan"
  | 1 => .array .int
  | 2 => .array .boolean
  | 3 => .array .int
  | 4 => .array .int
  | 5 => .array .int
  | 6 => .array .int
  | 7 => .array .int
  | 8 => .array .int
  | 9 => .int
  | _ => .int
abbrev wsX10 : List Cond := u_ws RX1 TX1 11
theorem nmX1 : ∀ a, a < 11 → ∀ b, b < 11 → a ≠ b → (TX1 a).2.1 ≠ (TX1 b).2.1 := by decide +kernel
theorem tyX1_ok : ∀ k, k < 11 → parseFieldDescriptor (TX1 k).2.2.1 = some (tyX1 k) := by decide +kernel
abbrev cX1_init : ByteArray := prog_1_method_1_code
def yX1_init : MethodName := ⟨RX1, "<init>", "()V"⟩
abbrev cX1_setRings : ByteArray := prog_1_method_2_code
def yX1_setRings : MethodName := ⟨RX1, "setRings", "(I)I"⟩
abbrev cX1_put : ByteArray := prog_1_method_3_code
def yX1_put : MethodName := ⟨RX1, "put", "(II)I"⟩
abbrev cX1_shut : ByteArray := prog_1_method_4_code
def yX1_shut : MethodName := ⟨RX1, "shut", "(IIZ)Z"⟩
abbrev cX1_turn : ByteArray := prog_1_method_5_code
def yX1_turn : MethodName := ⟨RX1, "turn", "(II)I"⟩
abbrev cX1_turnAll : ByteArray := prog_1_method_6_code
def yX1_turnAll : MethodName := ⟨RX1, "turnAll", "(I)I"⟩
abbrev cX1_at : ByteArray := prog_1_method_7_code
def yX1_at : MethodName := ⟨RX1, "at", "(II)I"⟩
abbrev cX1_about : ByteArray := prog_1_method_8_code
def yX1_about : MethodName := ⟨RX1, "about", "(II)I"⟩
abbrev cX1_beside : ByteArray := prog_1_method_9_code
def yX1_beside : MethodName := ⟨RX1, "beside", "(II)I"⟩
abbrev cX1_isShut : ByteArray := prog_1_method_10_code
def yX1_isShut : MethodName := ⟨RX1, "isShut", "(II)Z"⟩
abbrev cX1_far : ByteArray := prog_1_method_11_code
def yX1_far : MethodName := ⟨RX1, "far", "(II)I"⟩
abbrev cX1_sees : ByteArray := prog_1_method_12_code
def yX1_sees : MethodName := ⟨RX1, "sees", "(II)Z"⟩
abbrev cX1_way : ByteArray := prog_1_method_13_code
def yX1_way : MethodName := ⟨RX1, "way", "(II)I"⟩
abbrev cX1_side : ByteArray := prog_1_method_14_code
def yX1_side : MethodName := ⟨RX1, "side", "(II)I"⟩
abbrev cX1_reach : ByteArray := prog_1_method_15_code
def yX1_reach : MethodName := ⟨RX1, "reach", "(II)I"⟩
abbrev cX1_ring : ByteArray := prog_1_method_16_code
def yX1_ring : MethodName := ⟨RX1, "ring", "(II)I"⟩
abbrev cX1_count : ByteArray := prog_1_method_17_code
def yX1_count : MethodName := ⟨RX1, "count", "(I)I"⟩
abbrev cX1_sixthsToSame : ByteArray := prog_1_method_18_code
def yX1_sixthsToSame : MethodName := ⟨RX1, "sixthsToSame", "()I"⟩
abbrev cX1_would : ByteArray := prog_1_method_19_code
def yX1_would : MethodName := ⟨RX1, "would", "(II)I"⟩
abbrev cX1_advise : ByteArray := prog_1_method_20_code
def yX1_advise : MethodName := ⟨RX1, "advise", "(I)I"⟩
abbrev cX1_best : ByteArray := prog_1_method_21_code
def yX1_best : MethodName := ⟨RX1, "best", "()I"⟩
abbrev cX1_mean : ByteArray := prog_1_method_22_code
def yX1_mean : MethodName := ⟨RX1, "mean", "()D"⟩
abbrev cX1_digest : ByteArray := prog_1_method_23_code
def yX1_digest : MethodName := ⟨RX1, "digest", "()J"⟩
abbrev cX1_needRoom : ByteArray := prog_1_method_24_code
def yX1_needRoom : MethodName := ⟨RX1, "needRoom", "(I)V"⟩
abbrev cX1_needRing : ByteArray := prog_1_method_25_code
def yX1_needRing : MethodName := ⟨RX1, "needRing", "(I)V"⟩
abbrev cX1_needIndex : ByteArray := prog_1_method_26_code
def yX1_needIndex : MethodName := ⟨RX1, "needIndex", "(II)V"⟩
abbrev cX1_needNumber : ByteArray := prog_1_method_27_code
def yX1_needNumber : MethodName := ⟨RX1, "needNumber", "(III)V"⟩
abbrev cX1_needDoor : ByteArray := prog_1_method_28_code
def yX1_needDoor : MethodName := ⟨RX1, "needDoor", "(II)I"⟩
abbrev cX1_build : ByteArray := prog_1_method_29_code
def yX1_build : MethodName := ⟨RX1, "build", "(I)V"⟩
abbrev cX1_orNone : ByteArray := prog_1_method_30_code
def yX1_orNone : MethodName := ⟨RX1, "orNone", "(I)I"⟩
abbrev cX1_neighbour : ByteArray := prog_1_method_31_code
def yX1_neighbour : MethodName := ⟨RX1, "neighbour", "(II)I"⟩
abbrev cX1_opposite : ByteArray := prog_1_method_32_code
def yX1_opposite : MethodName := ⟨RX1, "opposite", "(I)I"⟩
abbrev cX1_doorOf : ByteArray := prog_1_method_33_code
def yX1_doorOf : MethodName := ⟨RX1, "doorOf", "(II)I"⟩
abbrev cX1_onward : ByteArray := prog_1_method_34_code
def yX1_onward : MethodName := ⟨RX1, "onward", "([III)I"⟩
abbrev cX1_sidesOnward : ByteArray := prog_1_method_35_code
def yX1_sidesOnward : MethodName := ⟨RX1, "sidesOnward", "(I)I"⟩
abbrev cX1_standing : ByteArray := prog_1_method_36_code
def yX1_standing : MethodName := ⟨RX1, "standing", "(III)I"⟩
abbrev cX1_litAmong : ByteArray := prog_1_method_37_code
def yX1_litAmong : MethodName := ⟨RX1, "litAmong", "([III)I"⟩
abbrev cX1_doorsShut : ByteArray := prog_1_method_38_code
def yX1_doorsShut : MethodName := ⟨RX1, "doorsShut", "()I"⟩
abbrev cX1_parts : ByteArray := prog_1_method_39_code
def yX1_parts : MethodName := ⟨RX1, "parts", "()I"⟩
abbrev cX1_relight : ByteArray := prog_1_method_40_code
def yX1_relight : MethodName := ⟨RX1, "relight", "()I"⟩
abbrev cX1_shine : ByteArray := prog_1_method_41_code
def yX1_shine : MethodName := ⟨RX1, "shine", "([I[I)I"⟩
abbrev cX1_beamFrom : ByteArray := prog_1_method_42_code
def yX1_beamFrom : MethodName := ⟨RX1, "beamFrom", "([II)I"⟩
abbrev cX1_newlyLitFrom : ByteArray := prog_1_method_43_code
def yX1_newlyLitFrom : MethodName := ⟨RX1, "newlyLitFrom", "(I)I"⟩
abbrev cX1_stepsBetween : ByteArray := prog_1_method_44_code
def yX1_stepsBetween : MethodName := ⟨RX1, "stepsBetween", "(II)I"⟩
abbrev cX1_forgetSteps : ByteArray := prog_1_method_45_code
def yX1_forgetSteps : MethodName := ⟨RX1, "forgetSteps", "()V"⟩
abbrev cX1_spreadFrom : ByteArray := prog_1_method_46_code
def yX1_spreadFrom : MethodName := ⟨RX1, "spreadFrom", "(I)V"⟩
abbrev cX1_turnRingInto : ByteArray := prog_1_method_47_code
def yX1_turnRingInto : MethodName := ⟨RX1, "turnRingInto", "(II[I)V"⟩
abbrev cX1_turnAllInto : ByteArray := prog_1_method_48_code
def yX1_turnAllInto : MethodName := ⟨RX1, "turnAllInto", "(I[I)V"⟩
abbrev cX1_isTrialAsNow : ByteArray := prog_1_method_49_code
def yX1_isTrialAsNow : MethodName := ⟨RX1, "isTrialAsNow", "()Z"⟩
abbrev cX1_litAfterTurn : ByteArray := prog_1_method_50_code
def yX1_litAfterTurn : MethodName := ⟨RX1, "litAfterTurn", "(II)I"⟩
def RX2 : String := "HexRoomsModel"
def TX2 : u_T := fun k => match k with
  | 0 => ("HexRoomsModel", "thrown", "I", false)
  | 1 => ("HexRoomsModel", "rings", "I", false)
  | 2 => ("HexRoomsModel", "rooms", "I", false)
  | 3 => ("HexRoomsModel", "across", "[I", true)
  | 4 => ("HexRoomsModel", "down", "[I", true)
  | 5 => ("HexRoomsModel", "of", "[I", true)
  | 6 => ("HexRoomsModel", "floor", "[I", true)
  | 7 => ("HexRoomsModel", "grid", "[I", true)
  | 8 => ("HexRoomsModel", "isShut", "[Z", true)
  | 9 => ("HexRoomsModel", "light", "[I", true)
  | 10 => ("HexRoomsModel", "far", "[I", true)
  | 11 => ("HexRoomsModel", "line", "[I", true)
  | _ => ("HexRoomsModel", "moved", "[I", true)
def tyX2 : Nat → FieldType := fun k => match k with
  | 0 => .int
  | 1 => .int
  | 2 => .int
  | 3 => .array .int
  | 4 => .array .int
  | 5 => .array .int
  | 6 => .array .int
  | 7 => .array .int
  | 8 => .array .boolean
  | 9 => .array .int
  | 10 => .array .int
  | 11 => .array .int
  | _ => .array .int
abbrev wsX20 : List Cond := u_ws RX2 TX2 13
theorem nmX2 : ∀ a, a < 13 → ∀ b, b < 13 → a ≠ b → (TX2 a).2.1 ≠ (TX2 b).2.1 := by decide +kernel
theorem tyX2_ok : ∀ k, k < 13 → parseFieldDescriptor (TX2 k).2.2.1 = some (tyX2 k) := by decide +kernel
abbrev cX2_init : ByteArray := prog_4_method_1_code
def yX2_init : MethodName := ⟨RX2, "<init>", "()V"⟩
abbrev cX2_thrown : ByteArray := prog_4_method_2_code
def yX2_thrown : MethodName := ⟨RX2, "thrown", "()I"⟩
abbrev cX2_fail : ByteArray := prog_4_method_3_code
def yX2_fail : MethodName := ⟨RX2, "fail", "(I)I"⟩
abbrev cX2_isIn : ByteArray := prog_4_method_4_code
def yX2_isIn : MethodName := ⟨RX2, "isIn", "(III)Z"⟩
abbrev cX2_isRoom : ByteArray := prog_4_method_5_code
def yX2_isRoom : MethodName := ⟨RX2, "isRoom", "(I)Z"⟩
abbrev cX2_isSide : ByteArray := prog_4_method_6_code
def yX2_isSide : MethodName := ⟨RX2, "isSide", "(I)Z"⟩
abbrev cX2_isRing : ByteArray := prog_4_method_7_code
def yX2_isRing : MethodName := ⟨RX2, "isRing", "(I)Z"⟩
abbrev cX2_add : ByteArray := prog_4_method_8_code
def yX2_add : MethodName := ⟨RX2, "add", "(III)V"⟩
abbrev cX2_build : ByteArray := prog_4_method_9_code
def yX2_build : MethodName := ⟨RX2, "build", "(I)V"⟩
abbrev cX2_found : ByteArray := prog_4_method_10_code
def yX2_found : MethodName := ⟨RX2, "found", "(II)I"⟩
abbrev cX2_next : ByteArray := prog_4_method_11_code
def yX2_next : MethodName := ⟨RX2, "next", "(II)I"⟩
abbrev cX2_on : ByteArray := prog_4_method_12_code
def yX2_on : MethodName := ⟨RX2, "on", "(II)I"⟩
abbrev cX2_size : ByteArray := prog_4_method_13_code
def yX2_size : MethodName := ⟨RX2, "size", "(I)I"⟩
abbrev cX2_first : ByteArray := prog_4_method_14_code
def yX2_first : MethodName := ⟨RX2, "first", "(I)I"⟩
abbrev cX2_shine : ByteArray := prog_4_method_15_code
def yX2_shine : MethodName := ⟨RX2, "shine", "(I)V"⟩
abbrev cX2_lit : ByteArray := prog_4_method_16_code
def yX2_lit : MethodName := ⟨RX2, "lit", "()I"⟩
abbrev cX2_move : ByteArray := prog_4_method_17_code
def yX2_move : MethodName := ⟨RX2, "move", "(II)V"⟩
abbrev cX2_setRings : ByteArray := prog_4_method_18_code
def yX2_setRings : MethodName := ⟨RX2, "setRings", "(I)I"⟩
abbrev cX2_put : ByteArray := prog_4_method_19_code
def yX2_put : MethodName := ⟨RX2, "put", "(II)I"⟩
abbrev cX2_shut : ByteArray := prog_4_method_20_code
def yX2_shut : MethodName := ⟨RX2, "shut", "(IIZ)Z"⟩
abbrev cX2_turn : ByteArray := prog_4_method_21_code
def yX2_turn : MethodName := ⟨RX2, "turn", "(II)I"⟩
abbrev cX2_moveAll : ByteArray := prog_4_method_22_code
def yX2_moveAll : MethodName := ⟨RX2, "moveAll", "(I)V"⟩
abbrev cX2_turnAll : ByteArray := prog_4_method_23_code
def yX2_turnAll : MethodName := ⟨RX2, "turnAll", "(I)I"⟩
abbrev cX2_at : ByteArray := prog_4_method_24_code
def yX2_at : MethodName := ⟨RX2, "at", "(II)I"⟩
abbrev cX2_sidesOn : ByteArray := prog_4_method_25_code
def yX2_sidesOn : MethodName := ⟨RX2, "sidesOn", "(I)I"⟩
abbrev cX2_roomTold : ByteArray := prog_4_method_26_code
def yX2_roomTold : MethodName := ⟨RX2, "roomTold", "(II)I"⟩
abbrev cX2_about : ByteArray := prog_4_method_27_code
def yX2_about : MethodName := ⟨RX2, "about", "(II)I"⟩
abbrev cX2_beside : ByteArray := prog_4_method_28_code
def yX2_beside : MethodName := ⟨RX2, "beside", "(II)I"⟩
abbrev cX2_isShut : ByteArray := prog_4_method_29_code
def yX2_isShut : MethodName := ⟨RX2, "isShut", "(II)Z"⟩
abbrev cX2_far : ByteArray := prog_4_method_30_code
def yX2_far : MethodName := ⟨RX2, "far", "(II)I"⟩
abbrev cX2_sees : ByteArray := prog_4_method_31_code
def yX2_sees : MethodName := ⟨RX2, "sees", "(II)Z"⟩
abbrev cX2_spread : ByteArray := prog_4_method_32_code
def yX2_spread : MethodName := ⟨RX2, "spread", "(I)I"⟩
abbrev cX2_way : ByteArray := prog_4_method_33_code
def yX2_way : MethodName := ⟨RX2, "way", "(II)I"⟩
abbrev cX2_side : ByteArray := prog_4_method_34_code
def yX2_side : MethodName := ⟨RX2, "side", "(II)I"⟩
abbrev cX2_reach : ByteArray := prog_4_method_35_code
def yX2_reach : MethodName := ⟨RX2, "reach", "(II)I"⟩
abbrev cX2_standing : ByteArray := prog_4_method_36_code
def yX2_standing : MethodName := ⟨RX2, "standing", "(II)I"⟩
abbrev cX2_ringTold : ByteArray := prog_4_method_37_code
def yX2_ringTold : MethodName := ⟨RX2, "ringTold", "(II)I"⟩
abbrev cX2_ring : ByteArray := prog_4_method_38_code
def yX2_ring : MethodName := ⟨RX2, "ring", "(II)I"⟩
abbrev cX2_parts : ByteArray := prog_4_method_39_code
def yX2_parts : MethodName := ⟨RX2, "parts", "()I"⟩
abbrev cX2_counted : ByteArray := prog_4_method_40_code
def yX2_counted : MethodName := ⟨RX2, "counted", "(I)I"⟩
abbrev cX2_count : ByteArray := prog_4_method_41_code
def yX2_count : MethodName := ⟨RX2, "count", "(I)I"⟩
abbrev cX2_isAlike : ByteArray := prog_4_method_42_code
def yX2_isAlike : MethodName := ⟨RX2, "isAlike", "(I)Z"⟩
abbrev cX2_sixthsToSame : ByteArray := prog_4_method_43_code
def yX2_sixthsToSame : MethodName := ⟨RX2, "sixthsToSame", "()I"⟩
abbrev cX2_litBy : ByteArray := prog_4_method_44_code
def yX2_litBy : MethodName := ⟨RX2, "litBy", "(II)I"⟩
abbrev cX2_would : ByteArray := prog_4_method_45_code
def yX2_would : MethodName := ⟨RX2, "would", "(II)I"⟩
abbrev cX2_advise : ByteArray := prog_4_method_46_code
def yX2_advise : MethodName := ⟨RX2, "advise", "(I)I"⟩
abbrev cX2_best : ByteArray := prog_4_method_47_code
def yX2_best : MethodName := ⟨RX2, "best", "()I"⟩
abbrev cX2_mean : ByteArray := prog_4_method_48_code
def yX2_mean : MethodName := ⟨RX2, "mean", "()D"⟩
abbrev cX2_digest : ByteArray := prog_4_method_49_code
def yX2_digest : MethodName := ⟨RX2, "digest", "()J"⟩
def RJx145de : String := "java/io/Serializable"
def TJx145de : u_T := fun k => match k with
  | _ => ("", "", "", false)
def tyJx145de : Nat → FieldType := fun k => match k with
  | _ => .int
abbrev wsJx145de0 : List Cond := u_ws RJx145de TJx145de 0
theorem nmJx145de : ∀ a, a < 0 → ∀ b, b < 0 → a ≠ b → (TJx145de a).2.1 ≠ (TJx145de b).2.1 := by decide +kernel
theorem tyJx145de_ok : ∀ k, k < 0 → parseFieldDescriptor (TJx145de k).2.2.1 = some (tyJx145de k) := by decide +kernel
def RJ9 : String := "java/lang/Math"
def TJ9 : u_T := fun k => match k with
  | _ => ("", "", "", false)
def tyJ9 : Nat → FieldType := fun k => match k with
  | _ => .int
abbrev wsJ90 : List Cond := u_ws RJ9 TJ9 0
theorem nmJ9 : ∀ a, a < 0 → ∀ b, b < 0 → a ≠ b → (TJ9 a).2.1 ≠ (TJ9 b).2.1 := by decide +kernel
theorem tyJ9_ok : ∀ k, k < 0 → parseFieldDescriptor (TJ9 k).2.2.1 = some (tyJ9 k) := by decide +kernel
abbrev cJ9_abs_0f7a4 : ByteArray := prog_9_method_59_code
def yJ9_abs_0f7a4 : MethodName := ⟨RJ9, "abs", "(I)I"⟩
def RJ10 : String := "java/lang/System"
def TJ10 : u_T := fun k => match k with
  | _ => ("", "", "", false)
def tyJ10 : Nat → FieldType := fun k => match k with
  | _ => .int
abbrev wsJ100 : List Cond := u_ws RJ10 TJ10 0
theorem nmJ10 : ∀ a, a < 0 → ∀ b, b < 0 → a ≠ b → (TJ10 a).2.1 ≠ (TJ10 b).2.1 := by decide +kernel
theorem tyJ10_ok : ∀ k, k < 0 → parseFieldDescriptor (TJ10 k).2.2.1 = some (tyJ10 k) := by decide +kernel
def RJ7 : String := "java/util/Arrays"
def TJ7 : u_T := fun k => match k with
  | _ => ("", "", "", false)
def tyJ7 : Nat → FieldType := fun k => match k with
  | _ => .int
abbrev wsJ70 : List Cond := u_ws RJ7 TJ7 0
theorem nmJ7 : ∀ a, a < 0 → ∀ b, b < 0 → a ≠ b → (TJ7 a).2.1 ≠ (TJ7 b).2.1 := by decide +kernel
theorem tyJ7_ok : ∀ k, k < 0 → parseFieldDescriptor (TJ7 k).2.2.1 = some (tyJ7 k) := by decide +kernel
abbrev cJ7_fill_53178 : ByteArray := prog_13_method_103_code
def yJ7_fill_53178 : MethodName := ⟨RJ7, "fill", "([II)V"⟩
def RL : String := "HexRoomsLaw"
abbrev cL_setRings : ByteArray := method_3_code
def yL_setRings : MethodName := ⟨RL, "setRings", "(LHexRooms;I[J)I"⟩
abbrev cL_put : ByteArray := method_4_code
def yL_put : MethodName := ⟨RL, "put", "(LHexRooms;II[J)I"⟩
abbrev cL_shut : ByteArray := method_5_code
def yL_shut : MethodName := ⟨RL, "shut", "(LHexRooms;IIZ[J)I"⟩
abbrev cL_turn : ByteArray := method_6_code
def yL_turn : MethodName := ⟨RL, "turn", "(LHexRooms;II[J)I"⟩
abbrev cL_turnAll : ByteArray := method_7_code
def yL_turnAll : MethodName := ⟨RL, "turnAll", "(LHexRooms;I[J)I"⟩
abbrev cL_about : ByteArray := method_8_code
def yL_about : MethodName := ⟨RL, "about", "(LHexRooms;II[J)I"⟩
abbrev cL_beside : ByteArray := method_9_code
def yL_beside : MethodName := ⟨RL, "beside", "(LHexRooms;II[J)I"⟩
abbrev cL_isShut : ByteArray := method_10_code
def yL_isShut : MethodName := ⟨RL, "isShut", "(LHexRooms;II[J)I"⟩
abbrev cL_far : ByteArray := method_11_code
def yL_far : MethodName := ⟨RL, "far", "(LHexRooms;II[J)I"⟩
abbrev cL_sees : ByteArray := method_12_code
def yL_sees : MethodName := ⟨RL, "sees", "(LHexRooms;II[J)I"⟩
abbrev cL_way : ByteArray := method_13_code
def yL_way : MethodName := ⟨RL, "way", "(LHexRooms;II[J)I"⟩
abbrev cL_side : ByteArray := method_14_code
def yL_side : MethodName := ⟨RL, "side", "(LHexRooms;II[J)I"⟩
abbrev cL_reach : ByteArray := method_15_code
def yL_reach : MethodName := ⟨RL, "reach", "(LHexRooms;II[J)I"⟩
abbrev cL_ring : ByteArray := method_16_code
def yL_ring : MethodName := ⟨RL, "ring", "(LHexRooms;II[J)I"⟩
abbrev cL_count : ByteArray := method_17_code
def yL_count : MethodName := ⟨RL, "count", "(LHexRooms;I[J)I"⟩
abbrev cL_would : ByteArray := method_18_code
def yL_would : MethodName := ⟨RL, "would", "(LHexRooms;II[J)I"⟩
abbrev cL_advise : ByteArray := method_19_code
def yL_advise : MethodName := ⟨RL, "advise", "(LHexRooms;I[J)I"⟩
abbrev cL_law : ByteArray := code
def yL_law : MethodName := ⟨RL, "law", "([I)Z"⟩
def wsJ7_fill_53178 : List Cond := .code yJ7_fill_53178 cJ7_fill_53178 4 none :: ([])
def wsX0_cellOf : List Cond := .code yX0_cellOf cX0_cellOf 2 (some .int) :: ([])
def wsX0_placeRoom : List Cond := .code yX0_placeRoom cX0_placeRoom 5 none :: ([.fieldLink RX0 9 "HexRooms$Plan" "acrosses" "[I", .fieldLink RX0 15 "HexRooms$Plan" "downs" "[I", .fieldLink RX0 18 "HexRooms$Plan" "rings" "[I", .fieldLink RX0 21 "HexRooms$Plan" "cells" "[I", .methodLink RX0 52 yX0_cellOf, .static yX0_cellOf, .initialized RX0, .code yX0_cellOf cX0_cellOf 2 (some .int)] ++ wsX00)
def wsX0_firstRoomOf : List Cond := .code yX0_firstRoomOf cX0_firstRoomOf 1 (some .int) :: ([])
def wsX0_placeRing : List Cond := .code yX0_placeRing cX0_placeRing 8 none :: ([.fieldLink RX0 59 "HexRooms$Plan" "STEP_ACROSS" "[I", .fieldLink RX0 62 "HexRooms$Plan" "STEP_DOWN" "[I", .methodLink RX0 55 yX0_firstRoomOf, .static yX0_firstRoomOf, .initialized RX0, .code yX0_firstRoomOf cX0_firstRoomOf 1 (some .int), .methodLink RX0 33 yX0_placeRoom, .instanceMethod yX0_placeRoom, .selects RX0 yX0_placeRoom yX0_placeRoom, .code yX0_placeRoom cX0_placeRoom 5 none, .fieldLink RX0 9 "HexRooms$Plan" "acrosses" "[I", .fieldLink RX0 15 "HexRooms$Plan" "downs" "[I", .fieldLink RX0 18 "HexRooms$Plan" "rings" "[I", .fieldLink RX0 21 "HexRooms$Plan" "cells" "[I", .methodLink RX0 52 yX0_cellOf, .static yX0_cellOf, .code yX0_cellOf cX0_cellOf 2 (some .int)] ++ wsX00)
def wsX1_doorOf : List Cond := .code yX1_doorOf cX1_doorOf 2 (some .int) :: ([])
def wsX0_isOnPlan : List Cond := .code yX0_isOnPlan cX0_isOnPlan 1 (some .boolean) :: ([])
def wsX0_roomAt : List Cond := .code yX0_roomAt cX0_roomAt 3 (some .int) :: ([.fieldLink RX0 21 "HexRooms$Plan" "cells" "[I", .methodLink RX0 48 yX0_isOnPlan, .static yX0_isOnPlan, .initialized RX0, .code yX0_isOnPlan cX0_isOnPlan 1 (some .boolean), .methodLink RX0 52 yX0_cellOf, .static yX0_cellOf, .code yX0_cellOf cX0_cellOf 2 (some .int)] ++ wsX00)
def wsX0_joinRooms : List Cond := .code yX0_joinRooms cX0_joinRooms 5 none :: ([.fieldLink RX0 9 "HexRooms$Plan" "acrosses" "[I", .fieldLink RX0 59 "HexRooms$Plan" "STEP_ACROSS" "[I", .fieldLink RX0 15 "HexRooms$Plan" "downs" "[I", .fieldLink RX0 62 "HexRooms$Plan" "STEP_DOWN" "[I", .fieldLink RX0 24 "HexRooms$Plan" "neighbours" "[I", .static yX1_doorOf, .initialized RX1, .code yX1_doorOf cX1_doorOf 2 (some .int), .methodLink RX0 65 yX0_roomAt, .instanceMethod yX0_roomAt, .selects RX0 yX0_roomAt yX0_roomAt, .initialized RX0, .code yX0_roomAt cX0_roomAt 3 (some .int), .fieldLink RX0 21 "HexRooms$Plan" "cells" "[I", .methodLink RX0 48 yX0_isOnPlan, .static yX0_isOnPlan, .code yX0_isOnPlan cX0_isOnPlan 1 (some .boolean), .methodLink RX0 52 yX0_cellOf, .static yX0_cellOf, .code yX0_cellOf cX0_cellOf 2 (some .int)] ++ wsX00)
def wsX0_init_r1 : List Cond := [Cond.methodLink RX0 3 objectInit, Cond.instanceMethod objectInit, Cond.code objectInit ⟨#[0xb1]⟩ 1 none, Cond.arrayClass .int, Cond.fieldLink RX0 9 "HexRooms$Plan" "acrosses" "[I", Cond.fieldLink RX0 15 "HexRooms$Plan" "downs" "[I", Cond.fieldLink RX0 18 "HexRooms$Plan" "rings" "[I", Cond.fieldLink RX0 21 "HexRooms$Plan" "cells" "[I", Cond.fieldLink RX0 24 "HexRooms$Plan" "neighbours" "[I", Cond.methodLink RX0 27 yJ7_fill_53178, Cond.static yJ7_fill_53178, Cond.initialized RJ7, Cond.code yJ7_fill_53178 cJ7_fill_53178 4 none, Cond.methodLink RX0 33 yX0_placeRoom, Cond.instanceMethod yX0_placeRoom, Cond.selects RX0 yX0_placeRoom yX0_placeRoom, Cond.initialized RX0, Cond.code yX0_placeRoom cX0_placeRoom 5 none, Cond.methodLink RX0 52 yX0_cellOf, Cond.static yX0_cellOf, Cond.code yX0_cellOf cX0_cellOf 2 (some .int), Cond.methodLink RX0 37 yX0_placeRing, Cond.instanceMethod yX0_placeRing, Cond.selects RX0 yX0_placeRing yX0_placeRing]
def wsX0_init_r2 : List Cond := [Cond.code yX0_placeRing cX0_placeRing 8 none, Cond.fieldLink RX0 59 "HexRooms$Plan" "STEP_ACROSS" "[I", Cond.fieldLink RX0 62 "HexRooms$Plan" "STEP_DOWN" "[I", Cond.methodLink RX0 55 yX0_firstRoomOf, Cond.static yX0_firstRoomOf, Cond.code yX0_firstRoomOf cX0_firstRoomOf 1 (some .int), Cond.methodLink RX0 41 yX0_joinRooms, Cond.instanceMethod yX0_joinRooms, Cond.selects RX0 yX0_joinRooms yX0_joinRooms, Cond.code yX0_joinRooms cX0_joinRooms 5 none, Cond.static yX1_doorOf, Cond.initialized RX1, Cond.code yX1_doorOf cX1_doorOf 2 (some .int), Cond.methodLink RX0 65 yX0_roomAt, Cond.instanceMethod yX0_roomAt, Cond.selects RX0 yX0_roomAt yX0_roomAt, Cond.code yX0_roomAt cX0_roomAt 3 (some .int), Cond.methodLink RX0 48 yX0_isOnPlan, Cond.static yX0_isOnPlan, Cond.code yX0_isOnPlan cX0_isOnPlan 1 (some .boolean)]
def wsX0_init : List Cond := .code yX0_init cX0_init 2 none :: ((wsX0_init_r1 ++ wsX0_init_r2) ++ wsX00)
def wsX0_sizeOf : List Cond := .code yX0_sizeOf cX0_sizeOf 1 (some .int) :: ([])
def wsX0_acrossOf : List Cond := .code yX0_acrossOf cX0_acrossOf 2 (some .int) :: ([.fieldLink RX0 9 "HexRooms$Plan" "acrosses" "[I"] ++ wsX00)
def wsX0_downOf : List Cond := .code yX0_downOf cX0_downOf 2 (some .int) :: ([.fieldLink RX0 15 "HexRooms$Plan" "downs" "[I"] ++ wsX00)
def wsX0_ringOf : List Cond := .code yX0_ringOf cX0_ringOf 2 (some .int) :: ([.fieldLink RX0 18 "HexRooms$Plan" "rings" "[I"] ++ wsX00)
def wsX0_nextTo : List Cond := .code yX0_nextTo cX0_nextTo 3 (some .int) :: ([.fieldLink RX0 24 "HexRooms$Plan" "neighbours" "[I", .static yX1_doorOf, .initialized RX1, .code yX1_doorOf cX1_doorOf 2 (some .int)] ++ wsX00)
def wsX1_build : List Cond := .code yX1_build cX1_build 3 none :: ([.fieldLink RX1 149 "HexRooms" "rings" "I", .fieldLink RX1 50 "HexRooms" "rooms" "I", .fieldLink RX1 16 "HexRooms" "floors" "[I", .fieldLink RX1 20 "HexRooms" "shutDoors" "[Z", .fieldLink RX1 24 "HexRooms" "light" "[I", .methodLink RX1 83 yX0_firstRoomOf, .static yX0_firstRoomOf, .initialized RX0, .code yX0_firstRoomOf cX0_firstRoomOf 1 (some .int), .methodLink RX1 190 yJ7_fill_53178, .static yJ7_fill_53178, .initialized RJ7, .code yJ7_fill_53178 cJ7_fill_53178 4 none] ++ wsX10)
def wsX1_init_r1 : List Cond := [Cond.methodLink RX1 3 objectInit, Cond.instanceMethod objectInit, Cond.code objectInit ⟨#[0xb1]⟩ 1 none, Cond.classLink RX1 9 RX0, Cond.instantiable RX0 5, Cond.initialized RX0, Cond.fieldLink RX1 12 "HexRooms" "plan" "LHexRooms$Plan;", Cond.arrayClass .int, Cond.fieldLink RX1 16 "HexRooms" "floors" "[I", Cond.arrayClass .boolean, Cond.fieldLink RX1 20 "HexRooms" "shutDoors" "[Z", Cond.fieldLink RX1 24 "HexRooms" "light" "[I", Cond.fieldLink RX1 27 "HexRooms" "trialFloors" "[I", Cond.fieldLink RX1 30 "HexRooms" "trialLight" "[I", Cond.fieldLink RX1 33 "HexRooms" "beam" "[I", Cond.fieldLink RX1 36 "HexRooms" "stepsTo" "[I", Cond.fieldLink RX1 39 "HexRooms" "queue" "[I", Cond.methodLink RX1 11 yX0_init, Cond.instanceMethod yX0_init, Cond.code yX0_init cX0_init 2 none, Cond.methodLink RX0 3 objectInit, Cond.fieldLink RX0 9 "HexRooms$Plan" "acrosses" "[I", Cond.fieldLink RX0 15 "HexRooms$Plan" "downs" "[I", Cond.fieldLink RX0 18 "HexRooms$Plan" "rings" "[I"]
def wsX1_init_r2 : List Cond := [Cond.fieldLink RX0 21 "HexRooms$Plan" "cells" "[I", Cond.fieldLink RX0 24 "HexRooms$Plan" "neighbours" "[I", Cond.methodLink RX0 27 yJ7_fill_53178, Cond.static yJ7_fill_53178, Cond.initialized RJ7, Cond.code yJ7_fill_53178 cJ7_fill_53178 4 none, Cond.methodLink RX0 33 yX0_placeRoom, Cond.instanceMethod yX0_placeRoom, Cond.selects RX0 yX0_placeRoom yX0_placeRoom, Cond.code yX0_placeRoom cX0_placeRoom 5 none, Cond.methodLink RX0 52 yX0_cellOf, Cond.static yX0_cellOf, Cond.code yX0_cellOf cX0_cellOf 2 (some .int), Cond.methodLink RX0 37 yX0_placeRing, Cond.instanceMethod yX0_placeRing, Cond.selects RX0 yX0_placeRing yX0_placeRing, Cond.code yX0_placeRing cX0_placeRing 8 none, Cond.fieldLink RX0 59 "HexRooms$Plan" "STEP_ACROSS" "[I", Cond.fieldLink RX0 62 "HexRooms$Plan" "STEP_DOWN" "[I", Cond.methodLink RX0 55 yX0_firstRoomOf, Cond.static yX0_firstRoomOf, Cond.code yX0_firstRoomOf cX0_firstRoomOf 1 (some .int), Cond.methodLink RX0 41 yX0_joinRooms, Cond.instanceMethod yX0_joinRooms]
def wsX1_init_r3 : List Cond := [Cond.selects RX0 yX0_joinRooms yX0_joinRooms, Cond.code yX0_joinRooms cX0_joinRooms 5 none, Cond.static yX1_doorOf, Cond.initialized RX1, Cond.code yX1_doorOf cX1_doorOf 2 (some .int), Cond.methodLink RX0 65 yX0_roomAt, Cond.instanceMethod yX0_roomAt, Cond.selects RX0 yX0_roomAt yX0_roomAt, Cond.code yX0_roomAt cX0_roomAt 3 (some .int), Cond.methodLink RX0 48 yX0_isOnPlan, Cond.static yX0_isOnPlan, Cond.code yX0_isOnPlan cX0_isOnPlan 1 (some .boolean), Cond.methodLink RX1 42 yX1_build, Cond.instanceMethod yX1_build, Cond.selects RX1 yX1_build yX1_build, Cond.code yX1_build cX1_build 3 none, Cond.fieldLink RX1 149 "HexRooms" "rings" "I", Cond.fieldLink RX1 50 "HexRooms" "rooms" "I", Cond.methodLink RX1 83 yX0_firstRoomOf, Cond.methodLink RX1 190 yJ7_fill_53178]
def wsX1_init : List Cond := .code yX1_init cX1_init 1 none :: ((wsX1_init_r1 ++ (wsX1_init_r2 ++ wsX1_init_r3)) ++ wsX00 ++ wsX10)
def wsX1_needNumber : List Cond := .code yX1_needNumber cX1_needNumber 3 none :: ([.classLink RX1 184 "java/lang/IllegalArgumentException", .initialized "java/lang/IllegalArgumentException"] ++ (vx_at0 RX1 186 "java/lang/IllegalArgumentException" ["java/lang/RuntimeException", "java/lang/Exception"]).filter goodWord)
def wsX1_setRings : List Cond := .code yX1_setRings cX1_setRings 2 (some .int) :: ([.fieldLink RX1 50 "HexRooms" "rooms" "I", .methodLink RX1 46 yX1_needNumber, .static yX1_needNumber, .initialized RX1, .code yX1_needNumber cX1_needNumber 3 none, .classLink RX1 184 "java/lang/IllegalArgumentException", .initialized "java/lang/IllegalArgumentException", .methodLink RX1 42 yX1_build, .instanceMethod yX1_build, .selects RX1 yX1_build yX1_build, .code yX1_build cX1_build 3 none, .fieldLink RX1 149 "HexRooms" "rings" "I", .fieldLink RX1 16 "HexRooms" "floors" "[I", .fieldLink RX1 20 "HexRooms" "shutDoors" "[Z", .fieldLink RX1 24 "HexRooms" "light" "[I", .methodLink RX1 83 yX0_firstRoomOf, .static yX0_firstRoomOf, .initialized RX0, .code yX0_firstRoomOf cX0_firstRoomOf 1 (some .int), .methodLink RX1 190 yJ7_fill_53178, .static yJ7_fill_53178, .initialized RJ7, .code yJ7_fill_53178 cJ7_fill_53178 4 none] ++ wsX10 ++ (vx_at0 RX1 186 "java/lang/IllegalArgumentException" ["java/lang/RuntimeException", "java/lang/Exception"]).filter goodWord)
def wsX1_needIndex : List Cond := .code yX1_needIndex cX1_needIndex 2 none :: ([.classLink RX1 181 "java/lang/IndexOutOfBoundsException", .initialized "java/lang/IndexOutOfBoundsException"] ++ (vx_at0 RX1 183 "java/lang/IndexOutOfBoundsException" ["java/lang/RuntimeException", "java/lang/Exception"]).filter goodWord)
def wsX1_needRoom : List Cond := .code yX1_needRoom cX1_needRoom 2 none :: ([.fieldLink RX1 50 "HexRooms" "rooms" "I", .methodLink RX1 57 yX1_needIndex, .static yX1_needIndex, .initialized RX1, .code yX1_needIndex cX1_needIndex 2 none, .classLink RX1 181 "java/lang/IndexOutOfBoundsException", .initialized "java/lang/IndexOutOfBoundsException"] ++ wsX10 ++ (vx_at0 RX1 183 "java/lang/IndexOutOfBoundsException" ["java/lang/RuntimeException", "java/lang/Exception"]).filter goodWord)
def wsX1_orNone : List Cond := .code yX1_orNone cX1_orNone 2 (some .int) :: ([.fieldLink RX1 50 "HexRooms" "rooms" "I"] ++ wsX10)
def wsX1_neighbour : List Cond := .code yX1_neighbour cX1_neighbour 3 (some .int) :: ([.fieldLink RX1 12 "HexRooms" "plan" "LHexRooms$Plan;", .methodLink RX1 196 yX0_nextTo, .instanceMethod yX0_nextTo, .selects RX0 yX0_nextTo yX0_nextTo, .initialized RX0, .code yX0_nextTo cX0_nextTo 3 (some .int), .fieldLink RX0 24 "HexRooms$Plan" "neighbours" "[I", .static yX1_doorOf, .initialized RX1, .code yX1_doorOf cX1_doorOf 2 (some .int), .methodLink RX1 102 yX1_orNone, .instanceMethod yX1_orNone, .selects RX1 yX1_orNone yX1_orNone, .code yX1_orNone cX1_orNone 2 (some .int), .fieldLink RX1 50 "HexRooms" "rooms" "I"] ++ wsX10 ++ wsX00)
def wsX1_onward : List Cond := .code yX1_onward cX1_onward 5 (some .int) :: ([.fieldLink RX1 20 "HexRooms" "shutDoors" "[Z", .methodLink RX1 117 yX1_neighbour, .instanceMethod yX1_neighbour, .selects RX1 yX1_neighbour yX1_neighbour, .initialized RX1, .code yX1_neighbour cX1_neighbour 3 (some .int), .fieldLink RX1 12 "HexRooms" "plan" "LHexRooms$Plan;", .methodLink RX1 196 yX0_nextTo, .instanceMethod yX0_nextTo, .selects RX0 yX0_nextTo yX0_nextTo, .initialized RX0, .code yX0_nextTo cX0_nextTo 3 (some .int), .fieldLink RX0 24 "HexRooms$Plan" "neighbours" "[I", .static yX1_doorOf, .code yX1_doorOf cX1_doorOf 2 (some .int), .methodLink RX1 102 yX1_orNone, .instanceMethod yX1_orNone, .selects RX1 yX1_orNone yX1_orNone, .code yX1_orNone cX1_orNone 2 (some .int), .fieldLink RX1 50 "HexRooms" "rooms" "I", .methodLink RX1 69 yX1_doorOf] ++ wsX10 ++ wsX00)
def wsX1_beamFrom_r1 : List Cond := [Cond.fieldLink RX1 33 "HexRooms" "beam" "[I", Cond.methodLink RX1 132 yX1_onward, Cond.instanceMethod yX1_onward, Cond.selects RX1 yX1_onward yX1_onward, Cond.initialized RX1, Cond.code yX1_onward cX1_onward 5 (some .int), Cond.fieldLink RX1 20 "HexRooms" "shutDoors" "[Z", Cond.methodLink RX1 117 yX1_neighbour, Cond.instanceMethod yX1_neighbour, Cond.selects RX1 yX1_neighbour yX1_neighbour, Cond.code yX1_neighbour cX1_neighbour 3 (some .int), Cond.fieldLink RX1 12 "HexRooms" "plan" "LHexRooms$Plan;", Cond.methodLink RX1 196 yX0_nextTo, Cond.instanceMethod yX0_nextTo, Cond.selects RX0 yX0_nextTo yX0_nextTo, Cond.initialized RX0, Cond.code yX0_nextTo cX0_nextTo 3 (some .int), Cond.fieldLink RX0 24 "HexRooms$Plan" "neighbours" "[I", Cond.static yX1_doorOf, Cond.code yX1_doorOf cX1_doorOf 2 (some .int), Cond.methodLink RX1 102 yX1_orNone, Cond.instanceMethod yX1_orNone, Cond.selects RX1 yX1_orNone yX1_orNone, Cond.code yX1_orNone cX1_orNone 2 (some .int)]
def wsX1_beamFrom_r2 : List Cond := [Cond.fieldLink RX1 50 "HexRooms" "rooms" "I", Cond.methodLink RX1 69 yX1_doorOf]
def wsX1_beamFrom : List Cond := .code yX1_beamFrom cX1_beamFrom 6 (some .int) :: ((wsX1_beamFrom_r1 ++ wsX1_beamFrom_r2) ++ wsX10 ++ wsX00)
def wsX1_litAmong : List Cond := .code yX1_litAmong cX1_litAmong 5 (some .int) :: ([])
def wsX1_shine_r1 : List Cond := [Cond.fieldLink RX1 50 "HexRooms" "rooms" "I", Cond.fieldLink RX1 33 "HexRooms" "beam" "[I", Cond.methodLink RX1 190 yJ7_fill_53178, Cond.static yJ7_fill_53178, Cond.initialized RJ7, Cond.code yJ7_fill_53178 cJ7_fill_53178 4 none, Cond.methodLink RX1 125 yX1_beamFrom, Cond.instanceMethod yX1_beamFrom, Cond.selects RX1 yX1_beamFrom yX1_beamFrom, Cond.initialized RX1, Cond.code yX1_beamFrom cX1_beamFrom 6 (some .int), Cond.methodLink RX1 132 yX1_onward, Cond.instanceMethod yX1_onward, Cond.selects RX1 yX1_onward yX1_onward, Cond.code yX1_onward cX1_onward 5 (some .int), Cond.fieldLink RX1 20 "HexRooms" "shutDoors" "[Z", Cond.methodLink RX1 117 yX1_neighbour, Cond.instanceMethod yX1_neighbour, Cond.selects RX1 yX1_neighbour yX1_neighbour, Cond.code yX1_neighbour cX1_neighbour 3 (some .int), Cond.fieldLink RX1 12 "HexRooms" "plan" "LHexRooms$Plan;", Cond.methodLink RX1 196 yX0_nextTo, Cond.instanceMethod yX0_nextTo, Cond.selects RX0 yX0_nextTo yX0_nextTo]
def wsX1_shine_r2 : List Cond := [Cond.initialized RX0, Cond.code yX0_nextTo cX0_nextTo 3 (some .int), Cond.fieldLink RX0 24 "HexRooms$Plan" "neighbours" "[I", Cond.static yX1_doorOf, Cond.code yX1_doorOf cX1_doorOf 2 (some .int), Cond.methodLink RX1 102 yX1_orNone, Cond.instanceMethod yX1_orNone, Cond.selects RX1 yX1_orNone yX1_orNone, Cond.code yX1_orNone cX1_orNone 2 (some .int), Cond.methodLink RX1 69 yX1_doorOf, Cond.methodLink RX1 146 yX1_litAmong, Cond.static yX1_litAmong, Cond.code yX1_litAmong cX1_litAmong 5 (some .int)]
def wsX1_shine : List Cond := .code yX1_shine cX1_shine 6 (some .int) :: ((wsX1_shine_r1 ++ wsX1_shine_r2) ++ wsX10 ++ wsX00)
def wsX1_relight_r1 : List Cond := [Cond.fieldLink RX1 16 "HexRooms" "floors" "[I", Cond.fieldLink RX1 24 "HexRooms" "light" "[I", Cond.methodLink RX1 199 yX1_shine, Cond.instanceMethod yX1_shine, Cond.selects RX1 yX1_shine yX1_shine, Cond.initialized RX1, Cond.code yX1_shine cX1_shine 6 (some .int), Cond.fieldLink RX1 50 "HexRooms" "rooms" "I", Cond.fieldLink RX1 33 "HexRooms" "beam" "[I", Cond.methodLink RX1 190 yJ7_fill_53178, Cond.static yJ7_fill_53178, Cond.initialized RJ7, Cond.code yJ7_fill_53178 cJ7_fill_53178 4 none, Cond.methodLink RX1 125 yX1_beamFrom, Cond.instanceMethod yX1_beamFrom, Cond.selects RX1 yX1_beamFrom yX1_beamFrom, Cond.code yX1_beamFrom cX1_beamFrom 6 (some .int), Cond.methodLink RX1 132 yX1_onward, Cond.instanceMethod yX1_onward, Cond.selects RX1 yX1_onward yX1_onward, Cond.code yX1_onward cX1_onward 5 (some .int), Cond.fieldLink RX1 20 "HexRooms" "shutDoors" "[Z", Cond.methodLink RX1 117 yX1_neighbour, Cond.instanceMethod yX1_neighbour]
def wsX1_relight_r2 : List Cond := [Cond.selects RX1 yX1_neighbour yX1_neighbour, Cond.code yX1_neighbour cX1_neighbour 3 (some .int), Cond.fieldLink RX1 12 "HexRooms" "plan" "LHexRooms$Plan;", Cond.methodLink RX1 196 yX0_nextTo, Cond.instanceMethod yX0_nextTo, Cond.selects RX0 yX0_nextTo yX0_nextTo, Cond.initialized RX0, Cond.code yX0_nextTo cX0_nextTo 3 (some .int), Cond.fieldLink RX0 24 "HexRooms$Plan" "neighbours" "[I", Cond.static yX1_doorOf, Cond.code yX1_doorOf cX1_doorOf 2 (some .int), Cond.methodLink RX1 102 yX1_orNone, Cond.instanceMethod yX1_orNone, Cond.selects RX1 yX1_orNone yX1_orNone, Cond.code yX1_orNone cX1_orNone 2 (some .int), Cond.methodLink RX1 69 yX1_doorOf, Cond.methodLink RX1 146 yX1_litAmong, Cond.static yX1_litAmong, Cond.code yX1_litAmong cX1_litAmong 5 (some .int)]
def wsX1_relight : List Cond := .code yX1_relight cX1_relight 1 (some .int) :: ((wsX1_relight_r1 ++ wsX1_relight_r2) ++ wsX10 ++ wsX00)
def wsX1_put_r1 : List Cond := [Cond.fieldLink RX1 16 "HexRooms" "floors" "[I", Cond.methodLink RX1 54 yX1_needRoom, Cond.instanceMethod yX1_needRoom, Cond.selects RX1 yX1_needRoom yX1_needRoom, Cond.initialized RX1, Cond.code yX1_needRoom cX1_needRoom 2 none, Cond.fieldLink RX1 50 "HexRooms" "rooms" "I", Cond.methodLink RX1 57 yX1_needIndex, Cond.static yX1_needIndex, Cond.code yX1_needIndex cX1_needIndex 2 none, Cond.classLink RX1 181 "java/lang/IndexOutOfBoundsException", Cond.initialized "java/lang/IndexOutOfBoundsException", Cond.methodLink RX1 61 yX1_relight, Cond.instanceMethod yX1_relight, Cond.selects RX1 yX1_relight yX1_relight, Cond.code yX1_relight cX1_relight 1 (some .int), Cond.fieldLink RX1 24 "HexRooms" "light" "[I", Cond.methodLink RX1 199 yX1_shine, Cond.instanceMethod yX1_shine, Cond.selects RX1 yX1_shine yX1_shine, Cond.code yX1_shine cX1_shine 6 (some .int), Cond.fieldLink RX1 33 "HexRooms" "beam" "[I", Cond.methodLink RX1 190 yJ7_fill_53178, Cond.static yJ7_fill_53178]
def wsX1_put_r2 : List Cond := [Cond.initialized RJ7, Cond.code yJ7_fill_53178 cJ7_fill_53178 4 none, Cond.methodLink RX1 125 yX1_beamFrom, Cond.instanceMethod yX1_beamFrom, Cond.selects RX1 yX1_beamFrom yX1_beamFrom, Cond.code yX1_beamFrom cX1_beamFrom 6 (some .int), Cond.methodLink RX1 132 yX1_onward, Cond.instanceMethod yX1_onward, Cond.selects RX1 yX1_onward yX1_onward, Cond.code yX1_onward cX1_onward 5 (some .int), Cond.fieldLink RX1 20 "HexRooms" "shutDoors" "[Z", Cond.methodLink RX1 117 yX1_neighbour, Cond.instanceMethod yX1_neighbour, Cond.selects RX1 yX1_neighbour yX1_neighbour, Cond.code yX1_neighbour cX1_neighbour 3 (some .int), Cond.fieldLink RX1 12 "HexRooms" "plan" "LHexRooms$Plan;", Cond.methodLink RX1 196 yX0_nextTo, Cond.instanceMethod yX0_nextTo, Cond.selects RX0 yX0_nextTo yX0_nextTo, Cond.initialized RX0, Cond.code yX0_nextTo cX0_nextTo 3 (some .int), Cond.fieldLink RX0 24 "HexRooms$Plan" "neighbours" "[I", Cond.static yX1_doorOf, Cond.code yX1_doorOf cX1_doorOf 2 (some .int)]
def wsX1_put_r3 : List Cond := [Cond.methodLink RX1 102 yX1_orNone, Cond.instanceMethod yX1_orNone, Cond.selects RX1 yX1_orNone yX1_orNone, Cond.code yX1_orNone cX1_orNone 2 (some .int), Cond.methodLink RX1 69 yX1_doorOf, Cond.methodLink RX1 146 yX1_litAmong, Cond.static yX1_litAmong, Cond.code yX1_litAmong cX1_litAmong 5 (some .int)]
def wsX1_put : List Cond := .code yX1_put cX1_put 4 (some .int) :: ((wsX1_put_r1 ++ (wsX1_put_r2 ++ wsX1_put_r3)) ++ wsX10 ++ wsX00 ++ (vx_at0 RX1 183 "java/lang/IndexOutOfBoundsException" ["java/lang/RuntimeException", "java/lang/Exception"]).filter goodWord)
def wsX1_needDoor_r1 : List Cond := [Cond.classLink RX1 187 "java/lang/IllegalStateException", Cond.initialized "java/lang/IllegalStateException", Cond.methodLink RX1 54 yX1_needRoom, Cond.instanceMethod yX1_needRoom, Cond.selects RX1 yX1_needRoom yX1_needRoom, Cond.initialized RX1, Cond.code yX1_needRoom cX1_needRoom 2 none, Cond.fieldLink RX1 50 "HexRooms" "rooms" "I", Cond.methodLink RX1 57 yX1_needIndex, Cond.static yX1_needIndex, Cond.code yX1_needIndex cX1_needIndex 2 none, Cond.classLink RX1 181 "java/lang/IndexOutOfBoundsException", Cond.initialized "java/lang/IndexOutOfBoundsException", Cond.methodLink RX1 117 yX1_neighbour, Cond.instanceMethod yX1_neighbour, Cond.selects RX1 yX1_neighbour yX1_neighbour, Cond.code yX1_neighbour cX1_neighbour 3 (some .int), Cond.fieldLink RX1 12 "HexRooms" "plan" "LHexRooms$Plan;", Cond.methodLink RX1 196 yX0_nextTo, Cond.instanceMethod yX0_nextTo, Cond.selects RX0 yX0_nextTo yX0_nextTo, Cond.initialized RX0, Cond.code yX0_nextTo cX0_nextTo 3 (some .int), Cond.fieldLink RX0 24 "HexRooms$Plan" "neighbours" "[I"]
def wsX1_needDoor_r2 : List Cond := [Cond.static yX1_doorOf, Cond.code yX1_doorOf cX1_doorOf 2 (some .int), Cond.methodLink RX1 102 yX1_orNone, Cond.instanceMethod yX1_orNone, Cond.selects RX1 yX1_orNone yX1_orNone, Cond.code yX1_orNone cX1_orNone 2 (some .int)]
def wsX1_needDoor : List Cond := .code yX1_needDoor cX1_needDoor 4 (some .int) :: ((wsX1_needDoor_r1 ++ wsX1_needDoor_r2) ++ wsX10 ++ wsX00 ++ (vx_at0 RX1 189 "java/lang/IllegalStateException" ["java/lang/RuntimeException", "java/lang/Exception"]).filter goodWord ++ (vx_at0 RX1 183 "java/lang/IndexOutOfBoundsException" ["java/lang/RuntimeException", "java/lang/Exception"]).filter goodWord)
def wsX1_opposite : List Cond := .code yX1_opposite cX1_opposite 1 (some .int) :: ([])
def wsX1_shut_r1 : List Cond := [Cond.fieldLink RX1 20 "HexRooms" "shutDoors" "[Z", Cond.methodLink RX1 65 yX1_needDoor, Cond.instanceMethod yX1_needDoor, Cond.selects RX1 yX1_needDoor yX1_needDoor, Cond.initialized RX1, Cond.code yX1_needDoor cX1_needDoor 4 (some .int), Cond.classLink RX1 187 "java/lang/IllegalStateException", Cond.initialized "java/lang/IllegalStateException", Cond.methodLink RX1 54 yX1_needRoom, Cond.instanceMethod yX1_needRoom, Cond.selects RX1 yX1_needRoom yX1_needRoom, Cond.code yX1_needRoom cX1_needRoom 2 none, Cond.fieldLink RX1 50 "HexRooms" "rooms" "I", Cond.methodLink RX1 57 yX1_needIndex, Cond.static yX1_needIndex, Cond.code yX1_needIndex cX1_needIndex 2 none, Cond.classLink RX1 181 "java/lang/IndexOutOfBoundsException", Cond.initialized "java/lang/IndexOutOfBoundsException", Cond.methodLink RX1 117 yX1_neighbour, Cond.instanceMethod yX1_neighbour, Cond.selects RX1 yX1_neighbour yX1_neighbour, Cond.code yX1_neighbour cX1_neighbour 3 (some .int), Cond.fieldLink RX1 12 "HexRooms" "plan" "LHexRooms$Plan;", Cond.methodLink RX1 196 yX0_nextTo]
def wsX1_shut_r2 : List Cond := [Cond.instanceMethod yX0_nextTo, Cond.selects RX0 yX0_nextTo yX0_nextTo, Cond.initialized RX0, Cond.code yX0_nextTo cX0_nextTo 3 (some .int), Cond.fieldLink RX0 24 "HexRooms$Plan" "neighbours" "[I", Cond.static yX1_doorOf, Cond.code yX1_doorOf cX1_doorOf 2 (some .int), Cond.methodLink RX1 102 yX1_orNone, Cond.instanceMethod yX1_orNone, Cond.selects RX1 yX1_orNone yX1_orNone, Cond.code yX1_orNone cX1_orNone 2 (some .int), Cond.methodLink RX1 69 yX1_doorOf, Cond.methodLink RX1 72 yX1_opposite, Cond.static yX1_opposite, Cond.code yX1_opposite cX1_opposite 1 (some .int), Cond.methodLink RX1 61 yX1_relight, Cond.instanceMethod yX1_relight, Cond.selects RX1 yX1_relight yX1_relight, Cond.code yX1_relight cX1_relight 1 (some .int), Cond.fieldLink RX1 16 "HexRooms" "floors" "[I", Cond.fieldLink RX1 24 "HexRooms" "light" "[I", Cond.methodLink RX1 199 yX1_shine, Cond.instanceMethod yX1_shine, Cond.selects RX1 yX1_shine yX1_shine]
def wsX1_shut_r3 : List Cond := [Cond.code yX1_shine cX1_shine 6 (some .int), Cond.fieldLink RX1 33 "HexRooms" "beam" "[I", Cond.methodLink RX1 190 yJ7_fill_53178, Cond.static yJ7_fill_53178, Cond.initialized RJ7, Cond.code yJ7_fill_53178 cJ7_fill_53178 4 none, Cond.methodLink RX1 125 yX1_beamFrom, Cond.instanceMethod yX1_beamFrom, Cond.selects RX1 yX1_beamFrom yX1_beamFrom, Cond.code yX1_beamFrom cX1_beamFrom 6 (some .int), Cond.methodLink RX1 132 yX1_onward, Cond.instanceMethod yX1_onward, Cond.selects RX1 yX1_onward yX1_onward, Cond.code yX1_onward cX1_onward 5 (some .int), Cond.methodLink RX1 146 yX1_litAmong, Cond.static yX1_litAmong, Cond.code yX1_litAmong cX1_litAmong 5 (some .int)]
def wsX1_shut : List Cond := .code yX1_shut cX1_shut 6 (some .boolean) :: ((wsX1_shut_r1 ++ (wsX1_shut_r2 ++ wsX1_shut_r3)) ++ wsX10 ++ wsX00 ++ (vx_at0 RX1 189 "java/lang/IllegalStateException" ["java/lang/RuntimeException", "java/lang/Exception"]).filter goodWord ++ (vx_at0 RX1 183 "java/lang/IndexOutOfBoundsException" ["java/lang/RuntimeException", "java/lang/Exception"]).filter goodWord)
def wsX1_needRing : List Cond := .code yX1_needRing cX1_needRing 2 none :: ([.fieldLink RX1 149 "HexRooms" "rings" "I", .methodLink RX1 57 yX1_needIndex, .static yX1_needIndex, .initialized RX1, .code yX1_needIndex cX1_needIndex 2 none, .classLink RX1 181 "java/lang/IndexOutOfBoundsException", .initialized "java/lang/IndexOutOfBoundsException"] ++ wsX10 ++ (vx_at0 RX1 183 "java/lang/IndexOutOfBoundsException" ["java/lang/RuntimeException", "java/lang/Exception"]).filter goodWord)
def wsX1_turnRingInto : List Cond := .code yX1_turnRingInto cX1_turnRingInto 7 none :: ([.fieldLink RX1 16 "HexRooms" "floors" "[I", .methodLink RX1 83 yX0_firstRoomOf, .static yX0_firstRoomOf, .initialized RX0, .code yX0_firstRoomOf cX0_firstRoomOf 1 (some .int), .methodLink RX1 86 yX0_sizeOf, .static yX0_sizeOf, .code yX0_sizeOf cX0_sizeOf 1 (some .int)] ++ wsX10)
def wsX1_turn_r1 : List Cond := [Cond.fieldLink RX1 27 "HexRooms" "trialFloors" "[I", Cond.fieldLink RX1 16 "HexRooms" "floors" "[I", Cond.methodLink RX1 89 arraycopyName, Cond.native arraycopyName, Cond.static arraycopyName, Cond.initialized "java/lang/System", Cond.methodLink RX1 76 yX1_needRing, Cond.instanceMethod yX1_needRing, Cond.selects RX1 yX1_needRing yX1_needRing, Cond.initialized RX1, Cond.code yX1_needRing cX1_needRing 2 none, Cond.fieldLink RX1 149 "HexRooms" "rings" "I", Cond.methodLink RX1 57 yX1_needIndex, Cond.static yX1_needIndex, Cond.code yX1_needIndex cX1_needIndex 2 none, Cond.classLink RX1 181 "java/lang/IndexOutOfBoundsException", Cond.initialized "java/lang/IndexOutOfBoundsException", Cond.methodLink RX1 46 yX1_needNumber, Cond.static yX1_needNumber, Cond.code yX1_needNumber cX1_needNumber 3 none, Cond.classLink RX1 184 "java/lang/IllegalArgumentException", Cond.initialized "java/lang/IllegalArgumentException", Cond.methodLink RX1 79 yX1_turnRingInto, Cond.instanceMethod yX1_turnRingInto]
def wsX1_turn_r2 : List Cond := [Cond.selects RX1 yX1_turnRingInto yX1_turnRingInto, Cond.code yX1_turnRingInto cX1_turnRingInto 7 none, Cond.methodLink RX1 83 yX0_firstRoomOf, Cond.static yX0_firstRoomOf, Cond.initialized RX0, Cond.code yX0_firstRoomOf cX0_firstRoomOf 1 (some .int), Cond.methodLink RX1 86 yX0_sizeOf, Cond.static yX0_sizeOf, Cond.code yX0_sizeOf cX0_sizeOf 1 (some .int), Cond.methodLink RX1 61 yX1_relight, Cond.instanceMethod yX1_relight, Cond.selects RX1 yX1_relight yX1_relight, Cond.code yX1_relight cX1_relight 1 (some .int), Cond.fieldLink RX1 24 "HexRooms" "light" "[I", Cond.methodLink RX1 199 yX1_shine, Cond.instanceMethod yX1_shine, Cond.selects RX1 yX1_shine yX1_shine, Cond.code yX1_shine cX1_shine 6 (some .int), Cond.fieldLink RX1 50 "HexRooms" "rooms" "I", Cond.fieldLink RX1 33 "HexRooms" "beam" "[I", Cond.methodLink RX1 190 yJ7_fill_53178, Cond.static yJ7_fill_53178, Cond.initialized RJ7, Cond.code yJ7_fill_53178 cJ7_fill_53178 4 none]
def wsX1_turn_r3 : List Cond := [Cond.methodLink RX1 125 yX1_beamFrom, Cond.instanceMethod yX1_beamFrom, Cond.selects RX1 yX1_beamFrom yX1_beamFrom, Cond.code yX1_beamFrom cX1_beamFrom 6 (some .int), Cond.methodLink RX1 132 yX1_onward, Cond.instanceMethod yX1_onward, Cond.selects RX1 yX1_onward yX1_onward, Cond.code yX1_onward cX1_onward 5 (some .int), Cond.fieldLink RX1 20 "HexRooms" "shutDoors" "[Z", Cond.methodLink RX1 117 yX1_neighbour, Cond.instanceMethod yX1_neighbour, Cond.selects RX1 yX1_neighbour yX1_neighbour, Cond.code yX1_neighbour cX1_neighbour 3 (some .int), Cond.fieldLink RX1 12 "HexRooms" "plan" "LHexRooms$Plan;", Cond.methodLink RX1 196 yX0_nextTo, Cond.instanceMethod yX0_nextTo, Cond.selects RX0 yX0_nextTo yX0_nextTo, Cond.code yX0_nextTo cX0_nextTo 3 (some .int), Cond.fieldLink RX0 24 "HexRooms$Plan" "neighbours" "[I", Cond.static yX1_doorOf, Cond.code yX1_doorOf cX1_doorOf 2 (some .int), Cond.methodLink RX1 102 yX1_orNone, Cond.instanceMethod yX1_orNone, Cond.selects RX1 yX1_orNone yX1_orNone]
def wsX1_turn_r4 : List Cond := [Cond.code yX1_orNone cX1_orNone 2 (some .int), Cond.methodLink RX1 69 yX1_doorOf, Cond.methodLink RX1 146 yX1_litAmong, Cond.static yX1_litAmong, Cond.code yX1_litAmong cX1_litAmong 5 (some .int)]
def wsX1_turn : List Cond := .code yX1_turn cX1_turn 4 (some .int) :: ((wsX1_turn_r1 ++ (wsX1_turn_r2 ++ (wsX1_turn_r3 ++ wsX1_turn_r4))) ++ wsX10 ++ wsX00 ++ (vx_at0 RX1 183 "java/lang/IndexOutOfBoundsException" ["java/lang/RuntimeException", "java/lang/Exception"]).filter goodWord ++ (vx_at0 RX1 186 "java/lang/IllegalArgumentException" ["java/lang/RuntimeException", "java/lang/Exception"]).filter goodWord)
def wsX1_turnAllInto : List Cond := .code yX1_turnAllInto cX1_turnAllInto 4 none :: ([.fieldLink RX1 149 "HexRooms" "rings" "I", .methodLink RX1 79 yX1_turnRingInto, .instanceMethod yX1_turnRingInto, .selects RX1 yX1_turnRingInto yX1_turnRingInto, .initialized RX1, .code yX1_turnRingInto cX1_turnRingInto 7 none, .fieldLink RX1 16 "HexRooms" "floors" "[I", .methodLink RX1 83 yX0_firstRoomOf, .static yX0_firstRoomOf, .initialized RX0, .code yX0_firstRoomOf cX0_firstRoomOf 1 (some .int), .methodLink RX1 86 yX0_sizeOf, .static yX0_sizeOf, .code yX0_sizeOf cX0_sizeOf 1 (some .int)] ++ wsX10)
def wsX1_turnAll_r1 : List Cond := [Cond.fieldLink RX1 27 "HexRooms" "trialFloors" "[I", Cond.fieldLink RX1 16 "HexRooms" "floors" "[I", Cond.fieldLink RX1 50 "HexRooms" "rooms" "I", Cond.methodLink RX1 89 arraycopyName, Cond.native arraycopyName, Cond.static arraycopyName, Cond.initialized "java/lang/System", Cond.methodLink RX1 46 yX1_needNumber, Cond.static yX1_needNumber, Cond.initialized RX1, Cond.code yX1_needNumber cX1_needNumber 3 none, Cond.classLink RX1 184 "java/lang/IllegalArgumentException", Cond.initialized "java/lang/IllegalArgumentException", Cond.methodLink RX1 95 yX1_turnAllInto, Cond.instanceMethod yX1_turnAllInto, Cond.selects RX1 yX1_turnAllInto yX1_turnAllInto, Cond.code yX1_turnAllInto cX1_turnAllInto 4 none, Cond.fieldLink RX1 149 "HexRooms" "rings" "I", Cond.methodLink RX1 79 yX1_turnRingInto, Cond.instanceMethod yX1_turnRingInto, Cond.selects RX1 yX1_turnRingInto yX1_turnRingInto, Cond.code yX1_turnRingInto cX1_turnRingInto 7 none, Cond.methodLink RX1 83 yX0_firstRoomOf, Cond.static yX0_firstRoomOf]
def wsX1_turnAll_r2 : List Cond := [Cond.initialized RX0, Cond.code yX0_firstRoomOf cX0_firstRoomOf 1 (some .int), Cond.methodLink RX1 86 yX0_sizeOf, Cond.static yX0_sizeOf, Cond.code yX0_sizeOf cX0_sizeOf 1 (some .int), Cond.methodLink RX1 61 yX1_relight, Cond.instanceMethod yX1_relight, Cond.selects RX1 yX1_relight yX1_relight, Cond.code yX1_relight cX1_relight 1 (some .int), Cond.fieldLink RX1 24 "HexRooms" "light" "[I", Cond.methodLink RX1 199 yX1_shine, Cond.instanceMethod yX1_shine, Cond.selects RX1 yX1_shine yX1_shine, Cond.code yX1_shine cX1_shine 6 (some .int), Cond.fieldLink RX1 33 "HexRooms" "beam" "[I", Cond.methodLink RX1 190 yJ7_fill_53178, Cond.static yJ7_fill_53178, Cond.initialized RJ7, Cond.code yJ7_fill_53178 cJ7_fill_53178 4 none, Cond.methodLink RX1 125 yX1_beamFrom, Cond.instanceMethod yX1_beamFrom, Cond.selects RX1 yX1_beamFrom yX1_beamFrom, Cond.code yX1_beamFrom cX1_beamFrom 6 (some .int), Cond.methodLink RX1 132 yX1_onward]
def wsX1_turnAll_r3 : List Cond := [Cond.instanceMethod yX1_onward, Cond.selects RX1 yX1_onward yX1_onward, Cond.code yX1_onward cX1_onward 5 (some .int), Cond.fieldLink RX1 20 "HexRooms" "shutDoors" "[Z", Cond.methodLink RX1 117 yX1_neighbour, Cond.instanceMethod yX1_neighbour, Cond.selects RX1 yX1_neighbour yX1_neighbour, Cond.code yX1_neighbour cX1_neighbour 3 (some .int), Cond.fieldLink RX1 12 "HexRooms" "plan" "LHexRooms$Plan;", Cond.methodLink RX1 196 yX0_nextTo, Cond.instanceMethod yX0_nextTo, Cond.selects RX0 yX0_nextTo yX0_nextTo, Cond.code yX0_nextTo cX0_nextTo 3 (some .int), Cond.fieldLink RX0 24 "HexRooms$Plan" "neighbours" "[I", Cond.static yX1_doorOf, Cond.code yX1_doorOf cX1_doorOf 2 (some .int), Cond.methodLink RX1 102 yX1_orNone, Cond.instanceMethod yX1_orNone, Cond.selects RX1 yX1_orNone yX1_orNone, Cond.code yX1_orNone cX1_orNone 2 (some .int), Cond.methodLink RX1 69 yX1_doorOf, Cond.methodLink RX1 146 yX1_litAmong, Cond.static yX1_litAmong, Cond.code yX1_litAmong cX1_litAmong 5 (some .int)]
def wsX1_turnAll : List Cond := .code yX1_turnAll cX1_turnAll 2 (some .int) :: ((wsX1_turnAll_r1 ++ (wsX1_turnAll_r2 ++ wsX1_turnAll_r3)) ++ wsX10 ++ wsX00 ++ (vx_at0 RX1 186 "java/lang/IllegalArgumentException" ["java/lang/RuntimeException", "java/lang/Exception"]).filter goodWord)
def wsX1_at : List Cond := .code yX1_at cX1_at 3 (some .int) :: ([.fieldLink RX1 12 "HexRooms" "plan" "LHexRooms$Plan;", .methodLink RX1 99 yX0_roomAt, .instanceMethod yX0_roomAt, .selects RX0 yX0_roomAt yX0_roomAt, .initialized RX0, .code yX0_roomAt cX0_roomAt 3 (some .int), .fieldLink RX0 21 "HexRooms$Plan" "cells" "[I", .methodLink RX0 48 yX0_isOnPlan, .static yX0_isOnPlan, .code yX0_isOnPlan cX0_isOnPlan 1 (some .boolean), .methodLink RX0 52 yX0_cellOf, .static yX0_cellOf, .code yX0_cellOf cX0_cellOf 2 (some .int), .methodLink RX1 102 yX1_orNone, .instanceMethod yX1_orNone, .selects RX1 yX1_orNone yX1_orNone, .initialized RX1, .code yX1_orNone cX1_orNone 2 (some .int), .fieldLink RX1 50 "HexRooms" "rooms" "I"] ++ wsX10 ++ wsX00)
def wsX1_sidesOnward_r1 : List Cond := [Cond.fieldLink RX1 16 "HexRooms" "floors" "[I", Cond.methodLink RX1 132 yX1_onward, Cond.instanceMethod yX1_onward, Cond.selects RX1 yX1_onward yX1_onward, Cond.initialized RX1, Cond.code yX1_onward cX1_onward 5 (some .int), Cond.fieldLink RX1 20 "HexRooms" "shutDoors" "[Z", Cond.methodLink RX1 117 yX1_neighbour, Cond.instanceMethod yX1_neighbour, Cond.selects RX1 yX1_neighbour yX1_neighbour, Cond.code yX1_neighbour cX1_neighbour 3 (some .int), Cond.fieldLink RX1 12 "HexRooms" "plan" "LHexRooms$Plan;", Cond.methodLink RX1 196 yX0_nextTo, Cond.instanceMethod yX0_nextTo, Cond.selects RX0 yX0_nextTo yX0_nextTo, Cond.initialized RX0, Cond.code yX0_nextTo cX0_nextTo 3 (some .int), Cond.fieldLink RX0 24 "HexRooms$Plan" "neighbours" "[I", Cond.static yX1_doorOf, Cond.code yX1_doorOf cX1_doorOf 2 (some .int), Cond.methodLink RX1 102 yX1_orNone, Cond.instanceMethod yX1_orNone, Cond.selects RX1 yX1_orNone yX1_orNone, Cond.code yX1_orNone cX1_orNone 2 (some .int)]
def wsX1_sidesOnward_r2 : List Cond := [Cond.fieldLink RX1 50 "HexRooms" "rooms" "I", Cond.methodLink RX1 69 yX1_doorOf]
def wsX1_sidesOnward : List Cond := .code yX1_sidesOnward cX1_sidesOnward 4 (some .int) :: ((wsX1_sidesOnward_r1 ++ wsX1_sidesOnward_r2) ++ wsX10 ++ wsX00)
def wsX1_about_r1 : List Cond := [Cond.fieldLink RX1 12 "HexRooms" "plan" "LHexRooms$Plan;", Cond.fieldLink RX1 16 "HexRooms" "floors" "[I", Cond.fieldLink RX1 24 "HexRooms" "light" "[I", Cond.methodLink RX1 54 yX1_needRoom, Cond.instanceMethod yX1_needRoom, Cond.selects RX1 yX1_needRoom yX1_needRoom, Cond.initialized RX1, Cond.code yX1_needRoom cX1_needRoom 2 none, Cond.fieldLink RX1 50 "HexRooms" "rooms" "I", Cond.methodLink RX1 57 yX1_needIndex, Cond.static yX1_needIndex, Cond.code yX1_needIndex cX1_needIndex 2 none, Cond.classLink RX1 181 "java/lang/IndexOutOfBoundsException", Cond.initialized "java/lang/IndexOutOfBoundsException", Cond.methodLink RX1 105 yX0_acrossOf, Cond.instanceMethod yX0_acrossOf, Cond.selects RX0 yX0_acrossOf yX0_acrossOf, Cond.initialized RX0, Cond.code yX0_acrossOf cX0_acrossOf 2 (some .int), Cond.fieldLink RX0 9 "HexRooms$Plan" "acrosses" "[I", Cond.methodLink RX1 108 yX0_downOf, Cond.instanceMethod yX0_downOf, Cond.selects RX0 yX0_downOf yX0_downOf, Cond.code yX0_downOf cX0_downOf 2 (some .int)]
def wsX1_about_r2 : List Cond := [Cond.fieldLink RX0 15 "HexRooms$Plan" "downs" "[I", Cond.methodLink RX1 111 yX0_ringOf, Cond.instanceMethod yX0_ringOf, Cond.selects RX0 yX0_ringOf yX0_ringOf, Cond.code yX0_ringOf cX0_ringOf 2 (some .int), Cond.fieldLink RX0 18 "HexRooms$Plan" "rings" "[I", Cond.methodLink RX1 114 yX1_sidesOnward, Cond.instanceMethod yX1_sidesOnward, Cond.selects RX1 yX1_sidesOnward yX1_sidesOnward, Cond.code yX1_sidesOnward cX1_sidesOnward 4 (some .int), Cond.methodLink RX1 132 yX1_onward, Cond.instanceMethod yX1_onward, Cond.selects RX1 yX1_onward yX1_onward, Cond.code yX1_onward cX1_onward 5 (some .int), Cond.fieldLink RX1 20 "HexRooms" "shutDoors" "[Z", Cond.methodLink RX1 117 yX1_neighbour, Cond.instanceMethod yX1_neighbour, Cond.selects RX1 yX1_neighbour yX1_neighbour, Cond.code yX1_neighbour cX1_neighbour 3 (some .int), Cond.methodLink RX1 196 yX0_nextTo, Cond.instanceMethod yX0_nextTo, Cond.selects RX0 yX0_nextTo yX0_nextTo, Cond.code yX0_nextTo cX0_nextTo 3 (some .int), Cond.fieldLink RX0 24 "HexRooms$Plan" "neighbours" "[I"]
def wsX1_about_r3 : List Cond := [Cond.static yX1_doorOf, Cond.code yX1_doorOf cX1_doorOf 2 (some .int), Cond.methodLink RX1 102 yX1_orNone, Cond.instanceMethod yX1_orNone, Cond.selects RX1 yX1_orNone yX1_orNone, Cond.code yX1_orNone cX1_orNone 2 (some .int), Cond.methodLink RX1 69 yX1_doorOf]
def wsX1_about : List Cond := .code yX1_about cX1_about 3 (some .int) :: ((wsX1_about_r1 ++ (wsX1_about_r2 ++ wsX1_about_r3)) ++ wsX10 ++ wsX00 ++ (vx_at0 RX1 183 "java/lang/IndexOutOfBoundsException" ["java/lang/RuntimeException", "java/lang/Exception"]).filter goodWord)
def wsX1_beside_r1 : List Cond := [Cond.methodLink RX1 54 yX1_needRoom, Cond.instanceMethod yX1_needRoom, Cond.selects RX1 yX1_needRoom yX1_needRoom, Cond.initialized RX1, Cond.code yX1_needRoom cX1_needRoom 2 none, Cond.fieldLink RX1 50 "HexRooms" "rooms" "I", Cond.methodLink RX1 57 yX1_needIndex, Cond.static yX1_needIndex, Cond.code yX1_needIndex cX1_needIndex 2 none, Cond.classLink RX1 181 "java/lang/IndexOutOfBoundsException", Cond.initialized "java/lang/IndexOutOfBoundsException", Cond.methodLink RX1 117 yX1_neighbour, Cond.instanceMethod yX1_neighbour, Cond.selects RX1 yX1_neighbour yX1_neighbour, Cond.code yX1_neighbour cX1_neighbour 3 (some .int), Cond.fieldLink RX1 12 "HexRooms" "plan" "LHexRooms$Plan;", Cond.methodLink RX1 196 yX0_nextTo, Cond.instanceMethod yX0_nextTo, Cond.selects RX0 yX0_nextTo yX0_nextTo, Cond.initialized RX0, Cond.code yX0_nextTo cX0_nextTo 3 (some .int), Cond.fieldLink RX0 24 "HexRooms$Plan" "neighbours" "[I", Cond.static yX1_doorOf, Cond.code yX1_doorOf cX1_doorOf 2 (some .int)]
def wsX1_beside_r2 : List Cond := [Cond.methodLink RX1 102 yX1_orNone, Cond.instanceMethod yX1_orNone, Cond.selects RX1 yX1_orNone yX1_orNone, Cond.code yX1_orNone cX1_orNone 2 (some .int)]
def wsX1_beside : List Cond := .code yX1_beside cX1_beside 3 (some .int) :: ((wsX1_beside_r1 ++ wsX1_beside_r2) ++ wsX10 ++ wsX00 ++ (vx_at0 RX1 183 "java/lang/IndexOutOfBoundsException" ["java/lang/RuntimeException", "java/lang/Exception"]).filter goodWord)
def wsX1_isShut_r1 : List Cond := [Cond.fieldLink RX1 20 "HexRooms" "shutDoors" "[Z", Cond.methodLink RX1 65 yX1_needDoor, Cond.instanceMethod yX1_needDoor, Cond.selects RX1 yX1_needDoor yX1_needDoor, Cond.initialized RX1, Cond.code yX1_needDoor cX1_needDoor 4 (some .int), Cond.classLink RX1 187 "java/lang/IllegalStateException", Cond.initialized "java/lang/IllegalStateException", Cond.methodLink RX1 54 yX1_needRoom, Cond.instanceMethod yX1_needRoom, Cond.selects RX1 yX1_needRoom yX1_needRoom, Cond.code yX1_needRoom cX1_needRoom 2 none, Cond.fieldLink RX1 50 "HexRooms" "rooms" "I", Cond.methodLink RX1 57 yX1_needIndex, Cond.static yX1_needIndex, Cond.code yX1_needIndex cX1_needIndex 2 none, Cond.classLink RX1 181 "java/lang/IndexOutOfBoundsException", Cond.initialized "java/lang/IndexOutOfBoundsException", Cond.methodLink RX1 117 yX1_neighbour, Cond.instanceMethod yX1_neighbour, Cond.selects RX1 yX1_neighbour yX1_neighbour, Cond.code yX1_neighbour cX1_neighbour 3 (some .int), Cond.fieldLink RX1 12 "HexRooms" "plan" "LHexRooms$Plan;", Cond.methodLink RX1 196 yX0_nextTo]
def wsX1_isShut_r2 : List Cond := [Cond.instanceMethod yX0_nextTo, Cond.selects RX0 yX0_nextTo yX0_nextTo, Cond.initialized RX0, Cond.code yX0_nextTo cX0_nextTo 3 (some .int), Cond.fieldLink RX0 24 "HexRooms$Plan" "neighbours" "[I", Cond.static yX1_doorOf, Cond.code yX1_doorOf cX1_doorOf 2 (some .int), Cond.methodLink RX1 102 yX1_orNone, Cond.instanceMethod yX1_orNone, Cond.selects RX1 yX1_orNone yX1_orNone, Cond.code yX1_orNone cX1_orNone 2 (some .int), Cond.methodLink RX1 69 yX1_doorOf]
def wsX1_isShut : List Cond := .code yX1_isShut cX1_isShut 3 (some .boolean) :: ((wsX1_isShut_r1 ++ wsX1_isShut_r2) ++ wsX10 ++ wsX00 ++ (vx_at0 RX1 189 "java/lang/IllegalStateException" ["java/lang/RuntimeException", "java/lang/Exception"]).filter goodWord ++ (vx_at0 RX1 183 "java/lang/IndexOutOfBoundsException" ["java/lang/RuntimeException", "java/lang/Exception"]).filter goodWord)
def wsX1_far_r1 : List Cond := [Cond.fieldLink RX1 12 "HexRooms" "plan" "LHexRooms$Plan;", Cond.methodLink RX1 120 Lib.Math.abs.name, Cond.static Lib.Math.abs.name, Cond.initialized "java/lang/Math", Cond.code Lib.Math.abs.name Lib.Math.abs.code 1 (some .int), Cond.methodLink RX1 54 yX1_needRoom, Cond.instanceMethod yX1_needRoom, Cond.selects RX1 yX1_needRoom yX1_needRoom, Cond.initialized RX1, Cond.code yX1_needRoom cX1_needRoom 2 none, Cond.fieldLink RX1 50 "HexRooms" "rooms" "I", Cond.methodLink RX1 57 yX1_needIndex, Cond.static yX1_needIndex, Cond.code yX1_needIndex cX1_needIndex 2 none, Cond.classLink RX1 181 "java/lang/IndexOutOfBoundsException", Cond.initialized "java/lang/IndexOutOfBoundsException", Cond.methodLink RX1 105 yX0_acrossOf, Cond.instanceMethod yX0_acrossOf, Cond.selects RX0 yX0_acrossOf yX0_acrossOf, Cond.initialized RX0, Cond.code yX0_acrossOf cX0_acrossOf 2 (some .int), Cond.fieldLink RX0 9 "HexRooms$Plan" "acrosses" "[I", Cond.methodLink RX1 108 yX0_downOf, Cond.instanceMethod yX0_downOf]
def wsX1_far_r2 : List Cond := [Cond.selects RX0 yX0_downOf yX0_downOf, Cond.code yX0_downOf cX0_downOf 2 (some .int), Cond.fieldLink RX0 15 "HexRooms$Plan" "downs" "[I"]
def wsX1_far : List Cond := .code yX1_far cX1_far 5 (some .int) :: ((wsX1_far_r1 ++ wsX1_far_r2) ++ wsX10 ++ wsX00 ++ (vx_at0 RX1 183 "java/lang/IndexOutOfBoundsException" ["java/lang/RuntimeException", "java/lang/Exception"]).filter goodWord)
def wsX1_sees_r1 : List Cond := [Cond.fieldLink RX1 16 "HexRooms" "floors" "[I", Cond.fieldLink RX1 33 "HexRooms" "beam" "[I", Cond.methodLink RX1 54 yX1_needRoom, Cond.instanceMethod yX1_needRoom, Cond.selects RX1 yX1_needRoom yX1_needRoom, Cond.initialized RX1, Cond.code yX1_needRoom cX1_needRoom 2 none, Cond.fieldLink RX1 50 "HexRooms" "rooms" "I", Cond.methodLink RX1 57 yX1_needIndex, Cond.static yX1_needIndex, Cond.code yX1_needIndex cX1_needIndex 2 none, Cond.classLink RX1 181 "java/lang/IndexOutOfBoundsException", Cond.initialized "java/lang/IndexOutOfBoundsException", Cond.methodLink RX1 125 yX1_beamFrom, Cond.instanceMethod yX1_beamFrom, Cond.selects RX1 yX1_beamFrom yX1_beamFrom, Cond.code yX1_beamFrom cX1_beamFrom 6 (some .int), Cond.methodLink RX1 132 yX1_onward, Cond.instanceMethod yX1_onward, Cond.selects RX1 yX1_onward yX1_onward, Cond.code yX1_onward cX1_onward 5 (some .int), Cond.fieldLink RX1 20 "HexRooms" "shutDoors" "[Z", Cond.methodLink RX1 117 yX1_neighbour, Cond.instanceMethod yX1_neighbour]
def wsX1_sees_r2 : List Cond := [Cond.selects RX1 yX1_neighbour yX1_neighbour, Cond.code yX1_neighbour cX1_neighbour 3 (some .int), Cond.fieldLink RX1 12 "HexRooms" "plan" "LHexRooms$Plan;", Cond.methodLink RX1 196 yX0_nextTo, Cond.instanceMethod yX0_nextTo, Cond.selects RX0 yX0_nextTo yX0_nextTo, Cond.initialized RX0, Cond.code yX0_nextTo cX0_nextTo 3 (some .int), Cond.fieldLink RX0 24 "HexRooms$Plan" "neighbours" "[I", Cond.static yX1_doorOf, Cond.code yX1_doorOf cX1_doorOf 2 (some .int), Cond.methodLink RX1 102 yX1_orNone, Cond.instanceMethod yX1_orNone, Cond.selects RX1 yX1_orNone yX1_orNone, Cond.code yX1_orNone cX1_orNone 2 (some .int), Cond.methodLink RX1 69 yX1_doorOf]
def wsX1_sees : List Cond := .code yX1_sees cX1_sees 5 (some .boolean) :: ((wsX1_sees_r1 ++ wsX1_sees_r2) ++ wsX10 ++ wsX00 ++ (vx_at0 RX1 183 "java/lang/IndexOutOfBoundsException" ["java/lang/RuntimeException", "java/lang/Exception"]).filter goodWord)
def wsX1_forgetSteps : List Cond := .code yX1_forgetSteps cX1_forgetSteps 1 none :: ([.fieldLink RX1 36 "HexRooms" "stepsTo" "[I", .methodLink RX1 190 yJ7_fill_53178, .static yJ7_fill_53178, .initialized RJ7, .code yJ7_fill_53178 cJ7_fill_53178 4 none] ++ wsX10)
def wsX1_spreadFrom_r1 : List Cond := [Cond.fieldLink RX1 36 "HexRooms" "stepsTo" "[I", Cond.fieldLink RX1 39 "HexRooms" "queue" "[I", Cond.fieldLink RX1 16 "HexRooms" "floors" "[I", Cond.methodLink RX1 132 yX1_onward, Cond.instanceMethod yX1_onward, Cond.selects RX1 yX1_onward yX1_onward, Cond.initialized RX1, Cond.code yX1_onward cX1_onward 5 (some .int), Cond.fieldLink RX1 20 "HexRooms" "shutDoors" "[Z", Cond.methodLink RX1 117 yX1_neighbour, Cond.instanceMethod yX1_neighbour, Cond.selects RX1 yX1_neighbour yX1_neighbour, Cond.code yX1_neighbour cX1_neighbour 3 (some .int), Cond.fieldLink RX1 12 "HexRooms" "plan" "LHexRooms$Plan;", Cond.methodLink RX1 196 yX0_nextTo, Cond.instanceMethod yX0_nextTo, Cond.selects RX0 yX0_nextTo yX0_nextTo, Cond.initialized RX0, Cond.code yX0_nextTo cX0_nextTo 3 (some .int), Cond.fieldLink RX0 24 "HexRooms$Plan" "neighbours" "[I", Cond.static yX1_doorOf, Cond.code yX1_doorOf cX1_doorOf 2 (some .int), Cond.methodLink RX1 102 yX1_orNone, Cond.instanceMethod yX1_orNone]
def wsX1_spreadFrom_r2 : List Cond := [Cond.selects RX1 yX1_orNone yX1_orNone, Cond.code yX1_orNone cX1_orNone 2 (some .int), Cond.fieldLink RX1 50 "HexRooms" "rooms" "I", Cond.methodLink RX1 69 yX1_doorOf]
def wsX1_spreadFrom : List Cond := .code yX1_spreadFrom cX1_spreadFrom 7 none :: ((wsX1_spreadFrom_r1 ++ wsX1_spreadFrom_r2) ++ wsX10 ++ wsX00)
def wsX1_stepsBetween_r1 : List Cond := [Cond.fieldLink RX1 36 "HexRooms" "stepsTo" "[I", Cond.methodLink RX1 136 yX1_forgetSteps, Cond.instanceMethod yX1_forgetSteps, Cond.selects RX1 yX1_forgetSteps yX1_forgetSteps, Cond.initialized RX1, Cond.code yX1_forgetSteps cX1_forgetSteps 1 none, Cond.methodLink RX1 190 yJ7_fill_53178, Cond.static yJ7_fill_53178, Cond.initialized RJ7, Cond.code yJ7_fill_53178 cJ7_fill_53178 4 none, Cond.methodLink RX1 139 yX1_spreadFrom, Cond.instanceMethod yX1_spreadFrom, Cond.selects RX1 yX1_spreadFrom yX1_spreadFrom, Cond.code yX1_spreadFrom cX1_spreadFrom 7 none, Cond.fieldLink RX1 39 "HexRooms" "queue" "[I", Cond.fieldLink RX1 16 "HexRooms" "floors" "[I", Cond.methodLink RX1 132 yX1_onward, Cond.instanceMethod yX1_onward, Cond.selects RX1 yX1_onward yX1_onward, Cond.code yX1_onward cX1_onward 5 (some .int), Cond.fieldLink RX1 20 "HexRooms" "shutDoors" "[Z", Cond.methodLink RX1 117 yX1_neighbour, Cond.instanceMethod yX1_neighbour, Cond.selects RX1 yX1_neighbour yX1_neighbour]
def wsX1_stepsBetween_r2 : List Cond := [Cond.code yX1_neighbour cX1_neighbour 3 (some .int), Cond.fieldLink RX1 12 "HexRooms" "plan" "LHexRooms$Plan;", Cond.methodLink RX1 196 yX0_nextTo, Cond.instanceMethod yX0_nextTo, Cond.selects RX0 yX0_nextTo yX0_nextTo, Cond.initialized RX0, Cond.code yX0_nextTo cX0_nextTo 3 (some .int), Cond.fieldLink RX0 24 "HexRooms$Plan" "neighbours" "[I", Cond.static yX1_doorOf, Cond.code yX1_doorOf cX1_doorOf 2 (some .int), Cond.methodLink RX1 102 yX1_orNone, Cond.instanceMethod yX1_orNone, Cond.selects RX1 yX1_orNone yX1_orNone, Cond.code yX1_orNone cX1_orNone 2 (some .int), Cond.fieldLink RX1 50 "HexRooms" "rooms" "I", Cond.methodLink RX1 69 yX1_doorOf]
def wsX1_stepsBetween : List Cond := .code yX1_stepsBetween cX1_stepsBetween 3 (some .int) :: ((wsX1_stepsBetween_r1 ++ wsX1_stepsBetween_r2) ++ wsX10 ++ wsX00)
def wsX1_way_r1 : List Cond := [Cond.methodLink RX1 54 yX1_needRoom, Cond.instanceMethod yX1_needRoom, Cond.selects RX1 yX1_needRoom yX1_needRoom, Cond.initialized RX1, Cond.code yX1_needRoom cX1_needRoom 2 none, Cond.fieldLink RX1 50 "HexRooms" "rooms" "I", Cond.methodLink RX1 57 yX1_needIndex, Cond.static yX1_needIndex, Cond.code yX1_needIndex cX1_needIndex 2 none, Cond.classLink RX1 181 "java/lang/IndexOutOfBoundsException", Cond.initialized "java/lang/IndexOutOfBoundsException", Cond.methodLink RX1 129 yX1_stepsBetween, Cond.instanceMethod yX1_stepsBetween, Cond.selects RX1 yX1_stepsBetween yX1_stepsBetween, Cond.code yX1_stepsBetween cX1_stepsBetween 3 (some .int), Cond.fieldLink RX1 36 "HexRooms" "stepsTo" "[I", Cond.methodLink RX1 136 yX1_forgetSteps, Cond.instanceMethod yX1_forgetSteps, Cond.selects RX1 yX1_forgetSteps yX1_forgetSteps, Cond.code yX1_forgetSteps cX1_forgetSteps 1 none, Cond.methodLink RX1 190 yJ7_fill_53178, Cond.static yJ7_fill_53178, Cond.initialized RJ7, Cond.code yJ7_fill_53178 cJ7_fill_53178 4 none]
def wsX1_way_r2 : List Cond := [Cond.methodLink RX1 139 yX1_spreadFrom, Cond.instanceMethod yX1_spreadFrom, Cond.selects RX1 yX1_spreadFrom yX1_spreadFrom, Cond.code yX1_spreadFrom cX1_spreadFrom 7 none, Cond.fieldLink RX1 39 "HexRooms" "queue" "[I", Cond.fieldLink RX1 16 "HexRooms" "floors" "[I", Cond.methodLink RX1 132 yX1_onward, Cond.instanceMethod yX1_onward, Cond.selects RX1 yX1_onward yX1_onward, Cond.code yX1_onward cX1_onward 5 (some .int), Cond.fieldLink RX1 20 "HexRooms" "shutDoors" "[Z", Cond.methodLink RX1 117 yX1_neighbour, Cond.instanceMethod yX1_neighbour, Cond.selects RX1 yX1_neighbour yX1_neighbour, Cond.code yX1_neighbour cX1_neighbour 3 (some .int), Cond.fieldLink RX1 12 "HexRooms" "plan" "LHexRooms$Plan;", Cond.methodLink RX1 196 yX0_nextTo, Cond.instanceMethod yX0_nextTo, Cond.selects RX0 yX0_nextTo yX0_nextTo, Cond.initialized RX0, Cond.code yX0_nextTo cX0_nextTo 3 (some .int), Cond.fieldLink RX0 24 "HexRooms$Plan" "neighbours" "[I", Cond.static yX1_doorOf, Cond.code yX1_doorOf cX1_doorOf 2 (some .int)]
def wsX1_way_r3 : List Cond := [Cond.methodLink RX1 102 yX1_orNone, Cond.instanceMethod yX1_orNone, Cond.selects RX1 yX1_orNone yX1_orNone, Cond.code yX1_orNone cX1_orNone 2 (some .int), Cond.methodLink RX1 69 yX1_doorOf]
def wsX1_way : List Cond := .code yX1_way cX1_way 3 (some .int) :: ((wsX1_way_r1 ++ (wsX1_way_r2 ++ wsX1_way_r3)) ++ wsX10 ++ wsX00 ++ (vx_at0 RX1 183 "java/lang/IndexOutOfBoundsException" ["java/lang/RuntimeException", "java/lang/Exception"]).filter goodWord)
def wsX1_side_r1 : List Cond := [Cond.fieldLink RX1 16 "HexRooms" "floors" "[I", Cond.methodLink RX1 54 yX1_needRoom, Cond.instanceMethod yX1_needRoom, Cond.selects RX1 yX1_needRoom yX1_needRoom, Cond.initialized RX1, Cond.code yX1_needRoom cX1_needRoom 2 none, Cond.fieldLink RX1 50 "HexRooms" "rooms" "I", Cond.methodLink RX1 57 yX1_needIndex, Cond.static yX1_needIndex, Cond.code yX1_needIndex cX1_needIndex 2 none, Cond.classLink RX1 181 "java/lang/IndexOutOfBoundsException", Cond.initialized "java/lang/IndexOutOfBoundsException", Cond.methodLink RX1 132 yX1_onward, Cond.instanceMethod yX1_onward, Cond.selects RX1 yX1_onward yX1_onward, Cond.code yX1_onward cX1_onward 5 (some .int), Cond.fieldLink RX1 20 "HexRooms" "shutDoors" "[Z", Cond.methodLink RX1 117 yX1_neighbour, Cond.instanceMethod yX1_neighbour, Cond.selects RX1 yX1_neighbour yX1_neighbour, Cond.code yX1_neighbour cX1_neighbour 3 (some .int), Cond.fieldLink RX1 12 "HexRooms" "plan" "LHexRooms$Plan;", Cond.methodLink RX1 196 yX0_nextTo, Cond.instanceMethod yX0_nextTo]
def wsX1_side_r2 : List Cond := [Cond.selects RX0 yX0_nextTo yX0_nextTo, Cond.initialized RX0, Cond.code yX0_nextTo cX0_nextTo 3 (some .int), Cond.fieldLink RX0 24 "HexRooms$Plan" "neighbours" "[I", Cond.static yX1_doorOf, Cond.code yX1_doorOf cX1_doorOf 2 (some .int), Cond.methodLink RX1 102 yX1_orNone, Cond.instanceMethod yX1_orNone, Cond.selects RX1 yX1_orNone yX1_orNone, Cond.code yX1_orNone cX1_orNone 2 (some .int), Cond.methodLink RX1 69 yX1_doorOf, Cond.methodLink RX1 129 yX1_stepsBetween, Cond.instanceMethod yX1_stepsBetween, Cond.selects RX1 yX1_stepsBetween yX1_stepsBetween, Cond.code yX1_stepsBetween cX1_stepsBetween 3 (some .int), Cond.fieldLink RX1 36 "HexRooms" "stepsTo" "[I", Cond.methodLink RX1 136 yX1_forgetSteps, Cond.instanceMethod yX1_forgetSteps, Cond.selects RX1 yX1_forgetSteps yX1_forgetSteps, Cond.code yX1_forgetSteps cX1_forgetSteps 1 none, Cond.methodLink RX1 190 yJ7_fill_53178, Cond.static yJ7_fill_53178, Cond.initialized RJ7, Cond.code yJ7_fill_53178 cJ7_fill_53178 4 none]
def wsX1_side_r3 : List Cond := [Cond.methodLink RX1 139 yX1_spreadFrom, Cond.instanceMethod yX1_spreadFrom, Cond.selects RX1 yX1_spreadFrom yX1_spreadFrom, Cond.code yX1_spreadFrom cX1_spreadFrom 7 none, Cond.fieldLink RX1 39 "HexRooms" "queue" "[I"]
def wsX1_side : List Cond := .code yX1_side cX1_side 8 (some .int) :: ((wsX1_side_r1 ++ (wsX1_side_r2 ++ wsX1_side_r3)) ++ wsX10 ++ wsX00 ++ (vx_at0 RX1 183 "java/lang/IndexOutOfBoundsException" ["java/lang/RuntimeException", "java/lang/Exception"]).filter goodWord)
def wsX1_reach_r1 : List Cond := [Cond.fieldLink RX1 50 "HexRooms" "rooms" "I", Cond.fieldLink RX1 36 "HexRooms" "stepsTo" "[I", Cond.methodLink RX1 54 yX1_needRoom, Cond.instanceMethod yX1_needRoom, Cond.selects RX1 yX1_needRoom yX1_needRoom, Cond.initialized RX1, Cond.code yX1_needRoom cX1_needRoom 2 none, Cond.methodLink RX1 57 yX1_needIndex, Cond.static yX1_needIndex, Cond.code yX1_needIndex cX1_needIndex 2 none, Cond.classLink RX1 181 "java/lang/IndexOutOfBoundsException", Cond.initialized "java/lang/IndexOutOfBoundsException", Cond.methodLink RX1 46 yX1_needNumber, Cond.static yX1_needNumber, Cond.code yX1_needNumber cX1_needNumber 3 none, Cond.classLink RX1 184 "java/lang/IllegalArgumentException", Cond.initialized "java/lang/IllegalArgumentException", Cond.methodLink RX1 136 yX1_forgetSteps, Cond.instanceMethod yX1_forgetSteps, Cond.selects RX1 yX1_forgetSteps yX1_forgetSteps, Cond.code yX1_forgetSteps cX1_forgetSteps 1 none, Cond.methodLink RX1 190 yJ7_fill_53178, Cond.static yJ7_fill_53178, Cond.initialized RJ7]
def wsX1_reach_r2 : List Cond := [Cond.code yJ7_fill_53178 cJ7_fill_53178 4 none, Cond.methodLink RX1 139 yX1_spreadFrom, Cond.instanceMethod yX1_spreadFrom, Cond.selects RX1 yX1_spreadFrom yX1_spreadFrom, Cond.code yX1_spreadFrom cX1_spreadFrom 7 none, Cond.fieldLink RX1 39 "HexRooms" "queue" "[I", Cond.fieldLink RX1 16 "HexRooms" "floors" "[I", Cond.methodLink RX1 132 yX1_onward, Cond.instanceMethod yX1_onward, Cond.selects RX1 yX1_onward yX1_onward, Cond.code yX1_onward cX1_onward 5 (some .int), Cond.fieldLink RX1 20 "HexRooms" "shutDoors" "[Z", Cond.methodLink RX1 117 yX1_neighbour, Cond.instanceMethod yX1_neighbour, Cond.selects RX1 yX1_neighbour yX1_neighbour, Cond.code yX1_neighbour cX1_neighbour 3 (some .int), Cond.fieldLink RX1 12 "HexRooms" "plan" "LHexRooms$Plan;", Cond.methodLink RX1 196 yX0_nextTo, Cond.instanceMethod yX0_nextTo, Cond.selects RX0 yX0_nextTo yX0_nextTo, Cond.initialized RX0, Cond.code yX0_nextTo cX0_nextTo 3 (some .int), Cond.fieldLink RX0 24 "HexRooms$Plan" "neighbours" "[I", Cond.static yX1_doorOf]
def wsX1_reach_r3 : List Cond := [Cond.code yX1_doorOf cX1_doorOf 2 (some .int), Cond.methodLink RX1 102 yX1_orNone, Cond.instanceMethod yX1_orNone, Cond.selects RX1 yX1_orNone yX1_orNone, Cond.code yX1_orNone cX1_orNone 2 (some .int), Cond.methodLink RX1 69 yX1_doorOf]
def wsX1_reach : List Cond := .code yX1_reach cX1_reach 5 (some .int) :: ((wsX1_reach_r1 ++ (wsX1_reach_r2 ++ wsX1_reach_r3)) ++ wsX10 ++ wsX00 ++ (vx_at0 RX1 183 "java/lang/IndexOutOfBoundsException" ["java/lang/RuntimeException", "java/lang/Exception"]).filter goodWord ++ (vx_at0 RX1 186 "java/lang/IllegalArgumentException" ["java/lang/RuntimeException", "java/lang/Exception"]).filter goodWord)
def wsX1_standing : List Cond := .code yX1_standing cX1_standing 6 (some .int) :: ([.fieldLink RX1 16 "HexRooms" "floors" "[I"] ++ wsX10)
def wsX1_ring_r1 : List Cond := [Cond.fieldLink RX1 24 "HexRooms" "light" "[I", Cond.methodLink RX1 76 yX1_needRing, Cond.instanceMethod yX1_needRing, Cond.selects RX1 yX1_needRing yX1_needRing, Cond.initialized RX1, Cond.code yX1_needRing cX1_needRing 2 none, Cond.fieldLink RX1 149 "HexRooms" "rings" "I", Cond.methodLink RX1 57 yX1_needIndex, Cond.static yX1_needIndex, Cond.code yX1_needIndex cX1_needIndex 2 none, Cond.classLink RX1 181 "java/lang/IndexOutOfBoundsException", Cond.initialized "java/lang/IndexOutOfBoundsException", Cond.methodLink RX1 83 yX0_firstRoomOf, Cond.static yX0_firstRoomOf, Cond.initialized RX0, Cond.code yX0_firstRoomOf cX0_firstRoomOf 1 (some .int), Cond.methodLink RX1 86 yX0_sizeOf, Cond.static yX0_sizeOf, Cond.code yX0_sizeOf cX0_sizeOf 1 (some .int), Cond.methodLink RX1 142 yX1_standing, Cond.instanceMethod yX1_standing, Cond.selects RX1 yX1_standing yX1_standing, Cond.code yX1_standing cX1_standing 6 (some .int), Cond.fieldLink RX1 16 "HexRooms" "floors" "[I"]
def wsX1_ring_r2 : List Cond := [Cond.methodLink RX1 146 yX1_litAmong, Cond.static yX1_litAmong, Cond.code yX1_litAmong cX1_litAmong 5 (some .int)]
def wsX1_ring : List Cond := .code yX1_ring cX1_ring 5 (some .int) :: ((wsX1_ring_r1 ++ wsX1_ring_r2) ++ wsX10 ++ (vx_at0 RX1 183 "java/lang/IndexOutOfBoundsException" ["java/lang/RuntimeException", "java/lang/Exception"]).filter goodWord)
def wsX1_doorsShut : List Cond := .code yX1_doorsShut cX1_doorsShut 4 (some .int) :: ([.fieldLink RX1 50 "HexRooms" "rooms" "I", .fieldLink RX1 20 "HexRooms" "shutDoors" "[Z", .methodLink RX1 69 yX1_doorOf, .static yX1_doorOf, .initialized RX1, .code yX1_doorOf cX1_doorOf 2 (some .int)] ++ wsX10)
def wsX1_parts_r1 : List Cond := [Cond.fieldLink RX1 50 "HexRooms" "rooms" "I", Cond.fieldLink RX1 16 "HexRooms" "floors" "[I", Cond.fieldLink RX1 36 "HexRooms" "stepsTo" "[I", Cond.methodLink RX1 136 yX1_forgetSteps, Cond.instanceMethod yX1_forgetSteps, Cond.selects RX1 yX1_forgetSteps yX1_forgetSteps, Cond.initialized RX1, Cond.code yX1_forgetSteps cX1_forgetSteps 1 none, Cond.methodLink RX1 190 yJ7_fill_53178, Cond.static yJ7_fill_53178, Cond.initialized RJ7, Cond.code yJ7_fill_53178 cJ7_fill_53178 4 none, Cond.methodLink RX1 139 yX1_spreadFrom, Cond.instanceMethod yX1_spreadFrom, Cond.selects RX1 yX1_spreadFrom yX1_spreadFrom, Cond.code yX1_spreadFrom cX1_spreadFrom 7 none, Cond.fieldLink RX1 39 "HexRooms" "queue" "[I", Cond.methodLink RX1 132 yX1_onward, Cond.instanceMethod yX1_onward, Cond.selects RX1 yX1_onward yX1_onward, Cond.code yX1_onward cX1_onward 5 (some .int), Cond.fieldLink RX1 20 "HexRooms" "shutDoors" "[Z", Cond.methodLink RX1 117 yX1_neighbour, Cond.instanceMethod yX1_neighbour]
def wsX1_parts_r2 : List Cond := [Cond.selects RX1 yX1_neighbour yX1_neighbour, Cond.code yX1_neighbour cX1_neighbour 3 (some .int), Cond.fieldLink RX1 12 "HexRooms" "plan" "LHexRooms$Plan;", Cond.methodLink RX1 196 yX0_nextTo, Cond.instanceMethod yX0_nextTo, Cond.selects RX0 yX0_nextTo yX0_nextTo, Cond.initialized RX0, Cond.code yX0_nextTo cX0_nextTo 3 (some .int), Cond.fieldLink RX0 24 "HexRooms$Plan" "neighbours" "[I", Cond.static yX1_doorOf, Cond.code yX1_doorOf cX1_doorOf 2 (some .int), Cond.methodLink RX1 102 yX1_orNone, Cond.instanceMethod yX1_orNone, Cond.selects RX1 yX1_orNone yX1_orNone, Cond.code yX1_orNone cX1_orNone 2 (some .int), Cond.methodLink RX1 69 yX1_doorOf]
def wsX1_parts : List Cond := .code yX1_parts cX1_parts 3 (some .int) :: ((wsX1_parts_r1 ++ wsX1_parts_r2) ++ wsX10 ++ wsX00)
def wsX1_count_r1 : List Cond := [Cond.fieldLink RX1 50 "HexRooms" "rooms" "I", Cond.fieldLink RX1 149 "HexRooms" "rings" "I", Cond.fieldLink RX1 24 "HexRooms" "light" "[I", Cond.methodLink RX1 57 yX1_needIndex, Cond.static yX1_needIndex, Cond.initialized RX1, Cond.code yX1_needIndex cX1_needIndex 2 none, Cond.classLink RX1 181 "java/lang/IndexOutOfBoundsException", Cond.initialized "java/lang/IndexOutOfBoundsException", Cond.methodLink RX1 142 yX1_standing, Cond.instanceMethod yX1_standing, Cond.selects RX1 yX1_standing yX1_standing, Cond.code yX1_standing cX1_standing 6 (some .int), Cond.fieldLink RX1 16 "HexRooms" "floors" "[I", Cond.methodLink RX1 152 yX1_doorsShut, Cond.instanceMethod yX1_doorsShut, Cond.selects RX1 yX1_doorsShut yX1_doorsShut, Cond.code yX1_doorsShut cX1_doorsShut 4 (some .int), Cond.fieldLink RX1 20 "HexRooms" "shutDoors" "[Z", Cond.methodLink RX1 69 yX1_doorOf, Cond.static yX1_doorOf, Cond.code yX1_doorOf cX1_doorOf 2 (some .int), Cond.methodLink RX1 146 yX1_litAmong, Cond.static yX1_litAmong]
def wsX1_count_r2 : List Cond := [Cond.code yX1_litAmong cX1_litAmong 5 (some .int), Cond.methodLink RX1 155 yX1_parts, Cond.instanceMethod yX1_parts, Cond.selects RX1 yX1_parts yX1_parts, Cond.code yX1_parts cX1_parts 3 (some .int), Cond.fieldLink RX1 36 "HexRooms" "stepsTo" "[I", Cond.methodLink RX1 136 yX1_forgetSteps, Cond.instanceMethod yX1_forgetSteps, Cond.selects RX1 yX1_forgetSteps yX1_forgetSteps, Cond.code yX1_forgetSteps cX1_forgetSteps 1 none, Cond.methodLink RX1 190 yJ7_fill_53178, Cond.static yJ7_fill_53178, Cond.initialized RJ7, Cond.code yJ7_fill_53178 cJ7_fill_53178 4 none, Cond.methodLink RX1 139 yX1_spreadFrom, Cond.instanceMethod yX1_spreadFrom, Cond.selects RX1 yX1_spreadFrom yX1_spreadFrom, Cond.code yX1_spreadFrom cX1_spreadFrom 7 none, Cond.fieldLink RX1 39 "HexRooms" "queue" "[I", Cond.methodLink RX1 132 yX1_onward, Cond.instanceMethod yX1_onward, Cond.selects RX1 yX1_onward yX1_onward, Cond.code yX1_onward cX1_onward 5 (some .int), Cond.methodLink RX1 117 yX1_neighbour]
def wsX1_count_r3 : List Cond := [Cond.instanceMethod yX1_neighbour, Cond.selects RX1 yX1_neighbour yX1_neighbour, Cond.code yX1_neighbour cX1_neighbour 3 (some .int), Cond.fieldLink RX1 12 "HexRooms" "plan" "LHexRooms$Plan;", Cond.methodLink RX1 196 yX0_nextTo, Cond.instanceMethod yX0_nextTo, Cond.selects RX0 yX0_nextTo yX0_nextTo, Cond.initialized RX0, Cond.code yX0_nextTo cX0_nextTo 3 (some .int), Cond.fieldLink RX0 24 "HexRooms$Plan" "neighbours" "[I", Cond.methodLink RX1 102 yX1_orNone, Cond.instanceMethod yX1_orNone, Cond.selects RX1 yX1_orNone yX1_orNone, Cond.code yX1_orNone cX1_orNone 2 (some .int)]
def wsX1_count : List Cond := .code yX1_count cX1_count 2 (some .int) :: ((wsX1_count_r1 ++ (wsX1_count_r2 ++ wsX1_count_r3)) ++ wsX10 ++ wsX00 ++ (vx_at0 RX1 183 "java/lang/IndexOutOfBoundsException" ["java/lang/RuntimeException", "java/lang/Exception"]).filter goodWord)
def wsX1_isTrialAsNow : List Cond := .code yX1_isTrialAsNow cX1_isTrialAsNow 2 (some .boolean) :: ([.fieldLink RX1 50 "HexRooms" "rooms" "I", .fieldLink RX1 27 "HexRooms" "trialFloors" "[I", .fieldLink RX1 16 "HexRooms" "floors" "[I"] ++ wsX10)
def wsX1_sixthsToSame : List Cond := .code yX1_sixthsToSame cX1_sixthsToSame 2 (some .int) :: ([.fieldLink RX1 27 "HexRooms" "trialFloors" "[I", .methodLink RX1 95 yX1_turnAllInto, .instanceMethod yX1_turnAllInto, .selects RX1 yX1_turnAllInto yX1_turnAllInto, .initialized RX1, .code yX1_turnAllInto cX1_turnAllInto 4 none, .fieldLink RX1 149 "HexRooms" "rings" "I", .methodLink RX1 79 yX1_turnRingInto, .instanceMethod yX1_turnRingInto, .selects RX1 yX1_turnRingInto yX1_turnRingInto, .code yX1_turnRingInto cX1_turnRingInto 7 none, .fieldLink RX1 16 "HexRooms" "floors" "[I", .methodLink RX1 83 yX0_firstRoomOf, .static yX0_firstRoomOf, .initialized RX0, .code yX0_firstRoomOf cX0_firstRoomOf 1 (some .int), .methodLink RX1 86 yX0_sizeOf, .static yX0_sizeOf, .code yX0_sizeOf cX0_sizeOf 1 (some .int), .methodLink RX1 158 yX1_isTrialAsNow, .instanceMethod yX1_isTrialAsNow, .selects RX1 yX1_isTrialAsNow yX1_isTrialAsNow, .code yX1_isTrialAsNow cX1_isTrialAsNow 2 (some .boolean), .fieldLink RX1 50 "HexRooms" "rooms" "I"] ++ wsX10)
def wsX1_litAfterTurn_r1 : List Cond := [Cond.fieldLink RX1 16 "HexRooms" "floors" "[I", Cond.fieldLink RX1 27 "HexRooms" "trialFloors" "[I", Cond.fieldLink RX1 50 "HexRooms" "rooms" "I", Cond.methodLink RX1 89 arraycopyName, Cond.native arraycopyName, Cond.static arraycopyName, Cond.initialized "java/lang/System", Cond.fieldLink RX1 30 "HexRooms" "trialLight" "[I", Cond.methodLink RX1 79 yX1_turnRingInto, Cond.instanceMethod yX1_turnRingInto, Cond.selects RX1 yX1_turnRingInto yX1_turnRingInto, Cond.initialized RX1, Cond.code yX1_turnRingInto cX1_turnRingInto 7 none, Cond.methodLink RX1 83 yX0_firstRoomOf, Cond.static yX0_firstRoomOf, Cond.initialized RX0, Cond.code yX0_firstRoomOf cX0_firstRoomOf 1 (some .int), Cond.methodLink RX1 86 yX0_sizeOf, Cond.static yX0_sizeOf, Cond.code yX0_sizeOf cX0_sizeOf 1 (some .int), Cond.methodLink RX1 199 yX1_shine, Cond.instanceMethod yX1_shine, Cond.selects RX1 yX1_shine yX1_shine, Cond.code yX1_shine cX1_shine 6 (some .int)]
def wsX1_litAfterTurn_r2 : List Cond := [Cond.fieldLink RX1 33 "HexRooms" "beam" "[I", Cond.methodLink RX1 190 yJ7_fill_53178, Cond.static yJ7_fill_53178, Cond.initialized RJ7, Cond.code yJ7_fill_53178 cJ7_fill_53178 4 none, Cond.methodLink RX1 125 yX1_beamFrom, Cond.instanceMethod yX1_beamFrom, Cond.selects RX1 yX1_beamFrom yX1_beamFrom, Cond.code yX1_beamFrom cX1_beamFrom 6 (some .int), Cond.methodLink RX1 132 yX1_onward, Cond.instanceMethod yX1_onward, Cond.selects RX1 yX1_onward yX1_onward, Cond.code yX1_onward cX1_onward 5 (some .int), Cond.fieldLink RX1 20 "HexRooms" "shutDoors" "[Z", Cond.methodLink RX1 117 yX1_neighbour, Cond.instanceMethod yX1_neighbour, Cond.selects RX1 yX1_neighbour yX1_neighbour, Cond.code yX1_neighbour cX1_neighbour 3 (some .int), Cond.fieldLink RX1 12 "HexRooms" "plan" "LHexRooms$Plan;", Cond.methodLink RX1 196 yX0_nextTo, Cond.instanceMethod yX0_nextTo, Cond.selects RX0 yX0_nextTo yX0_nextTo, Cond.code yX0_nextTo cX0_nextTo 3 (some .int), Cond.fieldLink RX0 24 "HexRooms$Plan" "neighbours" "[I"]
def wsX1_litAfterTurn_r3 : List Cond := [Cond.static yX1_doorOf, Cond.code yX1_doorOf cX1_doorOf 2 (some .int), Cond.methodLink RX1 102 yX1_orNone, Cond.instanceMethod yX1_orNone, Cond.selects RX1 yX1_orNone yX1_orNone, Cond.code yX1_orNone cX1_orNone 2 (some .int), Cond.methodLink RX1 69 yX1_doorOf, Cond.methodLink RX1 146 yX1_litAmong, Cond.static yX1_litAmong, Cond.code yX1_litAmong cX1_litAmong 5 (some .int)]
def wsX1_litAfterTurn : List Cond := .code yX1_litAfterTurn cX1_litAfterTurn 3 (some .int) :: ((wsX1_litAfterTurn_r1 ++ (wsX1_litAfterTurn_r2 ++ wsX1_litAfterTurn_r3)) ++ wsX10 ++ wsX00)
def wsX1_would_r1 : List Cond := [Cond.methodLink RX1 76 yX1_needRing, Cond.instanceMethod yX1_needRing, Cond.selects RX1 yX1_needRing yX1_needRing, Cond.initialized RX1, Cond.code yX1_needRing cX1_needRing 2 none, Cond.fieldLink RX1 149 "HexRooms" "rings" "I", Cond.methodLink RX1 57 yX1_needIndex, Cond.static yX1_needIndex, Cond.code yX1_needIndex cX1_needIndex 2 none, Cond.classLink RX1 181 "java/lang/IndexOutOfBoundsException", Cond.initialized "java/lang/IndexOutOfBoundsException", Cond.methodLink RX1 86 yX0_sizeOf, Cond.static yX0_sizeOf, Cond.initialized RX0, Cond.code yX0_sizeOf cX0_sizeOf 1 (some .int), Cond.methodLink RX1 46 yX1_needNumber, Cond.static yX1_needNumber, Cond.code yX1_needNumber cX1_needNumber 3 none, Cond.classLink RX1 184 "java/lang/IllegalArgumentException", Cond.initialized "java/lang/IllegalArgumentException", Cond.methodLink RX1 162 yX1_litAfterTurn, Cond.instanceMethod yX1_litAfterTurn, Cond.selects RX1 yX1_litAfterTurn yX1_litAfterTurn, Cond.code yX1_litAfterTurn cX1_litAfterTurn 3 (some .int)]
def wsX1_would_r2 : List Cond := [Cond.fieldLink RX1 16 "HexRooms" "floors" "[I", Cond.fieldLink RX1 27 "HexRooms" "trialFloors" "[I", Cond.fieldLink RX1 50 "HexRooms" "rooms" "I", Cond.methodLink RX1 89 arraycopyName, Cond.native arraycopyName, Cond.static arraycopyName, Cond.initialized "java/lang/System", Cond.fieldLink RX1 30 "HexRooms" "trialLight" "[I", Cond.methodLink RX1 79 yX1_turnRingInto, Cond.instanceMethod yX1_turnRingInto, Cond.selects RX1 yX1_turnRingInto yX1_turnRingInto, Cond.code yX1_turnRingInto cX1_turnRingInto 7 none, Cond.methodLink RX1 83 yX0_firstRoomOf, Cond.static yX0_firstRoomOf, Cond.code yX0_firstRoomOf cX0_firstRoomOf 1 (some .int), Cond.methodLink RX1 199 yX1_shine, Cond.instanceMethod yX1_shine, Cond.selects RX1 yX1_shine yX1_shine, Cond.code yX1_shine cX1_shine 6 (some .int), Cond.fieldLink RX1 33 "HexRooms" "beam" "[I", Cond.methodLink RX1 190 yJ7_fill_53178, Cond.static yJ7_fill_53178, Cond.initialized RJ7, Cond.code yJ7_fill_53178 cJ7_fill_53178 4 none]
def wsX1_would_r3 : List Cond := [Cond.methodLink RX1 125 yX1_beamFrom, Cond.instanceMethod yX1_beamFrom, Cond.selects RX1 yX1_beamFrom yX1_beamFrom, Cond.code yX1_beamFrom cX1_beamFrom 6 (some .int), Cond.methodLink RX1 132 yX1_onward, Cond.instanceMethod yX1_onward, Cond.selects RX1 yX1_onward yX1_onward, Cond.code yX1_onward cX1_onward 5 (some .int), Cond.fieldLink RX1 20 "HexRooms" "shutDoors" "[Z", Cond.methodLink RX1 117 yX1_neighbour, Cond.instanceMethod yX1_neighbour, Cond.selects RX1 yX1_neighbour yX1_neighbour, Cond.code yX1_neighbour cX1_neighbour 3 (some .int), Cond.fieldLink RX1 12 "HexRooms" "plan" "LHexRooms$Plan;", Cond.methodLink RX1 196 yX0_nextTo, Cond.instanceMethod yX0_nextTo, Cond.selects RX0 yX0_nextTo yX0_nextTo, Cond.code yX0_nextTo cX0_nextTo 3 (some .int), Cond.fieldLink RX0 24 "HexRooms$Plan" "neighbours" "[I", Cond.static yX1_doorOf, Cond.code yX1_doorOf cX1_doorOf 2 (some .int), Cond.methodLink RX1 102 yX1_orNone, Cond.instanceMethod yX1_orNone, Cond.selects RX1 yX1_orNone yX1_orNone]
def wsX1_would_r4 : List Cond := [Cond.code yX1_orNone cX1_orNone 2 (some .int), Cond.methodLink RX1 69 yX1_doorOf, Cond.methodLink RX1 146 yX1_litAmong, Cond.static yX1_litAmong, Cond.code yX1_litAmong cX1_litAmong 5 (some .int)]
def wsX1_would : List Cond := .code yX1_would cX1_would 3 (some .int) :: ((wsX1_would_r1 ++ (wsX1_would_r2 ++ (wsX1_would_r3 ++ wsX1_would_r4))) ++ wsX10 ++ wsX00 ++ (vx_at0 RX1 183 "java/lang/IndexOutOfBoundsException" ["java/lang/RuntimeException", "java/lang/Exception"]).filter goodWord ++ (vx_at0 RX1 186 "java/lang/IllegalArgumentException" ["java/lang/RuntimeException", "java/lang/Exception"]).filter goodWord)
def wsX1_advise_r1 : List Cond := [Cond.methodLink RX1 76 yX1_needRing, Cond.instanceMethod yX1_needRing, Cond.selects RX1 yX1_needRing yX1_needRing, Cond.initialized RX1, Cond.code yX1_needRing cX1_needRing 2 none, Cond.fieldLink RX1 149 "HexRooms" "rings" "I", Cond.methodLink RX1 57 yX1_needIndex, Cond.static yX1_needIndex, Cond.code yX1_needIndex cX1_needIndex 2 none, Cond.classLink RX1 181 "java/lang/IndexOutOfBoundsException", Cond.initialized "java/lang/IndexOutOfBoundsException", Cond.methodLink RX1 86 yX0_sizeOf, Cond.static yX0_sizeOf, Cond.initialized RX0, Cond.code yX0_sizeOf cX0_sizeOf 1 (some .int), Cond.methodLink RX1 162 yX1_litAfterTurn, Cond.instanceMethod yX1_litAfterTurn, Cond.selects RX1 yX1_litAfterTurn yX1_litAfterTurn, Cond.code yX1_litAfterTurn cX1_litAfterTurn 3 (some .int), Cond.fieldLink RX1 16 "HexRooms" "floors" "[I", Cond.fieldLink RX1 27 "HexRooms" "trialFloors" "[I", Cond.fieldLink RX1 50 "HexRooms" "rooms" "I", Cond.methodLink RX1 89 arraycopyName, Cond.native arraycopyName]
def wsX1_advise_r2 : List Cond := [Cond.static arraycopyName, Cond.initialized "java/lang/System", Cond.fieldLink RX1 30 "HexRooms" "trialLight" "[I", Cond.methodLink RX1 79 yX1_turnRingInto, Cond.instanceMethod yX1_turnRingInto, Cond.selects RX1 yX1_turnRingInto yX1_turnRingInto, Cond.code yX1_turnRingInto cX1_turnRingInto 7 none, Cond.methodLink RX1 83 yX0_firstRoomOf, Cond.static yX0_firstRoomOf, Cond.code yX0_firstRoomOf cX0_firstRoomOf 1 (some .int), Cond.methodLink RX1 199 yX1_shine, Cond.instanceMethod yX1_shine, Cond.selects RX1 yX1_shine yX1_shine, Cond.code yX1_shine cX1_shine 6 (some .int), Cond.fieldLink RX1 33 "HexRooms" "beam" "[I", Cond.methodLink RX1 190 yJ7_fill_53178, Cond.static yJ7_fill_53178, Cond.initialized RJ7, Cond.code yJ7_fill_53178 cJ7_fill_53178 4 none, Cond.methodLink RX1 125 yX1_beamFrom, Cond.instanceMethod yX1_beamFrom, Cond.selects RX1 yX1_beamFrom yX1_beamFrom, Cond.code yX1_beamFrom cX1_beamFrom 6 (some .int), Cond.methodLink RX1 132 yX1_onward]
def wsX1_advise_r3 : List Cond := [Cond.instanceMethod yX1_onward, Cond.selects RX1 yX1_onward yX1_onward, Cond.code yX1_onward cX1_onward 5 (some .int), Cond.fieldLink RX1 20 "HexRooms" "shutDoors" "[Z", Cond.methodLink RX1 117 yX1_neighbour, Cond.instanceMethod yX1_neighbour, Cond.selects RX1 yX1_neighbour yX1_neighbour, Cond.code yX1_neighbour cX1_neighbour 3 (some .int), Cond.fieldLink RX1 12 "HexRooms" "plan" "LHexRooms$Plan;", Cond.methodLink RX1 196 yX0_nextTo, Cond.instanceMethod yX0_nextTo, Cond.selects RX0 yX0_nextTo yX0_nextTo, Cond.code yX0_nextTo cX0_nextTo 3 (some .int), Cond.fieldLink RX0 24 "HexRooms$Plan" "neighbours" "[I", Cond.static yX1_doorOf, Cond.code yX1_doorOf cX1_doorOf 2 (some .int), Cond.methodLink RX1 102 yX1_orNone, Cond.instanceMethod yX1_orNone, Cond.selects RX1 yX1_orNone yX1_orNone, Cond.code yX1_orNone cX1_orNone 2 (some .int), Cond.methodLink RX1 69 yX1_doorOf, Cond.methodLink RX1 146 yX1_litAmong, Cond.static yX1_litAmong, Cond.code yX1_litAmong cX1_litAmong 5 (some .int)]
def wsX1_advise : List Cond := .code yX1_advise cX1_advise 6 (some .int) :: ((wsX1_advise_r1 ++ (wsX1_advise_r2 ++ wsX1_advise_r3)) ++ wsX10 ++ wsX00 ++ (vx_at0 RX1 183 "java/lang/IndexOutOfBoundsException" ["java/lang/RuntimeException", "java/lang/Exception"]).filter goodWord)
def wsX1_newlyLitFrom_r1 : List Cond := [Cond.fieldLink RX1 16 "HexRooms" "floors" "[I", Cond.fieldLink RX1 24 "HexRooms" "light" "[I", Cond.fieldLink RX1 33 "HexRooms" "beam" "[I", Cond.methodLink RX1 125 yX1_beamFrom, Cond.instanceMethod yX1_beamFrom, Cond.selects RX1 yX1_beamFrom yX1_beamFrom, Cond.initialized RX1, Cond.code yX1_beamFrom cX1_beamFrom 6 (some .int), Cond.methodLink RX1 132 yX1_onward, Cond.instanceMethod yX1_onward, Cond.selects RX1 yX1_onward yX1_onward, Cond.code yX1_onward cX1_onward 5 (some .int), Cond.fieldLink RX1 20 "HexRooms" "shutDoors" "[Z", Cond.methodLink RX1 117 yX1_neighbour, Cond.instanceMethod yX1_neighbour, Cond.selects RX1 yX1_neighbour yX1_neighbour, Cond.code yX1_neighbour cX1_neighbour 3 (some .int), Cond.fieldLink RX1 12 "HexRooms" "plan" "LHexRooms$Plan;", Cond.methodLink RX1 196 yX0_nextTo, Cond.instanceMethod yX0_nextTo, Cond.selects RX0 yX0_nextTo yX0_nextTo, Cond.initialized RX0, Cond.code yX0_nextTo cX0_nextTo 3 (some .int), Cond.fieldLink RX0 24 "HexRooms$Plan" "neighbours" "[I"]
def wsX1_newlyLitFrom_r2 : List Cond := [Cond.static yX1_doorOf, Cond.code yX1_doorOf cX1_doorOf 2 (some .int), Cond.methodLink RX1 102 yX1_orNone, Cond.instanceMethod yX1_orNone, Cond.selects RX1 yX1_orNone yX1_orNone, Cond.code yX1_orNone cX1_orNone 2 (some .int), Cond.fieldLink RX1 50 "HexRooms" "rooms" "I", Cond.methodLink RX1 69 yX1_doorOf]
def wsX1_newlyLitFrom : List Cond := .code yX1_newlyLitFrom cX1_newlyLitFrom 5 (some .int) :: ((wsX1_newlyLitFrom_r1 ++ wsX1_newlyLitFrom_r2) ++ wsX10 ++ wsX00)
def wsX1_best_r1 : List Cond := [Cond.fieldLink RX1 50 "HexRooms" "rooms" "I", Cond.fieldLink RX1 16 "HexRooms" "floors" "[I", Cond.methodLink RX1 165 yX1_newlyLitFrom, Cond.instanceMethod yX1_newlyLitFrom, Cond.selects RX1 yX1_newlyLitFrom yX1_newlyLitFrom, Cond.initialized RX1, Cond.code yX1_newlyLitFrom cX1_newlyLitFrom 5 (some .int), Cond.fieldLink RX1 24 "HexRooms" "light" "[I", Cond.fieldLink RX1 33 "HexRooms" "beam" "[I", Cond.methodLink RX1 125 yX1_beamFrom, Cond.instanceMethod yX1_beamFrom, Cond.selects RX1 yX1_beamFrom yX1_beamFrom, Cond.code yX1_beamFrom cX1_beamFrom 6 (some .int), Cond.methodLink RX1 132 yX1_onward, Cond.instanceMethod yX1_onward, Cond.selects RX1 yX1_onward yX1_onward, Cond.code yX1_onward cX1_onward 5 (some .int), Cond.fieldLink RX1 20 "HexRooms" "shutDoors" "[Z", Cond.methodLink RX1 117 yX1_neighbour, Cond.instanceMethod yX1_neighbour, Cond.selects RX1 yX1_neighbour yX1_neighbour, Cond.code yX1_neighbour cX1_neighbour 3 (some .int), Cond.fieldLink RX1 12 "HexRooms" "plan" "LHexRooms$Plan;", Cond.methodLink RX1 196 yX0_nextTo]
def wsX1_best_r2 : List Cond := [Cond.instanceMethod yX0_nextTo, Cond.selects RX0 yX0_nextTo yX0_nextTo, Cond.initialized RX0, Cond.code yX0_nextTo cX0_nextTo 3 (some .int), Cond.fieldLink RX0 24 "HexRooms$Plan" "neighbours" "[I", Cond.static yX1_doorOf, Cond.code yX1_doorOf cX1_doorOf 2 (some .int), Cond.methodLink RX1 102 yX1_orNone, Cond.instanceMethod yX1_orNone, Cond.selects RX1 yX1_orNone yX1_orNone, Cond.code yX1_orNone cX1_orNone 2 (some .int), Cond.methodLink RX1 69 yX1_doorOf]
def wsX1_best : List Cond := .code yX1_best cX1_best 5 (some .int) :: ((wsX1_best_r1 ++ wsX1_best_r2) ++ wsX10 ++ wsX00)
def wsX1_mean : List Cond := .code yX1_mean cX1_mean 4 (some .double) :: ([.fieldLink RX1 24 "HexRooms" "light" "[I", .fieldLink RX1 50 "HexRooms" "rooms" "I", .methodLink RX1 146 yX1_litAmong, .static yX1_litAmong, .initialized RX1, .code yX1_litAmong cX1_litAmong 5 (some .int)] ++ wsX10)
def wsX1_digest_r1 : List Cond := [Cond.constantLong RX1 168 (1733), Cond.constantLong RX1 170 (31), Cond.fieldLink RX1 50 "HexRooms" "rooms" "I", Cond.fieldLink RX1 20 "HexRooms" "shutDoors" "[Z", Cond.fieldLink RX1 149 "HexRooms" "rings" "I", Cond.methodLink RX1 172 yX1_count, Cond.instanceMethod yX1_count, Cond.selects RX1 yX1_count yX1_count, Cond.initialized RX1, Cond.code yX1_count cX1_count 2 (some .int), Cond.fieldLink RX1 24 "HexRooms" "light" "[I", Cond.methodLink RX1 57 yX1_needIndex, Cond.static yX1_needIndex, Cond.code yX1_needIndex cX1_needIndex 2 none, Cond.classLink RX1 181 "java/lang/IndexOutOfBoundsException", Cond.initialized "java/lang/IndexOutOfBoundsException", Cond.methodLink RX1 142 yX1_standing, Cond.instanceMethod yX1_standing, Cond.selects RX1 yX1_standing yX1_standing, Cond.code yX1_standing cX1_standing 6 (some .int), Cond.fieldLink RX1 16 "HexRooms" "floors" "[I", Cond.methodLink RX1 152 yX1_doorsShut, Cond.instanceMethod yX1_doorsShut, Cond.selects RX1 yX1_doorsShut yX1_doorsShut]
def wsX1_digest_r2 : List Cond := [Cond.code yX1_doorsShut cX1_doorsShut 4 (some .int), Cond.methodLink RX1 69 yX1_doorOf, Cond.static yX1_doorOf, Cond.code yX1_doorOf cX1_doorOf 2 (some .int), Cond.methodLink RX1 146 yX1_litAmong, Cond.static yX1_litAmong, Cond.code yX1_litAmong cX1_litAmong 5 (some .int), Cond.methodLink RX1 155 yX1_parts, Cond.instanceMethod yX1_parts, Cond.selects RX1 yX1_parts yX1_parts, Cond.code yX1_parts cX1_parts 3 (some .int), Cond.fieldLink RX1 36 "HexRooms" "stepsTo" "[I", Cond.methodLink RX1 136 yX1_forgetSteps, Cond.instanceMethod yX1_forgetSteps, Cond.selects RX1 yX1_forgetSteps yX1_forgetSteps, Cond.code yX1_forgetSteps cX1_forgetSteps 1 none, Cond.methodLink RX1 190 yJ7_fill_53178, Cond.static yJ7_fill_53178, Cond.initialized RJ7, Cond.code yJ7_fill_53178 cJ7_fill_53178 4 none, Cond.methodLink RX1 139 yX1_spreadFrom, Cond.instanceMethod yX1_spreadFrom, Cond.selects RX1 yX1_spreadFrom yX1_spreadFrom, Cond.code yX1_spreadFrom cX1_spreadFrom 7 none]
def wsX1_digest_r3 : List Cond := [Cond.fieldLink RX1 39 "HexRooms" "queue" "[I", Cond.methodLink RX1 132 yX1_onward, Cond.instanceMethod yX1_onward, Cond.selects RX1 yX1_onward yX1_onward, Cond.code yX1_onward cX1_onward 5 (some .int), Cond.methodLink RX1 117 yX1_neighbour, Cond.instanceMethod yX1_neighbour, Cond.selects RX1 yX1_neighbour yX1_neighbour, Cond.code yX1_neighbour cX1_neighbour 3 (some .int), Cond.fieldLink RX1 12 "HexRooms" "plan" "LHexRooms$Plan;", Cond.methodLink RX1 196 yX0_nextTo, Cond.instanceMethod yX0_nextTo, Cond.selects RX0 yX0_nextTo yX0_nextTo, Cond.initialized RX0, Cond.code yX0_nextTo cX0_nextTo 3 (some .int), Cond.fieldLink RX0 24 "HexRooms$Plan" "neighbours" "[I", Cond.methodLink RX1 102 yX1_orNone, Cond.instanceMethod yX1_orNone, Cond.selects RX1 yX1_orNone yX1_orNone, Cond.code yX1_orNone cX1_orNone 2 (some .int), Cond.methodLink RX1 175 yX1_about, Cond.instanceMethod yX1_about, Cond.selects RX1 yX1_about yX1_about, Cond.code yX1_about cX1_about 3 (some .int)]
def wsX1_digest_r4 : List Cond := [Cond.methodLink RX1 54 yX1_needRoom, Cond.instanceMethod yX1_needRoom, Cond.selects RX1 yX1_needRoom yX1_needRoom, Cond.code yX1_needRoom cX1_needRoom 2 none, Cond.methodLink RX1 105 yX0_acrossOf, Cond.instanceMethod yX0_acrossOf, Cond.selects RX0 yX0_acrossOf yX0_acrossOf, Cond.code yX0_acrossOf cX0_acrossOf 2 (some .int), Cond.fieldLink RX0 9 "HexRooms$Plan" "acrosses" "[I", Cond.methodLink RX1 108 yX0_downOf, Cond.instanceMethod yX0_downOf, Cond.selects RX0 yX0_downOf yX0_downOf, Cond.code yX0_downOf cX0_downOf 2 (some .int), Cond.fieldLink RX0 15 "HexRooms$Plan" "downs" "[I", Cond.methodLink RX1 111 yX0_ringOf, Cond.instanceMethod yX0_ringOf, Cond.selects RX0 yX0_ringOf yX0_ringOf, Cond.code yX0_ringOf cX0_ringOf 2 (some .int), Cond.fieldLink RX0 18 "HexRooms$Plan" "rings" "[I", Cond.methodLink RX1 114 yX1_sidesOnward, Cond.instanceMethod yX1_sidesOnward, Cond.selects RX1 yX1_sidesOnward yX1_sidesOnward, Cond.code yX1_sidesOnward cX1_sidesOnward 4 (some .int), Cond.methodLink RX1 178 yX1_ring]
def wsX1_digest_r5 : List Cond := [Cond.instanceMethod yX1_ring, Cond.selects RX1 yX1_ring yX1_ring, Cond.code yX1_ring cX1_ring 5 (some .int), Cond.methodLink RX1 76 yX1_needRing, Cond.instanceMethod yX1_needRing, Cond.selects RX1 yX1_needRing yX1_needRing, Cond.code yX1_needRing cX1_needRing 2 none, Cond.methodLink RX1 83 yX0_firstRoomOf, Cond.static yX0_firstRoomOf, Cond.code yX0_firstRoomOf cX0_firstRoomOf 1 (some .int), Cond.methodLink RX1 86 yX0_sizeOf, Cond.static yX0_sizeOf, Cond.code yX0_sizeOf cX0_sizeOf 1 (some .int)]
def wsX1_digest : List Cond := .code yX1_digest cX1_digest 5 (some .long) :: ((wsX1_digest_r1 ++ (wsX1_digest_r2 ++ (wsX1_digest_r3 ++ (wsX1_digest_r4 ++ wsX1_digest_r5)))) ++ wsX10 ++ wsX00 ++ (vx_at0 RX1 183 "java/lang/IndexOutOfBoundsException" ["java/lang/RuntimeException", "java/lang/Exception"]).filter goodWord)
def wsX2_add : List Cond := .code yX2_add cX2_add 4 none :: ([.fieldLink RX2 9 "HexRoomsModel" "across" "[I", .fieldLink RX2 49 "HexRoomsModel" "rooms" "I", .fieldLink RX2 13 "HexRoomsModel" "down" "[I", .fieldLink RX2 16 "HexRoomsModel" "of" "[I", .fieldLink RX2 19 "HexRoomsModel" "floor" "[I", .fieldLink RX2 22 "HexRoomsModel" "grid" "[I"] ++ wsX20)
def wsX2_build : List Cond := .code yX2_build cX2_build 7 none :: ([.fieldLink RX2 56 "HexRoomsModel" "rings" "I", .fieldLink RX2 49 "HexRoomsModel" "rooms" "I", .fieldLink RX2 22 "HexRoomsModel" "grid" "[I", .fieldLink RX2 25 "HexRoomsModel" "isShut" "[Z", .fieldLink RX2 63 "HexRoomsModel" "ACROSS" "[I", .fieldLink RX2 66 "HexRoomsModel" "DOWN" "[I", .methodLink RX2 59 yX2_add, .instanceMethod yX2_add, .selects RX2 yX2_add yX2_add, .initialized RX2, .code yX2_add cX2_add 4 none, .fieldLink RX2 9 "HexRoomsModel" "across" "[I", .fieldLink RX2 13 "HexRoomsModel" "down" "[I", .fieldLink RX2 16 "HexRoomsModel" "of" "[I", .fieldLink RX2 19 "HexRoomsModel" "floor" "[I"] ++ wsX20)
def wsX2_init_r1 : List Cond := [Cond.methodLink RX2 1 objectInit, Cond.instanceMethod objectInit, Cond.code objectInit ⟨#[0xb1]⟩ 1 none, Cond.arrayClass .int, Cond.fieldLink RX2 9 "HexRoomsModel" "across" "[I", Cond.fieldLink RX2 13 "HexRoomsModel" "down" "[I", Cond.fieldLink RX2 16 "HexRoomsModel" "of" "[I", Cond.fieldLink RX2 19 "HexRoomsModel" "floor" "[I", Cond.fieldLink RX2 22 "HexRoomsModel" "grid" "[I", Cond.arrayClass .boolean, Cond.fieldLink RX2 25 "HexRoomsModel" "isShut" "[Z", Cond.fieldLink RX2 29 "HexRoomsModel" "light" "[I", Cond.fieldLink RX2 32 "HexRoomsModel" "far" "[I", Cond.fieldLink RX2 35 "HexRoomsModel" "line" "[I", Cond.fieldLink RX2 38 "HexRoomsModel" "moved" "[I", Cond.methodLink RX2 41 yX2_build, Cond.instanceMethod yX2_build, Cond.selects RX2 yX2_build yX2_build, Cond.initialized RX2, Cond.code yX2_build cX2_build 7 none, Cond.fieldLink RX2 56 "HexRoomsModel" "rings" "I", Cond.fieldLink RX2 49 "HexRoomsModel" "rooms" "I", Cond.fieldLink RX2 63 "HexRoomsModel" "ACROSS" "[I", Cond.fieldLink RX2 66 "HexRoomsModel" "DOWN" "[I"]
def wsX2_init_r2 : List Cond := [Cond.methodLink RX2 59 yX2_add, Cond.instanceMethod yX2_add, Cond.selects RX2 yX2_add yX2_add, Cond.code yX2_add cX2_add 4 none]
def wsX2_init : List Cond := .code yX2_init cX2_init 1 none :: ((wsX2_init_r1 ++ wsX2_init_r2) ++ wsX20)
def wsX2_thrown : List Cond := .code yX2_thrown cX2_thrown 1 (some .int) :: ([.fieldLink RX2 45 "HexRoomsModel" "thrown" "I"] ++ wsX20)
def wsX2_fail : List Cond := .code yX2_fail cX2_fail 2 (some .int) :: ([.fieldLink RX2 45 "HexRoomsModel" "thrown" "I"] ++ wsX20)
def wsX2_isIn : List Cond := .code yX2_isIn cX2_isIn 3 (some .boolean) :: ([])
def wsX2_isRoom : List Cond := .code yX2_isRoom cX2_isRoom 2 (some .boolean) :: ([.fieldLink RX2 49 "HexRoomsModel" "rooms" "I", .methodLink RX2 52 yX2_isIn, .static yX2_isIn, .initialized RX2, .code yX2_isIn cX2_isIn 3 (some .boolean)] ++ wsX20)
def wsX2_isSide : List Cond := .code yX2_isSide cX2_isSide 1 (some .boolean) :: ([.methodLink RX2 52 yX2_isIn, .static yX2_isIn, .initialized RX2, .code yX2_isIn cX2_isIn 3 (some .boolean)])
def wsX2_isRing : List Cond := .code yX2_isRing cX2_isRing 2 (some .boolean) :: ([.fieldLink RX2 56 "HexRoomsModel" "rings" "I", .methodLink RX2 52 yX2_isIn, .static yX2_isIn, .initialized RX2, .code yX2_isIn cX2_isIn 3 (some .boolean)] ++ wsX20)
def wsX2_found : List Cond := .code yX2_found cX2_found 3 (some .int) :: ([.fieldLink RX2 22 "HexRoomsModel" "grid" "[I", .methodLink RX2 52 yX2_isIn, .static yX2_isIn, .initialized RX2, .code yX2_isIn cX2_isIn 3 (some .boolean)] ++ wsX20)
def wsX2_next : List Cond := .code yX2_next cX2_next 3 (some .int) :: ([.fieldLink RX2 9 "HexRoomsModel" "across" "[I", .fieldLink RX2 63 "HexRoomsModel" "ACROSS" "[I", .fieldLink RX2 13 "HexRoomsModel" "down" "[I", .fieldLink RX2 66 "HexRoomsModel" "DOWN" "[I", .methodLink RX2 69 yX2_found, .instanceMethod yX2_found, .selects RX2 yX2_found yX2_found, .initialized RX2, .code yX2_found cX2_found 3 (some .int), .fieldLink RX2 22 "HexRoomsModel" "grid" "[I", .methodLink RX2 52 yX2_isIn, .static yX2_isIn, .code yX2_isIn cX2_isIn 3 (some .boolean)] ++ wsX20)
def wsX2_on : List Cond := .code yX2_on cX2_on 4 (some .int) :: ([.fieldLink RX2 25 "HexRoomsModel" "isShut" "[Z", .fieldLink RX2 19 "HexRoomsModel" "floor" "[I", .methodLink RX2 73 yX2_next, .instanceMethod yX2_next, .selects RX2 yX2_next yX2_next, .initialized RX2, .code yX2_next cX2_next 3 (some .int), .fieldLink RX2 9 "HexRoomsModel" "across" "[I", .fieldLink RX2 63 "HexRoomsModel" "ACROSS" "[I", .fieldLink RX2 13 "HexRoomsModel" "down" "[I", .fieldLink RX2 66 "HexRoomsModel" "DOWN" "[I", .methodLink RX2 69 yX2_found, .instanceMethod yX2_found, .selects RX2 yX2_found yX2_found, .code yX2_found cX2_found 3 (some .int), .fieldLink RX2 22 "HexRoomsModel" "grid" "[I", .methodLink RX2 52 yX2_isIn, .static yX2_isIn, .code yX2_isIn cX2_isIn 3 (some .boolean)] ++ wsX20)
def wsX2_size : List Cond := .code yX2_size cX2_size 1 (some .int) :: ([])
def wsX2_first : List Cond := .code yX2_first cX2_first 1 (some .int) :: ([])
def wsX2_shine : List Cond := .code yX2_shine cX2_shine 4 none :: ([.fieldLink RX2 29 "HexRoomsModel" "light" "[I", .methodLink RX2 76 yX2_on, .instanceMethod yX2_on, .selects RX2 yX2_on yX2_on, .initialized RX2, .code yX2_on cX2_on 4 (some .int), .fieldLink RX2 25 "HexRoomsModel" "isShut" "[Z", .fieldLink RX2 19 "HexRoomsModel" "floor" "[I", .methodLink RX2 73 yX2_next, .instanceMethod yX2_next, .selects RX2 yX2_next yX2_next, .code yX2_next cX2_next 3 (some .int), .fieldLink RX2 9 "HexRoomsModel" "across" "[I", .fieldLink RX2 63 "HexRoomsModel" "ACROSS" "[I", .fieldLink RX2 13 "HexRoomsModel" "down" "[I", .fieldLink RX2 66 "HexRoomsModel" "DOWN" "[I", .methodLink RX2 69 yX2_found, .instanceMethod yX2_found, .selects RX2 yX2_found yX2_found, .code yX2_found cX2_found 3 (some .int), .fieldLink RX2 22 "HexRoomsModel" "grid" "[I", .methodLink RX2 52 yX2_isIn, .static yX2_isIn, .code yX2_isIn cX2_isIn 3 (some .boolean)] ++ wsX20)
def wsX2_lit_r1 : List Cond := [Cond.fieldLink RX2 49 "HexRoomsModel" "rooms" "I", Cond.fieldLink RX2 29 "HexRoomsModel" "light" "[I", Cond.fieldLink RX2 19 "HexRoomsModel" "floor" "[I", Cond.methodLink RX2 79 yX2_shine, Cond.instanceMethod yX2_shine, Cond.selects RX2 yX2_shine yX2_shine, Cond.initialized RX2, Cond.code yX2_shine cX2_shine 4 none, Cond.methodLink RX2 76 yX2_on, Cond.instanceMethod yX2_on, Cond.selects RX2 yX2_on yX2_on, Cond.code yX2_on cX2_on 4 (some .int), Cond.fieldLink RX2 25 "HexRoomsModel" "isShut" "[Z", Cond.methodLink RX2 73 yX2_next, Cond.instanceMethod yX2_next, Cond.selects RX2 yX2_next yX2_next, Cond.code yX2_next cX2_next 3 (some .int), Cond.fieldLink RX2 9 "HexRoomsModel" "across" "[I", Cond.fieldLink RX2 63 "HexRoomsModel" "ACROSS" "[I", Cond.fieldLink RX2 13 "HexRoomsModel" "down" "[I", Cond.fieldLink RX2 66 "HexRoomsModel" "DOWN" "[I", Cond.methodLink RX2 69 yX2_found, Cond.instanceMethod yX2_found, Cond.selects RX2 yX2_found yX2_found]
def wsX2_lit_r2 : List Cond := [Cond.code yX2_found cX2_found 3 (some .int), Cond.fieldLink RX2 22 "HexRoomsModel" "grid" "[I", Cond.methodLink RX2 52 yX2_isIn, Cond.static yX2_isIn, Cond.code yX2_isIn cX2_isIn 3 (some .boolean)]
def wsX2_lit : List Cond := .code yX2_lit cX2_lit 3 (some .int) :: ((wsX2_lit_r1 ++ wsX2_lit_r2) ++ wsX20)
def wsX2_move : List Cond := .code yX2_move cX2_move 6 none :: ([.fieldLink RX2 38 "HexRoomsModel" "moved" "[I", .fieldLink RX2 19 "HexRoomsModel" "floor" "[I", .methodLink RX2 89 arraycopyName, .native arraycopyName, .static arraycopyName, .initialized "java/lang/System", .methodLink RX2 82 yX2_size, .static yX2_size, .initialized RX2, .code yX2_size cX2_size 1 (some .int), .methodLink RX2 86 yX2_first, .static yX2_first, .code yX2_first cX2_first 1 (some .int)] ++ wsX20)
def wsX2_setRings_r1 : List Cond := [Cond.fieldLink RX2 45 "HexRoomsModel" "thrown" "I", Cond.fieldLink RX2 49 "HexRoomsModel" "rooms" "I", Cond.methodLink RX2 52 yX2_isIn, Cond.static yX2_isIn, Cond.initialized RX2, Cond.code yX2_isIn cX2_isIn 3 (some .boolean), Cond.methodLink RX2 95 yX2_fail, Cond.instanceMethod yX2_fail, Cond.selects RX2 yX2_fail yX2_fail, Cond.code yX2_fail cX2_fail 2 (some .int), Cond.methodLink RX2 41 yX2_build, Cond.instanceMethod yX2_build, Cond.selects RX2 yX2_build yX2_build, Cond.code yX2_build cX2_build 7 none, Cond.fieldLink RX2 56 "HexRoomsModel" "rings" "I", Cond.fieldLink RX2 22 "HexRoomsModel" "grid" "[I", Cond.fieldLink RX2 25 "HexRoomsModel" "isShut" "[Z", Cond.fieldLink RX2 63 "HexRoomsModel" "ACROSS" "[I", Cond.fieldLink RX2 66 "HexRoomsModel" "DOWN" "[I", Cond.methodLink RX2 59 yX2_add, Cond.instanceMethod yX2_add, Cond.selects RX2 yX2_add yX2_add, Cond.code yX2_add cX2_add 4 none, Cond.fieldLink RX2 9 "HexRoomsModel" "across" "[I"]
def wsX2_setRings_r2 : List Cond := [Cond.fieldLink RX2 13 "HexRoomsModel" "down" "[I", Cond.fieldLink RX2 16 "HexRoomsModel" "of" "[I", Cond.fieldLink RX2 19 "HexRoomsModel" "floor" "[I"]
def wsX2_setRings : List Cond := .code yX2_setRings cX2_setRings 2 (some .int) :: ((wsX2_setRings_r1 ++ wsX2_setRings_r2) ++ wsX20)
def wsX2_put : List Cond := .code yX2_put cX2_put 4 (some .int) :: ([.fieldLink RX2 45 "HexRoomsModel" "thrown" "I", .fieldLink RX2 19 "HexRoomsModel" "floor" "[I", .methodLink RX2 98 yX2_isRoom, .instanceMethod yX2_isRoom, .selects RX2 yX2_isRoom yX2_isRoom, .initialized RX2, .code yX2_isRoom cX2_isRoom 2 (some .boolean), .fieldLink RX2 49 "HexRoomsModel" "rooms" "I", .methodLink RX2 52 yX2_isIn, .static yX2_isIn, .code yX2_isIn cX2_isIn 3 (some .boolean), .methodLink RX2 95 yX2_fail, .instanceMethod yX2_fail, .selects RX2 yX2_fail yX2_fail, .code yX2_fail cX2_fail 2 (some .int)] ++ wsX20)
def wsX2_shut_r1 : List Cond := [Cond.fieldLink RX2 45 "HexRoomsModel" "thrown" "I", Cond.fieldLink RX2 25 "HexRoomsModel" "isShut" "[Z", Cond.methodLink RX2 98 yX2_isRoom, Cond.instanceMethod yX2_isRoom, Cond.selects RX2 yX2_isRoom yX2_isRoom, Cond.initialized RX2, Cond.code yX2_isRoom cX2_isRoom 2 (some .boolean), Cond.fieldLink RX2 49 "HexRoomsModel" "rooms" "I", Cond.methodLink RX2 52 yX2_isIn, Cond.static yX2_isIn, Cond.code yX2_isIn cX2_isIn 3 (some .boolean), Cond.methodLink RX2 102 yX2_isSide, Cond.static yX2_isSide, Cond.code yX2_isSide cX2_isSide 1 (some .boolean), Cond.methodLink RX2 73 yX2_next, Cond.instanceMethod yX2_next, Cond.selects RX2 yX2_next yX2_next, Cond.code yX2_next cX2_next 3 (some .int), Cond.fieldLink RX2 9 "HexRoomsModel" "across" "[I", Cond.fieldLink RX2 63 "HexRoomsModel" "ACROSS" "[I", Cond.fieldLink RX2 13 "HexRoomsModel" "down" "[I", Cond.fieldLink RX2 66 "HexRoomsModel" "DOWN" "[I", Cond.methodLink RX2 69 yX2_found, Cond.instanceMethod yX2_found]
def wsX2_shut_r2 : List Cond := [Cond.selects RX2 yX2_found yX2_found, Cond.code yX2_found cX2_found 3 (some .int), Cond.fieldLink RX2 22 "HexRoomsModel" "grid" "[I"]
def wsX2_shut : List Cond := .code yX2_shut cX2_shut 5 (some .boolean) :: ((wsX2_shut_r1 ++ wsX2_shut_r2) ++ wsX20)
def wsX2_turn_r1 : List Cond := [Cond.fieldLink RX2 45 "HexRoomsModel" "thrown" "I", Cond.methodLink RX2 105 yX2_isRing, Cond.instanceMethod yX2_isRing, Cond.selects RX2 yX2_isRing yX2_isRing, Cond.initialized RX2, Cond.code yX2_isRing cX2_isRing 2 (some .boolean), Cond.fieldLink RX2 56 "HexRoomsModel" "rings" "I", Cond.methodLink RX2 52 yX2_isIn, Cond.static yX2_isIn, Cond.code yX2_isIn cX2_isIn 3 (some .boolean), Cond.methodLink RX2 95 yX2_fail, Cond.instanceMethod yX2_fail, Cond.selects RX2 yX2_fail yX2_fail, Cond.code yX2_fail cX2_fail 2 (some .int), Cond.methodLink RX2 108 yX2_move, Cond.instanceMethod yX2_move, Cond.selects RX2 yX2_move yX2_move, Cond.code yX2_move cX2_move 6 none, Cond.fieldLink RX2 38 "HexRoomsModel" "moved" "[I", Cond.fieldLink RX2 19 "HexRoomsModel" "floor" "[I", Cond.methodLink RX2 89 arraycopyName, Cond.native arraycopyName, Cond.static arraycopyName, Cond.initialized "java/lang/System"]
def wsX2_turn_r2 : List Cond := [Cond.methodLink RX2 82 yX2_size, Cond.static yX2_size, Cond.code yX2_size cX2_size 1 (some .int), Cond.methodLink RX2 86 yX2_first, Cond.static yX2_first, Cond.code yX2_first cX2_first 1 (some .int), Cond.methodLink RX2 112 yX2_lit, Cond.instanceMethod yX2_lit, Cond.selects RX2 yX2_lit yX2_lit, Cond.code yX2_lit cX2_lit 3 (some .int), Cond.fieldLink RX2 49 "HexRoomsModel" "rooms" "I", Cond.fieldLink RX2 29 "HexRoomsModel" "light" "[I", Cond.methodLink RX2 79 yX2_shine, Cond.instanceMethod yX2_shine, Cond.selects RX2 yX2_shine yX2_shine, Cond.code yX2_shine cX2_shine 4 none, Cond.methodLink RX2 76 yX2_on, Cond.instanceMethod yX2_on, Cond.selects RX2 yX2_on yX2_on, Cond.code yX2_on cX2_on 4 (some .int), Cond.fieldLink RX2 25 "HexRoomsModel" "isShut" "[Z", Cond.methodLink RX2 73 yX2_next, Cond.instanceMethod yX2_next, Cond.selects RX2 yX2_next yX2_next]
def wsX2_turn_r3 : List Cond := [Cond.code yX2_next cX2_next 3 (some .int), Cond.fieldLink RX2 9 "HexRoomsModel" "across" "[I", Cond.fieldLink RX2 63 "HexRoomsModel" "ACROSS" "[I", Cond.fieldLink RX2 13 "HexRoomsModel" "down" "[I", Cond.fieldLink RX2 66 "HexRoomsModel" "DOWN" "[I", Cond.methodLink RX2 69 yX2_found, Cond.instanceMethod yX2_found, Cond.selects RX2 yX2_found yX2_found, Cond.code yX2_found cX2_found 3 (some .int), Cond.fieldLink RX2 22 "HexRoomsModel" "grid" "[I"]
def wsX2_turn : List Cond := .code yX2_turn cX2_turn 3 (some .int) :: ((wsX2_turn_r1 ++ (wsX2_turn_r2 ++ wsX2_turn_r3)) ++ wsX20)
def wsX2_moveAll : List Cond := .code yX2_moveAll cX2_moveAll 3 none :: ([.fieldLink RX2 56 "HexRoomsModel" "rings" "I", .methodLink RX2 108 yX2_move, .instanceMethod yX2_move, .selects RX2 yX2_move yX2_move, .initialized RX2, .code yX2_move cX2_move 6 none, .fieldLink RX2 38 "HexRoomsModel" "moved" "[I", .fieldLink RX2 19 "HexRoomsModel" "floor" "[I", .methodLink RX2 89 arraycopyName, .native arraycopyName, .static arraycopyName, .initialized "java/lang/System", .methodLink RX2 82 yX2_size, .static yX2_size, .code yX2_size cX2_size 1 (some .int), .methodLink RX2 86 yX2_first, .static yX2_first, .code yX2_first cX2_first 1 (some .int)] ++ wsX20)
def wsX2_turnAll_r1 : List Cond := [Cond.fieldLink RX2 45 "HexRoomsModel" "thrown" "I", Cond.methodLink RX2 52 yX2_isIn, Cond.static yX2_isIn, Cond.initialized RX2, Cond.code yX2_isIn cX2_isIn 3 (some .boolean), Cond.methodLink RX2 95 yX2_fail, Cond.instanceMethod yX2_fail, Cond.selects RX2 yX2_fail yX2_fail, Cond.code yX2_fail cX2_fail 2 (some .int), Cond.methodLink RX2 116 yX2_moveAll, Cond.instanceMethod yX2_moveAll, Cond.selects RX2 yX2_moveAll yX2_moveAll, Cond.code yX2_moveAll cX2_moveAll 3 none, Cond.fieldLink RX2 56 "HexRoomsModel" "rings" "I", Cond.methodLink RX2 108 yX2_move, Cond.instanceMethod yX2_move, Cond.selects RX2 yX2_move yX2_move, Cond.code yX2_move cX2_move 6 none, Cond.fieldLink RX2 38 "HexRoomsModel" "moved" "[I", Cond.fieldLink RX2 19 "HexRoomsModel" "floor" "[I", Cond.methodLink RX2 89 arraycopyName, Cond.native arraycopyName, Cond.static arraycopyName, Cond.initialized "java/lang/System"]
def wsX2_turnAll_r2 : List Cond := [Cond.methodLink RX2 82 yX2_size, Cond.static yX2_size, Cond.code yX2_size cX2_size 1 (some .int), Cond.methodLink RX2 86 yX2_first, Cond.static yX2_first, Cond.code yX2_first cX2_first 1 (some .int), Cond.methodLink RX2 112 yX2_lit, Cond.instanceMethod yX2_lit, Cond.selects RX2 yX2_lit yX2_lit, Cond.code yX2_lit cX2_lit 3 (some .int), Cond.fieldLink RX2 49 "HexRoomsModel" "rooms" "I", Cond.fieldLink RX2 29 "HexRoomsModel" "light" "[I", Cond.methodLink RX2 79 yX2_shine, Cond.instanceMethod yX2_shine, Cond.selects RX2 yX2_shine yX2_shine, Cond.code yX2_shine cX2_shine 4 none, Cond.methodLink RX2 76 yX2_on, Cond.instanceMethod yX2_on, Cond.selects RX2 yX2_on yX2_on, Cond.code yX2_on cX2_on 4 (some .int), Cond.fieldLink RX2 25 "HexRoomsModel" "isShut" "[Z", Cond.methodLink RX2 73 yX2_next, Cond.instanceMethod yX2_next, Cond.selects RX2 yX2_next yX2_next]
def wsX2_turnAll_r3 : List Cond := [Cond.code yX2_next cX2_next 3 (some .int), Cond.fieldLink RX2 9 "HexRoomsModel" "across" "[I", Cond.fieldLink RX2 63 "HexRoomsModel" "ACROSS" "[I", Cond.fieldLink RX2 13 "HexRoomsModel" "down" "[I", Cond.fieldLink RX2 66 "HexRoomsModel" "DOWN" "[I", Cond.methodLink RX2 69 yX2_found, Cond.instanceMethod yX2_found, Cond.selects RX2 yX2_found yX2_found, Cond.code yX2_found cX2_found 3 (some .int), Cond.fieldLink RX2 22 "HexRoomsModel" "grid" "[I"]
def wsX2_turnAll : List Cond := .code yX2_turnAll cX2_turnAll 2 (some .int) :: ((wsX2_turnAll_r1 ++ (wsX2_turnAll_r2 ++ wsX2_turnAll_r3)) ++ wsX20)
def wsX2_at : List Cond := .code yX2_at cX2_at 3 (some .int) :: ([.fieldLink RX2 45 "HexRoomsModel" "thrown" "I", .methodLink RX2 69 yX2_found, .instanceMethod yX2_found, .selects RX2 yX2_found yX2_found, .initialized RX2, .code yX2_found cX2_found 3 (some .int), .fieldLink RX2 22 "HexRoomsModel" "grid" "[I", .methodLink RX2 52 yX2_isIn, .static yX2_isIn, .code yX2_isIn cX2_isIn 3 (some .boolean)] ++ wsX20)
def wsX2_sidesOn : List Cond := .code yX2_sidesOn cX2_sidesOn 4 (some .int) :: ([.methodLink RX2 76 yX2_on, .instanceMethod yX2_on, .selects RX2 yX2_on yX2_on, .initialized RX2, .code yX2_on cX2_on 4 (some .int), .fieldLink RX2 25 "HexRoomsModel" "isShut" "[Z", .fieldLink RX2 19 "HexRoomsModel" "floor" "[I", .methodLink RX2 73 yX2_next, .instanceMethod yX2_next, .selects RX2 yX2_next yX2_next, .code yX2_next cX2_next 3 (some .int), .fieldLink RX2 9 "HexRoomsModel" "across" "[I", .fieldLink RX2 63 "HexRoomsModel" "ACROSS" "[I", .fieldLink RX2 13 "HexRoomsModel" "down" "[I", .fieldLink RX2 66 "HexRoomsModel" "DOWN" "[I", .methodLink RX2 69 yX2_found, .instanceMethod yX2_found, .selects RX2 yX2_found yX2_found, .code yX2_found cX2_found 3 (some .int), .fieldLink RX2 22 "HexRoomsModel" "grid" "[I", .methodLink RX2 52 yX2_isIn, .static yX2_isIn, .code yX2_isIn cX2_isIn 3 (some .boolean)] ++ wsX20)
def wsX2_roomTold_r1 : List Cond := [Cond.fieldLink RX2 9 "HexRoomsModel" "across" "[I", Cond.fieldLink RX2 13 "HexRoomsModel" "down" "[I", Cond.fieldLink RX2 16 "HexRoomsModel" "of" "[I", Cond.fieldLink RX2 19 "HexRoomsModel" "floor" "[I", Cond.fieldLink RX2 29 "HexRoomsModel" "light" "[I", Cond.methodLink RX2 119 yX2_sidesOn, Cond.instanceMethod yX2_sidesOn, Cond.selects RX2 yX2_sidesOn yX2_sidesOn, Cond.initialized RX2, Cond.code yX2_sidesOn cX2_sidesOn 4 (some .int), Cond.methodLink RX2 76 yX2_on, Cond.instanceMethod yX2_on, Cond.selects RX2 yX2_on yX2_on, Cond.code yX2_on cX2_on 4 (some .int), Cond.fieldLink RX2 25 "HexRoomsModel" "isShut" "[Z", Cond.methodLink RX2 73 yX2_next, Cond.instanceMethod yX2_next, Cond.selects RX2 yX2_next yX2_next, Cond.code yX2_next cX2_next 3 (some .int), Cond.fieldLink RX2 63 "HexRoomsModel" "ACROSS" "[I", Cond.fieldLink RX2 66 "HexRoomsModel" "DOWN" "[I", Cond.methodLink RX2 69 yX2_found, Cond.instanceMethod yX2_found, Cond.selects RX2 yX2_found yX2_found]
def wsX2_roomTold_r2 : List Cond := [Cond.code yX2_found cX2_found 3 (some .int), Cond.fieldLink RX2 22 "HexRoomsModel" "grid" "[I", Cond.methodLink RX2 52 yX2_isIn, Cond.static yX2_isIn, Cond.code yX2_isIn cX2_isIn 3 (some .boolean)]
def wsX2_roomTold : List Cond := .code yX2_roomTold cX2_roomTold 3 (some .int) :: ((wsX2_roomTold_r1 ++ wsX2_roomTold_r2) ++ wsX20)
def wsX2_about_r1 : List Cond := [Cond.fieldLink RX2 45 "HexRoomsModel" "thrown" "I", Cond.methodLink RX2 98 yX2_isRoom, Cond.instanceMethod yX2_isRoom, Cond.selects RX2 yX2_isRoom yX2_isRoom, Cond.initialized RX2, Cond.code yX2_isRoom cX2_isRoom 2 (some .boolean), Cond.fieldLink RX2 49 "HexRoomsModel" "rooms" "I", Cond.methodLink RX2 52 yX2_isIn, Cond.static yX2_isIn, Cond.code yX2_isIn cX2_isIn 3 (some .boolean), Cond.methodLink RX2 95 yX2_fail, Cond.instanceMethod yX2_fail, Cond.selects RX2 yX2_fail yX2_fail, Cond.code yX2_fail cX2_fail 2 (some .int), Cond.methodLink RX2 112 yX2_lit, Cond.instanceMethod yX2_lit, Cond.selects RX2 yX2_lit yX2_lit, Cond.code yX2_lit cX2_lit 3 (some .int), Cond.fieldLink RX2 29 "HexRoomsModel" "light" "[I", Cond.fieldLink RX2 19 "HexRoomsModel" "floor" "[I", Cond.methodLink RX2 79 yX2_shine, Cond.instanceMethod yX2_shine, Cond.selects RX2 yX2_shine yX2_shine, Cond.code yX2_shine cX2_shine 4 none]
def wsX2_about_r2 : List Cond := [Cond.methodLink RX2 76 yX2_on, Cond.instanceMethod yX2_on, Cond.selects RX2 yX2_on yX2_on, Cond.code yX2_on cX2_on 4 (some .int), Cond.fieldLink RX2 25 "HexRoomsModel" "isShut" "[Z", Cond.methodLink RX2 73 yX2_next, Cond.instanceMethod yX2_next, Cond.selects RX2 yX2_next yX2_next, Cond.code yX2_next cX2_next 3 (some .int), Cond.fieldLink RX2 9 "HexRoomsModel" "across" "[I", Cond.fieldLink RX2 63 "HexRoomsModel" "ACROSS" "[I", Cond.fieldLink RX2 13 "HexRoomsModel" "down" "[I", Cond.fieldLink RX2 66 "HexRoomsModel" "DOWN" "[I", Cond.methodLink RX2 69 yX2_found, Cond.instanceMethod yX2_found, Cond.selects RX2 yX2_found yX2_found, Cond.code yX2_found cX2_found 3 (some .int), Cond.fieldLink RX2 22 "HexRoomsModel" "grid" "[I", Cond.methodLink RX2 122 yX2_roomTold, Cond.instanceMethod yX2_roomTold, Cond.selects RX2 yX2_roomTold yX2_roomTold, Cond.code yX2_roomTold cX2_roomTold 3 (some .int), Cond.fieldLink RX2 16 "HexRoomsModel" "of" "[I", Cond.methodLink RX2 119 yX2_sidesOn]
def wsX2_about_r3 : List Cond := [Cond.instanceMethod yX2_sidesOn, Cond.selects RX2 yX2_sidesOn yX2_sidesOn, Cond.code yX2_sidesOn cX2_sidesOn 4 (some .int)]
def wsX2_about : List Cond := .code yX2_about cX2_about 3 (some .int) :: ((wsX2_about_r1 ++ (wsX2_about_r2 ++ wsX2_about_r3)) ++ wsX20)
def wsX2_beside_r1 : List Cond := [Cond.fieldLink RX2 45 "HexRoomsModel" "thrown" "I", Cond.methodLink RX2 98 yX2_isRoom, Cond.instanceMethod yX2_isRoom, Cond.selects RX2 yX2_isRoom yX2_isRoom, Cond.initialized RX2, Cond.code yX2_isRoom cX2_isRoom 2 (some .boolean), Cond.fieldLink RX2 49 "HexRoomsModel" "rooms" "I", Cond.methodLink RX2 52 yX2_isIn, Cond.static yX2_isIn, Cond.code yX2_isIn cX2_isIn 3 (some .boolean), Cond.methodLink RX2 102 yX2_isSide, Cond.static yX2_isSide, Cond.code yX2_isSide cX2_isSide 1 (some .boolean), Cond.methodLink RX2 73 yX2_next, Cond.instanceMethod yX2_next, Cond.selects RX2 yX2_next yX2_next, Cond.code yX2_next cX2_next 3 (some .int), Cond.fieldLink RX2 9 "HexRoomsModel" "across" "[I", Cond.fieldLink RX2 63 "HexRoomsModel" "ACROSS" "[I", Cond.fieldLink RX2 13 "HexRoomsModel" "down" "[I", Cond.fieldLink RX2 66 "HexRoomsModel" "DOWN" "[I", Cond.methodLink RX2 69 yX2_found, Cond.instanceMethod yX2_found, Cond.selects RX2 yX2_found yX2_found]
def wsX2_beside_r2 : List Cond := [Cond.code yX2_found cX2_found 3 (some .int), Cond.fieldLink RX2 22 "HexRoomsModel" "grid" "[I", Cond.methodLink RX2 95 yX2_fail, Cond.instanceMethod yX2_fail, Cond.selects RX2 yX2_fail yX2_fail, Cond.code yX2_fail cX2_fail 2 (some .int)]
def wsX2_beside : List Cond := .code yX2_beside cX2_beside 3 (some .int) :: ((wsX2_beside_r1 ++ wsX2_beside_r2) ++ wsX20)
def wsX2_isShut_r1 : List Cond := [Cond.fieldLink RX2 45 "HexRoomsModel" "thrown" "I", Cond.fieldLink RX2 25 "HexRoomsModel" "isShut" "[Z", Cond.methodLink RX2 98 yX2_isRoom, Cond.instanceMethod yX2_isRoom, Cond.selects RX2 yX2_isRoom yX2_isRoom, Cond.initialized RX2, Cond.code yX2_isRoom cX2_isRoom 2 (some .boolean), Cond.fieldLink RX2 49 "HexRoomsModel" "rooms" "I", Cond.methodLink RX2 52 yX2_isIn, Cond.static yX2_isIn, Cond.code yX2_isIn cX2_isIn 3 (some .boolean), Cond.methodLink RX2 102 yX2_isSide, Cond.static yX2_isSide, Cond.code yX2_isSide cX2_isSide 1 (some .boolean), Cond.methodLink RX2 73 yX2_next, Cond.instanceMethod yX2_next, Cond.selects RX2 yX2_next yX2_next, Cond.code yX2_next cX2_next 3 (some .int), Cond.fieldLink RX2 9 "HexRoomsModel" "across" "[I", Cond.fieldLink RX2 63 "HexRoomsModel" "ACROSS" "[I", Cond.fieldLink RX2 13 "HexRoomsModel" "down" "[I", Cond.fieldLink RX2 66 "HexRoomsModel" "DOWN" "[I", Cond.methodLink RX2 69 yX2_found, Cond.instanceMethod yX2_found]
def wsX2_isShut_r2 : List Cond := [Cond.selects RX2 yX2_found yX2_found, Cond.code yX2_found cX2_found 3 (some .int), Cond.fieldLink RX2 22 "HexRoomsModel" "grid" "[I"]
def wsX2_isShut : List Cond := .code yX2_isShut cX2_isShut 3 (some .boolean) :: ((wsX2_isShut_r1 ++ wsX2_isShut_r2) ++ wsX20)
def wsX2_far : List Cond := .code yX2_far cX2_far 5 (some .int) :: ([.fieldLink RX2 45 "HexRoomsModel" "thrown" "I", .fieldLink RX2 9 "HexRoomsModel" "across" "[I", .fieldLink RX2 13 "HexRoomsModel" "down" "[I", .methodLink RX2 125 Lib.Math.abs.name, .static Lib.Math.abs.name, .initialized "java/lang/Math", .code Lib.Math.abs.name Lib.Math.abs.code 1 (some .int), .methodLink RX2 98 yX2_isRoom, .instanceMethod yX2_isRoom, .selects RX2 yX2_isRoom yX2_isRoom, .initialized RX2, .code yX2_isRoom cX2_isRoom 2 (some .boolean), .fieldLink RX2 49 "HexRoomsModel" "rooms" "I", .methodLink RX2 52 yX2_isIn, .static yX2_isIn, .code yX2_isIn cX2_isIn 3 (some .boolean), .methodLink RX2 95 yX2_fail, .instanceMethod yX2_fail, .selects RX2 yX2_fail yX2_fail, .code yX2_fail cX2_fail 2 (some .int)] ++ wsX20)
def wsX2_sees_r1 : List Cond := [Cond.fieldLink RX2 45 "HexRoomsModel" "thrown" "I", Cond.fieldLink RX2 49 "HexRoomsModel" "rooms" "I", Cond.fieldLink RX2 29 "HexRoomsModel" "light" "[I", Cond.methodLink RX2 98 yX2_isRoom, Cond.instanceMethod yX2_isRoom, Cond.selects RX2 yX2_isRoom yX2_isRoom, Cond.initialized RX2, Cond.code yX2_isRoom cX2_isRoom 2 (some .boolean), Cond.methodLink RX2 52 yX2_isIn, Cond.static yX2_isIn, Cond.code yX2_isIn cX2_isIn 3 (some .boolean), Cond.methodLink RX2 79 yX2_shine, Cond.instanceMethod yX2_shine, Cond.selects RX2 yX2_shine yX2_shine, Cond.code yX2_shine cX2_shine 4 none, Cond.methodLink RX2 76 yX2_on, Cond.instanceMethod yX2_on, Cond.selects RX2 yX2_on yX2_on, Cond.code yX2_on cX2_on 4 (some .int), Cond.fieldLink RX2 25 "HexRoomsModel" "isShut" "[Z", Cond.fieldLink RX2 19 "HexRoomsModel" "floor" "[I", Cond.methodLink RX2 73 yX2_next, Cond.instanceMethod yX2_next, Cond.selects RX2 yX2_next yX2_next]
def wsX2_sees_r2 : List Cond := [Cond.code yX2_next cX2_next 3 (some .int), Cond.fieldLink RX2 9 "HexRoomsModel" "across" "[I", Cond.fieldLink RX2 63 "HexRoomsModel" "ACROSS" "[I", Cond.fieldLink RX2 13 "HexRoomsModel" "down" "[I", Cond.fieldLink RX2 66 "HexRoomsModel" "DOWN" "[I", Cond.methodLink RX2 69 yX2_found, Cond.instanceMethod yX2_found, Cond.selects RX2 yX2_found yX2_found, Cond.code yX2_found cX2_found 3 (some .int), Cond.fieldLink RX2 22 "HexRoomsModel" "grid" "[I"]
def wsX2_sees : List Cond := .code yX2_sees cX2_sees 4 (some .boolean) :: ((wsX2_sees_r1 ++ wsX2_sees_r2) ++ wsX20)
def wsX2_spread_r1 : List Cond := [Cond.fieldLink RX2 49 "HexRoomsModel" "rooms" "I", Cond.fieldLink RX2 32 "HexRoomsModel" "far" "[I", Cond.fieldLink RX2 35 "HexRoomsModel" "line" "[I", Cond.methodLink RX2 76 yX2_on, Cond.instanceMethod yX2_on, Cond.selects RX2 yX2_on yX2_on, Cond.initialized RX2, Cond.code yX2_on cX2_on 4 (some .int), Cond.fieldLink RX2 25 "HexRoomsModel" "isShut" "[Z", Cond.fieldLink RX2 19 "HexRoomsModel" "floor" "[I", Cond.methodLink RX2 73 yX2_next, Cond.instanceMethod yX2_next, Cond.selects RX2 yX2_next yX2_next, Cond.code yX2_next cX2_next 3 (some .int), Cond.fieldLink RX2 9 "HexRoomsModel" "across" "[I", Cond.fieldLink RX2 63 "HexRoomsModel" "ACROSS" "[I", Cond.fieldLink RX2 13 "HexRoomsModel" "down" "[I", Cond.fieldLink RX2 66 "HexRoomsModel" "DOWN" "[I", Cond.methodLink RX2 69 yX2_found, Cond.instanceMethod yX2_found, Cond.selects RX2 yX2_found yX2_found, Cond.code yX2_found cX2_found 3 (some .int), Cond.fieldLink RX2 22 "HexRoomsModel" "grid" "[I", Cond.methodLink RX2 52 yX2_isIn]
def wsX2_spread_r2 : List Cond := [Cond.static yX2_isIn, Cond.code yX2_isIn cX2_isIn 3 (some .boolean)]
def wsX2_spread : List Cond := .code yX2_spread cX2_spread 6 (some .int) :: ((wsX2_spread_r1 ++ wsX2_spread_r2) ++ wsX20)
def wsX2_way_r1 : List Cond := [Cond.fieldLink RX2 45 "HexRoomsModel" "thrown" "I", Cond.fieldLink RX2 32 "HexRoomsModel" "far" "[I", Cond.methodLink RX2 98 yX2_isRoom, Cond.instanceMethod yX2_isRoom, Cond.selects RX2 yX2_isRoom yX2_isRoom, Cond.initialized RX2, Cond.code yX2_isRoom cX2_isRoom 2 (some .boolean), Cond.fieldLink RX2 49 "HexRoomsModel" "rooms" "I", Cond.methodLink RX2 52 yX2_isIn, Cond.static yX2_isIn, Cond.code yX2_isIn cX2_isIn 3 (some .boolean), Cond.methodLink RX2 95 yX2_fail, Cond.instanceMethod yX2_fail, Cond.selects RX2 yX2_fail yX2_fail, Cond.code yX2_fail cX2_fail 2 (some .int), Cond.methodLink RX2 130 yX2_spread, Cond.instanceMethod yX2_spread, Cond.selects RX2 yX2_spread yX2_spread, Cond.code yX2_spread cX2_spread 6 (some .int), Cond.fieldLink RX2 35 "HexRoomsModel" "line" "[I", Cond.methodLink RX2 76 yX2_on, Cond.instanceMethod yX2_on, Cond.selects RX2 yX2_on yX2_on, Cond.code yX2_on cX2_on 4 (some .int)]
def wsX2_way_r2 : List Cond := [Cond.fieldLink RX2 25 "HexRoomsModel" "isShut" "[Z", Cond.fieldLink RX2 19 "HexRoomsModel" "floor" "[I", Cond.methodLink RX2 73 yX2_next, Cond.instanceMethod yX2_next, Cond.selects RX2 yX2_next yX2_next, Cond.code yX2_next cX2_next 3 (some .int), Cond.fieldLink RX2 9 "HexRoomsModel" "across" "[I", Cond.fieldLink RX2 63 "HexRoomsModel" "ACROSS" "[I", Cond.fieldLink RX2 13 "HexRoomsModel" "down" "[I", Cond.fieldLink RX2 66 "HexRoomsModel" "DOWN" "[I", Cond.methodLink RX2 69 yX2_found, Cond.instanceMethod yX2_found, Cond.selects RX2 yX2_found yX2_found, Cond.code yX2_found cX2_found 3 (some .int), Cond.fieldLink RX2 22 "HexRoomsModel" "grid" "[I"]
def wsX2_way : List Cond := .code yX2_way cX2_way 3 (some .int) :: ((wsX2_way_r1 ++ wsX2_way_r2) ++ wsX20)
def wsX2_side_r1 : List Cond := [Cond.fieldLink RX2 45 "HexRoomsModel" "thrown" "I", Cond.fieldLink RX2 32 "HexRoomsModel" "far" "[I", Cond.methodLink RX2 98 yX2_isRoom, Cond.instanceMethod yX2_isRoom, Cond.selects RX2 yX2_isRoom yX2_isRoom, Cond.initialized RX2, Cond.code yX2_isRoom cX2_isRoom 2 (some .boolean), Cond.fieldLink RX2 49 "HexRoomsModel" "rooms" "I", Cond.methodLink RX2 52 yX2_isIn, Cond.static yX2_isIn, Cond.code yX2_isIn cX2_isIn 3 (some .boolean), Cond.methodLink RX2 95 yX2_fail, Cond.instanceMethod yX2_fail, Cond.selects RX2 yX2_fail yX2_fail, Cond.code yX2_fail cX2_fail 2 (some .int), Cond.methodLink RX2 130 yX2_spread, Cond.instanceMethod yX2_spread, Cond.selects RX2 yX2_spread yX2_spread, Cond.code yX2_spread cX2_spread 6 (some .int), Cond.fieldLink RX2 35 "HexRoomsModel" "line" "[I", Cond.methodLink RX2 76 yX2_on, Cond.instanceMethod yX2_on, Cond.selects RX2 yX2_on yX2_on, Cond.code yX2_on cX2_on 4 (some .int)]
def wsX2_side_r2 : List Cond := [Cond.fieldLink RX2 25 "HexRoomsModel" "isShut" "[Z", Cond.fieldLink RX2 19 "HexRoomsModel" "floor" "[I", Cond.methodLink RX2 73 yX2_next, Cond.instanceMethod yX2_next, Cond.selects RX2 yX2_next yX2_next, Cond.code yX2_next cX2_next 3 (some .int), Cond.fieldLink RX2 9 "HexRoomsModel" "across" "[I", Cond.fieldLink RX2 63 "HexRoomsModel" "ACROSS" "[I", Cond.fieldLink RX2 13 "HexRoomsModel" "down" "[I", Cond.fieldLink RX2 66 "HexRoomsModel" "DOWN" "[I", Cond.methodLink RX2 69 yX2_found, Cond.instanceMethod yX2_found, Cond.selects RX2 yX2_found yX2_found, Cond.code yX2_found cX2_found 3 (some .int), Cond.fieldLink RX2 22 "HexRoomsModel" "grid" "[I"]
def wsX2_side : List Cond := .code yX2_side cX2_side 6 (some .int) :: ((wsX2_side_r1 ++ wsX2_side_r2) ++ wsX20)
def wsX2_reach_r1 : List Cond := [Cond.fieldLink RX2 45 "HexRoomsModel" "thrown" "I", Cond.fieldLink RX2 49 "HexRoomsModel" "rooms" "I", Cond.fieldLink RX2 32 "HexRoomsModel" "far" "[I", Cond.methodLink RX2 98 yX2_isRoom, Cond.instanceMethod yX2_isRoom, Cond.selects RX2 yX2_isRoom yX2_isRoom, Cond.initialized RX2, Cond.code yX2_isRoom cX2_isRoom 2 (some .boolean), Cond.methodLink RX2 52 yX2_isIn, Cond.static yX2_isIn, Cond.code yX2_isIn cX2_isIn 3 (some .boolean), Cond.methodLink RX2 95 yX2_fail, Cond.instanceMethod yX2_fail, Cond.selects RX2 yX2_fail yX2_fail, Cond.code yX2_fail cX2_fail 2 (some .int), Cond.methodLink RX2 130 yX2_spread, Cond.instanceMethod yX2_spread, Cond.selects RX2 yX2_spread yX2_spread, Cond.code yX2_spread cX2_spread 6 (some .int), Cond.fieldLink RX2 35 "HexRoomsModel" "line" "[I", Cond.methodLink RX2 76 yX2_on, Cond.instanceMethod yX2_on, Cond.selects RX2 yX2_on yX2_on, Cond.code yX2_on cX2_on 4 (some .int)]
def wsX2_reach_r2 : List Cond := [Cond.fieldLink RX2 25 "HexRoomsModel" "isShut" "[Z", Cond.fieldLink RX2 19 "HexRoomsModel" "floor" "[I", Cond.methodLink RX2 73 yX2_next, Cond.instanceMethod yX2_next, Cond.selects RX2 yX2_next yX2_next, Cond.code yX2_next cX2_next 3 (some .int), Cond.fieldLink RX2 9 "HexRoomsModel" "across" "[I", Cond.fieldLink RX2 63 "HexRoomsModel" "ACROSS" "[I", Cond.fieldLink RX2 13 "HexRoomsModel" "down" "[I", Cond.fieldLink RX2 66 "HexRoomsModel" "DOWN" "[I", Cond.methodLink RX2 69 yX2_found, Cond.instanceMethod yX2_found, Cond.selects RX2 yX2_found yX2_found, Cond.code yX2_found cX2_found 3 (some .int), Cond.fieldLink RX2 22 "HexRoomsModel" "grid" "[I"]
def wsX2_reach : List Cond := .code yX2_reach cX2_reach 5 (some .int) :: ((wsX2_reach_r1 ++ wsX2_reach_r2) ++ wsX20)
def wsX2_standing : List Cond := .code yX2_standing cX2_standing 5 (some .int) :: ([.fieldLink RX2 49 "HexRoomsModel" "rooms" "I", .fieldLink RX2 16 "HexRoomsModel" "of" "[I", .fieldLink RX2 19 "HexRoomsModel" "floor" "[I"] ++ wsX20)
def wsX2_ringTold_r1 : List Cond := [Cond.fieldLink RX2 29 "HexRoomsModel" "light" "[I", Cond.methodLink RX2 82 yX2_size, Cond.static yX2_size, Cond.initialized RX2, Cond.code yX2_size cX2_size 1 (some .int), Cond.methodLink RX2 133 yX2_standing, Cond.instanceMethod yX2_standing, Cond.selects RX2 yX2_standing yX2_standing, Cond.code yX2_standing cX2_standing 5 (some .int), Cond.fieldLink RX2 49 "HexRoomsModel" "rooms" "I", Cond.fieldLink RX2 16 "HexRoomsModel" "of" "[I", Cond.fieldLink RX2 19 "HexRoomsModel" "floor" "[I", Cond.methodLink RX2 112 yX2_lit, Cond.instanceMethod yX2_lit, Cond.selects RX2 yX2_lit yX2_lit, Cond.code yX2_lit cX2_lit 3 (some .int), Cond.methodLink RX2 79 yX2_shine, Cond.instanceMethod yX2_shine, Cond.selects RX2 yX2_shine yX2_shine, Cond.code yX2_shine cX2_shine 4 none, Cond.methodLink RX2 76 yX2_on, Cond.instanceMethod yX2_on, Cond.selects RX2 yX2_on yX2_on, Cond.code yX2_on cX2_on 4 (some .int)]
def wsX2_ringTold_r2 : List Cond := [Cond.fieldLink RX2 25 "HexRoomsModel" "isShut" "[Z", Cond.methodLink RX2 73 yX2_next, Cond.instanceMethod yX2_next, Cond.selects RX2 yX2_next yX2_next, Cond.code yX2_next cX2_next 3 (some .int), Cond.fieldLink RX2 9 "HexRoomsModel" "across" "[I", Cond.fieldLink RX2 63 "HexRoomsModel" "ACROSS" "[I", Cond.fieldLink RX2 13 "HexRoomsModel" "down" "[I", Cond.fieldLink RX2 66 "HexRoomsModel" "DOWN" "[I", Cond.methodLink RX2 69 yX2_found, Cond.instanceMethod yX2_found, Cond.selects RX2 yX2_found yX2_found, Cond.code yX2_found cX2_found 3 (some .int), Cond.fieldLink RX2 22 "HexRoomsModel" "grid" "[I", Cond.methodLink RX2 52 yX2_isIn, Cond.static yX2_isIn, Cond.code yX2_isIn cX2_isIn 3 (some .boolean), Cond.methodLink RX2 86 yX2_first, Cond.static yX2_first, Cond.code yX2_first cX2_first 1 (some .int)]
def wsX2_ringTold : List Cond := .code yX2_ringTold cX2_ringTold 5 (some .int) :: ((wsX2_ringTold_r1 ++ wsX2_ringTold_r2) ++ wsX20)
def wsX2_ring_r1 : List Cond := [Cond.fieldLink RX2 45 "HexRoomsModel" "thrown" "I", Cond.methodLink RX2 105 yX2_isRing, Cond.instanceMethod yX2_isRing, Cond.selects RX2 yX2_isRing yX2_isRing, Cond.initialized RX2, Cond.code yX2_isRing cX2_isRing 2 (some .boolean), Cond.fieldLink RX2 56 "HexRoomsModel" "rings" "I", Cond.methodLink RX2 52 yX2_isIn, Cond.static yX2_isIn, Cond.code yX2_isIn cX2_isIn 3 (some .boolean), Cond.methodLink RX2 136 yX2_ringTold, Cond.instanceMethod yX2_ringTold, Cond.selects RX2 yX2_ringTold yX2_ringTold, Cond.code yX2_ringTold cX2_ringTold 5 (some .int), Cond.fieldLink RX2 29 "HexRoomsModel" "light" "[I", Cond.methodLink RX2 82 yX2_size, Cond.static yX2_size, Cond.code yX2_size cX2_size 1 (some .int), Cond.methodLink RX2 133 yX2_standing, Cond.instanceMethod yX2_standing, Cond.selects RX2 yX2_standing yX2_standing, Cond.code yX2_standing cX2_standing 5 (some .int), Cond.fieldLink RX2 49 "HexRoomsModel" "rooms" "I", Cond.fieldLink RX2 16 "HexRoomsModel" "of" "[I"]
def wsX2_ring_r2 : List Cond := [Cond.fieldLink RX2 19 "HexRoomsModel" "floor" "[I", Cond.methodLink RX2 112 yX2_lit, Cond.instanceMethod yX2_lit, Cond.selects RX2 yX2_lit yX2_lit, Cond.code yX2_lit cX2_lit 3 (some .int), Cond.methodLink RX2 79 yX2_shine, Cond.instanceMethod yX2_shine, Cond.selects RX2 yX2_shine yX2_shine, Cond.code yX2_shine cX2_shine 4 none, Cond.methodLink RX2 76 yX2_on, Cond.instanceMethod yX2_on, Cond.selects RX2 yX2_on yX2_on, Cond.code yX2_on cX2_on 4 (some .int), Cond.fieldLink RX2 25 "HexRoomsModel" "isShut" "[Z", Cond.methodLink RX2 73 yX2_next, Cond.instanceMethod yX2_next, Cond.selects RX2 yX2_next yX2_next, Cond.code yX2_next cX2_next 3 (some .int), Cond.fieldLink RX2 9 "HexRoomsModel" "across" "[I", Cond.fieldLink RX2 63 "HexRoomsModel" "ACROSS" "[I", Cond.fieldLink RX2 13 "HexRoomsModel" "down" "[I", Cond.fieldLink RX2 66 "HexRoomsModel" "DOWN" "[I", Cond.methodLink RX2 69 yX2_found, Cond.instanceMethod yX2_found]
def wsX2_ring_r3 : List Cond := [Cond.selects RX2 yX2_found yX2_found, Cond.code yX2_found cX2_found 3 (some .int), Cond.fieldLink RX2 22 "HexRoomsModel" "grid" "[I", Cond.methodLink RX2 86 yX2_first, Cond.static yX2_first, Cond.code yX2_first cX2_first 1 (some .int), Cond.methodLink RX2 95 yX2_fail, Cond.instanceMethod yX2_fail, Cond.selects RX2 yX2_fail yX2_fail, Cond.code yX2_fail cX2_fail 2 (some .int)]
def wsX2_ring : List Cond := .code yX2_ring cX2_ring 3 (some .int) :: ((wsX2_ring_r1 ++ (wsX2_ring_r2 ++ wsX2_ring_r3)) ++ wsX20)
def wsX2_parts_r1 : List Cond := [Cond.fieldLink RX2 49 "HexRoomsModel" "rooms" "I", Cond.fieldLink RX2 19 "HexRoomsModel" "floor" "[I", Cond.fieldLink RX2 32 "HexRoomsModel" "far" "[I", Cond.methodLink RX2 130 yX2_spread, Cond.instanceMethod yX2_spread, Cond.selects RX2 yX2_spread yX2_spread, Cond.initialized RX2, Cond.code yX2_spread cX2_spread 6 (some .int), Cond.fieldLink RX2 35 "HexRoomsModel" "line" "[I", Cond.methodLink RX2 76 yX2_on, Cond.instanceMethod yX2_on, Cond.selects RX2 yX2_on yX2_on, Cond.code yX2_on cX2_on 4 (some .int), Cond.fieldLink RX2 25 "HexRoomsModel" "isShut" "[Z", Cond.methodLink RX2 73 yX2_next, Cond.instanceMethod yX2_next, Cond.selects RX2 yX2_next yX2_next, Cond.code yX2_next cX2_next 3 (some .int), Cond.fieldLink RX2 9 "HexRoomsModel" "across" "[I", Cond.fieldLink RX2 63 "HexRoomsModel" "ACROSS" "[I", Cond.fieldLink RX2 13 "HexRoomsModel" "down" "[I", Cond.fieldLink RX2 66 "HexRoomsModel" "DOWN" "[I", Cond.methodLink RX2 69 yX2_found, Cond.instanceMethod yX2_found]
def wsX2_parts_r2 : List Cond := [Cond.selects RX2 yX2_found yX2_found, Cond.code yX2_found cX2_found 3 (some .int), Cond.fieldLink RX2 22 "HexRoomsModel" "grid" "[I", Cond.methodLink RX2 52 yX2_isIn, Cond.static yX2_isIn, Cond.code yX2_isIn cX2_isIn 3 (some .boolean)]
def wsX2_parts : List Cond := .code yX2_parts cX2_parts 5 (some .int) :: ((wsX2_parts_r1 ++ wsX2_parts_r2) ++ wsX20)
def wsX2_counted_r1 : List Cond := [Cond.fieldLink RX2 49 "HexRoomsModel" "rooms" "I", Cond.fieldLink RX2 56 "HexRoomsModel" "rings" "I", Cond.fieldLink RX2 25 "HexRoomsModel" "isShut" "[Z", Cond.methodLink RX2 133 yX2_standing, Cond.instanceMethod yX2_standing, Cond.selects RX2 yX2_standing yX2_standing, Cond.initialized RX2, Cond.code yX2_standing cX2_standing 5 (some .int), Cond.fieldLink RX2 16 "HexRoomsModel" "of" "[I", Cond.fieldLink RX2 19 "HexRoomsModel" "floor" "[I", Cond.methodLink RX2 112 yX2_lit, Cond.instanceMethod yX2_lit, Cond.selects RX2 yX2_lit yX2_lit, Cond.code yX2_lit cX2_lit 3 (some .int), Cond.fieldLink RX2 29 "HexRoomsModel" "light" "[I", Cond.methodLink RX2 79 yX2_shine, Cond.instanceMethod yX2_shine, Cond.selects RX2 yX2_shine yX2_shine, Cond.code yX2_shine cX2_shine 4 none, Cond.methodLink RX2 76 yX2_on, Cond.instanceMethod yX2_on, Cond.selects RX2 yX2_on yX2_on, Cond.code yX2_on cX2_on 4 (some .int), Cond.methodLink RX2 73 yX2_next]
def wsX2_counted_r2 : List Cond := [Cond.instanceMethod yX2_next, Cond.selects RX2 yX2_next yX2_next, Cond.code yX2_next cX2_next 3 (some .int), Cond.fieldLink RX2 9 "HexRoomsModel" "across" "[I", Cond.fieldLink RX2 63 "HexRoomsModel" "ACROSS" "[I", Cond.fieldLink RX2 13 "HexRoomsModel" "down" "[I", Cond.fieldLink RX2 66 "HexRoomsModel" "DOWN" "[I", Cond.methodLink RX2 69 yX2_found, Cond.instanceMethod yX2_found, Cond.selects RX2 yX2_found yX2_found, Cond.code yX2_found cX2_found 3 (some .int), Cond.fieldLink RX2 22 "HexRoomsModel" "grid" "[I", Cond.methodLink RX2 52 yX2_isIn, Cond.static yX2_isIn, Cond.code yX2_isIn cX2_isIn 3 (some .boolean), Cond.methodLink RX2 139 yX2_parts, Cond.instanceMethod yX2_parts, Cond.selects RX2 yX2_parts yX2_parts, Cond.code yX2_parts cX2_parts 5 (some .int), Cond.fieldLink RX2 32 "HexRoomsModel" "far" "[I", Cond.methodLink RX2 130 yX2_spread, Cond.instanceMethod yX2_spread, Cond.selects RX2 yX2_spread yX2_spread, Cond.code yX2_spread cX2_spread 6 (some .int)]
def wsX2_counted_r3 : List Cond := [Cond.fieldLink RX2 35 "HexRoomsModel" "line" "[I"]
def wsX2_counted : List Cond := .code yX2_counted cX2_counted 4 (some .int) :: ((wsX2_counted_r1 ++ (wsX2_counted_r2 ++ wsX2_counted_r3)) ++ wsX20)
def wsX2_count_r1 : List Cond := [Cond.fieldLink RX2 45 "HexRoomsModel" "thrown" "I", Cond.methodLink RX2 52 yX2_isIn, Cond.static yX2_isIn, Cond.initialized RX2, Cond.code yX2_isIn cX2_isIn 3 (some .boolean), Cond.methodLink RX2 142 yX2_counted, Cond.instanceMethod yX2_counted, Cond.selects RX2 yX2_counted yX2_counted, Cond.code yX2_counted cX2_counted 4 (some .int), Cond.fieldLink RX2 49 "HexRoomsModel" "rooms" "I", Cond.fieldLink RX2 56 "HexRoomsModel" "rings" "I", Cond.fieldLink RX2 25 "HexRoomsModel" "isShut" "[Z", Cond.methodLink RX2 133 yX2_standing, Cond.instanceMethod yX2_standing, Cond.selects RX2 yX2_standing yX2_standing, Cond.code yX2_standing cX2_standing 5 (some .int), Cond.fieldLink RX2 16 "HexRoomsModel" "of" "[I", Cond.fieldLink RX2 19 "HexRoomsModel" "floor" "[I", Cond.methodLink RX2 112 yX2_lit, Cond.instanceMethod yX2_lit, Cond.selects RX2 yX2_lit yX2_lit, Cond.code yX2_lit cX2_lit 3 (some .int), Cond.fieldLink RX2 29 "HexRoomsModel" "light" "[I", Cond.methodLink RX2 79 yX2_shine]
def wsX2_count_r2 : List Cond := [Cond.instanceMethod yX2_shine, Cond.selects RX2 yX2_shine yX2_shine, Cond.code yX2_shine cX2_shine 4 none, Cond.methodLink RX2 76 yX2_on, Cond.instanceMethod yX2_on, Cond.selects RX2 yX2_on yX2_on, Cond.code yX2_on cX2_on 4 (some .int), Cond.methodLink RX2 73 yX2_next, Cond.instanceMethod yX2_next, Cond.selects RX2 yX2_next yX2_next, Cond.code yX2_next cX2_next 3 (some .int), Cond.fieldLink RX2 9 "HexRoomsModel" "across" "[I", Cond.fieldLink RX2 63 "HexRoomsModel" "ACROSS" "[I", Cond.fieldLink RX2 13 "HexRoomsModel" "down" "[I", Cond.fieldLink RX2 66 "HexRoomsModel" "DOWN" "[I", Cond.methodLink RX2 69 yX2_found, Cond.instanceMethod yX2_found, Cond.selects RX2 yX2_found yX2_found, Cond.code yX2_found cX2_found 3 (some .int), Cond.fieldLink RX2 22 "HexRoomsModel" "grid" "[I", Cond.methodLink RX2 139 yX2_parts, Cond.instanceMethod yX2_parts, Cond.selects RX2 yX2_parts yX2_parts, Cond.code yX2_parts cX2_parts 5 (some .int)]
def wsX2_count_r3 : List Cond := [Cond.fieldLink RX2 32 "HexRoomsModel" "far" "[I", Cond.methodLink RX2 130 yX2_spread, Cond.instanceMethod yX2_spread, Cond.selects RX2 yX2_spread yX2_spread, Cond.code yX2_spread cX2_spread 6 (some .int), Cond.fieldLink RX2 35 "HexRoomsModel" "line" "[I", Cond.methodLink RX2 95 yX2_fail, Cond.instanceMethod yX2_fail, Cond.selects RX2 yX2_fail yX2_fail, Cond.code yX2_fail cX2_fail 2 (some .int)]
def wsX2_count : List Cond := .code yX2_count cX2_count 2 (some .int) :: ((wsX2_count_r1 ++ (wsX2_count_r2 ++ wsX2_count_r3)) ++ wsX20)
def wsX2_isAlike : List Cond := .code yX2_isAlike cX2_isAlike 5 (some .boolean) :: ([.fieldLink RX2 56 "HexRoomsModel" "rings" "I", .fieldLink RX2 19 "HexRoomsModel" "floor" "[I", .methodLink RX2 82 yX2_size, .static yX2_size, .initialized RX2, .code yX2_size cX2_size 1 (some .int), .methodLink RX2 86 yX2_first, .static yX2_first, .code yX2_first cX2_first 1 (some .int)] ++ wsX20)
def wsX2_sixthsToSame : List Cond := .code yX2_sixthsToSame cX2_sixthsToSame 2 (some .int) :: ([.fieldLink RX2 45 "HexRoomsModel" "thrown" "I", .methodLink RX2 145 yX2_isAlike, .instanceMethod yX2_isAlike, .selects RX2 yX2_isAlike yX2_isAlike, .initialized RX2, .code yX2_isAlike cX2_isAlike 5 (some .boolean), .fieldLink RX2 56 "HexRoomsModel" "rings" "I", .fieldLink RX2 19 "HexRoomsModel" "floor" "[I", .methodLink RX2 82 yX2_size, .static yX2_size, .code yX2_size cX2_size 1 (some .int), .methodLink RX2 86 yX2_first, .static yX2_first, .code yX2_first cX2_first 1 (some .int)] ++ wsX20)
def wsX2_litBy_r1 : List Cond := [Cond.methodLink RX2 108 yX2_move, Cond.instanceMethod yX2_move, Cond.selects RX2 yX2_move yX2_move, Cond.initialized RX2, Cond.code yX2_move cX2_move 6 none, Cond.fieldLink RX2 38 "HexRoomsModel" "moved" "[I", Cond.fieldLink RX2 19 "HexRoomsModel" "floor" "[I", Cond.methodLink RX2 89 arraycopyName, Cond.native arraycopyName, Cond.static arraycopyName, Cond.initialized "java/lang/System", Cond.methodLink RX2 82 yX2_size, Cond.static yX2_size, Cond.code yX2_size cX2_size 1 (some .int), Cond.methodLink RX2 86 yX2_first, Cond.static yX2_first, Cond.code yX2_first cX2_first 1 (some .int), Cond.methodLink RX2 112 yX2_lit, Cond.instanceMethod yX2_lit, Cond.selects RX2 yX2_lit yX2_lit, Cond.code yX2_lit cX2_lit 3 (some .int), Cond.fieldLink RX2 49 "HexRoomsModel" "rooms" "I", Cond.fieldLink RX2 29 "HexRoomsModel" "light" "[I", Cond.methodLink RX2 79 yX2_shine]
def wsX2_litBy_r2 : List Cond := [Cond.instanceMethod yX2_shine, Cond.selects RX2 yX2_shine yX2_shine, Cond.code yX2_shine cX2_shine 4 none, Cond.methodLink RX2 76 yX2_on, Cond.instanceMethod yX2_on, Cond.selects RX2 yX2_on yX2_on, Cond.code yX2_on cX2_on 4 (some .int), Cond.fieldLink RX2 25 "HexRoomsModel" "isShut" "[Z", Cond.methodLink RX2 73 yX2_next, Cond.instanceMethod yX2_next, Cond.selects RX2 yX2_next yX2_next, Cond.code yX2_next cX2_next 3 (some .int), Cond.fieldLink RX2 9 "HexRoomsModel" "across" "[I", Cond.fieldLink RX2 63 "HexRoomsModel" "ACROSS" "[I", Cond.fieldLink RX2 13 "HexRoomsModel" "down" "[I", Cond.fieldLink RX2 66 "HexRoomsModel" "DOWN" "[I", Cond.methodLink RX2 69 yX2_found, Cond.instanceMethod yX2_found, Cond.selects RX2 yX2_found yX2_found, Cond.code yX2_found cX2_found 3 (some .int), Cond.fieldLink RX2 22 "HexRoomsModel" "grid" "[I", Cond.methodLink RX2 52 yX2_isIn, Cond.static yX2_isIn, Cond.code yX2_isIn cX2_isIn 3 (some .boolean)]
def wsX2_litBy : List Cond := .code yX2_litBy cX2_litBy 4 (some .int) :: ((wsX2_litBy_r1 ++ wsX2_litBy_r2) ++ wsX20)
def wsX2_would_r1 : List Cond := [Cond.fieldLink RX2 45 "HexRoomsModel" "thrown" "I", Cond.methodLink RX2 105 yX2_isRing, Cond.instanceMethod yX2_isRing, Cond.selects RX2 yX2_isRing yX2_isRing, Cond.initialized RX2, Cond.code yX2_isRing cX2_isRing 2 (some .boolean), Cond.fieldLink RX2 56 "HexRoomsModel" "rings" "I", Cond.methodLink RX2 52 yX2_isIn, Cond.static yX2_isIn, Cond.code yX2_isIn cX2_isIn 3 (some .boolean), Cond.methodLink RX2 95 yX2_fail, Cond.instanceMethod yX2_fail, Cond.selects RX2 yX2_fail yX2_fail, Cond.code yX2_fail cX2_fail 2 (some .int), Cond.methodLink RX2 82 yX2_size, Cond.static yX2_size, Cond.code yX2_size cX2_size 1 (some .int), Cond.methodLink RX2 148 yX2_litBy, Cond.instanceMethod yX2_litBy, Cond.selects RX2 yX2_litBy yX2_litBy, Cond.code yX2_litBy cX2_litBy 4 (some .int), Cond.methodLink RX2 108 yX2_move, Cond.instanceMethod yX2_move, Cond.selects RX2 yX2_move yX2_move]
def wsX2_would_r2 : List Cond := [Cond.code yX2_move cX2_move 6 none, Cond.fieldLink RX2 38 "HexRoomsModel" "moved" "[I", Cond.fieldLink RX2 19 "HexRoomsModel" "floor" "[I", Cond.methodLink RX2 89 arraycopyName, Cond.native arraycopyName, Cond.static arraycopyName, Cond.initialized "java/lang/System", Cond.methodLink RX2 86 yX2_first, Cond.static yX2_first, Cond.code yX2_first cX2_first 1 (some .int), Cond.methodLink RX2 112 yX2_lit, Cond.instanceMethod yX2_lit, Cond.selects RX2 yX2_lit yX2_lit, Cond.code yX2_lit cX2_lit 3 (some .int), Cond.fieldLink RX2 49 "HexRoomsModel" "rooms" "I", Cond.fieldLink RX2 29 "HexRoomsModel" "light" "[I", Cond.methodLink RX2 79 yX2_shine, Cond.instanceMethod yX2_shine, Cond.selects RX2 yX2_shine yX2_shine, Cond.code yX2_shine cX2_shine 4 none, Cond.methodLink RX2 76 yX2_on, Cond.instanceMethod yX2_on, Cond.selects RX2 yX2_on yX2_on, Cond.code yX2_on cX2_on 4 (some .int)]
def wsX2_would_r3 : List Cond := [Cond.fieldLink RX2 25 "HexRoomsModel" "isShut" "[Z", Cond.methodLink RX2 73 yX2_next, Cond.instanceMethod yX2_next, Cond.selects RX2 yX2_next yX2_next, Cond.code yX2_next cX2_next 3 (some .int), Cond.fieldLink RX2 9 "HexRoomsModel" "across" "[I", Cond.fieldLink RX2 63 "HexRoomsModel" "ACROSS" "[I", Cond.fieldLink RX2 13 "HexRoomsModel" "down" "[I", Cond.fieldLink RX2 66 "HexRoomsModel" "DOWN" "[I", Cond.methodLink RX2 69 yX2_found, Cond.instanceMethod yX2_found, Cond.selects RX2 yX2_found yX2_found, Cond.code yX2_found cX2_found 3 (some .int), Cond.fieldLink RX2 22 "HexRoomsModel" "grid" "[I"]
def wsX2_would : List Cond := .code yX2_would cX2_would 3 (some .int) :: ((wsX2_would_r1 ++ (wsX2_would_r2 ++ wsX2_would_r3)) ++ wsX20)
def wsX2_advise_r1 : List Cond := [Cond.fieldLink RX2 45 "HexRoomsModel" "thrown" "I", Cond.methodLink RX2 105 yX2_isRing, Cond.instanceMethod yX2_isRing, Cond.selects RX2 yX2_isRing yX2_isRing, Cond.initialized RX2, Cond.code yX2_isRing cX2_isRing 2 (some .boolean), Cond.fieldLink RX2 56 "HexRoomsModel" "rings" "I", Cond.methodLink RX2 52 yX2_isIn, Cond.static yX2_isIn, Cond.code yX2_isIn cX2_isIn 3 (some .boolean), Cond.methodLink RX2 95 yX2_fail, Cond.instanceMethod yX2_fail, Cond.selects RX2 yX2_fail yX2_fail, Cond.code yX2_fail cX2_fail 2 (some .int), Cond.methodLink RX2 82 yX2_size, Cond.static yX2_size, Cond.code yX2_size cX2_size 1 (some .int), Cond.methodLink RX2 148 yX2_litBy, Cond.instanceMethod yX2_litBy, Cond.selects RX2 yX2_litBy yX2_litBy, Cond.code yX2_litBy cX2_litBy 4 (some .int), Cond.methodLink RX2 108 yX2_move, Cond.instanceMethod yX2_move, Cond.selects RX2 yX2_move yX2_move]
def wsX2_advise_r2 : List Cond := [Cond.code yX2_move cX2_move 6 none, Cond.fieldLink RX2 38 "HexRoomsModel" "moved" "[I", Cond.fieldLink RX2 19 "HexRoomsModel" "floor" "[I", Cond.methodLink RX2 89 arraycopyName, Cond.native arraycopyName, Cond.static arraycopyName, Cond.initialized "java/lang/System", Cond.methodLink RX2 86 yX2_first, Cond.static yX2_first, Cond.code yX2_first cX2_first 1 (some .int), Cond.methodLink RX2 112 yX2_lit, Cond.instanceMethod yX2_lit, Cond.selects RX2 yX2_lit yX2_lit, Cond.code yX2_lit cX2_lit 3 (some .int), Cond.fieldLink RX2 49 "HexRoomsModel" "rooms" "I", Cond.fieldLink RX2 29 "HexRoomsModel" "light" "[I", Cond.methodLink RX2 79 yX2_shine, Cond.instanceMethod yX2_shine, Cond.selects RX2 yX2_shine yX2_shine, Cond.code yX2_shine cX2_shine 4 none, Cond.methodLink RX2 76 yX2_on, Cond.instanceMethod yX2_on, Cond.selects RX2 yX2_on yX2_on, Cond.code yX2_on cX2_on 4 (some .int)]
def wsX2_advise_r3 : List Cond := [Cond.fieldLink RX2 25 "HexRoomsModel" "isShut" "[Z", Cond.methodLink RX2 73 yX2_next, Cond.instanceMethod yX2_next, Cond.selects RX2 yX2_next yX2_next, Cond.code yX2_next cX2_next 3 (some .int), Cond.fieldLink RX2 9 "HexRoomsModel" "across" "[I", Cond.fieldLink RX2 63 "HexRoomsModel" "ACROSS" "[I", Cond.fieldLink RX2 13 "HexRoomsModel" "down" "[I", Cond.fieldLink RX2 66 "HexRoomsModel" "DOWN" "[I", Cond.methodLink RX2 69 yX2_found, Cond.instanceMethod yX2_found, Cond.selects RX2 yX2_found yX2_found, Cond.code yX2_found cX2_found 3 (some .int), Cond.fieldLink RX2 22 "HexRoomsModel" "grid" "[I"]
def wsX2_advise : List Cond := .code yX2_advise cX2_advise 6 (some .int) :: ((wsX2_advise_r1 ++ (wsX2_advise_r2 ++ wsX2_advise_r3)) ++ wsX20)
def wsX2_best_r1 : List Cond := [Cond.fieldLink RX2 45 "HexRoomsModel" "thrown" "I", Cond.fieldLink RX2 49 "HexRoomsModel" "rooms" "I", Cond.fieldLink RX2 19 "HexRoomsModel" "floor" "[I", Cond.methodLink RX2 112 yX2_lit, Cond.instanceMethod yX2_lit, Cond.selects RX2 yX2_lit yX2_lit, Cond.initialized RX2, Cond.code yX2_lit cX2_lit 3 (some .int), Cond.fieldLink RX2 29 "HexRoomsModel" "light" "[I", Cond.methodLink RX2 79 yX2_shine, Cond.instanceMethod yX2_shine, Cond.selects RX2 yX2_shine yX2_shine, Cond.code yX2_shine cX2_shine 4 none, Cond.methodLink RX2 76 yX2_on, Cond.instanceMethod yX2_on, Cond.selects RX2 yX2_on yX2_on, Cond.code yX2_on cX2_on 4 (some .int), Cond.fieldLink RX2 25 "HexRoomsModel" "isShut" "[Z", Cond.methodLink RX2 73 yX2_next, Cond.instanceMethod yX2_next, Cond.selects RX2 yX2_next yX2_next, Cond.code yX2_next cX2_next 3 (some .int), Cond.fieldLink RX2 9 "HexRoomsModel" "across" "[I", Cond.fieldLink RX2 63 "HexRoomsModel" "ACROSS" "[I"]
def wsX2_best_r2 : List Cond := [Cond.fieldLink RX2 13 "HexRoomsModel" "down" "[I", Cond.fieldLink RX2 66 "HexRoomsModel" "DOWN" "[I", Cond.methodLink RX2 69 yX2_found, Cond.instanceMethod yX2_found, Cond.selects RX2 yX2_found yX2_found, Cond.code yX2_found cX2_found 3 (some .int), Cond.fieldLink RX2 22 "HexRoomsModel" "grid" "[I", Cond.methodLink RX2 52 yX2_isIn, Cond.static yX2_isIn, Cond.code yX2_isIn cX2_isIn 3 (some .boolean)]
def wsX2_best : List Cond := .code yX2_best cX2_best 5 (some .int) :: ((wsX2_best_r1 ++ wsX2_best_r2) ++ wsX20)
def wsX2_mean_r1 : List Cond := [Cond.fieldLink RX2 45 "HexRoomsModel" "thrown" "I", Cond.fieldLink RX2 49 "HexRoomsModel" "rooms" "I", Cond.fieldLink RX2 29 "HexRoomsModel" "light" "[I", Cond.methodLink RX2 112 yX2_lit, Cond.instanceMethod yX2_lit, Cond.selects RX2 yX2_lit yX2_lit, Cond.initialized RX2, Cond.code yX2_lit cX2_lit 3 (some .int), Cond.fieldLink RX2 19 "HexRoomsModel" "floor" "[I", Cond.methodLink RX2 79 yX2_shine, Cond.instanceMethod yX2_shine, Cond.selects RX2 yX2_shine yX2_shine, Cond.code yX2_shine cX2_shine 4 none, Cond.methodLink RX2 76 yX2_on, Cond.instanceMethod yX2_on, Cond.selects RX2 yX2_on yX2_on, Cond.code yX2_on cX2_on 4 (some .int), Cond.fieldLink RX2 25 "HexRoomsModel" "isShut" "[Z", Cond.methodLink RX2 73 yX2_next, Cond.instanceMethod yX2_next, Cond.selects RX2 yX2_next yX2_next, Cond.code yX2_next cX2_next 3 (some .int), Cond.fieldLink RX2 9 "HexRoomsModel" "across" "[I", Cond.fieldLink RX2 63 "HexRoomsModel" "ACROSS" "[I"]
def wsX2_mean_r2 : List Cond := [Cond.fieldLink RX2 13 "HexRoomsModel" "down" "[I", Cond.fieldLink RX2 66 "HexRoomsModel" "DOWN" "[I", Cond.methodLink RX2 69 yX2_found, Cond.instanceMethod yX2_found, Cond.selects RX2 yX2_found yX2_found, Cond.code yX2_found cX2_found 3 (some .int), Cond.fieldLink RX2 22 "HexRoomsModel" "grid" "[I", Cond.methodLink RX2 52 yX2_isIn, Cond.static yX2_isIn, Cond.code yX2_isIn cX2_isIn 3 (some .boolean)]
def wsX2_mean : List Cond := .code yX2_mean cX2_mean 4 (some .double) :: ((wsX2_mean_r1 ++ wsX2_mean_r2) ++ wsX20)
def wsX2_digest_r1 : List Cond := [Cond.fieldLink RX2 45 "HexRoomsModel" "thrown" "I", Cond.constantLong RX2 151 (1733), Cond.constantLong RX2 153 (31), Cond.fieldLink RX2 49 "HexRoomsModel" "rooms" "I", Cond.fieldLink RX2 25 "HexRoomsModel" "isShut" "[Z", Cond.fieldLink RX2 56 "HexRoomsModel" "rings" "I", Cond.methodLink RX2 142 yX2_counted, Cond.instanceMethod yX2_counted, Cond.selects RX2 yX2_counted yX2_counted, Cond.initialized RX2, Cond.code yX2_counted cX2_counted 4 (some .int), Cond.methodLink RX2 133 yX2_standing, Cond.instanceMethod yX2_standing, Cond.selects RX2 yX2_standing yX2_standing, Cond.code yX2_standing cX2_standing 5 (some .int), Cond.fieldLink RX2 16 "HexRoomsModel" "of" "[I", Cond.fieldLink RX2 19 "HexRoomsModel" "floor" "[I", Cond.methodLink RX2 112 yX2_lit, Cond.instanceMethod yX2_lit, Cond.selects RX2 yX2_lit yX2_lit, Cond.code yX2_lit cX2_lit 3 (some .int), Cond.fieldLink RX2 29 "HexRoomsModel" "light" "[I", Cond.methodLink RX2 79 yX2_shine, Cond.instanceMethod yX2_shine]
def wsX2_digest_r2 : List Cond := [Cond.selects RX2 yX2_shine yX2_shine, Cond.code yX2_shine cX2_shine 4 none, Cond.methodLink RX2 76 yX2_on, Cond.instanceMethod yX2_on, Cond.selects RX2 yX2_on yX2_on, Cond.code yX2_on cX2_on 4 (some .int), Cond.methodLink RX2 73 yX2_next, Cond.instanceMethod yX2_next, Cond.selects RX2 yX2_next yX2_next, Cond.code yX2_next cX2_next 3 (some .int), Cond.fieldLink RX2 9 "HexRoomsModel" "across" "[I", Cond.fieldLink RX2 63 "HexRoomsModel" "ACROSS" "[I", Cond.fieldLink RX2 13 "HexRoomsModel" "down" "[I", Cond.fieldLink RX2 66 "HexRoomsModel" "DOWN" "[I", Cond.methodLink RX2 69 yX2_found, Cond.instanceMethod yX2_found, Cond.selects RX2 yX2_found yX2_found, Cond.code yX2_found cX2_found 3 (some .int), Cond.fieldLink RX2 22 "HexRoomsModel" "grid" "[I", Cond.methodLink RX2 52 yX2_isIn, Cond.static yX2_isIn, Cond.code yX2_isIn cX2_isIn 3 (some .boolean), Cond.methodLink RX2 139 yX2_parts, Cond.instanceMethod yX2_parts]
def wsX2_digest_r3 : List Cond := [Cond.selects RX2 yX2_parts yX2_parts, Cond.code yX2_parts cX2_parts 5 (some .int), Cond.fieldLink RX2 32 "HexRoomsModel" "far" "[I", Cond.methodLink RX2 130 yX2_spread, Cond.instanceMethod yX2_spread, Cond.selects RX2 yX2_spread yX2_spread, Cond.code yX2_spread cX2_spread 6 (some .int), Cond.fieldLink RX2 35 "HexRoomsModel" "line" "[I", Cond.methodLink RX2 122 yX2_roomTold, Cond.instanceMethod yX2_roomTold, Cond.selects RX2 yX2_roomTold yX2_roomTold, Cond.code yX2_roomTold cX2_roomTold 3 (some .int), Cond.methodLink RX2 119 yX2_sidesOn, Cond.instanceMethod yX2_sidesOn, Cond.selects RX2 yX2_sidesOn yX2_sidesOn, Cond.code yX2_sidesOn cX2_sidesOn 4 (some .int), Cond.methodLink RX2 136 yX2_ringTold, Cond.instanceMethod yX2_ringTold, Cond.selects RX2 yX2_ringTold yX2_ringTold, Cond.code yX2_ringTold cX2_ringTold 5 (some .int), Cond.methodLink RX2 82 yX2_size, Cond.static yX2_size, Cond.code yX2_size cX2_size 1 (some .int), Cond.methodLink RX2 86 yX2_first]
def wsX2_digest_r4 : List Cond := [Cond.static yX2_first, Cond.code yX2_first cX2_first 1 (some .int)]
def wsX2_digest : List Cond := .code yX2_digest cX2_digest 5 (some .long) :: ((wsX2_digest_r1 ++ (wsX2_digest_r2 ++ (wsX2_digest_r3 ++ wsX2_digest_r4))) ++ wsX20)
def wsJ9_abs_0f7a4 : List Cond := .code yJ9_abs_0f7a4 cJ9_abs_0f7a4 1 (some .int) :: ([])
def wsL_setRings_r1 : List Cond := [Cond.classLink RL 13 "java/lang/IllegalArgumentException", Cond.methodLink RL 7 yX1_setRings, Cond.instanceMethod yX1_setRings, Cond.selects RX1 yX1_setRings yX1_setRings, Cond.initialized RX1, Cond.code yX1_setRings cX1_setRings 2 (some .int), Cond.fieldLink RX1 50 "HexRooms" "rooms" "I", Cond.methodLink RX1 46 yX1_needNumber, Cond.static yX1_needNumber, Cond.code yX1_needNumber cX1_needNumber 3 none, Cond.classLink RX1 184 "java/lang/IllegalArgumentException", Cond.initialized "java/lang/IllegalArgumentException", Cond.methodLink RX1 42 yX1_build, Cond.instanceMethod yX1_build, Cond.selects RX1 yX1_build yX1_build, Cond.code yX1_build cX1_build 3 none, Cond.fieldLink RX1 149 "HexRooms" "rings" "I", Cond.fieldLink RX1 16 "HexRooms" "floors" "[I", Cond.fieldLink RX1 20 "HexRooms" "shutDoors" "[Z", Cond.fieldLink RX1 24 "HexRooms" "light" "[I", Cond.methodLink RX1 83 yX0_firstRoomOf, Cond.static yX0_firstRoomOf, Cond.initialized RX0, Cond.code yX0_firstRoomOf cX0_firstRoomOf 1 (some .int)]
def wsL_setRings_r2 : List Cond := [Cond.methodLink RX1 190 yJ7_fill_53178, Cond.static yJ7_fill_53178, Cond.initialized RJ7, Cond.code yJ7_fill_53178 cJ7_fill_53178 4 none]
def wsL_setRings : List Cond := .codeWith yL_setRings cL_setRings 4 (some .int) [(0, 9, 12, 13)] :: ((wsL_setRings_r1 ++ wsL_setRings_r2) ++ wsX10 ++ (vx_at0 RX1 186 "java/lang/IllegalArgumentException" ["java/lang/RuntimeException", "java/lang/Exception"]).filter goodWord)
def wsL_put_r1 : List Cond := [Cond.classLink RL 19 "java/lang/IndexOutOfBoundsException", Cond.methodLink RL 15 yX1_put, Cond.instanceMethod yX1_put, Cond.selects RX1 yX1_put yX1_put, Cond.initialized RX1, Cond.code yX1_put cX1_put 4 (some .int), Cond.fieldLink RX1 16 "HexRooms" "floors" "[I", Cond.methodLink RX1 54 yX1_needRoom, Cond.instanceMethod yX1_needRoom, Cond.selects RX1 yX1_needRoom yX1_needRoom, Cond.code yX1_needRoom cX1_needRoom 2 none, Cond.fieldLink RX1 50 "HexRooms" "rooms" "I", Cond.methodLink RX1 57 yX1_needIndex, Cond.static yX1_needIndex, Cond.code yX1_needIndex cX1_needIndex 2 none, Cond.classLink RX1 181 "java/lang/IndexOutOfBoundsException", Cond.initialized "java/lang/IndexOutOfBoundsException", Cond.methodLink RX1 61 yX1_relight, Cond.instanceMethod yX1_relight, Cond.selects RX1 yX1_relight yX1_relight, Cond.code yX1_relight cX1_relight 1 (some .int), Cond.fieldLink RX1 24 "HexRooms" "light" "[I", Cond.methodLink RX1 199 yX1_shine, Cond.instanceMethod yX1_shine]
def wsL_put_r2 : List Cond := [Cond.selects RX1 yX1_shine yX1_shine, Cond.code yX1_shine cX1_shine 6 (some .int), Cond.fieldLink RX1 33 "HexRooms" "beam" "[I", Cond.methodLink RX1 190 yJ7_fill_53178, Cond.static yJ7_fill_53178, Cond.initialized RJ7, Cond.code yJ7_fill_53178 cJ7_fill_53178 4 none, Cond.methodLink RX1 125 yX1_beamFrom, Cond.instanceMethod yX1_beamFrom, Cond.selects RX1 yX1_beamFrom yX1_beamFrom, Cond.code yX1_beamFrom cX1_beamFrom 6 (some .int), Cond.methodLink RX1 132 yX1_onward, Cond.instanceMethod yX1_onward, Cond.selects RX1 yX1_onward yX1_onward, Cond.code yX1_onward cX1_onward 5 (some .int), Cond.fieldLink RX1 20 "HexRooms" "shutDoors" "[Z", Cond.methodLink RX1 117 yX1_neighbour, Cond.instanceMethod yX1_neighbour, Cond.selects RX1 yX1_neighbour yX1_neighbour, Cond.code yX1_neighbour cX1_neighbour 3 (some .int), Cond.fieldLink RX1 12 "HexRooms" "plan" "LHexRooms$Plan;", Cond.methodLink RX1 196 yX0_nextTo, Cond.instanceMethod yX0_nextTo, Cond.selects RX0 yX0_nextTo yX0_nextTo]
def wsL_put_r3 : List Cond := [Cond.initialized RX0, Cond.code yX0_nextTo cX0_nextTo 3 (some .int), Cond.fieldLink RX0 24 "HexRooms$Plan" "neighbours" "[I", Cond.static yX1_doorOf, Cond.code yX1_doorOf cX1_doorOf 2 (some .int), Cond.methodLink RX1 102 yX1_orNone, Cond.instanceMethod yX1_orNone, Cond.selects RX1 yX1_orNone yX1_orNone, Cond.code yX1_orNone cX1_orNone 2 (some .int), Cond.methodLink RX1 69 yX1_doorOf, Cond.methodLink RX1 146 yX1_litAmong, Cond.static yX1_litAmong, Cond.code yX1_litAmong cX1_litAmong 5 (some .int)]
def wsL_put : List Cond := .codeWith yL_put cL_put 5 (some .int) [(0, 10, 13, 19)] :: ((wsL_put_r1 ++ (wsL_put_r2 ++ wsL_put_r3)) ++ wsX10 ++ wsX00 ++ (vx_at0 RX1 183 "java/lang/IndexOutOfBoundsException" ["java/lang/RuntimeException", "java/lang/Exception"]).filter goodWord)
def wsL_shut_r1 : List Cond := [Cond.classLink RL 19 "java/lang/IndexOutOfBoundsException", Cond.classLink RL 25 "java/lang/IllegalStateException", Cond.methodLink RL 21 yX1_shut, Cond.instanceMethod yX1_shut, Cond.selects RX1 yX1_shut yX1_shut, Cond.initialized RX1, Cond.code yX1_shut cX1_shut 6 (some .boolean), Cond.fieldLink RX1 20 "HexRooms" "shutDoors" "[Z", Cond.methodLink RX1 65 yX1_needDoor, Cond.instanceMethod yX1_needDoor, Cond.selects RX1 yX1_needDoor yX1_needDoor, Cond.code yX1_needDoor cX1_needDoor 4 (some .int), Cond.classLink RX1 187 "java/lang/IllegalStateException", Cond.initialized "java/lang/IllegalStateException", Cond.methodLink RX1 54 yX1_needRoom, Cond.instanceMethod yX1_needRoom, Cond.selects RX1 yX1_needRoom yX1_needRoom, Cond.code yX1_needRoom cX1_needRoom 2 none, Cond.fieldLink RX1 50 "HexRooms" "rooms" "I", Cond.methodLink RX1 57 yX1_needIndex, Cond.static yX1_needIndex, Cond.code yX1_needIndex cX1_needIndex 2 none, Cond.classLink RX1 181 "java/lang/IndexOutOfBoundsException", Cond.initialized "java/lang/IndexOutOfBoundsException"]
def wsL_shut_r2 : List Cond := [Cond.methodLink RX1 117 yX1_neighbour, Cond.instanceMethod yX1_neighbour, Cond.selects RX1 yX1_neighbour yX1_neighbour, Cond.code yX1_neighbour cX1_neighbour 3 (some .int), Cond.fieldLink RX1 12 "HexRooms" "plan" "LHexRooms$Plan;", Cond.methodLink RX1 196 yX0_nextTo, Cond.instanceMethod yX0_nextTo, Cond.selects RX0 yX0_nextTo yX0_nextTo, Cond.initialized RX0, Cond.code yX0_nextTo cX0_nextTo 3 (some .int), Cond.fieldLink RX0 24 "HexRooms$Plan" "neighbours" "[I", Cond.static yX1_doorOf, Cond.code yX1_doorOf cX1_doorOf 2 (some .int), Cond.methodLink RX1 102 yX1_orNone, Cond.instanceMethod yX1_orNone, Cond.selects RX1 yX1_orNone yX1_orNone, Cond.code yX1_orNone cX1_orNone 2 (some .int), Cond.methodLink RX1 69 yX1_doorOf, Cond.methodLink RX1 72 yX1_opposite, Cond.static yX1_opposite, Cond.code yX1_opposite cX1_opposite 1 (some .int), Cond.methodLink RX1 61 yX1_relight, Cond.instanceMethod yX1_relight, Cond.selects RX1 yX1_relight yX1_relight]
def wsL_shut_r3 : List Cond := [Cond.code yX1_relight cX1_relight 1 (some .int), Cond.fieldLink RX1 16 "HexRooms" "floors" "[I", Cond.fieldLink RX1 24 "HexRooms" "light" "[I", Cond.methodLink RX1 199 yX1_shine, Cond.instanceMethod yX1_shine, Cond.selects RX1 yX1_shine yX1_shine, Cond.code yX1_shine cX1_shine 6 (some .int), Cond.fieldLink RX1 33 "HexRooms" "beam" "[I", Cond.methodLink RX1 190 yJ7_fill_53178, Cond.static yJ7_fill_53178, Cond.initialized RJ7, Cond.code yJ7_fill_53178 cJ7_fill_53178 4 none, Cond.methodLink RX1 125 yX1_beamFrom, Cond.instanceMethod yX1_beamFrom, Cond.selects RX1 yX1_beamFrom yX1_beamFrom, Cond.code yX1_beamFrom cX1_beamFrom 6 (some .int), Cond.methodLink RX1 132 yX1_onward, Cond.instanceMethod yX1_onward, Cond.selects RX1 yX1_onward yX1_onward, Cond.code yX1_onward cX1_onward 5 (some .int), Cond.methodLink RX1 146 yX1_litAmong, Cond.static yX1_litAmong, Cond.code yX1_litAmong cX1_litAmong 5 (some .int)]
def wsL_shut : List Cond := .codeWith yL_shut cL_shut 6 (some .int) [(0, 19, 22, 19), (0, 19, 26, 25)] :: ((wsL_shut_r1 ++ (wsL_shut_r2 ++ wsL_shut_r3)) ++ wsX10 ++ wsX00 ++ (vx_at0 RX1 189 "java/lang/IllegalStateException" ["java/lang/RuntimeException", "java/lang/Exception"]).filter goodWord ++ (vx_at0 RX1 183 "java/lang/IndexOutOfBoundsException" ["java/lang/RuntimeException", "java/lang/Exception"]).filter goodWord)
def wsL_turn_r1 : List Cond := [Cond.classLink RL 19 "java/lang/IndexOutOfBoundsException", Cond.classLink RL 13 "java/lang/IllegalArgumentException", Cond.methodLink RL 27 yX1_turn, Cond.instanceMethod yX1_turn, Cond.selects RX1 yX1_turn yX1_turn, Cond.initialized RX1, Cond.code yX1_turn cX1_turn 4 (some .int), Cond.fieldLink RX1 27 "HexRooms" "trialFloors" "[I", Cond.fieldLink RX1 16 "HexRooms" "floors" "[I", Cond.methodLink RX1 89 arraycopyName, Cond.native arraycopyName, Cond.static arraycopyName, Cond.initialized "java/lang/System", Cond.methodLink RX1 76 yX1_needRing, Cond.instanceMethod yX1_needRing, Cond.selects RX1 yX1_needRing yX1_needRing, Cond.code yX1_needRing cX1_needRing 2 none, Cond.fieldLink RX1 149 "HexRooms" "rings" "I", Cond.methodLink RX1 57 yX1_needIndex, Cond.static yX1_needIndex, Cond.code yX1_needIndex cX1_needIndex 2 none, Cond.classLink RX1 181 "java/lang/IndexOutOfBoundsException", Cond.initialized "java/lang/IndexOutOfBoundsException", Cond.methodLink RX1 46 yX1_needNumber]
def wsL_turn_r2 : List Cond := [Cond.static yX1_needNumber, Cond.code yX1_needNumber cX1_needNumber 3 none, Cond.classLink RX1 184 "java/lang/IllegalArgumentException", Cond.initialized "java/lang/IllegalArgumentException", Cond.methodLink RX1 79 yX1_turnRingInto, Cond.instanceMethod yX1_turnRingInto, Cond.selects RX1 yX1_turnRingInto yX1_turnRingInto, Cond.code yX1_turnRingInto cX1_turnRingInto 7 none, Cond.methodLink RX1 83 yX0_firstRoomOf, Cond.static yX0_firstRoomOf, Cond.initialized RX0, Cond.code yX0_firstRoomOf cX0_firstRoomOf 1 (some .int), Cond.methodLink RX1 86 yX0_sizeOf, Cond.static yX0_sizeOf, Cond.code yX0_sizeOf cX0_sizeOf 1 (some .int), Cond.methodLink RX1 61 yX1_relight, Cond.instanceMethod yX1_relight, Cond.selects RX1 yX1_relight yX1_relight, Cond.code yX1_relight cX1_relight 1 (some .int), Cond.fieldLink RX1 24 "HexRooms" "light" "[I", Cond.methodLink RX1 199 yX1_shine, Cond.instanceMethod yX1_shine, Cond.selects RX1 yX1_shine yX1_shine, Cond.code yX1_shine cX1_shine 6 (some .int)]
def wsL_turn_r3 : List Cond := [Cond.fieldLink RX1 50 "HexRooms" "rooms" "I", Cond.fieldLink RX1 33 "HexRooms" "beam" "[I", Cond.methodLink RX1 190 yJ7_fill_53178, Cond.static yJ7_fill_53178, Cond.initialized RJ7, Cond.code yJ7_fill_53178 cJ7_fill_53178 4 none, Cond.methodLink RX1 125 yX1_beamFrom, Cond.instanceMethod yX1_beamFrom, Cond.selects RX1 yX1_beamFrom yX1_beamFrom, Cond.code yX1_beamFrom cX1_beamFrom 6 (some .int), Cond.methodLink RX1 132 yX1_onward, Cond.instanceMethod yX1_onward, Cond.selects RX1 yX1_onward yX1_onward, Cond.code yX1_onward cX1_onward 5 (some .int), Cond.fieldLink RX1 20 "HexRooms" "shutDoors" "[Z", Cond.methodLink RX1 117 yX1_neighbour, Cond.instanceMethod yX1_neighbour, Cond.selects RX1 yX1_neighbour yX1_neighbour, Cond.code yX1_neighbour cX1_neighbour 3 (some .int), Cond.fieldLink RX1 12 "HexRooms" "plan" "LHexRooms$Plan;", Cond.methodLink RX1 196 yX0_nextTo, Cond.instanceMethod yX0_nextTo, Cond.selects RX0 yX0_nextTo yX0_nextTo, Cond.code yX0_nextTo cX0_nextTo 3 (some .int)]
def wsL_turn_r4 : List Cond := [Cond.fieldLink RX0 24 "HexRooms$Plan" "neighbours" "[I", Cond.static yX1_doorOf, Cond.code yX1_doorOf cX1_doorOf 2 (some .int), Cond.methodLink RX1 102 yX1_orNone, Cond.instanceMethod yX1_orNone, Cond.selects RX1 yX1_orNone yX1_orNone, Cond.code yX1_orNone cX1_orNone 2 (some .int), Cond.methodLink RX1 69 yX1_doorOf, Cond.methodLink RX1 146 yX1_litAmong, Cond.static yX1_litAmong, Cond.code yX1_litAmong cX1_litAmong 5 (some .int)]
def wsL_turn : List Cond := .codeWith yL_turn cL_turn 5 (some .int) [(0, 10, 13, 19), (0, 10, 17, 13)] :: ((wsL_turn_r1 ++ (wsL_turn_r2 ++ (wsL_turn_r3 ++ wsL_turn_r4))) ++ wsX10 ++ wsX00 ++ (vx_at0 RX1 183 "java/lang/IndexOutOfBoundsException" ["java/lang/RuntimeException", "java/lang/Exception"]).filter goodWord ++ (vx_at0 RX1 186 "java/lang/IllegalArgumentException" ["java/lang/RuntimeException", "java/lang/Exception"]).filter goodWord)
def wsL_turnAll_r1 : List Cond := [Cond.classLink RL 13 "java/lang/IllegalArgumentException", Cond.methodLink RL 30 yX1_turnAll, Cond.instanceMethod yX1_turnAll, Cond.selects RX1 yX1_turnAll yX1_turnAll, Cond.initialized RX1, Cond.code yX1_turnAll cX1_turnAll 2 (some .int), Cond.fieldLink RX1 27 "HexRooms" "trialFloors" "[I", Cond.fieldLink RX1 16 "HexRooms" "floors" "[I", Cond.fieldLink RX1 50 "HexRooms" "rooms" "I", Cond.methodLink RX1 89 arraycopyName, Cond.native arraycopyName, Cond.static arraycopyName, Cond.initialized "java/lang/System", Cond.methodLink RX1 46 yX1_needNumber, Cond.static yX1_needNumber, Cond.code yX1_needNumber cX1_needNumber 3 none, Cond.classLink RX1 184 "java/lang/IllegalArgumentException", Cond.initialized "java/lang/IllegalArgumentException", Cond.methodLink RX1 95 yX1_turnAllInto, Cond.instanceMethod yX1_turnAllInto, Cond.selects RX1 yX1_turnAllInto yX1_turnAllInto, Cond.code yX1_turnAllInto cX1_turnAllInto 4 none, Cond.fieldLink RX1 149 "HexRooms" "rings" "I", Cond.methodLink RX1 79 yX1_turnRingInto]
def wsL_turnAll_r2 : List Cond := [Cond.instanceMethod yX1_turnRingInto, Cond.selects RX1 yX1_turnRingInto yX1_turnRingInto, Cond.code yX1_turnRingInto cX1_turnRingInto 7 none, Cond.methodLink RX1 83 yX0_firstRoomOf, Cond.static yX0_firstRoomOf, Cond.initialized RX0, Cond.code yX0_firstRoomOf cX0_firstRoomOf 1 (some .int), Cond.methodLink RX1 86 yX0_sizeOf, Cond.static yX0_sizeOf, Cond.code yX0_sizeOf cX0_sizeOf 1 (some .int), Cond.methodLink RX1 61 yX1_relight, Cond.instanceMethod yX1_relight, Cond.selects RX1 yX1_relight yX1_relight, Cond.code yX1_relight cX1_relight 1 (some .int), Cond.fieldLink RX1 24 "HexRooms" "light" "[I", Cond.methodLink RX1 199 yX1_shine, Cond.instanceMethod yX1_shine, Cond.selects RX1 yX1_shine yX1_shine, Cond.code yX1_shine cX1_shine 6 (some .int), Cond.fieldLink RX1 33 "HexRooms" "beam" "[I", Cond.methodLink RX1 190 yJ7_fill_53178, Cond.static yJ7_fill_53178, Cond.initialized RJ7, Cond.code yJ7_fill_53178 cJ7_fill_53178 4 none]
def wsL_turnAll_r3 : List Cond := [Cond.methodLink RX1 125 yX1_beamFrom, Cond.instanceMethod yX1_beamFrom, Cond.selects RX1 yX1_beamFrom yX1_beamFrom, Cond.code yX1_beamFrom cX1_beamFrom 6 (some .int), Cond.methodLink RX1 132 yX1_onward, Cond.instanceMethod yX1_onward, Cond.selects RX1 yX1_onward yX1_onward, Cond.code yX1_onward cX1_onward 5 (some .int), Cond.fieldLink RX1 20 "HexRooms" "shutDoors" "[Z", Cond.methodLink RX1 117 yX1_neighbour, Cond.instanceMethod yX1_neighbour, Cond.selects RX1 yX1_neighbour yX1_neighbour, Cond.code yX1_neighbour cX1_neighbour 3 (some .int), Cond.fieldLink RX1 12 "HexRooms" "plan" "LHexRooms$Plan;", Cond.methodLink RX1 196 yX0_nextTo, Cond.instanceMethod yX0_nextTo, Cond.selects RX0 yX0_nextTo yX0_nextTo, Cond.code yX0_nextTo cX0_nextTo 3 (some .int), Cond.fieldLink RX0 24 "HexRooms$Plan" "neighbours" "[I", Cond.static yX1_doorOf, Cond.code yX1_doorOf cX1_doorOf 2 (some .int), Cond.methodLink RX1 102 yX1_orNone, Cond.instanceMethod yX1_orNone, Cond.selects RX1 yX1_orNone yX1_orNone]
def wsL_turnAll_r4 : List Cond := [Cond.code yX1_orNone cX1_orNone 2 (some .int), Cond.methodLink RX1 69 yX1_doorOf, Cond.methodLink RX1 146 yX1_litAmong, Cond.static yX1_litAmong, Cond.code yX1_litAmong cX1_litAmong 5 (some .int)]
def wsL_turnAll : List Cond := .codeWith yL_turnAll cL_turnAll 4 (some .int) [(0, 9, 12, 13)] :: ((wsL_turnAll_r1 ++ (wsL_turnAll_r2 ++ (wsL_turnAll_r3 ++ wsL_turnAll_r4))) ++ wsX10 ++ wsX00 ++ (vx_at0 RX1 186 "java/lang/IllegalArgumentException" ["java/lang/RuntimeException", "java/lang/Exception"]).filter goodWord)
def wsL_about_r1 : List Cond := [Cond.classLink RL 19 "java/lang/IndexOutOfBoundsException", Cond.methodLink RL 33 yX1_about, Cond.instanceMethod yX1_about, Cond.selects RX1 yX1_about yX1_about, Cond.initialized RX1, Cond.code yX1_about cX1_about 3 (some .int), Cond.fieldLink RX1 12 "HexRooms" "plan" "LHexRooms$Plan;", Cond.fieldLink RX1 16 "HexRooms" "floors" "[I", Cond.fieldLink RX1 24 "HexRooms" "light" "[I", Cond.methodLink RX1 54 yX1_needRoom, Cond.instanceMethod yX1_needRoom, Cond.selects RX1 yX1_needRoom yX1_needRoom, Cond.code yX1_needRoom cX1_needRoom 2 none, Cond.fieldLink RX1 50 "HexRooms" "rooms" "I", Cond.methodLink RX1 57 yX1_needIndex, Cond.static yX1_needIndex, Cond.code yX1_needIndex cX1_needIndex 2 none, Cond.classLink RX1 181 "java/lang/IndexOutOfBoundsException", Cond.initialized "java/lang/IndexOutOfBoundsException", Cond.methodLink RX1 105 yX0_acrossOf, Cond.instanceMethod yX0_acrossOf, Cond.selects RX0 yX0_acrossOf yX0_acrossOf, Cond.initialized RX0, Cond.code yX0_acrossOf cX0_acrossOf 2 (some .int)]
def wsL_about_r2 : List Cond := [Cond.fieldLink RX0 9 "HexRooms$Plan" "acrosses" "[I", Cond.methodLink RX1 108 yX0_downOf, Cond.instanceMethod yX0_downOf, Cond.selects RX0 yX0_downOf yX0_downOf, Cond.code yX0_downOf cX0_downOf 2 (some .int), Cond.fieldLink RX0 15 "HexRooms$Plan" "downs" "[I", Cond.methodLink RX1 111 yX0_ringOf, Cond.instanceMethod yX0_ringOf, Cond.selects RX0 yX0_ringOf yX0_ringOf, Cond.code yX0_ringOf cX0_ringOf 2 (some .int), Cond.fieldLink RX0 18 "HexRooms$Plan" "rings" "[I", Cond.methodLink RX1 114 yX1_sidesOnward, Cond.instanceMethod yX1_sidesOnward, Cond.selects RX1 yX1_sidesOnward yX1_sidesOnward, Cond.code yX1_sidesOnward cX1_sidesOnward 4 (some .int), Cond.methodLink RX1 132 yX1_onward, Cond.instanceMethod yX1_onward, Cond.selects RX1 yX1_onward yX1_onward, Cond.code yX1_onward cX1_onward 5 (some .int), Cond.fieldLink RX1 20 "HexRooms" "shutDoors" "[Z", Cond.methodLink RX1 117 yX1_neighbour, Cond.instanceMethod yX1_neighbour, Cond.selects RX1 yX1_neighbour yX1_neighbour, Cond.code yX1_neighbour cX1_neighbour 3 (some .int)]
def wsL_about_r3 : List Cond := [Cond.methodLink RX1 196 yX0_nextTo, Cond.instanceMethod yX0_nextTo, Cond.selects RX0 yX0_nextTo yX0_nextTo, Cond.code yX0_nextTo cX0_nextTo 3 (some .int), Cond.fieldLink RX0 24 "HexRooms$Plan" "neighbours" "[I", Cond.static yX1_doorOf, Cond.code yX1_doorOf cX1_doorOf 2 (some .int), Cond.methodLink RX1 102 yX1_orNone, Cond.instanceMethod yX1_orNone, Cond.selects RX1 yX1_orNone yX1_orNone, Cond.code yX1_orNone cX1_orNone 2 (some .int), Cond.methodLink RX1 69 yX1_doorOf]
def wsL_about : List Cond := .codeWith yL_about cL_about 5 (some .int) [(0, 10, 13, 19)] :: ((wsL_about_r1 ++ (wsL_about_r2 ++ wsL_about_r3)) ++ wsX10 ++ wsX00 ++ (vx_at0 RX1 183 "java/lang/IndexOutOfBoundsException" ["java/lang/RuntimeException", "java/lang/Exception"]).filter goodWord)
def wsL_beside_r1 : List Cond := [Cond.classLink RL 19 "java/lang/IndexOutOfBoundsException", Cond.methodLink RL 36 yX1_beside, Cond.instanceMethod yX1_beside, Cond.selects RX1 yX1_beside yX1_beside, Cond.initialized RX1, Cond.code yX1_beside cX1_beside 3 (some .int), Cond.methodLink RX1 54 yX1_needRoom, Cond.instanceMethod yX1_needRoom, Cond.selects RX1 yX1_needRoom yX1_needRoom, Cond.code yX1_needRoom cX1_needRoom 2 none, Cond.fieldLink RX1 50 "HexRooms" "rooms" "I", Cond.methodLink RX1 57 yX1_needIndex, Cond.static yX1_needIndex, Cond.code yX1_needIndex cX1_needIndex 2 none, Cond.classLink RX1 181 "java/lang/IndexOutOfBoundsException", Cond.initialized "java/lang/IndexOutOfBoundsException", Cond.methodLink RX1 117 yX1_neighbour, Cond.instanceMethod yX1_neighbour, Cond.selects RX1 yX1_neighbour yX1_neighbour, Cond.code yX1_neighbour cX1_neighbour 3 (some .int), Cond.fieldLink RX1 12 "HexRooms" "plan" "LHexRooms$Plan;", Cond.methodLink RX1 196 yX0_nextTo, Cond.instanceMethod yX0_nextTo, Cond.selects RX0 yX0_nextTo yX0_nextTo]
def wsL_beside_r2 : List Cond := [Cond.initialized RX0, Cond.code yX0_nextTo cX0_nextTo 3 (some .int), Cond.fieldLink RX0 24 "HexRooms$Plan" "neighbours" "[I", Cond.static yX1_doorOf, Cond.code yX1_doorOf cX1_doorOf 2 (some .int), Cond.methodLink RX1 102 yX1_orNone, Cond.instanceMethod yX1_orNone, Cond.selects RX1 yX1_orNone yX1_orNone, Cond.code yX1_orNone cX1_orNone 2 (some .int)]
def wsL_beside : List Cond := .codeWith yL_beside cL_beside 5 (some .int) [(0, 10, 13, 19)] :: ((wsL_beside_r1 ++ wsL_beside_r2) ++ wsX10 ++ wsX00 ++ (vx_at0 RX1 183 "java/lang/IndexOutOfBoundsException" ["java/lang/RuntimeException", "java/lang/Exception"]).filter goodWord)
def wsL_isShut_r1 : List Cond := [Cond.classLink RL 19 "java/lang/IndexOutOfBoundsException", Cond.classLink RL 25 "java/lang/IllegalStateException", Cond.methodLink RL 39 yX1_isShut, Cond.instanceMethod yX1_isShut, Cond.selects RX1 yX1_isShut yX1_isShut, Cond.initialized RX1, Cond.code yX1_isShut cX1_isShut 3 (some .boolean), Cond.fieldLink RX1 20 "HexRooms" "shutDoors" "[Z", Cond.methodLink RX1 65 yX1_needDoor, Cond.instanceMethod yX1_needDoor, Cond.selects RX1 yX1_needDoor yX1_needDoor, Cond.code yX1_needDoor cX1_needDoor 4 (some .int), Cond.classLink RX1 187 "java/lang/IllegalStateException", Cond.initialized "java/lang/IllegalStateException", Cond.methodLink RX1 54 yX1_needRoom, Cond.instanceMethod yX1_needRoom, Cond.selects RX1 yX1_needRoom yX1_needRoom, Cond.code yX1_needRoom cX1_needRoom 2 none, Cond.fieldLink RX1 50 "HexRooms" "rooms" "I", Cond.methodLink RX1 57 yX1_needIndex, Cond.static yX1_needIndex, Cond.code yX1_needIndex cX1_needIndex 2 none, Cond.classLink RX1 181 "java/lang/IndexOutOfBoundsException", Cond.initialized "java/lang/IndexOutOfBoundsException"]
def wsL_isShut_r2 : List Cond := [Cond.methodLink RX1 117 yX1_neighbour, Cond.instanceMethod yX1_neighbour, Cond.selects RX1 yX1_neighbour yX1_neighbour, Cond.code yX1_neighbour cX1_neighbour 3 (some .int), Cond.fieldLink RX1 12 "HexRooms" "plan" "LHexRooms$Plan;", Cond.methodLink RX1 196 yX0_nextTo, Cond.instanceMethod yX0_nextTo, Cond.selects RX0 yX0_nextTo yX0_nextTo, Cond.initialized RX0, Cond.code yX0_nextTo cX0_nextTo 3 (some .int), Cond.fieldLink RX0 24 "HexRooms$Plan" "neighbours" "[I", Cond.static yX1_doorOf, Cond.code yX1_doorOf cX1_doorOf 2 (some .int), Cond.methodLink RX1 102 yX1_orNone, Cond.instanceMethod yX1_orNone, Cond.selects RX1 yX1_orNone yX1_orNone, Cond.code yX1_orNone cX1_orNone 2 (some .int), Cond.methodLink RX1 69 yX1_doorOf]
def wsL_isShut : List Cond := .codeWith yL_isShut cL_isShut 5 (some .int) [(0, 17, 20, 19), (0, 17, 24, 25)] :: ((wsL_isShut_r1 ++ wsL_isShut_r2) ++ wsX10 ++ wsX00 ++ (vx_at0 RX1 189 "java/lang/IllegalStateException" ["java/lang/RuntimeException", "java/lang/Exception"]).filter goodWord ++ (vx_at0 RX1 183 "java/lang/IndexOutOfBoundsException" ["java/lang/RuntimeException", "java/lang/Exception"]).filter goodWord)
def wsL_far_r1 : List Cond := [Cond.classLink RL 19 "java/lang/IndexOutOfBoundsException", Cond.methodLink RL 43 yX1_far, Cond.instanceMethod yX1_far, Cond.selects RX1 yX1_far yX1_far, Cond.initialized RX1, Cond.code yX1_far cX1_far 5 (some .int), Cond.fieldLink RX1 12 "HexRooms" "plan" "LHexRooms$Plan;", Cond.methodLink RX1 120 Lib.Math.abs.name, Cond.static Lib.Math.abs.name, Cond.initialized "java/lang/Math", Cond.code Lib.Math.abs.name Lib.Math.abs.code 1 (some .int), Cond.methodLink RX1 54 yX1_needRoom, Cond.instanceMethod yX1_needRoom, Cond.selects RX1 yX1_needRoom yX1_needRoom, Cond.code yX1_needRoom cX1_needRoom 2 none, Cond.fieldLink RX1 50 "HexRooms" "rooms" "I", Cond.methodLink RX1 57 yX1_needIndex, Cond.static yX1_needIndex, Cond.code yX1_needIndex cX1_needIndex 2 none, Cond.classLink RX1 181 "java/lang/IndexOutOfBoundsException", Cond.initialized "java/lang/IndexOutOfBoundsException", Cond.methodLink RX1 105 yX0_acrossOf, Cond.instanceMethod yX0_acrossOf, Cond.selects RX0 yX0_acrossOf yX0_acrossOf]
def wsL_far_r2 : List Cond := [Cond.initialized RX0, Cond.code yX0_acrossOf cX0_acrossOf 2 (some .int), Cond.fieldLink RX0 9 "HexRooms$Plan" "acrosses" "[I", Cond.methodLink RX1 108 yX0_downOf, Cond.instanceMethod yX0_downOf, Cond.selects RX0 yX0_downOf yX0_downOf, Cond.code yX0_downOf cX0_downOf 2 (some .int), Cond.fieldLink RX0 15 "HexRooms$Plan" "downs" "[I"]
def wsL_far : List Cond := .codeWith yL_far cL_far 5 (some .int) [(0, 10, 13, 19)] :: ((wsL_far_r1 ++ wsL_far_r2) ++ wsX10 ++ wsX00 ++ (vx_at0 RX1 183 "java/lang/IndexOutOfBoundsException" ["java/lang/RuntimeException", "java/lang/Exception"]).filter goodWord)
def wsL_sees_r1 : List Cond := [Cond.classLink RL 19 "java/lang/IndexOutOfBoundsException", Cond.methodLink RL 46 yX1_sees, Cond.instanceMethod yX1_sees, Cond.selects RX1 yX1_sees yX1_sees, Cond.initialized RX1, Cond.code yX1_sees cX1_sees 5 (some .boolean), Cond.fieldLink RX1 16 "HexRooms" "floors" "[I", Cond.fieldLink RX1 33 "HexRooms" "beam" "[I", Cond.methodLink RX1 54 yX1_needRoom, Cond.instanceMethod yX1_needRoom, Cond.selects RX1 yX1_needRoom yX1_needRoom, Cond.code yX1_needRoom cX1_needRoom 2 none, Cond.fieldLink RX1 50 "HexRooms" "rooms" "I", Cond.methodLink RX1 57 yX1_needIndex, Cond.static yX1_needIndex, Cond.code yX1_needIndex cX1_needIndex 2 none, Cond.classLink RX1 181 "java/lang/IndexOutOfBoundsException", Cond.initialized "java/lang/IndexOutOfBoundsException", Cond.methodLink RX1 125 yX1_beamFrom, Cond.instanceMethod yX1_beamFrom, Cond.selects RX1 yX1_beamFrom yX1_beamFrom, Cond.code yX1_beamFrom cX1_beamFrom 6 (some .int), Cond.methodLink RX1 132 yX1_onward, Cond.instanceMethod yX1_onward]
def wsL_sees_r2 : List Cond := [Cond.selects RX1 yX1_onward yX1_onward, Cond.code yX1_onward cX1_onward 5 (some .int), Cond.fieldLink RX1 20 "HexRooms" "shutDoors" "[Z", Cond.methodLink RX1 117 yX1_neighbour, Cond.instanceMethod yX1_neighbour, Cond.selects RX1 yX1_neighbour yX1_neighbour, Cond.code yX1_neighbour cX1_neighbour 3 (some .int), Cond.fieldLink RX1 12 "HexRooms" "plan" "LHexRooms$Plan;", Cond.methodLink RX1 196 yX0_nextTo, Cond.instanceMethod yX0_nextTo, Cond.selects RX0 yX0_nextTo yX0_nextTo, Cond.initialized RX0, Cond.code yX0_nextTo cX0_nextTo 3 (some .int), Cond.fieldLink RX0 24 "HexRooms$Plan" "neighbours" "[I", Cond.static yX1_doorOf, Cond.code yX1_doorOf cX1_doorOf 2 (some .int), Cond.methodLink RX1 102 yX1_orNone, Cond.instanceMethod yX1_orNone, Cond.selects RX1 yX1_orNone yX1_orNone, Cond.code yX1_orNone cX1_orNone 2 (some .int), Cond.methodLink RX1 69 yX1_doorOf]
def wsL_sees : List Cond := .codeWith yL_sees cL_sees 5 (some .int) [(0, 17, 20, 19)] :: ((wsL_sees_r1 ++ wsL_sees_r2) ++ wsX10 ++ wsX00 ++ (vx_at0 RX1 183 "java/lang/IndexOutOfBoundsException" ["java/lang/RuntimeException", "java/lang/Exception"]).filter goodWord)
def wsL_way_r1 : List Cond := [Cond.classLink RL 19 "java/lang/IndexOutOfBoundsException", Cond.methodLink RL 49 yX1_way, Cond.instanceMethod yX1_way, Cond.selects RX1 yX1_way yX1_way, Cond.initialized RX1, Cond.code yX1_way cX1_way 3 (some .int), Cond.methodLink RX1 54 yX1_needRoom, Cond.instanceMethod yX1_needRoom, Cond.selects RX1 yX1_needRoom yX1_needRoom, Cond.code yX1_needRoom cX1_needRoom 2 none, Cond.fieldLink RX1 50 "HexRooms" "rooms" "I", Cond.methodLink RX1 57 yX1_needIndex, Cond.static yX1_needIndex, Cond.code yX1_needIndex cX1_needIndex 2 none, Cond.classLink RX1 181 "java/lang/IndexOutOfBoundsException", Cond.initialized "java/lang/IndexOutOfBoundsException", Cond.methodLink RX1 129 yX1_stepsBetween, Cond.instanceMethod yX1_stepsBetween, Cond.selects RX1 yX1_stepsBetween yX1_stepsBetween, Cond.code yX1_stepsBetween cX1_stepsBetween 3 (some .int), Cond.fieldLink RX1 36 "HexRooms" "stepsTo" "[I", Cond.methodLink RX1 136 yX1_forgetSteps, Cond.instanceMethod yX1_forgetSteps, Cond.selects RX1 yX1_forgetSteps yX1_forgetSteps]
def wsL_way_r2 : List Cond := [Cond.code yX1_forgetSteps cX1_forgetSteps 1 none, Cond.methodLink RX1 190 yJ7_fill_53178, Cond.static yJ7_fill_53178, Cond.initialized RJ7, Cond.code yJ7_fill_53178 cJ7_fill_53178 4 none, Cond.methodLink RX1 139 yX1_spreadFrom, Cond.instanceMethod yX1_spreadFrom, Cond.selects RX1 yX1_spreadFrom yX1_spreadFrom, Cond.code yX1_spreadFrom cX1_spreadFrom 7 none, Cond.fieldLink RX1 39 "HexRooms" "queue" "[I", Cond.fieldLink RX1 16 "HexRooms" "floors" "[I", Cond.methodLink RX1 132 yX1_onward, Cond.instanceMethod yX1_onward, Cond.selects RX1 yX1_onward yX1_onward, Cond.code yX1_onward cX1_onward 5 (some .int), Cond.fieldLink RX1 20 "HexRooms" "shutDoors" "[Z", Cond.methodLink RX1 117 yX1_neighbour, Cond.instanceMethod yX1_neighbour, Cond.selects RX1 yX1_neighbour yX1_neighbour, Cond.code yX1_neighbour cX1_neighbour 3 (some .int), Cond.fieldLink RX1 12 "HexRooms" "plan" "LHexRooms$Plan;", Cond.methodLink RX1 196 yX0_nextTo, Cond.instanceMethod yX0_nextTo, Cond.selects RX0 yX0_nextTo yX0_nextTo]
def wsL_way_r3 : List Cond := [Cond.initialized RX0, Cond.code yX0_nextTo cX0_nextTo 3 (some .int), Cond.fieldLink RX0 24 "HexRooms$Plan" "neighbours" "[I", Cond.static yX1_doorOf, Cond.code yX1_doorOf cX1_doorOf 2 (some .int), Cond.methodLink RX1 102 yX1_orNone, Cond.instanceMethod yX1_orNone, Cond.selects RX1 yX1_orNone yX1_orNone, Cond.code yX1_orNone cX1_orNone 2 (some .int), Cond.methodLink RX1 69 yX1_doorOf]
def wsL_way : List Cond := .codeWith yL_way cL_way 5 (some .int) [(0, 10, 13, 19)] :: ((wsL_way_r1 ++ (wsL_way_r2 ++ wsL_way_r3)) ++ wsX10 ++ wsX00 ++ (vx_at0 RX1 183 "java/lang/IndexOutOfBoundsException" ["java/lang/RuntimeException", "java/lang/Exception"]).filter goodWord)
def wsL_side_r1 : List Cond := [Cond.classLink RL 19 "java/lang/IndexOutOfBoundsException", Cond.methodLink RL 52 yX1_side, Cond.instanceMethod yX1_side, Cond.selects RX1 yX1_side yX1_side, Cond.initialized RX1, Cond.code yX1_side cX1_side 8 (some .int), Cond.fieldLink RX1 16 "HexRooms" "floors" "[I", Cond.methodLink RX1 54 yX1_needRoom, Cond.instanceMethod yX1_needRoom, Cond.selects RX1 yX1_needRoom yX1_needRoom, Cond.code yX1_needRoom cX1_needRoom 2 none, Cond.fieldLink RX1 50 "HexRooms" "rooms" "I", Cond.methodLink RX1 57 yX1_needIndex, Cond.static yX1_needIndex, Cond.code yX1_needIndex cX1_needIndex 2 none, Cond.classLink RX1 181 "java/lang/IndexOutOfBoundsException", Cond.initialized "java/lang/IndexOutOfBoundsException", Cond.methodLink RX1 132 yX1_onward, Cond.instanceMethod yX1_onward, Cond.selects RX1 yX1_onward yX1_onward, Cond.code yX1_onward cX1_onward 5 (some .int), Cond.fieldLink RX1 20 "HexRooms" "shutDoors" "[Z", Cond.methodLink RX1 117 yX1_neighbour, Cond.instanceMethod yX1_neighbour]
def wsL_side_r2 : List Cond := [Cond.selects RX1 yX1_neighbour yX1_neighbour, Cond.code yX1_neighbour cX1_neighbour 3 (some .int), Cond.fieldLink RX1 12 "HexRooms" "plan" "LHexRooms$Plan;", Cond.methodLink RX1 196 yX0_nextTo, Cond.instanceMethod yX0_nextTo, Cond.selects RX0 yX0_nextTo yX0_nextTo, Cond.initialized RX0, Cond.code yX0_nextTo cX0_nextTo 3 (some .int), Cond.fieldLink RX0 24 "HexRooms$Plan" "neighbours" "[I", Cond.static yX1_doorOf, Cond.code yX1_doorOf cX1_doorOf 2 (some .int), Cond.methodLink RX1 102 yX1_orNone, Cond.instanceMethod yX1_orNone, Cond.selects RX1 yX1_orNone yX1_orNone, Cond.code yX1_orNone cX1_orNone 2 (some .int), Cond.methodLink RX1 69 yX1_doorOf, Cond.methodLink RX1 129 yX1_stepsBetween, Cond.instanceMethod yX1_stepsBetween, Cond.selects RX1 yX1_stepsBetween yX1_stepsBetween, Cond.code yX1_stepsBetween cX1_stepsBetween 3 (some .int), Cond.fieldLink RX1 36 "HexRooms" "stepsTo" "[I", Cond.methodLink RX1 136 yX1_forgetSteps, Cond.instanceMethod yX1_forgetSteps, Cond.selects RX1 yX1_forgetSteps yX1_forgetSteps]
def wsL_side_r3 : List Cond := [Cond.code yX1_forgetSteps cX1_forgetSteps 1 none, Cond.methodLink RX1 190 yJ7_fill_53178, Cond.static yJ7_fill_53178, Cond.initialized RJ7, Cond.code yJ7_fill_53178 cJ7_fill_53178 4 none, Cond.methodLink RX1 139 yX1_spreadFrom, Cond.instanceMethod yX1_spreadFrom, Cond.selects RX1 yX1_spreadFrom yX1_spreadFrom, Cond.code yX1_spreadFrom cX1_spreadFrom 7 none, Cond.fieldLink RX1 39 "HexRooms" "queue" "[I"]
def wsL_side : List Cond := .codeWith yL_side cL_side 5 (some .int) [(0, 10, 13, 19)] :: ((wsL_side_r1 ++ (wsL_side_r2 ++ wsL_side_r3)) ++ wsX10 ++ wsX00 ++ (vx_at0 RX1 183 "java/lang/IndexOutOfBoundsException" ["java/lang/RuntimeException", "java/lang/Exception"]).filter goodWord)
def wsL_reach_r1 : List Cond := [Cond.classLink RL 19 "java/lang/IndexOutOfBoundsException", Cond.classLink RL 13 "java/lang/IllegalArgumentException", Cond.methodLink RL 55 yX1_reach, Cond.instanceMethod yX1_reach, Cond.selects RX1 yX1_reach yX1_reach, Cond.initialized RX1, Cond.code yX1_reach cX1_reach 5 (some .int), Cond.fieldLink RX1 50 "HexRooms" "rooms" "I", Cond.fieldLink RX1 36 "HexRooms" "stepsTo" "[I", Cond.methodLink RX1 54 yX1_needRoom, Cond.instanceMethod yX1_needRoom, Cond.selects RX1 yX1_needRoom yX1_needRoom, Cond.code yX1_needRoom cX1_needRoom 2 none, Cond.methodLink RX1 57 yX1_needIndex, Cond.static yX1_needIndex, Cond.code yX1_needIndex cX1_needIndex 2 none, Cond.classLink RX1 181 "java/lang/IndexOutOfBoundsException", Cond.initialized "java/lang/IndexOutOfBoundsException", Cond.methodLink RX1 46 yX1_needNumber, Cond.static yX1_needNumber, Cond.code yX1_needNumber cX1_needNumber 3 none, Cond.classLink RX1 184 "java/lang/IllegalArgumentException", Cond.initialized "java/lang/IllegalArgumentException", Cond.methodLink RX1 136 yX1_forgetSteps]
def wsL_reach_r2 : List Cond := [Cond.instanceMethod yX1_forgetSteps, Cond.selects RX1 yX1_forgetSteps yX1_forgetSteps, Cond.code yX1_forgetSteps cX1_forgetSteps 1 none, Cond.methodLink RX1 190 yJ7_fill_53178, Cond.static yJ7_fill_53178, Cond.initialized RJ7, Cond.code yJ7_fill_53178 cJ7_fill_53178 4 none, Cond.methodLink RX1 139 yX1_spreadFrom, Cond.instanceMethod yX1_spreadFrom, Cond.selects RX1 yX1_spreadFrom yX1_spreadFrom, Cond.code yX1_spreadFrom cX1_spreadFrom 7 none, Cond.fieldLink RX1 39 "HexRooms" "queue" "[I", Cond.fieldLink RX1 16 "HexRooms" "floors" "[I", Cond.methodLink RX1 132 yX1_onward, Cond.instanceMethod yX1_onward, Cond.selects RX1 yX1_onward yX1_onward, Cond.code yX1_onward cX1_onward 5 (some .int), Cond.fieldLink RX1 20 "HexRooms" "shutDoors" "[Z", Cond.methodLink RX1 117 yX1_neighbour, Cond.instanceMethod yX1_neighbour, Cond.selects RX1 yX1_neighbour yX1_neighbour, Cond.code yX1_neighbour cX1_neighbour 3 (some .int), Cond.fieldLink RX1 12 "HexRooms" "plan" "LHexRooms$Plan;", Cond.methodLink RX1 196 yX0_nextTo]
def wsL_reach_r3 : List Cond := [Cond.instanceMethod yX0_nextTo, Cond.selects RX0 yX0_nextTo yX0_nextTo, Cond.initialized RX0, Cond.code yX0_nextTo cX0_nextTo 3 (some .int), Cond.fieldLink RX0 24 "HexRooms$Plan" "neighbours" "[I", Cond.static yX1_doorOf, Cond.code yX1_doorOf cX1_doorOf 2 (some .int), Cond.methodLink RX1 102 yX1_orNone, Cond.instanceMethod yX1_orNone, Cond.selects RX1 yX1_orNone yX1_orNone, Cond.code yX1_orNone cX1_orNone 2 (some .int), Cond.methodLink RX1 69 yX1_doorOf]
def wsL_reach : List Cond := .codeWith yL_reach cL_reach 5 (some .int) [(0, 10, 13, 19), (0, 10, 17, 13)] :: ((wsL_reach_r1 ++ (wsL_reach_r2 ++ wsL_reach_r3)) ++ wsX10 ++ wsX00 ++ (vx_at0 RX1 183 "java/lang/IndexOutOfBoundsException" ["java/lang/RuntimeException", "java/lang/Exception"]).filter goodWord ++ (vx_at0 RX1 186 "java/lang/IllegalArgumentException" ["java/lang/RuntimeException", "java/lang/Exception"]).filter goodWord)
def wsL_ring_r1 : List Cond := [Cond.classLink RL 19 "java/lang/IndexOutOfBoundsException", Cond.methodLink RL 58 yX1_ring, Cond.instanceMethod yX1_ring, Cond.selects RX1 yX1_ring yX1_ring, Cond.initialized RX1, Cond.code yX1_ring cX1_ring 5 (some .int), Cond.fieldLink RX1 24 "HexRooms" "light" "[I", Cond.methodLink RX1 76 yX1_needRing, Cond.instanceMethod yX1_needRing, Cond.selects RX1 yX1_needRing yX1_needRing, Cond.code yX1_needRing cX1_needRing 2 none, Cond.fieldLink RX1 149 "HexRooms" "rings" "I", Cond.methodLink RX1 57 yX1_needIndex, Cond.static yX1_needIndex, Cond.code yX1_needIndex cX1_needIndex 2 none, Cond.classLink RX1 181 "java/lang/IndexOutOfBoundsException", Cond.initialized "java/lang/IndexOutOfBoundsException", Cond.methodLink RX1 83 yX0_firstRoomOf, Cond.static yX0_firstRoomOf, Cond.initialized RX0, Cond.code yX0_firstRoomOf cX0_firstRoomOf 1 (some .int), Cond.methodLink RX1 86 yX0_sizeOf, Cond.static yX0_sizeOf, Cond.code yX0_sizeOf cX0_sizeOf 1 (some .int)]
def wsL_ring_r2 : List Cond := [Cond.methodLink RX1 142 yX1_standing, Cond.instanceMethod yX1_standing, Cond.selects RX1 yX1_standing yX1_standing, Cond.code yX1_standing cX1_standing 6 (some .int), Cond.fieldLink RX1 16 "HexRooms" "floors" "[I", Cond.methodLink RX1 146 yX1_litAmong, Cond.static yX1_litAmong, Cond.code yX1_litAmong cX1_litAmong 5 (some .int)]
def wsL_ring : List Cond := .codeWith yL_ring cL_ring 5 (some .int) [(0, 10, 13, 19)] :: ((wsL_ring_r1 ++ wsL_ring_r2) ++ wsX10 ++ (vx_at0 RX1 183 "java/lang/IndexOutOfBoundsException" ["java/lang/RuntimeException", "java/lang/Exception"]).filter goodWord)
def wsL_count_r1 : List Cond := [Cond.classLink RL 19 "java/lang/IndexOutOfBoundsException", Cond.methodLink RL 61 yX1_count, Cond.instanceMethod yX1_count, Cond.selects RX1 yX1_count yX1_count, Cond.initialized RX1, Cond.code yX1_count cX1_count 2 (some .int), Cond.fieldLink RX1 50 "HexRooms" "rooms" "I", Cond.fieldLink RX1 149 "HexRooms" "rings" "I", Cond.fieldLink RX1 24 "HexRooms" "light" "[I", Cond.methodLink RX1 57 yX1_needIndex, Cond.static yX1_needIndex, Cond.code yX1_needIndex cX1_needIndex 2 none, Cond.classLink RX1 181 "java/lang/IndexOutOfBoundsException", Cond.initialized "java/lang/IndexOutOfBoundsException", Cond.methodLink RX1 142 yX1_standing, Cond.instanceMethod yX1_standing, Cond.selects RX1 yX1_standing yX1_standing, Cond.code yX1_standing cX1_standing 6 (some .int), Cond.fieldLink RX1 16 "HexRooms" "floors" "[I", Cond.methodLink RX1 152 yX1_doorsShut, Cond.instanceMethod yX1_doorsShut, Cond.selects RX1 yX1_doorsShut yX1_doorsShut, Cond.code yX1_doorsShut cX1_doorsShut 4 (some .int), Cond.fieldLink RX1 20 "HexRooms" "shutDoors" "[Z"]
def wsL_count_r2 : List Cond := [Cond.methodLink RX1 69 yX1_doorOf, Cond.static yX1_doorOf, Cond.code yX1_doorOf cX1_doorOf 2 (some .int), Cond.methodLink RX1 146 yX1_litAmong, Cond.static yX1_litAmong, Cond.code yX1_litAmong cX1_litAmong 5 (some .int), Cond.methodLink RX1 155 yX1_parts, Cond.instanceMethod yX1_parts, Cond.selects RX1 yX1_parts yX1_parts, Cond.code yX1_parts cX1_parts 3 (some .int), Cond.fieldLink RX1 36 "HexRooms" "stepsTo" "[I", Cond.methodLink RX1 136 yX1_forgetSteps, Cond.instanceMethod yX1_forgetSteps, Cond.selects RX1 yX1_forgetSteps yX1_forgetSteps, Cond.code yX1_forgetSteps cX1_forgetSteps 1 none, Cond.methodLink RX1 190 yJ7_fill_53178, Cond.static yJ7_fill_53178, Cond.initialized RJ7, Cond.code yJ7_fill_53178 cJ7_fill_53178 4 none, Cond.methodLink RX1 139 yX1_spreadFrom, Cond.instanceMethod yX1_spreadFrom, Cond.selects RX1 yX1_spreadFrom yX1_spreadFrom, Cond.code yX1_spreadFrom cX1_spreadFrom 7 none, Cond.fieldLink RX1 39 "HexRooms" "queue" "[I"]
def wsL_count_r3 : List Cond := [Cond.methodLink RX1 132 yX1_onward, Cond.instanceMethod yX1_onward, Cond.selects RX1 yX1_onward yX1_onward, Cond.code yX1_onward cX1_onward 5 (some .int), Cond.methodLink RX1 117 yX1_neighbour, Cond.instanceMethod yX1_neighbour, Cond.selects RX1 yX1_neighbour yX1_neighbour, Cond.code yX1_neighbour cX1_neighbour 3 (some .int), Cond.fieldLink RX1 12 "HexRooms" "plan" "LHexRooms$Plan;", Cond.methodLink RX1 196 yX0_nextTo, Cond.instanceMethod yX0_nextTo, Cond.selects RX0 yX0_nextTo yX0_nextTo, Cond.initialized RX0, Cond.code yX0_nextTo cX0_nextTo 3 (some .int), Cond.fieldLink RX0 24 "HexRooms$Plan" "neighbours" "[I", Cond.methodLink RX1 102 yX1_orNone, Cond.instanceMethod yX1_orNone, Cond.selects RX1 yX1_orNone yX1_orNone, Cond.code yX1_orNone cX1_orNone 2 (some .int)]
def wsL_count : List Cond := .codeWith yL_count cL_count 4 (some .int) [(0, 9, 12, 19)] :: ((wsL_count_r1 ++ (wsL_count_r2 ++ wsL_count_r3)) ++ wsX10 ++ wsX00 ++ (vx_at0 RX1 183 "java/lang/IndexOutOfBoundsException" ["java/lang/RuntimeException", "java/lang/Exception"]).filter goodWord)
def wsL_would_r1 : List Cond := [Cond.classLink RL 19 "java/lang/IndexOutOfBoundsException", Cond.classLink RL 13 "java/lang/IllegalArgumentException", Cond.methodLink RL 64 yX1_would, Cond.instanceMethod yX1_would, Cond.selects RX1 yX1_would yX1_would, Cond.initialized RX1, Cond.code yX1_would cX1_would 3 (some .int), Cond.methodLink RX1 76 yX1_needRing, Cond.instanceMethod yX1_needRing, Cond.selects RX1 yX1_needRing yX1_needRing, Cond.code yX1_needRing cX1_needRing 2 none, Cond.fieldLink RX1 149 "HexRooms" "rings" "I", Cond.methodLink RX1 57 yX1_needIndex, Cond.static yX1_needIndex, Cond.code yX1_needIndex cX1_needIndex 2 none, Cond.classLink RX1 181 "java/lang/IndexOutOfBoundsException", Cond.initialized "java/lang/IndexOutOfBoundsException", Cond.methodLink RX1 86 yX0_sizeOf, Cond.static yX0_sizeOf, Cond.initialized RX0, Cond.code yX0_sizeOf cX0_sizeOf 1 (some .int), Cond.methodLink RX1 46 yX1_needNumber, Cond.static yX1_needNumber, Cond.code yX1_needNumber cX1_needNumber 3 none]
def wsL_would_r2 : List Cond := [Cond.classLink RX1 184 "java/lang/IllegalArgumentException", Cond.initialized "java/lang/IllegalArgumentException", Cond.methodLink RX1 162 yX1_litAfterTurn, Cond.instanceMethod yX1_litAfterTurn, Cond.selects RX1 yX1_litAfterTurn yX1_litAfterTurn, Cond.code yX1_litAfterTurn cX1_litAfterTurn 3 (some .int), Cond.fieldLink RX1 16 "HexRooms" "floors" "[I", Cond.fieldLink RX1 27 "HexRooms" "trialFloors" "[I", Cond.fieldLink RX1 50 "HexRooms" "rooms" "I", Cond.methodLink RX1 89 arraycopyName, Cond.native arraycopyName, Cond.static arraycopyName, Cond.initialized "java/lang/System", Cond.fieldLink RX1 30 "HexRooms" "trialLight" "[I", Cond.methodLink RX1 79 yX1_turnRingInto, Cond.instanceMethod yX1_turnRingInto, Cond.selects RX1 yX1_turnRingInto yX1_turnRingInto, Cond.code yX1_turnRingInto cX1_turnRingInto 7 none, Cond.methodLink RX1 83 yX0_firstRoomOf, Cond.static yX0_firstRoomOf, Cond.code yX0_firstRoomOf cX0_firstRoomOf 1 (some .int), Cond.methodLink RX1 199 yX1_shine, Cond.instanceMethod yX1_shine, Cond.selects RX1 yX1_shine yX1_shine]
def wsL_would_r3 : List Cond := [Cond.code yX1_shine cX1_shine 6 (some .int), Cond.fieldLink RX1 33 "HexRooms" "beam" "[I", Cond.methodLink RX1 190 yJ7_fill_53178, Cond.static yJ7_fill_53178, Cond.initialized RJ7, Cond.code yJ7_fill_53178 cJ7_fill_53178 4 none, Cond.methodLink RX1 125 yX1_beamFrom, Cond.instanceMethod yX1_beamFrom, Cond.selects RX1 yX1_beamFrom yX1_beamFrom, Cond.code yX1_beamFrom cX1_beamFrom 6 (some .int), Cond.methodLink RX1 132 yX1_onward, Cond.instanceMethod yX1_onward, Cond.selects RX1 yX1_onward yX1_onward, Cond.code yX1_onward cX1_onward 5 (some .int), Cond.fieldLink RX1 20 "HexRooms" "shutDoors" "[Z", Cond.methodLink RX1 117 yX1_neighbour, Cond.instanceMethod yX1_neighbour, Cond.selects RX1 yX1_neighbour yX1_neighbour, Cond.code yX1_neighbour cX1_neighbour 3 (some .int), Cond.fieldLink RX1 12 "HexRooms" "plan" "LHexRooms$Plan;", Cond.methodLink RX1 196 yX0_nextTo, Cond.instanceMethod yX0_nextTo, Cond.selects RX0 yX0_nextTo yX0_nextTo, Cond.code yX0_nextTo cX0_nextTo 3 (some .int)]
def wsL_would_r4 : List Cond := [Cond.fieldLink RX0 24 "HexRooms$Plan" "neighbours" "[I", Cond.static yX1_doorOf, Cond.code yX1_doorOf cX1_doorOf 2 (some .int), Cond.methodLink RX1 102 yX1_orNone, Cond.instanceMethod yX1_orNone, Cond.selects RX1 yX1_orNone yX1_orNone, Cond.code yX1_orNone cX1_orNone 2 (some .int), Cond.methodLink RX1 69 yX1_doorOf, Cond.methodLink RX1 146 yX1_litAmong, Cond.static yX1_litAmong, Cond.code yX1_litAmong cX1_litAmong 5 (some .int)]
def wsL_would : List Cond := .codeWith yL_would cL_would 5 (some .int) [(0, 10, 13, 19), (0, 10, 17, 13)] :: ((wsL_would_r1 ++ (wsL_would_r2 ++ (wsL_would_r3 ++ wsL_would_r4))) ++ wsX10 ++ wsX00 ++ (vx_at0 RX1 183 "java/lang/IndexOutOfBoundsException" ["java/lang/RuntimeException", "java/lang/Exception"]).filter goodWord ++ (vx_at0 RX1 186 "java/lang/IllegalArgumentException" ["java/lang/RuntimeException", "java/lang/Exception"]).filter goodWord)
def wsL_advise_r1 : List Cond := [Cond.classLink RL 19 "java/lang/IndexOutOfBoundsException", Cond.methodLink RL 67 yX1_advise, Cond.instanceMethod yX1_advise, Cond.selects RX1 yX1_advise yX1_advise, Cond.initialized RX1, Cond.code yX1_advise cX1_advise 6 (some .int), Cond.methodLink RX1 76 yX1_needRing, Cond.instanceMethod yX1_needRing, Cond.selects RX1 yX1_needRing yX1_needRing, Cond.code yX1_needRing cX1_needRing 2 none, Cond.fieldLink RX1 149 "HexRooms" "rings" "I", Cond.methodLink RX1 57 yX1_needIndex, Cond.static yX1_needIndex, Cond.code yX1_needIndex cX1_needIndex 2 none, Cond.classLink RX1 181 "java/lang/IndexOutOfBoundsException", Cond.initialized "java/lang/IndexOutOfBoundsException", Cond.methodLink RX1 86 yX0_sizeOf, Cond.static yX0_sizeOf, Cond.initialized RX0, Cond.code yX0_sizeOf cX0_sizeOf 1 (some .int), Cond.methodLink RX1 162 yX1_litAfterTurn, Cond.instanceMethod yX1_litAfterTurn, Cond.selects RX1 yX1_litAfterTurn yX1_litAfterTurn, Cond.code yX1_litAfterTurn cX1_litAfterTurn 3 (some .int)]
def wsL_advise_r2 : List Cond := [Cond.fieldLink RX1 16 "HexRooms" "floors" "[I", Cond.fieldLink RX1 27 "HexRooms" "trialFloors" "[I", Cond.fieldLink RX1 50 "HexRooms" "rooms" "I", Cond.methodLink RX1 89 arraycopyName, Cond.native arraycopyName, Cond.static arraycopyName, Cond.initialized "java/lang/System", Cond.fieldLink RX1 30 "HexRooms" "trialLight" "[I", Cond.methodLink RX1 79 yX1_turnRingInto, Cond.instanceMethod yX1_turnRingInto, Cond.selects RX1 yX1_turnRingInto yX1_turnRingInto, Cond.code yX1_turnRingInto cX1_turnRingInto 7 none, Cond.methodLink RX1 83 yX0_firstRoomOf, Cond.static yX0_firstRoomOf, Cond.code yX0_firstRoomOf cX0_firstRoomOf 1 (some .int), Cond.methodLink RX1 199 yX1_shine, Cond.instanceMethod yX1_shine, Cond.selects RX1 yX1_shine yX1_shine, Cond.code yX1_shine cX1_shine 6 (some .int), Cond.fieldLink RX1 33 "HexRooms" "beam" "[I", Cond.methodLink RX1 190 yJ7_fill_53178, Cond.static yJ7_fill_53178, Cond.initialized RJ7, Cond.code yJ7_fill_53178 cJ7_fill_53178 4 none]
def wsL_advise_r3 : List Cond := [Cond.methodLink RX1 125 yX1_beamFrom, Cond.instanceMethod yX1_beamFrom, Cond.selects RX1 yX1_beamFrom yX1_beamFrom, Cond.code yX1_beamFrom cX1_beamFrom 6 (some .int), Cond.methodLink RX1 132 yX1_onward, Cond.instanceMethod yX1_onward, Cond.selects RX1 yX1_onward yX1_onward, Cond.code yX1_onward cX1_onward 5 (some .int), Cond.fieldLink RX1 20 "HexRooms" "shutDoors" "[Z", Cond.methodLink RX1 117 yX1_neighbour, Cond.instanceMethod yX1_neighbour, Cond.selects RX1 yX1_neighbour yX1_neighbour, Cond.code yX1_neighbour cX1_neighbour 3 (some .int), Cond.fieldLink RX1 12 "HexRooms" "plan" "LHexRooms$Plan;", Cond.methodLink RX1 196 yX0_nextTo, Cond.instanceMethod yX0_nextTo, Cond.selects RX0 yX0_nextTo yX0_nextTo, Cond.code yX0_nextTo cX0_nextTo 3 (some .int), Cond.fieldLink RX0 24 "HexRooms$Plan" "neighbours" "[I", Cond.static yX1_doorOf, Cond.code yX1_doorOf cX1_doorOf 2 (some .int), Cond.methodLink RX1 102 yX1_orNone, Cond.instanceMethod yX1_orNone, Cond.selects RX1 yX1_orNone yX1_orNone]
def wsL_advise_r4 : List Cond := [Cond.code yX1_orNone cX1_orNone 2 (some .int), Cond.methodLink RX1 69 yX1_doorOf, Cond.methodLink RX1 146 yX1_litAmong, Cond.static yX1_litAmong, Cond.code yX1_litAmong cX1_litAmong 5 (some .int)]
def wsL_advise : List Cond := .codeWith yL_advise cL_advise 4 (some .int) [(0, 9, 12, 19)] :: ((wsL_advise_r1 ++ (wsL_advise_r2 ++ (wsL_advise_r3 ++ wsL_advise_r4))) ++ wsX10 ++ wsX00 ++ (vx_at0 RX1 183 "java/lang/IndexOutOfBoundsException" ["java/lang/RuntimeException", "java/lang/Exception"]).filter goodWord)
def wsL_law0_r1 : List Cond := [Cond.classLink RL 8 RX1, Cond.instantiable RX1 11, Cond.initialized RX1, Cond.classLink RL 71 RX2, Cond.instantiable RX2 13, Cond.initialized RX2, Cond.arrayClass .long, Cond.methodLink RL 70 yX1_init, Cond.instanceMethod yX1_init, Cond.code yX1_init cX1_init 1 none, Cond.methodLink RX1 3 objectInit, Cond.instanceMethod objectInit, Cond.code objectInit ⟨#[0xb1]⟩ 1 none, Cond.classLink RX1 9 RX0, Cond.instantiable RX0 5, Cond.initialized RX0, Cond.fieldLink RX1 12 "HexRooms" "plan" "LHexRooms$Plan;", Cond.arrayClass .int, Cond.fieldLink RX1 16 "HexRooms" "floors" "[I", Cond.arrayClass .boolean, Cond.fieldLink RX1 20 "HexRooms" "shutDoors" "[Z", Cond.fieldLink RX1 24 "HexRooms" "light" "[I", Cond.fieldLink RX1 27 "HexRooms" "trialFloors" "[I", Cond.fieldLink RX1 30 "HexRooms" "trialLight" "[I"]
def wsL_law0_r2 : List Cond := [Cond.fieldLink RX1 33 "HexRooms" "beam" "[I", Cond.fieldLink RX1 36 "HexRooms" "stepsTo" "[I", Cond.fieldLink RX1 39 "HexRooms" "queue" "[I", Cond.methodLink RX1 11 yX0_init, Cond.instanceMethod yX0_init, Cond.code yX0_init cX0_init 2 none, Cond.methodLink RX0 3 objectInit, Cond.fieldLink RX0 9 "HexRooms$Plan" "acrosses" "[I", Cond.fieldLink RX0 15 "HexRooms$Plan" "downs" "[I", Cond.fieldLink RX0 18 "HexRooms$Plan" "rings" "[I", Cond.fieldLink RX0 21 "HexRooms$Plan" "cells" "[I", Cond.fieldLink RX0 24 "HexRooms$Plan" "neighbours" "[I", Cond.methodLink RX0 27 yJ7_fill_53178, Cond.static yJ7_fill_53178, Cond.initialized RJ7, Cond.code yJ7_fill_53178 cJ7_fill_53178 4 none, Cond.methodLink RX0 33 yX0_placeRoom, Cond.instanceMethod yX0_placeRoom, Cond.selects RX0 yX0_placeRoom yX0_placeRoom, Cond.code yX0_placeRoom cX0_placeRoom 5 none, Cond.methodLink RX0 52 yX0_cellOf, Cond.static yX0_cellOf, Cond.code yX0_cellOf cX0_cellOf 2 (some .int), Cond.methodLink RX0 37 yX0_placeRing]
def wsL_law0_r3 : List Cond := [Cond.instanceMethod yX0_placeRing, Cond.selects RX0 yX0_placeRing yX0_placeRing, Cond.code yX0_placeRing cX0_placeRing 8 none, Cond.fieldLink RX0 59 "HexRooms$Plan" "STEP_ACROSS" "[I", Cond.fieldLink RX0 62 "HexRooms$Plan" "STEP_DOWN" "[I", Cond.methodLink RX0 55 yX0_firstRoomOf, Cond.static yX0_firstRoomOf, Cond.code yX0_firstRoomOf cX0_firstRoomOf 1 (some .int), Cond.methodLink RX0 41 yX0_joinRooms, Cond.instanceMethod yX0_joinRooms, Cond.selects RX0 yX0_joinRooms yX0_joinRooms, Cond.code yX0_joinRooms cX0_joinRooms 5 none, Cond.static yX1_doorOf, Cond.code yX1_doorOf cX1_doorOf 2 (some .int), Cond.methodLink RX0 65 yX0_roomAt, Cond.instanceMethod yX0_roomAt, Cond.selects RX0 yX0_roomAt yX0_roomAt, Cond.code yX0_roomAt cX0_roomAt 3 (some .int), Cond.methodLink RX0 48 yX0_isOnPlan, Cond.static yX0_isOnPlan, Cond.code yX0_isOnPlan cX0_isOnPlan 1 (some .boolean), Cond.methodLink RX1 42 yX1_build, Cond.instanceMethod yX1_build, Cond.selects RX1 yX1_build yX1_build]
def wsL_law0_r4 : List Cond := [Cond.code yX1_build cX1_build 3 none, Cond.fieldLink RX1 149 "HexRooms" "rings" "I", Cond.fieldLink RX1 50 "HexRooms" "rooms" "I", Cond.methodLink RX1 83 yX0_firstRoomOf, Cond.methodLink RX1 190 yJ7_fill_53178, Cond.methodLink RL 73 yX2_init, Cond.instanceMethod yX2_init, Cond.code yX2_init cX2_init 1 none, Cond.methodLink RX2 1 objectInit, Cond.fieldLink RX2 9 "HexRoomsModel" "across" "[I", Cond.fieldLink RX2 13 "HexRoomsModel" "down" "[I", Cond.fieldLink RX2 16 "HexRoomsModel" "of" "[I", Cond.fieldLink RX2 19 "HexRoomsModel" "floor" "[I", Cond.fieldLink RX2 22 "HexRoomsModel" "grid" "[I", Cond.fieldLink RX2 25 "HexRoomsModel" "isShut" "[Z", Cond.fieldLink RX2 29 "HexRoomsModel" "light" "[I", Cond.fieldLink RX2 32 "HexRoomsModel" "far" "[I", Cond.fieldLink RX2 35 "HexRoomsModel" "line" "[I", Cond.fieldLink RX2 38 "HexRoomsModel" "moved" "[I", Cond.methodLink RX2 41 yX2_build, Cond.instanceMethod yX2_build, Cond.selects RX2 yX2_build yX2_build, Cond.code yX2_build cX2_build 7 none, Cond.fieldLink RX2 56 "HexRoomsModel" "rings" "I"]
def wsL_law0_r5 : List Cond := [Cond.fieldLink RX2 49 "HexRoomsModel" "rooms" "I", Cond.fieldLink RX2 63 "HexRoomsModel" "ACROSS" "[I", Cond.fieldLink RX2 66 "HexRoomsModel" "DOWN" "[I", Cond.methodLink RX2 59 yX2_add, Cond.instanceMethod yX2_add, Cond.selects RX2 yX2_add yX2_add, Cond.code yX2_add cX2_add 4 none, Cond.methodLink RL 74 yL_setRings, Cond.static yL_setRings, Cond.initialized RL, Cond.codeWith yL_setRings cL_setRings 4 (some .int) [(0, 9, 12, 13)], Cond.classLink RL 13 "java/lang/IllegalArgumentException", Cond.methodLink RL 7 yX1_setRings, Cond.instanceMethod yX1_setRings, Cond.selects RX1 yX1_setRings yX1_setRings, Cond.code yX1_setRings cX1_setRings 2 (some .int), Cond.methodLink RX1 46 yX1_needNumber, Cond.static yX1_needNumber, Cond.code yX1_needNumber cX1_needNumber 3 none, Cond.classLink RX1 184 "java/lang/IllegalArgumentException", Cond.initialized "java/lang/IllegalArgumentException", Cond.methodLink RL 79 yX2_setRings, Cond.instanceMethod yX2_setRings, Cond.selects RX2 yX2_setRings yX2_setRings]
def wsL_law0_r6 : List Cond := [Cond.code yX2_setRings cX2_setRings 2 (some .int), Cond.fieldLink RX2 45 "HexRoomsModel" "thrown" "I", Cond.methodLink RX2 52 yX2_isIn, Cond.static yX2_isIn, Cond.code yX2_isIn cX2_isIn 3 (some .boolean), Cond.methodLink RX2 95 yX2_fail, Cond.instanceMethod yX2_fail, Cond.selects RX2 yX2_fail yX2_fail, Cond.code yX2_fail cX2_fail 2 (some .int), Cond.methodLink RL 80 yX2_thrown, Cond.instanceMethod yX2_thrown, Cond.selects RX2 yX2_thrown yX2_thrown, Cond.code yX2_thrown cX2_thrown 1 (some .int), Cond.methodLink RL 84 yL_put, Cond.static yL_put, Cond.codeWith yL_put cL_put 5 (some .int) [(0, 10, 13, 19)], Cond.classLink RL 19 "java/lang/IndexOutOfBoundsException", Cond.methodLink RL 15 yX1_put, Cond.instanceMethod yX1_put, Cond.selects RX1 yX1_put yX1_put, Cond.code yX1_put cX1_put 4 (some .int), Cond.methodLink RX1 54 yX1_needRoom, Cond.instanceMethod yX1_needRoom, Cond.selects RX1 yX1_needRoom yX1_needRoom]
def wsL_law0_r7 : List Cond := [Cond.code yX1_needRoom cX1_needRoom 2 none, Cond.methodLink RX1 57 yX1_needIndex, Cond.static yX1_needIndex, Cond.code yX1_needIndex cX1_needIndex 2 none, Cond.classLink RX1 181 "java/lang/IndexOutOfBoundsException", Cond.initialized "java/lang/IndexOutOfBoundsException", Cond.methodLink RX1 61 yX1_relight, Cond.instanceMethod yX1_relight, Cond.selects RX1 yX1_relight yX1_relight, Cond.code yX1_relight cX1_relight 1 (some .int), Cond.methodLink RX1 199 yX1_shine, Cond.instanceMethod yX1_shine, Cond.selects RX1 yX1_shine yX1_shine, Cond.code yX1_shine cX1_shine 6 (some .int), Cond.methodLink RX1 125 yX1_beamFrom, Cond.instanceMethod yX1_beamFrom, Cond.selects RX1 yX1_beamFrom yX1_beamFrom, Cond.code yX1_beamFrom cX1_beamFrom 6 (some .int), Cond.methodLink RX1 132 yX1_onward, Cond.instanceMethod yX1_onward, Cond.selects RX1 yX1_onward yX1_onward, Cond.code yX1_onward cX1_onward 5 (some .int), Cond.methodLink RX1 117 yX1_neighbour, Cond.instanceMethod yX1_neighbour]
def wsL_law0_r8 : List Cond := [Cond.selects RX1 yX1_neighbour yX1_neighbour, Cond.code yX1_neighbour cX1_neighbour 3 (some .int), Cond.methodLink RX1 196 yX0_nextTo, Cond.instanceMethod yX0_nextTo, Cond.selects RX0 yX0_nextTo yX0_nextTo, Cond.code yX0_nextTo cX0_nextTo 3 (some .int), Cond.methodLink RX1 102 yX1_orNone, Cond.instanceMethod yX1_orNone, Cond.selects RX1 yX1_orNone yX1_orNone, Cond.code yX1_orNone cX1_orNone 2 (some .int), Cond.methodLink RX1 69 yX1_doorOf, Cond.methodLink RX1 146 yX1_litAmong, Cond.static yX1_litAmong, Cond.code yX1_litAmong cX1_litAmong 5 (some .int), Cond.methodLink RL 87 yX2_put, Cond.instanceMethod yX2_put, Cond.selects RX2 yX2_put yX2_put, Cond.code yX2_put cX2_put 4 (some .int), Cond.methodLink RX2 98 yX2_isRoom, Cond.instanceMethod yX2_isRoom, Cond.selects RX2 yX2_isRoom yX2_isRoom, Cond.code yX2_isRoom cX2_isRoom 2 (some .boolean), Cond.methodLink RL 88 yL_shut, Cond.static yL_shut]
def wsL_law0_r9 : List Cond := [Cond.codeWith yL_shut cL_shut 6 (some .int) [(0, 19, 22, 19), (0, 19, 26, 25)], Cond.classLink RL 25 "java/lang/IllegalStateException", Cond.methodLink RL 21 yX1_shut, Cond.instanceMethod yX1_shut, Cond.selects RX1 yX1_shut yX1_shut, Cond.code yX1_shut cX1_shut 6 (some .boolean), Cond.methodLink RX1 65 yX1_needDoor, Cond.instanceMethod yX1_needDoor, Cond.selects RX1 yX1_needDoor yX1_needDoor, Cond.code yX1_needDoor cX1_needDoor 4 (some .int), Cond.classLink RX1 187 "java/lang/IllegalStateException", Cond.initialized "java/lang/IllegalStateException", Cond.methodLink RX1 72 yX1_opposite, Cond.static yX1_opposite, Cond.code yX1_opposite cX1_opposite 1 (some .int), Cond.methodLink RL 91 yX2_shut, Cond.instanceMethod yX2_shut, Cond.selects RX2 yX2_shut yX2_shut, Cond.code yX2_shut cX2_shut 5 (some .boolean), Cond.methodLink RX2 102 yX2_isSide, Cond.static yX2_isSide, Cond.code yX2_isSide cX2_isSide 1 (some .boolean), Cond.methodLink RX2 73 yX2_next, Cond.instanceMethod yX2_next]
def wsL_law0_r10 : List Cond := [Cond.selects RX2 yX2_next yX2_next, Cond.code yX2_next cX2_next 3 (some .int), Cond.methodLink RX2 69 yX2_found, Cond.instanceMethod yX2_found, Cond.selects RX2 yX2_found yX2_found, Cond.code yX2_found cX2_found 3 (some .int), Cond.methodLink RL 92 yL_turn, Cond.static yL_turn, Cond.codeWith yL_turn cL_turn 5 (some .int) [(0, 10, 13, 19), (0, 10, 17, 13)], Cond.methodLink RL 27 yX1_turn, Cond.instanceMethod yX1_turn, Cond.selects RX1 yX1_turn yX1_turn, Cond.code yX1_turn cX1_turn 4 (some .int), Cond.methodLink RX1 89 arraycopyName, Cond.native arraycopyName, Cond.static arraycopyName, Cond.initialized "java/lang/System", Cond.methodLink RX1 76 yX1_needRing, Cond.instanceMethod yX1_needRing, Cond.selects RX1 yX1_needRing yX1_needRing, Cond.code yX1_needRing cX1_needRing 2 none, Cond.methodLink RX1 79 yX1_turnRingInto, Cond.instanceMethod yX1_turnRingInto, Cond.selects RX1 yX1_turnRingInto yX1_turnRingInto]
def wsL_law0_r11 : List Cond := [Cond.code yX1_turnRingInto cX1_turnRingInto 7 none, Cond.methodLink RX1 86 yX0_sizeOf, Cond.static yX0_sizeOf, Cond.code yX0_sizeOf cX0_sizeOf 1 (some .int), Cond.methodLink RL 94 yX2_turn, Cond.instanceMethod yX2_turn, Cond.selects RX2 yX2_turn yX2_turn, Cond.code yX2_turn cX2_turn 3 (some .int), Cond.methodLink RX2 105 yX2_isRing, Cond.instanceMethod yX2_isRing, Cond.selects RX2 yX2_isRing yX2_isRing, Cond.code yX2_isRing cX2_isRing 2 (some .boolean), Cond.methodLink RX2 108 yX2_move, Cond.instanceMethod yX2_move, Cond.selects RX2 yX2_move yX2_move, Cond.code yX2_move cX2_move 6 none, Cond.methodLink RX2 89 arraycopyName, Cond.methodLink RX2 82 yX2_size, Cond.static yX2_size, Cond.code yX2_size cX2_size 1 (some .int), Cond.methodLink RX2 86 yX2_first, Cond.static yX2_first, Cond.code yX2_first cX2_first 1 (some .int), Cond.methodLink RX2 112 yX2_lit]
def wsL_law0_r12 : List Cond := [Cond.instanceMethod yX2_lit, Cond.selects RX2 yX2_lit yX2_lit, Cond.code yX2_lit cX2_lit 3 (some .int), Cond.methodLink RX2 79 yX2_shine, Cond.instanceMethod yX2_shine, Cond.selects RX2 yX2_shine yX2_shine, Cond.code yX2_shine cX2_shine 4 none, Cond.methodLink RX2 76 yX2_on, Cond.instanceMethod yX2_on, Cond.selects RX2 yX2_on yX2_on, Cond.code yX2_on cX2_on 4 (some .int), Cond.methodLink RL 95 yL_turnAll, Cond.static yL_turnAll, Cond.codeWith yL_turnAll cL_turnAll 4 (some .int) [(0, 9, 12, 13)], Cond.methodLink RL 30 yX1_turnAll, Cond.instanceMethod yX1_turnAll, Cond.selects RX1 yX1_turnAll yX1_turnAll, Cond.code yX1_turnAll cX1_turnAll 2 (some .int), Cond.methodLink RX1 95 yX1_turnAllInto, Cond.instanceMethod yX1_turnAllInto, Cond.selects RX1 yX1_turnAllInto yX1_turnAllInto, Cond.code yX1_turnAllInto cX1_turnAllInto 4 none, Cond.methodLink RL 97 yX2_turnAll, Cond.instanceMethod yX2_turnAll]
def wsL_law0_r13 : List Cond := [Cond.selects RX2 yX2_turnAll yX2_turnAll, Cond.code yX2_turnAll cX2_turnAll 2 (some .int), Cond.methodLink RX2 116 yX2_moveAll, Cond.instanceMethod yX2_moveAll, Cond.selects RX2 yX2_moveAll yX2_moveAll, Cond.code yX2_moveAll cX2_moveAll 3 none, Cond.methodLink RL 98 yX1_at, Cond.instanceMethod yX1_at, Cond.selects RX1 yX1_at yX1_at, Cond.code yX1_at cX1_at 3 (some .int), Cond.methodLink RX1 99 yX0_roomAt, Cond.methodLink RL 101 yX2_at, Cond.instanceMethod yX2_at, Cond.selects RX2 yX2_at yX2_at, Cond.code yX2_at cX2_at 3 (some .int), Cond.methodLink RL 102 yL_about, Cond.static yL_about, Cond.codeWith yL_about cL_about 5 (some .int) [(0, 10, 13, 19)], Cond.methodLink RL 33 yX1_about, Cond.instanceMethod yX1_about, Cond.selects RX1 yX1_about yX1_about, Cond.code yX1_about cX1_about 3 (some .int), Cond.methodLink RX1 105 yX0_acrossOf, Cond.instanceMethod yX0_acrossOf]
def wsL_law0_r14 : List Cond := [Cond.selects RX0 yX0_acrossOf yX0_acrossOf, Cond.code yX0_acrossOf cX0_acrossOf 2 (some .int), Cond.methodLink RX1 108 yX0_downOf, Cond.instanceMethod yX0_downOf, Cond.selects RX0 yX0_downOf yX0_downOf, Cond.code yX0_downOf cX0_downOf 2 (some .int), Cond.methodLink RX1 111 yX0_ringOf, Cond.instanceMethod yX0_ringOf, Cond.selects RX0 yX0_ringOf yX0_ringOf, Cond.code yX0_ringOf cX0_ringOf 2 (some .int), Cond.methodLink RX1 114 yX1_sidesOnward, Cond.instanceMethod yX1_sidesOnward, Cond.selects RX1 yX1_sidesOnward yX1_sidesOnward, Cond.code yX1_sidesOnward cX1_sidesOnward 4 (some .int), Cond.methodLink RL 104 yX2_about, Cond.instanceMethod yX2_about, Cond.selects RX2 yX2_about yX2_about, Cond.code yX2_about cX2_about 3 (some .int), Cond.methodLink RX2 122 yX2_roomTold, Cond.instanceMethod yX2_roomTold, Cond.selects RX2 yX2_roomTold yX2_roomTold, Cond.code yX2_roomTold cX2_roomTold 3 (some .int), Cond.methodLink RX2 119 yX2_sidesOn, Cond.instanceMethod yX2_sidesOn]
def wsL_law0_r15 : List Cond := [Cond.selects RX2 yX2_sidesOn yX2_sidesOn, Cond.code yX2_sidesOn cX2_sidesOn 4 (some .int), Cond.methodLink RL 105 yL_beside, Cond.static yL_beside, Cond.codeWith yL_beside cL_beside 5 (some .int) [(0, 10, 13, 19)], Cond.methodLink RL 36 yX1_beside, Cond.instanceMethod yX1_beside, Cond.selects RX1 yX1_beside yX1_beside, Cond.code yX1_beside cX1_beside 3 (some .int), Cond.methodLink RL 107 yX2_beside, Cond.instanceMethod yX2_beside, Cond.selects RX2 yX2_beside yX2_beside, Cond.code yX2_beside cX2_beside 3 (some .int), Cond.methodLink RL 108 yL_isShut, Cond.static yL_isShut, Cond.codeWith yL_isShut cL_isShut 5 (some .int) [(0, 17, 20, 19), (0, 17, 24, 25)], Cond.methodLink RL 39 yX1_isShut, Cond.instanceMethod yX1_isShut, Cond.selects RX1 yX1_isShut yX1_isShut, Cond.code yX1_isShut cX1_isShut 3 (some .boolean), Cond.methodLink RL 110 yX2_isShut, Cond.instanceMethod yX2_isShut, Cond.selects RX2 yX2_isShut yX2_isShut, Cond.code yX2_isShut cX2_isShut 3 (some .boolean)]
def wsL_law0_r16 : List Cond := [Cond.methodLink RL 111 yL_far, Cond.static yL_far, Cond.codeWith yL_far cL_far 5 (some .int) [(0, 10, 13, 19)], Cond.methodLink RL 43 yX1_far, Cond.instanceMethod yX1_far, Cond.selects RX1 yX1_far yX1_far, Cond.code yX1_far cX1_far 5 (some .int), Cond.methodLink RX1 120 Lib.Math.abs.name, Cond.static Lib.Math.abs.name, Cond.initialized "java/lang/Math", Cond.code Lib.Math.abs.name Lib.Math.abs.code 1 (some .int), Cond.methodLink RL 113 yX2_far, Cond.instanceMethod yX2_far, Cond.selects RX2 yX2_far yX2_far, Cond.code yX2_far cX2_far 5 (some .int), Cond.methodLink RX2 125 Lib.Math.abs.name, Cond.methodLink RL 114 yL_sees, Cond.static yL_sees, Cond.codeWith yL_sees cL_sees 5 (some .int) [(0, 17, 20, 19)], Cond.methodLink RL 46 yX1_sees, Cond.instanceMethod yX1_sees, Cond.selects RX1 yX1_sees yX1_sees, Cond.code yX1_sees cX1_sees 5 (some .boolean), Cond.methodLink RL 116 yX2_sees]
def wsL_law0_r17 : List Cond := [Cond.instanceMethod yX2_sees, Cond.selects RX2 yX2_sees yX2_sees, Cond.code yX2_sees cX2_sees 4 (some .boolean), Cond.methodLink RL 117 yL_way, Cond.static yL_way, Cond.codeWith yL_way cL_way 5 (some .int) [(0, 10, 13, 19)], Cond.methodLink RL 49 yX1_way, Cond.instanceMethod yX1_way, Cond.selects RX1 yX1_way yX1_way, Cond.code yX1_way cX1_way 3 (some .int), Cond.methodLink RX1 129 yX1_stepsBetween, Cond.instanceMethod yX1_stepsBetween, Cond.selects RX1 yX1_stepsBetween yX1_stepsBetween, Cond.code yX1_stepsBetween cX1_stepsBetween 3 (some .int), Cond.methodLink RX1 136 yX1_forgetSteps, Cond.instanceMethod yX1_forgetSteps, Cond.selects RX1 yX1_forgetSteps yX1_forgetSteps, Cond.code yX1_forgetSteps cX1_forgetSteps 1 none, Cond.methodLink RX1 139 yX1_spreadFrom, Cond.instanceMethod yX1_spreadFrom, Cond.selects RX1 yX1_spreadFrom yX1_spreadFrom, Cond.code yX1_spreadFrom cX1_spreadFrom 7 none, Cond.methodLink RL 119 yX2_way, Cond.instanceMethod yX2_way]
def wsL_law0_r18 : List Cond := [Cond.selects RX2 yX2_way yX2_way, Cond.code yX2_way cX2_way 3 (some .int), Cond.methodLink RX2 130 yX2_spread, Cond.instanceMethod yX2_spread, Cond.selects RX2 yX2_spread yX2_spread, Cond.code yX2_spread cX2_spread 6 (some .int), Cond.methodLink RL 120 yL_side, Cond.static yL_side, Cond.codeWith yL_side cL_side 5 (some .int) [(0, 10, 13, 19)], Cond.methodLink RL 52 yX1_side, Cond.instanceMethod yX1_side, Cond.selects RX1 yX1_side yX1_side, Cond.code yX1_side cX1_side 8 (some .int), Cond.methodLink RL 122 yX2_side, Cond.instanceMethod yX2_side, Cond.selects RX2 yX2_side yX2_side, Cond.code yX2_side cX2_side 6 (some .int), Cond.methodLink RL 123 yL_reach, Cond.static yL_reach, Cond.codeWith yL_reach cL_reach 5 (some .int) [(0, 10, 13, 19), (0, 10, 17, 13)], Cond.methodLink RL 55 yX1_reach, Cond.instanceMethod yX1_reach, Cond.selects RX1 yX1_reach yX1_reach, Cond.code yX1_reach cX1_reach 5 (some .int)]
def wsL_law0_r19 : List Cond := [Cond.methodLink RL 125 yX2_reach, Cond.instanceMethod yX2_reach, Cond.selects RX2 yX2_reach yX2_reach, Cond.code yX2_reach cX2_reach 5 (some .int), Cond.methodLink RL 126 yL_ring, Cond.static yL_ring, Cond.codeWith yL_ring cL_ring 5 (some .int) [(0, 10, 13, 19)], Cond.methodLink RL 58 yX1_ring, Cond.instanceMethod yX1_ring, Cond.selects RX1 yX1_ring yX1_ring, Cond.code yX1_ring cX1_ring 5 (some .int), Cond.methodLink RX1 142 yX1_standing, Cond.instanceMethod yX1_standing, Cond.selects RX1 yX1_standing yX1_standing, Cond.code yX1_standing cX1_standing 6 (some .int), Cond.methodLink RL 128 yX2_ring, Cond.instanceMethod yX2_ring, Cond.selects RX2 yX2_ring yX2_ring, Cond.code yX2_ring cX2_ring 3 (some .int), Cond.methodLink RX2 136 yX2_ringTold, Cond.instanceMethod yX2_ringTold, Cond.selects RX2 yX2_ringTold yX2_ringTold, Cond.code yX2_ringTold cX2_ringTold 5 (some .int), Cond.methodLink RX2 133 yX2_standing]
def wsL_law0_r20 : List Cond := [Cond.instanceMethod yX2_standing, Cond.selects RX2 yX2_standing yX2_standing, Cond.code yX2_standing cX2_standing 5 (some .int), Cond.methodLink RL 129 yL_count, Cond.static yL_count, Cond.codeWith yL_count cL_count 4 (some .int) [(0, 9, 12, 19)], Cond.methodLink RL 61 yX1_count, Cond.instanceMethod yX1_count, Cond.selects RX1 yX1_count yX1_count, Cond.code yX1_count cX1_count 2 (some .int), Cond.methodLink RX1 152 yX1_doorsShut, Cond.instanceMethod yX1_doorsShut, Cond.selects RX1 yX1_doorsShut yX1_doorsShut, Cond.code yX1_doorsShut cX1_doorsShut 4 (some .int), Cond.methodLink RX1 155 yX1_parts, Cond.instanceMethod yX1_parts, Cond.selects RX1 yX1_parts yX1_parts, Cond.code yX1_parts cX1_parts 3 (some .int), Cond.methodLink RL 131 yX2_count, Cond.instanceMethod yX2_count, Cond.selects RX2 yX2_count yX2_count, Cond.code yX2_count cX2_count 2 (some .int), Cond.methodLink RX2 142 yX2_counted, Cond.instanceMethod yX2_counted]
def wsL_law0_r21 : List Cond := [Cond.selects RX2 yX2_counted yX2_counted, Cond.code yX2_counted cX2_counted 4 (some .int), Cond.methodLink RX2 139 yX2_parts, Cond.instanceMethod yX2_parts, Cond.selects RX2 yX2_parts yX2_parts, Cond.code yX2_parts cX2_parts 5 (some .int), Cond.methodLink RL 132 yX1_sixthsToSame, Cond.instanceMethod yX1_sixthsToSame, Cond.selects RX1 yX1_sixthsToSame yX1_sixthsToSame, Cond.code yX1_sixthsToSame cX1_sixthsToSame 2 (some .int), Cond.methodLink RX1 158 yX1_isTrialAsNow, Cond.instanceMethod yX1_isTrialAsNow, Cond.selects RX1 yX1_isTrialAsNow yX1_isTrialAsNow, Cond.code yX1_isTrialAsNow cX1_isTrialAsNow 2 (some .boolean), Cond.methodLink RL 135 yX2_sixthsToSame, Cond.instanceMethod yX2_sixthsToSame, Cond.selects RX2 yX2_sixthsToSame yX2_sixthsToSame, Cond.code yX2_sixthsToSame cX2_sixthsToSame 2 (some .int), Cond.methodLink RX2 145 yX2_isAlike, Cond.instanceMethod yX2_isAlike, Cond.selects RX2 yX2_isAlike yX2_isAlike, Cond.code yX2_isAlike cX2_isAlike 5 (some .boolean), Cond.methodLink RL 136 yL_would, Cond.static yL_would]
def wsL_law0_r22 : List Cond := [Cond.codeWith yL_would cL_would 5 (some .int) [(0, 10, 13, 19), (0, 10, 17, 13)], Cond.methodLink RL 64 yX1_would, Cond.instanceMethod yX1_would, Cond.selects RX1 yX1_would yX1_would, Cond.code yX1_would cX1_would 3 (some .int), Cond.methodLink RX1 162 yX1_litAfterTurn, Cond.instanceMethod yX1_litAfterTurn, Cond.selects RX1 yX1_litAfterTurn yX1_litAfterTurn, Cond.code yX1_litAfterTurn cX1_litAfterTurn 3 (some .int), Cond.methodLink RL 138 yX2_would, Cond.instanceMethod yX2_would, Cond.selects RX2 yX2_would yX2_would, Cond.code yX2_would cX2_would 3 (some .int), Cond.methodLink RX2 148 yX2_litBy, Cond.instanceMethod yX2_litBy, Cond.selects RX2 yX2_litBy yX2_litBy, Cond.code yX2_litBy cX2_litBy 4 (some .int), Cond.methodLink RL 139 yL_advise, Cond.static yL_advise, Cond.codeWith yL_advise cL_advise 4 (some .int) [(0, 9, 12, 19)], Cond.methodLink RL 67 yX1_advise, Cond.instanceMethod yX1_advise, Cond.selects RX1 yX1_advise yX1_advise, Cond.code yX1_advise cX1_advise 6 (some .int)]
def wsL_law0_r23 : List Cond := [Cond.methodLink RL 141 yX2_advise, Cond.instanceMethod yX2_advise, Cond.selects RX2 yX2_advise yX2_advise, Cond.code yX2_advise cX2_advise 6 (some .int), Cond.methodLink RL 142 yX1_best, Cond.instanceMethod yX1_best, Cond.selects RX1 yX1_best yX1_best, Cond.code yX1_best cX1_best 5 (some .int), Cond.methodLink RX1 165 yX1_newlyLitFrom, Cond.instanceMethod yX1_newlyLitFrom, Cond.selects RX1 yX1_newlyLitFrom yX1_newlyLitFrom, Cond.code yX1_newlyLitFrom cX1_newlyLitFrom 5 (some .int), Cond.methodLink RL 145 yX2_best, Cond.instanceMethod yX2_best, Cond.selects RX2 yX2_best yX2_best, Cond.code yX2_best cX2_best 5 (some .int), Cond.methodLink RL 146 yX1_mean, Cond.instanceMethod yX1_mean, Cond.selects RX1 yX1_mean yX1_mean, Cond.code yX1_mean cX1_mean 4 (some .double), Cond.methodLink RL 150 yX2_mean, Cond.instanceMethod yX2_mean, Cond.selects RX2 yX2_mean yX2_mean, Cond.code yX2_mean cX2_mean 4 (some .double)]
def wsL_law0_r24 : List Cond := [Cond.methodLink RL 151 yX1_digest, Cond.instanceMethod yX1_digest, Cond.selects RX1 yX1_digest yX1_digest, Cond.code yX1_digest cX1_digest 5 (some .long), Cond.constantLong RX1 168 (1733), Cond.constantLong RX1 170 (31), Cond.methodLink RX1 172 yX1_count, Cond.methodLink RX1 175 yX1_about, Cond.methodLink RX1 178 yX1_ring, Cond.methodLink RL 155 yX2_digest, Cond.instanceMethod yX2_digest, Cond.selects RX2 yX2_digest yX2_digest, Cond.code yX2_digest cX2_digest 5 (some .long), Cond.constantLong RX2 151 (1733), Cond.constantLong RX2 153 (31)]
def wsL_law0 : List Cond := (wsL_law0_r1 ++ (wsL_law0_r2 ++ (wsL_law0_r3 ++ (wsL_law0_r4 ++ (wsL_law0_r5 ++ (wsL_law0_r6 ++ (wsL_law0_r7 ++ (wsL_law0_r8 ++ (wsL_law0_r9 ++ (wsL_law0_r10 ++ (wsL_law0_r11 ++ (wsL_law0_r12 ++ (wsL_law0_r13 ++ (wsL_law0_r14 ++ (wsL_law0_r15 ++ (wsL_law0_r16 ++ (wsL_law0_r17 ++ (wsL_law0_r18 ++ (wsL_law0_r19 ++ (wsL_law0_r20 ++ (wsL_law0_r21 ++ (wsL_law0_r22 ++ (wsL_law0_r23 ++ wsL_law0_r24))))))))))))))))))))))) ++ wsX10 ++ wsX20 ++ wsX00 ++ ([] : List Cond)
def wsL_law : List Cond := wsL_law0 ++ (vx_at0 RX1 186 "java/lang/IllegalArgumentException" ["java/lang/RuntimeException", "java/lang/Exception"]).filter goodWord ++ (vx_at0 RX1 183 "java/lang/IndexOutOfBoundsException" ["java/lang/RuntimeException", "java/lang/Exception"]).filter goodWord ++ (vx_at0 RX1 189 "java/lang/IllegalStateException" ["java/lang/RuntimeException", "java/lang/Exception"]).filter goodWord
abbrev vwCl : List vw_C := [(RX0, TX0, 5), (RX1, TX1, 11), (RX2, TX2, 13)]
end
section
set_option maxRecDepth 20000 in
theorem ggX0_init_J7_fill_53178 : GoodIn wsX0_init wsJ7_fill_53178 := goodIn_r _ [13] (by decide +kernel) (by decide +kernel)
set_option maxRecDepth 20000 in
theorem gX0_init_J7_fill_53178 : GoodIn wsX0_init (va_wsS RX0 27 yJ7_fill_53178 wsJ7_fill_53178) := goodIn_app (goodIn_of _ (by decide +kernel)) ggX0_init_J7_fill_53178
set_option maxRecDepth 20000 in
theorem ggX0_init_X0_placeRoom : GoodIn wsX0_init wsX0_placeRoom := goodIn_r _ [18, 5, 6, 7, 8, 19, 20, 17, 21, 45, 46, 47, 48, 49] (by decide +kernel) (by decide +kernel)
set_option maxRecDepth 20000 in
theorem gX0_init_X0_placeRoom : GoodIn wsX0_init (wsV RX0 33 RX0 yX0_placeRoom wsX0_placeRoom) := goodIn_app (goodIn_of _ (by decide +kernel)) ggX0_init_X0_placeRoom
set_option maxRecDepth 20000 in
theorem ggX0_init_X0_placeRing : GoodIn wsX0_init wsX0_placeRing := goodIn_r _ [25, 26, 27, 28, 29, 17, 30, 14, 15, 16, 18, 5, 6, 7, 8, 19, 20, 21, 45, 46, 47, 48, 49] (by decide +kernel) (by decide +kernel)
set_option maxRecDepth 20000 in
theorem gX0_init_X0_placeRing : GoodIn wsX0_init (wsV RX0 37 RX0 yX0_placeRing wsX0_placeRing) := goodIn_app (goodIn_of _ (by decide +kernel)) ggX0_init_X0_placeRing
set_option maxRecDepth 20000 in
theorem ggX0_init_X0_joinRooms : GoodIn wsX0_init wsX0_joinRooms := goodIn_r _ [34, 5, 26, 6, 27, 9, 35, 36, 37, 38, 39, 40, 17, 41, 8, 42, 43, 44, 19, 20, 21, 45, 46, 47, 48, 49] (by decide +kernel) (by decide +kernel)
set_option maxRecDepth 20000 in
theorem gX0_init_X0_joinRooms : GoodIn wsX0_init (wsV RX0 41 RX0 yX0_joinRooms wsX0_joinRooms) := goodIn_app (goodIn_of _ (by decide +kernel)) ggX0_init_X0_joinRooms
theorem dX0_init_0 : decode cX0_init 0 = .ok (.aload_n 0, 1) := by decide +kernel
theorem dX0_init_1 : decode cX0_init 1 = .ok (.invokespecial 3, 3) := by decide +kernel
theorem dX0_init_4 : decode cX0_init 4 = .ok (.aload_n 0, 1) := by decide +kernel
theorem dX0_init_5 : decode cX0_init 5 = .ok (.bipush 91, 2) := by decide +kernel
theorem dX0_init_7 : decode cX0_init 7 = .ok (.newarray .int, 2) := by decide +kernel
theorem dX0_init_9 : decode cX0_init 9 = .ok (.putfield 9, 3) := by decide +kernel
theorem dX0_init_12 : decode cX0_init 12 = .ok (.aload_n 0, 1) := by decide +kernel
theorem dX0_init_13 : decode cX0_init 13 = .ok (.bipush 91, 2) := by decide +kernel
theorem dX0_init_15 : decode cX0_init 15 = .ok (.newarray .int, 2) := by decide +kernel
theorem dX0_init_17 : decode cX0_init 17 = .ok (.putfield 15, 3) := by decide +kernel
theorem dX0_init_20 : decode cX0_init 20 = .ok (.aload_n 0, 1) := by decide +kernel
theorem dX0_init_21 : decode cX0_init 21 = .ok (.bipush 91, 2) := by decide +kernel
theorem dX0_init_23 : decode cX0_init 23 = .ok (.newarray .int, 2) := by decide +kernel
theorem dX0_init_25 : decode cX0_init 25 = .ok (.putfield 18, 3) := by decide +kernel
theorem dX0_init_28 : decode cX0_init 28 = .ok (.aload_n 0, 1) := by decide +kernel
theorem dX0_init_29 : decode cX0_init 29 = .ok (.bipush 121, 2) := by decide +kernel
theorem dX0_init_31 : decode cX0_init 31 = .ok (.newarray .int, 2) := by decide +kernel
theorem dX0_init_33 : decode cX0_init 33 = .ok (.putfield 21, 3) := by decide +kernel
theorem dX0_init_36 : decode cX0_init 36 = .ok (.aload_n 0, 1) := by decide +kernel
theorem dX0_init_37 : decode cX0_init 37 = .ok (.sipush 546, 3) := by decide +kernel
theorem dX0_init_40 : decode cX0_init 40 = .ok (.newarray .int, 2) := by decide +kernel
theorem dX0_init_42 : decode cX0_init 42 = .ok (.putfield 24, 3) := by decide +kernel
theorem dX0_init_45 : decode cX0_init 45 = .ok (.aload_n 0, 1) := by decide +kernel
theorem dX0_init_46 : decode cX0_init 46 = .ok (.getfield 21, 3) := by decide +kernel
theorem dX0_init_49 : decode cX0_init 49 = .ok (.iconst (-1), 1) := by decide +kernel
theorem dX0_init_50 : decode cX0_init 50 = .ok (.invokestatic 27, 3) := by decide +kernel
theorem dX0_init_53 : decode cX0_init 53 = .ok (.aload_n 0, 1) := by decide +kernel
theorem dX0_init_54 : decode cX0_init 54 = .ok (.iconst 0, 1) := by decide +kernel
theorem dX0_init_55 : decode cX0_init 55 = .ok (.iconst 0, 1) := by decide +kernel
theorem dX0_init_56 : decode cX0_init 56 = .ok (.iconst 0, 1) := by decide +kernel
theorem dX0_init_57 : decode cX0_init 57 = .ok (.iconst 0, 1) := by decide +kernel
theorem dX0_init_58 : decode cX0_init 58 = .ok (.invokevirtual 33, 3) := by decide +kernel
theorem dX0_init_61 : decode cX0_init 61 = .ok (.iconst 1, 1) := by decide +kernel
theorem dX0_init_62 : decode cX0_init 62 = .ok (.istore_n 1, 1) := by decide +kernel
theorem dX0_init_63 : decode cX0_init 63 = .ok (.iload_n 1, 1) := by decide +kernel
theorem dX0_init_64 : decode cX0_init 64 = .ok (.iconst 5, 1) := by decide +kernel
theorem dX0_init_65 : decode cX0_init 65 = .ok (.if_icmp .gt 14, 3) := by decide +kernel
theorem dX0_init_68 : decode cX0_init 68 = .ok (.aload_n 0, 1) := by decide +kernel
theorem dX0_init_69 : decode cX0_init 69 = .ok (.iload_n 1, 1) := by decide +kernel
theorem dX0_init_70 : decode cX0_init 70 = .ok (.invokevirtual 37, 3) := by decide +kernel
theorem dX0_init_73 : decode cX0_init 73 = .ok (.iinc 1 1, 3) := by decide +kernel
theorem dX0_init_76 : decode cX0_init 76 = .ok (.goto (-13), 3) := by decide +kernel
theorem dX0_init_79 : decode cX0_init 79 = .ok (.aload_n 0, 1) := by decide +kernel
theorem dX0_init_80 : decode cX0_init 80 = .ok (.invokevirtual 41, 3) := by decide +kernel
theorem dX0_init_83 : decode cX0_init 83 = .ok (.return_, 1) := by decide +kernel
theorem dX0_firstRoomOf_0 : decode cX0_firstRoomOf 0 = .ok (.iload_n 0, 1) := by decide +kernel
theorem dX0_firstRoomOf_1 : decode cX0_firstRoomOf 1 = .ok (.iconst 1, 1) := by decide +kernel
theorem dX0_firstRoomOf_2 : decode cX0_firstRoomOf 2 = .ok (.if_icmp .ge 7, 3) := by decide +kernel
theorem dX0_firstRoomOf_5 : decode cX0_firstRoomOf 5 = .ok (.iconst 0, 1) := by decide +kernel
theorem dX0_firstRoomOf_6 : decode cX0_firstRoomOf 6 = .ok (.goto 12, 3) := by decide +kernel
theorem dX0_firstRoomOf_9 : decode cX0_firstRoomOf 9 = .ok (.iconst 1, 1) := by decide +kernel
theorem dX0_firstRoomOf_10 : decode cX0_firstRoomOf 10 = .ok (.iconst 3, 1) := by decide +kernel
theorem dX0_firstRoomOf_11 : decode cX0_firstRoomOf 11 = .ok (.iload_n 0, 1) := by decide +kernel
theorem dX0_firstRoomOf_12 : decode cX0_firstRoomOf 12 = .ok (.imul, 1) := by decide +kernel
theorem dX0_firstRoomOf_13 : decode cX0_firstRoomOf 13 = .ok (.iload_n 0, 1) := by decide +kernel
theorem dX0_firstRoomOf_14 : decode cX0_firstRoomOf 14 = .ok (.iconst 1, 1) := by decide +kernel
theorem dX0_firstRoomOf_15 : decode cX0_firstRoomOf 15 = .ok (.isub, 1) := by decide +kernel
theorem dX0_firstRoomOf_16 : decode cX0_firstRoomOf 16 = .ok (.imul, 1) := by decide +kernel
theorem dX0_firstRoomOf_17 : decode cX0_firstRoomOf 17 = .ok (.iadd, 1) := by decide +kernel
theorem dX0_firstRoomOf_18 : decode cX0_firstRoomOf 18 = .ok (.ireturn, 1) := by decide +kernel
theorem dX0_sizeOf_0 : decode cX0_sizeOf 0 = .ok (.iload_n 0, 1) := by decide +kernel
theorem dX0_sizeOf_1 : decode cX0_sizeOf 1 = .ok (.iconst 1, 1) := by decide +kernel
theorem dX0_sizeOf_2 : decode cX0_sizeOf 2 = .ok (.if_icmp .ge 7, 3) := by decide +kernel
theorem dX0_sizeOf_5 : decode cX0_sizeOf 5 = .ok (.iconst 1, 1) := by decide +kernel
theorem dX0_sizeOf_6 : decode cX0_sizeOf 6 = .ok (.goto 7, 3) := by decide +kernel
theorem dX0_sizeOf_9 : decode cX0_sizeOf 9 = .ok (.bipush 6, 2) := by decide +kernel
theorem dX0_sizeOf_11 : decode cX0_sizeOf 11 = .ok (.iload_n 0, 1) := by decide +kernel
theorem dX0_sizeOf_12 : decode cX0_sizeOf 12 = .ok (.imul, 1) := by decide +kernel
theorem dX0_sizeOf_13 : decode cX0_sizeOf 13 = .ok (.ireturn, 1) := by decide +kernel
theorem dX0_acrossOf_0 : decode cX0_acrossOf 0 = .ok (.aload_n 0, 1) := by decide +kernel
theorem dX0_acrossOf_1 : decode cX0_acrossOf 1 = .ok (.getfield 9, 3) := by decide +kernel
theorem dX0_acrossOf_4 : decode cX0_acrossOf 4 = .ok (.iload_n 1, 1) := by decide +kernel
theorem dX0_acrossOf_5 : decode cX0_acrossOf 5 = .ok (.iaload, 1) := by decide +kernel
theorem dX0_acrossOf_6 : decode cX0_acrossOf 6 = .ok (.ireturn, 1) := by decide +kernel
theorem dX0_downOf_0 : decode cX0_downOf 0 = .ok (.aload_n 0, 1) := by decide +kernel
theorem dX0_downOf_1 : decode cX0_downOf 1 = .ok (.getfield 15, 3) := by decide +kernel
theorem dX0_downOf_4 : decode cX0_downOf 4 = .ok (.iload_n 1, 1) := by decide +kernel
theorem dX0_downOf_5 : decode cX0_downOf 5 = .ok (.iaload, 1) := by decide +kernel
theorem dX0_downOf_6 : decode cX0_downOf 6 = .ok (.ireturn, 1) := by decide +kernel
theorem dX0_ringOf_0 : decode cX0_ringOf 0 = .ok (.aload_n 0, 1) := by decide +kernel
theorem dX0_ringOf_1 : decode cX0_ringOf 1 = .ok (.getfield 18, 3) := by decide +kernel
theorem dX0_ringOf_4 : decode cX0_ringOf 4 = .ok (.iload_n 1, 1) := by decide +kernel
theorem dX0_ringOf_5 : decode cX0_ringOf 5 = .ok (.iaload, 1) := by decide +kernel
theorem dX0_ringOf_6 : decode cX0_ringOf 6 = .ok (.ireturn, 1) := by decide +kernel
set_option maxRecDepth 20000 in
theorem ggX0_nextTo_X1_doorOf : GoodIn wsX0_nextTo wsX1_doorOf := goodIn_r _ [4] (by decide +kernel) (by decide +kernel)
set_option maxRecDepth 20000 in
theorem gX0_nextTo_X1_doorOf_n44 : GoodIn wsX0_nextTo (wsX1_doorOf) := ggX0_nextTo_X1_doorOf
theorem dX0_nextTo_0 : decode cX0_nextTo 0 = .ok (.aload_n 0, 1) := by decide +kernel
theorem dX0_nextTo_1 : decode cX0_nextTo 1 = .ok (.getfield 24, 3) := by decide +kernel
theorem dX0_nextTo_4 : decode cX0_nextTo 4 = .ok (.iload_n 1, 1) := by decide +kernel
theorem dX0_nextTo_5 : decode cX0_nextTo 5 = .ok (.iload_n 2, 1) := by decide +kernel
theorem dX0_nextTo_6 : decode cX0_nextTo 6 = .ok (.invokestatic 44, 3) := by decide +kernel
theorem dX0_nextTo_9 : decode cX0_nextTo 9 = .ok (.iaload, 1) := by decide +kernel
theorem dX0_nextTo_10 : decode cX0_nextTo 10 = .ok (.ireturn, 1) := by decide +kernel
set_option maxRecDepth 20000 in
theorem ggX0_roomAt_X0_isOnPlan : GoodIn wsX0_roomAt wsX0_isOnPlan := goodIn_r _ [5] (by decide +kernel) (by decide +kernel)
set_option maxRecDepth 20000 in
theorem gX0_roomAt_X0_isOnPlan : GoodIn wsX0_roomAt (va_wsS RX0 48 yX0_isOnPlan wsX0_isOnPlan) := goodIn_app (goodIn_of _ (by decide +kernel)) ggX0_roomAt_X0_isOnPlan
set_option maxRecDepth 20000 in
theorem ggX0_roomAt_X0_cellOf : GoodIn wsX0_roomAt wsX0_cellOf := goodIn_r _ [8] (by decide +kernel) (by decide +kernel)
set_option maxRecDepth 20000 in
theorem gX0_roomAt_X0_cellOf : GoodIn wsX0_roomAt (va_wsS RX0 52 yX0_cellOf wsX0_cellOf) := goodIn_app (goodIn_of _ (by decide +kernel)) ggX0_roomAt_X0_cellOf
theorem dX0_roomAt_0 : decode cX0_roomAt 0 = .ok (.iload_n 1, 1) := by decide +kernel
theorem dX0_roomAt_1 : decode cX0_roomAt 1 = .ok (.invokestatic 48, 3) := by decide +kernel
theorem dX0_roomAt_4 : decode cX0_roomAt 4 = .ok (.ifCond .eq 23, 3) := by decide +kernel
theorem dX0_roomAt_7 : decode cX0_roomAt 7 = .ok (.iload_n 2, 1) := by decide +kernel
theorem dX0_roomAt_8 : decode cX0_roomAt 8 = .ok (.invokestatic 48, 3) := by decide +kernel
theorem dX0_roomAt_11 : decode cX0_roomAt 11 = .ok (.ifCond .eq 16, 3) := by decide +kernel
theorem dX0_roomAt_14 : decode cX0_roomAt 14 = .ok (.aload_n 0, 1) := by decide +kernel
theorem dX0_roomAt_15 : decode cX0_roomAt 15 = .ok (.getfield 21, 3) := by decide +kernel
theorem dX0_roomAt_18 : decode cX0_roomAt 18 = .ok (.iload_n 1, 1) := by decide +kernel
theorem dX0_roomAt_19 : decode cX0_roomAt 19 = .ok (.iload_n 2, 1) := by decide +kernel
theorem dX0_roomAt_20 : decode cX0_roomAt 20 = .ok (.invokestatic 52, 3) := by decide +kernel
theorem dX0_roomAt_23 : decode cX0_roomAt 23 = .ok (.iaload, 1) := by decide +kernel
theorem dX0_roomAt_24 : decode cX0_roomAt 24 = .ok (.goto 4, 3) := by decide +kernel
theorem dX0_roomAt_27 : decode cX0_roomAt 27 = .ok (.iconst (-1), 1) := by decide +kernel
theorem dX0_roomAt_28 : decode cX0_roomAt 28 = .ok (.ireturn, 1) := by decide +kernel
theorem dX0_isOnPlan_0 : decode cX0_isOnPlan 0 = .ok (.iload_n 0, 1) := by decide +kernel
theorem dX0_isOnPlan_1 : decode cX0_isOnPlan 1 = .ok (.bipush (-5), 2) := by decide +kernel
theorem dX0_isOnPlan_3 : decode cX0_isOnPlan 3 = .ok (.if_icmp .lt 12, 3) := by decide +kernel
theorem dX0_isOnPlan_6 : decode cX0_isOnPlan 6 = .ok (.iload_n 0, 1) := by decide +kernel
theorem dX0_isOnPlan_7 : decode cX0_isOnPlan 7 = .ok (.iconst 5, 1) := by decide +kernel
theorem dX0_isOnPlan_8 : decode cX0_isOnPlan 8 = .ok (.if_icmp .gt 7, 3) := by decide +kernel
theorem dX0_isOnPlan_11 : decode cX0_isOnPlan 11 = .ok (.iconst 1, 1) := by decide +kernel
theorem dX0_isOnPlan_12 : decode cX0_isOnPlan 12 = .ok (.goto 4, 3) := by decide +kernel
theorem dX0_isOnPlan_15 : decode cX0_isOnPlan 15 = .ok (.iconst 0, 1) := by decide +kernel
theorem dX0_isOnPlan_16 : decode cX0_isOnPlan 16 = .ok (.ireturn, 1) := by decide +kernel
theorem dX0_cellOf_0 : decode cX0_cellOf 0 = .ok (.iload_n 1, 1) := by decide +kernel
theorem dX0_cellOf_1 : decode cX0_cellOf 1 = .ok (.iconst 5, 1) := by decide +kernel
theorem dX0_cellOf_2 : decode cX0_cellOf 2 = .ok (.iadd, 1) := by decide +kernel
theorem dX0_cellOf_3 : decode cX0_cellOf 3 = .ok (.bipush 11, 2) := by decide +kernel
theorem dX0_cellOf_5 : decode cX0_cellOf 5 = .ok (.imul, 1) := by decide +kernel
theorem dX0_cellOf_6 : decode cX0_cellOf 6 = .ok (.iload_n 0, 1) := by decide +kernel
theorem dX0_cellOf_7 : decode cX0_cellOf 7 = .ok (.iadd, 1) := by decide +kernel
theorem dX0_cellOf_8 : decode cX0_cellOf 8 = .ok (.iconst 5, 1) := by decide +kernel
theorem dX0_cellOf_9 : decode cX0_cellOf 9 = .ok (.iadd, 1) := by decide +kernel
theorem dX0_cellOf_10 : decode cX0_cellOf 10 = .ok (.ireturn, 1) := by decide +kernel
set_option maxRecDepth 20000 in
theorem ggX0_placeRing_X0_firstRoomOf : GoodIn wsX0_placeRing wsX0_firstRoomOf := goodIn_r _ [6] (by decide +kernel) (by decide +kernel)
set_option maxRecDepth 20000 in
theorem gX0_placeRing_X0_firstRoomOf : GoodIn wsX0_placeRing (va_wsS RX0 55 yX0_firstRoomOf wsX0_firstRoomOf) := goodIn_app (goodIn_of _ (by decide +kernel)) ggX0_placeRing_X0_firstRoomOf
set_option maxRecDepth 20000 in
theorem ggX0_placeRing_X0_placeRoom : GoodIn wsX0_placeRing wsX0_placeRoom := goodIn_r _ [10, 11, 12, 13, 14, 15, 16, 5, 17, 18, 19, 20, 21, 22] (by decide +kernel) (by decide +kernel)
set_option maxRecDepth 20000 in
theorem gX0_placeRing_X0_placeRoom : GoodIn wsX0_placeRing (wsV RX0 33 RX0 yX0_placeRoom wsX0_placeRoom) := goodIn_app (goodIn_of _ (by decide +kernel)) ggX0_placeRing_X0_placeRoom
theorem dX0_placeRing_0 : decode cX0_placeRing 0 = .ok (.iload_n 1, 1) := by decide +kernel
theorem dX0_placeRing_1 : decode cX0_placeRing 1 = .ok (.invokestatic 55, 3) := by decide +kernel
theorem dX0_placeRing_4 : decode cX0_placeRing 4 = .ok (.istore_n 2, 1) := by decide +kernel
theorem dX0_placeRing_5 : decode cX0_placeRing 5 = .ok (.iload_n 1, 1) := by decide +kernel
theorem dX0_placeRing_6 : decode cX0_placeRing 6 = .ok (.istore_n 3, 1) := by decide +kernel
theorem dX0_placeRing_7 : decode cX0_placeRing 7 = .ok (.iconst 0, 1) := by decide +kernel
theorem dX0_placeRing_8 : decode cX0_placeRing 8 = .ok (.istore 4, 2) := by decide +kernel
theorem dX0_placeRing_10 : decode cX0_placeRing 10 = .ok (.iconst 0, 1) := by decide +kernel
theorem dX0_placeRing_11 : decode cX0_placeRing 11 = .ok (.istore 5, 2) := by decide +kernel
theorem dX0_placeRing_13 : decode cX0_placeRing 13 = .ok (.iload 5, 2) := by decide +kernel
theorem dX0_placeRing_15 : decode cX0_placeRing 15 = .ok (.bipush 6, 2) := by decide +kernel
theorem dX0_placeRing_17 : decode cX0_placeRing 17 = .ok (.if_icmp .ge 65, 3) := by decide +kernel
theorem dX0_placeRing_20 : decode cX0_placeRing 20 = .ok (.iload 5, 2) := by decide +kernel
theorem dX0_placeRing_22 : decode cX0_placeRing 22 = .ok (.iconst 2, 1) := by decide +kernel
theorem dX0_placeRing_23 : decode cX0_placeRing 23 = .ok (.iadd, 1) := by decide +kernel
theorem dX0_placeRing_24 : decode cX0_placeRing 24 = .ok (.bipush 6, 2) := by decide +kernel
theorem dX0_placeRing_26 : decode cX0_placeRing 26 = .ok (.irem, 1) := by decide +kernel
theorem dX0_placeRing_27 : decode cX0_placeRing 27 = .ok (.istore 6, 2) := by decide +kernel
theorem dX0_placeRing_29 : decode cX0_placeRing 29 = .ok (.iconst 0, 1) := by decide +kernel
theorem dX0_placeRing_30 : decode cX0_placeRing 30 = .ok (.istore 7, 2) := by decide +kernel
theorem dX0_placeRing_32 : decode cX0_placeRing 32 = .ok (.iload 7, 2) := by decide +kernel
theorem dX0_placeRing_34 : decode cX0_placeRing 34 = .ok (.iload_n 1, 1) := by decide +kernel
theorem dX0_placeRing_35 : decode cX0_placeRing 35 = .ok (.if_icmp .ge 41, 3) := by decide +kernel
theorem dX0_placeRing_38 : decode cX0_placeRing 38 = .ok (.aload_n 0, 1) := by decide +kernel
theorem dX0_placeRing_39 : decode cX0_placeRing 39 = .ok (.iload_n 2, 1) := by decide +kernel
theorem dX0_placeRing_40 : decode cX0_placeRing 40 = .ok (.iload_n 3, 1) := by decide +kernel
theorem dX0_placeRing_41 : decode cX0_placeRing 41 = .ok (.iload 4, 2) := by decide +kernel
theorem dX0_placeRing_43 : decode cX0_placeRing 43 = .ok (.iload_n 1, 1) := by decide +kernel
theorem dX0_placeRing_44 : decode cX0_placeRing 44 = .ok (.invokevirtual 33, 3) := by decide +kernel
theorem dX0_placeRing_47 : decode cX0_placeRing 47 = .ok (.iinc 2 1, 3) := by decide +kernel
theorem dX0_placeRing_50 : decode cX0_placeRing 50 = .ok (.iload_n 3, 1) := by decide +kernel
theorem dX0_placeRing_51 : decode cX0_placeRing 51 = .ok (.getstatic 59, 3) := by decide +kernel
theorem dX0_placeRing_54 : decode cX0_placeRing 54 = .ok (.iload 6, 2) := by decide +kernel
theorem dX0_placeRing_56 : decode cX0_placeRing 56 = .ok (.iaload, 1) := by decide +kernel
theorem dX0_placeRing_57 : decode cX0_placeRing 57 = .ok (.iadd, 1) := by decide +kernel
theorem dX0_placeRing_58 : decode cX0_placeRing 58 = .ok (.istore_n 3, 1) := by decide +kernel
theorem dX0_placeRing_59 : decode cX0_placeRing 59 = .ok (.iload 4, 2) := by decide +kernel
theorem dX0_placeRing_61 : decode cX0_placeRing 61 = .ok (.getstatic 62, 3) := by decide +kernel
theorem dX0_placeRing_64 : decode cX0_placeRing 64 = .ok (.iload 6, 2) := by decide +kernel
theorem dX0_placeRing_66 : decode cX0_placeRing 66 = .ok (.iaload, 1) := by decide +kernel
theorem dX0_placeRing_67 : decode cX0_placeRing 67 = .ok (.iadd, 1) := by decide +kernel
theorem dX0_placeRing_68 : decode cX0_placeRing 68 = .ok (.istore 4, 2) := by decide +kernel
theorem dX0_placeRing_70 : decode cX0_placeRing 70 = .ok (.iinc 7 1, 3) := by decide +kernel
theorem dX0_placeRing_73 : decode cX0_placeRing 73 = .ok (.goto (-41), 3) := by decide +kernel
theorem dX0_placeRing_76 : decode cX0_placeRing 76 = .ok (.iinc 5 1, 3) := by decide +kernel
theorem dX0_placeRing_79 : decode cX0_placeRing 79 = .ok (.goto (-66), 3) := by decide +kernel
theorem dX0_placeRing_82 : decode cX0_placeRing 82 = .ok (.return_, 1) := by decide +kernel
set_option maxRecDepth 20000 in
theorem ggX0_placeRoom_X0_cellOf : GoodIn wsX0_placeRoom wsX0_cellOf := goodIn_r _ [8] (by decide +kernel) (by decide +kernel)
set_option maxRecDepth 20000 in
theorem gX0_placeRoom_X0_cellOf : GoodIn wsX0_placeRoom (va_wsS RX0 52 yX0_cellOf wsX0_cellOf) := goodIn_app (goodIn_of _ (by decide +kernel)) ggX0_placeRoom_X0_cellOf
theorem dX0_placeRoom_0 : decode cX0_placeRoom 0 = .ok (.aload_n 0, 1) := by decide +kernel
theorem dX0_placeRoom_1 : decode cX0_placeRoom 1 = .ok (.getfield 9, 3) := by decide +kernel
theorem dX0_placeRoom_4 : decode cX0_placeRoom 4 = .ok (.iload_n 1, 1) := by decide +kernel
theorem dX0_placeRoom_5 : decode cX0_placeRoom 5 = .ok (.iload_n 2, 1) := by decide +kernel
theorem dX0_placeRoom_6 : decode cX0_placeRoom 6 = .ok (.iastore, 1) := by decide +kernel
theorem dX0_placeRoom_7 : decode cX0_placeRoom 7 = .ok (.aload_n 0, 1) := by decide +kernel
theorem dX0_placeRoom_8 : decode cX0_placeRoom 8 = .ok (.getfield 15, 3) := by decide +kernel
theorem dX0_placeRoom_11 : decode cX0_placeRoom 11 = .ok (.iload_n 1, 1) := by decide +kernel
theorem dX0_placeRoom_12 : decode cX0_placeRoom 12 = .ok (.iload_n 3, 1) := by decide +kernel
theorem dX0_placeRoom_13 : decode cX0_placeRoom 13 = .ok (.iastore, 1) := by decide +kernel
theorem dX0_placeRoom_14 : decode cX0_placeRoom 14 = .ok (.aload_n 0, 1) := by decide +kernel
theorem dX0_placeRoom_15 : decode cX0_placeRoom 15 = .ok (.getfield 18, 3) := by decide +kernel
theorem dX0_placeRoom_18 : decode cX0_placeRoom 18 = .ok (.iload_n 1, 1) := by decide +kernel
theorem dX0_placeRoom_19 : decode cX0_placeRoom 19 = .ok (.iload 4, 2) := by decide +kernel
theorem dX0_placeRoom_21 : decode cX0_placeRoom 21 = .ok (.iastore, 1) := by decide +kernel
theorem dX0_placeRoom_22 : decode cX0_placeRoom 22 = .ok (.aload_n 0, 1) := by decide +kernel
theorem dX0_placeRoom_23 : decode cX0_placeRoom 23 = .ok (.getfield 21, 3) := by decide +kernel
theorem dX0_placeRoom_26 : decode cX0_placeRoom 26 = .ok (.iload_n 2, 1) := by decide +kernel
theorem dX0_placeRoom_27 : decode cX0_placeRoom 27 = .ok (.iload_n 3, 1) := by decide +kernel
theorem dX0_placeRoom_28 : decode cX0_placeRoom 28 = .ok (.invokestatic 52, 3) := by decide +kernel
theorem dX0_placeRoom_31 : decode cX0_placeRoom 31 = .ok (.iload_n 1, 1) := by decide +kernel
theorem dX0_placeRoom_32 : decode cX0_placeRoom 32 = .ok (.iastore, 1) := by decide +kernel
theorem dX0_placeRoom_33 : decode cX0_placeRoom 33 = .ok (.return_, 1) := by decide +kernel
set_option maxRecDepth 20000 in
theorem ggX0_joinRooms_X1_doorOf : GoodIn wsX0_joinRooms wsX1_doorOf := goodIn_r _ [8] (by decide +kernel) (by decide +kernel)
set_option maxRecDepth 20000 in
theorem gX0_joinRooms_X1_doorOf_n44 : GoodIn wsX0_joinRooms (wsX1_doorOf) := ggX0_joinRooms_X1_doorOf
set_option maxRecDepth 20000 in
theorem ggX0_joinRooms_X0_roomAt : GoodIn wsX0_joinRooms wsX0_roomAt := goodIn_r _ [13, 14, 15, 16, 12, 17, 18, 19, 20, 21, 22, 23, 24, 25] (by decide +kernel) (by decide +kernel)
set_option maxRecDepth 20000 in
theorem gX0_joinRooms_X0_roomAt : GoodIn wsX0_joinRooms (wsV RX0 65 RX0 yX0_roomAt wsX0_roomAt) := goodIn_app (goodIn_of _ (by decide +kernel)) ggX0_joinRooms_X0_roomAt
theorem dX0_joinRooms_0 : decode cX0_joinRooms 0 = .ok (.iconst 0, 1) := by decide +kernel
theorem dX0_joinRooms_1 : decode cX0_joinRooms 1 = .ok (.istore_n 1, 1) := by decide +kernel
theorem dX0_joinRooms_2 : decode cX0_joinRooms 2 = .ok (.iload_n 1, 1) := by decide +kernel
theorem dX0_joinRooms_3 : decode cX0_joinRooms 3 = .ok (.bipush 91, 2) := by decide +kernel
theorem dX0_joinRooms_5 : decode cX0_joinRooms 5 = .ok (.if_icmp .ge 67, 3) := by decide +kernel
theorem dX0_joinRooms_8 : decode cX0_joinRooms 8 = .ok (.iconst 0, 1) := by decide +kernel
theorem dX0_joinRooms_9 : decode cX0_joinRooms 9 = .ok (.istore_n 2, 1) := by decide +kernel
theorem dX0_joinRooms_10 : decode cX0_joinRooms 10 = .ok (.iload_n 2, 1) := by decide +kernel
theorem dX0_joinRooms_11 : decode cX0_joinRooms 11 = .ok (.bipush 6, 2) := by decide +kernel
theorem dX0_joinRooms_13 : decode cX0_joinRooms 13 = .ok (.if_icmp .ge 53, 3) := by decide +kernel
theorem dX0_joinRooms_16 : decode cX0_joinRooms 16 = .ok (.aload_n 0, 1) := by decide +kernel
theorem dX0_joinRooms_17 : decode cX0_joinRooms 17 = .ok (.getfield 9, 3) := by decide +kernel
theorem dX0_joinRooms_20 : decode cX0_joinRooms 20 = .ok (.iload_n 1, 1) := by decide +kernel
theorem dX0_joinRooms_21 : decode cX0_joinRooms 21 = .ok (.iaload, 1) := by decide +kernel
theorem dX0_joinRooms_22 : decode cX0_joinRooms 22 = .ok (.getstatic 59, 3) := by decide +kernel
theorem dX0_joinRooms_25 : decode cX0_joinRooms 25 = .ok (.iload_n 2, 1) := by decide +kernel
theorem dX0_joinRooms_26 : decode cX0_joinRooms 26 = .ok (.iaload, 1) := by decide +kernel
theorem dX0_joinRooms_27 : decode cX0_joinRooms 27 = .ok (.iadd, 1) := by decide +kernel
theorem dX0_joinRooms_28 : decode cX0_joinRooms 28 = .ok (.istore_n 3, 1) := by decide +kernel
theorem dX0_joinRooms_29 : decode cX0_joinRooms 29 = .ok (.aload_n 0, 1) := by decide +kernel
theorem dX0_joinRooms_30 : decode cX0_joinRooms 30 = .ok (.getfield 15, 3) := by decide +kernel
theorem dX0_joinRooms_33 : decode cX0_joinRooms 33 = .ok (.iload_n 1, 1) := by decide +kernel
theorem dX0_joinRooms_34 : decode cX0_joinRooms 34 = .ok (.iaload, 1) := by decide +kernel
theorem dX0_joinRooms_35 : decode cX0_joinRooms 35 = .ok (.getstatic 62, 3) := by decide +kernel
theorem dX0_joinRooms_38 : decode cX0_joinRooms 38 = .ok (.iload_n 2, 1) := by decide +kernel
theorem dX0_joinRooms_39 : decode cX0_joinRooms 39 = .ok (.iaload, 1) := by decide +kernel
theorem dX0_joinRooms_40 : decode cX0_joinRooms 40 = .ok (.iadd, 1) := by decide +kernel
theorem dX0_joinRooms_41 : decode cX0_joinRooms 41 = .ok (.istore 4, 2) := by decide +kernel
theorem dX0_joinRooms_43 : decode cX0_joinRooms 43 = .ok (.aload_n 0, 1) := by decide +kernel
theorem dX0_joinRooms_44 : decode cX0_joinRooms 44 = .ok (.getfield 24, 3) := by decide +kernel
theorem dX0_joinRooms_47 : decode cX0_joinRooms 47 = .ok (.iload_n 1, 1) := by decide +kernel
theorem dX0_joinRooms_48 : decode cX0_joinRooms 48 = .ok (.iload_n 2, 1) := by decide +kernel
theorem dX0_joinRooms_49 : decode cX0_joinRooms 49 = .ok (.invokestatic 44, 3) := by decide +kernel
theorem dX0_joinRooms_52 : decode cX0_joinRooms 52 = .ok (.aload_n 0, 1) := by decide +kernel
theorem dX0_joinRooms_53 : decode cX0_joinRooms 53 = .ok (.iload_n 3, 1) := by decide +kernel
theorem dX0_joinRooms_54 : decode cX0_joinRooms 54 = .ok (.iload 4, 2) := by decide +kernel
theorem dX0_joinRooms_56 : decode cX0_joinRooms 56 = .ok (.invokevirtual 65, 3) := by decide +kernel
theorem dX0_joinRooms_59 : decode cX0_joinRooms 59 = .ok (.iastore, 1) := by decide +kernel
theorem dX0_joinRooms_60 : decode cX0_joinRooms 60 = .ok (.iinc 2 1, 3) := by decide +kernel
theorem dX0_joinRooms_63 : decode cX0_joinRooms 63 = .ok (.goto (-53), 3) := by decide +kernel
theorem dX0_joinRooms_66 : decode cX0_joinRooms 66 = .ok (.iinc 1 1, 3) := by decide +kernel
theorem dX0_joinRooms_69 : decode cX0_joinRooms 69 = .ok (.goto (-67), 3) := by decide +kernel
theorem dX0_joinRooms_72 : decode cX0_joinRooms 72 = .ok (.return_, 1) := by decide +kernel
set_option maxRecDepth 20000 in
theorem ggX1_init_X0_init : GoodIn wsX1_init wsX0_init := goodIn_r _ [20, 21, 2, 3, 8, 22, 23, 24, 25, 26, 27, 28, 29, 30, 31, 32, 33, 6, 34, 35, 36, 37, 38, 39, 40, 41, 42, 43, 44, 45, 46, 47, 48, 49, 50, 51, 52, 53, 54, 55, 56, 57, 58, 59, 60, 69, 70, 71, 72, 73] (by decide +kernel) (by decide +kernel)
set_option maxRecDepth 20000 in
theorem gX1_init_X0_init : GoodIn wsX1_init (wsX0_init) := ggX1_init_X0_init
set_option maxRecDepth 20000 in
theorem ggX1_init_X1_build : GoodIn wsX1_init wsX1_build := goodIn_r _ [64, 65, 66, 9, 11, 12, 67, 45, 6, 46, 68, 28, 29, 30, 74, 75, 76, 77, 78, 79, 80, 81, 82, 83, 84] (by decide +kernel) (by decide +kernel)
set_option maxRecDepth 20000 in
theorem gX1_init_X1_build : GoodIn wsX1_init (wsV RX1 42 RX1 yX1_build wsX1_build) := goodIn_app (goodIn_of _ (by decide +kernel)) ggX1_init_X1_build
theorem dX1_init_0 : decode cX1_init 0 = .ok (.aload_n 0, 1) := by decide +kernel
theorem dX1_init_1 : decode cX1_init 1 = .ok (.invokespecial 3, 3) := by decide +kernel
theorem dX1_init_4 : decode cX1_init 4 = .ok (.aload_n 0, 1) := by decide +kernel
theorem dX1_init_5 : decode cX1_init 5 = .ok (.new 9, 3) := by decide +kernel
theorem dX1_init_8 : decode cX1_init 8 = .ok (.dup, 1) := by decide +kernel
theorem dX1_init_9 : decode cX1_init 9 = .ok (.invokespecial 11, 3) := by decide +kernel
theorem dX1_init_12 : decode cX1_init 12 = .ok (.putfield 12, 3) := by decide +kernel
theorem dX1_init_15 : decode cX1_init 15 = .ok (.aload_n 0, 1) := by decide +kernel
theorem dX1_init_16 : decode cX1_init 16 = .ok (.bipush 91, 2) := by decide +kernel
theorem dX1_init_18 : decode cX1_init 18 = .ok (.newarray .int, 2) := by decide +kernel
theorem dX1_init_20 : decode cX1_init 20 = .ok (.putfield 16, 3) := by decide +kernel
theorem dX1_init_23 : decode cX1_init 23 = .ok (.aload_n 0, 1) := by decide +kernel
theorem dX1_init_24 : decode cX1_init 24 = .ok (.sipush 546, 3) := by decide +kernel
theorem dX1_init_27 : decode cX1_init 27 = .ok (.newarray .boolean, 2) := by decide +kernel
theorem dX1_init_29 : decode cX1_init 29 = .ok (.putfield 20, 3) := by decide +kernel
theorem dX1_init_32 : decode cX1_init 32 = .ok (.aload_n 0, 1) := by decide +kernel
theorem dX1_init_33 : decode cX1_init 33 = .ok (.bipush 91, 2) := by decide +kernel
theorem dX1_init_35 : decode cX1_init 35 = .ok (.newarray .int, 2) := by decide +kernel
theorem dX1_init_37 : decode cX1_init 37 = .ok (.putfield 24, 3) := by decide +kernel
theorem dX1_init_40 : decode cX1_init 40 = .ok (.aload_n 0, 1) := by decide +kernel
theorem dX1_init_41 : decode cX1_init 41 = .ok (.bipush 91, 2) := by decide +kernel
theorem dX1_init_43 : decode cX1_init 43 = .ok (.newarray .int, 2) := by decide +kernel
theorem dX1_init_45 : decode cX1_init 45 = .ok (.putfield 27, 3) := by decide +kernel
theorem dX1_init_48 : decode cX1_init 48 = .ok (.aload_n 0, 1) := by decide +kernel
theorem dX1_init_49 : decode cX1_init 49 = .ok (.bipush 91, 2) := by decide +kernel
theorem dX1_init_51 : decode cX1_init 51 = .ok (.newarray .int, 2) := by decide +kernel
theorem dX1_init_53 : decode cX1_init 53 = .ok (.putfield 30, 3) := by decide +kernel
theorem dX1_init_56 : decode cX1_init 56 = .ok (.aload_n 0, 1) := by decide +kernel
theorem dX1_init_57 : decode cX1_init 57 = .ok (.bipush 91, 2) := by decide +kernel
theorem dX1_init_59 : decode cX1_init 59 = .ok (.newarray .int, 2) := by decide +kernel
theorem dX1_init_61 : decode cX1_init 61 = .ok (.putfield 33, 3) := by decide +kernel
theorem dX1_init_64 : decode cX1_init 64 = .ok (.aload_n 0, 1) := by decide +kernel
theorem dX1_init_65 : decode cX1_init 65 = .ok (.bipush 91, 2) := by decide +kernel
theorem dX1_init_67 : decode cX1_init 67 = .ok (.newarray .int, 2) := by decide +kernel
theorem dX1_init_69 : decode cX1_init 69 = .ok (.putfield 36, 3) := by decide +kernel
theorem dX1_init_72 : decode cX1_init 72 = .ok (.aload_n 0, 1) := by decide +kernel
theorem dX1_init_73 : decode cX1_init 73 = .ok (.bipush 91, 2) := by decide +kernel
theorem dX1_init_75 : decode cX1_init 75 = .ok (.newarray .int, 2) := by decide +kernel
theorem dX1_init_77 : decode cX1_init 77 = .ok (.putfield 39, 3) := by decide +kernel
theorem dX1_init_80 : decode cX1_init 80 = .ok (.aload_n 0, 1) := by decide +kernel
theorem dX1_init_81 : decode cX1_init 81 = .ok (.iconst 2, 1) := by decide +kernel
theorem dX1_init_82 : decode cX1_init 82 = .ok (.invokevirtual 42, 3) := by decide +kernel
theorem dX1_init_85 : decode cX1_init 85 = .ok (.return_, 1) := by decide +kernel
set_option maxRecDepth 20000 in
theorem ggX1_setRings_X1_needNumber : GoodIn wsX1_setRings wsX1_needNumber := goodIn_ca (goodIn_r _ [5, 6, 7] (by decide +kernel) (by decide +kernel)) (goodIn_sub (fun _ h => List.mem_cons_of_mem _ (List.mem_append_right _ h)) (by decide +kernel))
set_option maxRecDepth 20000 in
theorem gX1_setRings_X1_needNumber : GoodIn wsX1_setRings (va_wsS RX1 46 yX1_needNumber wsX1_needNumber) := goodIn_app (goodIn_of _ (by decide +kernel)) ggX1_setRings_X1_needNumber
set_option maxRecDepth 20000 in
theorem ggX1_setRings_X1_build : GoodIn wsX1_setRings wsX1_build := goodIn_r _ [11, 12, 1, 13, 14, 15, 16, 17, 18, 19, 20, 21, 22, 23, 24, 25, 26, 27, 28, 29, 30, 31, 32, 33, 34] (by decide +kernel) (by decide +kernel)
set_option maxRecDepth 20000 in
theorem gX1_setRings_X1_build : GoodIn wsX1_setRings (wsV RX1 42 RX1 yX1_build wsX1_build) := goodIn_app (goodIn_of _ (by decide +kernel)) ggX1_setRings_X1_build
theorem dX1_setRings_0 : decode cX1_setRings 0 = .ok (.iload_n 1, 1) := by decide +kernel
theorem dX1_setRings_1 : decode cX1_setRings 1 = .ok (.iconst 1, 1) := by decide +kernel
theorem dX1_setRings_2 : decode cX1_setRings 2 = .ok (.iconst 5, 1) := by decide +kernel
theorem dX1_setRings_3 : decode cX1_setRings 3 = .ok (.invokestatic 46, 3) := by decide +kernel
theorem dX1_setRings_6 : decode cX1_setRings 6 = .ok (.aload_n 0, 1) := by decide +kernel
theorem dX1_setRings_7 : decode cX1_setRings 7 = .ok (.iload_n 1, 1) := by decide +kernel
theorem dX1_setRings_8 : decode cX1_setRings 8 = .ok (.invokevirtual 42, 3) := by decide +kernel
theorem dX1_setRings_11 : decode cX1_setRings 11 = .ok (.aload_n 0, 1) := by decide +kernel
theorem dX1_setRings_12 : decode cX1_setRings 12 = .ok (.getfield 50, 3) := by decide +kernel
theorem dX1_setRings_15 : decode cX1_setRings 15 = .ok (.ireturn, 1) := by decide +kernel
set_option maxRecDepth 20000 in
theorem ggX1_put_X1_needRoom : GoodIn wsX1_put wsX1_needRoom := goodIn_ca (goodIn_r _ [6, 7, 8, 9, 5, 10, 11, 12, 57, 58, 59, 60, 61, 62, 63, 64, 65, 66, 67] (by decide +kernel) (by decide +kernel)) (goodIn_sub (fun _ h => List.mem_cons_of_mem _ (List.mem_append_right _ h)) (by decide +kernel))
set_option maxRecDepth 20000 in
theorem gX1_put_X1_needRoom : GoodIn wsX1_put (wsV RX1 54 RX1 yX1_needRoom wsX1_needRoom) := goodIn_app (goodIn_of _ (by decide +kernel)) ggX1_put_X1_needRoom
set_option maxRecDepth 20000 in
theorem ggX1_put_X1_needIndex : GoodIn wsX1_put wsX1_needIndex := goodIn_ca (goodIn_r _ [10, 11, 12] (by decide +kernel) (by decide +kernel)) (goodIn_sub (fun _ h => List.mem_cons_of_mem _ (List.mem_append_right _ h)) (by decide +kernel))
set_option maxRecDepth 20000 in
theorem gX1_put_X1_needIndex : GoodIn wsX1_put (va_wsS RX1 57 yX1_needIndex wsX1_needIndex) := goodIn_app (goodIn_of _ (by decide +kernel)) ggX1_put_X1_needIndex
set_option maxRecDepth 20000 in
theorem ggX1_put_X1_relight : GoodIn wsX1_put wsX1_relight := goodIn_r _ [16, 1, 17, 18, 19, 20, 5, 21, 7, 22, 23, 24, 25, 26, 27, 28, 29, 30, 31, 32, 33, 34, 35, 36, 37, 38, 39, 40, 41, 42, 43, 44, 45, 46, 47, 48, 49, 50, 51, 52, 53, 54, 55, 56, 57, 58, 59, 60, 61, 62, 63, 64, 65, 66, 67, 68, 69, 70, 71, 72] (by decide +kernel) (by decide +kernel)
set_option maxRecDepth 20000 in
theorem gX1_put_X1_relight : GoodIn wsX1_put (wsV RX1 61 RX1 yX1_relight wsX1_relight) := goodIn_app (goodIn_of _ (by decide +kernel)) ggX1_put_X1_relight
theorem dX1_put_0 : decode cX1_put 0 = .ok (.aload_n 0, 1) := by decide +kernel
theorem dX1_put_1 : decode cX1_put 1 = .ok (.iload_n 1, 1) := by decide +kernel
theorem dX1_put_2 : decode cX1_put 2 = .ok (.invokevirtual 54, 3) := by decide +kernel
theorem dX1_put_5 : decode cX1_put 5 = .ok (.iload_n 2, 1) := by decide +kernel
theorem dX1_put_6 : decode cX1_put 6 = .ok (.iconst 3, 1) := by decide +kernel
theorem dX1_put_7 : decode cX1_put 7 = .ok (.invokestatic 57, 3) := by decide +kernel
theorem dX1_put_10 : decode cX1_put 10 = .ok (.aload_n 0, 1) := by decide +kernel
theorem dX1_put_11 : decode cX1_put 11 = .ok (.getfield 16, 3) := by decide +kernel
theorem dX1_put_14 : decode cX1_put 14 = .ok (.iload_n 1, 1) := by decide +kernel
theorem dX1_put_15 : decode cX1_put 15 = .ok (.iaload, 1) := by decide +kernel
theorem dX1_put_16 : decode cX1_put 16 = .ok (.istore_n 3, 1) := by decide +kernel
theorem dX1_put_17 : decode cX1_put 17 = .ok (.aload_n 0, 1) := by decide +kernel
theorem dX1_put_18 : decode cX1_put 18 = .ok (.getfield 16, 3) := by decide +kernel
theorem dX1_put_21 : decode cX1_put 21 = .ok (.iload_n 1, 1) := by decide +kernel
theorem dX1_put_22 : decode cX1_put 22 = .ok (.iload_n 2, 1) := by decide +kernel
theorem dX1_put_23 : decode cX1_put 23 = .ok (.iastore, 1) := by decide +kernel
theorem dX1_put_24 : decode cX1_put 24 = .ok (.aload_n 0, 1) := by decide +kernel
theorem dX1_put_25 : decode cX1_put 25 = .ok (.invokevirtual 61, 3) := by decide +kernel
theorem dX1_put_28 : decode cX1_put 28 = .ok (.pop, 1) := by decide +kernel
theorem dX1_put_29 : decode cX1_put 29 = .ok (.iload_n 3, 1) := by decide +kernel
theorem dX1_put_30 : decode cX1_put 30 = .ok (.ireturn, 1) := by decide +kernel
set_option maxRecDepth 20000 in
theorem ggX1_shut_X1_needDoor : GoodIn wsX1_shut wsX1_needDoor := goodIn_ca (goodIn_ca (goodIn_r _ [6, 7, 8, 9, 10, 11, 5, 12, 13, 14, 15, 16, 17, 18, 19, 20, 21, 22, 23, 24, 25, 26, 27, 28, 29, 30, 31, 32, 33, 34, 35, 66, 67, 68, 69, 70, 71, 72, 73, 74, 75, 76, 77, 78, 79, 80, 81] (by decide +kernel) (by decide +kernel)) (goodIn_sub (fun _ h => List.mem_cons_of_mem _ (List.mem_append_left _ (List.mem_append_right _ h))) (by decide +kernel))) (goodIn_sub (fun _ h => List.mem_cons_of_mem _ (List.mem_append_right _ h)) (by decide +kernel))
set_option maxRecDepth 20000 in
theorem gX1_shut_X1_needDoor : GoodIn wsX1_shut (wsV RX1 65 RX1 yX1_needDoor wsX1_needDoor) := goodIn_app (goodIn_of _ (by decide +kernel)) ggX1_shut_X1_needDoor
set_option maxRecDepth 20000 in
theorem ggX1_shut_X1_doorOf : GoodIn wsX1_shut wsX1_doorOf := goodIn_r _ [31] (by decide +kernel) (by decide +kernel)
set_option maxRecDepth 20000 in
theorem gX1_shut_X1_doorOf : GoodIn wsX1_shut (va_wsS RX1 69 yX1_doorOf wsX1_doorOf) := goodIn_app (goodIn_of _ (by decide +kernel)) ggX1_shut_X1_doorOf
set_option maxRecDepth 20000 in
theorem ggX1_shut_X1_opposite : GoodIn wsX1_shut wsX1_opposite := goodIn_r _ [39] (by decide +kernel) (by decide +kernel)
set_option maxRecDepth 20000 in
theorem gX1_shut_X1_opposite : GoodIn wsX1_shut (va_wsS RX1 72 yX1_opposite wsX1_opposite) := goodIn_app (goodIn_of _ (by decide +kernel)) ggX1_shut_X1_opposite
set_option maxRecDepth 20000 in
theorem ggX1_shut_X1_relight : GoodIn wsX1_shut wsX1_relight := goodIn_r _ [43, 44, 45, 46, 47, 48, 5, 49, 13, 50, 51, 52, 53, 54, 55, 56, 57, 58, 59, 60, 61, 62, 1, 19, 20, 21, 22, 23, 24, 25, 26, 27, 28, 29, 30, 31, 32, 33, 34, 35, 36, 63, 64, 65, 66, 67, 68, 69, 70, 71, 72, 73, 74, 75, 76, 77, 78, 79, 80, 81] (by decide +kernel) (by decide +kernel)
set_option maxRecDepth 20000 in
theorem gX1_shut_X1_relight : GoodIn wsX1_shut (wsV RX1 61 RX1 yX1_relight wsX1_relight) := goodIn_app (goodIn_of _ (by decide +kernel)) ggX1_shut_X1_relight
theorem dX1_shut_0 : decode cX1_shut 0 = .ok (.aload_n 0, 1) := by decide +kernel
theorem dX1_shut_1 : decode cX1_shut 1 = .ok (.iload_n 1, 1) := by decide +kernel
theorem dX1_shut_2 : decode cX1_shut 2 = .ok (.iload_n 2, 1) := by decide +kernel
theorem dX1_shut_3 : decode cX1_shut 3 = .ok (.invokevirtual 65, 3) := by decide +kernel
theorem dX1_shut_6 : decode cX1_shut 6 = .ok (.istore 4, 2) := by decide +kernel
theorem dX1_shut_8 : decode cX1_shut 8 = .ok (.aload_n 0, 1) := by decide +kernel
theorem dX1_shut_9 : decode cX1_shut 9 = .ok (.getfield 20, 3) := by decide +kernel
theorem dX1_shut_12 : decode cX1_shut 12 = .ok (.iload_n 1, 1) := by decide +kernel
theorem dX1_shut_13 : decode cX1_shut 13 = .ok (.iload_n 2, 1) := by decide +kernel
theorem dX1_shut_14 : decode cX1_shut 14 = .ok (.invokestatic 69, 3) := by decide +kernel
theorem dX1_shut_17 : decode cX1_shut 17 = .ok (.baload, 1) := by decide +kernel
theorem dX1_shut_18 : decode cX1_shut 18 = .ok (.istore 5, 2) := by decide +kernel
theorem dX1_shut_20 : decode cX1_shut 20 = .ok (.aload_n 0, 1) := by decide +kernel
theorem dX1_shut_21 : decode cX1_shut 21 = .ok (.getfield 20, 3) := by decide +kernel
theorem dX1_shut_24 : decode cX1_shut 24 = .ok (.iload_n 1, 1) := by decide +kernel
theorem dX1_shut_25 : decode cX1_shut 25 = .ok (.iload_n 2, 1) := by decide +kernel
theorem dX1_shut_26 : decode cX1_shut 26 = .ok (.invokestatic 69, 3) := by decide +kernel
theorem dX1_shut_29 : decode cX1_shut 29 = .ok (.iload_n 3, 1) := by decide +kernel
theorem dX1_shut_30 : decode cX1_shut 30 = .ok (.bastore, 1) := by decide +kernel
theorem dX1_shut_31 : decode cX1_shut 31 = .ok (.aload_n 0, 1) := by decide +kernel
theorem dX1_shut_32 : decode cX1_shut 32 = .ok (.getfield 20, 3) := by decide +kernel
theorem dX1_shut_35 : decode cX1_shut 35 = .ok (.iload 4, 2) := by decide +kernel
theorem dX1_shut_37 : decode cX1_shut 37 = .ok (.iload_n 2, 1) := by decide +kernel
theorem dX1_shut_38 : decode cX1_shut 38 = .ok (.invokestatic 72, 3) := by decide +kernel
theorem dX1_shut_41 : decode cX1_shut 41 = .ok (.invokestatic 69, 3) := by decide +kernel
theorem dX1_shut_44 : decode cX1_shut 44 = .ok (.iload_n 3, 1) := by decide +kernel
theorem dX1_shut_45 : decode cX1_shut 45 = .ok (.bastore, 1) := by decide +kernel
theorem dX1_shut_46 : decode cX1_shut 46 = .ok (.aload_n 0, 1) := by decide +kernel
theorem dX1_shut_47 : decode cX1_shut 47 = .ok (.invokevirtual 61, 3) := by decide +kernel
theorem dX1_shut_50 : decode cX1_shut 50 = .ok (.pop, 1) := by decide +kernel
theorem dX1_shut_51 : decode cX1_shut 51 = .ok (.iload 5, 2) := by decide +kernel
theorem dX1_shut_53 : decode cX1_shut 53 = .ok (.ireturn, 1) := by decide +kernel
set_option maxRecDepth 20000 in
theorem ggX1_turn_X1_needRing : GoodIn wsX1_turn wsX1_needRing := goodIn_ca (goodIn_r _ [11, 12, 13, 14, 10, 15, 16, 17, 78, 79, 80, 81, 82, 83, 84, 85, 86, 87, 88] (by decide +kernel) (by decide +kernel)) (goodIn_sub (fun _ h => List.mem_cons_of_mem _ (List.mem_append_left _ (List.mem_append_right _ h))) (by decide +kernel))
set_option maxRecDepth 20000 in
theorem gX1_turn_X1_needRing : GoodIn wsX1_turn (wsV RX1 76 RX1 yX1_needRing wsX1_needRing) := goodIn_app (goodIn_of _ (by decide +kernel)) ggX1_turn_X1_needRing
set_option maxRecDepth 20000 in
theorem ggX1_turn_X1_needNumber : GoodIn wsX1_turn wsX1_needNumber := goodIn_ca (goodIn_r _ [20, 21, 22] (by decide +kernel) (by decide +kernel)) (goodIn_sub (fun _ h => List.mem_cons_of_mem _ (List.mem_append_right _ h)) (by decide +kernel))
set_option maxRecDepth 20000 in
theorem gX1_turn_X1_needNumber : GoodIn wsX1_turn (va_wsS RX1 46 yX1_needNumber wsX1_needNumber) := goodIn_app (goodIn_of _ (by decide +kernel)) ggX1_turn_X1_needNumber
set_option maxRecDepth 20000 in
theorem ggX1_turn_X1_turnRingInto : GoodIn wsX1_turn wsX1_turnRingInto := goodIn_r _ [26, 2, 27, 28, 29, 30, 31, 32, 33, 78, 79, 80, 81, 82, 83, 84, 85, 86, 87, 88] (by decide +kernel) (by decide +kernel)
set_option maxRecDepth 20000 in
theorem gX1_turn_X1_turnRingInto : GoodIn wsX1_turn (wsV RX1 79 RX1 yX1_turnRingInto wsX1_turnRingInto) := goodIn_app (goodIn_of _ (by decide +kernel)) ggX1_turn_X1_turnRingInto
set_option maxRecDepth 20000 in
theorem ggX1_turn_X0_firstRoomOf : GoodIn wsX1_turn wsX0_firstRoomOf := goodIn_r _ [30] (by decide +kernel) (by decide +kernel)
set_option maxRecDepth 20000 in
theorem gX1_turn_X0_firstRoomOf : GoodIn wsX1_turn (va_wsS RX1 83 yX0_firstRoomOf wsX0_firstRoomOf) := goodIn_app (goodIn_of _ (by decide +kernel)) ggX1_turn_X0_firstRoomOf
set_option maxRecDepth 20000 in
theorem ggX1_turn_X0_sizeOf : GoodIn wsX1_turn wsX0_sizeOf := goodIn_r _ [33] (by decide +kernel) (by decide +kernel)
set_option maxRecDepth 20000 in
theorem gX1_turn_X0_sizeOf : GoodIn wsX1_turn (va_wsS RX1 86 yX0_sizeOf wsX0_sizeOf) := goodIn_app (goodIn_of _ (by decide +kernel)) ggX1_turn_X0_sizeOf
set_option maxRecDepth 20000 in
theorem ggX1_turn_X1_relight : GoodIn wsX1_turn wsX1_relight := goodIn_r _ [37, 2, 38, 39, 40, 41, 10, 42, 43, 44, 45, 46, 47, 48, 49, 50, 51, 52, 53, 54, 55, 56, 57, 58, 59, 60, 61, 62, 63, 64, 65, 29, 66, 67, 68, 69, 70, 71, 72, 73, 74, 75, 76, 77, 78, 79, 80, 81, 82, 83, 84, 85, 86, 87, 88, 89, 90, 91, 92, 93] (by decide +kernel) (by decide +kernel)
set_option maxRecDepth 20000 in
theorem gX1_turn_X1_relight : GoodIn wsX1_turn (wsV RX1 61 RX1 yX1_relight wsX1_relight) := goodIn_app (goodIn_of _ (by decide +kernel)) ggX1_turn_X1_relight
theorem dX1_turn_0 : decode cX1_turn 0 = .ok (.aload_n 0, 1) := by decide +kernel
theorem dX1_turn_1 : decode cX1_turn 1 = .ok (.iload_n 1, 1) := by decide +kernel
theorem dX1_turn_2 : decode cX1_turn 2 = .ok (.invokevirtual 76, 3) := by decide +kernel
theorem dX1_turn_5 : decode cX1_turn 5 = .ok (.iload_n 2, 1) := by decide +kernel
theorem dX1_turn_6 : decode cX1_turn 6 = .ok (.iconst 0, 1) := by decide +kernel
theorem dX1_turn_7 : decode cX1_turn 7 = .ok (.bipush 29, 2) := by decide +kernel
theorem dX1_turn_9 : decode cX1_turn 9 = .ok (.invokestatic 46, 3) := by decide +kernel
theorem dX1_turn_12 : decode cX1_turn 12 = .ok (.aload_n 0, 1) := by decide +kernel
theorem dX1_turn_13 : decode cX1_turn 13 = .ok (.iload_n 1, 1) := by decide +kernel
theorem dX1_turn_14 : decode cX1_turn 14 = .ok (.iload_n 2, 1) := by decide +kernel
theorem dX1_turn_15 : decode cX1_turn 15 = .ok (.aload_n 0, 1) := by decide +kernel
theorem dX1_turn_16 : decode cX1_turn 16 = .ok (.getfield 27, 3) := by decide +kernel
theorem dX1_turn_19 : decode cX1_turn 19 = .ok (.invokevirtual 79, 3) := by decide +kernel
theorem dX1_turn_22 : decode cX1_turn 22 = .ok (.iload_n 1, 1) := by decide +kernel
theorem dX1_turn_23 : decode cX1_turn 23 = .ok (.invokestatic 83, 3) := by decide +kernel
theorem dX1_turn_26 : decode cX1_turn 26 = .ok (.istore_n 3, 1) := by decide +kernel
theorem dX1_turn_27 : decode cX1_turn 27 = .ok (.aload_n 0, 1) := by decide +kernel
theorem dX1_turn_28 : decode cX1_turn 28 = .ok (.getfield 27, 3) := by decide +kernel
theorem dX1_turn_31 : decode cX1_turn 31 = .ok (.iload_n 3, 1) := by decide +kernel
theorem dX1_turn_32 : decode cX1_turn 32 = .ok (.aload_n 0, 1) := by decide +kernel
theorem dX1_turn_33 : decode cX1_turn 33 = .ok (.getfield 16, 3) := by decide +kernel
theorem dX1_turn_36 : decode cX1_turn 36 = .ok (.iload_n 3, 1) := by decide +kernel
theorem dX1_turn_37 : decode cX1_turn 37 = .ok (.iload_n 1, 1) := by decide +kernel
theorem dX1_turn_38 : decode cX1_turn 38 = .ok (.invokestatic 86, 3) := by decide +kernel
theorem dX1_turn_41 : decode cX1_turn 41 = .ok (.invokestatic 89, 3) := by decide +kernel
theorem dX1_turn_44 : decode cX1_turn 44 = .ok (.aload_n 0, 1) := by decide +kernel
theorem dX1_turn_45 : decode cX1_turn 45 = .ok (.invokevirtual 61, 3) := by decide +kernel
theorem dX1_turn_48 : decode cX1_turn 48 = .ok (.ireturn, 1) := by decide +kernel
set_option maxRecDepth 20000 in
theorem ggX1_turnAll_X1_needNumber : GoodIn wsX1_turnAll wsX1_needNumber := goodIn_ca (goodIn_r _ [11, 12, 13] (by decide +kernel) (by decide +kernel)) (goodIn_sub (fun _ h => List.mem_cons_of_mem _ (List.mem_append_right _ h)) (by decide +kernel))
set_option maxRecDepth 20000 in
theorem gX1_turnAll_X1_needNumber : GoodIn wsX1_turnAll (va_wsS RX1 46 yX1_needNumber wsX1_needNumber) := goodIn_app (goodIn_of _ (by decide +kernel)) ggX1_turnAll_X1_needNumber
set_option maxRecDepth 20000 in
theorem ggX1_turnAll_X1_turnAllInto : GoodIn wsX1_turnAll wsX1_turnAllInto := goodIn_r _ [17, 18, 19, 20, 21, 10, 22, 2, 23, 24, 25, 26, 27, 28, 29, 73, 74, 75, 76, 77, 78, 79, 80, 81, 82, 83] (by decide +kernel) (by decide +kernel)
set_option maxRecDepth 20000 in
theorem gX1_turnAll_X1_turnAllInto : GoodIn wsX1_turnAll (wsV RX1 95 RX1 yX1_turnAllInto wsX1_turnAllInto) := goodIn_app (goodIn_of _ (by decide +kernel)) ggX1_turnAll_X1_turnAllInto
set_option maxRecDepth 20000 in
theorem ggX1_turnAll_X1_relight : GoodIn wsX1_turnAll wsX1_relight := goodIn_r _ [33, 2, 34, 35, 36, 37, 10, 38, 3, 39, 40, 41, 42, 43, 44, 45, 46, 47, 48, 49, 50, 51, 52, 53, 54, 55, 56, 57, 58, 59, 60, 25, 61, 62, 63, 64, 65, 66, 67, 68, 69, 70, 71, 72, 73, 74, 75, 76, 77, 78, 79, 80, 81, 82, 83, 84, 85, 86, 87, 88] (by decide +kernel) (by decide +kernel)
set_option maxRecDepth 20000 in
theorem gX1_turnAll_X1_relight : GoodIn wsX1_turnAll (wsV RX1 61 RX1 yX1_relight wsX1_relight) := goodIn_app (goodIn_of _ (by decide +kernel)) ggX1_turnAll_X1_relight
theorem dX1_turnAll_0 : decode cX1_turnAll 0 = .ok (.iload_n 1, 1) := by decide +kernel
theorem dX1_turnAll_1 : decode cX1_turnAll 1 = .ok (.iconst 0, 1) := by decide +kernel
theorem dX1_turnAll_2 : decode cX1_turnAll 2 = .ok (.iconst 5, 1) := by decide +kernel
theorem dX1_turnAll_3 : decode cX1_turnAll 3 = .ok (.invokestatic 46, 3) := by decide +kernel
theorem dX1_turnAll_6 : decode cX1_turnAll 6 = .ok (.aload_n 0, 1) := by decide +kernel
theorem dX1_turnAll_7 : decode cX1_turnAll 7 = .ok (.iload_n 1, 1) := by decide +kernel
theorem dX1_turnAll_8 : decode cX1_turnAll 8 = .ok (.aload_n 0, 1) := by decide +kernel
theorem dX1_turnAll_9 : decode cX1_turnAll 9 = .ok (.getfield 27, 3) := by decide +kernel
theorem dX1_turnAll_12 : decode cX1_turnAll 12 = .ok (.invokevirtual 95, 3) := by decide +kernel
theorem dX1_turnAll_15 : decode cX1_turnAll 15 = .ok (.aload_n 0, 1) := by decide +kernel
theorem dX1_turnAll_16 : decode cX1_turnAll 16 = .ok (.getfield 27, 3) := by decide +kernel
theorem dX1_turnAll_19 : decode cX1_turnAll 19 = .ok (.iconst 0, 1) := by decide +kernel
theorem dX1_turnAll_20 : decode cX1_turnAll 20 = .ok (.aload_n 0, 1) := by decide +kernel
theorem dX1_turnAll_21 : decode cX1_turnAll 21 = .ok (.getfield 16, 3) := by decide +kernel
theorem dX1_turnAll_24 : decode cX1_turnAll 24 = .ok (.iconst 0, 1) := by decide +kernel
theorem dX1_turnAll_25 : decode cX1_turnAll 25 = .ok (.aload_n 0, 1) := by decide +kernel
theorem dX1_turnAll_26 : decode cX1_turnAll 26 = .ok (.getfield 50, 3) := by decide +kernel
theorem dX1_turnAll_29 : decode cX1_turnAll 29 = .ok (.invokestatic 89, 3) := by decide +kernel
theorem dX1_turnAll_32 : decode cX1_turnAll 32 = .ok (.aload_n 0, 1) := by decide +kernel
theorem dX1_turnAll_33 : decode cX1_turnAll 33 = .ok (.invokevirtual 61, 3) := by decide +kernel
theorem dX1_turnAll_36 : decode cX1_turnAll 36 = .ok (.ireturn, 1) := by decide +kernel
set_option maxRecDepth 20000 in
theorem ggX1_at_X0_roomAt : GoodIn wsX1_at wsX0_roomAt := goodIn_r _ [6, 7, 8, 9, 5, 10, 11, 12, 13, 31, 32, 33, 34, 35] (by decide +kernel) (by decide +kernel)
set_option maxRecDepth 20000 in
theorem gX1_at_X0_roomAt : GoodIn wsX1_at (wsV RX1 99 RX0 yX0_roomAt wsX0_roomAt) := goodIn_app (goodIn_of _ (by decide +kernel)) ggX1_at_X0_roomAt
set_option maxRecDepth 20000 in
theorem ggX1_at_X1_orNone : GoodIn wsX1_at wsX1_orNone := goodIn_r _ [18, 19, 20, 21, 22, 23, 24, 25, 26, 27, 28, 29, 30] (by decide +kernel) (by decide +kernel)
set_option maxRecDepth 20000 in
theorem gX1_at_X1_orNone : GoodIn wsX1_at (wsV RX1 102 RX1 yX1_orNone wsX1_orNone) := goodIn_app (goodIn_of _ (by decide +kernel)) ggX1_at_X1_orNone
theorem dX1_at_0 : decode cX1_at 0 = .ok (.aload_n 0, 1) := by decide +kernel
theorem dX1_at_1 : decode cX1_at 1 = .ok (.aload_n 0, 1) := by decide +kernel
theorem dX1_at_2 : decode cX1_at 2 = .ok (.getfield 12, 3) := by decide +kernel
theorem dX1_at_5 : decode cX1_at 5 = .ok (.iload_n 1, 1) := by decide +kernel
theorem dX1_at_6 : decode cX1_at 6 = .ok (.iload_n 2, 1) := by decide +kernel
theorem dX1_at_7 : decode cX1_at 7 = .ok (.invokevirtual 99, 3) := by decide +kernel
theorem dX1_at_10 : decode cX1_at 10 = .ok (.invokevirtual 102, 3) := by decide +kernel
theorem dX1_at_13 : decode cX1_at 13 = .ok (.ireturn, 1) := by decide +kernel
set_option maxRecDepth 20000 in
theorem ggX1_about_X1_needRoom : GoodIn wsX1_about wsX1_needRoom := goodIn_ca (goodIn_r _ [8, 9, 10, 11, 7, 12, 13, 14, 56, 57, 58, 59, 60, 61, 62, 63, 64, 65, 66] (by decide +kernel) (by decide +kernel)) (goodIn_sub (fun _ h => List.mem_cons_of_mem _ (List.mem_append_right _ h)) (by decide +kernel))
set_option maxRecDepth 20000 in
theorem gX1_about_X1_needRoom : GoodIn wsX1_about (wsV RX1 54 RX1 yX1_needRoom wsX1_needRoom) := goodIn_app (goodIn_of _ (by decide +kernel)) ggX1_about_X1_needRoom
set_option maxRecDepth 20000 in
theorem ggX1_about_X1_needIndex : GoodIn wsX1_about wsX1_needIndex := goodIn_ca (goodIn_r _ [12, 13, 14] (by decide +kernel) (by decide +kernel)) (goodIn_sub (fun _ h => List.mem_cons_of_mem _ (List.mem_append_right _ h)) (by decide +kernel))
set_option maxRecDepth 20000 in
theorem gX1_about_X1_needIndex : GoodIn wsX1_about (va_wsS RX1 57 yX1_needIndex wsX1_needIndex) := goodIn_app (goodIn_of _ (by decide +kernel)) ggX1_about_X1_needIndex
set_option maxRecDepth 20000 in
theorem ggX1_about_X0_acrossOf : GoodIn wsX1_about wsX0_acrossOf := goodIn_r _ [19, 20, 67, 68, 69, 70, 71] (by decide +kernel) (by decide +kernel)
set_option maxRecDepth 20000 in
theorem gX1_about_X0_acrossOf : GoodIn wsX1_about (wsV RX1 105 RX0 yX0_acrossOf wsX0_acrossOf) := goodIn_app (goodIn_of _ (by decide +kernel)) ggX1_about_X0_acrossOf
set_option maxRecDepth 20000 in
theorem ggX1_about_X0_downOf : GoodIn wsX1_about wsX0_downOf := goodIn_r _ [24, 25, 67, 68, 69, 70, 71] (by decide +kernel) (by decide +kernel)
set_option maxRecDepth 20000 in
theorem gX1_about_X0_downOf : GoodIn wsX1_about (wsV RX1 108 RX0 yX0_downOf wsX0_downOf) := goodIn_app (goodIn_of _ (by decide +kernel)) ggX1_about_X0_downOf
set_option maxRecDepth 20000 in
theorem ggX1_about_X0_ringOf : GoodIn wsX1_about wsX0_ringOf := goodIn_r _ [29, 30, 67, 68, 69, 70, 71] (by decide +kernel) (by decide +kernel)
set_option maxRecDepth 20000 in
theorem gX1_about_X0_ringOf : GoodIn wsX1_about (wsV RX1 111 RX0 yX0_ringOf wsX0_ringOf) := goodIn_app (goodIn_of _ (by decide +kernel)) ggX1_about_X0_ringOf
set_option maxRecDepth 20000 in
theorem ggX1_about_X1_sidesOnward : GoodIn wsX1_about wsX1_sidesOnward := goodIn_r _ [34, 2, 35, 36, 37, 7, 38, 39, 40, 41, 42, 43, 1, 44, 45, 46, 18, 47, 48, 49, 50, 51, 52, 53, 54, 9, 55, 56, 57, 58, 59, 60, 61, 62, 63, 64, 65, 66, 67, 68, 69, 70, 71] (by decide +kernel) (by decide +kernel)
set_option maxRecDepth 20000 in
theorem gX1_about_X1_sidesOnward : GoodIn wsX1_about (wsV RX1 114 RX1 yX1_sidesOnward wsX1_sidesOnward) := goodIn_app (goodIn_of _ (by decide +kernel)) ggX1_about_X1_sidesOnward
theorem dX1_about_0 : decode cX1_about 0 = .ok (.aload_n 0, 1) := by decide +kernel
theorem dX1_about_1 : decode cX1_about 1 = .ok (.iload_n 1, 1) := by decide +kernel
theorem dX1_about_2 : decode cX1_about 2 = .ok (.invokevirtual 54, 3) := by decide +kernel
theorem dX1_about_5 : decode cX1_about 5 = .ok (.iload_n 2, 1) := by decide +kernel
theorem dX1_about_6 : decode cX1_about 6 = .ok (.bipush 6, 2) := by decide +kernel
theorem dX1_about_8 : decode cX1_about 8 = .ok (.invokestatic 57, 3) := by decide +kernel
theorem dX1_about_11 : decode cX1_about 11 = .ok (.iload_n 2, 1) := by decide +kernel
theorem dX1_about_12 : decode cX1_about 12 = .ok (.tableswitch 77 0 4 #[36, 45, 54, 63, 70], 36) := by decide +kernel
theorem dX1_about_48 : decode cX1_about 48 = .ok (.aload_n 0, 1) := by decide +kernel
theorem dX1_about_49 : decode cX1_about 49 = .ok (.getfield 12, 3) := by decide +kernel
theorem dX1_about_52 : decode cX1_about 52 = .ok (.iload_n 1, 1) := by decide +kernel
theorem dX1_about_53 : decode cX1_about 53 = .ok (.invokevirtual 105, 3) := by decide +kernel
theorem dX1_about_56 : decode cX1_about 56 = .ok (.ireturn, 1) := by decide +kernel
theorem dX1_about_57 : decode cX1_about 57 = .ok (.aload_n 0, 1) := by decide +kernel
theorem dX1_about_58 : decode cX1_about 58 = .ok (.getfield 12, 3) := by decide +kernel
theorem dX1_about_61 : decode cX1_about 61 = .ok (.iload_n 1, 1) := by decide +kernel
theorem dX1_about_62 : decode cX1_about 62 = .ok (.invokevirtual 108, 3) := by decide +kernel
theorem dX1_about_65 : decode cX1_about 65 = .ok (.ireturn, 1) := by decide +kernel
theorem dX1_about_66 : decode cX1_about 66 = .ok (.aload_n 0, 1) := by decide +kernel
theorem dX1_about_67 : decode cX1_about 67 = .ok (.getfield 12, 3) := by decide +kernel
theorem dX1_about_70 : decode cX1_about 70 = .ok (.iload_n 1, 1) := by decide +kernel
theorem dX1_about_71 : decode cX1_about 71 = .ok (.invokevirtual 111, 3) := by decide +kernel
theorem dX1_about_74 : decode cX1_about 74 = .ok (.ireturn, 1) := by decide +kernel
theorem dX1_about_75 : decode cX1_about 75 = .ok (.aload_n 0, 1) := by decide +kernel
theorem dX1_about_76 : decode cX1_about 76 = .ok (.getfield 16, 3) := by decide +kernel
theorem dX1_about_79 : decode cX1_about 79 = .ok (.iload_n 1, 1) := by decide +kernel
theorem dX1_about_80 : decode cX1_about 80 = .ok (.iaload, 1) := by decide +kernel
theorem dX1_about_81 : decode cX1_about 81 = .ok (.ireturn, 1) := by decide +kernel
theorem dX1_about_82 : decode cX1_about 82 = .ok (.aload_n 0, 1) := by decide +kernel
theorem dX1_about_83 : decode cX1_about 83 = .ok (.getfield 24, 3) := by decide +kernel
theorem dX1_about_86 : decode cX1_about 86 = .ok (.iload_n 1, 1) := by decide +kernel
theorem dX1_about_87 : decode cX1_about 87 = .ok (.iaload, 1) := by decide +kernel
theorem dX1_about_88 : decode cX1_about 88 = .ok (.ireturn, 1) := by decide +kernel
theorem dX1_about_89 : decode cX1_about 89 = .ok (.aload_n 0, 1) := by decide +kernel
theorem dX1_about_90 : decode cX1_about 90 = .ok (.iload_n 1, 1) := by decide +kernel
theorem dX1_about_91 : decode cX1_about 91 = .ok (.invokevirtual 114, 3) := by decide +kernel
theorem dX1_about_94 : decode cX1_about 94 = .ok (.ireturn, 1) := by decide +kernel
set_option maxRecDepth 20000 in
theorem ggX1_beside_X1_needRoom : GoodIn wsX1_beside wsX1_needRoom := goodIn_ca (goodIn_r _ [5, 6, 7, 8, 4, 9, 10, 11, 29, 30, 31, 32, 33, 34, 35, 36, 37, 38, 39] (by decide +kernel) (by decide +kernel)) (goodIn_sub (fun _ h => List.mem_cons_of_mem _ (List.mem_append_right _ h)) (by decide +kernel))
set_option maxRecDepth 20000 in
theorem gX1_beside_X1_needRoom : GoodIn wsX1_beside (wsV RX1 54 RX1 yX1_needRoom wsX1_needRoom) := goodIn_app (goodIn_of _ (by decide +kernel)) ggX1_beside_X1_needRoom
set_option maxRecDepth 20000 in
theorem ggX1_beside_X1_needIndex : GoodIn wsX1_beside wsX1_needIndex := goodIn_ca (goodIn_r _ [9, 10, 11] (by decide +kernel) (by decide +kernel)) (goodIn_sub (fun _ h => List.mem_cons_of_mem _ (List.mem_append_right _ h)) (by decide +kernel))
set_option maxRecDepth 20000 in
theorem gX1_beside_X1_needIndex : GoodIn wsX1_beside (va_wsS RX1 57 yX1_needIndex wsX1_needIndex) := goodIn_app (goodIn_of _ (by decide +kernel)) ggX1_beside_X1_needIndex
set_option maxRecDepth 20000 in
theorem ggX1_beside_X1_neighbour : GoodIn wsX1_beside wsX1_neighbour := goodIn_r _ [15, 16, 17, 18, 19, 20, 21, 22, 23, 4, 24, 25, 26, 27, 28, 6, 29, 30, 31, 32, 33, 34, 35, 36, 37, 38, 39, 40, 41, 42, 43, 44] (by decide +kernel) (by decide +kernel)
set_option maxRecDepth 20000 in
theorem gX1_beside_X1_neighbour : GoodIn wsX1_beside (wsV RX1 117 RX1 yX1_neighbour wsX1_neighbour) := goodIn_app (goodIn_of _ (by decide +kernel)) ggX1_beside_X1_neighbour
theorem dX1_beside_0 : decode cX1_beside 0 = .ok (.aload_n 0, 1) := by decide +kernel
theorem dX1_beside_1 : decode cX1_beside 1 = .ok (.iload_n 1, 1) := by decide +kernel
theorem dX1_beside_2 : decode cX1_beside 2 = .ok (.invokevirtual 54, 3) := by decide +kernel
theorem dX1_beside_5 : decode cX1_beside 5 = .ok (.iload_n 2, 1) := by decide +kernel
theorem dX1_beside_6 : decode cX1_beside 6 = .ok (.bipush 6, 2) := by decide +kernel
theorem dX1_beside_8 : decode cX1_beside 8 = .ok (.invokestatic 57, 3) := by decide +kernel
theorem dX1_beside_11 : decode cX1_beside 11 = .ok (.aload_n 0, 1) := by decide +kernel
theorem dX1_beside_12 : decode cX1_beside 12 = .ok (.iload_n 1, 1) := by decide +kernel
theorem dX1_beside_13 : decode cX1_beside 13 = .ok (.iload_n 2, 1) := by decide +kernel
theorem dX1_beside_14 : decode cX1_beside 14 = .ok (.invokevirtual 117, 3) := by decide +kernel
theorem dX1_beside_17 : decode cX1_beside 17 = .ok (.ireturn, 1) := by decide +kernel
set_option maxRecDepth 20000 in
theorem ggX1_isShut_X1_needDoor : GoodIn wsX1_isShut wsX1_needDoor := goodIn_ca (goodIn_ca (goodIn_r _ [6, 7, 8, 9, 10, 11, 5, 12, 13, 14, 15, 16, 17, 18, 19, 20, 21, 22, 23, 24, 25, 26, 27, 28, 29, 30, 31, 32, 33, 34, 35, 37, 38, 39, 40, 41, 42, 43, 44, 45, 46, 47, 48, 49, 50, 51, 52] (by decide +kernel) (by decide +kernel)) (goodIn_sub (fun _ h => List.mem_cons_of_mem _ (List.mem_append_left _ (List.mem_append_right _ h))) (by decide +kernel))) (goodIn_sub (fun _ h => List.mem_cons_of_mem _ (List.mem_append_right _ h)) (by decide +kernel))
set_option maxRecDepth 20000 in
theorem gX1_isShut_X1_needDoor : GoodIn wsX1_isShut (wsV RX1 65 RX1 yX1_needDoor wsX1_needDoor) := goodIn_app (goodIn_of _ (by decide +kernel)) ggX1_isShut_X1_needDoor
set_option maxRecDepth 20000 in
theorem ggX1_isShut_X1_doorOf : GoodIn wsX1_isShut wsX1_doorOf := goodIn_r _ [31] (by decide +kernel) (by decide +kernel)
set_option maxRecDepth 20000 in
theorem gX1_isShut_X1_doorOf : GoodIn wsX1_isShut (va_wsS RX1 69 yX1_doorOf wsX1_doorOf) := goodIn_app (goodIn_of _ (by decide +kernel)) ggX1_isShut_X1_doorOf
theorem dX1_isShut_0 : decode cX1_isShut 0 = .ok (.aload_n 0, 1) := by decide +kernel
theorem dX1_isShut_1 : decode cX1_isShut 1 = .ok (.iload_n 1, 1) := by decide +kernel
theorem dX1_isShut_2 : decode cX1_isShut 2 = .ok (.iload_n 2, 1) := by decide +kernel
theorem dX1_isShut_3 : decode cX1_isShut 3 = .ok (.invokevirtual 65, 3) := by decide +kernel
theorem dX1_isShut_6 : decode cX1_isShut 6 = .ok (.pop, 1) := by decide +kernel
theorem dX1_isShut_7 : decode cX1_isShut 7 = .ok (.aload_n 0, 1) := by decide +kernel
theorem dX1_isShut_8 : decode cX1_isShut 8 = .ok (.getfield 20, 3) := by decide +kernel
theorem dX1_isShut_11 : decode cX1_isShut 11 = .ok (.iload_n 1, 1) := by decide +kernel
theorem dX1_isShut_12 : decode cX1_isShut 12 = .ok (.iload_n 2, 1) := by decide +kernel
theorem dX1_isShut_13 : decode cX1_isShut 13 = .ok (.invokestatic 69, 3) := by decide +kernel
theorem dX1_isShut_16 : decode cX1_isShut 16 = .ok (.baload, 1) := by decide +kernel
theorem dX1_isShut_17 : decode cX1_isShut 17 = .ok (.ireturn, 1) := by decide +kernel
set_option maxRecDepth 20000 in
theorem ggX1_far_X1_needRoom : GoodIn wsX1_far wsX1_needRoom := goodIn_ca (goodIn_r _ [10, 11, 12, 13, 9, 14, 15, 16, 28, 29, 30, 31, 32, 33, 34, 35, 36, 37, 38] (by decide +kernel) (by decide +kernel)) (goodIn_sub (fun _ h => List.mem_cons_of_mem _ (List.mem_append_right _ h)) (by decide +kernel))
set_option maxRecDepth 20000 in
theorem gX1_far_X1_needRoom : GoodIn wsX1_far (wsV RX1 54 RX1 yX1_needRoom wsX1_needRoom) := goodIn_app (goodIn_of _ (by decide +kernel)) ggX1_far_X1_needRoom
set_option maxRecDepth 20000 in
theorem ggX1_far_X0_acrossOf : GoodIn wsX1_far wsX0_acrossOf := goodIn_r _ [21, 22, 39, 40, 41, 42, 43] (by decide +kernel) (by decide +kernel)
set_option maxRecDepth 20000 in
theorem gX1_far_X0_acrossOf : GoodIn wsX1_far (wsV RX1 105 RX0 yX0_acrossOf wsX0_acrossOf) := goodIn_app (goodIn_of _ (by decide +kernel)) ggX1_far_X0_acrossOf
set_option maxRecDepth 20000 in
theorem ggX1_far_X0_downOf : GoodIn wsX1_far wsX0_downOf := goodIn_r _ [26, 27, 39, 40, 41, 42, 43] (by decide +kernel) (by decide +kernel)
set_option maxRecDepth 20000 in
theorem gX1_far_X0_downOf : GoodIn wsX1_far (wsV RX1 108 RX0 yX0_downOf wsX0_downOf) := goodIn_app (goodIn_of _ (by decide +kernel)) ggX1_far_X0_downOf
theorem dX1_far_0 : decode cX1_far 0 = .ok (.aload_n 0, 1) := by decide +kernel
theorem dX1_far_1 : decode cX1_far 1 = .ok (.iload_n 1, 1) := by decide +kernel
theorem dX1_far_2 : decode cX1_far 2 = .ok (.invokevirtual 54, 3) := by decide +kernel
theorem dX1_far_5 : decode cX1_far 5 = .ok (.aload_n 0, 1) := by decide +kernel
theorem dX1_far_6 : decode cX1_far 6 = .ok (.iload_n 2, 1) := by decide +kernel
theorem dX1_far_7 : decode cX1_far 7 = .ok (.invokevirtual 54, 3) := by decide +kernel
theorem dX1_far_10 : decode cX1_far 10 = .ok (.aload_n 0, 1) := by decide +kernel
theorem dX1_far_11 : decode cX1_far 11 = .ok (.getfield 12, 3) := by decide +kernel
theorem dX1_far_14 : decode cX1_far 14 = .ok (.iload_n 1, 1) := by decide +kernel
theorem dX1_far_15 : decode cX1_far 15 = .ok (.invokevirtual 105, 3) := by decide +kernel
theorem dX1_far_18 : decode cX1_far 18 = .ok (.aload_n 0, 1) := by decide +kernel
theorem dX1_far_19 : decode cX1_far 19 = .ok (.getfield 12, 3) := by decide +kernel
theorem dX1_far_22 : decode cX1_far 22 = .ok (.iload_n 2, 1) := by decide +kernel
theorem dX1_far_23 : decode cX1_far 23 = .ok (.invokevirtual 105, 3) := by decide +kernel
theorem dX1_far_26 : decode cX1_far 26 = .ok (.isub, 1) := by decide +kernel
theorem dX1_far_27 : decode cX1_far 27 = .ok (.istore_n 3, 1) := by decide +kernel
theorem dX1_far_28 : decode cX1_far 28 = .ok (.aload_n 0, 1) := by decide +kernel
theorem dX1_far_29 : decode cX1_far 29 = .ok (.getfield 12, 3) := by decide +kernel
theorem dX1_far_32 : decode cX1_far 32 = .ok (.iload_n 1, 1) := by decide +kernel
theorem dX1_far_33 : decode cX1_far 33 = .ok (.invokevirtual 108, 3) := by decide +kernel
theorem dX1_far_36 : decode cX1_far 36 = .ok (.aload_n 0, 1) := by decide +kernel
theorem dX1_far_37 : decode cX1_far 37 = .ok (.getfield 12, 3) := by decide +kernel
theorem dX1_far_40 : decode cX1_far 40 = .ok (.iload_n 2, 1) := by decide +kernel
theorem dX1_far_41 : decode cX1_far 41 = .ok (.invokevirtual 108, 3) := by decide +kernel
theorem dX1_far_44 : decode cX1_far 44 = .ok (.isub, 1) := by decide +kernel
theorem dX1_far_45 : decode cX1_far 45 = .ok (.istore 4, 2) := by decide +kernel
theorem dX1_far_47 : decode cX1_far 47 = .ok (.iload_n 3, 1) := by decide +kernel
theorem dX1_far_48 : decode cX1_far 48 = .ok (.invokestatic 120, 3) := by decide +kernel
theorem dX1_far_51 : decode cX1_far 51 = .ok (.iload 4, 2) := by decide +kernel
theorem dX1_far_53 : decode cX1_far 53 = .ok (.invokestatic 120, 3) := by decide +kernel
theorem dX1_far_56 : decode cX1_far 56 = .ok (.iadd, 1) := by decide +kernel
theorem dX1_far_57 : decode cX1_far 57 = .ok (.iload_n 3, 1) := by decide +kernel
theorem dX1_far_58 : decode cX1_far 58 = .ok (.iload 4, 2) := by decide +kernel
theorem dX1_far_60 : decode cX1_far 60 = .ok (.iadd, 1) := by decide +kernel
theorem dX1_far_61 : decode cX1_far 61 = .ok (.invokestatic 120, 3) := by decide +kernel
theorem dX1_far_64 : decode cX1_far 64 = .ok (.iadd, 1) := by decide +kernel
theorem dX1_far_65 : decode cX1_far 65 = .ok (.iconst 2, 1) := by decide +kernel
theorem dX1_far_66 : decode cX1_far 66 = .ok (.idiv, 1) := by decide +kernel
theorem dX1_far_67 : decode cX1_far 67 = .ok (.ireturn, 1) := by decide +kernel
set_option maxRecDepth 20000 in
theorem ggX1_sees_X1_needRoom : GoodIn wsX1_sees wsX1_needRoom := goodIn_ca (goodIn_r _ [7, 8, 9, 10, 6, 11, 12, 13, 41, 42, 43, 44, 45, 46, 47, 48, 49, 50, 51] (by decide +kernel) (by decide +kernel)) (goodIn_sub (fun _ h => List.mem_cons_of_mem _ (List.mem_append_right _ h)) (by decide +kernel))
set_option maxRecDepth 20000 in
theorem gX1_sees_X1_needRoom : GoodIn wsX1_sees (wsV RX1 54 RX1 yX1_needRoom wsX1_needRoom) := goodIn_app (goodIn_of _ (by decide +kernel)) ggX1_sees_X1_needRoom
set_option maxRecDepth 20000 in
theorem ggX1_sees_X1_beamFrom : GoodIn wsX1_sees wsX1_beamFrom := goodIn_r _ [17, 2, 18, 19, 20, 6, 21, 22, 23, 24, 25, 26, 27, 28, 29, 30, 31, 32, 33, 34, 35, 36, 37, 38, 39, 8, 40, 41, 42, 43, 44, 45, 46, 47, 48, 49, 50, 51, 52, 53, 54, 55, 56] (by decide +kernel) (by decide +kernel)
set_option maxRecDepth 20000 in
theorem gX1_sees_X1_beamFrom : GoodIn wsX1_sees (wsV RX1 125 RX1 yX1_beamFrom wsX1_beamFrom) := goodIn_app (goodIn_of _ (by decide +kernel)) ggX1_sees_X1_beamFrom
theorem dX1_sees_0 : decode cX1_sees 0 = .ok (.aload_n 0, 1) := by decide +kernel
theorem dX1_sees_1 : decode cX1_sees 1 = .ok (.iload_n 1, 1) := by decide +kernel
theorem dX1_sees_2 : decode cX1_sees 2 = .ok (.invokevirtual 54, 3) := by decide +kernel
theorem dX1_sees_5 : decode cX1_sees 5 = .ok (.aload_n 0, 1) := by decide +kernel
theorem dX1_sees_6 : decode cX1_sees 6 = .ok (.iload_n 2, 1) := by decide +kernel
theorem dX1_sees_7 : decode cX1_sees 7 = .ok (.invokevirtual 54, 3) := by decide +kernel
theorem dX1_sees_10 : decode cX1_sees 10 = .ok (.aload_n 0, 1) := by decide +kernel
theorem dX1_sees_11 : decode cX1_sees 11 = .ok (.aload_n 0, 1) := by decide +kernel
theorem dX1_sees_12 : decode cX1_sees 12 = .ok (.getfield 16, 3) := by decide +kernel
theorem dX1_sees_15 : decode cX1_sees 15 = .ok (.iload_n 1, 1) := by decide +kernel
theorem dX1_sees_16 : decode cX1_sees 16 = .ok (.invokevirtual 125, 3) := by decide +kernel
theorem dX1_sees_19 : decode cX1_sees 19 = .ok (.istore_n 3, 1) := by decide +kernel
theorem dX1_sees_20 : decode cX1_sees 20 = .ok (.iconst 0, 1) := by decide +kernel
theorem dX1_sees_21 : decode cX1_sees 21 = .ok (.istore 4, 2) := by decide +kernel
theorem dX1_sees_23 : decode cX1_sees 23 = .ok (.iload 4, 2) := by decide +kernel
theorem dX1_sees_25 : decode cX1_sees 25 = .ok (.iload_n 3, 1) := by decide +kernel
theorem dX1_sees_26 : decode cX1_sees 26 = .ok (.if_icmp .ge 22, 3) := by decide +kernel
theorem dX1_sees_29 : decode cX1_sees 29 = .ok (.aload_n 0, 1) := by decide +kernel
theorem dX1_sees_30 : decode cX1_sees 30 = .ok (.getfield 33, 3) := by decide +kernel
theorem dX1_sees_33 : decode cX1_sees 33 = .ok (.iload 4, 2) := by decide +kernel
theorem dX1_sees_35 : decode cX1_sees 35 = .ok (.iaload, 1) := by decide +kernel
theorem dX1_sees_36 : decode cX1_sees 36 = .ok (.iload_n 2, 1) := by decide +kernel
theorem dX1_sees_37 : decode cX1_sees 37 = .ok (.if_icmp .ne 5, 3) := by decide +kernel
theorem dX1_sees_40 : decode cX1_sees 40 = .ok (.iconst 1, 1) := by decide +kernel
theorem dX1_sees_41 : decode cX1_sees 41 = .ok (.ireturn, 1) := by decide +kernel
theorem dX1_sees_42 : decode cX1_sees 42 = .ok (.iinc 4 1, 3) := by decide +kernel
theorem dX1_sees_45 : decode cX1_sees 45 = .ok (.goto (-22), 3) := by decide +kernel
theorem dX1_sees_48 : decode cX1_sees 48 = .ok (.iconst 0, 1) := by decide +kernel
theorem dX1_sees_49 : decode cX1_sees 49 = .ok (.ireturn, 1) := by decide +kernel
set_option maxRecDepth 20000 in
theorem ggX1_way_X1_needRoom : GoodIn wsX1_way wsX1_needRoom := goodIn_ca (goodIn_r _ [5, 6, 7, 8, 4, 9, 10, 11, 54, 55, 56, 57, 58, 59, 60, 61, 62, 63, 64] (by decide +kernel) (by decide +kernel)) (goodIn_sub (fun _ h => List.mem_cons_of_mem _ (List.mem_append_right _ h)) (by decide +kernel))
set_option maxRecDepth 20000 in
theorem gX1_way_X1_needRoom : GoodIn wsX1_way (wsV RX1 54 RX1 yX1_needRoom wsX1_needRoom) := goodIn_app (goodIn_of _ (by decide +kernel)) ggX1_way_X1_needRoom
set_option maxRecDepth 20000 in
theorem ggX1_way_X1_stepsBetween : GoodIn wsX1_way wsX1_stepsBetween := goodIn_r _ [15, 16, 17, 18, 19, 4, 20, 21, 22, 23, 24, 25, 26, 27, 28, 29, 30, 31, 32, 33, 34, 35, 36, 37, 38, 39, 40, 41, 42, 43, 44, 45, 46, 47, 48, 49, 50, 51, 52, 6, 53, 54, 55, 56, 57, 58, 59, 60, 61, 62, 63, 64, 65, 66, 67, 68, 69] (by decide +kernel) (by decide +kernel)
set_option maxRecDepth 20000 in
theorem gX1_way_X1_stepsBetween : GoodIn wsX1_way (wsV RX1 129 RX1 yX1_stepsBetween wsX1_stepsBetween) := goodIn_app (goodIn_of _ (by decide +kernel)) ggX1_way_X1_stepsBetween
theorem dX1_way_0 : decode cX1_way 0 = .ok (.aload_n 0, 1) := by decide +kernel
theorem dX1_way_1 : decode cX1_way 1 = .ok (.iload_n 1, 1) := by decide +kernel
theorem dX1_way_2 : decode cX1_way 2 = .ok (.invokevirtual 54, 3) := by decide +kernel
theorem dX1_way_5 : decode cX1_way 5 = .ok (.aload_n 0, 1) := by decide +kernel
theorem dX1_way_6 : decode cX1_way 6 = .ok (.iload_n 2, 1) := by decide +kernel
theorem dX1_way_7 : decode cX1_way 7 = .ok (.invokevirtual 54, 3) := by decide +kernel
theorem dX1_way_10 : decode cX1_way 10 = .ok (.aload_n 0, 1) := by decide +kernel
theorem dX1_way_11 : decode cX1_way 11 = .ok (.iload_n 1, 1) := by decide +kernel
theorem dX1_way_12 : decode cX1_way 12 = .ok (.iload_n 2, 1) := by decide +kernel
theorem dX1_way_13 : decode cX1_way 13 = .ok (.invokevirtual 129, 3) := by decide +kernel
theorem dX1_way_16 : decode cX1_way 16 = .ok (.ireturn, 1) := by decide +kernel
set_option maxRecDepth 20000 in
theorem ggX1_side_X1_needRoom : GoodIn wsX1_side wsX1_needRoom := goodIn_ca (goodIn_r _ [6, 7, 8, 9, 5, 10, 11, 12, 54, 55, 56, 57, 58, 59, 60, 61, 62, 63, 64] (by decide +kernel) (by decide +kernel)) (goodIn_sub (fun _ h => List.mem_cons_of_mem _ (List.mem_append_right _ h)) (by decide +kernel))
set_option maxRecDepth 20000 in
theorem gX1_side_X1_needRoom : GoodIn wsX1_side (wsV RX1 54 RX1 yX1_needRoom wsX1_needRoom) := goodIn_app (goodIn_of _ (by decide +kernel)) ggX1_side_X1_needRoom
set_option maxRecDepth 20000 in
theorem ggX1_side_X1_onward : GoodIn wsX1_side wsX1_onward := goodIn_r _ [16, 17, 18, 19, 20, 5, 21, 22, 23, 24, 25, 26, 27, 28, 29, 30, 31, 32, 33, 34, 7, 35, 54, 55, 56, 57, 58, 59, 60, 61, 62, 63, 64, 65, 66, 67, 68, 69] (by decide +kernel) (by decide +kernel)
set_option maxRecDepth 20000 in
theorem gX1_side_X1_onward : GoodIn wsX1_side (wsV RX1 132 RX1 yX1_onward wsX1_onward) := goodIn_app (goodIn_of _ (by decide +kernel)) ggX1_side_X1_onward
set_option maxRecDepth 20000 in
theorem ggX1_side_X1_stepsBetween : GoodIn wsX1_side wsX1_stepsBetween := goodIn_r _ [39, 40, 41, 42, 43, 5, 44, 45, 46, 47, 48, 49, 50, 51, 52, 53, 1, 13, 14, 15, 16, 17, 18, 19, 20, 21, 22, 23, 24, 25, 26, 27, 28, 29, 30, 31, 32, 33, 34, 7, 35, 54, 55, 56, 57, 58, 59, 60, 61, 62, 63, 64, 65, 66, 67, 68, 69] (by decide +kernel) (by decide +kernel)
set_option maxRecDepth 20000 in
theorem gX1_side_X1_stepsBetween : GoodIn wsX1_side (wsV RX1 129 RX1 yX1_stepsBetween wsX1_stepsBetween) := goodIn_app (goodIn_of _ (by decide +kernel)) ggX1_side_X1_stepsBetween
theorem dX1_side_0 : decode cX1_side 0 = .ok (.aload_n 0, 1) := by decide +kernel
theorem dX1_side_1 : decode cX1_side 1 = .ok (.iload_n 1, 1) := by decide +kernel
theorem dX1_side_2 : decode cX1_side 2 = .ok (.invokevirtual 54, 3) := by decide +kernel
theorem dX1_side_5 : decode cX1_side 5 = .ok (.aload_n 0, 1) := by decide +kernel
theorem dX1_side_6 : decode cX1_side 6 = .ok (.iload_n 2, 1) := by decide +kernel
theorem dX1_side_7 : decode cX1_side 7 = .ok (.invokevirtual 54, 3) := by decide +kernel
theorem dX1_side_10 : decode cX1_side 10 = .ok (.iload_n 1, 1) := by decide +kernel
theorem dX1_side_11 : decode cX1_side 11 = .ok (.iload_n 2, 1) := by decide +kernel
theorem dX1_side_12 : decode cX1_side 12 = .ok (.if_icmp .ne 5, 3) := by decide +kernel
theorem dX1_side_15 : decode cX1_side 15 = .ok (.iconst (-1), 1) := by decide +kernel
theorem dX1_side_16 : decode cX1_side 16 = .ok (.ireturn, 1) := by decide +kernel
theorem dX1_side_17 : decode cX1_side 17 = .ok (.iconst (-1), 1) := by decide +kernel
theorem dX1_side_18 : decode cX1_side 18 = .ok (.istore_n 3, 1) := by decide +kernel
theorem dX1_side_19 : decode cX1_side 19 = .ok (.bipush 91, 2) := by decide +kernel
theorem dX1_side_21 : decode cX1_side 21 = .ok (.istore 4, 2) := by decide +kernel
theorem dX1_side_23 : decode cX1_side 23 = .ok (.iconst 0, 1) := by decide +kernel
theorem dX1_side_24 : decode cX1_side 24 = .ok (.istore 5, 2) := by decide +kernel
theorem dX1_side_26 : decode cX1_side 26 = .ok (.iload 5, 2) := by decide +kernel
theorem dX1_side_28 : decode cX1_side 28 = .ok (.bipush 6, 2) := by decide +kernel
theorem dX1_side_30 : decode cX1_side 30 = .ok (.if_icmp .ge 61, 3) := by decide +kernel
theorem dX1_side_33 : decode cX1_side 33 = .ok (.aload_n 0, 1) := by decide +kernel
theorem dX1_side_34 : decode cX1_side 34 = .ok (.aload_n 0, 1) := by decide +kernel
theorem dX1_side_35 : decode cX1_side 35 = .ok (.getfield 16, 3) := by decide +kernel
theorem dX1_side_38 : decode cX1_side 38 = .ok (.iload_n 1, 1) := by decide +kernel
theorem dX1_side_39 : decode cX1_side 39 = .ok (.iload 5, 2) := by decide +kernel
theorem dX1_side_41 : decode cX1_side 41 = .ok (.invokevirtual 132, 3) := by decide +kernel
theorem dX1_side_44 : decode cX1_side 44 = .ok (.istore 6, 2) := by decide +kernel
theorem dX1_side_46 : decode cX1_side 46 = .ok (.iload 6, 2) := by decide +kernel
theorem dX1_side_48 : decode cX1_side 48 = .ok (.iconst (-1), 1) := by decide +kernel
theorem dX1_side_49 : decode cX1_side 49 = .ok (.if_icmp .ne 7, 3) := by decide +kernel
theorem dX1_side_52 : decode cX1_side 52 = .ok (.iconst (-1), 1) := by decide +kernel
theorem dX1_side_53 : decode cX1_side 53 = .ok (.goto 10, 3) := by decide +kernel
theorem dX1_side_56 : decode cX1_side 56 = .ok (.aload_n 0, 1) := by decide +kernel
theorem dX1_side_57 : decode cX1_side 57 = .ok (.iload 6, 2) := by decide +kernel
theorem dX1_side_59 : decode cX1_side 59 = .ok (.iload_n 2, 1) := by decide +kernel
theorem dX1_side_60 : decode cX1_side 60 = .ok (.invokevirtual 129, 3) := by decide +kernel
theorem dX1_side_63 : decode cX1_side 63 = .ok (.istore 7, 2) := by decide +kernel
theorem dX1_side_65 : decode cX1_side 65 = .ok (.iload 7, 2) := by decide +kernel
theorem dX1_side_67 : decode cX1_side 67 = .ok (.iconst (-1), 1) := by decide +kernel
theorem dX1_side_68 : decode cX1_side 68 = .ok (.if_icmp .eq 17, 3) := by decide +kernel
theorem dX1_side_71 : decode cX1_side 71 = .ok (.iload 7, 2) := by decide +kernel
theorem dX1_side_73 : decode cX1_side 73 = .ok (.iload 4, 2) := by decide +kernel
theorem dX1_side_75 : decode cX1_side 75 = .ok (.if_icmp .ge 10, 3) := by decide +kernel
theorem dX1_side_78 : decode cX1_side 78 = .ok (.iload 7, 2) := by decide +kernel
theorem dX1_side_80 : decode cX1_side 80 = .ok (.istore 4, 2) := by decide +kernel
theorem dX1_side_82 : decode cX1_side 82 = .ok (.iload 5, 2) := by decide +kernel
theorem dX1_side_84 : decode cX1_side 84 = .ok (.istore_n 3, 1) := by decide +kernel
theorem dX1_side_85 : decode cX1_side 85 = .ok (.iinc 5 1, 3) := by decide +kernel
theorem dX1_side_88 : decode cX1_side 88 = .ok (.goto (-62), 3) := by decide +kernel
theorem dX1_side_91 : decode cX1_side 91 = .ok (.iload_n 3, 1) := by decide +kernel
theorem dX1_side_92 : decode cX1_side 92 = .ok (.ireturn, 1) := by decide +kernel
set_option maxRecDepth 20000 in
theorem ggX1_reach_X1_needRoom : GoodIn wsX1_reach wsX1_needRoom := goodIn_ca (goodIn_r _ [7, 1, 8, 9, 6, 10, 11, 12, 55, 56, 57, 58, 59, 60, 61, 62, 63, 64, 65] (by decide +kernel) (by decide +kernel)) (goodIn_sub (fun _ h => List.mem_cons_of_mem _ (List.mem_append_left _ (List.mem_append_right _ h))) (by decide +kernel))
set_option maxRecDepth 20000 in
theorem gX1_reach_X1_needRoom : GoodIn wsX1_reach (wsV RX1 54 RX1 yX1_needRoom wsX1_needRoom) := goodIn_app (goodIn_of _ (by decide +kernel)) ggX1_reach_X1_needRoom
set_option maxRecDepth 20000 in
theorem ggX1_reach_X1_needNumber : GoodIn wsX1_reach wsX1_needNumber := goodIn_ca (goodIn_r _ [15, 16, 17] (by decide +kernel) (by decide +kernel)) (goodIn_sub (fun _ h => List.mem_cons_of_mem _ (List.mem_append_right _ h)) (by decide +kernel))
set_option maxRecDepth 20000 in
theorem gX1_reach_X1_needNumber : GoodIn wsX1_reach (va_wsS RX1 46 yX1_needNumber wsX1_needNumber) := goodIn_app (goodIn_of _ (by decide +kernel)) ggX1_reach_X1_needNumber
set_option maxRecDepth 20000 in
theorem ggX1_reach_X1_forgetSteps : GoodIn wsX1_reach wsX1_forgetSteps := goodIn_r _ [21, 2, 22, 23, 24, 25, 55, 56, 57, 58, 59, 60, 61, 62, 63, 64, 65] (by decide +kernel) (by decide +kernel)
set_option maxRecDepth 20000 in
theorem gX1_reach_X1_forgetSteps : GoodIn wsX1_reach (wsV RX1 136 RX1 yX1_forgetSteps wsX1_forgetSteps) := goodIn_app (goodIn_of _ (by decide +kernel)) ggX1_reach_X1_forgetSteps
set_option maxRecDepth 20000 in
theorem ggX1_reach_X1_spreadFrom : GoodIn wsX1_reach wsX1_spreadFrom := goodIn_r _ [29, 2, 30, 31, 32, 33, 34, 6, 35, 36, 37, 38, 39, 40, 41, 42, 43, 44, 45, 46, 47, 48, 49, 50, 51, 52, 53, 1, 54, 55, 56, 57, 58, 59, 60, 61, 62, 63, 64, 65, 66, 67, 68, 69, 70] (by decide +kernel) (by decide +kernel)
set_option maxRecDepth 20000 in
theorem gX1_reach_X1_spreadFrom : GoodIn wsX1_reach (wsV RX1 139 RX1 yX1_spreadFrom wsX1_spreadFrom) := goodIn_app (goodIn_of _ (by decide +kernel)) ggX1_reach_X1_spreadFrom
theorem dX1_reach_0 : decode cX1_reach 0 = .ok (.aload_n 0, 1) := by decide +kernel
theorem dX1_reach_1 : decode cX1_reach 1 = .ok (.iload_n 1, 1) := by decide +kernel
theorem dX1_reach_2 : decode cX1_reach 2 = .ok (.invokevirtual 54, 3) := by decide +kernel
theorem dX1_reach_5 : decode cX1_reach 5 = .ok (.iload_n 2, 1) := by decide +kernel
theorem dX1_reach_6 : decode cX1_reach 6 = .ok (.iconst 0, 1) := by decide +kernel
theorem dX1_reach_7 : decode cX1_reach 7 = .ok (.bipush 99, 2) := by decide +kernel
theorem dX1_reach_9 : decode cX1_reach 9 = .ok (.invokestatic 46, 3) := by decide +kernel
theorem dX1_reach_12 : decode cX1_reach 12 = .ok (.aload_n 0, 1) := by decide +kernel
theorem dX1_reach_13 : decode cX1_reach 13 = .ok (.invokevirtual 136, 3) := by decide +kernel
theorem dX1_reach_16 : decode cX1_reach 16 = .ok (.aload_n 0, 1) := by decide +kernel
theorem dX1_reach_17 : decode cX1_reach 17 = .ok (.iload_n 1, 1) := by decide +kernel
theorem dX1_reach_18 : decode cX1_reach 18 = .ok (.invokevirtual 139, 3) := by decide +kernel
theorem dX1_reach_21 : decode cX1_reach 21 = .ok (.iconst 0, 1) := by decide +kernel
theorem dX1_reach_22 : decode cX1_reach 22 = .ok (.istore_n 3, 1) := by decide +kernel
theorem dX1_reach_23 : decode cX1_reach 23 = .ok (.iconst 0, 1) := by decide +kernel
theorem dX1_reach_24 : decode cX1_reach 24 = .ok (.istore 4, 2) := by decide +kernel
theorem dX1_reach_26 : decode cX1_reach 26 = .ok (.iload 4, 2) := by decide +kernel
theorem dX1_reach_28 : decode cX1_reach 28 = .ok (.aload_n 0, 1) := by decide +kernel
theorem dX1_reach_29 : decode cX1_reach 29 = .ok (.getfield 50, 3) := by decide +kernel
theorem dX1_reach_32 : decode cX1_reach 32 = .ok (.if_icmp .ge 34, 3) := by decide +kernel
theorem dX1_reach_35 : decode cX1_reach 35 = .ok (.aload_n 0, 1) := by decide +kernel
theorem dX1_reach_36 : decode cX1_reach 36 = .ok (.getfield 36, 3) := by decide +kernel
theorem dX1_reach_39 : decode cX1_reach 39 = .ok (.iload 4, 2) := by decide +kernel
theorem dX1_reach_41 : decode cX1_reach 41 = .ok (.iaload, 1) := by decide +kernel
theorem dX1_reach_42 : decode cX1_reach 42 = .ok (.iconst (-1), 1) := by decide +kernel
theorem dX1_reach_43 : decode cX1_reach 43 = .ok (.if_icmp .eq 17, 3) := by decide +kernel
theorem dX1_reach_46 : decode cX1_reach 46 = .ok (.aload_n 0, 1) := by decide +kernel
theorem dX1_reach_47 : decode cX1_reach 47 = .ok (.getfield 36, 3) := by decide +kernel
theorem dX1_reach_50 : decode cX1_reach 50 = .ok (.iload 4, 2) := by decide +kernel
theorem dX1_reach_52 : decode cX1_reach 52 = .ok (.iaload, 1) := by decide +kernel
theorem dX1_reach_53 : decode cX1_reach 53 = .ok (.iload_n 2, 1) := by decide +kernel
theorem dX1_reach_54 : decode cX1_reach 54 = .ok (.if_icmp .gt 6, 3) := by decide +kernel
theorem dX1_reach_57 : decode cX1_reach 57 = .ok (.iinc 3 1, 3) := by decide +kernel
theorem dX1_reach_60 : decode cX1_reach 60 = .ok (.iinc 4 1, 3) := by decide +kernel
theorem dX1_reach_63 : decode cX1_reach 63 = .ok (.goto (-37), 3) := by decide +kernel
theorem dX1_reach_66 : decode cX1_reach 66 = .ok (.iload_n 3, 1) := by decide +kernel
theorem dX1_reach_67 : decode cX1_reach 67 = .ok (.ireturn, 1) := by decide +kernel
set_option maxRecDepth 20000 in
theorem ggX1_ring_X1_needRing : GoodIn wsX1_ring wsX1_needRing := goodIn_ca (goodIn_r _ [6, 7, 8, 9, 5, 10, 11, 12, 28, 29, 30, 31, 32, 33, 34, 35, 36, 37, 38] (by decide +kernel) (by decide +kernel)) (goodIn_sub (fun _ h => List.mem_cons_of_mem _ (List.mem_append_right _ h)) (by decide +kernel))
set_option maxRecDepth 20000 in
theorem gX1_ring_X1_needRing : GoodIn wsX1_ring (wsV RX1 76 RX1 yX1_needRing wsX1_needRing) := goodIn_app (goodIn_of _ (by decide +kernel)) ggX1_ring_X1_needRing
set_option maxRecDepth 20000 in
theorem ggX1_ring_X1_needIndex : GoodIn wsX1_ring wsX1_needIndex := goodIn_ca (goodIn_r _ [10, 11, 12] (by decide +kernel) (by decide +kernel)) (goodIn_sub (fun _ h => List.mem_cons_of_mem _ (List.mem_append_right _ h)) (by decide +kernel))
set_option maxRecDepth 20000 in
theorem gX1_ring_X1_needIndex : GoodIn wsX1_ring (va_wsS RX1 57 yX1_needIndex wsX1_needIndex) := goodIn_app (goodIn_of _ (by decide +kernel)) ggX1_ring_X1_needIndex
set_option maxRecDepth 20000 in
theorem ggX1_ring_X0_firstRoomOf : GoodIn wsX1_ring wsX0_firstRoomOf := goodIn_r _ [16] (by decide +kernel) (by decide +kernel)
set_option maxRecDepth 20000 in
theorem gX1_ring_X0_firstRoomOf : GoodIn wsX1_ring (va_wsS RX1 83 yX0_firstRoomOf wsX0_firstRoomOf) := goodIn_app (goodIn_of _ (by decide +kernel)) ggX1_ring_X0_firstRoomOf
set_option maxRecDepth 20000 in
theorem ggX1_ring_X0_sizeOf : GoodIn wsX1_ring wsX0_sizeOf := goodIn_r _ [19] (by decide +kernel) (by decide +kernel)
set_option maxRecDepth 20000 in
theorem gX1_ring_X0_sizeOf : GoodIn wsX1_ring (va_wsS RX1 86 yX0_sizeOf wsX0_sizeOf) := goodIn_app (goodIn_of _ (by decide +kernel)) ggX1_ring_X0_sizeOf
set_option maxRecDepth 20000 in
theorem ggX1_ring_X1_standing : GoodIn wsX1_ring wsX1_standing := goodIn_r _ [23, 24, 28, 29, 30, 31, 32, 33, 34, 35, 36, 37, 38] (by decide +kernel) (by decide +kernel)
set_option maxRecDepth 20000 in
theorem gX1_ring_X1_standing : GoodIn wsX1_ring (wsV RX1 142 RX1 yX1_standing wsX1_standing) := goodIn_app (goodIn_of _ (by decide +kernel)) ggX1_ring_X1_standing
set_option maxRecDepth 20000 in
theorem ggX1_ring_X1_litAmong : GoodIn wsX1_ring wsX1_litAmong := goodIn_r _ [27] (by decide +kernel) (by decide +kernel)
set_option maxRecDepth 20000 in
theorem gX1_ring_X1_litAmong : GoodIn wsX1_ring (va_wsS RX1 146 yX1_litAmong wsX1_litAmong) := goodIn_app (goodIn_of _ (by decide +kernel)) ggX1_ring_X1_litAmong
theorem dX1_ring_0 : decode cX1_ring 0 = .ok (.aload_n 0, 1) := by decide +kernel
theorem dX1_ring_1 : decode cX1_ring 1 = .ok (.iload_n 1, 1) := by decide +kernel
theorem dX1_ring_2 : decode cX1_ring 2 = .ok (.invokevirtual 76, 3) := by decide +kernel
theorem dX1_ring_5 : decode cX1_ring 5 = .ok (.iload_n 2, 1) := by decide +kernel
theorem dX1_ring_6 : decode cX1_ring 6 = .ok (.iconst 4, 1) := by decide +kernel
theorem dX1_ring_7 : decode cX1_ring 7 = .ok (.invokestatic 57, 3) := by decide +kernel
theorem dX1_ring_10 : decode cX1_ring 10 = .ok (.iload_n 1, 1) := by decide +kernel
theorem dX1_ring_11 : decode cX1_ring 11 = .ok (.invokestatic 83, 3) := by decide +kernel
theorem dX1_ring_14 : decode cX1_ring 14 = .ok (.istore_n 3, 1) := by decide +kernel
theorem dX1_ring_15 : decode cX1_ring 15 = .ok (.iload_n 3, 1) := by decide +kernel
theorem dX1_ring_16 : decode cX1_ring 16 = .ok (.iload_n 1, 1) := by decide +kernel
theorem dX1_ring_17 : decode cX1_ring 17 = .ok (.invokestatic 86, 3) := by decide +kernel
theorem dX1_ring_20 : decode cX1_ring 20 = .ok (.iadd, 1) := by decide +kernel
theorem dX1_ring_21 : decode cX1_ring 21 = .ok (.istore 4, 2) := by decide +kernel
theorem dX1_ring_23 : decode cX1_ring 23 = .ok (.iload_n 2, 1) := by decide +kernel
theorem dX1_ring_24 : decode cX1_ring 24 = .ok (.tableswitch 51 0 2 #[28, 33, 42], 28) := by decide +kernel
theorem dX1_ring_52 : decode cX1_ring 52 = .ok (.iload 4, 2) := by decide +kernel
theorem dX1_ring_54 : decode cX1_ring 54 = .ok (.iload_n 3, 1) := by decide +kernel
theorem dX1_ring_55 : decode cX1_ring 55 = .ok (.isub, 1) := by decide +kernel
theorem dX1_ring_56 : decode cX1_ring 56 = .ok (.ireturn, 1) := by decide +kernel
theorem dX1_ring_57 : decode cX1_ring 57 = .ok (.aload_n 0, 1) := by decide +kernel
theorem dX1_ring_58 : decode cX1_ring 58 = .ok (.iconst 1, 1) := by decide +kernel
theorem dX1_ring_59 : decode cX1_ring 59 = .ok (.iload_n 3, 1) := by decide +kernel
theorem dX1_ring_60 : decode cX1_ring 60 = .ok (.iload 4, 2) := by decide +kernel
theorem dX1_ring_62 : decode cX1_ring 62 = .ok (.invokevirtual 142, 3) := by decide +kernel
theorem dX1_ring_65 : decode cX1_ring 65 = .ok (.ireturn, 1) := by decide +kernel
theorem dX1_ring_66 : decode cX1_ring 66 = .ok (.aload_n 0, 1) := by decide +kernel
theorem dX1_ring_67 : decode cX1_ring 67 = .ok (.iconst 2, 1) := by decide +kernel
theorem dX1_ring_68 : decode cX1_ring 68 = .ok (.iload_n 3, 1) := by decide +kernel
theorem dX1_ring_69 : decode cX1_ring 69 = .ok (.iload 4, 2) := by decide +kernel
theorem dX1_ring_71 : decode cX1_ring 71 = .ok (.invokevirtual 142, 3) := by decide +kernel
theorem dX1_ring_74 : decode cX1_ring 74 = .ok (.ireturn, 1) := by decide +kernel
theorem dX1_ring_75 : decode cX1_ring 75 = .ok (.aload_n 0, 1) := by decide +kernel
theorem dX1_ring_76 : decode cX1_ring 76 = .ok (.getfield 24, 3) := by decide +kernel
theorem dX1_ring_79 : decode cX1_ring 79 = .ok (.iload_n 3, 1) := by decide +kernel
theorem dX1_ring_80 : decode cX1_ring 80 = .ok (.iload 4, 2) := by decide +kernel
theorem dX1_ring_82 : decode cX1_ring 82 = .ok (.invokestatic 146, 3) := by decide +kernel
theorem dX1_ring_85 : decode cX1_ring 85 = .ok (.ireturn, 1) := by decide +kernel
set_option maxRecDepth 20000 in
theorem ggX1_count_X1_needIndex : GoodIn wsX1_count wsX1_needIndex := goodIn_ca (goodIn_r _ [7, 8, 9] (by decide +kernel) (by decide +kernel)) (goodIn_sub (fun _ h => List.mem_cons_of_mem _ (List.mem_append_right _ h)) (by decide +kernel))
set_option maxRecDepth 20000 in
theorem gX1_count_X1_needIndex : GoodIn wsX1_count (va_wsS RX1 57 yX1_needIndex wsX1_needIndex) := goodIn_app (goodIn_of _ (by decide +kernel)) ggX1_count_X1_needIndex
set_option maxRecDepth 20000 in
theorem ggX1_count_X1_standing : GoodIn wsX1_count wsX1_standing := goodIn_r _ [13, 14, 63, 64, 65, 66, 67, 68, 69, 70, 71, 72, 73] (by decide +kernel) (by decide +kernel)
set_option maxRecDepth 20000 in
theorem gX1_count_X1_standing : GoodIn wsX1_count (wsV RX1 142 RX1 yX1_standing wsX1_standing) := goodIn_app (goodIn_of _ (by decide +kernel)) ggX1_count_X1_standing
set_option maxRecDepth 20000 in
theorem ggX1_count_X1_doorsShut : GoodIn wsX1_count wsX1_doorsShut := goodIn_r _ [18, 1, 19, 20, 21, 6, 22, 63, 64, 65, 66, 67, 68, 69, 70, 71, 72, 73] (by decide +kernel) (by decide +kernel)
set_option maxRecDepth 20000 in
theorem gX1_count_X1_doorsShut : GoodIn wsX1_count (wsV RX1 152 RX1 yX1_doorsShut wsX1_doorsShut) := goodIn_app (goodIn_of _ (by decide +kernel)) ggX1_count_X1_doorsShut
set_option maxRecDepth 20000 in
theorem ggX1_count_X1_litAmong : GoodIn wsX1_count wsX1_litAmong := goodIn_r _ [25] (by decide +kernel) (by decide +kernel)
set_option maxRecDepth 20000 in
theorem gX1_count_X1_litAmong : GoodIn wsX1_count (va_wsS RX1 146 yX1_litAmong wsX1_litAmong) := goodIn_app (goodIn_of _ (by decide +kernel)) ggX1_count_X1_litAmong
set_option maxRecDepth 20000 in
theorem ggX1_count_X1_parts : GoodIn wsX1_count wsX1_parts := goodIn_r _ [29, 1, 14, 30, 31, 32, 33, 6, 34, 35, 36, 37, 38, 39, 40, 41, 42, 43, 44, 45, 46, 47, 19, 48, 49, 50, 51, 52, 53, 54, 55, 56, 57, 58, 21, 22, 59, 60, 61, 62, 20, 63, 64, 65, 66, 67, 68, 69, 70, 71, 72, 73, 74, 75, 76, 77, 78] (by decide +kernel) (by decide +kernel)
set_option maxRecDepth 20000 in
theorem gX1_count_X1_parts : GoodIn wsX1_count (wsV RX1 155 RX1 yX1_parts wsX1_parts) := goodIn_app (goodIn_of _ (by decide +kernel)) ggX1_count_X1_parts
theorem dX1_count_0 : decode cX1_count 0 = .ok (.iload_n 1, 1) := by decide +kernel
theorem dX1_count_1 : decode cX1_count 1 = .ok (.bipush 7, 2) := by decide +kernel
theorem dX1_count_3 : decode cX1_count 3 = .ok (.invokestatic 57, 3) := by decide +kernel
theorem dX1_count_6 : decode cX1_count 6 = .ok (.iload_n 1, 1) := by decide +kernel
theorem dX1_count_7 : decode cX1_count 7 = .ok (.tableswitch 87 0 5 #[37, 42, 47, 58, 69, 74], 37) := by decide +kernel
theorem dX1_count_44 : decode cX1_count 44 = .ok (.aload_n 0, 1) := by decide +kernel
theorem dX1_count_45 : decode cX1_count 45 = .ok (.getfield 50, 3) := by decide +kernel
theorem dX1_count_48 : decode cX1_count 48 = .ok (.ireturn, 1) := by decide +kernel
theorem dX1_count_49 : decode cX1_count 49 = .ok (.aload_n 0, 1) := by decide +kernel
theorem dX1_count_50 : decode cX1_count 50 = .ok (.getfield 149, 3) := by decide +kernel
theorem dX1_count_53 : decode cX1_count 53 = .ok (.ireturn, 1) := by decide +kernel
theorem dX1_count_54 : decode cX1_count 54 = .ok (.aload_n 0, 1) := by decide +kernel
theorem dX1_count_55 : decode cX1_count 55 = .ok (.iconst 1, 1) := by decide +kernel
theorem dX1_count_56 : decode cX1_count 56 = .ok (.iconst 0, 1) := by decide +kernel
theorem dX1_count_57 : decode cX1_count 57 = .ok (.aload_n 0, 1) := by decide +kernel
theorem dX1_count_58 : decode cX1_count 58 = .ok (.getfield 50, 3) := by decide +kernel
theorem dX1_count_61 : decode cX1_count 61 = .ok (.invokevirtual 142, 3) := by decide +kernel
theorem dX1_count_64 : decode cX1_count 64 = .ok (.ireturn, 1) := by decide +kernel
theorem dX1_count_65 : decode cX1_count 65 = .ok (.aload_n 0, 1) := by decide +kernel
theorem dX1_count_66 : decode cX1_count 66 = .ok (.iconst 2, 1) := by decide +kernel
theorem dX1_count_67 : decode cX1_count 67 = .ok (.iconst 0, 1) := by decide +kernel
theorem dX1_count_68 : decode cX1_count 68 = .ok (.aload_n 0, 1) := by decide +kernel
theorem dX1_count_69 : decode cX1_count 69 = .ok (.getfield 50, 3) := by decide +kernel
theorem dX1_count_72 : decode cX1_count 72 = .ok (.invokevirtual 142, 3) := by decide +kernel
theorem dX1_count_75 : decode cX1_count 75 = .ok (.ireturn, 1) := by decide +kernel
theorem dX1_count_76 : decode cX1_count 76 = .ok (.aload_n 0, 1) := by decide +kernel
theorem dX1_count_77 : decode cX1_count 77 = .ok (.invokevirtual 152, 3) := by decide +kernel
theorem dX1_count_80 : decode cX1_count 80 = .ok (.ireturn, 1) := by decide +kernel
theorem dX1_count_81 : decode cX1_count 81 = .ok (.aload_n 0, 1) := by decide +kernel
theorem dX1_count_82 : decode cX1_count 82 = .ok (.getfield 24, 3) := by decide +kernel
theorem dX1_count_85 : decode cX1_count 85 = .ok (.iconst 0, 1) := by decide +kernel
theorem dX1_count_86 : decode cX1_count 86 = .ok (.aload_n 0, 1) := by decide +kernel
theorem dX1_count_87 : decode cX1_count 87 = .ok (.getfield 50, 3) := by decide +kernel
theorem dX1_count_90 : decode cX1_count 90 = .ok (.invokestatic 146, 3) := by decide +kernel
theorem dX1_count_93 : decode cX1_count 93 = .ok (.ireturn, 1) := by decide +kernel
theorem dX1_count_94 : decode cX1_count 94 = .ok (.aload_n 0, 1) := by decide +kernel
theorem dX1_count_95 : decode cX1_count 95 = .ok (.invokevirtual 155, 3) := by decide +kernel
theorem dX1_count_98 : decode cX1_count 98 = .ok (.ireturn, 1) := by decide +kernel
set_option maxRecDepth 20000 in
theorem ggX1_sixthsToSame_X1_turnAllInto : GoodIn wsX1_sixthsToSame wsX1_turnAllInto := goodIn_r _ [6, 7, 8, 9, 10, 5, 11, 12, 13, 14, 15, 16, 17, 18, 19, 25, 26, 27, 28, 29, 30, 31, 32, 33, 34, 35] (by decide +kernel) (by decide +kernel)
set_option maxRecDepth 20000 in
theorem gX1_sixthsToSame_X1_turnAllInto : GoodIn wsX1_sixthsToSame (wsV RX1 95 RX1 yX1_turnAllInto wsX1_turnAllInto) := goodIn_app (goodIn_of _ (by decide +kernel)) ggX1_sixthsToSame_X1_turnAllInto
set_option maxRecDepth 20000 in
theorem ggX1_sixthsToSame_X1_isTrialAsNow : GoodIn wsX1_sixthsToSame wsX1_isTrialAsNow := goodIn_r _ [23, 24, 1, 12, 25, 26, 27, 28, 29, 30, 31, 32, 33, 34, 35] (by decide +kernel) (by decide +kernel)
set_option maxRecDepth 20000 in
theorem gX1_sixthsToSame_X1_isTrialAsNow : GoodIn wsX1_sixthsToSame (wsV RX1 158 RX1 yX1_isTrialAsNow wsX1_isTrialAsNow) := goodIn_app (goodIn_of _ (by decide +kernel)) ggX1_sixthsToSame_X1_isTrialAsNow
theorem dX1_sixthsToSame_0 : decode cX1_sixthsToSame 0 = .ok (.iconst 1, 1) := by decide +kernel
theorem dX1_sixthsToSame_1 : decode cX1_sixthsToSame 1 = .ok (.istore_n 1, 1) := by decide +kernel
theorem dX1_sixthsToSame_2 : decode cX1_sixthsToSame 2 = .ok (.iload_n 1, 1) := by decide +kernel
theorem dX1_sixthsToSame_3 : decode cX1_sixthsToSame 3 = .ok (.bipush 6, 2) := by decide +kernel
theorem dX1_sixthsToSame_5 : decode cX1_sixthsToSame 5 = .ok (.if_icmp .ge 27, 3) := by decide +kernel
theorem dX1_sixthsToSame_8 : decode cX1_sixthsToSame 8 = .ok (.aload_n 0, 1) := by decide +kernel
theorem dX1_sixthsToSame_9 : decode cX1_sixthsToSame 9 = .ok (.iload_n 1, 1) := by decide +kernel
theorem dX1_sixthsToSame_10 : decode cX1_sixthsToSame 10 = .ok (.aload_n 0, 1) := by decide +kernel
theorem dX1_sixthsToSame_11 : decode cX1_sixthsToSame 11 = .ok (.getfield 27, 3) := by decide +kernel
theorem dX1_sixthsToSame_14 : decode cX1_sixthsToSame 14 = .ok (.invokevirtual 95, 3) := by decide +kernel
theorem dX1_sixthsToSame_17 : decode cX1_sixthsToSame 17 = .ok (.aload_n 0, 1) := by decide +kernel
theorem dX1_sixthsToSame_18 : decode cX1_sixthsToSame 18 = .ok (.invokevirtual 158, 3) := by decide +kernel
theorem dX1_sixthsToSame_21 : decode cX1_sixthsToSame 21 = .ok (.ifCond .eq 5, 3) := by decide +kernel
theorem dX1_sixthsToSame_24 : decode cX1_sixthsToSame 24 = .ok (.iload_n 1, 1) := by decide +kernel
theorem dX1_sixthsToSame_25 : decode cX1_sixthsToSame 25 = .ok (.ireturn, 1) := by decide +kernel
theorem dX1_sixthsToSame_26 : decode cX1_sixthsToSame 26 = .ok (.iinc 1 1, 3) := by decide +kernel
theorem dX1_sixthsToSame_29 : decode cX1_sixthsToSame 29 = .ok (.goto (-27), 3) := by decide +kernel
theorem dX1_sixthsToSame_32 : decode cX1_sixthsToSame 32 = .ok (.bipush 6, 2) := by decide +kernel
theorem dX1_sixthsToSame_34 : decode cX1_sixthsToSame 34 = .ok (.ireturn, 1) := by decide +kernel
set_option maxRecDepth 20000 in
theorem ggX1_would_X1_needRing : GoodIn wsX1_would wsX1_needRing := goodIn_ca (goodIn_r _ [5, 6, 7, 8, 4, 9, 10, 11, 78, 79, 80, 81, 82, 83, 84, 85, 86, 87, 88] (by decide +kernel) (by decide +kernel)) (goodIn_sub (fun _ h => List.mem_cons_of_mem _ (List.mem_append_left _ (List.mem_append_right _ h))) (by decide +kernel))
set_option maxRecDepth 20000 in
theorem gX1_would_X1_needRing : GoodIn wsX1_would (wsV RX1 76 RX1 yX1_needRing wsX1_needRing) := goodIn_app (goodIn_of _ (by decide +kernel)) ggX1_would_X1_needRing
set_option maxRecDepth 20000 in
theorem ggX1_would_X0_sizeOf : GoodIn wsX1_would wsX0_sizeOf := goodIn_r _ [15] (by decide +kernel) (by decide +kernel)
set_option maxRecDepth 20000 in
theorem gX1_would_X0_sizeOf : GoodIn wsX1_would (va_wsS RX1 86 yX0_sizeOf wsX0_sizeOf) := goodIn_app (goodIn_of _ (by decide +kernel)) ggX1_would_X0_sizeOf
set_option maxRecDepth 20000 in
theorem ggX1_would_X1_needNumber : GoodIn wsX1_would wsX1_needNumber := goodIn_ca (goodIn_r _ [18, 19, 20] (by decide +kernel) (by decide +kernel)) (goodIn_sub (fun _ h => List.mem_cons_of_mem _ (List.mem_append_right _ h)) (by decide +kernel))
set_option maxRecDepth 20000 in
theorem gX1_would_X1_needNumber : GoodIn wsX1_would (va_wsS RX1 46 yX1_needNumber wsX1_needNumber) := goodIn_app (goodIn_of _ (by decide +kernel)) ggX1_would_X1_needNumber
set_option maxRecDepth 20000 in
theorem ggX1_would_X1_litAfterTurn : GoodIn wsX1_would wsX1_litAfterTurn := goodIn_r _ [24, 25, 26, 27, 28, 29, 30, 31, 32, 33, 34, 35, 4, 36, 37, 38, 14, 39, 12, 13, 15, 40, 41, 42, 43, 44, 45, 46, 47, 48, 49, 50, 51, 52, 53, 54, 55, 56, 57, 58, 59, 60, 61, 62, 63, 64, 65, 66, 67, 68, 69, 70, 71, 72, 73, 74, 75, 76, 77, 78, 79, 80, 81, 82, 83, 84, 85, 86, 87, 88, 89, 90, 91, 92, 93] (by decide +kernel) (by decide +kernel)
set_option maxRecDepth 20000 in
theorem gX1_would_X1_litAfterTurn : GoodIn wsX1_would (wsV RX1 162 RX1 yX1_litAfterTurn wsX1_litAfterTurn) := goodIn_app (goodIn_of _ (by decide +kernel)) ggX1_would_X1_litAfterTurn
theorem dX1_would_0 : decode cX1_would 0 = .ok (.aload_n 0, 1) := by decide +kernel
theorem dX1_would_1 : decode cX1_would 1 = .ok (.iload_n 1, 1) := by decide +kernel
theorem dX1_would_2 : decode cX1_would 2 = .ok (.invokevirtual 76, 3) := by decide +kernel
theorem dX1_would_5 : decode cX1_would 5 = .ok (.iload_n 2, 1) := by decide +kernel
theorem dX1_would_6 : decode cX1_would 6 = .ok (.iconst 0, 1) := by decide +kernel
theorem dX1_would_7 : decode cX1_would 7 = .ok (.iload_n 1, 1) := by decide +kernel
theorem dX1_would_8 : decode cX1_would 8 = .ok (.invokestatic 86, 3) := by decide +kernel
theorem dX1_would_11 : decode cX1_would 11 = .ok (.iconst 1, 1) := by decide +kernel
theorem dX1_would_12 : decode cX1_would 12 = .ok (.isub, 1) := by decide +kernel
theorem dX1_would_13 : decode cX1_would 13 = .ok (.invokestatic 46, 3) := by decide +kernel
theorem dX1_would_16 : decode cX1_would 16 = .ok (.aload_n 0, 1) := by decide +kernel
theorem dX1_would_17 : decode cX1_would 17 = .ok (.iload_n 1, 1) := by decide +kernel
theorem dX1_would_18 : decode cX1_would 18 = .ok (.iload_n 2, 1) := by decide +kernel
theorem dX1_would_19 : decode cX1_would 19 = .ok (.invokevirtual 162, 3) := by decide +kernel
theorem dX1_would_22 : decode cX1_would 22 = .ok (.ireturn, 1) := by decide +kernel
set_option maxRecDepth 20000 in
theorem ggX1_advise_X1_needRing : GoodIn wsX1_advise wsX1_needRing := goodIn_ca (goodIn_r _ [5, 6, 7, 8, 4, 9, 10, 11, 73, 74, 75, 76, 77, 78, 79, 80, 81, 82, 83] (by decide +kernel) (by decide +kernel)) (goodIn_sub (fun _ h => List.mem_cons_of_mem _ (List.mem_append_right _ h)) (by decide +kernel))
set_option maxRecDepth 20000 in
theorem gX1_advise_X1_needRing : GoodIn wsX1_advise (wsV RX1 76 RX1 yX1_needRing wsX1_needRing) := goodIn_app (goodIn_of _ (by decide +kernel)) ggX1_advise_X1_needRing
set_option maxRecDepth 20000 in
theorem ggX1_advise_X0_sizeOf : GoodIn wsX1_advise wsX0_sizeOf := goodIn_r _ [15] (by decide +kernel) (by decide +kernel)
set_option maxRecDepth 20000 in
theorem gX1_advise_X0_sizeOf : GoodIn wsX1_advise (va_wsS RX1 86 yX0_sizeOf wsX0_sizeOf) := goodIn_app (goodIn_of _ (by decide +kernel)) ggX1_advise_X0_sizeOf
set_option maxRecDepth 20000 in
theorem ggX1_advise_X1_litAfterTurn : GoodIn wsX1_advise wsX1_litAfterTurn := goodIn_r _ [19, 20, 21, 22, 23, 24, 25, 26, 27, 28, 29, 30, 4, 31, 32, 33, 14, 34, 12, 13, 15, 35, 36, 37, 38, 39, 40, 41, 42, 43, 44, 45, 46, 47, 48, 49, 50, 51, 52, 53, 54, 55, 56, 57, 58, 59, 60, 61, 62, 63, 64, 65, 66, 67, 68, 69, 70, 71, 72, 73, 74, 75, 76, 77, 78, 79, 80, 81, 82, 83, 84, 85, 86, 87, 88] (by decide +kernel) (by decide +kernel)
set_option maxRecDepth 20000 in
theorem gX1_advise_X1_litAfterTurn : GoodIn wsX1_advise (wsV RX1 162 RX1 yX1_litAfterTurn wsX1_litAfterTurn) := goodIn_app (goodIn_of _ (by decide +kernel)) ggX1_advise_X1_litAfterTurn
theorem dX1_advise_0 : decode cX1_advise 0 = .ok (.aload_n 0, 1) := by decide +kernel
theorem dX1_advise_1 : decode cX1_advise 1 = .ok (.iload_n 1, 1) := by decide +kernel
theorem dX1_advise_2 : decode cX1_advise 2 = .ok (.invokevirtual 76, 3) := by decide +kernel
theorem dX1_advise_5 : decode cX1_advise 5 = .ok (.iconst 0, 1) := by decide +kernel
theorem dX1_advise_6 : decode cX1_advise 6 = .ok (.istore_n 2, 1) := by decide +kernel
end
section
theorem dX1_advise_7 : decode cX1_advise 7 = .ok (.iconst (-1), 1) := by decide +kernel
theorem dX1_advise_8 : decode cX1_advise 8 = .ok (.istore_n 3, 1) := by decide +kernel
theorem dX1_advise_9 : decode cX1_advise 9 = .ok (.iconst 0, 1) := by decide +kernel
theorem dX1_advise_10 : decode cX1_advise 10 = .ok (.istore 4, 2) := by decide +kernel
theorem dX1_advise_12 : decode cX1_advise 12 = .ok (.iload 4, 2) := by decide +kernel
theorem dX1_advise_14 : decode cX1_advise 14 = .ok (.iload_n 1, 1) := by decide +kernel
theorem dX1_advise_15 : decode cX1_advise 15 = .ok (.invokestatic 86, 3) := by decide +kernel
theorem dX1_advise_18 : decode cX1_advise 18 = .ok (.if_icmp .ge 30, 3) := by decide +kernel
theorem dX1_advise_21 : decode cX1_advise 21 = .ok (.aload_n 0, 1) := by decide +kernel
theorem dX1_advise_22 : decode cX1_advise 22 = .ok (.iload_n 1, 1) := by decide +kernel
theorem dX1_advise_23 : decode cX1_advise 23 = .ok (.iload 4, 2) := by decide +kernel
theorem dX1_advise_25 : decode cX1_advise 25 = .ok (.invokevirtual 162, 3) := by decide +kernel
theorem dX1_advise_28 : decode cX1_advise 28 = .ok (.istore 5, 2) := by decide +kernel
theorem dX1_advise_30 : decode cX1_advise 30 = .ok (.iload 5, 2) := by decide +kernel
theorem dX1_advise_32 : decode cX1_advise 32 = .ok (.iload_n 3, 1) := by decide +kernel
theorem dX1_advise_33 : decode cX1_advise 33 = .ok (.if_icmp .le 9, 3) := by decide +kernel
theorem dX1_advise_36 : decode cX1_advise 36 = .ok (.iload 5, 2) := by decide +kernel
theorem dX1_advise_38 : decode cX1_advise 38 = .ok (.istore_n 3, 1) := by decide +kernel
theorem dX1_advise_39 : decode cX1_advise 39 = .ok (.iload 4, 2) := by decide +kernel
theorem dX1_advise_41 : decode cX1_advise 41 = .ok (.istore_n 2, 1) := by decide +kernel
theorem dX1_advise_42 : decode cX1_advise 42 = .ok (.iinc 4 1, 3) := by decide +kernel
theorem dX1_advise_45 : decode cX1_advise 45 = .ok (.goto (-33), 3) := by decide +kernel
theorem dX1_advise_48 : decode cX1_advise 48 = .ok (.iload_n 2, 1) := by decide +kernel
theorem dX1_advise_49 : decode cX1_advise 49 = .ok (.ireturn, 1) := by decide +kernel
set_option maxRecDepth 20000 in
theorem ggX1_best_X1_newlyLitFrom : GoodIn wsX1_best wsX1_newlyLitFrom := goodIn_r _ [7, 2, 8, 9, 10, 11, 12, 6, 13, 14, 15, 16, 17, 18, 19, 20, 21, 22, 23, 24, 25, 26, 27, 28, 29, 30, 31, 32, 33, 34, 35, 1, 36, 37, 38, 39, 40, 41, 42, 43, 44, 45, 46, 47, 48, 49, 50, 51, 52] (by decide +kernel) (by decide +kernel)
set_option maxRecDepth 20000 in
theorem gX1_best_X1_newlyLitFrom : GoodIn wsX1_best (wsV RX1 165 RX1 yX1_newlyLitFrom wsX1_newlyLitFrom) := goodIn_app (goodIn_of _ (by decide +kernel)) ggX1_best_X1_newlyLitFrom
theorem dX1_best_0 : decode cX1_best 0 = .ok (.iconst (-1), 1) := by decide +kernel
theorem dX1_best_1 : decode cX1_best 1 = .ok (.istore_n 1, 1) := by decide +kernel
theorem dX1_best_2 : decode cX1_best 2 = .ok (.iconst (-1), 1) := by decide +kernel
theorem dX1_best_3 : decode cX1_best 3 = .ok (.istore_n 2, 1) := by decide +kernel
theorem dX1_best_4 : decode cX1_best 4 = .ok (.iconst 0, 1) := by decide +kernel
theorem dX1_best_5 : decode cX1_best 5 = .ok (.istore_n 3, 1) := by decide +kernel
theorem dX1_best_6 : decode cX1_best 6 = .ok (.iload_n 3, 1) := by decide +kernel
theorem dX1_best_7 : decode cX1_best 7 = .ok (.aload_n 0, 1) := by decide +kernel
theorem dX1_best_8 : decode cX1_best 8 = .ok (.getfield 50, 3) := by decide +kernel
theorem dX1_best_11 : decode cX1_best 11 = .ok (.if_icmp .ge 40, 3) := by decide +kernel
theorem dX1_best_14 : decode cX1_best 14 = .ok (.aload_n 0, 1) := by decide +kernel
theorem dX1_best_15 : decode cX1_best 15 = .ok (.getfield 16, 3) := by decide +kernel
theorem dX1_best_18 : decode cX1_best 18 = .ok (.iload_n 3, 1) := by decide +kernel
theorem dX1_best_19 : decode cX1_best 19 = .ok (.iaload, 1) := by decide +kernel
theorem dX1_best_20 : decode cX1_best 20 = .ok (.ifCond .ne 11, 3) := by decide +kernel
theorem dX1_best_23 : decode cX1_best 23 = .ok (.aload_n 0, 1) := by decide +kernel
theorem dX1_best_24 : decode cX1_best 24 = .ok (.iload_n 3, 1) := by decide +kernel
theorem dX1_best_25 : decode cX1_best 25 = .ok (.invokevirtual 165, 3) := by decide +kernel
theorem dX1_best_28 : decode cX1_best 28 = .ok (.goto 4, 3) := by decide +kernel
theorem dX1_best_31 : decode cX1_best 31 = .ok (.iconst (-1), 1) := by decide +kernel
theorem dX1_best_32 : decode cX1_best 32 = .ok (.istore 4, 2) := by decide +kernel
theorem dX1_best_34 : decode cX1_best 34 = .ok (.iload 4, 2) := by decide +kernel
theorem dX1_best_36 : decode cX1_best 36 = .ok (.iload_n 2, 1) := by decide +kernel
theorem dX1_best_37 : decode cX1_best 37 = .ok (.if_icmp .le 8, 3) := by decide +kernel
theorem dX1_best_40 : decode cX1_best 40 = .ok (.iload 4, 2) := by decide +kernel
theorem dX1_best_42 : decode cX1_best 42 = .ok (.istore_n 2, 1) := by decide +kernel
theorem dX1_best_43 : decode cX1_best 43 = .ok (.iload_n 3, 1) := by decide +kernel
theorem dX1_best_44 : decode cX1_best 44 = .ok (.istore_n 1, 1) := by decide +kernel
theorem dX1_best_45 : decode cX1_best 45 = .ok (.iinc 3 1, 3) := by decide +kernel
theorem dX1_best_48 : decode cX1_best 48 = .ok (.goto (-42), 3) := by decide +kernel
theorem dX1_best_51 : decode cX1_best 51 = .ok (.iload_n 1, 1) := by decide +kernel
theorem dX1_best_52 : decode cX1_best 52 = .ok (.ireturn, 1) := by decide +kernel
set_option maxRecDepth 20000 in
theorem ggX1_mean_X1_litAmong : GoodIn wsX1_mean wsX1_litAmong := goodIn_r _ [6] (by decide +kernel) (by decide +kernel)
set_option maxRecDepth 20000 in
theorem gX1_mean_X1_litAmong : GoodIn wsX1_mean (va_wsS RX1 146 yX1_litAmong wsX1_litAmong) := goodIn_app (goodIn_of _ (by decide +kernel)) ggX1_mean_X1_litAmong
theorem dX1_mean_0 : decode cX1_mean 0 = .ok (.aload_n 0, 1) := by decide +kernel
theorem dX1_mean_1 : decode cX1_mean 1 = .ok (.getfield 24, 3) := by decide +kernel
theorem dX1_mean_4 : decode cX1_mean 4 = .ok (.iconst 0, 1) := by decide +kernel
theorem dX1_mean_5 : decode cX1_mean 5 = .ok (.aload_n 0, 1) := by decide +kernel
theorem dX1_mean_6 : decode cX1_mean 6 = .ok (.getfield 50, 3) := by decide +kernel
theorem dX1_mean_9 : decode cX1_mean 9 = .ok (.invokestatic 146, 3) := by decide +kernel
theorem dX1_mean_12 : decode cX1_mean 12 = .ok (.istore_n 1, 1) := by decide +kernel
theorem dX1_mean_13 : decode cX1_mean 13 = .ok (.iconst 0, 1) := by decide +kernel
theorem dX1_mean_14 : decode cX1_mean 14 = .ok (.istore_n 2, 1) := by decide +kernel
theorem dX1_mean_15 : decode cX1_mean 15 = .ok (.iconst 0, 1) := by decide +kernel
theorem dX1_mean_16 : decode cX1_mean 16 = .ok (.istore_n 3, 1) := by decide +kernel
theorem dX1_mean_17 : decode cX1_mean 17 = .ok (.iload_n 3, 1) := by decide +kernel
theorem dX1_mean_18 : decode cX1_mean 18 = .ok (.aload_n 0, 1) := by decide +kernel
theorem dX1_mean_19 : decode cX1_mean 19 = .ok (.getfield 50, 3) := by decide +kernel
theorem dX1_mean_22 : decode cX1_mean 22 = .ok (.if_icmp .ge 18, 3) := by decide +kernel
theorem dX1_mean_25 : decode cX1_mean 25 = .ok (.iload_n 2, 1) := by decide +kernel
theorem dX1_mean_26 : decode cX1_mean 26 = .ok (.aload_n 0, 1) := by decide +kernel
theorem dX1_mean_27 : decode cX1_mean 27 = .ok (.getfield 24, 3) := by decide +kernel
theorem dX1_mean_30 : decode cX1_mean 30 = .ok (.iload_n 3, 1) := by decide +kernel
theorem dX1_mean_31 : decode cX1_mean 31 = .ok (.iaload, 1) := by decide +kernel
theorem dX1_mean_32 : decode cX1_mean 32 = .ok (.iadd, 1) := by decide +kernel
theorem dX1_mean_33 : decode cX1_mean 33 = .ok (.istore_n 2, 1) := by decide +kernel
theorem dX1_mean_34 : decode cX1_mean 34 = .ok (.iinc 3 1, 3) := by decide +kernel
theorem dX1_mean_37 : decode cX1_mean 37 = .ok (.goto (-20), 3) := by decide +kernel
theorem dX1_mean_40 : decode cX1_mean 40 = .ok (.iload_n 1, 1) := by decide +kernel
theorem dX1_mean_41 : decode cX1_mean 41 = .ok (.ifCond .ne 7, 3) := by decide +kernel
theorem dX1_mean_44 : decode cX1_mean 44 = .ok (.dconst 0, 1) := by decide +kernel
theorem dX1_mean_45 : decode cX1_mean 45 = .ok (.goto 8, 3) := by decide +kernel
theorem dX1_mean_48 : decode cX1_mean 48 = .ok (.iload_n 2, 1) := by decide +kernel
theorem dX1_mean_49 : decode cX1_mean 49 = .ok (.i2d, 1) := by decide +kernel
theorem dX1_mean_50 : decode cX1_mean 50 = .ok (.iload_n 1, 1) := by decide +kernel
theorem dX1_mean_51 : decode cX1_mean 51 = .ok (.i2d, 1) := by decide +kernel
theorem dX1_mean_52 : decode cX1_mean 52 = .ok (.ddiv, 1) := by decide +kernel
theorem dX1_mean_53 : decode cX1_mean 53 = .ok (.dreturn, 1) := by decide +kernel
set_option maxRecDepth 20000 in
theorem ggX1_digest_X1_count : GoodIn wsX1_digest wsX1_count := goodIn_ca (goodIn_r _ [10, 3, 5, 11, 12, 13, 9, 14, 15, 16, 17, 18, 19, 20, 21, 22, 23, 24, 25, 4, 26, 27, 28, 29, 30, 31, 32, 33, 34, 35, 36, 37, 38, 39, 40, 41, 42, 43, 44, 45, 46, 47, 48, 49, 50, 51, 52, 53, 54, 55, 56, 57, 58, 59, 60, 61, 62, 63, 64, 65, 66, 67, 68, 110, 111, 112, 113, 114, 115, 116, 117, 118, 119, 120, 121, 122, 123, 124, 125] (by decide +kernel) (by decide +kernel)) (goodIn_sub (fun _ h => List.mem_cons_of_mem _ (List.mem_append_right _ h)) (by decide +kernel))
set_option maxRecDepth 20000 in
theorem gX1_digest_X1_count : GoodIn wsX1_digest (wsV RX1 172 RX1 yX1_count wsX1_count) := goodIn_app (goodIn_of _ (by decide +kernel)) ggX1_digest_X1_count
set_option maxRecDepth 20000 in
theorem ggX1_digest_X1_about : GoodIn wsX1_digest wsX1_about := goodIn_ca (goodIn_r _ [72, 58, 21, 11, 73, 74, 75, 9, 76, 3, 12, 13, 14, 15, 16, 77, 78, 79, 62, 80, 81, 82, 83, 84, 85, 86, 87, 88, 89, 90, 91, 92, 93, 94, 95, 50, 51, 52, 53, 4, 54, 55, 56, 57, 59, 60, 61, 63, 64, 27, 28, 65, 66, 67, 68, 26, 110, 111, 112, 113, 114, 115, 116, 117, 118, 119, 120, 121, 122, 123, 124, 125] (by decide +kernel) (by decide +kernel)) (goodIn_sub (fun _ h => List.mem_cons_of_mem _ (List.mem_append_right _ h)) (by decide +kernel))
set_option maxRecDepth 20000 in
theorem gX1_digest_X1_about : GoodIn wsX1_digest (wsV RX1 175 RX1 yX1_about wsX1_about) := goodIn_app (goodIn_of _ (by decide +kernel)) ggX1_digest_X1_about
set_option maxRecDepth 20000 in
theorem ggX1_digest_X1_doorOf : GoodIn wsX1_digest wsX1_doorOf := goodIn_r _ [28] (by decide +kernel) (by decide +kernel)
set_option maxRecDepth 20000 in
theorem gX1_digest_X1_doorOf : GoodIn wsX1_digest (va_wsS RX1 69 yX1_doorOf wsX1_doorOf) := goodIn_app (goodIn_of _ (by decide +kernel)) ggX1_digest_X1_doorOf
set_option maxRecDepth 20000 in
theorem ggX1_digest_X1_ring : GoodIn wsX1_digest wsX1_ring := goodIn_ca (goodIn_r _ [99, 11, 100, 101, 102, 9, 103, 5, 12, 13, 14, 15, 16, 104, 105, 62, 106, 107, 108, 109, 17, 18, 19, 20, 21, 29, 30, 31, 110, 111, 112, 113, 114, 115, 116, 117, 118, 119, 120] (by decide +kernel) (by decide +kernel)) (goodIn_sub (fun _ h => List.mem_cons_of_mem _ (List.mem_append_right _ h)) (by decide +kernel))
set_option maxRecDepth 20000 in
theorem gX1_digest_X1_ring : GoodIn wsX1_digest (wsV RX1 178 RX1 yX1_ring wsX1_ring) := goodIn_app (goodIn_of _ (by decide +kernel)) ggX1_digest_X1_ring
theorem dX1_digest_0 : decode cX1_digest 0 = .ok (.ldc2_w 168, 3) := by decide +kernel
theorem dX1_digest_3 : decode cX1_digest 3 = .ok (.lstore_n 1, 1) := by decide +kernel
theorem dX1_digest_4 : decode cX1_digest 4 = .ok (.iconst 0, 1) := by decide +kernel
theorem dX1_digest_5 : decode cX1_digest 5 = .ok (.istore_n 3, 1) := by decide +kernel
theorem dX1_digest_6 : decode cX1_digest 6 = .ok (.iload_n 3, 1) := by decide +kernel
theorem dX1_digest_7 : decode cX1_digest 7 = .ok (.bipush 7, 2) := by decide +kernel
theorem dX1_digest_9 : decode cX1_digest 9 = .ok (.if_icmp .ge 22, 3) := by decide +kernel
theorem dX1_digest_12 : decode cX1_digest 12 = .ok (.lload_n 1, 1) := by decide +kernel
theorem dX1_digest_13 : decode cX1_digest 13 = .ok (.ldc2_w 170, 3) := by decide +kernel
theorem dX1_digest_16 : decode cX1_digest 16 = .ok (.lmul, 1) := by decide +kernel
theorem dX1_digest_17 : decode cX1_digest 17 = .ok (.aload_n 0, 1) := by decide +kernel
theorem dX1_digest_18 : decode cX1_digest 18 = .ok (.iload_n 3, 1) := by decide +kernel
theorem dX1_digest_19 : decode cX1_digest 19 = .ok (.invokevirtual 172, 3) := by decide +kernel
theorem dX1_digest_22 : decode cX1_digest 22 = .ok (.i2l, 1) := by decide +kernel
theorem dX1_digest_23 : decode cX1_digest 23 = .ok (.ladd, 1) := by decide +kernel
theorem dX1_digest_24 : decode cX1_digest 24 = .ok (.lstore_n 1, 1) := by decide +kernel
theorem dX1_digest_25 : decode cX1_digest 25 = .ok (.iinc 3 1, 3) := by decide +kernel
theorem dX1_digest_28 : decode cX1_digest 28 = .ok (.goto (-22), 3) := by decide +kernel
theorem dX1_digest_31 : decode cX1_digest 31 = .ok (.iconst 0, 1) := by decide +kernel
theorem dX1_digest_32 : decode cX1_digest 32 = .ok (.istore_n 3, 1) := by decide +kernel
theorem dX1_digest_33 : decode cX1_digest 33 = .ok (.iload_n 3, 1) := by decide +kernel
theorem dX1_digest_34 : decode cX1_digest 34 = .ok (.aload_n 0, 1) := by decide +kernel
theorem dX1_digest_35 : decode cX1_digest 35 = .ok (.getfield 50, 3) := by decide +kernel
theorem dX1_digest_38 : decode cX1_digest 38 = .ok (.if_icmp .ge 83, 3) := by decide +kernel
theorem dX1_digest_41 : decode cX1_digest 41 = .ok (.iconst 0, 1) := by decide +kernel
theorem dX1_digest_42 : decode cX1_digest 42 = .ok (.istore 4, 2) := by decide +kernel
theorem dX1_digest_44 : decode cX1_digest 44 = .ok (.iload 4, 2) := by decide +kernel
theorem dX1_digest_46 : decode cX1_digest 46 = .ok (.bipush 6, 2) := by decide +kernel
theorem dX1_digest_48 : decode cX1_digest 48 = .ok (.if_icmp .ge 24, 3) := by decide +kernel
theorem dX1_digest_51 : decode cX1_digest 51 = .ok (.lload_n 1, 1) := by decide +kernel
theorem dX1_digest_52 : decode cX1_digest 52 = .ok (.ldc2_w 170, 3) := by decide +kernel
theorem dX1_digest_55 : decode cX1_digest 55 = .ok (.lmul, 1) := by decide +kernel
theorem dX1_digest_56 : decode cX1_digest 56 = .ok (.aload_n 0, 1) := by decide +kernel
theorem dX1_digest_57 : decode cX1_digest 57 = .ok (.iload_n 3, 1) := by decide +kernel
theorem dX1_digest_58 : decode cX1_digest 58 = .ok (.iload 4, 2) := by decide +kernel
theorem dX1_digest_60 : decode cX1_digest 60 = .ok (.invokevirtual 175, 3) := by decide +kernel
theorem dX1_digest_63 : decode cX1_digest 63 = .ok (.i2l, 1) := by decide +kernel
theorem dX1_digest_64 : decode cX1_digest 64 = .ok (.ladd, 1) := by decide +kernel
theorem dX1_digest_65 : decode cX1_digest 65 = .ok (.lstore_n 1, 1) := by decide +kernel
theorem dX1_digest_66 : decode cX1_digest 66 = .ok (.iinc 4 1, 3) := by decide +kernel
theorem dX1_digest_69 : decode cX1_digest 69 = .ok (.goto (-25), 3) := by decide +kernel
theorem dX1_digest_72 : decode cX1_digest 72 = .ok (.iconst 0, 1) := by decide +kernel
theorem dX1_digest_73 : decode cX1_digest 73 = .ok (.istore 4, 2) := by decide +kernel
theorem dX1_digest_75 : decode cX1_digest 75 = .ok (.iload 4, 2) := by decide +kernel
theorem dX1_digest_77 : decode cX1_digest 77 = .ok (.bipush 6, 2) := by decide +kernel
theorem dX1_digest_79 : decode cX1_digest 79 = .ok (.if_icmp .ge 36, 3) := by decide +kernel
theorem dX1_digest_82 : decode cX1_digest 82 = .ok (.lload_n 1, 1) := by decide +kernel
theorem dX1_digest_83 : decode cX1_digest 83 = .ok (.ldc2_w 170, 3) := by decide +kernel
theorem dX1_digest_86 : decode cX1_digest 86 = .ok (.lmul, 1) := by decide +kernel
theorem dX1_digest_87 : decode cX1_digest 87 = .ok (.aload_n 0, 1) := by decide +kernel
theorem dX1_digest_88 : decode cX1_digest 88 = .ok (.getfield 20, 3) := by decide +kernel
theorem dX1_digest_91 : decode cX1_digest 91 = .ok (.iload_n 3, 1) := by decide +kernel
theorem dX1_digest_92 : decode cX1_digest 92 = .ok (.iload 4, 2) := by decide +kernel
theorem dX1_digest_94 : decode cX1_digest 94 = .ok (.invokestatic 69, 3) := by decide +kernel
theorem dX1_digest_97 : decode cX1_digest 97 = .ok (.baload, 1) := by decide +kernel
theorem dX1_digest_98 : decode cX1_digest 98 = .ok (.ifCond .eq 7, 3) := by decide +kernel
theorem dX1_digest_101 : decode cX1_digest 101 = .ok (.iconst 1, 1) := by decide +kernel
theorem dX1_digest_102 : decode cX1_digest 102 = .ok (.goto 4, 3) := by decide +kernel
theorem dX1_digest_105 : decode cX1_digest 105 = .ok (.iconst 0, 1) := by decide +kernel
theorem dX1_digest_106 : decode cX1_digest 106 = .ok (.i2l, 1) := by decide +kernel
theorem dX1_digest_107 : decode cX1_digest 107 = .ok (.ladd, 1) := by decide +kernel
theorem dX1_digest_108 : decode cX1_digest 108 = .ok (.lstore_n 1, 1) := by decide +kernel
theorem dX1_digest_109 : decode cX1_digest 109 = .ok (.iinc 4 1, 3) := by decide +kernel
theorem dX1_digest_112 : decode cX1_digest 112 = .ok (.goto (-37), 3) := by decide +kernel
theorem dX1_digest_115 : decode cX1_digest 115 = .ok (.iinc 3 1, 3) := by decide +kernel
theorem dX1_digest_118 : decode cX1_digest 118 = .ok (.goto (-85), 3) := by decide +kernel
theorem dX1_digest_121 : decode cX1_digest 121 = .ok (.iconst 0, 1) := by decide +kernel
theorem dX1_digest_122 : decode cX1_digest 122 = .ok (.istore_n 3, 1) := by decide +kernel
theorem dX1_digest_123 : decode cX1_digest 123 = .ok (.iload_n 3, 1) := by decide +kernel
theorem dX1_digest_124 : decode cX1_digest 124 = .ok (.aload_n 0, 1) := by decide +kernel
theorem dX1_digest_125 : decode cX1_digest 125 = .ok (.getfield 149, 3) := by decide +kernel
theorem dX1_digest_128 : decode cX1_digest 128 = .ok (.if_icmp .gt 39, 3) := by decide +kernel
theorem dX1_digest_131 : decode cX1_digest 131 = .ok (.iconst 0, 1) := by decide +kernel
theorem dX1_digest_132 : decode cX1_digest 132 = .ok (.istore 4, 2) := by decide +kernel
theorem dX1_digest_134 : decode cX1_digest 134 = .ok (.iload 4, 2) := by decide +kernel
theorem dX1_digest_136 : decode cX1_digest 136 = .ok (.iconst 4, 1) := by decide +kernel
theorem dX1_digest_137 : decode cX1_digest 137 = .ok (.if_icmp .ge 24, 3) := by decide +kernel
theorem dX1_digest_140 : decode cX1_digest 140 = .ok (.lload_n 1, 1) := by decide +kernel
theorem dX1_digest_141 : decode cX1_digest 141 = .ok (.ldc2_w 170, 3) := by decide +kernel
theorem dX1_digest_144 : decode cX1_digest 144 = .ok (.lmul, 1) := by decide +kernel
theorem dX1_digest_145 : decode cX1_digest 145 = .ok (.aload_n 0, 1) := by decide +kernel
theorem dX1_digest_146 : decode cX1_digest 146 = .ok (.iload_n 3, 1) := by decide +kernel
theorem dX1_digest_147 : decode cX1_digest 147 = .ok (.iload 4, 2) := by decide +kernel
theorem dX1_digest_149 : decode cX1_digest 149 = .ok (.invokevirtual 178, 3) := by decide +kernel
theorem dX1_digest_152 : decode cX1_digest 152 = .ok (.i2l, 1) := by decide +kernel
theorem dX1_digest_153 : decode cX1_digest 153 = .ok (.ladd, 1) := by decide +kernel
theorem dX1_digest_154 : decode cX1_digest 154 = .ok (.lstore_n 1, 1) := by decide +kernel
theorem dX1_digest_155 : decode cX1_digest 155 = .ok (.iinc 4 1, 3) := by decide +kernel
theorem dX1_digest_158 : decode cX1_digest 158 = .ok (.goto (-24), 3) := by decide +kernel
theorem dX1_digest_161 : decode cX1_digest 161 = .ok (.iinc 3 1, 3) := by decide +kernel
theorem dX1_digest_164 : decode cX1_digest 164 = .ok (.goto (-41), 3) := by decide +kernel
theorem dX1_digest_167 : decode cX1_digest 167 = .ok (.lload_n 1, 1) := by decide +kernel
theorem dX1_digest_168 : decode cX1_digest 168 = .ok (.lreturn, 1) := by decide +kernel
set_option maxRecDepth 20000 in
theorem ggX1_needRoom_X1_needIndex : GoodIn wsX1_needRoom wsX1_needIndex := goodIn_ca (goodIn_r _ [5, 6, 7] (by decide +kernel) (by decide +kernel)) (goodIn_sub (fun _ h => List.mem_cons_of_mem _ (List.mem_append_right _ h)) (by decide +kernel))
set_option maxRecDepth 20000 in
theorem gX1_needRoom_X1_needIndex : GoodIn wsX1_needRoom (va_wsS RX1 57 yX1_needIndex wsX1_needIndex) := goodIn_app (goodIn_of _ (by decide +kernel)) ggX1_needRoom_X1_needIndex
theorem dX1_needRoom_0 : decode cX1_needRoom 0 = .ok (.iload_n 1, 1) := by decide +kernel
theorem dX1_needRoom_1 : decode cX1_needRoom 1 = .ok (.aload_n 0, 1) := by decide +kernel
theorem dX1_needRoom_2 : decode cX1_needRoom 2 = .ok (.getfield 50, 3) := by decide +kernel
theorem dX1_needRoom_5 : decode cX1_needRoom 5 = .ok (.invokestatic 57, 3) := by decide +kernel
theorem dX1_needRoom_8 : decode cX1_needRoom 8 = .ok (.return_, 1) := by decide +kernel
set_option maxRecDepth 20000 in
theorem ggX1_needRing_X1_needIndex : GoodIn wsX1_needRing wsX1_needIndex := goodIn_ca (goodIn_r _ [5, 6, 7] (by decide +kernel) (by decide +kernel)) (goodIn_sub (fun _ h => List.mem_cons_of_mem _ (List.mem_append_right _ h)) (by decide +kernel))
set_option maxRecDepth 20000 in
theorem gX1_needRing_X1_needIndex : GoodIn wsX1_needRing (va_wsS RX1 57 yX1_needIndex wsX1_needIndex) := goodIn_app (goodIn_of _ (by decide +kernel)) ggX1_needRing_X1_needIndex
theorem dX1_needRing_0 : decode cX1_needRing 0 = .ok (.iload_n 1, 1) := by decide +kernel
theorem dX1_needRing_1 : decode cX1_needRing 1 = .ok (.aload_n 0, 1) := by decide +kernel
theorem dX1_needRing_2 : decode cX1_needRing 2 = .ok (.getfield 149, 3) := by decide +kernel
theorem dX1_needRing_5 : decode cX1_needRing 5 = .ok (.iconst 1, 1) := by decide +kernel
theorem dX1_needRing_6 : decode cX1_needRing 6 = .ok (.iadd, 1) := by decide +kernel
theorem dX1_needRing_7 : decode cX1_needRing 7 = .ok (.invokestatic 57, 3) := by decide +kernel
theorem dX1_needRing_10 : decode cX1_needRing 10 = .ok (.return_, 1) := by decide +kernel
theorem dX1_needIndex_0 : decode cX1_needIndex 0 = .ok (.iload_n 0, 1) := by decide +kernel
theorem dX1_needIndex_1 : decode cX1_needIndex 1 = .ok (.ifCond .lt 8, 3) := by decide +kernel
theorem dX1_needIndex_4 : decode cX1_needIndex 4 = .ok (.iload_n 0, 1) := by decide +kernel
theorem dX1_needIndex_5 : decode cX1_needIndex 5 = .ok (.iload_n 1, 1) := by decide +kernel
theorem dX1_needIndex_6 : decode cX1_needIndex 6 = .ok (.if_icmp .lt 11, 3) := by decide +kernel
theorem dX1_needIndex_9 : decode cX1_needIndex 9 = .ok (.new 181, 3) := by decide +kernel
theorem dX1_needIndex_12 : decode cX1_needIndex 12 = .ok (.dup, 1) := by decide +kernel
theorem dX1_needIndex_13 : decode cX1_needIndex 13 = .ok (.invokespecial 183, 3) := by decide +kernel
theorem dX1_needIndex_16 : decode cX1_needIndex 16 = .ok (.athrow, 1) := by decide +kernel
theorem dX1_needIndex_17 : decode cX1_needIndex 17 = .ok (.return_, 1) := by decide +kernel
theorem dX1_needNumber_0 : decode cX1_needNumber 0 = .ok (.iload_n 0, 1) := by decide +kernel
theorem dX1_needNumber_1 : decode cX1_needNumber 1 = .ok (.iload_n 1, 1) := by decide +kernel
theorem dX1_needNumber_2 : decode cX1_needNumber 2 = .ok (.if_icmp .lt 8, 3) := by decide +kernel
theorem dX1_needNumber_5 : decode cX1_needNumber 5 = .ok (.iload_n 0, 1) := by decide +kernel
theorem dX1_needNumber_6 : decode cX1_needNumber 6 = .ok (.iload_n 2, 1) := by decide +kernel
theorem dX1_needNumber_7 : decode cX1_needNumber 7 = .ok (.if_icmp .le 11, 3) := by decide +kernel
theorem dX1_needNumber_10 : decode cX1_needNumber 10 = .ok (.new 184, 3) := by decide +kernel
theorem dX1_needNumber_13 : decode cX1_needNumber 13 = .ok (.dup, 1) := by decide +kernel
theorem dX1_needNumber_14 : decode cX1_needNumber 14 = .ok (.invokespecial 186, 3) := by decide +kernel
theorem dX1_needNumber_17 : decode cX1_needNumber 17 = .ok (.athrow, 1) := by decide +kernel
theorem dX1_needNumber_18 : decode cX1_needNumber 18 = .ok (.return_, 1) := by decide +kernel
set_option maxRecDepth 20000 in
theorem ggX1_needDoor_X1_needRoom : GoodIn wsX1_needDoor wsX1_needRoom := goodIn_ca (goodIn_r _ [7, 8, 9, 10, 6, 11, 12, 13, 31, 32, 33, 34, 35, 36, 37, 38, 39, 40, 41] (by decide +kernel) (by decide +kernel)) (goodIn_sub (fun _ h => List.mem_cons_of_mem _ (List.mem_append_right _ h)) (by decide +kernel))
set_option maxRecDepth 20000 in
theorem gX1_needDoor_X1_needRoom : GoodIn wsX1_needDoor (wsV RX1 54 RX1 yX1_needRoom wsX1_needRoom) := goodIn_app (goodIn_of _ (by decide +kernel)) ggX1_needDoor_X1_needRoom
set_option maxRecDepth 20000 in
theorem ggX1_needDoor_X1_needIndex : GoodIn wsX1_needDoor wsX1_needIndex := goodIn_ca (goodIn_r _ [11, 12, 13] (by decide +kernel) (by decide +kernel)) (goodIn_sub (fun _ h => List.mem_cons_of_mem _ (List.mem_append_right _ h)) (by decide +kernel))
set_option maxRecDepth 20000 in
theorem gX1_needDoor_X1_needIndex : GoodIn wsX1_needDoor (va_wsS RX1 57 yX1_needIndex wsX1_needIndex) := goodIn_app (goodIn_of _ (by decide +kernel)) ggX1_needDoor_X1_needIndex
set_option maxRecDepth 20000 in
theorem ggX1_needDoor_X1_neighbour : GoodIn wsX1_needDoor wsX1_neighbour := goodIn_r _ [17, 18, 19, 20, 21, 22, 23, 24, 25, 6, 26, 27, 28, 29, 30, 8, 31, 32, 33, 34, 35, 36, 37, 38, 39, 40, 41, 42, 43, 44, 45, 46] (by decide +kernel) (by decide +kernel)
set_option maxRecDepth 20000 in
theorem gX1_needDoor_X1_neighbour : GoodIn wsX1_needDoor (wsV RX1 117 RX1 yX1_neighbour wsX1_neighbour) := goodIn_app (goodIn_of _ (by decide +kernel)) ggX1_needDoor_X1_neighbour
theorem dX1_needDoor_0 : decode cX1_needDoor 0 = .ok (.aload_n 0, 1) := by decide +kernel
theorem dX1_needDoor_1 : decode cX1_needDoor 1 = .ok (.iload_n 1, 1) := by decide +kernel
theorem dX1_needDoor_2 : decode cX1_needDoor 2 = .ok (.invokevirtual 54, 3) := by decide +kernel
theorem dX1_needDoor_5 : decode cX1_needDoor 5 = .ok (.iload_n 2, 1) := by decide +kernel
theorem dX1_needDoor_6 : decode cX1_needDoor 6 = .ok (.bipush 6, 2) := by decide +kernel
theorem dX1_needDoor_8 : decode cX1_needDoor 8 = .ok (.invokestatic 57, 3) := by decide +kernel
theorem dX1_needDoor_11 : decode cX1_needDoor 11 = .ok (.aload_n 0, 1) := by decide +kernel
theorem dX1_needDoor_12 : decode cX1_needDoor 12 = .ok (.iload_n 1, 1) := by decide +kernel
theorem dX1_needDoor_13 : decode cX1_needDoor 13 = .ok (.iload_n 2, 1) := by decide +kernel
theorem dX1_needDoor_14 : decode cX1_needDoor 14 = .ok (.invokevirtual 117, 3) := by decide +kernel
theorem dX1_needDoor_17 : decode cX1_needDoor 17 = .ok (.istore_n 3, 1) := by decide +kernel
theorem dX1_needDoor_18 : decode cX1_needDoor 18 = .ok (.iload_n 3, 1) := by decide +kernel
theorem dX1_needDoor_19 : decode cX1_needDoor 19 = .ok (.iconst (-1), 1) := by decide +kernel
theorem dX1_needDoor_20 : decode cX1_needDoor 20 = .ok (.if_icmp .ne 11, 3) := by decide +kernel
theorem dX1_needDoor_23 : decode cX1_needDoor 23 = .ok (.new 187, 3) := by decide +kernel
theorem dX1_needDoor_26 : decode cX1_needDoor 26 = .ok (.dup, 1) := by decide +kernel
theorem dX1_needDoor_27 : decode cX1_needDoor 27 = .ok (.invokespecial 189, 3) := by decide +kernel
theorem dX1_needDoor_30 : decode cX1_needDoor 30 = .ok (.athrow, 1) := by decide +kernel
theorem dX1_needDoor_31 : decode cX1_needDoor 31 = .ok (.iload_n 3, 1) := by decide +kernel
theorem dX1_needDoor_32 : decode cX1_needDoor 32 = .ok (.ireturn, 1) := by decide +kernel
set_option maxRecDepth 20000 in
theorem ggX1_build_X0_firstRoomOf : GoodIn wsX1_build wsX0_firstRoomOf := goodIn_r _ [9] (by decide +kernel) (by decide +kernel)
set_option maxRecDepth 20000 in
theorem gX1_build_X0_firstRoomOf : GoodIn wsX1_build (va_wsS RX1 83 yX0_firstRoomOf wsX0_firstRoomOf) := goodIn_app (goodIn_of _ (by decide +kernel)) ggX1_build_X0_firstRoomOf
set_option maxRecDepth 20000 in
theorem ggX1_build_J7_fill_53178 : GoodIn wsX1_build wsJ7_fill_53178 := goodIn_r _ [13] (by decide +kernel) (by decide +kernel)
set_option maxRecDepth 20000 in
theorem gX1_build_J7_fill_53178 : GoodIn wsX1_build (va_wsS RX1 190 yJ7_fill_53178 wsJ7_fill_53178) := goodIn_app (goodIn_of _ (by decide +kernel)) ggX1_build_J7_fill_53178
theorem dX1_build_0 : decode cX1_build 0 = .ok (.aload_n 0, 1) := by decide +kernel
theorem dX1_build_1 : decode cX1_build 1 = .ok (.iload_n 1, 1) := by decide +kernel
theorem dX1_build_2 : decode cX1_build 2 = .ok (.putfield 149, 3) := by decide +kernel
theorem dX1_build_5 : decode cX1_build 5 = .ok (.aload_n 0, 1) := by decide +kernel
theorem dX1_build_6 : decode cX1_build 6 = .ok (.iload_n 1, 1) := by decide +kernel
theorem dX1_build_7 : decode cX1_build 7 = .ok (.iconst 1, 1) := by decide +kernel
theorem dX1_build_8 : decode cX1_build 8 = .ok (.iadd, 1) := by decide +kernel
theorem dX1_build_9 : decode cX1_build 9 = .ok (.invokestatic 83, 3) := by decide +kernel
theorem dX1_build_12 : decode cX1_build 12 = .ok (.putfield 50, 3) := by decide +kernel
theorem dX1_build_15 : decode cX1_build 15 = .ok (.aload_n 0, 1) := by decide +kernel
theorem dX1_build_16 : decode cX1_build 16 = .ok (.getfield 16, 3) := by decide +kernel
theorem dX1_build_19 : decode cX1_build 19 = .ok (.iconst 0, 1) := by decide +kernel
theorem dX1_build_20 : decode cX1_build 20 = .ok (.invokestatic 190, 3) := by decide +kernel
theorem dX1_build_23 : decode cX1_build 23 = .ok (.iconst 0, 1) := by decide +kernel
theorem dX1_build_24 : decode cX1_build 24 = .ok (.istore_n 2, 1) := by decide +kernel
theorem dX1_build_25 : decode cX1_build 25 = .ok (.iload_n 2, 1) := by decide +kernel
theorem dX1_build_26 : decode cX1_build 26 = .ok (.aload_n 0, 1) := by decide +kernel
theorem dX1_build_27 : decode cX1_build 27 = .ok (.getfield 20, 3) := by decide +kernel
theorem dX1_build_30 : decode cX1_build 30 = .ok (.arraylength, 1) := by decide +kernel
theorem dX1_build_31 : decode cX1_build 31 = .ok (.if_icmp .ge 16, 3) := by decide +kernel
theorem dX1_build_34 : decode cX1_build 34 = .ok (.aload_n 0, 1) := by decide +kernel
theorem dX1_build_35 : decode cX1_build 35 = .ok (.getfield 20, 3) := by decide +kernel
theorem dX1_build_38 : decode cX1_build 38 = .ok (.iload_n 2, 1) := by decide +kernel
theorem dX1_build_39 : decode cX1_build 39 = .ok (.iconst 0, 1) := by decide +kernel
theorem dX1_build_40 : decode cX1_build 40 = .ok (.bastore, 1) := by decide +kernel
theorem dX1_build_41 : decode cX1_build 41 = .ok (.iinc 2 1, 3) := by decide +kernel
theorem dX1_build_44 : decode cX1_build 44 = .ok (.goto (-19), 3) := by decide +kernel
theorem dX1_build_47 : decode cX1_build 47 = .ok (.aload_n 0, 1) := by decide +kernel
theorem dX1_build_48 : decode cX1_build 48 = .ok (.getfield 24, 3) := by decide +kernel
theorem dX1_build_51 : decode cX1_build 51 = .ok (.iconst 0, 1) := by decide +kernel
theorem dX1_build_52 : decode cX1_build 52 = .ok (.invokestatic 190, 3) := by decide +kernel
theorem dX1_build_55 : decode cX1_build 55 = .ok (.return_, 1) := by decide +kernel
theorem dX1_orNone_0 : decode cX1_orNone 0 = .ok (.iload_n 1, 1) := by decide +kernel
theorem dX1_orNone_1 : decode cX1_orNone 1 = .ok (.aload_n 0, 1) := by decide +kernel
theorem dX1_orNone_2 : decode cX1_orNone 2 = .ok (.getfield 50, 3) := by decide +kernel
theorem dX1_orNone_5 : decode cX1_orNone 5 = .ok (.if_icmp .ge 7, 3) := by decide +kernel
theorem dX1_orNone_8 : decode cX1_orNone 8 = .ok (.iload_n 1, 1) := by decide +kernel
theorem dX1_orNone_9 : decode cX1_orNone 9 = .ok (.goto 4, 3) := by decide +kernel
theorem dX1_orNone_12 : decode cX1_orNone 12 = .ok (.iconst (-1), 1) := by decide +kernel
theorem dX1_orNone_13 : decode cX1_orNone 13 = .ok (.ireturn, 1) := by decide +kernel
set_option maxRecDepth 20000 in
theorem ggX1_neighbour_X0_nextTo : GoodIn wsX1_neighbour wsX0_nextTo := goodIn_r _ [6, 7, 8, 9, 10, 27, 28, 29, 30, 31] (by decide +kernel) (by decide +kernel)
set_option maxRecDepth 20000 in
theorem gX1_neighbour_X0_nextTo : GoodIn wsX1_neighbour (wsV RX1 196 RX0 yX0_nextTo wsX0_nextTo) := goodIn_app (goodIn_of _ (by decide +kernel)) ggX1_neighbour_X0_nextTo
set_option maxRecDepth 20000 in
theorem ggX1_neighbour_X1_orNone : GoodIn wsX1_neighbour wsX1_orNone := goodIn_r _ [14, 15, 16, 17, 18, 19, 20, 21, 22, 23, 24, 25, 26] (by decide +kernel) (by decide +kernel)
set_option maxRecDepth 20000 in
theorem gX1_neighbour_X1_orNone : GoodIn wsX1_neighbour (wsV RX1 102 RX1 yX1_orNone wsX1_orNone) := goodIn_app (goodIn_of _ (by decide +kernel)) ggX1_neighbour_X1_orNone
theorem dX1_neighbour_0 : decode cX1_neighbour 0 = .ok (.aload_n 0, 1) := by decide +kernel
theorem dX1_neighbour_1 : decode cX1_neighbour 1 = .ok (.aload_n 0, 1) := by decide +kernel
theorem dX1_neighbour_2 : decode cX1_neighbour 2 = .ok (.getfield 12, 3) := by decide +kernel
theorem dX1_neighbour_5 : decode cX1_neighbour 5 = .ok (.iload_n 1, 1) := by decide +kernel
theorem dX1_neighbour_6 : decode cX1_neighbour 6 = .ok (.iload_n 2, 1) := by decide +kernel
theorem dX1_neighbour_7 : decode cX1_neighbour 7 = .ok (.invokevirtual 196, 3) := by decide +kernel
theorem dX1_neighbour_10 : decode cX1_neighbour 10 = .ok (.invokevirtual 102, 3) := by decide +kernel
theorem dX1_neighbour_13 : decode cX1_neighbour 13 = .ok (.ireturn, 1) := by decide +kernel
theorem dX1_opposite_0 : decode cX1_opposite 0 = .ok (.iload_n 0, 1) := by decide +kernel
theorem dX1_opposite_1 : decode cX1_opposite 1 = .ok (.iconst 3, 1) := by decide +kernel
theorem dX1_opposite_2 : decode cX1_opposite 2 = .ok (.iadd, 1) := by decide +kernel
theorem dX1_opposite_3 : decode cX1_opposite 3 = .ok (.bipush 6, 2) := by decide +kernel
theorem dX1_opposite_5 : decode cX1_opposite 5 = .ok (.irem, 1) := by decide +kernel
theorem dX1_opposite_6 : decode cX1_opposite 6 = .ok (.ireturn, 1) := by decide +kernel
theorem dX1_doorOf_0 : decode cX1_doorOf 0 = .ok (.iload_n 0, 1) := by decide +kernel
theorem dX1_doorOf_1 : decode cX1_doorOf 1 = .ok (.bipush 6, 2) := by decide +kernel
theorem dX1_doorOf_3 : decode cX1_doorOf 3 = .ok (.imul, 1) := by decide +kernel
theorem dX1_doorOf_4 : decode cX1_doorOf 4 = .ok (.iload_n 1, 1) := by decide +kernel
theorem dX1_doorOf_5 : decode cX1_doorOf 5 = .ok (.iadd, 1) := by decide +kernel
theorem dX1_doorOf_6 : decode cX1_doorOf 6 = .ok (.ireturn, 1) := by decide +kernel
set_option maxRecDepth 20000 in
theorem ggX1_onward_X1_neighbour : GoodIn wsX1_onward wsX1_neighbour := goodIn_r _ [6, 7, 8, 9, 10, 11, 12, 13, 14, 5, 15, 16, 17, 18, 19, 20, 22, 23, 24, 25, 26, 27, 28, 29, 30, 31, 32, 33, 34, 35, 36, 37] (by decide +kernel) (by decide +kernel)
set_option maxRecDepth 20000 in
theorem gX1_onward_X1_neighbour : GoodIn wsX1_onward (wsV RX1 117 RX1 yX1_neighbour wsX1_neighbour) := goodIn_app (goodIn_of _ (by decide +kernel)) ggX1_onward_X1_neighbour
set_option maxRecDepth 20000 in
theorem ggX1_onward_X1_doorOf : GoodIn wsX1_onward wsX1_doorOf := goodIn_r _ [15] (by decide +kernel) (by decide +kernel)
set_option maxRecDepth 20000 in
theorem gX1_onward_X1_doorOf : GoodIn wsX1_onward (va_wsS RX1 69 yX1_doorOf wsX1_doorOf) := goodIn_app (goodIn_of _ (by decide +kernel)) ggX1_onward_X1_doorOf
theorem dX1_onward_0 : decode cX1_onward 0 = .ok (.aload_n 0, 1) := by decide +kernel
theorem dX1_onward_1 : decode cX1_onward 1 = .ok (.iload_n 2, 1) := by decide +kernel
theorem dX1_onward_2 : decode cX1_onward 2 = .ok (.iload_n 3, 1) := by decide +kernel
theorem dX1_onward_3 : decode cX1_onward 3 = .ok (.invokevirtual 117, 3) := by decide +kernel
theorem dX1_onward_6 : decode cX1_onward 6 = .ok (.istore 4, 2) := by decide +kernel
theorem dX1_onward_8 : decode cX1_onward 8 = .ok (.iload 4, 2) := by decide +kernel
theorem dX1_onward_10 : decode cX1_onward 10 = .ok (.iconst (-1), 1) := by decide +kernel
theorem dX1_onward_11 : decode cX1_onward 11 = .ok (.if_icmp .eq 24, 3) := by decide +kernel
theorem dX1_onward_14 : decode cX1_onward 14 = .ok (.aload_n 0, 1) := by decide +kernel
theorem dX1_onward_15 : decode cX1_onward 15 = .ok (.getfield 20, 3) := by decide +kernel
theorem dX1_onward_18 : decode cX1_onward 18 = .ok (.iload_n 2, 1) := by decide +kernel
theorem dX1_onward_19 : decode cX1_onward 19 = .ok (.iload_n 3, 1) := by decide +kernel
theorem dX1_onward_20 : decode cX1_onward 20 = .ok (.invokestatic 69, 3) := by decide +kernel
theorem dX1_onward_23 : decode cX1_onward 23 = .ok (.baload, 1) := by decide +kernel
theorem dX1_onward_24 : decode cX1_onward 24 = .ok (.ifCond .ne 11, 3) := by decide +kernel
theorem dX1_onward_27 : decode cX1_onward 27 = .ok (.aload_n 1, 1) := by decide +kernel
theorem dX1_onward_28 : decode cX1_onward 28 = .ok (.iload 4, 2) := by decide +kernel
theorem dX1_onward_30 : decode cX1_onward 30 = .ok (.iaload, 1) := by decide +kernel
theorem dX1_onward_31 : decode cX1_onward 31 = .ok (.iconst 1, 1) := by decide +kernel
theorem dX1_onward_32 : decode cX1_onward 32 = .ok (.if_icmp .ne 5, 3) := by decide +kernel
theorem dX1_onward_35 : decode cX1_onward 35 = .ok (.iconst (-1), 1) := by decide +kernel
theorem dX1_onward_36 : decode cX1_onward 36 = .ok (.ireturn, 1) := by decide +kernel
theorem dX1_onward_37 : decode cX1_onward 37 = .ok (.iload 4, 2) := by decide +kernel
theorem dX1_onward_39 : decode cX1_onward 39 = .ok (.ireturn, 1) := by decide +kernel
set_option maxRecDepth 20000 in
theorem ggX1_sidesOnward_X1_onward : GoodIn wsX1_sidesOnward wsX1_onward := goodIn_r _ [6, 7, 8, 9, 10, 5, 11, 12, 13, 14, 15, 16, 17, 18, 19, 20, 21, 22, 23, 24, 25, 26, 27, 28, 29, 30, 31, 32, 33, 34, 35, 36, 37, 38, 39, 40, 41, 42] (by decide +kernel) (by decide +kernel)
set_option maxRecDepth 20000 in
theorem gX1_sidesOnward_X1_onward : GoodIn wsX1_sidesOnward (wsV RX1 132 RX1 yX1_onward wsX1_onward) := goodIn_app (goodIn_of _ (by decide +kernel)) ggX1_sidesOnward_X1_onward
theorem dX1_sidesOnward_0 : decode cX1_sidesOnward 0 = .ok (.iconst 0, 1) := by decide +kernel
theorem dX1_sidesOnward_1 : decode cX1_sidesOnward 1 = .ok (.istore_n 2, 1) := by decide +kernel
theorem dX1_sidesOnward_2 : decode cX1_sidesOnward 2 = .ok (.iconst 0, 1) := by decide +kernel
theorem dX1_sidesOnward_3 : decode cX1_sidesOnward 3 = .ok (.istore_n 3, 1) := by decide +kernel
theorem dX1_sidesOnward_4 : decode cX1_sidesOnward 4 = .ok (.iload_n 3, 1) := by decide +kernel
theorem dX1_sidesOnward_5 : decode cX1_sidesOnward 5 = .ok (.bipush 6, 2) := by decide +kernel
theorem dX1_sidesOnward_7 : decode cX1_sidesOnward 7 = .ok (.if_icmp .ge 26, 3) := by decide +kernel
theorem dX1_sidesOnward_10 : decode cX1_sidesOnward 10 = .ok (.aload_n 0, 1) := by decide +kernel
theorem dX1_sidesOnward_11 : decode cX1_sidesOnward 11 = .ok (.aload_n 0, 1) := by decide +kernel
theorem dX1_sidesOnward_12 : decode cX1_sidesOnward 12 = .ok (.getfield 16, 3) := by decide +kernel
theorem dX1_sidesOnward_15 : decode cX1_sidesOnward 15 = .ok (.iload_n 1, 1) := by decide +kernel
theorem dX1_sidesOnward_16 : decode cX1_sidesOnward 16 = .ok (.iload_n 3, 1) := by decide +kernel
theorem dX1_sidesOnward_17 : decode cX1_sidesOnward 17 = .ok (.invokevirtual 132, 3) := by decide +kernel
theorem dX1_sidesOnward_20 : decode cX1_sidesOnward 20 = .ok (.iconst (-1), 1) := by decide +kernel
theorem dX1_sidesOnward_21 : decode cX1_sidesOnward 21 = .ok (.if_icmp .eq 6, 3) := by decide +kernel
theorem dX1_sidesOnward_24 : decode cX1_sidesOnward 24 = .ok (.iinc 2 1, 3) := by decide +kernel
theorem dX1_sidesOnward_27 : decode cX1_sidesOnward 27 = .ok (.iinc 3 1, 3) := by decide +kernel
theorem dX1_sidesOnward_30 : decode cX1_sidesOnward 30 = .ok (.goto (-26), 3) := by decide +kernel
theorem dX1_sidesOnward_33 : decode cX1_sidesOnward 33 = .ok (.iload_n 2, 1) := by decide +kernel
theorem dX1_sidesOnward_34 : decode cX1_sidesOnward 34 = .ok (.ireturn, 1) := by decide +kernel
theorem dX1_standing_0 : decode cX1_standing 0 = .ok (.iconst 0, 1) := by decide +kernel
theorem dX1_standing_1 : decode cX1_standing 1 = .ok (.istore 4, 2) := by decide +kernel
theorem dX1_standing_3 : decode cX1_standing 3 = .ok (.iload_n 2, 1) := by decide +kernel
theorem dX1_standing_4 : decode cX1_standing 4 = .ok (.istore 5, 2) := by decide +kernel
theorem dX1_standing_6 : decode cX1_standing 6 = .ok (.iload 5, 2) := by decide +kernel
theorem dX1_standing_8 : decode cX1_standing 8 = .ok (.iload_n 3, 1) := by decide +kernel
theorem dX1_standing_9 : decode cX1_standing 9 = .ok (.if_icmp .ge 23, 3) := by decide +kernel
theorem dX1_standing_12 : decode cX1_standing 12 = .ok (.aload_n 0, 1) := by decide +kernel
theorem dX1_standing_13 : decode cX1_standing 13 = .ok (.getfield 16, 3) := by decide +kernel
theorem dX1_standing_16 : decode cX1_standing 16 = .ok (.iload 5, 2) := by decide +kernel
theorem dX1_standing_18 : decode cX1_standing 18 = .ok (.iaload, 1) := by decide +kernel
theorem dX1_standing_19 : decode cX1_standing 19 = .ok (.iload_n 1, 1) := by decide +kernel
theorem dX1_standing_20 : decode cX1_standing 20 = .ok (.if_icmp .ne 6, 3) := by decide +kernel
theorem dX1_standing_23 : decode cX1_standing 23 = .ok (.iinc 4 1, 3) := by decide +kernel
theorem dX1_standing_26 : decode cX1_standing 26 = .ok (.iinc 5 1, 3) := by decide +kernel
theorem dX1_standing_29 : decode cX1_standing 29 = .ok (.goto (-23), 3) := by decide +kernel
theorem dX1_standing_32 : decode cX1_standing 32 = .ok (.iload 4, 2) := by decide +kernel
theorem dX1_standing_34 : decode cX1_standing 34 = .ok (.ireturn, 1) := by decide +kernel
theorem dX1_litAmong_0 : decode cX1_litAmong 0 = .ok (.iconst 0, 1) := by decide +kernel
theorem dX1_litAmong_1 : decode cX1_litAmong 1 = .ok (.istore_n 3, 1) := by decide +kernel
theorem dX1_litAmong_2 : decode cX1_litAmong 2 = .ok (.iload_n 1, 1) := by decide +kernel
theorem dX1_litAmong_3 : decode cX1_litAmong 3 = .ok (.istore 4, 2) := by decide +kernel
theorem dX1_litAmong_5 : decode cX1_litAmong 5 = .ok (.iload 4, 2) := by decide +kernel
theorem dX1_litAmong_7 : decode cX1_litAmong 7 = .ok (.iload_n 2, 1) := by decide +kernel
theorem dX1_litAmong_8 : decode cX1_litAmong 8 = .ok (.if_icmp .ge 19, 3) := by decide +kernel
theorem dX1_litAmong_11 : decode cX1_litAmong 11 = .ok (.aload_n 0, 1) := by decide +kernel
theorem dX1_litAmong_12 : decode cX1_litAmong 12 = .ok (.iload 4, 2) := by decide +kernel
theorem dX1_litAmong_14 : decode cX1_litAmong 14 = .ok (.iaload, 1) := by decide +kernel
theorem dX1_litAmong_15 : decode cX1_litAmong 15 = .ok (.ifCond .le 6, 3) := by decide +kernel
theorem dX1_litAmong_18 : decode cX1_litAmong 18 = .ok (.iinc 3 1, 3) := by decide +kernel
theorem dX1_litAmong_21 : decode cX1_litAmong 21 = .ok (.iinc 4 1, 3) := by decide +kernel
theorem dX1_litAmong_24 : decode cX1_litAmong 24 = .ok (.goto (-19), 3) := by decide +kernel
theorem dX1_litAmong_27 : decode cX1_litAmong 27 = .ok (.iload_n 3, 1) := by decide +kernel
theorem dX1_litAmong_28 : decode cX1_litAmong 28 = .ok (.ireturn, 1) := by decide +kernel
set_option maxRecDepth 20000 in
theorem ggX1_doorsShut_X1_doorOf : GoodIn wsX1_doorsShut wsX1_doorOf := goodIn_r _ [6] (by decide +kernel) (by decide +kernel)
set_option maxRecDepth 20000 in
theorem gX1_doorsShut_X1_doorOf : GoodIn wsX1_doorsShut (va_wsS RX1 69 yX1_doorOf wsX1_doorOf) := goodIn_app (goodIn_of _ (by decide +kernel)) ggX1_doorsShut_X1_doorOf
theorem dX1_doorsShut_0 : decode cX1_doorsShut 0 = .ok (.iconst 0, 1) := by decide +kernel
theorem dX1_doorsShut_1 : decode cX1_doorsShut 1 = .ok (.istore_n 1, 1) := by decide +kernel
theorem dX1_doorsShut_2 : decode cX1_doorsShut 2 = .ok (.iconst 0, 1) := by decide +kernel
theorem dX1_doorsShut_3 : decode cX1_doorsShut 3 = .ok (.istore_n 2, 1) := by decide +kernel
theorem dX1_doorsShut_4 : decode cX1_doorsShut 4 = .ok (.iload_n 2, 1) := by decide +kernel
theorem dX1_doorsShut_5 : decode cX1_doorsShut 5 = .ok (.aload_n 0, 1) := by decide +kernel
theorem dX1_doorsShut_6 : decode cX1_doorsShut 6 = .ok (.getfield 50, 3) := by decide +kernel
theorem dX1_doorsShut_9 : decode cX1_doorsShut 9 = .ok (.if_icmp .ge 38, 3) := by decide +kernel
theorem dX1_doorsShut_12 : decode cX1_doorsShut 12 = .ok (.iconst 0, 1) := by decide +kernel
theorem dX1_doorsShut_13 : decode cX1_doorsShut 13 = .ok (.istore_n 3, 1) := by decide +kernel
theorem dX1_doorsShut_14 : decode cX1_doorsShut 14 = .ok (.iload_n 3, 1) := by decide +kernel
theorem dX1_doorsShut_15 : decode cX1_doorsShut 15 = .ok (.iconst 3, 1) := by decide +kernel
theorem dX1_doorsShut_16 : decode cX1_doorsShut 16 = .ok (.if_icmp .ge 25, 3) := by decide +kernel
theorem dX1_doorsShut_19 : decode cX1_doorsShut 19 = .ok (.aload_n 0, 1) := by decide +kernel
theorem dX1_doorsShut_20 : decode cX1_doorsShut 20 = .ok (.getfield 20, 3) := by decide +kernel
theorem dX1_doorsShut_23 : decode cX1_doorsShut 23 = .ok (.iload_n 2, 1) := by decide +kernel
theorem dX1_doorsShut_24 : decode cX1_doorsShut 24 = .ok (.iload_n 3, 1) := by decide +kernel
theorem dX1_doorsShut_25 : decode cX1_doorsShut 25 = .ok (.invokestatic 69, 3) := by decide +kernel
theorem dX1_doorsShut_28 : decode cX1_doorsShut 28 = .ok (.baload, 1) := by decide +kernel
theorem dX1_doorsShut_29 : decode cX1_doorsShut 29 = .ok (.ifCond .eq 6, 3) := by decide +kernel
theorem dX1_doorsShut_32 : decode cX1_doorsShut 32 = .ok (.iinc 1 1, 3) := by decide +kernel
theorem dX1_doorsShut_35 : decode cX1_doorsShut 35 = .ok (.iinc 3 1, 3) := by decide +kernel
theorem dX1_doorsShut_38 : decode cX1_doorsShut 38 = .ok (.goto (-24), 3) := by decide +kernel
theorem dX1_doorsShut_41 : decode cX1_doorsShut 41 = .ok (.iinc 2 1, 3) := by decide +kernel
theorem dX1_doorsShut_44 : decode cX1_doorsShut 44 = .ok (.goto (-40), 3) := by decide +kernel
theorem dX1_doorsShut_47 : decode cX1_doorsShut 47 = .ok (.iload_n 1, 1) := by decide +kernel
theorem dX1_doorsShut_48 : decode cX1_doorsShut 48 = .ok (.ireturn, 1) := by decide +kernel
set_option maxRecDepth 20000 in
theorem ggX1_parts_X1_forgetSteps : GoodIn wsX1_parts wsX1_forgetSteps := goodIn_r _ [8, 3, 9, 10, 11, 12, 41, 42, 43, 44, 45, 46, 47, 48, 49, 50, 51] (by decide +kernel) (by decide +kernel)
set_option maxRecDepth 20000 in
theorem gX1_parts_X1_forgetSteps : GoodIn wsX1_parts (wsV RX1 136 RX1 yX1_forgetSteps wsX1_forgetSteps) := goodIn_app (goodIn_of _ (by decide +kernel)) ggX1_parts_X1_forgetSteps
set_option maxRecDepth 20000 in
theorem ggX1_parts_X1_spreadFrom : GoodIn wsX1_parts wsX1_spreadFrom := goodIn_r _ [16, 3, 17, 2, 18, 19, 20, 7, 21, 22, 23, 24, 25, 26, 27, 28, 29, 30, 31, 32, 33, 34, 35, 36, 37, 38, 39, 1, 40, 41, 42, 43, 44, 45, 46, 47, 48, 49, 50, 51, 52, 53, 54, 55, 56] (by decide +kernel) (by decide +kernel)
set_option maxRecDepth 20000 in
theorem gX1_parts_X1_spreadFrom : GoodIn wsX1_parts (wsV RX1 139 RX1 yX1_spreadFrom wsX1_spreadFrom) := goodIn_app (goodIn_of _ (by decide +kernel)) ggX1_parts_X1_spreadFrom
theorem dX1_parts_0 : decode cX1_parts 0 = .ok (.aload_n 0, 1) := by decide +kernel
theorem dX1_parts_1 : decode cX1_parts 1 = .ok (.invokevirtual 136, 3) := by decide +kernel
theorem dX1_parts_4 : decode cX1_parts 4 = .ok (.iconst 0, 1) := by decide +kernel
theorem dX1_parts_5 : decode cX1_parts 5 = .ok (.istore_n 1, 1) := by decide +kernel
theorem dX1_parts_6 : decode cX1_parts 6 = .ok (.iconst 0, 1) := by decide +kernel
theorem dX1_parts_7 : decode cX1_parts 7 = .ok (.istore_n 2, 1) := by decide +kernel
theorem dX1_parts_8 : decode cX1_parts 8 = .ok (.iload_n 2, 1) := by decide +kernel
theorem dX1_parts_9 : decode cX1_parts 9 = .ok (.aload_n 0, 1) := by decide +kernel
theorem dX1_parts_10 : decode cX1_parts 10 = .ok (.getfield 50, 3) := by decide +kernel
theorem dX1_parts_13 : decode cX1_parts 13 = .ok (.if_icmp .ge 37, 3) := by decide +kernel
theorem dX1_parts_16 : decode cX1_parts 16 = .ok (.aload_n 0, 1) := by decide +kernel
theorem dX1_parts_17 : decode cX1_parts 17 = .ok (.getfield 16, 3) := by decide +kernel
theorem dX1_parts_20 : decode cX1_parts 20 = .ok (.iload_n 2, 1) := by decide +kernel
theorem dX1_parts_21 : decode cX1_parts 21 = .ok (.iaload, 1) := by decide +kernel
theorem dX1_parts_22 : decode cX1_parts 22 = .ok (.iconst 1, 1) := by decide +kernel
theorem dX1_parts_23 : decode cX1_parts 23 = .ok (.if_icmp .eq 21, 3) := by decide +kernel
theorem dX1_parts_26 : decode cX1_parts 26 = .ok (.aload_n 0, 1) := by decide +kernel
theorem dX1_parts_27 : decode cX1_parts 27 = .ok (.getfield 36, 3) := by decide +kernel
theorem dX1_parts_30 : decode cX1_parts 30 = .ok (.iload_n 2, 1) := by decide +kernel
theorem dX1_parts_31 : decode cX1_parts 31 = .ok (.iaload, 1) := by decide +kernel
theorem dX1_parts_32 : decode cX1_parts 32 = .ok (.iconst (-1), 1) := by decide +kernel
theorem dX1_parts_33 : decode cX1_parts 33 = .ok (.if_icmp .ne 11, 3) := by decide +kernel
theorem dX1_parts_36 : decode cX1_parts 36 = .ok (.iinc 1 1, 3) := by decide +kernel
theorem dX1_parts_39 : decode cX1_parts 39 = .ok (.aload_n 0, 1) := by decide +kernel
theorem dX1_parts_40 : decode cX1_parts 40 = .ok (.iload_n 2, 1) := by decide +kernel
theorem dX1_parts_41 : decode cX1_parts 41 = .ok (.invokevirtual 139, 3) := by decide +kernel
theorem dX1_parts_44 : decode cX1_parts 44 = .ok (.iinc 2 1, 3) := by decide +kernel
theorem dX1_parts_47 : decode cX1_parts 47 = .ok (.goto (-39), 3) := by decide +kernel
theorem dX1_parts_50 : decode cX1_parts 50 = .ok (.iload_n 1, 1) := by decide +kernel
theorem dX1_parts_51 : decode cX1_parts 51 = .ok (.ireturn, 1) := by decide +kernel
set_option maxRecDepth 20000 in
theorem ggX1_relight_X1_shine : GoodIn wsX1_relight wsX1_shine := goodIn_r _ [7, 8, 9, 10, 11, 12, 13, 14, 15, 16, 6, 17, 18, 19, 20, 21, 22, 23, 24, 25, 26, 27, 28, 29, 30, 31, 32, 33, 34, 35, 36, 37, 38, 39, 40, 41, 42, 43, 44, 45, 46, 47, 48, 49, 50, 51, 52, 53, 54, 55, 56, 57, 58, 59] (by decide +kernel) (by decide +kernel)
set_option maxRecDepth 20000 in
theorem gX1_relight_X1_shine : GoodIn wsX1_relight (wsV RX1 199 RX1 yX1_shine wsX1_shine) := goodIn_app (goodIn_of _ (by decide +kernel)) ggX1_relight_X1_shine
theorem dX1_relight_0 : decode cX1_relight 0 = .ok (.aload_n 0, 1) := by decide +kernel
theorem dX1_relight_1 : decode cX1_relight 1 = .ok (.aload_n 0, 1) := by decide +kernel
theorem dX1_relight_2 : decode cX1_relight 2 = .ok (.getfield 16, 3) := by decide +kernel
theorem dX1_relight_5 : decode cX1_relight 5 = .ok (.aload_n 0, 1) := by decide +kernel
theorem dX1_relight_6 : decode cX1_relight 6 = .ok (.getfield 24, 3) := by decide +kernel
theorem dX1_relight_9 : decode cX1_relight 9 = .ok (.invokevirtual 199, 3) := by decide +kernel
theorem dX1_relight_12 : decode cX1_relight 12 = .ok (.ireturn, 1) := by decide +kernel
set_option maxRecDepth 20000 in
theorem ggX1_shine_J7_fill_53178 : GoodIn wsX1_shine wsJ7_fill_53178 := goodIn_r _ [6] (by decide +kernel) (by decide +kernel)
set_option maxRecDepth 20000 in
theorem gX1_shine_J7_fill_53178 : GoodIn wsX1_shine (va_wsS RX1 190 yJ7_fill_53178 wsJ7_fill_53178) := goodIn_app (goodIn_of _ (by decide +kernel)) ggX1_shine_J7_fill_53178
set_option maxRecDepth 20000 in
theorem ggX1_shine_X1_beamFrom : GoodIn wsX1_shine wsX1_beamFrom := goodIn_r _ [11, 2, 12, 13, 14, 10, 15, 16, 17, 18, 19, 20, 21, 22, 23, 24, 25, 26, 27, 28, 29, 30, 31, 32, 33, 1, 34, 38, 39, 40, 41, 42, 43, 44, 45, 46, 47, 48, 49, 50, 51, 52, 53] (by decide +kernel) (by decide +kernel)
set_option maxRecDepth 20000 in
theorem gX1_shine_X1_beamFrom : GoodIn wsX1_shine (wsV RX1 125 RX1 yX1_beamFrom wsX1_beamFrom) := goodIn_app (goodIn_of _ (by decide +kernel)) ggX1_shine_X1_beamFrom
set_option maxRecDepth 20000 in
theorem ggX1_shine_X1_litAmong : GoodIn wsX1_shine wsX1_litAmong := goodIn_r _ [37] (by decide +kernel) (by decide +kernel)
set_option maxRecDepth 20000 in
theorem gX1_shine_X1_litAmong : GoodIn wsX1_shine (va_wsS RX1 146 yX1_litAmong wsX1_litAmong) := goodIn_app (goodIn_of _ (by decide +kernel)) ggX1_shine_X1_litAmong
theorem dX1_shine_0 : decode cX1_shine 0 = .ok (.aload_n 2, 1) := by decide +kernel
theorem dX1_shine_1 : decode cX1_shine 1 = .ok (.iconst 0, 1) := by decide +kernel
theorem dX1_shine_2 : decode cX1_shine 2 = .ok (.invokestatic 190, 3) := by decide +kernel
theorem dX1_shine_5 : decode cX1_shine 5 = .ok (.iconst 0, 1) := by decide +kernel
theorem dX1_shine_6 : decode cX1_shine 6 = .ok (.istore_n 3, 1) := by decide +kernel
theorem dX1_shine_7 : decode cX1_shine 7 = .ok (.iload_n 3, 1) := by decide +kernel
theorem dX1_shine_8 : decode cX1_shine 8 = .ok (.aload_n 0, 1) := by decide +kernel
theorem dX1_shine_9 : decode cX1_shine 9 = .ok (.getfield 50, 3) := by decide +kernel
theorem dX1_shine_12 : decode cX1_shine 12 = .ok (.if_icmp .ge 57, 3) := by decide +kernel
theorem dX1_shine_15 : decode cX1_shine 15 = .ok (.aload_n 1, 1) := by decide +kernel
theorem dX1_shine_16 : decode cX1_shine 16 = .ok (.iload_n 3, 1) := by decide +kernel
theorem dX1_shine_17 : decode cX1_shine 17 = .ok (.iaload, 1) := by decide +kernel
theorem dX1_shine_18 : decode cX1_shine 18 = .ok (.iconst 2, 1) := by decide +kernel
theorem dX1_shine_19 : decode cX1_shine 19 = .ok (.if_icmp .ne 12, 3) := by decide +kernel
theorem dX1_shine_22 : decode cX1_shine 22 = .ok (.aload_n 0, 1) := by decide +kernel
theorem dX1_shine_23 : decode cX1_shine 23 = .ok (.aload_n 1, 1) := by decide +kernel
theorem dX1_shine_24 : decode cX1_shine 24 = .ok (.iload_n 3, 1) := by decide +kernel
theorem dX1_shine_25 : decode cX1_shine 25 = .ok (.invokevirtual 125, 3) := by decide +kernel
theorem dX1_shine_28 : decode cX1_shine 28 = .ok (.goto 4, 3) := by decide +kernel
theorem dX1_shine_31 : decode cX1_shine 31 = .ok (.iconst 0, 1) := by decide +kernel
theorem dX1_shine_32 : decode cX1_shine 32 = .ok (.istore 4, 2) := by decide +kernel
theorem dX1_shine_34 : decode cX1_shine 34 = .ok (.iconst 0, 1) := by decide +kernel
theorem dX1_shine_35 : decode cX1_shine 35 = .ok (.istore 5, 2) := by decide +kernel
theorem dX1_shine_37 : decode cX1_shine 37 = .ok (.iload 5, 2) := by decide +kernel
theorem dX1_shine_39 : decode cX1_shine 39 = .ok (.iload 4, 2) := by decide +kernel
theorem dX1_shine_41 : decode cX1_shine 41 = .ok (.if_icmp .ge 22, 3) := by decide +kernel
theorem dX1_shine_44 : decode cX1_shine 44 = .ok (.aload_n 2, 1) := by decide +kernel
theorem dX1_shine_45 : decode cX1_shine 45 = .ok (.aload_n 0, 1) := by decide +kernel
theorem dX1_shine_46 : decode cX1_shine 46 = .ok (.getfield 33, 3) := by decide +kernel
theorem dX1_shine_49 : decode cX1_shine 49 = .ok (.iload 5, 2) := by decide +kernel
theorem dX1_shine_51 : decode cX1_shine 51 = .ok (.iaload, 1) := by decide +kernel
theorem dX1_shine_52 : decode cX1_shine 52 = .ok (.dup2, 1) := by decide +kernel
theorem dX1_shine_53 : decode cX1_shine 53 = .ok (.iaload, 1) := by decide +kernel
theorem dX1_shine_54 : decode cX1_shine 54 = .ok (.iconst 1, 1) := by decide +kernel
theorem dX1_shine_55 : decode cX1_shine 55 = .ok (.iadd, 1) := by decide +kernel
theorem dX1_shine_56 : decode cX1_shine 56 = .ok (.iastore, 1) := by decide +kernel
theorem dX1_shine_57 : decode cX1_shine 57 = .ok (.iinc 5 1, 3) := by decide +kernel
theorem dX1_shine_60 : decode cX1_shine 60 = .ok (.goto (-23), 3) := by decide +kernel
theorem dX1_shine_63 : decode cX1_shine 63 = .ok (.iinc 3 1, 3) := by decide +kernel
theorem dX1_shine_66 : decode cX1_shine 66 = .ok (.goto (-59), 3) := by decide +kernel
theorem dX1_shine_69 : decode cX1_shine 69 = .ok (.aload_n 2, 1) := by decide +kernel
theorem dX1_shine_70 : decode cX1_shine 70 = .ok (.iconst 0, 1) := by decide +kernel
theorem dX1_shine_71 : decode cX1_shine 71 = .ok (.aload_n 0, 1) := by decide +kernel
theorem dX1_shine_72 : decode cX1_shine 72 = .ok (.getfield 50, 3) := by decide +kernel
theorem dX1_shine_75 : decode cX1_shine 75 = .ok (.invokestatic 146, 3) := by decide +kernel
theorem dX1_shine_78 : decode cX1_shine 78 = .ok (.ireturn, 1) := by decide +kernel
set_option maxRecDepth 20000 in
theorem ggX1_beamFrom_X1_onward : GoodIn wsX1_beamFrom wsX1_onward := goodIn_r _ [6, 7, 8, 9, 10, 5, 11, 12, 13, 14, 15, 16, 17, 18, 19, 20, 21, 22, 23, 24, 25, 26, 27, 28, 29, 30, 31, 32, 33, 34, 35, 36, 37, 38, 39, 40, 41, 42] (by decide +kernel) (by decide +kernel)
set_option maxRecDepth 20000 in
theorem gX1_beamFrom_X1_onward : GoodIn wsX1_beamFrom (wsV RX1 132 RX1 yX1_onward wsX1_onward) := goodIn_app (goodIn_of _ (by decide +kernel)) ggX1_beamFrom_X1_onward
theorem dX1_beamFrom_0 : decode cX1_beamFrom 0 = .ok (.aload_n 0, 1) := by decide +kernel
theorem dX1_beamFrom_1 : decode cX1_beamFrom 1 = .ok (.getfield 33, 3) := by decide +kernel
theorem dX1_beamFrom_4 : decode cX1_beamFrom 4 = .ok (.iconst 0, 1) := by decide +kernel
theorem dX1_beamFrom_5 : decode cX1_beamFrom 5 = .ok (.iload_n 2, 1) := by decide +kernel
theorem dX1_beamFrom_6 : decode cX1_beamFrom 6 = .ok (.iastore, 1) := by decide +kernel
theorem dX1_beamFrom_7 : decode cX1_beamFrom 7 = .ok (.iconst 1, 1) := by decide +kernel
theorem dX1_beamFrom_8 : decode cX1_beamFrom 8 = .ok (.istore_n 3, 1) := by decide +kernel
theorem dX1_beamFrom_9 : decode cX1_beamFrom 9 = .ok (.iconst 0, 1) := by decide +kernel
theorem dX1_beamFrom_10 : decode cX1_beamFrom 10 = .ok (.istore 4, 2) := by decide +kernel
theorem dX1_beamFrom_12 : decode cX1_beamFrom 12 = .ok (.iload 4, 2) := by decide +kernel
theorem dX1_beamFrom_14 : decode cX1_beamFrom 14 = .ok (.bipush 6, 2) := by decide +kernel
theorem dX1_beamFrom_16 : decode cX1_beamFrom 16 = .ok (.if_icmp .ge 56, 3) := by decide +kernel
theorem dX1_beamFrom_19 : decode cX1_beamFrom 19 = .ok (.aload_n 0, 1) := by decide +kernel
theorem dX1_beamFrom_20 : decode cX1_beamFrom 20 = .ok (.aload_n 1, 1) := by decide +kernel
theorem dX1_beamFrom_21 : decode cX1_beamFrom 21 = .ok (.iload_n 2, 1) := by decide +kernel
theorem dX1_beamFrom_22 : decode cX1_beamFrom 22 = .ok (.iload 4, 2) := by decide +kernel
theorem dX1_beamFrom_24 : decode cX1_beamFrom 24 = .ok (.invokevirtual 132, 3) := by decide +kernel
theorem dX1_beamFrom_27 : decode cX1_beamFrom 27 = .ok (.istore 5, 2) := by decide +kernel
theorem dX1_beamFrom_29 : decode cX1_beamFrom 29 = .ok (.iload 5, 2) := by decide +kernel
theorem dX1_beamFrom_31 : decode cX1_beamFrom 31 = .ok (.iconst (-1), 1) := by decide +kernel
theorem dX1_beamFrom_32 : decode cX1_beamFrom 32 = .ok (.if_icmp .eq 34, 3) := by decide +kernel
theorem dX1_beamFrom_35 : decode cX1_beamFrom 35 = .ok (.iload_n 3, 1) := by decide +kernel
theorem dX1_beamFrom_36 : decode cX1_beamFrom 36 = .ok (.bipush 91, 2) := by decide +kernel
theorem dX1_beamFrom_38 : decode cX1_beamFrom 38 = .ok (.if_icmp .ge 28, 3) := by decide +kernel
theorem dX1_beamFrom_41 : decode cX1_beamFrom 41 = .ok (.aload_n 0, 1) := by decide +kernel
theorem dX1_beamFrom_42 : decode cX1_beamFrom 42 = .ok (.getfield 33, 3) := by decide +kernel
theorem dX1_beamFrom_45 : decode cX1_beamFrom 45 = .ok (.iload_n 3, 1) := by decide +kernel
theorem dX1_beamFrom_46 : decode cX1_beamFrom 46 = .ok (.iload 5, 2) := by decide +kernel
theorem dX1_beamFrom_48 : decode cX1_beamFrom 48 = .ok (.iastore, 1) := by decide +kernel
theorem dX1_beamFrom_49 : decode cX1_beamFrom 49 = .ok (.iinc 3 1, 3) := by decide +kernel
theorem dX1_beamFrom_52 : decode cX1_beamFrom 52 = .ok (.aload_n 0, 1) := by decide +kernel
theorem dX1_beamFrom_53 : decode cX1_beamFrom 53 = .ok (.aload_n 1, 1) := by decide +kernel
theorem dX1_beamFrom_54 : decode cX1_beamFrom 54 = .ok (.iload 5, 2) := by decide +kernel
theorem dX1_beamFrom_56 : decode cX1_beamFrom 56 = .ok (.iload 4, 2) := by decide +kernel
theorem dX1_beamFrom_58 : decode cX1_beamFrom 58 = .ok (.invokevirtual 132, 3) := by decide +kernel
theorem dX1_beamFrom_61 : decode cX1_beamFrom 61 = .ok (.istore 5, 2) := by decide +kernel
theorem dX1_beamFrom_63 : decode cX1_beamFrom 63 = .ok (.goto (-34), 3) := by decide +kernel
theorem dX1_beamFrom_66 : decode cX1_beamFrom 66 = .ok (.iinc 4 1, 3) := by decide +kernel
theorem dX1_beamFrom_69 : decode cX1_beamFrom 69 = .ok (.goto (-57), 3) := by decide +kernel
theorem dX1_beamFrom_72 : decode cX1_beamFrom 72 = .ok (.iload_n 3, 1) := by decide +kernel
theorem dX1_beamFrom_73 : decode cX1_beamFrom 73 = .ok (.ireturn, 1) := by decide +kernel
set_option maxRecDepth 20000 in
theorem ggX1_newlyLitFrom_X1_beamFrom : GoodIn wsX1_newlyLitFrom wsX1_beamFrom := goodIn_r _ [8, 3, 9, 10, 11, 7, 12, 13, 14, 15, 16, 17, 18, 19, 20, 21, 22, 23, 24, 25, 26, 27, 28, 29, 30, 31, 32, 33, 34, 35, 36, 37, 38, 39, 40, 41, 42, 43, 44, 45, 46, 47, 48] (by decide +kernel) (by decide +kernel)
set_option maxRecDepth 20000 in
theorem gX1_newlyLitFrom_X1_beamFrom : GoodIn wsX1_newlyLitFrom (wsV RX1 125 RX1 yX1_beamFrom wsX1_beamFrom) := goodIn_app (goodIn_of _ (by decide +kernel)) ggX1_newlyLitFrom_X1_beamFrom
theorem dX1_newlyLitFrom_0 : decode cX1_newlyLitFrom 0 = .ok (.aload_n 0, 1) := by decide +kernel
theorem dX1_newlyLitFrom_1 : decode cX1_newlyLitFrom 1 = .ok (.aload_n 0, 1) := by decide +kernel
theorem dX1_newlyLitFrom_2 : decode cX1_newlyLitFrom 2 = .ok (.getfield 16, 3) := by decide +kernel
theorem dX1_newlyLitFrom_5 : decode cX1_newlyLitFrom 5 = .ok (.iload_n 1, 1) := by decide +kernel
theorem dX1_newlyLitFrom_6 : decode cX1_newlyLitFrom 6 = .ok (.invokevirtual 125, 3) := by decide +kernel
theorem dX1_newlyLitFrom_9 : decode cX1_newlyLitFrom 9 = .ok (.istore_n 2, 1) := by decide +kernel
theorem dX1_newlyLitFrom_10 : decode cX1_newlyLitFrom 10 = .ok (.iconst 0, 1) := by decide +kernel
theorem dX1_newlyLitFrom_11 : decode cX1_newlyLitFrom 11 = .ok (.istore_n 3, 1) := by decide +kernel
theorem dX1_newlyLitFrom_12 : decode cX1_newlyLitFrom 12 = .ok (.iconst 0, 1) := by decide +kernel
theorem dX1_newlyLitFrom_13 : decode cX1_newlyLitFrom 13 = .ok (.istore 4, 2) := by decide +kernel
theorem dX1_newlyLitFrom_15 : decode cX1_newlyLitFrom 15 = .ok (.iload 4, 2) := by decide +kernel
theorem dX1_newlyLitFrom_17 : decode cX1_newlyLitFrom 17 = .ok (.iload_n 2, 1) := by decide +kernel
theorem dX1_newlyLitFrom_18 : decode cX1_newlyLitFrom 18 = .ok (.if_icmp .ge 27, 3) := by decide +kernel
theorem dX1_newlyLitFrom_21 : decode cX1_newlyLitFrom 21 = .ok (.aload_n 0, 1) := by decide +kernel
theorem dX1_newlyLitFrom_22 : decode cX1_newlyLitFrom 22 = .ok (.getfield 24, 3) := by decide +kernel
theorem dX1_newlyLitFrom_25 : decode cX1_newlyLitFrom 25 = .ok (.aload_n 0, 1) := by decide +kernel
theorem dX1_newlyLitFrom_26 : decode cX1_newlyLitFrom 26 = .ok (.getfield 33, 3) := by decide +kernel
theorem dX1_newlyLitFrom_29 : decode cX1_newlyLitFrom 29 = .ok (.iload 4, 2) := by decide +kernel
theorem dX1_newlyLitFrom_31 : decode cX1_newlyLitFrom 31 = .ok (.iaload, 1) := by decide +kernel
theorem dX1_newlyLitFrom_32 : decode cX1_newlyLitFrom 32 = .ok (.iaload, 1) := by decide +kernel
theorem dX1_newlyLitFrom_33 : decode cX1_newlyLitFrom 33 = .ok (.ifCond .ne 6, 3) := by decide +kernel
theorem dX1_newlyLitFrom_36 : decode cX1_newlyLitFrom 36 = .ok (.iinc 3 1, 3) := by decide +kernel
theorem dX1_newlyLitFrom_39 : decode cX1_newlyLitFrom 39 = .ok (.iinc 4 1, 3) := by decide +kernel
theorem dX1_newlyLitFrom_42 : decode cX1_newlyLitFrom 42 = .ok (.goto (-27), 3) := by decide +kernel
theorem dX1_newlyLitFrom_45 : decode cX1_newlyLitFrom 45 = .ok (.iload_n 3, 1) := by decide +kernel
theorem dX1_newlyLitFrom_46 : decode cX1_newlyLitFrom 46 = .ok (.ireturn, 1) := by decide +kernel
set_option maxRecDepth 20000 in
theorem ggX1_stepsBetween_X1_forgetSteps : GoodIn wsX1_stepsBetween wsX1_forgetSteps := goodIn_r _ [6, 1, 7, 8, 9, 10, 41, 42, 43, 44, 45, 46, 47, 48, 49, 50, 51] (by decide +kernel) (by decide +kernel)
set_option maxRecDepth 20000 in
theorem gX1_stepsBetween_X1_forgetSteps : GoodIn wsX1_stepsBetween (wsV RX1 136 RX1 yX1_forgetSteps wsX1_forgetSteps) := goodIn_app (goodIn_of _ (by decide +kernel)) ggX1_stepsBetween_X1_forgetSteps
set_option maxRecDepth 20000 in
theorem ggX1_stepsBetween_X1_spreadFrom : GoodIn wsX1_stepsBetween wsX1_spreadFrom := goodIn_r _ [14, 1, 15, 16, 17, 18, 19, 5, 20, 21, 22, 23, 24, 25, 26, 27, 28, 29, 30, 31, 32, 33, 34, 35, 36, 37, 38, 39, 40, 41, 42, 43, 44, 45, 46, 47, 48, 49, 50, 51, 52, 53, 54, 55, 56] (by decide +kernel) (by decide +kernel)
set_option maxRecDepth 20000 in
theorem gX1_stepsBetween_X1_spreadFrom : GoodIn wsX1_stepsBetween (wsV RX1 139 RX1 yX1_spreadFrom wsX1_spreadFrom) := goodIn_app (goodIn_of _ (by decide +kernel)) ggX1_stepsBetween_X1_spreadFrom
theorem dX1_stepsBetween_0 : decode cX1_stepsBetween 0 = .ok (.aload_n 0, 1) := by decide +kernel
theorem dX1_stepsBetween_1 : decode cX1_stepsBetween 1 = .ok (.invokevirtual 136, 3) := by decide +kernel
theorem dX1_stepsBetween_4 : decode cX1_stepsBetween 4 = .ok (.aload_n 0, 1) := by decide +kernel
theorem dX1_stepsBetween_5 : decode cX1_stepsBetween 5 = .ok (.iload_n 1, 1) := by decide +kernel
theorem dX1_stepsBetween_6 : decode cX1_stepsBetween 6 = .ok (.invokevirtual 139, 3) := by decide +kernel
theorem dX1_stepsBetween_9 : decode cX1_stepsBetween 9 = .ok (.aload_n 0, 1) := by decide +kernel
theorem dX1_stepsBetween_10 : decode cX1_stepsBetween 10 = .ok (.getfield 36, 3) := by decide +kernel
theorem dX1_stepsBetween_13 : decode cX1_stepsBetween 13 = .ok (.iload_n 2, 1) := by decide +kernel
theorem dX1_stepsBetween_14 : decode cX1_stepsBetween 14 = .ok (.iaload, 1) := by decide +kernel
theorem dX1_stepsBetween_15 : decode cX1_stepsBetween 15 = .ok (.ireturn, 1) := by decide +kernel
set_option maxRecDepth 20000 in
theorem ggX1_forgetSteps_J7_fill_53178 : GoodIn wsX1_forgetSteps wsJ7_fill_53178 := goodIn_r _ [5] (by decide +kernel) (by decide +kernel)
set_option maxRecDepth 20000 in
theorem gX1_forgetSteps_J7_fill_53178 : GoodIn wsX1_forgetSteps (va_wsS RX1 190 yJ7_fill_53178 wsJ7_fill_53178) := goodIn_app (goodIn_of _ (by decide +kernel)) ggX1_forgetSteps_J7_fill_53178
theorem dX1_forgetSteps_0 : decode cX1_forgetSteps 0 = .ok (.aload_n 0, 1) := by decide +kernel
theorem dX1_forgetSteps_1 : decode cX1_forgetSteps 1 = .ok (.getfield 36, 3) := by decide +kernel
theorem dX1_forgetSteps_4 : decode cX1_forgetSteps 4 = .ok (.iconst (-1), 1) := by decide +kernel
theorem dX1_forgetSteps_5 : decode cX1_forgetSteps 5 = .ok (.invokestatic 190, 3) := by decide +kernel
theorem dX1_forgetSteps_8 : decode cX1_forgetSteps 8 = .ok (.return_, 1) := by decide +kernel
set_option maxRecDepth 20000 in
theorem ggX1_spreadFrom_X1_onward : GoodIn wsX1_spreadFrom wsX1_onward := goodIn_r _ [8, 9, 10, 11, 12, 7, 13, 14, 15, 16, 17, 18, 19, 20, 21, 22, 23, 24, 25, 26, 27, 28, 29, 30, 31, 32, 33, 34, 35, 36, 37, 38, 39, 40, 41, 42, 43, 44] (by decide +kernel) (by decide +kernel)
set_option maxRecDepth 20000 in
theorem gX1_spreadFrom_X1_onward : GoodIn wsX1_spreadFrom (wsV RX1 132 RX1 yX1_onward wsX1_onward) := goodIn_app (goodIn_of _ (by decide +kernel)) ggX1_spreadFrom_X1_onward
theorem dX1_spreadFrom_0 : decode cX1_spreadFrom 0 = .ok (.aload_n 0, 1) := by decide +kernel
theorem dX1_spreadFrom_1 : decode cX1_spreadFrom 1 = .ok (.getfield 36, 3) := by decide +kernel
theorem dX1_spreadFrom_4 : decode cX1_spreadFrom 4 = .ok (.iload_n 1, 1) := by decide +kernel
theorem dX1_spreadFrom_5 : decode cX1_spreadFrom 5 = .ok (.iconst 0, 1) := by decide +kernel
theorem dX1_spreadFrom_6 : decode cX1_spreadFrom 6 = .ok (.iastore, 1) := by decide +kernel
theorem dX1_spreadFrom_7 : decode cX1_spreadFrom 7 = .ok (.aload_n 0, 1) := by decide +kernel
theorem dX1_spreadFrom_8 : decode cX1_spreadFrom 8 = .ok (.getfield 39, 3) := by decide +kernel
theorem dX1_spreadFrom_11 : decode cX1_spreadFrom 11 = .ok (.iconst 0, 1) := by decide +kernel
theorem dX1_spreadFrom_12 : decode cX1_spreadFrom 12 = .ok (.iload_n 1, 1) := by decide +kernel
theorem dX1_spreadFrom_13 : decode cX1_spreadFrom 13 = .ok (.iastore, 1) := by decide +kernel
theorem dX1_spreadFrom_14 : decode cX1_spreadFrom 14 = .ok (.iconst 1, 1) := by decide +kernel
theorem dX1_spreadFrom_15 : decode cX1_spreadFrom 15 = .ok (.istore_n 2, 1) := by decide +kernel
theorem dX1_spreadFrom_16 : decode cX1_spreadFrom 16 = .ok (.iconst 0, 1) := by decide +kernel
theorem dX1_spreadFrom_17 : decode cX1_spreadFrom 17 = .ok (.istore_n 3, 1) := by decide +kernel
theorem dX1_spreadFrom_18 : decode cX1_spreadFrom 18 = .ok (.iload_n 3, 1) := by decide +kernel
theorem dX1_spreadFrom_19 : decode cX1_spreadFrom 19 = .ok (.iload_n 2, 1) := by decide +kernel
theorem dX1_spreadFrom_20 : decode cX1_spreadFrom 20 = .ok (.if_icmp .ge 103, 3) := by decide +kernel
theorem dX1_spreadFrom_23 : decode cX1_spreadFrom 23 = .ok (.iload_n 3, 1) := by decide +kernel
theorem dX1_spreadFrom_24 : decode cX1_spreadFrom 24 = .ok (.bipush 91, 2) := by decide +kernel
theorem dX1_spreadFrom_26 : decode cX1_spreadFrom 26 = .ok (.if_icmp .ge 97, 3) := by decide +kernel
theorem dX1_spreadFrom_29 : decode cX1_spreadFrom 29 = .ok (.aload_n 0, 1) := by decide +kernel
theorem dX1_spreadFrom_30 : decode cX1_spreadFrom 30 = .ok (.getfield 39, 3) := by decide +kernel
theorem dX1_spreadFrom_33 : decode cX1_spreadFrom 33 = .ok (.iload_n 3, 1) := by decide +kernel
theorem dX1_spreadFrom_34 : decode cX1_spreadFrom 34 = .ok (.iaload, 1) := by decide +kernel
theorem dX1_spreadFrom_35 : decode cX1_spreadFrom 35 = .ok (.istore 4, 2) := by decide +kernel
theorem dX1_spreadFrom_37 : decode cX1_spreadFrom 37 = .ok (.iconst 0, 1) := by decide +kernel
theorem dX1_spreadFrom_38 : decode cX1_spreadFrom 38 = .ok (.istore 5, 2) := by decide +kernel
theorem dX1_spreadFrom_40 : decode cX1_spreadFrom 40 = .ok (.iload 5, 2) := by decide +kernel
theorem dX1_spreadFrom_42 : decode cX1_spreadFrom 42 = .ok (.bipush 6, 2) := by decide +kernel
theorem dX1_spreadFrom_44 : decode cX1_spreadFrom 44 = .ok (.if_icmp .ge 73, 3) := by decide +kernel
theorem dX1_spreadFrom_47 : decode cX1_spreadFrom 47 = .ok (.aload_n 0, 1) := by decide +kernel
theorem dX1_spreadFrom_48 : decode cX1_spreadFrom 48 = .ok (.aload_n 0, 1) := by decide +kernel
theorem dX1_spreadFrom_49 : decode cX1_spreadFrom 49 = .ok (.getfield 16, 3) := by decide +kernel
theorem dX1_spreadFrom_52 : decode cX1_spreadFrom 52 = .ok (.iload 4, 2) := by decide +kernel
theorem dX1_spreadFrom_54 : decode cX1_spreadFrom 54 = .ok (.iload 5, 2) := by decide +kernel
theorem dX1_spreadFrom_56 : decode cX1_spreadFrom 56 = .ok (.invokevirtual 132, 3) := by decide +kernel
theorem dX1_spreadFrom_59 : decode cX1_spreadFrom 59 = .ok (.istore 6, 2) := by decide +kernel
theorem dX1_spreadFrom_61 : decode cX1_spreadFrom 61 = .ok (.iload 6, 2) := by decide +kernel
theorem dX1_spreadFrom_63 : decode cX1_spreadFrom 63 = .ok (.iconst (-1), 1) := by decide +kernel
theorem dX1_spreadFrom_64 : decode cX1_spreadFrom 64 = .ok (.if_icmp .eq 47, 3) := by decide +kernel
theorem dX1_spreadFrom_67 : decode cX1_spreadFrom 67 = .ok (.aload_n 0, 1) := by decide +kernel
theorem dX1_spreadFrom_68 : decode cX1_spreadFrom 68 = .ok (.getfield 36, 3) := by decide +kernel
theorem dX1_spreadFrom_71 : decode cX1_spreadFrom 71 = .ok (.iload 6, 2) := by decide +kernel
theorem dX1_spreadFrom_73 : decode cX1_spreadFrom 73 = .ok (.iaload, 1) := by decide +kernel
theorem dX1_spreadFrom_74 : decode cX1_spreadFrom 74 = .ok (.iconst (-1), 1) := by decide +kernel
theorem dX1_spreadFrom_75 : decode cX1_spreadFrom 75 = .ok (.if_icmp .ne 36, 3) := by decide +kernel
theorem dX1_spreadFrom_78 : decode cX1_spreadFrom 78 = .ok (.iload_n 2, 1) := by decide +kernel
theorem dX1_spreadFrom_79 : decode cX1_spreadFrom 79 = .ok (.bipush 91, 2) := by decide +kernel
theorem dX1_spreadFrom_81 : decode cX1_spreadFrom 81 = .ok (.if_icmp .ge 30, 3) := by decide +kernel
theorem dX1_spreadFrom_84 : decode cX1_spreadFrom 84 = .ok (.aload_n 0, 1) := by decide +kernel
theorem dX1_spreadFrom_85 : decode cX1_spreadFrom 85 = .ok (.getfield 36, 3) := by decide +kernel
theorem dX1_spreadFrom_88 : decode cX1_spreadFrom 88 = .ok (.iload 6, 2) := by decide +kernel
theorem dX1_spreadFrom_90 : decode cX1_spreadFrom 90 = .ok (.aload_n 0, 1) := by decide +kernel
theorem dX1_spreadFrom_91 : decode cX1_spreadFrom 91 = .ok (.getfield 36, 3) := by decide +kernel
theorem dX1_spreadFrom_94 : decode cX1_spreadFrom 94 = .ok (.iload 4, 2) := by decide +kernel
theorem dX1_spreadFrom_96 : decode cX1_spreadFrom 96 = .ok (.iaload, 1) := by decide +kernel
theorem dX1_spreadFrom_97 : decode cX1_spreadFrom 97 = .ok (.iconst 1, 1) := by decide +kernel
theorem dX1_spreadFrom_98 : decode cX1_spreadFrom 98 = .ok (.iadd, 1) := by decide +kernel
theorem dX1_spreadFrom_99 : decode cX1_spreadFrom 99 = .ok (.iastore, 1) := by decide +kernel
theorem dX1_spreadFrom_100 : decode cX1_spreadFrom 100 = .ok (.aload_n 0, 1) := by decide +kernel
theorem dX1_spreadFrom_101 : decode cX1_spreadFrom 101 = .ok (.getfield 39, 3) := by decide +kernel
theorem dX1_spreadFrom_104 : decode cX1_spreadFrom 104 = .ok (.iload_n 2, 1) := by decide +kernel
theorem dX1_spreadFrom_105 : decode cX1_spreadFrom 105 = .ok (.iload 6, 2) := by decide +kernel
theorem dX1_spreadFrom_107 : decode cX1_spreadFrom 107 = .ok (.iastore, 1) := by decide +kernel
theorem dX1_spreadFrom_108 : decode cX1_spreadFrom 108 = .ok (.iinc 2 1, 3) := by decide +kernel
theorem dX1_spreadFrom_111 : decode cX1_spreadFrom 111 = .ok (.iinc 5 1, 3) := by decide +kernel
theorem dX1_spreadFrom_114 : decode cX1_spreadFrom 114 = .ok (.goto (-74), 3) := by decide +kernel
theorem dX1_spreadFrom_117 : decode cX1_spreadFrom 117 = .ok (.iinc 3 1, 3) := by decide +kernel
theorem dX1_spreadFrom_120 : decode cX1_spreadFrom 120 = .ok (.goto (-102), 3) := by decide +kernel
theorem dX1_spreadFrom_123 : decode cX1_spreadFrom 123 = .ok (.return_, 1) := by decide +kernel
set_option maxRecDepth 20000 in
theorem ggX1_turnRingInto_X0_firstRoomOf : GoodIn wsX1_turnRingInto wsX0_firstRoomOf := goodIn_r _ [5] (by decide +kernel) (by decide +kernel)
set_option maxRecDepth 20000 in
theorem gX1_turnRingInto_X0_firstRoomOf : GoodIn wsX1_turnRingInto (va_wsS RX1 83 yX0_firstRoomOf wsX0_firstRoomOf) := goodIn_app (goodIn_of _ (by decide +kernel)) ggX1_turnRingInto_X0_firstRoomOf
set_option maxRecDepth 20000 in
theorem ggX1_turnRingInto_X0_sizeOf : GoodIn wsX1_turnRingInto wsX0_sizeOf := goodIn_r _ [8] (by decide +kernel) (by decide +kernel)
set_option maxRecDepth 20000 in
theorem gX1_turnRingInto_X0_sizeOf : GoodIn wsX1_turnRingInto (va_wsS RX1 86 yX0_sizeOf wsX0_sizeOf) := goodIn_app (goodIn_of _ (by decide +kernel)) ggX1_turnRingInto_X0_sizeOf
theorem dX1_turnRingInto_0 : decode cX1_turnRingInto 0 = .ok (.iload_n 1, 1) := by decide +kernel
theorem dX1_turnRingInto_1 : decode cX1_turnRingInto 1 = .ok (.invokestatic 83, 3) := by decide +kernel
theorem dX1_turnRingInto_4 : decode cX1_turnRingInto 4 = .ok (.istore 4, 2) := by decide +kernel
theorem dX1_turnRingInto_6 : decode cX1_turnRingInto 6 = .ok (.iload_n 1, 1) := by decide +kernel
theorem dX1_turnRingInto_7 : decode cX1_turnRingInto 7 = .ok (.invokestatic 86, 3) := by decide +kernel
theorem dX1_turnRingInto_10 : decode cX1_turnRingInto 10 = .ok (.istore 5, 2) := by decide +kernel
theorem dX1_turnRingInto_12 : decode cX1_turnRingInto 12 = .ok (.iconst 0, 1) := by decide +kernel
theorem dX1_turnRingInto_13 : decode cX1_turnRingInto 13 = .ok (.istore 6, 2) := by decide +kernel
theorem dX1_turnRingInto_15 : decode cX1_turnRingInto 15 = .ok (.iload 6, 2) := by decide +kernel
theorem dX1_turnRingInto_17 : decode cX1_turnRingInto 17 = .ok (.iload 5, 2) := by decide +kernel
theorem dX1_turnRingInto_19 : decode cX1_turnRingInto 19 = .ok (.if_icmp .ge 31, 3) := by decide +kernel
theorem dX1_turnRingInto_22 : decode cX1_turnRingInto 22 = .ok (.aload_n 3, 1) := by decide +kernel
theorem dX1_turnRingInto_23 : decode cX1_turnRingInto 23 = .ok (.iload 4, 2) := by decide +kernel
theorem dX1_turnRingInto_25 : decode cX1_turnRingInto 25 = .ok (.iload 6, 2) := by decide +kernel
theorem dX1_turnRingInto_27 : decode cX1_turnRingInto 27 = .ok (.iload_n 2, 1) := by decide +kernel
theorem dX1_turnRingInto_28 : decode cX1_turnRingInto 28 = .ok (.iadd, 1) := by decide +kernel
theorem dX1_turnRingInto_29 : decode cX1_turnRingInto 29 = .ok (.iload 5, 2) := by decide +kernel
theorem dX1_turnRingInto_31 : decode cX1_turnRingInto 31 = .ok (.irem, 1) := by decide +kernel
theorem dX1_turnRingInto_32 : decode cX1_turnRingInto 32 = .ok (.iadd, 1) := by decide +kernel
theorem dX1_turnRingInto_33 : decode cX1_turnRingInto 33 = .ok (.aload_n 0, 1) := by decide +kernel
theorem dX1_turnRingInto_34 : decode cX1_turnRingInto 34 = .ok (.getfield 16, 3) := by decide +kernel
theorem dX1_turnRingInto_37 : decode cX1_turnRingInto 37 = .ok (.iload 4, 2) := by decide +kernel
theorem dX1_turnRingInto_39 : decode cX1_turnRingInto 39 = .ok (.iload 6, 2) := by decide +kernel
theorem dX1_turnRingInto_41 : decode cX1_turnRingInto 41 = .ok (.iadd, 1) := by decide +kernel
theorem dX1_turnRingInto_42 : decode cX1_turnRingInto 42 = .ok (.iaload, 1) := by decide +kernel
theorem dX1_turnRingInto_43 : decode cX1_turnRingInto 43 = .ok (.iastore, 1) := by decide +kernel
theorem dX1_turnRingInto_44 : decode cX1_turnRingInto 44 = .ok (.iinc 6 1, 3) := by decide +kernel
theorem dX1_turnRingInto_47 : decode cX1_turnRingInto 47 = .ok (.goto (-32), 3) := by decide +kernel
theorem dX1_turnRingInto_50 : decode cX1_turnRingInto 50 = .ok (.return_, 1) := by decide +kernel
set_option maxRecDepth 20000 in
theorem ggX1_turnAllInto_X1_turnRingInto : GoodIn wsX1_turnAllInto wsX1_turnRingInto := goodIn_r _ [6, 7, 8, 9, 10, 11, 12, 13, 14, 15, 16, 17, 18, 19, 20, 21, 22, 23, 24, 25] (by decide +kernel) (by decide +kernel)
set_option maxRecDepth 20000 in
theorem gX1_turnAllInto_X1_turnRingInto : GoodIn wsX1_turnAllInto (wsV RX1 79 RX1 yX1_turnRingInto wsX1_turnRingInto) := goodIn_app (goodIn_of _ (by decide +kernel)) ggX1_turnAllInto_X1_turnRingInto
theorem dX1_turnAllInto_0 : decode cX1_turnAllInto 0 = .ok (.iconst 0, 1) := by decide +kernel
theorem dX1_turnAllInto_1 : decode cX1_turnAllInto 1 = .ok (.istore_n 3, 1) := by decide +kernel
theorem dX1_turnAllInto_2 : decode cX1_turnAllInto 2 = .ok (.iload_n 3, 1) := by decide +kernel
theorem dX1_turnAllInto_3 : decode cX1_turnAllInto 3 = .ok (.aload_n 0, 1) := by decide +kernel
theorem dX1_turnAllInto_4 : decode cX1_turnAllInto 4 = .ok (.getfield 149, 3) := by decide +kernel
theorem dX1_turnAllInto_7 : decode cX1_turnAllInto 7 = .ok (.if_icmp .gt 18, 3) := by decide +kernel
theorem dX1_turnAllInto_10 : decode cX1_turnAllInto 10 = .ok (.aload_n 0, 1) := by decide +kernel
theorem dX1_turnAllInto_11 : decode cX1_turnAllInto 11 = .ok (.iload_n 3, 1) := by decide +kernel
theorem dX1_turnAllInto_12 : decode cX1_turnAllInto 12 = .ok (.iload_n 3, 1) := by decide +kernel
theorem dX1_turnAllInto_13 : decode cX1_turnAllInto 13 = .ok (.iload_n 1, 1) := by decide +kernel
theorem dX1_turnAllInto_14 : decode cX1_turnAllInto 14 = .ok (.imul, 1) := by decide +kernel
theorem dX1_turnAllInto_15 : decode cX1_turnAllInto 15 = .ok (.aload_n 2, 1) := by decide +kernel
theorem dX1_turnAllInto_16 : decode cX1_turnAllInto 16 = .ok (.invokevirtual 79, 3) := by decide +kernel
theorem dX1_turnAllInto_19 : decode cX1_turnAllInto 19 = .ok (.iinc 3 1, 3) := by decide +kernel
theorem dX1_turnAllInto_22 : decode cX1_turnAllInto 22 = .ok (.goto (-20), 3) := by decide +kernel
theorem dX1_turnAllInto_25 : decode cX1_turnAllInto 25 = .ok (.return_, 1) := by decide +kernel
theorem dX1_isTrialAsNow_0 : decode cX1_isTrialAsNow 0 = .ok (.iconst 0, 1) := by decide +kernel
theorem dX1_isTrialAsNow_1 : decode cX1_isTrialAsNow 1 = .ok (.istore_n 1, 1) := by decide +kernel
theorem dX1_isTrialAsNow_2 : decode cX1_isTrialAsNow 2 = .ok (.iload_n 1, 1) := by decide +kernel
theorem dX1_isTrialAsNow_3 : decode cX1_isTrialAsNow 3 = .ok (.aload_n 0, 1) := by decide +kernel
theorem dX1_isTrialAsNow_4 : decode cX1_isTrialAsNow 4 = .ok (.getfield 50, 3) := by decide +kernel
theorem dX1_isTrialAsNow_7 : decode cX1_isTrialAsNow 7 = .ok (.if_icmp .ge 26, 3) := by decide +kernel
theorem dX1_isTrialAsNow_10 : decode cX1_isTrialAsNow 10 = .ok (.aload_n 0, 1) := by decide +kernel
theorem dX1_isTrialAsNow_11 : decode cX1_isTrialAsNow 11 = .ok (.getfield 27, 3) := by decide +kernel
theorem dX1_isTrialAsNow_14 : decode cX1_isTrialAsNow 14 = .ok (.iload_n 1, 1) := by decide +kernel
theorem dX1_isTrialAsNow_15 : decode cX1_isTrialAsNow 15 = .ok (.iaload, 1) := by decide +kernel
theorem dX1_isTrialAsNow_16 : decode cX1_isTrialAsNow 16 = .ok (.aload_n 0, 1) := by decide +kernel
theorem dX1_isTrialAsNow_17 : decode cX1_isTrialAsNow 17 = .ok (.getfield 16, 3) := by decide +kernel
theorem dX1_isTrialAsNow_20 : decode cX1_isTrialAsNow 20 = .ok (.iload_n 1, 1) := by decide +kernel
theorem dX1_isTrialAsNow_21 : decode cX1_isTrialAsNow 21 = .ok (.iaload, 1) := by decide +kernel
theorem dX1_isTrialAsNow_22 : decode cX1_isTrialAsNow 22 = .ok (.if_icmp .eq 5, 3) := by decide +kernel
theorem dX1_isTrialAsNow_25 : decode cX1_isTrialAsNow 25 = .ok (.iconst 0, 1) := by decide +kernel
theorem dX1_isTrialAsNow_26 : decode cX1_isTrialAsNow 26 = .ok (.ireturn, 1) := by decide +kernel
theorem dX1_isTrialAsNow_27 : decode cX1_isTrialAsNow 27 = .ok (.iinc 1 1, 3) := by decide +kernel
theorem dX1_isTrialAsNow_30 : decode cX1_isTrialAsNow 30 = .ok (.goto (-28), 3) := by decide +kernel
theorem dX1_isTrialAsNow_33 : decode cX1_isTrialAsNow 33 = .ok (.iconst 1, 1) := by decide +kernel
theorem dX1_isTrialAsNow_34 : decode cX1_isTrialAsNow 34 = .ok (.ireturn, 1) := by decide +kernel
set_option maxRecDepth 20000 in
theorem ggX1_litAfterTurn_X1_turnRingInto : GoodIn wsX1_litAfterTurn wsX1_turnRingInto := goodIn_r _ [13, 1, 14, 15, 16, 17, 18, 19, 20, 59, 60, 61, 62, 63, 64, 65, 66, 67, 68, 69] (by decide +kernel) (by decide +kernel)
set_option maxRecDepth 20000 in
theorem gX1_litAfterTurn_X1_turnRingInto : GoodIn wsX1_litAfterTurn (wsV RX1 79 RX1 yX1_turnRingInto wsX1_turnRingInto) := goodIn_app (goodIn_of _ (by decide +kernel)) ggX1_litAfterTurn_X1_turnRingInto
set_option maxRecDepth 20000 in
theorem ggX1_litAfterTurn_X1_shine : GoodIn wsX1_litAfterTurn wsX1_shine := goodIn_r _ [24, 3, 25, 26, 27, 28, 29, 30, 31, 32, 12, 33, 34, 35, 36, 37, 38, 39, 40, 41, 42, 43, 44, 45, 46, 16, 47, 48, 49, 50, 51, 52, 53, 54, 55, 56, 57, 58, 59, 60, 61, 62, 63, 64, 65, 66, 67, 68, 69, 70, 71, 72, 73, 74] (by decide +kernel) (by decide +kernel)
set_option maxRecDepth 20000 in
theorem gX1_litAfterTurn_X1_shine : GoodIn wsX1_litAfterTurn (wsV RX1 199 RX1 yX1_shine wsX1_shine) := goodIn_app (goodIn_of _ (by decide +kernel)) ggX1_litAfterTurn_X1_shine
theorem dX1_litAfterTurn_0 : decode cX1_litAfterTurn 0 = .ok (.aload_n 0, 1) := by decide +kernel
theorem dX1_litAfterTurn_1 : decode cX1_litAfterTurn 1 = .ok (.getfield 16, 3) := by decide +kernel
theorem dX1_litAfterTurn_4 : decode cX1_litAfterTurn 4 = .ok (.iconst 0, 1) := by decide +kernel
theorem dX1_litAfterTurn_5 : decode cX1_litAfterTurn 5 = .ok (.aload_n 0, 1) := by decide +kernel
theorem dX1_litAfterTurn_6 : decode cX1_litAfterTurn 6 = .ok (.getfield 27, 3) := by decide +kernel
theorem dX1_litAfterTurn_9 : decode cX1_litAfterTurn 9 = .ok (.iconst 0, 1) := by decide +kernel
theorem dX1_litAfterTurn_10 : decode cX1_litAfterTurn 10 = .ok (.aload_n 0, 1) := by decide +kernel
theorem dX1_litAfterTurn_11 : decode cX1_litAfterTurn 11 = .ok (.getfield 50, 3) := by decide +kernel
theorem dX1_litAfterTurn_14 : decode cX1_litAfterTurn 14 = .ok (.invokestatic 89, 3) := by decide +kernel
theorem dX1_litAfterTurn_17 : decode cX1_litAfterTurn 17 = .ok (.aload_n 0, 1) := by decide +kernel
theorem dX1_litAfterTurn_18 : decode cX1_litAfterTurn 18 = .ok (.iload_n 1, 1) := by decide +kernel
theorem dX1_litAfterTurn_19 : decode cX1_litAfterTurn 19 = .ok (.iload_n 2, 1) := by decide +kernel
theorem dX1_litAfterTurn_20 : decode cX1_litAfterTurn 20 = .ok (.aload_n 0, 1) := by decide +kernel
theorem dX1_litAfterTurn_21 : decode cX1_litAfterTurn 21 = .ok (.getfield 27, 3) := by decide +kernel
theorem dX1_litAfterTurn_24 : decode cX1_litAfterTurn 24 = .ok (.invokevirtual 79, 3) := by decide +kernel
theorem dX1_litAfterTurn_27 : decode cX1_litAfterTurn 27 = .ok (.aload_n 0, 1) := by decide +kernel
theorem dX1_litAfterTurn_28 : decode cX1_litAfterTurn 28 = .ok (.aload_n 0, 1) := by decide +kernel
theorem dX1_litAfterTurn_29 : decode cX1_litAfterTurn 29 = .ok (.getfield 27, 3) := by decide +kernel
theorem dX1_litAfterTurn_32 : decode cX1_litAfterTurn 32 = .ok (.aload_n 0, 1) := by decide +kernel
theorem dX1_litAfterTurn_33 : decode cX1_litAfterTurn 33 = .ok (.getfield 30, 3) := by decide +kernel
theorem dX1_litAfterTurn_36 : decode cX1_litAfterTurn 36 = .ok (.invokevirtual 199, 3) := by decide +kernel
theorem dX1_litAfterTurn_39 : decode cX1_litAfterTurn 39 = .ok (.ireturn, 1) := by decide +kernel
set_option maxRecDepth 20000 in
theorem ggX2_init_X2_build : GoodIn wsX2_init wsX2_build := goodIn_r _ [20, 21, 22, 9, 11, 23, 24, 25, 26, 27, 19, 28, 5, 6, 7, 8, 29, 30, 31, 32, 33, 34, 35, 36, 37, 38, 39, 40, 41] (by decide +kernel) (by decide +kernel)
set_option maxRecDepth 20000 in
theorem gX2_init_X2_build : GoodIn wsX2_init (wsV RX2 41 RX2 yX2_build wsX2_build) := goodIn_app (goodIn_of _ (by decide +kernel)) ggX2_init_X2_build
theorem dX2_init_0 : decode cX2_init 0 = .ok (.aload_n 0, 1) := by decide +kernel
theorem dX2_init_1 : decode cX2_init 1 = .ok (.invokespecial 1, 3) := by decide +kernel
theorem dX2_init_4 : decode cX2_init 4 = .ok (.aload_n 0, 1) := by decide +kernel
theorem dX2_init_5 : decode cX2_init 5 = .ok (.bipush 91, 2) := by decide +kernel
theorem dX2_init_7 : decode cX2_init 7 = .ok (.newarray .int, 2) := by decide +kernel
theorem dX2_init_9 : decode cX2_init 9 = .ok (.putfield 9, 3) := by decide +kernel
theorem dX2_init_12 : decode cX2_init 12 = .ok (.aload_n 0, 1) := by decide +kernel
theorem dX2_init_13 : decode cX2_init 13 = .ok (.bipush 91, 2) := by decide +kernel
theorem dX2_init_15 : decode cX2_init 15 = .ok (.newarray .int, 2) := by decide +kernel
theorem dX2_init_17 : decode cX2_init 17 = .ok (.putfield 13, 3) := by decide +kernel
theorem dX2_init_20 : decode cX2_init 20 = .ok (.aload_n 0, 1) := by decide +kernel
theorem dX2_init_21 : decode cX2_init 21 = .ok (.bipush 91, 2) := by decide +kernel
theorem dX2_init_23 : decode cX2_init 23 = .ok (.newarray .int, 2) := by decide +kernel
theorem dX2_init_25 : decode cX2_init 25 = .ok (.putfield 16, 3) := by decide +kernel
theorem dX2_init_28 : decode cX2_init 28 = .ok (.aload_n 0, 1) := by decide +kernel
theorem dX2_init_29 : decode cX2_init 29 = .ok (.bipush 91, 2) := by decide +kernel
theorem dX2_init_31 : decode cX2_init 31 = .ok (.newarray .int, 2) := by decide +kernel
theorem dX2_init_33 : decode cX2_init 33 = .ok (.putfield 19, 3) := by decide +kernel
theorem dX2_init_36 : decode cX2_init 36 = .ok (.aload_n 0, 1) := by decide +kernel
theorem dX2_init_37 : decode cX2_init 37 = .ok (.bipush 121, 2) := by decide +kernel
theorem dX2_init_39 : decode cX2_init 39 = .ok (.newarray .int, 2) := by decide +kernel
theorem dX2_init_41 : decode cX2_init 41 = .ok (.putfield 22, 3) := by decide +kernel
theorem dX2_init_44 : decode cX2_init 44 = .ok (.aload_n 0, 1) := by decide +kernel
theorem dX2_init_45 : decode cX2_init 45 = .ok (.sipush 546, 3) := by decide +kernel
theorem dX2_init_48 : decode cX2_init 48 = .ok (.newarray .boolean, 2) := by decide +kernel
theorem dX2_init_50 : decode cX2_init 50 = .ok (.putfield 25, 3) := by decide +kernel
theorem dX2_init_53 : decode cX2_init 53 = .ok (.aload_n 0, 1) := by decide +kernel
theorem dX2_init_54 : decode cX2_init 54 = .ok (.bipush 91, 2) := by decide +kernel
theorem dX2_init_56 : decode cX2_init 56 = .ok (.newarray .int, 2) := by decide +kernel
theorem dX2_init_58 : decode cX2_init 58 = .ok (.putfield 29, 3) := by decide +kernel
theorem dX2_init_61 : decode cX2_init 61 = .ok (.aload_n 0, 1) := by decide +kernel
theorem dX2_init_62 : decode cX2_init 62 = .ok (.bipush 91, 2) := by decide +kernel
theorem dX2_init_64 : decode cX2_init 64 = .ok (.newarray .int, 2) := by decide +kernel
theorem dX2_init_66 : decode cX2_init 66 = .ok (.putfield 32, 3) := by decide +kernel
theorem dX2_init_69 : decode cX2_init 69 = .ok (.aload_n 0, 1) := by decide +kernel
theorem dX2_init_70 : decode cX2_init 70 = .ok (.bipush 91, 2) := by decide +kernel
theorem dX2_init_72 : decode cX2_init 72 = .ok (.newarray .int, 2) := by decide +kernel
theorem dX2_init_74 : decode cX2_init 74 = .ok (.putfield 35, 3) := by decide +kernel
theorem dX2_init_77 : decode cX2_init 77 = .ok (.aload_n 0, 1) := by decide +kernel
theorem dX2_init_78 : decode cX2_init 78 = .ok (.bipush 91, 2) := by decide +kernel
theorem dX2_init_80 : decode cX2_init 80 = .ok (.newarray .int, 2) := by decide +kernel
theorem dX2_init_82 : decode cX2_init 82 = .ok (.putfield 38, 3) := by decide +kernel
theorem dX2_init_85 : decode cX2_init 85 = .ok (.aload_n 0, 1) := by decide +kernel
theorem dX2_init_86 : decode cX2_init 86 = .ok (.iconst 2, 1) := by decide +kernel
theorem dX2_init_87 : decode cX2_init 87 = .ok (.invokevirtual 41, 3) := by decide +kernel
theorem dX2_init_90 : decode cX2_init 90 = .ok (.return_, 1) := by decide +kernel
theorem dX2_thrown_0 : decode cX2_thrown 0 = .ok (.aload_n 0, 1) := by decide +kernel
theorem dX2_thrown_1 : decode cX2_thrown 1 = .ok (.getfield 45, 3) := by decide +kernel
theorem dX2_thrown_4 : decode cX2_thrown 4 = .ok (.ireturn, 1) := by decide +kernel
theorem dX2_fail_0 : decode cX2_fail 0 = .ok (.aload_n 0, 1) := by decide +kernel
theorem dX2_fail_1 : decode cX2_fail 1 = .ok (.iload_n 1, 1) := by decide +kernel
theorem dX2_fail_2 : decode cX2_fail 2 = .ok (.putfield 45, 3) := by decide +kernel
theorem dX2_fail_5 : decode cX2_fail 5 = .ok (.iconst 0, 1) := by decide +kernel
theorem dX2_fail_6 : decode cX2_fail 6 = .ok (.ireturn, 1) := by decide +kernel
theorem dX2_isIn_0 : decode cX2_isIn 0 = .ok (.iload_n 0, 1) := by decide +kernel
theorem dX2_isIn_1 : decode cX2_isIn 1 = .ok (.iload_n 1, 1) := by decide +kernel
theorem dX2_isIn_2 : decode cX2_isIn 2 = .ok (.if_icmp .lt 12, 3) := by decide +kernel
theorem dX2_isIn_5 : decode cX2_isIn 5 = .ok (.iload_n 0, 1) := by decide +kernel
theorem dX2_isIn_6 : decode cX2_isIn 6 = .ok (.iload_n 2, 1) := by decide +kernel
theorem dX2_isIn_7 : decode cX2_isIn 7 = .ok (.if_icmp .gt 7, 3) := by decide +kernel
theorem dX2_isIn_10 : decode cX2_isIn 10 = .ok (.iconst 1, 1) := by decide +kernel
theorem dX2_isIn_11 : decode cX2_isIn 11 = .ok (.goto 4, 3) := by decide +kernel
theorem dX2_isIn_14 : decode cX2_isIn 14 = .ok (.iconst 0, 1) := by decide +kernel
theorem dX2_isIn_15 : decode cX2_isIn 15 = .ok (.ireturn, 1) := by decide +kernel
set_option maxRecDepth 20000 in
theorem ggX2_isRoom_X2_isIn : GoodIn wsX2_isRoom wsX2_isIn := goodIn_r _ [5] (by decide +kernel) (by decide +kernel)
set_option maxRecDepth 20000 in
theorem gX2_isRoom_X2_isIn : GoodIn wsX2_isRoom (va_wsS RX2 52 yX2_isIn wsX2_isIn) := goodIn_app (goodIn_of _ (by decide +kernel)) ggX2_isRoom_X2_isIn
theorem dX2_isRoom_0 : decode cX2_isRoom 0 = .ok (.iload_n 1, 1) := by decide +kernel
theorem dX2_isRoom_1 : decode cX2_isRoom 1 = .ok (.iconst 0, 1) := by decide +kernel
theorem dX2_isRoom_2 : decode cX2_isRoom 2 = .ok (.aload_n 0, 1) := by decide +kernel
theorem dX2_isRoom_3 : decode cX2_isRoom 3 = .ok (.getfield 49, 3) := by decide +kernel
theorem dX2_isRoom_6 : decode cX2_isRoom 6 = .ok (.iconst 1, 1) := by decide +kernel
theorem dX2_isRoom_7 : decode cX2_isRoom 7 = .ok (.isub, 1) := by decide +kernel
theorem dX2_isRoom_8 : decode cX2_isRoom 8 = .ok (.invokestatic 52, 3) := by decide +kernel
theorem dX2_isRoom_11 : decode cX2_isRoom 11 = .ok (.ireturn, 1) := by decide +kernel
set_option maxRecDepth 20000 in
theorem ggX2_isSide_X2_isIn : GoodIn wsX2_isSide wsX2_isIn := goodIn_r _ [4] (by decide +kernel) (by decide +kernel)
set_option maxRecDepth 20000 in
theorem gX2_isSide_X2_isIn : GoodIn wsX2_isSide (va_wsS RX2 52 yX2_isIn wsX2_isIn) := goodIn_app (goodIn_of _ (by decide +kernel)) ggX2_isSide_X2_isIn
theorem dX2_isSide_0 : decode cX2_isSide 0 = .ok (.iload_n 0, 1) := by decide +kernel
theorem dX2_isSide_1 : decode cX2_isSide 1 = .ok (.iconst 0, 1) := by decide +kernel
theorem dX2_isSide_2 : decode cX2_isSide 2 = .ok (.iconst 5, 1) := by decide +kernel
theorem dX2_isSide_3 : decode cX2_isSide 3 = .ok (.invokestatic 52, 3) := by decide +kernel
theorem dX2_isSide_6 : decode cX2_isSide 6 = .ok (.ireturn, 1) := by decide +kernel
set_option maxRecDepth 20000 in
theorem ggX2_isRing_X2_isIn : GoodIn wsX2_isRing wsX2_isIn := goodIn_r _ [5] (by decide +kernel) (by decide +kernel)
set_option maxRecDepth 20000 in
theorem gX2_isRing_X2_isIn : GoodIn wsX2_isRing (va_wsS RX2 52 yX2_isIn wsX2_isIn) := goodIn_app (goodIn_of _ (by decide +kernel)) ggX2_isRing_X2_isIn
theorem dX2_isRing_0 : decode cX2_isRing 0 = .ok (.iload_n 1, 1) := by decide +kernel
theorem dX2_isRing_1 : decode cX2_isRing 1 = .ok (.iconst 0, 1) := by decide +kernel
theorem dX2_isRing_2 : decode cX2_isRing 2 = .ok (.aload_n 0, 1) := by decide +kernel
theorem dX2_isRing_3 : decode cX2_isRing 3 = .ok (.getfield 56, 3) := by decide +kernel
theorem dX2_isRing_6 : decode cX2_isRing 6 = .ok (.invokestatic 52, 3) := by decide +kernel
theorem dX2_isRing_9 : decode cX2_isRing 9 = .ok (.ireturn, 1) := by decide +kernel
theorem dX2_add_0 : decode cX2_add 0 = .ok (.aload_n 0, 1) := by decide +kernel
theorem dX2_add_1 : decode cX2_add 1 = .ok (.getfield 9, 3) := by decide +kernel
theorem dX2_add_4 : decode cX2_add 4 = .ok (.aload_n 0, 1) := by decide +kernel
theorem dX2_add_5 : decode cX2_add 5 = .ok (.getfield 49, 3) := by decide +kernel
theorem dX2_add_8 : decode cX2_add 8 = .ok (.iload_n 1, 1) := by decide +kernel
theorem dX2_add_9 : decode cX2_add 9 = .ok (.iastore, 1) := by decide +kernel
theorem dX2_add_10 : decode cX2_add 10 = .ok (.aload_n 0, 1) := by decide +kernel
theorem dX2_add_11 : decode cX2_add 11 = .ok (.getfield 13, 3) := by decide +kernel
theorem dX2_add_14 : decode cX2_add 14 = .ok (.aload_n 0, 1) := by decide +kernel
theorem dX2_add_15 : decode cX2_add 15 = .ok (.getfield 49, 3) := by decide +kernel
theorem dX2_add_18 : decode cX2_add 18 = .ok (.iload_n 2, 1) := by decide +kernel
theorem dX2_add_19 : decode cX2_add 19 = .ok (.iastore, 1) := by decide +kernel
theorem dX2_add_20 : decode cX2_add 20 = .ok (.aload_n 0, 1) := by decide +kernel
theorem dX2_add_21 : decode cX2_add 21 = .ok (.getfield 16, 3) := by decide +kernel
theorem dX2_add_24 : decode cX2_add 24 = .ok (.aload_n 0, 1) := by decide +kernel
theorem dX2_add_25 : decode cX2_add 25 = .ok (.getfield 49, 3) := by decide +kernel
theorem dX2_add_28 : decode cX2_add 28 = .ok (.iload_n 3, 1) := by decide +kernel
theorem dX2_add_29 : decode cX2_add 29 = .ok (.iastore, 1) := by decide +kernel
theorem dX2_add_30 : decode cX2_add 30 = .ok (.aload_n 0, 1) := by decide +kernel
theorem dX2_add_31 : decode cX2_add 31 = .ok (.getfield 19, 3) := by decide +kernel
theorem dX2_add_34 : decode cX2_add 34 = .ok (.aload_n 0, 1) := by decide +kernel
theorem dX2_add_35 : decode cX2_add 35 = .ok (.getfield 49, 3) := by decide +kernel
theorem dX2_add_38 : decode cX2_add 38 = .ok (.iconst 0, 1) := by decide +kernel
theorem dX2_add_39 : decode cX2_add 39 = .ok (.iastore, 1) := by decide +kernel
theorem dX2_add_40 : decode cX2_add 40 = .ok (.aload_n 0, 1) := by decide +kernel
theorem dX2_add_41 : decode cX2_add 41 = .ok (.getfield 22, 3) := by decide +kernel
theorem dX2_add_44 : decode cX2_add 44 = .ok (.bipush 11, 2) := by decide +kernel
theorem dX2_add_46 : decode cX2_add 46 = .ok (.iload_n 2, 1) := by decide +kernel
theorem dX2_add_47 : decode cX2_add 47 = .ok (.iconst 5, 1) := by decide +kernel
theorem dX2_add_48 : decode cX2_add 48 = .ok (.iadd, 1) := by decide +kernel
theorem dX2_add_49 : decode cX2_add 49 = .ok (.imul, 1) := by decide +kernel
theorem dX2_add_50 : decode cX2_add 50 = .ok (.iload_n 1, 1) := by decide +kernel
theorem dX2_add_51 : decode cX2_add 51 = .ok (.iadd, 1) := by decide +kernel
theorem dX2_add_52 : decode cX2_add 52 = .ok (.iconst 5, 1) := by decide +kernel
theorem dX2_add_53 : decode cX2_add 53 = .ok (.iadd, 1) := by decide +kernel
theorem dX2_add_54 : decode cX2_add 54 = .ok (.aload_n 0, 1) := by decide +kernel
theorem dX2_add_55 : decode cX2_add 55 = .ok (.getfield 49, 3) := by decide +kernel
theorem dX2_add_58 : decode cX2_add 58 = .ok (.iastore, 1) := by decide +kernel
theorem dX2_add_59 : decode cX2_add 59 = .ok (.aload_n 0, 1) := by decide +kernel
theorem dX2_add_60 : decode cX2_add 60 = .ok (.dup, 1) := by decide +kernel
theorem dX2_add_61 : decode cX2_add 61 = .ok (.getfield 49, 3) := by decide +kernel
theorem dX2_add_64 : decode cX2_add 64 = .ok (.iconst 1, 1) := by decide +kernel
theorem dX2_add_65 : decode cX2_add 65 = .ok (.iadd, 1) := by decide +kernel
theorem dX2_add_66 : decode cX2_add 66 = .ok (.putfield 49, 3) := by decide +kernel
theorem dX2_add_69 : decode cX2_add 69 = .ok (.return_, 1) := by decide +kernel
set_option maxRecDepth 20000 in
theorem ggX2_build_X2_add : GoodIn wsX2_build wsX2_add := goodIn_r _ [11, 12, 2, 13, 14, 15, 3, 16, 17, 18, 19, 20, 21, 22, 23, 24, 25, 26, 27, 28] (by decide +kernel) (by decide +kernel)
set_option maxRecDepth 20000 in
theorem gX2_build_X2_add : GoodIn wsX2_build (wsV RX2 59 RX2 yX2_add wsX2_add) := goodIn_app (goodIn_of _ (by decide +kernel)) ggX2_build_X2_add
theorem dX2_build_0 : decode cX2_build 0 = .ok (.aload_n 0, 1) := by decide +kernel
theorem dX2_build_1 : decode cX2_build 1 = .ok (.iload_n 1, 1) := by decide +kernel
theorem dX2_build_2 : decode cX2_build 2 = .ok (.putfield 56, 3) := by decide +kernel
theorem dX2_build_5 : decode cX2_build 5 = .ok (.aload_n 0, 1) := by decide +kernel
theorem dX2_build_6 : decode cX2_build 6 = .ok (.iconst 0, 1) := by decide +kernel
theorem dX2_build_7 : decode cX2_build 7 = .ok (.putfield 49, 3) := by decide +kernel
theorem dX2_build_10 : decode cX2_build 10 = .ok (.iconst 0, 1) := by decide +kernel
theorem dX2_build_11 : decode cX2_build 11 = .ok (.istore_n 2, 1) := by decide +kernel
theorem dX2_build_12 : decode cX2_build 12 = .ok (.iload_n 2, 1) := by decide +kernel
theorem dX2_build_13 : decode cX2_build 13 = .ok (.aload_n 0, 1) := by decide +kernel
theorem dX2_build_14 : decode cX2_build 14 = .ok (.getfield 22, 3) := by decide +kernel
theorem dX2_build_17 : decode cX2_build 17 = .ok (.arraylength, 1) := by decide +kernel
theorem dX2_build_18 : decode cX2_build 18 = .ok (.if_icmp .ge 16, 3) := by decide +kernel
theorem dX2_build_21 : decode cX2_build 21 = .ok (.aload_n 0, 1) := by decide +kernel
theorem dX2_build_22 : decode cX2_build 22 = .ok (.getfield 22, 3) := by decide +kernel
theorem dX2_build_25 : decode cX2_build 25 = .ok (.iload_n 2, 1) := by decide +kernel
theorem dX2_build_26 : decode cX2_build 26 = .ok (.iconst (-1), 1) := by decide +kernel
theorem dX2_build_27 : decode cX2_build 27 = .ok (.iastore, 1) := by decide +kernel
theorem dX2_build_28 : decode cX2_build 28 = .ok (.iinc 2 1, 3) := by decide +kernel
theorem dX2_build_31 : decode cX2_build 31 = .ok (.goto (-19), 3) := by decide +kernel
theorem dX2_build_34 : decode cX2_build 34 = .ok (.iconst 0, 1) := by decide +kernel
theorem dX2_build_35 : decode cX2_build 35 = .ok (.istore_n 2, 1) := by decide +kernel
theorem dX2_build_36 : decode cX2_build 36 = .ok (.iload_n 2, 1) := by decide +kernel
theorem dX2_build_37 : decode cX2_build 37 = .ok (.aload_n 0, 1) := by decide +kernel
theorem dX2_build_38 : decode cX2_build 38 = .ok (.getfield 25, 3) := by decide +kernel
theorem dX2_build_41 : decode cX2_build 41 = .ok (.arraylength, 1) := by decide +kernel
theorem dX2_build_42 : decode cX2_build 42 = .ok (.if_icmp .ge 16, 3) := by decide +kernel
theorem dX2_build_45 : decode cX2_build 45 = .ok (.aload_n 0, 1) := by decide +kernel
theorem dX2_build_46 : decode cX2_build 46 = .ok (.getfield 25, 3) := by decide +kernel
theorem dX2_build_49 : decode cX2_build 49 = .ok (.iload_n 2, 1) := by decide +kernel
theorem dX2_build_50 : decode cX2_build 50 = .ok (.iconst 0, 1) := by decide +kernel
theorem dX2_build_51 : decode cX2_build 51 = .ok (.bastore, 1) := by decide +kernel
theorem dX2_build_52 : decode cX2_build 52 = .ok (.iinc 2 1, 3) := by decide +kernel
theorem dX2_build_55 : decode cX2_build 55 = .ok (.goto (-19), 3) := by decide +kernel
theorem dX2_build_58 : decode cX2_build 58 = .ok (.aload_n 0, 1) := by decide +kernel
theorem dX2_build_59 : decode cX2_build 59 = .ok (.iconst 0, 1) := by decide +kernel
theorem dX2_build_60 : decode cX2_build 60 = .ok (.iconst 0, 1) := by decide +kernel
theorem dX2_build_61 : decode cX2_build 61 = .ok (.iconst 0, 1) := by decide +kernel
theorem dX2_build_62 : decode cX2_build 62 = .ok (.invokevirtual 59, 3) := by decide +kernel
theorem dX2_build_65 : decode cX2_build 65 = .ok (.iconst 1, 1) := by decide +kernel
theorem dX2_build_66 : decode cX2_build 66 = .ok (.istore_n 2, 1) := by decide +kernel
theorem dX2_build_67 : decode cX2_build 67 = .ok (.iload_n 2, 1) := by decide +kernel
theorem dX2_build_68 : decode cX2_build 68 = .ok (.iload_n 1, 1) := by decide +kernel
theorem dX2_build_69 : decode cX2_build 69 = .ok (.if_icmp .gt 79, 3) := by decide +kernel
end
section
theorem dX2_build_72 : decode cX2_build 72 = .ok (.iload_n 2, 1) := by decide +kernel
theorem dX2_build_73 : decode cX2_build 73 = .ok (.istore_n 3, 1) := by decide +kernel
theorem dX2_build_74 : decode cX2_build 74 = .ok (.iconst 0, 1) := by decide +kernel
theorem dX2_build_75 : decode cX2_build 75 = .ok (.istore 4, 2) := by decide +kernel
theorem dX2_build_77 : decode cX2_build 77 = .ok (.iconst 2, 1) := by decide +kernel
theorem dX2_build_78 : decode cX2_build 78 = .ok (.istore 5, 2) := by decide +kernel
theorem dX2_build_80 : decode cX2_build 80 = .ok (.iload 5, 2) := by decide +kernel
theorem dX2_build_82 : decode cX2_build 82 = .ok (.bipush 8, 2) := by decide +kernel
theorem dX2_build_84 : decode cX2_build 84 = .ok (.if_icmp .ge 58, 3) := by decide +kernel
theorem dX2_build_87 : decode cX2_build 87 = .ok (.iconst 0, 1) := by decide +kernel
theorem dX2_build_88 : decode cX2_build 88 = .ok (.istore 6, 2) := by decide +kernel
theorem dX2_build_90 : decode cX2_build 90 = .ok (.iload 6, 2) := by decide +kernel
theorem dX2_build_92 : decode cX2_build 92 = .ok (.iload_n 2, 1) := by decide +kernel
theorem dX2_build_93 : decode cX2_build 93 = .ok (.if_icmp .ge 43, 3) := by decide +kernel
theorem dX2_build_96 : decode cX2_build 96 = .ok (.aload_n 0, 1) := by decide +kernel
theorem dX2_build_97 : decode cX2_build 97 = .ok (.iload_n 3, 1) := by decide +kernel
theorem dX2_build_98 : decode cX2_build 98 = .ok (.iload 4, 2) := by decide +kernel
theorem dX2_build_100 : decode cX2_build 100 = .ok (.iload_n 2, 1) := by decide +kernel
theorem dX2_build_101 : decode cX2_build 101 = .ok (.invokevirtual 59, 3) := by decide +kernel
theorem dX2_build_104 : decode cX2_build 104 = .ok (.iload_n 3, 1) := by decide +kernel
theorem dX2_build_105 : decode cX2_build 105 = .ok (.getstatic 63, 3) := by decide +kernel
theorem dX2_build_108 : decode cX2_build 108 = .ok (.iload 5, 2) := by decide +kernel
theorem dX2_build_110 : decode cX2_build 110 = .ok (.bipush 6, 2) := by decide +kernel
theorem dX2_build_112 : decode cX2_build 112 = .ok (.irem, 1) := by decide +kernel
theorem dX2_build_113 : decode cX2_build 113 = .ok (.iaload, 1) := by decide +kernel
theorem dX2_build_114 : decode cX2_build 114 = .ok (.iadd, 1) := by decide +kernel
theorem dX2_build_115 : decode cX2_build 115 = .ok (.istore_n 3, 1) := by decide +kernel
theorem dX2_build_116 : decode cX2_build 116 = .ok (.iload 4, 2) := by decide +kernel
theorem dX2_build_118 : decode cX2_build 118 = .ok (.getstatic 66, 3) := by decide +kernel
theorem dX2_build_121 : decode cX2_build 121 = .ok (.iload 5, 2) := by decide +kernel
theorem dX2_build_123 : decode cX2_build 123 = .ok (.bipush 6, 2) := by decide +kernel
theorem dX2_build_125 : decode cX2_build 125 = .ok (.irem, 1) := by decide +kernel
theorem dX2_build_126 : decode cX2_build 126 = .ok (.iaload, 1) := by decide +kernel
theorem dX2_build_127 : decode cX2_build 127 = .ok (.iadd, 1) := by decide +kernel
theorem dX2_build_128 : decode cX2_build 128 = .ok (.istore 4, 2) := by decide +kernel
theorem dX2_build_130 : decode cX2_build 130 = .ok (.iinc 6 1, 3) := by decide +kernel
theorem dX2_build_133 : decode cX2_build 133 = .ok (.goto (-43), 3) := by decide +kernel
theorem dX2_build_136 : decode cX2_build 136 = .ok (.iinc 5 1, 3) := by decide +kernel
theorem dX2_build_139 : decode cX2_build 139 = .ok (.goto (-59), 3) := by decide +kernel
theorem dX2_build_142 : decode cX2_build 142 = .ok (.iinc 2 1, 3) := by decide +kernel
theorem dX2_build_145 : decode cX2_build 145 = .ok (.goto (-78), 3) := by decide +kernel
theorem dX2_build_148 : decode cX2_build 148 = .ok (.return_, 1) := by decide +kernel
set_option maxRecDepth 20000 in
theorem ggX2_found_X2_isIn : GoodIn wsX2_found wsX2_isIn := goodIn_r _ [5] (by decide +kernel) (by decide +kernel)
set_option maxRecDepth 20000 in
theorem gX2_found_X2_isIn : GoodIn wsX2_found (va_wsS RX2 52 yX2_isIn wsX2_isIn) := goodIn_app (goodIn_of _ (by decide +kernel)) ggX2_found_X2_isIn
theorem dX2_found_0 : decode cX2_found 0 = .ok (.iload_n 1, 1) := by decide +kernel
theorem dX2_found_1 : decode cX2_found 1 = .ok (.bipush (-5), 2) := by decide +kernel
theorem dX2_found_3 : decode cX2_found 3 = .ok (.iconst 5, 1) := by decide +kernel
theorem dX2_found_4 : decode cX2_found 4 = .ok (.invokestatic 52, 3) := by decide +kernel
theorem dX2_found_7 : decode cX2_found 7 = .ok (.ifCond .eq 31, 3) := by decide +kernel
theorem dX2_found_10 : decode cX2_found 10 = .ok (.iload_n 2, 1) := by decide +kernel
theorem dX2_found_11 : decode cX2_found 11 = .ok (.bipush (-5), 2) := by decide +kernel
theorem dX2_found_13 : decode cX2_found 13 = .ok (.iconst 5, 1) := by decide +kernel
theorem dX2_found_14 : decode cX2_found 14 = .ok (.invokestatic 52, 3) := by decide +kernel
theorem dX2_found_17 : decode cX2_found 17 = .ok (.ifCond .eq 21, 3) := by decide +kernel
theorem dX2_found_20 : decode cX2_found 20 = .ok (.aload_n 0, 1) := by decide +kernel
theorem dX2_found_21 : decode cX2_found 21 = .ok (.getfield 22, 3) := by decide +kernel
theorem dX2_found_24 : decode cX2_found 24 = .ok (.bipush 11, 2) := by decide +kernel
theorem dX2_found_26 : decode cX2_found 26 = .ok (.iload_n 2, 1) := by decide +kernel
theorem dX2_found_27 : decode cX2_found 27 = .ok (.iconst 5, 1) := by decide +kernel
theorem dX2_found_28 : decode cX2_found 28 = .ok (.iadd, 1) := by decide +kernel
theorem dX2_found_29 : decode cX2_found 29 = .ok (.imul, 1) := by decide +kernel
theorem dX2_found_30 : decode cX2_found 30 = .ok (.iload_n 1, 1) := by decide +kernel
theorem dX2_found_31 : decode cX2_found 31 = .ok (.iadd, 1) := by decide +kernel
theorem dX2_found_32 : decode cX2_found 32 = .ok (.iconst 5, 1) := by decide +kernel
theorem dX2_found_33 : decode cX2_found 33 = .ok (.iadd, 1) := by decide +kernel
theorem dX2_found_34 : decode cX2_found 34 = .ok (.iaload, 1) := by decide +kernel
theorem dX2_found_35 : decode cX2_found 35 = .ok (.goto 4, 3) := by decide +kernel
theorem dX2_found_38 : decode cX2_found 38 = .ok (.iconst (-1), 1) := by decide +kernel
theorem dX2_found_39 : decode cX2_found 39 = .ok (.ireturn, 1) := by decide +kernel
set_option maxRecDepth 20000 in
theorem ggX2_next_X2_found : GoodIn wsX2_next wsX2_found := goodIn_r _ [9, 10, 11, 12, 8, 13, 14, 15, 16, 17, 18, 19, 20, 21, 22, 23, 24, 25, 26] (by decide +kernel) (by decide +kernel)
set_option maxRecDepth 20000 in
theorem gX2_next_X2_found : GoodIn wsX2_next (wsV RX2 69 RX2 yX2_found wsX2_found) := goodIn_app (goodIn_of _ (by decide +kernel)) ggX2_next_X2_found
theorem dX2_next_0 : decode cX2_next 0 = .ok (.aload_n 0, 1) := by decide +kernel
theorem dX2_next_1 : decode cX2_next 1 = .ok (.aload_n 0, 1) := by decide +kernel
theorem dX2_next_2 : decode cX2_next 2 = .ok (.getfield 9, 3) := by decide +kernel
theorem dX2_next_5 : decode cX2_next 5 = .ok (.iload_n 1, 1) := by decide +kernel
theorem dX2_next_6 : decode cX2_next 6 = .ok (.iaload, 1) := by decide +kernel
theorem dX2_next_7 : decode cX2_next 7 = .ok (.getstatic 63, 3) := by decide +kernel
theorem dX2_next_10 : decode cX2_next 10 = .ok (.iload_n 2, 1) := by decide +kernel
theorem dX2_next_11 : decode cX2_next 11 = .ok (.iaload, 1) := by decide +kernel
theorem dX2_next_12 : decode cX2_next 12 = .ok (.iadd, 1) := by decide +kernel
theorem dX2_next_13 : decode cX2_next 13 = .ok (.aload_n 0, 1) := by decide +kernel
theorem dX2_next_14 : decode cX2_next 14 = .ok (.getfield 13, 3) := by decide +kernel
theorem dX2_next_17 : decode cX2_next 17 = .ok (.iload_n 1, 1) := by decide +kernel
theorem dX2_next_18 : decode cX2_next 18 = .ok (.iaload, 1) := by decide +kernel
theorem dX2_next_19 : decode cX2_next 19 = .ok (.getstatic 66, 3) := by decide +kernel
theorem dX2_next_22 : decode cX2_next 22 = .ok (.iload_n 2, 1) := by decide +kernel
theorem dX2_next_23 : decode cX2_next 23 = .ok (.iaload, 1) := by decide +kernel
theorem dX2_next_24 : decode cX2_next 24 = .ok (.iadd, 1) := by decide +kernel
theorem dX2_next_25 : decode cX2_next 25 = .ok (.invokevirtual 69, 3) := by decide +kernel
theorem dX2_next_28 : decode cX2_next 28 = .ok (.ireturn, 1) := by decide +kernel
set_option maxRecDepth 20000 in
theorem ggX2_on_X2_next : GoodIn wsX2_on wsX2_next := goodIn_r _ [7, 8, 9, 10, 11, 12, 13, 14, 6, 15, 16, 17, 18, 19, 20, 21, 22, 23, 24, 25, 26, 27, 28, 29, 30, 31, 32] (by decide +kernel) (by decide +kernel)
set_option maxRecDepth 20000 in
theorem gX2_on_X2_next : GoodIn wsX2_on (wsV RX2 73 RX2 yX2_next wsX2_next) := goodIn_app (goodIn_of _ (by decide +kernel)) ggX2_on_X2_next
theorem dX2_on_0 : decode cX2_on 0 = .ok (.aload_n 0, 1) := by decide +kernel
theorem dX2_on_1 : decode cX2_on 1 = .ok (.iload_n 1, 1) := by decide +kernel
theorem dX2_on_2 : decode cX2_on 2 = .ok (.iload_n 2, 1) := by decide +kernel
theorem dX2_on_3 : decode cX2_on 3 = .ok (.invokevirtual 73, 3) := by decide +kernel
theorem dX2_on_6 : decode cX2_on 6 = .ok (.istore_n 3, 1) := by decide +kernel
theorem dX2_on_7 : decode cX2_on 7 = .ok (.iload_n 3, 1) := by decide +kernel
theorem dX2_on_8 : decode cX2_on 8 = .ok (.iconst (-1), 1) := by decide +kernel
theorem dX2_on_9 : decode cX2_on 9 = .ok (.if_icmp .eq 27, 3) := by decide +kernel
theorem dX2_on_12 : decode cX2_on 12 = .ok (.aload_n 0, 1) := by decide +kernel
theorem dX2_on_13 : decode cX2_on 13 = .ok (.getfield 25, 3) := by decide +kernel
theorem dX2_on_16 : decode cX2_on 16 = .ok (.bipush 6, 2) := by decide +kernel
theorem dX2_on_18 : decode cX2_on 18 = .ok (.iload_n 1, 1) := by decide +kernel
theorem dX2_on_19 : decode cX2_on 19 = .ok (.imul, 1) := by decide +kernel
theorem dX2_on_20 : decode cX2_on 20 = .ok (.iload_n 2, 1) := by decide +kernel
theorem dX2_on_21 : decode cX2_on 21 = .ok (.iadd, 1) := by decide +kernel
theorem dX2_on_22 : decode cX2_on 22 = .ok (.baload, 1) := by decide +kernel
theorem dX2_on_23 : decode cX2_on 23 = .ok (.ifCond .ne 13, 3) := by decide +kernel
theorem dX2_on_26 : decode cX2_on 26 = .ok (.aload_n 0, 1) := by decide +kernel
theorem dX2_on_27 : decode cX2_on 27 = .ok (.getfield 19, 3) := by decide +kernel
theorem dX2_on_30 : decode cX2_on 30 = .ok (.iload_n 3, 1) := by decide +kernel
theorem dX2_on_31 : decode cX2_on 31 = .ok (.iaload, 1) := by decide +kernel
theorem dX2_on_32 : decode cX2_on 32 = .ok (.iconst 1, 1) := by decide +kernel
theorem dX2_on_33 : decode cX2_on 33 = .ok (.if_icmp .ne 7, 3) := by decide +kernel
theorem dX2_on_36 : decode cX2_on 36 = .ok (.iconst (-1), 1) := by decide +kernel
theorem dX2_on_37 : decode cX2_on 37 = .ok (.goto 4, 3) := by decide +kernel
theorem dX2_on_40 : decode cX2_on 40 = .ok (.iload_n 3, 1) := by decide +kernel
theorem dX2_on_41 : decode cX2_on 41 = .ok (.ireturn, 1) := by decide +kernel
theorem dX2_size_0 : decode cX2_size 0 = .ok (.iload_n 0, 1) := by decide +kernel
theorem dX2_size_1 : decode cX2_size 1 = .ok (.ifCond .ne 7, 3) := by decide +kernel
theorem dX2_size_4 : decode cX2_size 4 = .ok (.iconst 1, 1) := by decide +kernel
theorem dX2_size_5 : decode cX2_size 5 = .ok (.goto 7, 3) := by decide +kernel
theorem dX2_size_8 : decode cX2_size 8 = .ok (.bipush 6, 2) := by decide +kernel
theorem dX2_size_10 : decode cX2_size 10 = .ok (.iload_n 0, 1) := by decide +kernel
theorem dX2_size_11 : decode cX2_size 11 = .ok (.imul, 1) := by decide +kernel
theorem dX2_size_12 : decode cX2_size 12 = .ok (.ireturn, 1) := by decide +kernel
theorem dX2_first_0 : decode cX2_first 0 = .ok (.iload_n 0, 1) := by decide +kernel
theorem dX2_first_1 : decode cX2_first 1 = .ok (.ifCond .ne 7, 3) := by decide +kernel
theorem dX2_first_4 : decode cX2_first 4 = .ok (.iconst 0, 1) := by decide +kernel
theorem dX2_first_5 : decode cX2_first 5 = .ok (.goto 12, 3) := by decide +kernel
theorem dX2_first_8 : decode cX2_first 8 = .ok (.iconst 1, 1) := by decide +kernel
theorem dX2_first_9 : decode cX2_first 9 = .ok (.iconst 3, 1) := by decide +kernel
theorem dX2_first_10 : decode cX2_first 10 = .ok (.iload_n 0, 1) := by decide +kernel
theorem dX2_first_11 : decode cX2_first 11 = .ok (.imul, 1) := by decide +kernel
theorem dX2_first_12 : decode cX2_first 12 = .ok (.iload_n 0, 1) := by decide +kernel
theorem dX2_first_13 : decode cX2_first 13 = .ok (.iconst 1, 1) := by decide +kernel
theorem dX2_first_14 : decode cX2_first 14 = .ok (.isub, 1) := by decide +kernel
theorem dX2_first_15 : decode cX2_first 15 = .ok (.imul, 1) := by decide +kernel
theorem dX2_first_16 : decode cX2_first 16 = .ok (.iadd, 1) := by decide +kernel
theorem dX2_first_17 : decode cX2_first 17 = .ok (.ireturn, 1) := by decide +kernel
set_option maxRecDepth 20000 in
theorem ggX2_shine_X2_on : GoodIn wsX2_shine wsX2_on := goodIn_r _ [6, 7, 8, 9, 10, 11, 5, 12, 13, 14, 15, 16, 17, 18, 19, 20, 21, 22, 23, 24, 25, 26, 27, 28, 29, 30, 31, 32, 33, 34, 35, 36, 37] (by decide +kernel) (by decide +kernel)
set_option maxRecDepth 20000 in
theorem gX2_shine_X2_on : GoodIn wsX2_shine (wsV RX2 76 RX2 yX2_on wsX2_on) := goodIn_app (goodIn_of _ (by decide +kernel)) ggX2_shine_X2_on
theorem dX2_shine_0 : decode cX2_shine 0 = .ok (.aload_n 0, 1) := by decide +kernel
theorem dX2_shine_1 : decode cX2_shine 1 = .ok (.getfield 29, 3) := by decide +kernel
theorem dX2_shine_4 : decode cX2_shine 4 = .ok (.iload_n 1, 1) := by decide +kernel
theorem dX2_shine_5 : decode cX2_shine 5 = .ok (.dup2, 1) := by decide +kernel
theorem dX2_shine_6 : decode cX2_shine 6 = .ok (.iaload, 1) := by decide +kernel
theorem dX2_shine_7 : decode cX2_shine 7 = .ok (.iconst 1, 1) := by decide +kernel
theorem dX2_shine_8 : decode cX2_shine 8 = .ok (.iadd, 1) := by decide +kernel
theorem dX2_shine_9 : decode cX2_shine 9 = .ok (.iastore, 1) := by decide +kernel
theorem dX2_shine_10 : decode cX2_shine 10 = .ok (.iconst 0, 1) := by decide +kernel
theorem dX2_shine_11 : decode cX2_shine 11 = .ok (.istore_n 2, 1) := by decide +kernel
theorem dX2_shine_12 : decode cX2_shine 12 = .ok (.iload_n 2, 1) := by decide +kernel
theorem dX2_shine_13 : decode cX2_shine 13 = .ok (.bipush 6, 2) := by decide +kernel
theorem dX2_shine_15 : decode cX2_shine 15 = .ok (.if_icmp .ge 41, 3) := by decide +kernel
theorem dX2_shine_18 : decode cX2_shine 18 = .ok (.aload_n 0, 1) := by decide +kernel
theorem dX2_shine_19 : decode cX2_shine 19 = .ok (.iload_n 1, 1) := by decide +kernel
theorem dX2_shine_20 : decode cX2_shine 20 = .ok (.iload_n 2, 1) := by decide +kernel
theorem dX2_shine_21 : decode cX2_shine 21 = .ok (.invokevirtual 76, 3) := by decide +kernel
theorem dX2_shine_24 : decode cX2_shine 24 = .ok (.istore_n 3, 1) := by decide +kernel
theorem dX2_shine_25 : decode cX2_shine 25 = .ok (.iload_n 3, 1) := by decide +kernel
theorem dX2_shine_26 : decode cX2_shine 26 = .ok (.iconst (-1), 1) := by decide +kernel
theorem dX2_shine_27 : decode cX2_shine 27 = .ok (.if_icmp .eq 23, 3) := by decide +kernel
theorem dX2_shine_30 : decode cX2_shine 30 = .ok (.aload_n 0, 1) := by decide +kernel
theorem dX2_shine_31 : decode cX2_shine 31 = .ok (.getfield 29, 3) := by decide +kernel
theorem dX2_shine_34 : decode cX2_shine 34 = .ok (.iload_n 3, 1) := by decide +kernel
theorem dX2_shine_35 : decode cX2_shine 35 = .ok (.dup2, 1) := by decide +kernel
theorem dX2_shine_36 : decode cX2_shine 36 = .ok (.iaload, 1) := by decide +kernel
theorem dX2_shine_37 : decode cX2_shine 37 = .ok (.iconst 1, 1) := by decide +kernel
theorem dX2_shine_38 : decode cX2_shine 38 = .ok (.iadd, 1) := by decide +kernel
theorem dX2_shine_39 : decode cX2_shine 39 = .ok (.iastore, 1) := by decide +kernel
theorem dX2_shine_40 : decode cX2_shine 40 = .ok (.aload_n 0, 1) := by decide +kernel
theorem dX2_shine_41 : decode cX2_shine 41 = .ok (.iload_n 3, 1) := by decide +kernel
theorem dX2_shine_42 : decode cX2_shine 42 = .ok (.iload_n 2, 1) := by decide +kernel
theorem dX2_shine_43 : decode cX2_shine 43 = .ok (.invokevirtual 76, 3) := by decide +kernel
theorem dX2_shine_46 : decode cX2_shine 46 = .ok (.istore_n 3, 1) := by decide +kernel
theorem dX2_shine_47 : decode cX2_shine 47 = .ok (.goto (-22), 3) := by decide +kernel
theorem dX2_shine_50 : decode cX2_shine 50 = .ok (.iinc 2 1, 3) := by decide +kernel
theorem dX2_shine_53 : decode cX2_shine 53 = .ok (.goto (-41), 3) := by decide +kernel
theorem dX2_shine_56 : decode cX2_shine 56 = .ok (.return_, 1) := by decide +kernel
set_option maxRecDepth 20000 in
theorem ggX2_lit_X2_shine : GoodIn wsX2_lit wsX2_shine := goodIn_r _ [8, 2, 9, 10, 11, 7, 12, 13, 3, 14, 15, 16, 17, 18, 19, 20, 21, 22, 23, 24, 25, 26, 27, 28, 29, 30, 31, 32, 33, 34, 35, 36, 37, 38, 39, 40, 41, 42] (by decide +kernel) (by decide +kernel)
set_option maxRecDepth 20000 in
theorem gX2_lit_X2_shine : GoodIn wsX2_lit (wsV RX2 79 RX2 yX2_shine wsX2_shine) := goodIn_app (goodIn_of _ (by decide +kernel)) ggX2_lit_X2_shine
theorem dX2_lit_0 : decode cX2_lit 0 = .ok (.iconst 0, 1) := by decide +kernel
theorem dX2_lit_1 : decode cX2_lit 1 = .ok (.istore_n 1, 1) := by decide +kernel
theorem dX2_lit_2 : decode cX2_lit 2 = .ok (.iload_n 1, 1) := by decide +kernel
theorem dX2_lit_3 : decode cX2_lit 3 = .ok (.aload_n 0, 1) := by decide +kernel
theorem dX2_lit_4 : decode cX2_lit 4 = .ok (.getfield 49, 3) := by decide +kernel
theorem dX2_lit_7 : decode cX2_lit 7 = .ok (.if_icmp .ge 16, 3) := by decide +kernel
theorem dX2_lit_10 : decode cX2_lit 10 = .ok (.aload_n 0, 1) := by decide +kernel
theorem dX2_lit_11 : decode cX2_lit 11 = .ok (.getfield 29, 3) := by decide +kernel
theorem dX2_lit_14 : decode cX2_lit 14 = .ok (.iload_n 1, 1) := by decide +kernel
theorem dX2_lit_15 : decode cX2_lit 15 = .ok (.iconst 0, 1) := by decide +kernel
theorem dX2_lit_16 : decode cX2_lit 16 = .ok (.iastore, 1) := by decide +kernel
theorem dX2_lit_17 : decode cX2_lit 17 = .ok (.iinc 1 1, 3) := by decide +kernel
theorem dX2_lit_20 : decode cX2_lit 20 = .ok (.goto (-18), 3) := by decide +kernel
theorem dX2_lit_23 : decode cX2_lit 23 = .ok (.iconst 0, 1) := by decide +kernel
theorem dX2_lit_24 : decode cX2_lit 24 = .ok (.istore_n 1, 1) := by decide +kernel
theorem dX2_lit_25 : decode cX2_lit 25 = .ok (.iload_n 1, 1) := by decide +kernel
theorem dX2_lit_26 : decode cX2_lit 26 = .ok (.aload_n 0, 1) := by decide +kernel
theorem dX2_lit_27 : decode cX2_lit 27 = .ok (.getfield 49, 3) := by decide +kernel
theorem dX2_lit_30 : decode cX2_lit 30 = .ok (.if_icmp .ge 24, 3) := by decide +kernel
theorem dX2_lit_33 : decode cX2_lit 33 = .ok (.aload_n 0, 1) := by decide +kernel
theorem dX2_lit_34 : decode cX2_lit 34 = .ok (.getfield 19, 3) := by decide +kernel
theorem dX2_lit_37 : decode cX2_lit 37 = .ok (.iload_n 1, 1) := by decide +kernel
theorem dX2_lit_38 : decode cX2_lit 38 = .ok (.iaload, 1) := by decide +kernel
theorem dX2_lit_39 : decode cX2_lit 39 = .ok (.iconst 2, 1) := by decide +kernel
theorem dX2_lit_40 : decode cX2_lit 40 = .ok (.if_icmp .ne 8, 3) := by decide +kernel
theorem dX2_lit_43 : decode cX2_lit 43 = .ok (.aload_n 0, 1) := by decide +kernel
theorem dX2_lit_44 : decode cX2_lit 44 = .ok (.iload_n 1, 1) := by decide +kernel
theorem dX2_lit_45 : decode cX2_lit 45 = .ok (.invokevirtual 79, 3) := by decide +kernel
theorem dX2_lit_48 : decode cX2_lit 48 = .ok (.iinc 1 1, 3) := by decide +kernel
theorem dX2_lit_51 : decode cX2_lit 51 = .ok (.goto (-26), 3) := by decide +kernel
theorem dX2_lit_54 : decode cX2_lit 54 = .ok (.iconst 0, 1) := by decide +kernel
theorem dX2_lit_55 : decode cX2_lit 55 = .ok (.istore_n 1, 1) := by decide +kernel
theorem dX2_lit_56 : decode cX2_lit 56 = .ok (.iconst 0, 1) := by decide +kernel
theorem dX2_lit_57 : decode cX2_lit 57 = .ok (.istore_n 2, 1) := by decide +kernel
theorem dX2_lit_58 : decode cX2_lit 58 = .ok (.iload_n 2, 1) := by decide +kernel
theorem dX2_lit_59 : decode cX2_lit 59 = .ok (.aload_n 0, 1) := by decide +kernel
theorem dX2_lit_60 : decode cX2_lit 60 = .ok (.getfield 49, 3) := by decide +kernel
theorem dX2_lit_63 : decode cX2_lit 63 = .ok (.if_icmp .ge 26, 3) := by decide +kernel
theorem dX2_lit_66 : decode cX2_lit 66 = .ok (.iload_n 1, 1) := by decide +kernel
theorem dX2_lit_67 : decode cX2_lit 67 = .ok (.aload_n 0, 1) := by decide +kernel
theorem dX2_lit_68 : decode cX2_lit 68 = .ok (.getfield 29, 3) := by decide +kernel
theorem dX2_lit_71 : decode cX2_lit 71 = .ok (.iload_n 2, 1) := by decide +kernel
theorem dX2_lit_72 : decode cX2_lit 72 = .ok (.iaload, 1) := by decide +kernel
theorem dX2_lit_73 : decode cX2_lit 73 = .ok (.ifCond .le 7, 3) := by decide +kernel
theorem dX2_lit_76 : decode cX2_lit 76 = .ok (.iconst 1, 1) := by decide +kernel
theorem dX2_lit_77 : decode cX2_lit 77 = .ok (.goto 4, 3) := by decide +kernel
theorem dX2_lit_80 : decode cX2_lit 80 = .ok (.iconst 0, 1) := by decide +kernel
theorem dX2_lit_81 : decode cX2_lit 81 = .ok (.iadd, 1) := by decide +kernel
theorem dX2_lit_82 : decode cX2_lit 82 = .ok (.istore_n 1, 1) := by decide +kernel
theorem dX2_lit_83 : decode cX2_lit 83 = .ok (.iinc 2 1, 3) := by decide +kernel
theorem dX2_lit_86 : decode cX2_lit 86 = .ok (.goto (-28), 3) := by decide +kernel
theorem dX2_lit_89 : decode cX2_lit 89 = .ok (.iload_n 1, 1) := by decide +kernel
theorem dX2_lit_90 : decode cX2_lit 90 = .ok (.ireturn, 1) := by decide +kernel
set_option maxRecDepth 20000 in
theorem ggX2_move_X2_size : GoodIn wsX2_move wsX2_size := goodIn_r _ [10] (by decide +kernel) (by decide +kernel)
set_option maxRecDepth 20000 in
theorem gX2_move_X2_size : GoodIn wsX2_move (va_wsS RX2 82 yX2_size wsX2_size) := goodIn_app (goodIn_of _ (by decide +kernel)) ggX2_move_X2_size
set_option maxRecDepth 20000 in
theorem ggX2_move_X2_first : GoodIn wsX2_move wsX2_first := goodIn_r _ [13] (by decide +kernel) (by decide +kernel)
set_option maxRecDepth 20000 in
theorem gX2_move_X2_first : GoodIn wsX2_move (va_wsS RX2 86 yX2_first wsX2_first) := goodIn_app (goodIn_of _ (by decide +kernel)) ggX2_move_X2_first
theorem dX2_move_0 : decode cX2_move 0 = .ok (.iload_n 1, 1) := by decide +kernel
theorem dX2_move_1 : decode cX2_move 1 = .ok (.invokestatic 82, 3) := by decide +kernel
theorem dX2_move_4 : decode cX2_move 4 = .ok (.istore_n 3, 1) := by decide +kernel
theorem dX2_move_5 : decode cX2_move 5 = .ok (.iload_n 1, 1) := by decide +kernel
theorem dX2_move_6 : decode cX2_move 6 = .ok (.invokestatic 86, 3) := by decide +kernel
theorem dX2_move_9 : decode cX2_move 9 = .ok (.istore 4, 2) := by decide +kernel
theorem dX2_move_11 : decode cX2_move 11 = .ok (.iconst 0, 1) := by decide +kernel
theorem dX2_move_12 : decode cX2_move 12 = .ok (.istore 5, 2) := by decide +kernel
theorem dX2_move_14 : decode cX2_move 14 = .ok (.iload 5, 2) := by decide +kernel
theorem dX2_move_16 : decode cX2_move 16 = .ok (.iload_n 3, 1) := by decide +kernel
theorem dX2_move_17 : decode cX2_move 17 = .ok (.if_icmp .ge 30, 3) := by decide +kernel
theorem dX2_move_20 : decode cX2_move 20 = .ok (.aload_n 0, 1) := by decide +kernel
theorem dX2_move_21 : decode cX2_move 21 = .ok (.getfield 38, 3) := by decide +kernel
theorem dX2_move_24 : decode cX2_move 24 = .ok (.iload 5, 2) := by decide +kernel
theorem dX2_move_26 : decode cX2_move 26 = .ok (.iload_n 2, 1) := by decide +kernel
theorem dX2_move_27 : decode cX2_move 27 = .ok (.iadd, 1) := by decide +kernel
theorem dX2_move_28 : decode cX2_move 28 = .ok (.iload_n 3, 1) := by decide +kernel
theorem dX2_move_29 : decode cX2_move 29 = .ok (.irem, 1) := by decide +kernel
theorem dX2_move_30 : decode cX2_move 30 = .ok (.aload_n 0, 1) := by decide +kernel
theorem dX2_move_31 : decode cX2_move 31 = .ok (.getfield 19, 3) := by decide +kernel
theorem dX2_move_34 : decode cX2_move 34 = .ok (.iload 4, 2) := by decide +kernel
theorem dX2_move_36 : decode cX2_move 36 = .ok (.iload 5, 2) := by decide +kernel
theorem dX2_move_38 : decode cX2_move 38 = .ok (.iadd, 1) := by decide +kernel
theorem dX2_move_39 : decode cX2_move 39 = .ok (.iaload, 1) := by decide +kernel
theorem dX2_move_40 : decode cX2_move 40 = .ok (.iastore, 1) := by decide +kernel
theorem dX2_move_41 : decode cX2_move 41 = .ok (.iinc 5 1, 3) := by decide +kernel
theorem dX2_move_44 : decode cX2_move 44 = .ok (.goto (-30), 3) := by decide +kernel
theorem dX2_move_47 : decode cX2_move 47 = .ok (.aload_n 0, 1) := by decide +kernel
theorem dX2_move_48 : decode cX2_move 48 = .ok (.getfield 38, 3) := by decide +kernel
theorem dX2_move_51 : decode cX2_move 51 = .ok (.iconst 0, 1) := by decide +kernel
theorem dX2_move_52 : decode cX2_move 52 = .ok (.aload_n 0, 1) := by decide +kernel
theorem dX2_move_53 : decode cX2_move 53 = .ok (.getfield 19, 3) := by decide +kernel
theorem dX2_move_56 : decode cX2_move 56 = .ok (.iload 4, 2) := by decide +kernel
theorem dX2_move_58 : decode cX2_move 58 = .ok (.iload_n 3, 1) := by decide +kernel
theorem dX2_move_59 : decode cX2_move 59 = .ok (.invokestatic 89, 3) := by decide +kernel
theorem dX2_move_62 : decode cX2_move 62 = .ok (.return_, 1) := by decide +kernel
set_option maxRecDepth 20000 in
theorem ggX2_setRings_X2_isIn : GoodIn wsX2_setRings wsX2_isIn := goodIn_r _ [6] (by decide +kernel) (by decide +kernel)
set_option maxRecDepth 20000 in
theorem gX2_setRings_X2_isIn : GoodIn wsX2_setRings (va_wsS RX2 52 yX2_isIn wsX2_isIn) := goodIn_app (goodIn_of _ (by decide +kernel)) ggX2_setRings_X2_isIn
set_option maxRecDepth 20000 in
theorem ggX2_setRings_X2_fail : GoodIn wsX2_setRings wsX2_fail := goodIn_r _ [10, 1, 28, 29, 30, 31, 32, 33, 34, 35, 36, 37, 38, 39, 40] (by decide +kernel) (by decide +kernel)
set_option maxRecDepth 20000 in
theorem gX2_setRings_X2_fail : GoodIn wsX2_setRings (wsV RX2 95 RX2 yX2_fail wsX2_fail) := goodIn_app (goodIn_of _ (by decide +kernel)) ggX2_setRings_X2_fail
set_option maxRecDepth 20000 in
theorem ggX2_setRings_X2_build : GoodIn wsX2_setRings wsX2_build := goodIn_r _ [14, 15, 2, 16, 17, 18, 19, 20, 21, 22, 5, 23, 24, 25, 26, 27, 28, 29, 30, 31, 32, 33, 34, 35, 36, 37, 38, 39, 40] (by decide +kernel) (by decide +kernel)
set_option maxRecDepth 20000 in
theorem gX2_setRings_X2_build : GoodIn wsX2_setRings (wsV RX2 41 RX2 yX2_build wsX2_build) := goodIn_app (goodIn_of _ (by decide +kernel)) ggX2_setRings_X2_build
theorem dX2_setRings_0 : decode cX2_setRings 0 = .ok (.aload_n 0, 1) := by decide +kernel
theorem dX2_setRings_1 : decode cX2_setRings 1 = .ok (.iconst 0, 1) := by decide +kernel
theorem dX2_setRings_2 : decode cX2_setRings 2 = .ok (.putfield 45, 3) := by decide +kernel
theorem dX2_setRings_5 : decode cX2_setRings 5 = .ok (.iload_n 1, 1) := by decide +kernel
theorem dX2_setRings_6 : decode cX2_setRings 6 = .ok (.iconst 1, 1) := by decide +kernel
theorem dX2_setRings_7 : decode cX2_setRings 7 = .ok (.iconst 5, 1) := by decide +kernel
theorem dX2_setRings_8 : decode cX2_setRings 8 = .ok (.invokestatic 52, 3) := by decide +kernel
theorem dX2_setRings_11 : decode cX2_setRings 11 = .ok (.ifCond .ne 9, 3) := by decide +kernel
theorem dX2_setRings_14 : decode cX2_setRings 14 = .ok (.aload_n 0, 1) := by decide +kernel
theorem dX2_setRings_15 : decode cX2_setRings 15 = .ok (.iconst 1, 1) := by decide +kernel
theorem dX2_setRings_16 : decode cX2_setRings 16 = .ok (.invokevirtual 95, 3) := by decide +kernel
theorem dX2_setRings_19 : decode cX2_setRings 19 = .ok (.ireturn, 1) := by decide +kernel
theorem dX2_setRings_20 : decode cX2_setRings 20 = .ok (.aload_n 0, 1) := by decide +kernel
theorem dX2_setRings_21 : decode cX2_setRings 21 = .ok (.iload_n 1, 1) := by decide +kernel
theorem dX2_setRings_22 : decode cX2_setRings 22 = .ok (.invokevirtual 41, 3) := by decide +kernel
theorem dX2_setRings_25 : decode cX2_setRings 25 = .ok (.aload_n 0, 1) := by decide +kernel
theorem dX2_setRings_26 : decode cX2_setRings 26 = .ok (.getfield 49, 3) := by decide +kernel
theorem dX2_setRings_29 : decode cX2_setRings 29 = .ok (.ireturn, 1) := by decide +kernel
set_option maxRecDepth 20000 in
theorem ggX2_put_X2_isRoom : GoodIn wsX2_put wsX2_isRoom := goodIn_r _ [7, 8, 9, 10, 6, 11, 16, 17, 18, 19, 20, 21, 22, 23, 24, 25, 26, 27, 28] (by decide +kernel) (by decide +kernel)
set_option maxRecDepth 20000 in
theorem gX2_put_X2_isRoom : GoodIn wsX2_put (wsV RX2 98 RX2 yX2_isRoom wsX2_isRoom) := goodIn_app (goodIn_of _ (by decide +kernel)) ggX2_put_X2_isRoom
set_option maxRecDepth 20000 in
theorem ggX2_put_X2_isIn : GoodIn wsX2_put wsX2_isIn := goodIn_r _ [11] (by decide +kernel) (by decide +kernel)
set_option maxRecDepth 20000 in
theorem gX2_put_X2_isIn : GoodIn wsX2_put (va_wsS RX2 52 yX2_isIn wsX2_isIn) := goodIn_app (goodIn_of _ (by decide +kernel)) ggX2_put_X2_isIn
set_option maxRecDepth 20000 in
theorem ggX2_put_X2_fail : GoodIn wsX2_put wsX2_fail := goodIn_r _ [15, 1, 16, 17, 18, 19, 20, 21, 22, 23, 24, 25, 26, 27, 28] (by decide +kernel) (by decide +kernel)
set_option maxRecDepth 20000 in
theorem gX2_put_X2_fail : GoodIn wsX2_put (wsV RX2 95 RX2 yX2_fail wsX2_fail) := goodIn_app (goodIn_of _ (by decide +kernel)) ggX2_put_X2_fail
theorem dX2_put_0 : decode cX2_put 0 = .ok (.aload_n 0, 1) := by decide +kernel
theorem dX2_put_1 : decode cX2_put 1 = .ok (.iconst 0, 1) := by decide +kernel
theorem dX2_put_2 : decode cX2_put 2 = .ok (.putfield 45, 3) := by decide +kernel
theorem dX2_put_5 : decode cX2_put 5 = .ok (.aload_n 0, 1) := by decide +kernel
theorem dX2_put_6 : decode cX2_put 6 = .ok (.iload_n 1, 1) := by decide +kernel
theorem dX2_put_7 : decode cX2_put 7 = .ok (.invokevirtual 98, 3) := by decide +kernel
theorem dX2_put_10 : decode cX2_put 10 = .ok (.ifCond .eq 12, 3) := by decide +kernel
theorem dX2_put_13 : decode cX2_put 13 = .ok (.iload_n 2, 1) := by decide +kernel
theorem dX2_put_14 : decode cX2_put 14 = .ok (.iconst 0, 1) := by decide +kernel
theorem dX2_put_15 : decode cX2_put 15 = .ok (.iconst 2, 1) := by decide +kernel
theorem dX2_put_16 : decode cX2_put 16 = .ok (.invokestatic 52, 3) := by decide +kernel
theorem dX2_put_19 : decode cX2_put 19 = .ok (.ifCond .ne 9, 3) := by decide +kernel
theorem dX2_put_22 : decode cX2_put 22 = .ok (.aload_n 0, 1) := by decide +kernel
theorem dX2_put_23 : decode cX2_put 23 = .ok (.iconst 1, 1) := by decide +kernel
theorem dX2_put_24 : decode cX2_put 24 = .ok (.invokevirtual 95, 3) := by decide +kernel
theorem dX2_put_27 : decode cX2_put 27 = .ok (.ireturn, 1) := by decide +kernel
theorem dX2_put_28 : decode cX2_put 28 = .ok (.aload_n 0, 1) := by decide +kernel
theorem dX2_put_29 : decode cX2_put 29 = .ok (.getfield 19, 3) := by decide +kernel
theorem dX2_put_32 : decode cX2_put 32 = .ok (.iload_n 1, 1) := by decide +kernel
theorem dX2_put_33 : decode cX2_put 33 = .ok (.iaload, 1) := by decide +kernel
theorem dX2_put_34 : decode cX2_put 34 = .ok (.istore_n 3, 1) := by decide +kernel
theorem dX2_put_35 : decode cX2_put 35 = .ok (.aload_n 0, 1) := by decide +kernel
theorem dX2_put_36 : decode cX2_put 36 = .ok (.getfield 19, 3) := by decide +kernel
theorem dX2_put_39 : decode cX2_put 39 = .ok (.iload_n 1, 1) := by decide +kernel
theorem dX2_put_40 : decode cX2_put 40 = .ok (.iload_n 2, 1) := by decide +kernel
theorem dX2_put_41 : decode cX2_put 41 = .ok (.iastore, 1) := by decide +kernel
theorem dX2_put_42 : decode cX2_put 42 = .ok (.iload_n 3, 1) := by decide +kernel
theorem dX2_put_43 : decode cX2_put 43 = .ok (.ireturn, 1) := by decide +kernel
set_option maxRecDepth 20000 in
theorem ggX2_shut_X2_isRoom : GoodIn wsX2_shut wsX2_isRoom := goodIn_r _ [7, 8, 9, 10, 6, 11, 28, 29, 30, 31, 32, 33, 34, 35, 36, 37, 38, 39, 40] (by decide +kernel) (by decide +kernel)
set_option maxRecDepth 20000 in
theorem gX2_shut_X2_isRoom : GoodIn wsX2_shut (wsV RX2 98 RX2 yX2_isRoom wsX2_isRoom) := goodIn_app (goodIn_of _ (by decide +kernel)) ggX2_shut_X2_isRoom
set_option maxRecDepth 20000 in
theorem ggX2_shut_X2_isSide : GoodIn wsX2_shut wsX2_isSide := goodIn_r _ [14, 9, 10, 6, 11] (by decide +kernel) (by decide +kernel)
set_option maxRecDepth 20000 in
theorem gX2_shut_X2_isSide : GoodIn wsX2_shut (va_wsS RX2 102 yX2_isSide wsX2_isSide) := goodIn_app (goodIn_of _ (by decide +kernel)) ggX2_shut_X2_isSide
set_option maxRecDepth 20000 in
theorem ggX2_shut_X2_next : GoodIn wsX2_shut wsX2_next := goodIn_r _ [18, 19, 20, 21, 22, 23, 24, 25, 6, 26, 27, 9, 10, 11, 28, 29, 30, 31, 32, 33, 34, 35, 36, 37, 38, 39, 40] (by decide +kernel) (by decide +kernel)
set_option maxRecDepth 20000 in
theorem gX2_shut_X2_next : GoodIn wsX2_shut (wsV RX2 73 RX2 yX2_next wsX2_next) := goodIn_app (goodIn_of _ (by decide +kernel)) ggX2_shut_X2_next
theorem dX2_shut_0 : decode cX2_shut 0 = .ok (.aload_n 0, 1) := by decide +kernel
theorem dX2_shut_1 : decode cX2_shut 1 = .ok (.aload_n 0, 1) := by decide +kernel
theorem dX2_shut_2 : decode cX2_shut 2 = .ok (.iload_n 1, 1) := by decide +kernel
theorem dX2_shut_3 : decode cX2_shut 3 = .ok (.invokevirtual 98, 3) := by decide +kernel
theorem dX2_shut_6 : decode cX2_shut 6 = .ok (.ifCond .eq 10, 3) := by decide +kernel
theorem dX2_shut_9 : decode cX2_shut 9 = .ok (.iload_n 2, 1) := by decide +kernel
theorem dX2_shut_10 : decode cX2_shut 10 = .ok (.invokestatic 102, 3) := by decide +kernel
theorem dX2_shut_13 : decode cX2_shut 13 = .ok (.ifCond .ne 7, 3) := by decide +kernel
theorem dX2_shut_16 : decode cX2_shut 16 = .ok (.iconst 1, 1) := by decide +kernel
theorem dX2_shut_17 : decode cX2_shut 17 = .ok (.goto 18, 3) := by decide +kernel
theorem dX2_shut_20 : decode cX2_shut 20 = .ok (.aload_n 0, 1) := by decide +kernel
theorem dX2_shut_21 : decode cX2_shut 21 = .ok (.iload_n 1, 1) := by decide +kernel
theorem dX2_shut_22 : decode cX2_shut 22 = .ok (.iload_n 2, 1) := by decide +kernel
theorem dX2_shut_23 : decode cX2_shut 23 = .ok (.invokevirtual 73, 3) := by decide +kernel
theorem dX2_shut_26 : decode cX2_shut 26 = .ok (.iconst (-1), 1) := by decide +kernel
theorem dX2_shut_27 : decode cX2_shut 27 = .ok (.if_icmp .ne 7, 3) := by decide +kernel
theorem dX2_shut_30 : decode cX2_shut 30 = .ok (.iconst 2, 1) := by decide +kernel
theorem dX2_shut_31 : decode cX2_shut 31 = .ok (.goto 4, 3) := by decide +kernel
theorem dX2_shut_34 : decode cX2_shut 34 = .ok (.iconst 0, 1) := by decide +kernel
theorem dX2_shut_35 : decode cX2_shut 35 = .ok (.putfield 45, 3) := by decide +kernel
theorem dX2_shut_38 : decode cX2_shut 38 = .ok (.aload_n 0, 1) := by decide +kernel
theorem dX2_shut_39 : decode cX2_shut 39 = .ok (.getfield 45, 3) := by decide +kernel
theorem dX2_shut_42 : decode cX2_shut 42 = .ok (.ifCond .eq 5, 3) := by decide +kernel
theorem dX2_shut_45 : decode cX2_shut 45 = .ok (.iconst 0, 1) := by decide +kernel
theorem dX2_shut_46 : decode cX2_shut 46 = .ok (.ireturn, 1) := by decide +kernel
theorem dX2_shut_47 : decode cX2_shut 47 = .ok (.aload_n 0, 1) := by decide +kernel
theorem dX2_shut_48 : decode cX2_shut 48 = .ok (.getfield 25, 3) := by decide +kernel
theorem dX2_shut_51 : decode cX2_shut 51 = .ok (.bipush 6, 2) := by decide +kernel
theorem dX2_shut_53 : decode cX2_shut 53 = .ok (.iload_n 1, 1) := by decide +kernel
theorem dX2_shut_54 : decode cX2_shut 54 = .ok (.imul, 1) := by decide +kernel
theorem dX2_shut_55 : decode cX2_shut 55 = .ok (.iload_n 2, 1) := by decide +kernel
theorem dX2_shut_56 : decode cX2_shut 56 = .ok (.iadd, 1) := by decide +kernel
theorem dX2_shut_57 : decode cX2_shut 57 = .ok (.baload, 1) := by decide +kernel
theorem dX2_shut_58 : decode cX2_shut 58 = .ok (.istore 4, 2) := by decide +kernel
theorem dX2_shut_60 : decode cX2_shut 60 = .ok (.aload_n 0, 1) := by decide +kernel
theorem dX2_shut_61 : decode cX2_shut 61 = .ok (.getfield 25, 3) := by decide +kernel
theorem dX2_shut_64 : decode cX2_shut 64 = .ok (.bipush 6, 2) := by decide +kernel
theorem dX2_shut_66 : decode cX2_shut 66 = .ok (.iload_n 1, 1) := by decide +kernel
theorem dX2_shut_67 : decode cX2_shut 67 = .ok (.imul, 1) := by decide +kernel
theorem dX2_shut_68 : decode cX2_shut 68 = .ok (.iload_n 2, 1) := by decide +kernel
theorem dX2_shut_69 : decode cX2_shut 69 = .ok (.iadd, 1) := by decide +kernel
theorem dX2_shut_70 : decode cX2_shut 70 = .ok (.iload_n 3, 1) := by decide +kernel
theorem dX2_shut_71 : decode cX2_shut 71 = .ok (.bastore, 1) := by decide +kernel
theorem dX2_shut_72 : decode cX2_shut 72 = .ok (.aload_n 0, 1) := by decide +kernel
theorem dX2_shut_73 : decode cX2_shut 73 = .ok (.getfield 25, 3) := by decide +kernel
theorem dX2_shut_76 : decode cX2_shut 76 = .ok (.bipush 6, 2) := by decide +kernel
theorem dX2_shut_78 : decode cX2_shut 78 = .ok (.aload_n 0, 1) := by decide +kernel
theorem dX2_shut_79 : decode cX2_shut 79 = .ok (.iload_n 1, 1) := by decide +kernel
theorem dX2_shut_80 : decode cX2_shut 80 = .ok (.iload_n 2, 1) := by decide +kernel
theorem dX2_shut_81 : decode cX2_shut 81 = .ok (.invokevirtual 73, 3) := by decide +kernel
theorem dX2_shut_84 : decode cX2_shut 84 = .ok (.imul, 1) := by decide +kernel
theorem dX2_shut_85 : decode cX2_shut 85 = .ok (.iload_n 2, 1) := by decide +kernel
theorem dX2_shut_86 : decode cX2_shut 86 = .ok (.iconst 3, 1) := by decide +kernel
theorem dX2_shut_87 : decode cX2_shut 87 = .ok (.iadd, 1) := by decide +kernel
theorem dX2_shut_88 : decode cX2_shut 88 = .ok (.bipush 6, 2) := by decide +kernel
theorem dX2_shut_90 : decode cX2_shut 90 = .ok (.irem, 1) := by decide +kernel
theorem dX2_shut_91 : decode cX2_shut 91 = .ok (.iadd, 1) := by decide +kernel
theorem dX2_shut_92 : decode cX2_shut 92 = .ok (.iload_n 3, 1) := by decide +kernel
theorem dX2_shut_93 : decode cX2_shut 93 = .ok (.bastore, 1) := by decide +kernel
theorem dX2_shut_94 : decode cX2_shut 94 = .ok (.iload 4, 2) := by decide +kernel
theorem dX2_shut_96 : decode cX2_shut 96 = .ok (.ireturn, 1) := by decide +kernel
set_option maxRecDepth 20000 in
theorem ggX2_turn_X2_isRing : GoodIn wsX2_turn wsX2_isRing := goodIn_r _ [6, 7, 8, 9, 5, 10, 59, 60, 61, 62, 63, 64, 65, 66, 67, 68, 69, 70, 71] (by decide +kernel) (by decide +kernel)
set_option maxRecDepth 20000 in
theorem gX2_turn_X2_isRing : GoodIn wsX2_turn (wsV RX2 105 RX2 yX2_isRing wsX2_isRing) := goodIn_app (goodIn_of _ (by decide +kernel)) ggX2_turn_X2_isRing
set_option maxRecDepth 20000 in
theorem ggX2_turn_X2_fail : GoodIn wsX2_turn wsX2_fail := goodIn_r _ [14, 1, 59, 60, 61, 62, 63, 64, 65, 66, 67, 68, 69, 70, 71] (by decide +kernel) (by decide +kernel)
set_option maxRecDepth 20000 in
theorem gX2_turn_X2_fail : GoodIn wsX2_turn (wsV RX2 95 RX2 yX2_fail wsX2_fail) := goodIn_app (goodIn_of _ (by decide +kernel)) ggX2_turn_X2_fail
set_option maxRecDepth 20000 in
theorem ggX2_turn_X2_isIn : GoodIn wsX2_turn wsX2_isIn := goodIn_r _ [10] (by decide +kernel) (by decide +kernel)
set_option maxRecDepth 20000 in
theorem gX2_turn_X2_isIn : GoodIn wsX2_turn (va_wsS RX2 52 yX2_isIn wsX2_isIn) := goodIn_app (goodIn_of _ (by decide +kernel)) ggX2_turn_X2_isIn
set_option maxRecDepth 20000 in
theorem ggX2_turn_X2_move : GoodIn wsX2_turn wsX2_move := goodIn_r _ [18, 19, 20, 21, 22, 23, 24, 25, 26, 5, 27, 28, 29, 30, 59, 60, 61, 62, 63, 64, 65, 66, 67, 68, 69, 70, 71] (by decide +kernel) (by decide +kernel)
set_option maxRecDepth 20000 in
theorem gX2_turn_X2_move : GoodIn wsX2_turn (wsV RX2 108 RX2 yX2_move wsX2_move) := goodIn_app (goodIn_of _ (by decide +kernel)) ggX2_turn_X2_move
set_option maxRecDepth 20000 in
theorem ggX2_turn_X2_lit : GoodIn wsX2_turn wsX2_lit := goodIn_r _ [34, 35, 36, 20, 37, 38, 39, 5, 40, 41, 42, 43, 44, 45, 46, 47, 48, 49, 50, 51, 52, 53, 54, 55, 56, 57, 58, 8, 9, 10, 59, 60, 61, 62, 63, 64, 65, 66, 67, 68, 69, 70, 71] (by decide +kernel) (by decide +kernel)
set_option maxRecDepth 20000 in
theorem gX2_turn_X2_lit : GoodIn wsX2_turn (wsV RX2 112 RX2 yX2_lit wsX2_lit) := goodIn_app (goodIn_of _ (by decide +kernel)) ggX2_turn_X2_lit
theorem dX2_turn_0 : decode cX2_turn 0 = .ok (.aload_n 0, 1) := by decide +kernel
theorem dX2_turn_1 : decode cX2_turn 1 = .ok (.iconst 0, 1) := by decide +kernel
theorem dX2_turn_2 : decode cX2_turn 2 = .ok (.putfield 45, 3) := by decide +kernel
theorem dX2_turn_5 : decode cX2_turn 5 = .ok (.aload_n 0, 1) := by decide +kernel
theorem dX2_turn_6 : decode cX2_turn 6 = .ok (.iload_n 1, 1) := by decide +kernel
theorem dX2_turn_7 : decode cX2_turn 7 = .ok (.invokevirtual 105, 3) := by decide +kernel
theorem dX2_turn_10 : decode cX2_turn 10 = .ok (.ifCond .ne 9, 3) := by decide +kernel
theorem dX2_turn_13 : decode cX2_turn 13 = .ok (.aload_n 0, 1) := by decide +kernel
theorem dX2_turn_14 : decode cX2_turn 14 = .ok (.iconst 1, 1) := by decide +kernel
theorem dX2_turn_15 : decode cX2_turn 15 = .ok (.invokevirtual 95, 3) := by decide +kernel
theorem dX2_turn_18 : decode cX2_turn 18 = .ok (.ireturn, 1) := by decide +kernel
theorem dX2_turn_19 : decode cX2_turn 19 = .ok (.iload_n 2, 1) := by decide +kernel
theorem dX2_turn_20 : decode cX2_turn 20 = .ok (.iconst 0, 1) := by decide +kernel
theorem dX2_turn_21 : decode cX2_turn 21 = .ok (.bipush 29, 2) := by decide +kernel
theorem dX2_turn_23 : decode cX2_turn 23 = .ok (.invokestatic 52, 3) := by decide +kernel
theorem dX2_turn_26 : decode cX2_turn 26 = .ok (.ifCond .ne 9, 3) := by decide +kernel
theorem dX2_turn_29 : decode cX2_turn 29 = .ok (.aload_n 0, 1) := by decide +kernel
theorem dX2_turn_30 : decode cX2_turn 30 = .ok (.iconst 2, 1) := by decide +kernel
theorem dX2_turn_31 : decode cX2_turn 31 = .ok (.invokevirtual 95, 3) := by decide +kernel
theorem dX2_turn_34 : decode cX2_turn 34 = .ok (.ireturn, 1) := by decide +kernel
theorem dX2_turn_35 : decode cX2_turn 35 = .ok (.aload_n 0, 1) := by decide +kernel
theorem dX2_turn_36 : decode cX2_turn 36 = .ok (.iload_n 1, 1) := by decide +kernel
theorem dX2_turn_37 : decode cX2_turn 37 = .ok (.iload_n 2, 1) := by decide +kernel
theorem dX2_turn_38 : decode cX2_turn 38 = .ok (.invokevirtual 108, 3) := by decide +kernel
theorem dX2_turn_41 : decode cX2_turn 41 = .ok (.aload_n 0, 1) := by decide +kernel
theorem dX2_turn_42 : decode cX2_turn 42 = .ok (.invokevirtual 112, 3) := by decide +kernel
theorem dX2_turn_45 : decode cX2_turn 45 = .ok (.ireturn, 1) := by decide +kernel
set_option maxRecDepth 20000 in
theorem ggX2_moveAll_X2_move : GoodIn wsX2_moveAll wsX2_move := goodIn_r _ [6, 7, 8, 9, 10, 11, 12, 13, 14, 5, 15, 16, 17, 18, 19, 20, 21, 22, 23, 24, 25, 26, 27, 28, 29, 30, 31] (by decide +kernel) (by decide +kernel)
set_option maxRecDepth 20000 in
theorem gX2_moveAll_X2_move : GoodIn wsX2_moveAll (wsV RX2 108 RX2 yX2_move wsX2_move) := goodIn_app (goodIn_of _ (by decide +kernel)) ggX2_moveAll_X2_move
theorem dX2_moveAll_0 : decode cX2_moveAll 0 = .ok (.iconst 1, 1) := by decide +kernel
theorem dX2_moveAll_1 : decode cX2_moveAll 1 = .ok (.istore_n 2, 1) := by decide +kernel
theorem dX2_moveAll_2 : decode cX2_moveAll 2 = .ok (.iload_n 2, 1) := by decide +kernel
theorem dX2_moveAll_3 : decode cX2_moveAll 3 = .ok (.aload_n 0, 1) := by decide +kernel
theorem dX2_moveAll_4 : decode cX2_moveAll 4 = .ok (.getfield 56, 3) := by decide +kernel
theorem dX2_moveAll_7 : decode cX2_moveAll 7 = .ok (.if_icmp .gt 17, 3) := by decide +kernel
theorem dX2_moveAll_10 : decode cX2_moveAll 10 = .ok (.aload_n 0, 1) := by decide +kernel
theorem dX2_moveAll_11 : decode cX2_moveAll 11 = .ok (.iload_n 2, 1) := by decide +kernel
theorem dX2_moveAll_12 : decode cX2_moveAll 12 = .ok (.iload_n 2, 1) := by decide +kernel
theorem dX2_moveAll_13 : decode cX2_moveAll 13 = .ok (.iload_n 1, 1) := by decide +kernel
theorem dX2_moveAll_14 : decode cX2_moveAll 14 = .ok (.imul, 1) := by decide +kernel
theorem dX2_moveAll_15 : decode cX2_moveAll 15 = .ok (.invokevirtual 108, 3) := by decide +kernel
theorem dX2_moveAll_18 : decode cX2_moveAll 18 = .ok (.iinc 2 1, 3) := by decide +kernel
theorem dX2_moveAll_21 : decode cX2_moveAll 21 = .ok (.goto (-19), 3) := by decide +kernel
theorem dX2_moveAll_24 : decode cX2_moveAll 24 = .ok (.return_, 1) := by decide +kernel
set_option maxRecDepth 20000 in
theorem ggX2_turnAll_X2_isIn : GoodIn wsX2_turnAll wsX2_isIn := goodIn_r _ [5] (by decide +kernel) (by decide +kernel)
set_option maxRecDepth 20000 in
theorem gX2_turnAll_X2_isIn : GoodIn wsX2_turnAll (va_wsS RX2 52 yX2_isIn wsX2_isIn) := goodIn_app (goodIn_of _ (by decide +kernel)) ggX2_turnAll_X2_isIn
set_option maxRecDepth 20000 in
theorem ggX2_turnAll_X2_fail : GoodIn wsX2_turnAll wsX2_fail := goodIn_r _ [9, 1, 59, 60, 61, 62, 63, 64, 65, 66, 67, 68, 69, 70, 71] (by decide +kernel) (by decide +kernel)
set_option maxRecDepth 20000 in
theorem gX2_turnAll_X2_fail : GoodIn wsX2_turnAll (wsV RX2 95 RX2 yX2_fail wsX2_fail) := goodIn_app (goodIn_of _ (by decide +kernel)) ggX2_turnAll_X2_fail
set_option maxRecDepth 20000 in
theorem ggX2_turnAll_X2_moveAll : GoodIn wsX2_turnAll wsX2_moveAll := goodIn_r _ [13, 14, 15, 16, 17, 4, 18, 19, 20, 21, 22, 23, 24, 25, 26, 27, 28, 29, 30, 59, 60, 61, 62, 63, 64, 65, 66, 67, 68, 69, 70, 71] (by decide +kernel) (by decide +kernel)
set_option maxRecDepth 20000 in
theorem gX2_turnAll_X2_moveAll : GoodIn wsX2_turnAll (wsV RX2 116 RX2 yX2_moveAll wsX2_moveAll) := goodIn_app (goodIn_of _ (by decide +kernel)) ggX2_turnAll_X2_moveAll
set_option maxRecDepth 20000 in
theorem ggX2_turnAll_X2_lit : GoodIn wsX2_turnAll wsX2_lit := goodIn_r _ [34, 35, 36, 20, 37, 38, 39, 4, 40, 41, 42, 43, 44, 45, 46, 47, 48, 49, 50, 51, 52, 53, 54, 55, 56, 57, 58, 2, 3, 5, 59, 60, 61, 62, 63, 64, 65, 66, 67, 68, 69, 70, 71] (by decide +kernel) (by decide +kernel)
set_option maxRecDepth 20000 in
theorem gX2_turnAll_X2_lit : GoodIn wsX2_turnAll (wsV RX2 112 RX2 yX2_lit wsX2_lit) := goodIn_app (goodIn_of _ (by decide +kernel)) ggX2_turnAll_X2_lit
theorem dX2_turnAll_0 : decode cX2_turnAll 0 = .ok (.aload_n 0, 1) := by decide +kernel
theorem dX2_turnAll_1 : decode cX2_turnAll 1 = .ok (.iconst 0, 1) := by decide +kernel
theorem dX2_turnAll_2 : decode cX2_turnAll 2 = .ok (.putfield 45, 3) := by decide +kernel
theorem dX2_turnAll_5 : decode cX2_turnAll 5 = .ok (.iload_n 1, 1) := by decide +kernel
theorem dX2_turnAll_6 : decode cX2_turnAll 6 = .ok (.iconst 0, 1) := by decide +kernel
theorem dX2_turnAll_7 : decode cX2_turnAll 7 = .ok (.iconst 5, 1) := by decide +kernel
theorem dX2_turnAll_8 : decode cX2_turnAll 8 = .ok (.invokestatic 52, 3) := by decide +kernel
theorem dX2_turnAll_11 : decode cX2_turnAll 11 = .ok (.ifCond .ne 9, 3) := by decide +kernel
theorem dX2_turnAll_14 : decode cX2_turnAll 14 = .ok (.aload_n 0, 1) := by decide +kernel
theorem dX2_turnAll_15 : decode cX2_turnAll 15 = .ok (.iconst 1, 1) := by decide +kernel
theorem dX2_turnAll_16 : decode cX2_turnAll 16 = .ok (.invokevirtual 95, 3) := by decide +kernel
theorem dX2_turnAll_19 : decode cX2_turnAll 19 = .ok (.ireturn, 1) := by decide +kernel
theorem dX2_turnAll_20 : decode cX2_turnAll 20 = .ok (.aload_n 0, 1) := by decide +kernel
theorem dX2_turnAll_21 : decode cX2_turnAll 21 = .ok (.iload_n 1, 1) := by decide +kernel
theorem dX2_turnAll_22 : decode cX2_turnAll 22 = .ok (.invokevirtual 116, 3) := by decide +kernel
theorem dX2_turnAll_25 : decode cX2_turnAll 25 = .ok (.aload_n 0, 1) := by decide +kernel
theorem dX2_turnAll_26 : decode cX2_turnAll 26 = .ok (.invokevirtual 112, 3) := by decide +kernel
theorem dX2_turnAll_29 : decode cX2_turnAll 29 = .ok (.ireturn, 1) := by decide +kernel
set_option maxRecDepth 20000 in
theorem ggX2_at_X2_found : GoodIn wsX2_at wsX2_found := goodIn_r _ [6, 7, 8, 9, 5, 10, 11, 12, 13, 14, 15, 16, 17, 18, 19, 20, 21, 22, 23] (by decide +kernel) (by decide +kernel)
set_option maxRecDepth 20000 in
theorem gX2_at_X2_found : GoodIn wsX2_at (wsV RX2 69 RX2 yX2_found wsX2_found) := goodIn_app (goodIn_of _ (by decide +kernel)) ggX2_at_X2_found
theorem dX2_at_0 : decode cX2_at 0 = .ok (.aload_n 0, 1) := by decide +kernel
theorem dX2_at_1 : decode cX2_at 1 = .ok (.iconst 0, 1) := by decide +kernel
theorem dX2_at_2 : decode cX2_at 2 = .ok (.putfield 45, 3) := by decide +kernel
theorem dX2_at_5 : decode cX2_at 5 = .ok (.aload_n 0, 1) := by decide +kernel
theorem dX2_at_6 : decode cX2_at 6 = .ok (.iload_n 1, 1) := by decide +kernel
theorem dX2_at_7 : decode cX2_at 7 = .ok (.iload_n 2, 1) := by decide +kernel
theorem dX2_at_8 : decode cX2_at 8 = .ok (.invokevirtual 69, 3) := by decide +kernel
theorem dX2_at_11 : decode cX2_at 11 = .ok (.ireturn, 1) := by decide +kernel
set_option maxRecDepth 20000 in
theorem ggX2_sidesOn_X2_on : GoodIn wsX2_sidesOn wsX2_on := goodIn_r _ [5, 6, 7, 8, 9, 10, 4, 11, 12, 13, 14, 15, 16, 17, 18, 19, 20, 21, 22, 23, 24, 25, 26, 27, 28, 29, 30, 31, 32, 33, 34, 35, 36] (by decide +kernel) (by decide +kernel)
set_option maxRecDepth 20000 in
theorem gX2_sidesOn_X2_on : GoodIn wsX2_sidesOn (wsV RX2 76 RX2 yX2_on wsX2_on) := goodIn_app (goodIn_of _ (by decide +kernel)) ggX2_sidesOn_X2_on
theorem dX2_sidesOn_0 : decode cX2_sidesOn 0 = .ok (.iconst 0, 1) := by decide +kernel
theorem dX2_sidesOn_1 : decode cX2_sidesOn 1 = .ok (.istore_n 2, 1) := by decide +kernel
theorem dX2_sidesOn_2 : decode cX2_sidesOn 2 = .ok (.iconst 0, 1) := by decide +kernel
theorem dX2_sidesOn_3 : decode cX2_sidesOn 3 = .ok (.istore_n 3, 1) := by decide +kernel
theorem dX2_sidesOn_4 : decode cX2_sidesOn 4 = .ok (.iload_n 3, 1) := by decide +kernel
theorem dX2_sidesOn_5 : decode cX2_sidesOn 5 = .ok (.bipush 6, 2) := by decide +kernel
theorem dX2_sidesOn_7 : decode cX2_sidesOn 7 = .ok (.if_icmp .ge 27, 3) := by decide +kernel
theorem dX2_sidesOn_10 : decode cX2_sidesOn 10 = .ok (.iload_n 2, 1) := by decide +kernel
theorem dX2_sidesOn_11 : decode cX2_sidesOn 11 = .ok (.aload_n 0, 1) := by decide +kernel
theorem dX2_sidesOn_12 : decode cX2_sidesOn 12 = .ok (.iload_n 1, 1) := by decide +kernel
theorem dX2_sidesOn_13 : decode cX2_sidesOn 13 = .ok (.iload_n 3, 1) := by decide +kernel
theorem dX2_sidesOn_14 : decode cX2_sidesOn 14 = .ok (.invokevirtual 76, 3) := by decide +kernel
theorem dX2_sidesOn_17 : decode cX2_sidesOn 17 = .ok (.iconst (-1), 1) := by decide +kernel
theorem dX2_sidesOn_18 : decode cX2_sidesOn 18 = .ok (.if_icmp .ne 7, 3) := by decide +kernel
theorem dX2_sidesOn_21 : decode cX2_sidesOn 21 = .ok (.iconst 0, 1) := by decide +kernel
theorem dX2_sidesOn_22 : decode cX2_sidesOn 22 = .ok (.goto 4, 3) := by decide +kernel
theorem dX2_sidesOn_25 : decode cX2_sidesOn 25 = .ok (.iconst 1, 1) := by decide +kernel
theorem dX2_sidesOn_26 : decode cX2_sidesOn 26 = .ok (.iadd, 1) := by decide +kernel
theorem dX2_sidesOn_27 : decode cX2_sidesOn 27 = .ok (.istore_n 2, 1) := by decide +kernel
theorem dX2_sidesOn_28 : decode cX2_sidesOn 28 = .ok (.iinc 3 1, 3) := by decide +kernel
theorem dX2_sidesOn_31 : decode cX2_sidesOn 31 = .ok (.goto (-27), 3) := by decide +kernel
theorem dX2_sidesOn_34 : decode cX2_sidesOn 34 = .ok (.iload_n 2, 1) := by decide +kernel
theorem dX2_sidesOn_35 : decode cX2_sidesOn 35 = .ok (.ireturn, 1) := by decide +kernel
set_option maxRecDepth 20000 in
theorem ggX2_roomTold_X2_sidesOn : GoodIn wsX2_roomTold wsX2_sidesOn := goodIn_r _ [10, 11, 12, 13, 9, 14, 15, 4, 16, 17, 18, 19, 1, 20, 2, 21, 22, 23, 24, 25, 26, 27, 28, 29, 30, 31, 32, 33, 34, 35, 36, 37, 38, 39, 40, 41, 42] (by decide +kernel) (by decide +kernel)
set_option maxRecDepth 20000 in
theorem gX2_roomTold_X2_sidesOn : GoodIn wsX2_roomTold (wsV RX2 119 RX2 yX2_sidesOn wsX2_sidesOn) := goodIn_app (goodIn_of _ (by decide +kernel)) ggX2_roomTold_X2_sidesOn
theorem dX2_roomTold_0 : decode cX2_roomTold 0 = .ok (.iload_n 2, 1) := by decide +kernel
theorem dX2_roomTold_1 : decode cX2_roomTold 1 = .ok (.tableswitch 70 0 4 #[35, 42, 49, 56, 63], 35) := by decide +kernel
theorem dX2_roomTold_36 : decode cX2_roomTold 36 = .ok (.aload_n 0, 1) := by decide +kernel
theorem dX2_roomTold_37 : decode cX2_roomTold 37 = .ok (.getfield 9, 3) := by decide +kernel
theorem dX2_roomTold_40 : decode cX2_roomTold 40 = .ok (.iload_n 1, 1) := by decide +kernel
theorem dX2_roomTold_41 : decode cX2_roomTold 41 = .ok (.iaload, 1) := by decide +kernel
theorem dX2_roomTold_42 : decode cX2_roomTold 42 = .ok (.ireturn, 1) := by decide +kernel
theorem dX2_roomTold_43 : decode cX2_roomTold 43 = .ok (.aload_n 0, 1) := by decide +kernel
theorem dX2_roomTold_44 : decode cX2_roomTold 44 = .ok (.getfield 13, 3) := by decide +kernel
theorem dX2_roomTold_47 : decode cX2_roomTold 47 = .ok (.iload_n 1, 1) := by decide +kernel
theorem dX2_roomTold_48 : decode cX2_roomTold 48 = .ok (.iaload, 1) := by decide +kernel
theorem dX2_roomTold_49 : decode cX2_roomTold 49 = .ok (.ireturn, 1) := by decide +kernel
theorem dX2_roomTold_50 : decode cX2_roomTold 50 = .ok (.aload_n 0, 1) := by decide +kernel
theorem dX2_roomTold_51 : decode cX2_roomTold 51 = .ok (.getfield 16, 3) := by decide +kernel
theorem dX2_roomTold_54 : decode cX2_roomTold 54 = .ok (.iload_n 1, 1) := by decide +kernel
theorem dX2_roomTold_55 : decode cX2_roomTold 55 = .ok (.iaload, 1) := by decide +kernel
theorem dX2_roomTold_56 : decode cX2_roomTold 56 = .ok (.ireturn, 1) := by decide +kernel
theorem dX2_roomTold_57 : decode cX2_roomTold 57 = .ok (.aload_n 0, 1) := by decide +kernel
theorem dX2_roomTold_58 : decode cX2_roomTold 58 = .ok (.getfield 19, 3) := by decide +kernel
theorem dX2_roomTold_61 : decode cX2_roomTold 61 = .ok (.iload_n 1, 1) := by decide +kernel
theorem dX2_roomTold_62 : decode cX2_roomTold 62 = .ok (.iaload, 1) := by decide +kernel
theorem dX2_roomTold_63 : decode cX2_roomTold 63 = .ok (.ireturn, 1) := by decide +kernel
theorem dX2_roomTold_64 : decode cX2_roomTold 64 = .ok (.aload_n 0, 1) := by decide +kernel
theorem dX2_roomTold_65 : decode cX2_roomTold 65 = .ok (.getfield 29, 3) := by decide +kernel
theorem dX2_roomTold_68 : decode cX2_roomTold 68 = .ok (.iload_n 1, 1) := by decide +kernel
theorem dX2_roomTold_69 : decode cX2_roomTold 69 = .ok (.iaload, 1) := by decide +kernel
theorem dX2_roomTold_70 : decode cX2_roomTold 70 = .ok (.ireturn, 1) := by decide +kernel
theorem dX2_roomTold_71 : decode cX2_roomTold 71 = .ok (.aload_n 0, 1) := by decide +kernel
theorem dX2_roomTold_72 : decode cX2_roomTold 72 = .ok (.iload_n 1, 1) := by decide +kernel
theorem dX2_roomTold_73 : decode cX2_roomTold 73 = .ok (.invokevirtual 119, 3) := by decide +kernel
theorem dX2_roomTold_76 : decode cX2_roomTold 76 = .ok (.ireturn, 1) := by decide +kernel
set_option maxRecDepth 20000 in
theorem ggX2_about_X2_isRoom : GoodIn wsX2_about wsX2_isRoom := goodIn_r _ [6, 7, 8, 9, 5, 10, 52, 53, 54, 55, 56, 57, 58, 59, 60, 61, 62, 63, 64] (by decide +kernel) (by decide +kernel)
set_option maxRecDepth 20000 in
theorem gX2_about_X2_isRoom : GoodIn wsX2_about (wsV RX2 98 RX2 yX2_isRoom wsX2_isRoom) := goodIn_app (goodIn_of _ (by decide +kernel)) ggX2_about_X2_isRoom
set_option maxRecDepth 20000 in
theorem ggX2_about_X2_isIn : GoodIn wsX2_about wsX2_isIn := goodIn_r _ [10] (by decide +kernel) (by decide +kernel)
set_option maxRecDepth 20000 in
theorem gX2_about_X2_isIn : GoodIn wsX2_about (va_wsS RX2 52 yX2_isIn wsX2_isIn) := goodIn_app (goodIn_of _ (by decide +kernel)) ggX2_about_X2_isIn
set_option maxRecDepth 20000 in
theorem ggX2_about_X2_fail : GoodIn wsX2_about wsX2_fail := goodIn_r _ [14, 1, 52, 53, 54, 55, 56, 57, 58, 59, 60, 61, 62, 63, 64] (by decide +kernel) (by decide +kernel)
set_option maxRecDepth 20000 in
theorem gX2_about_X2_fail : GoodIn wsX2_about (wsV RX2 95 RX2 yX2_fail wsX2_fail) := goodIn_app (goodIn_of _ (by decide +kernel)) ggX2_about_X2_fail
set_option maxRecDepth 20000 in
theorem ggX2_about_X2_lit : GoodIn wsX2_about wsX2_lit := goodIn_r _ [18, 7, 19, 20, 21, 22, 23, 5, 24, 25, 26, 27, 28, 29, 30, 31, 32, 33, 34, 35, 36, 37, 38, 39, 40, 41, 42, 8, 9, 10, 52, 53, 54, 55, 56, 57, 58, 59, 60, 61, 62, 63, 64] (by decide +kernel) (by decide +kernel)
set_option maxRecDepth 20000 in
theorem gX2_about_X2_lit : GoodIn wsX2_about (wsV RX2 112 RX2 yX2_lit wsX2_lit) := goodIn_app (goodIn_of _ (by decide +kernel)) ggX2_about_X2_lit
set_option maxRecDepth 20000 in
theorem ggX2_about_X2_roomTold : GoodIn wsX2_about wsX2_roomTold := goodIn_r _ [46, 34, 36, 47, 20, 19, 48, 49, 50, 5, 51, 25, 26, 27, 28, 29, 30, 31, 32, 33, 35, 37, 38, 39, 40, 41, 42, 8, 9, 10, 52, 53, 54, 55, 56, 57, 58, 59, 60, 61, 62, 63, 64] (by decide +kernel) (by decide +kernel)
set_option maxRecDepth 20000 in
theorem gX2_about_X2_roomTold : GoodIn wsX2_about (wsV RX2 122 RX2 yX2_roomTold wsX2_roomTold) := goodIn_app (goodIn_of _ (by decide +kernel)) ggX2_about_X2_roomTold
theorem dX2_about_0 : decode cX2_about 0 = .ok (.aload_n 0, 1) := by decide +kernel
theorem dX2_about_1 : decode cX2_about 1 = .ok (.iconst 0, 1) := by decide +kernel
theorem dX2_about_2 : decode cX2_about 2 = .ok (.putfield 45, 3) := by decide +kernel
theorem dX2_about_5 : decode cX2_about 5 = .ok (.aload_n 0, 1) := by decide +kernel
theorem dX2_about_6 : decode cX2_about 6 = .ok (.iload_n 1, 1) := by decide +kernel
theorem dX2_about_7 : decode cX2_about 7 = .ok (.invokevirtual 98, 3) := by decide +kernel
theorem dX2_about_10 : decode cX2_about 10 = .ok (.ifCond .eq 12, 3) := by decide +kernel
theorem dX2_about_13 : decode cX2_about 13 = .ok (.iload_n 2, 1) := by decide +kernel
theorem dX2_about_14 : decode cX2_about 14 = .ok (.iconst 0, 1) := by decide +kernel
theorem dX2_about_15 : decode cX2_about 15 = .ok (.iconst 5, 1) := by decide +kernel
theorem dX2_about_16 : decode cX2_about 16 = .ok (.invokestatic 52, 3) := by decide +kernel
theorem dX2_about_19 : decode cX2_about 19 = .ok (.ifCond .ne 9, 3) := by decide +kernel
theorem dX2_about_22 : decode cX2_about 22 = .ok (.aload_n 0, 1) := by decide +kernel
theorem dX2_about_23 : decode cX2_about 23 = .ok (.iconst 1, 1) := by decide +kernel
theorem dX2_about_24 : decode cX2_about 24 = .ok (.invokevirtual 95, 3) := by decide +kernel
theorem dX2_about_27 : decode cX2_about 27 = .ok (.ireturn, 1) := by decide +kernel
theorem dX2_about_28 : decode cX2_about 28 = .ok (.iload_n 2, 1) := by decide +kernel
theorem dX2_about_29 : decode cX2_about 29 = .ok (.iconst 4, 1) := by decide +kernel
theorem dX2_about_30 : decode cX2_about 30 = .ok (.if_icmp .ne 8, 3) := by decide +kernel
theorem dX2_about_33 : decode cX2_about 33 = .ok (.aload_n 0, 1) := by decide +kernel
theorem dX2_about_34 : decode cX2_about 34 = .ok (.invokevirtual 112, 3) := by decide +kernel
theorem dX2_about_37 : decode cX2_about 37 = .ok (.pop, 1) := by decide +kernel
theorem dX2_about_38 : decode cX2_about 38 = .ok (.aload_n 0, 1) := by decide +kernel
theorem dX2_about_39 : decode cX2_about 39 = .ok (.iload_n 1, 1) := by decide +kernel
theorem dX2_about_40 : decode cX2_about 40 = .ok (.iload_n 2, 1) := by decide +kernel
theorem dX2_about_41 : decode cX2_about 41 = .ok (.invokevirtual 122, 3) := by decide +kernel
theorem dX2_about_44 : decode cX2_about 44 = .ok (.ireturn, 1) := by decide +kernel
set_option maxRecDepth 20000 in
theorem ggX2_beside_X2_isRoom : GoodIn wsX2_beside wsX2_isRoom := goodIn_r _ [6, 7, 8, 9, 5, 10, 31, 32, 33, 34, 35, 36, 37, 38, 39, 40, 41, 42, 43] (by decide +kernel) (by decide +kernel)
set_option maxRecDepth 20000 in
theorem gX2_beside_X2_isRoom : GoodIn wsX2_beside (wsV RX2 98 RX2 yX2_isRoom wsX2_isRoom) := goodIn_app (goodIn_of _ (by decide +kernel)) ggX2_beside_X2_isRoom
set_option maxRecDepth 20000 in
theorem ggX2_beside_X2_isSide : GoodIn wsX2_beside wsX2_isSide := goodIn_r _ [13, 8, 9, 5, 10] (by decide +kernel) (by decide +kernel)
set_option maxRecDepth 20000 in
theorem gX2_beside_X2_isSide : GoodIn wsX2_beside (va_wsS RX2 102 yX2_isSide wsX2_isSide) := goodIn_app (goodIn_of _ (by decide +kernel)) ggX2_beside_X2_isSide
set_option maxRecDepth 20000 in
theorem ggX2_beside_X2_next : GoodIn wsX2_beside wsX2_next := goodIn_r _ [17, 18, 19, 20, 21, 22, 23, 24, 5, 25, 26, 8, 9, 10, 31, 32, 33, 34, 35, 36, 37, 38, 39, 40, 41, 42, 43] (by decide +kernel) (by decide +kernel)
set_option maxRecDepth 20000 in
theorem gX2_beside_X2_next : GoodIn wsX2_beside (wsV RX2 73 RX2 yX2_next wsX2_next) := goodIn_app (goodIn_of _ (by decide +kernel)) ggX2_beside_X2_next
set_option maxRecDepth 20000 in
theorem ggX2_beside_X2_fail : GoodIn wsX2_beside wsX2_fail := goodIn_r _ [30, 1, 31, 32, 33, 34, 35, 36, 37, 38, 39, 40, 41, 42, 43] (by decide +kernel) (by decide +kernel)
set_option maxRecDepth 20000 in
theorem gX2_beside_X2_fail : GoodIn wsX2_beside (wsV RX2 95 RX2 yX2_fail wsX2_fail) := goodIn_app (goodIn_of _ (by decide +kernel)) ggX2_beside_X2_fail
theorem dX2_beside_0 : decode cX2_beside 0 = .ok (.aload_n 0, 1) := by decide +kernel
theorem dX2_beside_1 : decode cX2_beside 1 = .ok (.iconst 0, 1) := by decide +kernel
theorem dX2_beside_2 : decode cX2_beside 2 = .ok (.putfield 45, 3) := by decide +kernel
theorem dX2_beside_5 : decode cX2_beside 5 = .ok (.aload_n 0, 1) := by decide +kernel
theorem dX2_beside_6 : decode cX2_beside 6 = .ok (.iload_n 1, 1) := by decide +kernel
theorem dX2_beside_7 : decode cX2_beside 7 = .ok (.invokevirtual 98, 3) := by decide +kernel
theorem dX2_beside_10 : decode cX2_beside 10 = .ok (.ifCond .eq 19, 3) := by decide +kernel
theorem dX2_beside_13 : decode cX2_beside 13 = .ok (.iload_n 2, 1) := by decide +kernel
theorem dX2_beside_14 : decode cX2_beside 14 = .ok (.invokestatic 102, 3) := by decide +kernel
theorem dX2_beside_17 : decode cX2_beside 17 = .ok (.ifCond .eq 12, 3) := by decide +kernel
theorem dX2_beside_20 : decode cX2_beside 20 = .ok (.aload_n 0, 1) := by decide +kernel
theorem dX2_beside_21 : decode cX2_beside 21 = .ok (.iload_n 1, 1) := by decide +kernel
theorem dX2_beside_22 : decode cX2_beside 22 = .ok (.iload_n 2, 1) := by decide +kernel
theorem dX2_beside_23 : decode cX2_beside 23 = .ok (.invokevirtual 73, 3) := by decide +kernel
theorem dX2_beside_26 : decode cX2_beside 26 = .ok (.goto 8, 3) := by decide +kernel
theorem dX2_beside_29 : decode cX2_beside 29 = .ok (.aload_n 0, 1) := by decide +kernel
theorem dX2_beside_30 : decode cX2_beside 30 = .ok (.iconst 1, 1) := by decide +kernel
theorem dX2_beside_31 : decode cX2_beside 31 = .ok (.invokevirtual 95, 3) := by decide +kernel
theorem dX2_beside_34 : decode cX2_beside 34 = .ok (.ireturn, 1) := by decide +kernel
set_option maxRecDepth 20000 in
theorem ggX2_isShut_X2_isRoom : GoodIn wsX2_isShut wsX2_isRoom := goodIn_r _ [7, 8, 9, 10, 6, 11, 28, 29, 30, 31, 32, 33, 34, 35, 36, 37, 38, 39, 40] (by decide +kernel) (by decide +kernel)
set_option maxRecDepth 20000 in
theorem gX2_isShut_X2_isRoom : GoodIn wsX2_isShut (wsV RX2 98 RX2 yX2_isRoom wsX2_isRoom) := goodIn_app (goodIn_of _ (by decide +kernel)) ggX2_isShut_X2_isRoom
set_option maxRecDepth 20000 in
theorem ggX2_isShut_X2_isSide : GoodIn wsX2_isShut wsX2_isSide := goodIn_r _ [14, 9, 10, 6, 11] (by decide +kernel) (by decide +kernel)
set_option maxRecDepth 20000 in
theorem gX2_isShut_X2_isSide : GoodIn wsX2_isShut (va_wsS RX2 102 yX2_isSide wsX2_isSide) := goodIn_app (goodIn_of _ (by decide +kernel)) ggX2_isShut_X2_isSide
set_option maxRecDepth 20000 in
theorem ggX2_isShut_X2_next : GoodIn wsX2_isShut wsX2_next := goodIn_r _ [18, 19, 20, 21, 22, 23, 24, 25, 6, 26, 27, 9, 10, 11, 28, 29, 30, 31, 32, 33, 34, 35, 36, 37, 38, 39, 40] (by decide +kernel) (by decide +kernel)
set_option maxRecDepth 20000 in
theorem gX2_isShut_X2_next : GoodIn wsX2_isShut (wsV RX2 73 RX2 yX2_next wsX2_next) := goodIn_app (goodIn_of _ (by decide +kernel)) ggX2_isShut_X2_next
theorem dX2_isShut_0 : decode cX2_isShut 0 = .ok (.aload_n 0, 1) := by decide +kernel
theorem dX2_isShut_1 : decode cX2_isShut 1 = .ok (.aload_n 0, 1) := by decide +kernel
theorem dX2_isShut_2 : decode cX2_isShut 2 = .ok (.iload_n 1, 1) := by decide +kernel
theorem dX2_isShut_3 : decode cX2_isShut 3 = .ok (.invokevirtual 98, 3) := by decide +kernel
theorem dX2_isShut_6 : decode cX2_isShut 6 = .ok (.ifCond .eq 10, 3) := by decide +kernel
theorem dX2_isShut_9 : decode cX2_isShut 9 = .ok (.iload_n 2, 1) := by decide +kernel
theorem dX2_isShut_10 : decode cX2_isShut 10 = .ok (.invokestatic 102, 3) := by decide +kernel
theorem dX2_isShut_13 : decode cX2_isShut 13 = .ok (.ifCond .ne 7, 3) := by decide +kernel
theorem dX2_isShut_16 : decode cX2_isShut 16 = .ok (.iconst 1, 1) := by decide +kernel
theorem dX2_isShut_17 : decode cX2_isShut 17 = .ok (.goto 18, 3) := by decide +kernel
theorem dX2_isShut_20 : decode cX2_isShut 20 = .ok (.aload_n 0, 1) := by decide +kernel
theorem dX2_isShut_21 : decode cX2_isShut 21 = .ok (.iload_n 1, 1) := by decide +kernel
theorem dX2_isShut_22 : decode cX2_isShut 22 = .ok (.iload_n 2, 1) := by decide +kernel
theorem dX2_isShut_23 : decode cX2_isShut 23 = .ok (.invokevirtual 73, 3) := by decide +kernel
theorem dX2_isShut_26 : decode cX2_isShut 26 = .ok (.iconst (-1), 1) := by decide +kernel
theorem dX2_isShut_27 : decode cX2_isShut 27 = .ok (.if_icmp .ne 7, 3) := by decide +kernel
theorem dX2_isShut_30 : decode cX2_isShut 30 = .ok (.iconst 2, 1) := by decide +kernel
theorem dX2_isShut_31 : decode cX2_isShut 31 = .ok (.goto 4, 3) := by decide +kernel
theorem dX2_isShut_34 : decode cX2_isShut 34 = .ok (.iconst 0, 1) := by decide +kernel
theorem dX2_isShut_35 : decode cX2_isShut 35 = .ok (.putfield 45, 3) := by decide +kernel
theorem dX2_isShut_38 : decode cX2_isShut 38 = .ok (.aload_n 0, 1) := by decide +kernel
theorem dX2_isShut_39 : decode cX2_isShut 39 = .ok (.getfield 45, 3) := by decide +kernel
theorem dX2_isShut_42 : decode cX2_isShut 42 = .ok (.ifCond .ne 21, 3) := by decide +kernel
theorem dX2_isShut_45 : decode cX2_isShut 45 = .ok (.aload_n 0, 1) := by decide +kernel
theorem dX2_isShut_46 : decode cX2_isShut 46 = .ok (.getfield 25, 3) := by decide +kernel
theorem dX2_isShut_49 : decode cX2_isShut 49 = .ok (.bipush 6, 2) := by decide +kernel
theorem dX2_isShut_51 : decode cX2_isShut 51 = .ok (.iload_n 1, 1) := by decide +kernel
theorem dX2_isShut_52 : decode cX2_isShut 52 = .ok (.imul, 1) := by decide +kernel
theorem dX2_isShut_53 : decode cX2_isShut 53 = .ok (.iload_n 2, 1) := by decide +kernel
theorem dX2_isShut_54 : decode cX2_isShut 54 = .ok (.iadd, 1) := by decide +kernel
theorem dX2_isShut_55 : decode cX2_isShut 55 = .ok (.baload, 1) := by decide +kernel
theorem dX2_isShut_56 : decode cX2_isShut 56 = .ok (.ifCond .eq 7, 3) := by decide +kernel
theorem dX2_isShut_59 : decode cX2_isShut 59 = .ok (.iconst 1, 1) := by decide +kernel
theorem dX2_isShut_60 : decode cX2_isShut 60 = .ok (.goto 4, 3) := by decide +kernel
theorem dX2_isShut_63 : decode cX2_isShut 63 = .ok (.iconst 0, 1) := by decide +kernel
theorem dX2_isShut_64 : decode cX2_isShut 64 = .ok (.ireturn, 1) := by decide +kernel
set_option maxRecDepth 20000 in
theorem ggX2_far_X2_isRoom : GoodIn wsX2_far wsX2_isRoom := goodIn_r _ [12, 13, 14, 15, 11, 16, 21, 22, 23, 24, 25, 26, 27, 28, 29, 30, 31, 32, 33] (by decide +kernel) (by decide +kernel)
set_option maxRecDepth 20000 in
theorem gX2_far_X2_isRoom : GoodIn wsX2_far (wsV RX2 98 RX2 yX2_isRoom wsX2_isRoom) := goodIn_app (goodIn_of _ (by decide +kernel)) ggX2_far_X2_isRoom
set_option maxRecDepth 20000 in
theorem ggX2_far_X2_fail : GoodIn wsX2_far wsX2_fail := goodIn_r _ [20, 1, 21, 22, 23, 24, 25, 26, 27, 28, 29, 30, 31, 32, 33] (by decide +kernel) (by decide +kernel)
set_option maxRecDepth 20000 in
theorem gX2_far_X2_fail : GoodIn wsX2_far (wsV RX2 95 RX2 yX2_fail wsX2_fail) := goodIn_app (goodIn_of _ (by decide +kernel)) ggX2_far_X2_fail
theorem dX2_far_0 : decode cX2_far 0 = .ok (.aload_n 0, 1) := by decide +kernel
theorem dX2_far_1 : decode cX2_far 1 = .ok (.iconst 0, 1) := by decide +kernel
theorem dX2_far_2 : decode cX2_far 2 = .ok (.putfield 45, 3) := by decide +kernel
theorem dX2_far_5 : decode cX2_far 5 = .ok (.aload_n 0, 1) := by decide +kernel
theorem dX2_far_6 : decode cX2_far 6 = .ok (.iload_n 1, 1) := by decide +kernel
theorem dX2_far_7 : decode cX2_far 7 = .ok (.invokevirtual 98, 3) := by decide +kernel
theorem dX2_far_10 : decode cX2_far 10 = .ok (.ifCond .eq 11, 3) := by decide +kernel
theorem dX2_far_13 : decode cX2_far 13 = .ok (.aload_n 0, 1) := by decide +kernel
theorem dX2_far_14 : decode cX2_far 14 = .ok (.iload_n 2, 1) := by decide +kernel
theorem dX2_far_15 : decode cX2_far 15 = .ok (.invokevirtual 98, 3) := by decide +kernel
theorem dX2_far_18 : decode cX2_far 18 = .ok (.ifCond .ne 9, 3) := by decide +kernel
theorem dX2_far_21 : decode cX2_far 21 = .ok (.aload_n 0, 1) := by decide +kernel
theorem dX2_far_22 : decode cX2_far 22 = .ok (.iconst 1, 1) := by decide +kernel
theorem dX2_far_23 : decode cX2_far 23 = .ok (.invokevirtual 95, 3) := by decide +kernel
theorem dX2_far_26 : decode cX2_far 26 = .ok (.ireturn, 1) := by decide +kernel
theorem dX2_far_27 : decode cX2_far 27 = .ok (.aload_n 0, 1) := by decide +kernel
theorem dX2_far_28 : decode cX2_far 28 = .ok (.getfield 9, 3) := by decide +kernel
theorem dX2_far_31 : decode cX2_far 31 = .ok (.iload_n 1, 1) := by decide +kernel
theorem dX2_far_32 : decode cX2_far 32 = .ok (.iaload, 1) := by decide +kernel
theorem dX2_far_33 : decode cX2_far 33 = .ok (.aload_n 0, 1) := by decide +kernel
theorem dX2_far_34 : decode cX2_far 34 = .ok (.getfield 9, 3) := by decide +kernel
theorem dX2_far_37 : decode cX2_far 37 = .ok (.iload_n 2, 1) := by decide +kernel
theorem dX2_far_38 : decode cX2_far 38 = .ok (.iaload, 1) := by decide +kernel
theorem dX2_far_39 : decode cX2_far 39 = .ok (.isub, 1) := by decide +kernel
theorem dX2_far_40 : decode cX2_far 40 = .ok (.istore_n 3, 1) := by decide +kernel
theorem dX2_far_41 : decode cX2_far 41 = .ok (.aload_n 0, 1) := by decide +kernel
theorem dX2_far_42 : decode cX2_far 42 = .ok (.getfield 13, 3) := by decide +kernel
theorem dX2_far_45 : decode cX2_far 45 = .ok (.iload_n 1, 1) := by decide +kernel
theorem dX2_far_46 : decode cX2_far 46 = .ok (.iaload, 1) := by decide +kernel
theorem dX2_far_47 : decode cX2_far 47 = .ok (.aload_n 0, 1) := by decide +kernel
theorem dX2_far_48 : decode cX2_far 48 = .ok (.getfield 13, 3) := by decide +kernel
theorem dX2_far_51 : decode cX2_far 51 = .ok (.iload_n 2, 1) := by decide +kernel
theorem dX2_far_52 : decode cX2_far 52 = .ok (.iaload, 1) := by decide +kernel
theorem dX2_far_53 : decode cX2_far 53 = .ok (.isub, 1) := by decide +kernel
theorem dX2_far_54 : decode cX2_far 54 = .ok (.istore 4, 2) := by decide +kernel
theorem dX2_far_56 : decode cX2_far 56 = .ok (.iload_n 3, 1) := by decide +kernel
theorem dX2_far_57 : decode cX2_far 57 = .ok (.invokestatic 125, 3) := by decide +kernel
theorem dX2_far_60 : decode cX2_far 60 = .ok (.iload 4, 2) := by decide +kernel
theorem dX2_far_62 : decode cX2_far 62 = .ok (.invokestatic 125, 3) := by decide +kernel
theorem dX2_far_65 : decode cX2_far 65 = .ok (.iadd, 1) := by decide +kernel
theorem dX2_far_66 : decode cX2_far 66 = .ok (.iload_n 3, 1) := by decide +kernel
theorem dX2_far_67 : decode cX2_far 67 = .ok (.iload 4, 2) := by decide +kernel
theorem dX2_far_69 : decode cX2_far 69 = .ok (.iadd, 1) := by decide +kernel
theorem dX2_far_70 : decode cX2_far 70 = .ok (.invokestatic 125, 3) := by decide +kernel
theorem dX2_far_73 : decode cX2_far 73 = .ok (.iadd, 1) := by decide +kernel
theorem dX2_far_74 : decode cX2_far 74 = .ok (.iconst 2, 1) := by decide +kernel
theorem dX2_far_75 : decode cX2_far 75 = .ok (.idiv, 1) := by decide +kernel
theorem dX2_far_76 : decode cX2_far 76 = .ok (.ireturn, 1) := by decide +kernel
set_option maxRecDepth 20000 in
theorem ggX2_sees_X2_isRoom : GoodIn wsX2_sees wsX2_isRoom := goodIn_r _ [8, 2, 9, 10, 7, 11, 35, 36, 37, 38, 39, 40, 41, 42, 43, 44, 45, 46, 47] (by decide +kernel) (by decide +kernel)
set_option maxRecDepth 20000 in
theorem gX2_sees_X2_isRoom : GoodIn wsX2_sees (wsV RX2 98 RX2 yX2_isRoom wsX2_isRoom) := goodIn_app (goodIn_of _ (by decide +kernel)) ggX2_sees_X2_isRoom
set_option maxRecDepth 20000 in
theorem ggX2_sees_X2_shine : GoodIn wsX2_sees wsX2_shine := goodIn_r _ [15, 3, 16, 17, 18, 7, 19, 20, 21, 22, 23, 24, 25, 26, 27, 28, 29, 30, 31, 32, 33, 34, 9, 10, 11, 35, 36, 37, 38, 39, 40, 41, 42, 43, 44, 45, 46, 47] (by decide +kernel) (by decide +kernel)
set_option maxRecDepth 20000 in
theorem gX2_sees_X2_shine : GoodIn wsX2_sees (wsV RX2 79 RX2 yX2_shine wsX2_shine) := goodIn_app (goodIn_of _ (by decide +kernel)) ggX2_sees_X2_shine
theorem dX2_sees_0 : decode cX2_sees 0 = .ok (.aload_n 0, 1) := by decide +kernel
theorem dX2_sees_1 : decode cX2_sees 1 = .ok (.aload_n 0, 1) := by decide +kernel
theorem dX2_sees_2 : decode cX2_sees 2 = .ok (.iload_n 1, 1) := by decide +kernel
theorem dX2_sees_3 : decode cX2_sees 3 = .ok (.invokevirtual 98, 3) := by decide +kernel
theorem dX2_sees_6 : decode cX2_sees 6 = .ok (.ifCond .eq 15, 3) := by decide +kernel
theorem dX2_sees_9 : decode cX2_sees 9 = .ok (.aload_n 0, 1) := by decide +kernel
theorem dX2_sees_10 : decode cX2_sees 10 = .ok (.iload_n 2, 1) := by decide +kernel
theorem dX2_sees_11 : decode cX2_sees 11 = .ok (.invokevirtual 98, 3) := by decide +kernel
theorem dX2_sees_14 : decode cX2_sees 14 = .ok (.ifCond .eq 7, 3) := by decide +kernel
theorem dX2_sees_17 : decode cX2_sees 17 = .ok (.iconst 0, 1) := by decide +kernel
theorem dX2_sees_18 : decode cX2_sees 18 = .ok (.goto 4, 3) := by decide +kernel
theorem dX2_sees_21 : decode cX2_sees 21 = .ok (.iconst 1, 1) := by decide +kernel
theorem dX2_sees_22 : decode cX2_sees 22 = .ok (.putfield 45, 3) := by decide +kernel
theorem dX2_sees_25 : decode cX2_sees 25 = .ok (.aload_n 0, 1) := by decide +kernel
theorem dX2_sees_26 : decode cX2_sees 26 = .ok (.getfield 45, 3) := by decide +kernel
theorem dX2_sees_29 : decode cX2_sees 29 = .ok (.ifCond .eq 5, 3) := by decide +kernel
theorem dX2_sees_32 : decode cX2_sees 32 = .ok (.iconst 0, 1) := by decide +kernel
theorem dX2_sees_33 : decode cX2_sees 33 = .ok (.ireturn, 1) := by decide +kernel
theorem dX2_sees_34 : decode cX2_sees 34 = .ok (.iconst 0, 1) := by decide +kernel
theorem dX2_sees_35 : decode cX2_sees 35 = .ok (.istore_n 3, 1) := by decide +kernel
theorem dX2_sees_36 : decode cX2_sees 36 = .ok (.iload_n 3, 1) := by decide +kernel
theorem dX2_sees_37 : decode cX2_sees 37 = .ok (.aload_n 0, 1) := by decide +kernel
theorem dX2_sees_38 : decode cX2_sees 38 = .ok (.getfield 49, 3) := by decide +kernel
theorem dX2_sees_41 : decode cX2_sees 41 = .ok (.if_icmp .ge 16, 3) := by decide +kernel
theorem dX2_sees_44 : decode cX2_sees 44 = .ok (.aload_n 0, 1) := by decide +kernel
theorem dX2_sees_45 : decode cX2_sees 45 = .ok (.getfield 29, 3) := by decide +kernel
theorem dX2_sees_48 : decode cX2_sees 48 = .ok (.iload_n 3, 1) := by decide +kernel
theorem dX2_sees_49 : decode cX2_sees 49 = .ok (.iconst 0, 1) := by decide +kernel
theorem dX2_sees_50 : decode cX2_sees 50 = .ok (.iastore, 1) := by decide +kernel
theorem dX2_sees_51 : decode cX2_sees 51 = .ok (.iinc 3 1, 3) := by decide +kernel
theorem dX2_sees_54 : decode cX2_sees 54 = .ok (.goto (-18), 3) := by decide +kernel
theorem dX2_sees_57 : decode cX2_sees 57 = .ok (.aload_n 0, 1) := by decide +kernel
theorem dX2_sees_58 : decode cX2_sees 58 = .ok (.iload_n 1, 1) := by decide +kernel
theorem dX2_sees_59 : decode cX2_sees 59 = .ok (.invokevirtual 79, 3) := by decide +kernel
theorem dX2_sees_62 : decode cX2_sees 62 = .ok (.aload_n 0, 1) := by decide +kernel
theorem dX2_sees_63 : decode cX2_sees 63 = .ok (.getfield 29, 3) := by decide +kernel
theorem dX2_sees_66 : decode cX2_sees 66 = .ok (.iload_n 2, 1) := by decide +kernel
theorem dX2_sees_67 : decode cX2_sees 67 = .ok (.iaload, 1) := by decide +kernel
theorem dX2_sees_68 : decode cX2_sees 68 = .ok (.ifCond .le 7, 3) := by decide +kernel
theorem dX2_sees_71 : decode cX2_sees 71 = .ok (.iconst 1, 1) := by decide +kernel
theorem dX2_sees_72 : decode cX2_sees 72 = .ok (.goto 4, 3) := by decide +kernel
theorem dX2_sees_75 : decode cX2_sees 75 = .ok (.iconst 0, 1) := by decide +kernel
theorem dX2_sees_76 : decode cX2_sees 76 = .ok (.ireturn, 1) := by decide +kernel
set_option maxRecDepth 20000 in
theorem ggX2_spread_X2_on : GoodIn wsX2_spread wsX2_on := goodIn_r _ [8, 9, 10, 11, 12, 13, 7, 14, 15, 16, 17, 18, 19, 20, 21, 22, 23, 24, 25, 26, 27, 28, 29, 30, 31, 32, 33, 34, 35, 36, 37, 38, 39] (by decide +kernel) (by decide +kernel)
set_option maxRecDepth 20000 in
theorem gX2_spread_X2_on : GoodIn wsX2_spread (wsV RX2 76 RX2 yX2_on wsX2_on) := goodIn_app (goodIn_of _ (by decide +kernel)) ggX2_spread_X2_on
theorem dX2_spread_0 : decode cX2_spread 0 = .ok (.iconst 0, 1) := by decide +kernel
theorem dX2_spread_1 : decode cX2_spread 1 = .ok (.istore_n 2, 1) := by decide +kernel
theorem dX2_spread_2 : decode cX2_spread 2 = .ok (.iload_n 2, 1) := by decide +kernel
theorem dX2_spread_3 : decode cX2_spread 3 = .ok (.aload_n 0, 1) := by decide +kernel
theorem dX2_spread_4 : decode cX2_spread 4 = .ok (.getfield 49, 3) := by decide +kernel
theorem dX2_spread_7 : decode cX2_spread 7 = .ok (.if_icmp .ge 16, 3) := by decide +kernel
theorem dX2_spread_10 : decode cX2_spread 10 = .ok (.aload_n 0, 1) := by decide +kernel
theorem dX2_spread_11 : decode cX2_spread 11 = .ok (.getfield 32, 3) := by decide +kernel
theorem dX2_spread_14 : decode cX2_spread 14 = .ok (.iload_n 2, 1) := by decide +kernel
theorem dX2_spread_15 : decode cX2_spread 15 = .ok (.iconst (-1), 1) := by decide +kernel
theorem dX2_spread_16 : decode cX2_spread 16 = .ok (.iastore, 1) := by decide +kernel
theorem dX2_spread_17 : decode cX2_spread 17 = .ok (.iinc 2 1, 3) := by decide +kernel
theorem dX2_spread_20 : decode cX2_spread 20 = .ok (.goto (-18), 3) := by decide +kernel
theorem dX2_spread_23 : decode cX2_spread 23 = .ok (.aload_n 0, 1) := by decide +kernel
theorem dX2_spread_24 : decode cX2_spread 24 = .ok (.getfield 32, 3) := by decide +kernel
theorem dX2_spread_27 : decode cX2_spread 27 = .ok (.iload_n 1, 1) := by decide +kernel
theorem dX2_spread_28 : decode cX2_spread 28 = .ok (.iconst 0, 1) := by decide +kernel
theorem dX2_spread_29 : decode cX2_spread 29 = .ok (.iastore, 1) := by decide +kernel
theorem dX2_spread_30 : decode cX2_spread 30 = .ok (.aload_n 0, 1) := by decide +kernel
theorem dX2_spread_31 : decode cX2_spread 31 = .ok (.getfield 35, 3) := by decide +kernel
theorem dX2_spread_34 : decode cX2_spread 34 = .ok (.iconst 0, 1) := by decide +kernel
theorem dX2_spread_35 : decode cX2_spread 35 = .ok (.iload_n 1, 1) := by decide +kernel
theorem dX2_spread_36 : decode cX2_spread 36 = .ok (.iastore, 1) := by decide +kernel
theorem dX2_spread_37 : decode cX2_spread 37 = .ok (.iconst 1, 1) := by decide +kernel
theorem dX2_spread_38 : decode cX2_spread 38 = .ok (.istore_n 2, 1) := by decide +kernel
theorem dX2_spread_39 : decode cX2_spread 39 = .ok (.iconst 0, 1) := by decide +kernel
theorem dX2_spread_40 : decode cX2_spread 40 = .ok (.istore_n 3, 1) := by decide +kernel
theorem dX2_spread_41 : decode cX2_spread 41 = .ok (.iload_n 3, 1) := by decide +kernel
theorem dX2_spread_42 : decode cX2_spread 42 = .ok (.iload_n 2, 1) := by decide +kernel
theorem dX2_spread_43 : decode cX2_spread 43 = .ok (.if_icmp .ge 90, 3) := by decide +kernel
theorem dX2_spread_46 : decode cX2_spread 46 = .ok (.iconst 0, 1) := by decide +kernel
theorem dX2_spread_47 : decode cX2_spread 47 = .ok (.istore 4, 2) := by decide +kernel
theorem dX2_spread_49 : decode cX2_spread 49 = .ok (.iload 4, 2) := by decide +kernel
theorem dX2_spread_51 : decode cX2_spread 51 = .ok (.bipush 6, 2) := by decide +kernel
theorem dX2_spread_53 : decode cX2_spread 53 = .ok (.if_icmp .ge 74, 3) := by decide +kernel
theorem dX2_spread_56 : decode cX2_spread 56 = .ok (.aload_n 0, 1) := by decide +kernel
theorem dX2_spread_57 : decode cX2_spread 57 = .ok (.aload_n 0, 1) := by decide +kernel
theorem dX2_spread_58 : decode cX2_spread 58 = .ok (.getfield 35, 3) := by decide +kernel
theorem dX2_spread_61 : decode cX2_spread 61 = .ok (.iload_n 3, 1) := by decide +kernel
theorem dX2_spread_62 : decode cX2_spread 62 = .ok (.iaload, 1) := by decide +kernel
theorem dX2_spread_63 : decode cX2_spread 63 = .ok (.iload 4, 2) := by decide +kernel
theorem dX2_spread_65 : decode cX2_spread 65 = .ok (.invokevirtual 76, 3) := by decide +kernel
theorem dX2_spread_68 : decode cX2_spread 68 = .ok (.istore 5, 2) := by decide +kernel
theorem dX2_spread_70 : decode cX2_spread 70 = .ok (.iload 5, 2) := by decide +kernel
theorem dX2_spread_72 : decode cX2_spread 72 = .ok (.iconst (-1), 1) := by decide +kernel
theorem dX2_spread_73 : decode cX2_spread 73 = .ok (.if_icmp .eq 48, 3) := by decide +kernel
theorem dX2_spread_76 : decode cX2_spread 76 = .ok (.aload_n 0, 1) := by decide +kernel
theorem dX2_spread_77 : decode cX2_spread 77 = .ok (.getfield 32, 3) := by decide +kernel
theorem dX2_spread_80 : decode cX2_spread 80 = .ok (.iload 5, 2) := by decide +kernel
theorem dX2_spread_82 : decode cX2_spread 82 = .ok (.iaload, 1) := by decide +kernel
theorem dX2_spread_83 : decode cX2_spread 83 = .ok (.iconst (-1), 1) := by decide +kernel
theorem dX2_spread_84 : decode cX2_spread 84 = .ok (.if_icmp .eq 6, 3) := by decide +kernel
theorem dX2_spread_87 : decode cX2_spread 87 = .ok (.goto 34, 3) := by decide +kernel
theorem dX2_spread_90 : decode cX2_spread 90 = .ok (.aload_n 0, 1) := by decide +kernel
theorem dX2_spread_91 : decode cX2_spread 91 = .ok (.getfield 32, 3) := by decide +kernel
theorem dX2_spread_94 : decode cX2_spread 94 = .ok (.iload 5, 2) := by decide +kernel
theorem dX2_spread_96 : decode cX2_spread 96 = .ok (.aload_n 0, 1) := by decide +kernel
theorem dX2_spread_97 : decode cX2_spread 97 = .ok (.getfield 32, 3) := by decide +kernel
theorem dX2_spread_100 : decode cX2_spread 100 = .ok (.aload_n 0, 1) := by decide +kernel
theorem dX2_spread_101 : decode cX2_spread 101 = .ok (.getfield 35, 3) := by decide +kernel
theorem dX2_spread_104 : decode cX2_spread 104 = .ok (.iload_n 3, 1) := by decide +kernel
theorem dX2_spread_105 : decode cX2_spread 105 = .ok (.iaload, 1) := by decide +kernel
theorem dX2_spread_106 : decode cX2_spread 106 = .ok (.iaload, 1) := by decide +kernel
theorem dX2_spread_107 : decode cX2_spread 107 = .ok (.iconst 1, 1) := by decide +kernel
theorem dX2_spread_108 : decode cX2_spread 108 = .ok (.iadd, 1) := by decide +kernel
theorem dX2_spread_109 : decode cX2_spread 109 = .ok (.iastore, 1) := by decide +kernel
theorem dX2_spread_110 : decode cX2_spread 110 = .ok (.aload_n 0, 1) := by decide +kernel
theorem dX2_spread_111 : decode cX2_spread 111 = .ok (.getfield 35, 3) := by decide +kernel
theorem dX2_spread_114 : decode cX2_spread 114 = .ok (.iload_n 2, 1) := by decide +kernel
theorem dX2_spread_115 : decode cX2_spread 115 = .ok (.iload 5, 2) := by decide +kernel
theorem dX2_spread_117 : decode cX2_spread 117 = .ok (.iastore, 1) := by decide +kernel
theorem dX2_spread_118 : decode cX2_spread 118 = .ok (.iinc 2 1, 3) := by decide +kernel
theorem dX2_spread_121 : decode cX2_spread 121 = .ok (.iinc 4 1, 3) := by decide +kernel
theorem dX2_spread_124 : decode cX2_spread 124 = .ok (.goto (-75), 3) := by decide +kernel
theorem dX2_spread_127 : decode cX2_spread 127 = .ok (.iinc 3 1, 3) := by decide +kernel
theorem dX2_spread_130 : decode cX2_spread 130 = .ok (.goto (-89), 3) := by decide +kernel
theorem dX2_spread_133 : decode cX2_spread 133 = .ok (.iload_n 2, 1) := by decide +kernel
theorem dX2_spread_134 : decode cX2_spread 134 = .ok (.ireturn, 1) := by decide +kernel
set_option maxRecDepth 20000 in
theorem ggX2_way_X2_isRoom : GoodIn wsX2_way wsX2_isRoom := goodIn_r _ [7, 8, 9, 10, 6, 11, 40, 41, 42, 43, 44, 45, 46, 47, 48, 49, 50, 51, 52] (by decide +kernel) (by decide +kernel)
set_option maxRecDepth 20000 in
theorem gX2_way_X2_isRoom : GoodIn wsX2_way (wsV RX2 98 RX2 yX2_isRoom wsX2_isRoom) := goodIn_app (goodIn_of _ (by decide +kernel)) ggX2_way_X2_isRoom
set_option maxRecDepth 20000 in
theorem ggX2_way_X2_fail : GoodIn wsX2_way wsX2_fail := goodIn_r _ [15, 1, 40, 41, 42, 43, 44, 45, 46, 47, 48, 49, 50, 51, 52] (by decide +kernel) (by decide +kernel)
set_option maxRecDepth 20000 in
theorem gX2_way_X2_fail : GoodIn wsX2_way (wsV RX2 95 RX2 yX2_fail wsX2_fail) := goodIn_app (goodIn_of _ (by decide +kernel)) ggX2_way_X2_fail
set_option maxRecDepth 20000 in
theorem ggX2_way_X2_spread : GoodIn wsX2_way wsX2_spread := goodIn_r _ [19, 8, 2, 20, 21, 22, 23, 6, 24, 25, 26, 27, 28, 29, 30, 31, 32, 33, 34, 35, 36, 37, 38, 39, 9, 10, 11, 40, 41, 42, 43, 44, 45, 46, 47, 48, 49, 50, 51, 52] (by decide +kernel) (by decide +kernel)
set_option maxRecDepth 20000 in
theorem gX2_way_X2_spread : GoodIn wsX2_way (wsV RX2 130 RX2 yX2_spread wsX2_spread) := goodIn_app (goodIn_of _ (by decide +kernel)) ggX2_way_X2_spread
theorem dX2_way_0 : decode cX2_way 0 = .ok (.aload_n 0, 1) := by decide +kernel
theorem dX2_way_1 : decode cX2_way 1 = .ok (.iconst 0, 1) := by decide +kernel
theorem dX2_way_2 : decode cX2_way 2 = .ok (.putfield 45, 3) := by decide +kernel
theorem dX2_way_5 : decode cX2_way 5 = .ok (.aload_n 0, 1) := by decide +kernel
theorem dX2_way_6 : decode cX2_way 6 = .ok (.iload_n 1, 1) := by decide +kernel
theorem dX2_way_7 : decode cX2_way 7 = .ok (.invokevirtual 98, 3) := by decide +kernel
theorem dX2_way_10 : decode cX2_way 10 = .ok (.ifCond .eq 11, 3) := by decide +kernel
theorem dX2_way_13 : decode cX2_way 13 = .ok (.aload_n 0, 1) := by decide +kernel
theorem dX2_way_14 : decode cX2_way 14 = .ok (.iload_n 2, 1) := by decide +kernel
theorem dX2_way_15 : decode cX2_way 15 = .ok (.invokevirtual 98, 3) := by decide +kernel
theorem dX2_way_18 : decode cX2_way 18 = .ok (.ifCond .ne 9, 3) := by decide +kernel
theorem dX2_way_21 : decode cX2_way 21 = .ok (.aload_n 0, 1) := by decide +kernel
theorem dX2_way_22 : decode cX2_way 22 = .ok (.iconst 1, 1) := by decide +kernel
theorem dX2_way_23 : decode cX2_way 23 = .ok (.invokevirtual 95, 3) := by decide +kernel
theorem dX2_way_26 : decode cX2_way 26 = .ok (.ireturn, 1) := by decide +kernel
theorem dX2_way_27 : decode cX2_way 27 = .ok (.aload_n 0, 1) := by decide +kernel
theorem dX2_way_28 : decode cX2_way 28 = .ok (.iload_n 1, 1) := by decide +kernel
theorem dX2_way_29 : decode cX2_way 29 = .ok (.invokevirtual 130, 3) := by decide +kernel
theorem dX2_way_32 : decode cX2_way 32 = .ok (.pop, 1) := by decide +kernel
theorem dX2_way_33 : decode cX2_way 33 = .ok (.aload_n 0, 1) := by decide +kernel
theorem dX2_way_34 : decode cX2_way 34 = .ok (.getfield 32, 3) := by decide +kernel
theorem dX2_way_37 : decode cX2_way 37 = .ok (.iload_n 2, 1) := by decide +kernel
theorem dX2_way_38 : decode cX2_way 38 = .ok (.iaload, 1) := by decide +kernel
theorem dX2_way_39 : decode cX2_way 39 = .ok (.ireturn, 1) := by decide +kernel
set_option maxRecDepth 20000 in
theorem ggX2_side_X2_isRoom : GoodIn wsX2_side wsX2_isRoom := goodIn_r _ [7, 8, 9, 10, 6, 11, 40, 41, 42, 43, 44, 45, 46, 47, 48, 49, 50, 51, 52] (by decide +kernel) (by decide +kernel)
set_option maxRecDepth 20000 in
theorem gX2_side_X2_isRoom : GoodIn wsX2_side (wsV RX2 98 RX2 yX2_isRoom wsX2_isRoom) := goodIn_app (goodIn_of _ (by decide +kernel)) ggX2_side_X2_isRoom
set_option maxRecDepth 20000 in
theorem ggX2_side_X2_fail : GoodIn wsX2_side wsX2_fail := goodIn_r _ [15, 1, 40, 41, 42, 43, 44, 45, 46, 47, 48, 49, 50, 51, 52] (by decide +kernel) (by decide +kernel)
set_option maxRecDepth 20000 in
theorem gX2_side_X2_fail : GoodIn wsX2_side (wsV RX2 95 RX2 yX2_fail wsX2_fail) := goodIn_app (goodIn_of _ (by decide +kernel)) ggX2_side_X2_fail
set_option maxRecDepth 20000 in
theorem ggX2_side_X2_spread : GoodIn wsX2_side wsX2_spread := goodIn_r _ [19, 8, 2, 20, 21, 22, 23, 6, 24, 25, 26, 27, 28, 29, 30, 31, 32, 33, 34, 35, 36, 37, 38, 39, 9, 10, 11, 40, 41, 42, 43, 44, 45, 46, 47, 48, 49, 50, 51, 52] (by decide +kernel) (by decide +kernel)
set_option maxRecDepth 20000 in
theorem gX2_side_X2_spread : GoodIn wsX2_side (wsV RX2 130 RX2 yX2_spread wsX2_spread) := goodIn_app (goodIn_of _ (by decide +kernel)) ggX2_side_X2_spread
set_option maxRecDepth 20000 in
theorem ggX2_side_X2_on : GoodIn wsX2_side wsX2_on := goodIn_r _ [24, 25, 26, 27, 28, 29, 6, 30, 31, 32, 33, 34, 35, 36, 37, 38, 39, 9, 10, 11, 40, 41, 42, 43, 44, 45, 46, 47, 48, 49, 50, 51, 52] (by decide +kernel) (by decide +kernel)
set_option maxRecDepth 20000 in
theorem gX2_side_X2_on : GoodIn wsX2_side (wsV RX2 76 RX2 yX2_on wsX2_on) := goodIn_app (goodIn_of _ (by decide +kernel)) ggX2_side_X2_on
theorem dX2_side_0 : decode cX2_side 0 = .ok (.aload_n 0, 1) := by decide +kernel
theorem dX2_side_1 : decode cX2_side 1 = .ok (.iconst 0, 1) := by decide +kernel
theorem dX2_side_2 : decode cX2_side 2 = .ok (.putfield 45, 3) := by decide +kernel
theorem dX2_side_5 : decode cX2_side 5 = .ok (.aload_n 0, 1) := by decide +kernel
theorem dX2_side_6 : decode cX2_side 6 = .ok (.iload_n 1, 1) := by decide +kernel
theorem dX2_side_7 : decode cX2_side 7 = .ok (.invokevirtual 98, 3) := by decide +kernel
theorem dX2_side_10 : decode cX2_side 10 = .ok (.ifCond .eq 11, 3) := by decide +kernel
theorem dX2_side_13 : decode cX2_side 13 = .ok (.aload_n 0, 1) := by decide +kernel
theorem dX2_side_14 : decode cX2_side 14 = .ok (.iload_n 2, 1) := by decide +kernel
theorem dX2_side_15 : decode cX2_side 15 = .ok (.invokevirtual 98, 3) := by decide +kernel
theorem dX2_side_18 : decode cX2_side 18 = .ok (.ifCond .ne 9, 3) := by decide +kernel
theorem dX2_side_21 : decode cX2_side 21 = .ok (.aload_n 0, 1) := by decide +kernel
theorem dX2_side_22 : decode cX2_side 22 = .ok (.iconst 1, 1) := by decide +kernel
theorem dX2_side_23 : decode cX2_side 23 = .ok (.invokevirtual 95, 3) := by decide +kernel
theorem dX2_side_26 : decode cX2_side 26 = .ok (.ireturn, 1) := by decide +kernel
theorem dX2_side_27 : decode cX2_side 27 = .ok (.aload_n 0, 1) := by decide +kernel
theorem dX2_side_28 : decode cX2_side 28 = .ok (.iload_n 1, 1) := by decide +kernel
theorem dX2_side_29 : decode cX2_side 29 = .ok (.invokevirtual 130, 3) := by decide +kernel
theorem dX2_side_32 : decode cX2_side 32 = .ok (.pop, 1) := by decide +kernel
theorem dX2_side_33 : decode cX2_side 33 = .ok (.aload_n 0, 1) := by decide +kernel
theorem dX2_side_34 : decode cX2_side 34 = .ok (.getfield 32, 3) := by decide +kernel
theorem dX2_side_37 : decode cX2_side 37 = .ok (.iload_n 2, 1) := by decide +kernel
theorem dX2_side_38 : decode cX2_side 38 = .ok (.iaload, 1) := by decide +kernel
theorem dX2_side_39 : decode cX2_side 39 = .ok (.istore_n 3, 1) := by decide +kernel
theorem dX2_side_40 : decode cX2_side 40 = .ok (.iload_n 3, 1) := by decide +kernel
theorem dX2_side_41 : decode cX2_side 41 = .ok (.iconst 1, 1) := by decide +kernel
theorem dX2_side_42 : decode cX2_side 42 = .ok (.if_icmp .ge 5, 3) := by decide +kernel
theorem dX2_side_45 : decode cX2_side 45 = .ok (.iconst (-1), 1) := by decide +kernel
theorem dX2_side_46 : decode cX2_side 46 = .ok (.ireturn, 1) := by decide +kernel
theorem dX2_side_47 : decode cX2_side 47 = .ok (.iconst 0, 1) := by decide +kernel
theorem dX2_side_48 : decode cX2_side 48 = .ok (.istore 4, 2) := by decide +kernel
theorem dX2_side_50 : decode cX2_side 50 = .ok (.iload 4, 2) := by decide +kernel
theorem dX2_side_52 : decode cX2_side 52 = .ok (.bipush 6, 2) := by decide +kernel
theorem dX2_side_54 : decode cX2_side 54 = .ok (.if_icmp .ge 49, 3) := by decide +kernel
theorem dX2_side_57 : decode cX2_side 57 = .ok (.aload_n 0, 1) := by decide +kernel
theorem dX2_side_58 : decode cX2_side 58 = .ok (.iload_n 1, 1) := by decide +kernel
theorem dX2_side_59 : decode cX2_side 59 = .ok (.iload 4, 2) := by decide +kernel
theorem dX2_side_61 : decode cX2_side 61 = .ok (.invokevirtual 76, 3) := by decide +kernel
theorem dX2_side_64 : decode cX2_side 64 = .ok (.istore 5, 2) := by decide +kernel
theorem dX2_side_66 : decode cX2_side 66 = .ok (.iload 5, 2) := by decide +kernel
theorem dX2_side_68 : decode cX2_side 68 = .ok (.iconst (-1), 1) := by decide +kernel
theorem dX2_side_69 : decode cX2_side 69 = .ok (.if_icmp .ne 6, 3) := by decide +kernel
theorem dX2_side_72 : decode cX2_side 72 = .ok (.goto 25, 3) := by decide +kernel
theorem dX2_side_75 : decode cX2_side 75 = .ok (.aload_n 0, 1) := by decide +kernel
theorem dX2_side_76 : decode cX2_side 76 = .ok (.iload 5, 2) := by decide +kernel
theorem dX2_side_78 : decode cX2_side 78 = .ok (.invokevirtual 130, 3) := by decide +kernel
theorem dX2_side_81 : decode cX2_side 81 = .ok (.pop, 1) := by decide +kernel
theorem dX2_side_82 : decode cX2_side 82 = .ok (.aload_n 0, 1) := by decide +kernel
theorem dX2_side_83 : decode cX2_side 83 = .ok (.getfield 32, 3) := by decide +kernel
theorem dX2_side_86 : decode cX2_side 86 = .ok (.iload_n 2, 1) := by decide +kernel
theorem dX2_side_87 : decode cX2_side 87 = .ok (.iaload, 1) := by decide +kernel
theorem dX2_side_88 : decode cX2_side 88 = .ok (.iload_n 3, 1) := by decide +kernel
theorem dX2_side_89 : decode cX2_side 89 = .ok (.iconst 1, 1) := by decide +kernel
theorem dX2_side_90 : decode cX2_side 90 = .ok (.isub, 1) := by decide +kernel
theorem dX2_side_91 : decode cX2_side 91 = .ok (.if_icmp .ne 6, 3) := by decide +kernel
theorem dX2_side_94 : decode cX2_side 94 = .ok (.iload 4, 2) := by decide +kernel
theorem dX2_side_96 : decode cX2_side 96 = .ok (.ireturn, 1) := by decide +kernel
theorem dX2_side_97 : decode cX2_side 97 = .ok (.iinc 4 1, 3) := by decide +kernel
theorem dX2_side_100 : decode cX2_side 100 = .ok (.goto (-50), 3) := by decide +kernel
theorem dX2_side_103 : decode cX2_side 103 = .ok (.iconst (-1), 1) := by decide +kernel
theorem dX2_side_104 : decode cX2_side 104 = .ok (.ireturn, 1) := by decide +kernel
set_option maxRecDepth 20000 in
theorem ggX2_reach_X2_isRoom : GoodIn wsX2_reach wsX2_isRoom := goodIn_r _ [8, 2, 9, 10, 7, 11, 40, 41, 42, 43, 44, 45, 46, 47, 48, 49, 50, 51, 52] (by decide +kernel) (by decide +kernel)
set_option maxRecDepth 20000 in
theorem gX2_reach_X2_isRoom : GoodIn wsX2_reach (wsV RX2 98 RX2 yX2_isRoom wsX2_isRoom) := goodIn_app (goodIn_of _ (by decide +kernel)) ggX2_reach_X2_isRoom
set_option maxRecDepth 20000 in
theorem ggX2_reach_X2_fail : GoodIn wsX2_reach wsX2_fail := goodIn_r _ [15, 1, 40, 41, 42, 43, 44, 45, 46, 47, 48, 49, 50, 51, 52] (by decide +kernel) (by decide +kernel)
set_option maxRecDepth 20000 in
theorem gX2_reach_X2_fail : GoodIn wsX2_reach (wsV RX2 95 RX2 yX2_fail wsX2_fail) := goodIn_app (goodIn_of _ (by decide +kernel)) ggX2_reach_X2_fail
set_option maxRecDepth 20000 in
theorem ggX2_reach_X2_isIn : GoodIn wsX2_reach wsX2_isIn := goodIn_r _ [11] (by decide +kernel) (by decide +kernel)
set_option maxRecDepth 20000 in
theorem gX2_reach_X2_isIn : GoodIn wsX2_reach (va_wsS RX2 52 yX2_isIn wsX2_isIn) := goodIn_app (goodIn_of _ (by decide +kernel)) ggX2_reach_X2_isIn
set_option maxRecDepth 20000 in
theorem ggX2_reach_X2_spread : GoodIn wsX2_reach wsX2_spread := goodIn_r _ [19, 2, 3, 20, 21, 22, 23, 7, 24, 25, 26, 27, 28, 29, 30, 31, 32, 33, 34, 35, 36, 37, 38, 39, 9, 10, 11, 40, 41, 42, 43, 44, 45, 46, 47, 48, 49, 50, 51, 52] (by decide +kernel) (by decide +kernel)
set_option maxRecDepth 20000 in
theorem gX2_reach_X2_spread : GoodIn wsX2_reach (wsV RX2 130 RX2 yX2_spread wsX2_spread) := goodIn_app (goodIn_of _ (by decide +kernel)) ggX2_reach_X2_spread
theorem dX2_reach_0 : decode cX2_reach 0 = .ok (.aload_n 0, 1) := by decide +kernel
theorem dX2_reach_1 : decode cX2_reach 1 = .ok (.iconst 0, 1) := by decide +kernel
theorem dX2_reach_2 : decode cX2_reach 2 = .ok (.putfield 45, 3) := by decide +kernel
theorem dX2_reach_5 : decode cX2_reach 5 = .ok (.aload_n 0, 1) := by decide +kernel
theorem dX2_reach_6 : decode cX2_reach 6 = .ok (.iload_n 1, 1) := by decide +kernel
end
section
theorem dX2_reach_7 : decode cX2_reach 7 = .ok (.invokevirtual 98, 3) := by decide +kernel
theorem dX2_reach_10 : decode cX2_reach 10 = .ok (.ifCond .ne 9, 3) := by decide +kernel
theorem dX2_reach_13 : decode cX2_reach 13 = .ok (.aload_n 0, 1) := by decide +kernel
theorem dX2_reach_14 : decode cX2_reach 14 = .ok (.iconst 1, 1) := by decide +kernel
theorem dX2_reach_15 : decode cX2_reach 15 = .ok (.invokevirtual 95, 3) := by decide +kernel
theorem dX2_reach_18 : decode cX2_reach 18 = .ok (.ireturn, 1) := by decide +kernel
theorem dX2_reach_19 : decode cX2_reach 19 = .ok (.iload_n 2, 1) := by decide +kernel
theorem dX2_reach_20 : decode cX2_reach 20 = .ok (.iconst 0, 1) := by decide +kernel
theorem dX2_reach_21 : decode cX2_reach 21 = .ok (.bipush 99, 2) := by decide +kernel
theorem dX2_reach_23 : decode cX2_reach 23 = .ok (.invokestatic 52, 3) := by decide +kernel
theorem dX2_reach_26 : decode cX2_reach 26 = .ok (.ifCond .ne 9, 3) := by decide +kernel
theorem dX2_reach_29 : decode cX2_reach 29 = .ok (.aload_n 0, 1) := by decide +kernel
theorem dX2_reach_30 : decode cX2_reach 30 = .ok (.iconst 2, 1) := by decide +kernel
theorem dX2_reach_31 : decode cX2_reach 31 = .ok (.invokevirtual 95, 3) := by decide +kernel
theorem dX2_reach_34 : decode cX2_reach 34 = .ok (.ireturn, 1) := by decide +kernel
theorem dX2_reach_35 : decode cX2_reach 35 = .ok (.aload_n 0, 1) := by decide +kernel
theorem dX2_reach_36 : decode cX2_reach 36 = .ok (.iload_n 1, 1) := by decide +kernel
theorem dX2_reach_37 : decode cX2_reach 37 = .ok (.invokevirtual 130, 3) := by decide +kernel
theorem dX2_reach_40 : decode cX2_reach 40 = .ok (.pop, 1) := by decide +kernel
theorem dX2_reach_41 : decode cX2_reach 41 = .ok (.iconst 0, 1) := by decide +kernel
theorem dX2_reach_42 : decode cX2_reach 42 = .ok (.istore_n 3, 1) := by decide +kernel
theorem dX2_reach_43 : decode cX2_reach 43 = .ok (.iconst 0, 1) := by decide +kernel
theorem dX2_reach_44 : decode cX2_reach 44 = .ok (.istore 4, 2) := by decide +kernel
theorem dX2_reach_46 : decode cX2_reach 46 = .ok (.iload 4, 2) := by decide +kernel
theorem dX2_reach_48 : decode cX2_reach 48 = .ok (.aload_n 0, 1) := by decide +kernel
theorem dX2_reach_49 : decode cX2_reach 49 = .ok (.getfield 49, 3) := by decide +kernel
theorem dX2_reach_52 : decode cX2_reach 52 = .ok (.if_icmp .ge 39, 3) := by decide +kernel
theorem dX2_reach_55 : decode cX2_reach 55 = .ok (.iload_n 3, 1) := by decide +kernel
theorem dX2_reach_56 : decode cX2_reach 56 = .ok (.aload_n 0, 1) := by decide +kernel
theorem dX2_reach_57 : decode cX2_reach 57 = .ok (.getfield 32, 3) := by decide +kernel
theorem dX2_reach_60 : decode cX2_reach 60 = .ok (.iload 4, 2) := by decide +kernel
theorem dX2_reach_62 : decode cX2_reach 62 = .ok (.iaload, 1) := by decide +kernel
theorem dX2_reach_63 : decode cX2_reach 63 = .ok (.iconst (-1), 1) := by decide +kernel
theorem dX2_reach_64 : decode cX2_reach 64 = .ok (.if_icmp .eq 18, 3) := by decide +kernel
theorem dX2_reach_67 : decode cX2_reach 67 = .ok (.aload_n 0, 1) := by decide +kernel
theorem dX2_reach_68 : decode cX2_reach 68 = .ok (.getfield 32, 3) := by decide +kernel
theorem dX2_reach_71 : decode cX2_reach 71 = .ok (.iload 4, 2) := by decide +kernel
theorem dX2_reach_73 : decode cX2_reach 73 = .ok (.iaload, 1) := by decide +kernel
theorem dX2_reach_74 : decode cX2_reach 74 = .ok (.iload_n 2, 1) := by decide +kernel
theorem dX2_reach_75 : decode cX2_reach 75 = .ok (.if_icmp .gt 7, 3) := by decide +kernel
theorem dX2_reach_78 : decode cX2_reach 78 = .ok (.iconst 1, 1) := by decide +kernel
theorem dX2_reach_79 : decode cX2_reach 79 = .ok (.goto 4, 3) := by decide +kernel
theorem dX2_reach_82 : decode cX2_reach 82 = .ok (.iconst 0, 1) := by decide +kernel
theorem dX2_reach_83 : decode cX2_reach 83 = .ok (.iadd, 1) := by decide +kernel
theorem dX2_reach_84 : decode cX2_reach 84 = .ok (.istore_n 3, 1) := by decide +kernel
theorem dX2_reach_85 : decode cX2_reach 85 = .ok (.iinc 4 1, 3) := by decide +kernel
theorem dX2_reach_88 : decode cX2_reach 88 = .ok (.goto (-42), 3) := by decide +kernel
theorem dX2_reach_91 : decode cX2_reach 91 = .ok (.iload_n 3, 1) := by decide +kernel
theorem dX2_reach_92 : decode cX2_reach 92 = .ok (.ireturn, 1) := by decide +kernel
theorem dX2_standing_0 : decode cX2_standing 0 = .ok (.iconst 0, 1) := by decide +kernel
theorem dX2_standing_1 : decode cX2_standing 1 = .ok (.istore_n 3, 1) := by decide +kernel
theorem dX2_standing_2 : decode cX2_standing 2 = .ok (.iconst 0, 1) := by decide +kernel
theorem dX2_standing_3 : decode cX2_standing 3 = .ok (.istore 4, 2) := by decide +kernel
theorem dX2_standing_5 : decode cX2_standing 5 = .ok (.iload 4, 2) := by decide +kernel
theorem dX2_standing_7 : decode cX2_standing 7 = .ok (.aload_n 0, 1) := by decide +kernel
theorem dX2_standing_8 : decode cX2_standing 8 = .ok (.getfield 49, 3) := by decide +kernel
theorem dX2_standing_11 : decode cX2_standing 11 = .ok (.if_icmp .ge 44, 3) := by decide +kernel
theorem dX2_standing_14 : decode cX2_standing 14 = .ok (.iload_n 3, 1) := by decide +kernel
theorem dX2_standing_15 : decode cX2_standing 15 = .ok (.iload_n 1, 1) := by decide +kernel
theorem dX2_standing_16 : decode cX2_standing 16 = .ok (.iconst (-1), 1) := by decide +kernel
theorem dX2_standing_17 : decode cX2_standing 17 = .ok (.if_icmp .eq 14, 3) := by decide +kernel
theorem dX2_standing_20 : decode cX2_standing 20 = .ok (.aload_n 0, 1) := by decide +kernel
theorem dX2_standing_21 : decode cX2_standing 21 = .ok (.getfield 16, 3) := by decide +kernel
theorem dX2_standing_24 : decode cX2_standing 24 = .ok (.iload 4, 2) := by decide +kernel
theorem dX2_standing_26 : decode cX2_standing 26 = .ok (.iaload, 1) := by decide +kernel
theorem dX2_standing_27 : decode cX2_standing 27 = .ok (.iload_n 1, 1) := by decide +kernel
theorem dX2_standing_28 : decode cX2_standing 28 = .ok (.if_icmp .ne 18, 3) := by decide +kernel
theorem dX2_standing_31 : decode cX2_standing 31 = .ok (.aload_n 0, 1) := by decide +kernel
theorem dX2_standing_32 : decode cX2_standing 32 = .ok (.getfield 19, 3) := by decide +kernel
theorem dX2_standing_35 : decode cX2_standing 35 = .ok (.iload 4, 2) := by decide +kernel
theorem dX2_standing_37 : decode cX2_standing 37 = .ok (.iaload, 1) := by decide +kernel
theorem dX2_standing_38 : decode cX2_standing 38 = .ok (.iload_n 2, 1) := by decide +kernel
theorem dX2_standing_39 : decode cX2_standing 39 = .ok (.if_icmp .ne 7, 3) := by decide +kernel
theorem dX2_standing_42 : decode cX2_standing 42 = .ok (.iconst 1, 1) := by decide +kernel
theorem dX2_standing_43 : decode cX2_standing 43 = .ok (.goto 4, 3) := by decide +kernel
theorem dX2_standing_46 : decode cX2_standing 46 = .ok (.iconst 0, 1) := by decide +kernel
theorem dX2_standing_47 : decode cX2_standing 47 = .ok (.iadd, 1) := by decide +kernel
theorem dX2_standing_48 : decode cX2_standing 48 = .ok (.istore_n 3, 1) := by decide +kernel
theorem dX2_standing_49 : decode cX2_standing 49 = .ok (.iinc 4 1, 3) := by decide +kernel
theorem dX2_standing_52 : decode cX2_standing 52 = .ok (.goto (-47), 3) := by decide +kernel
theorem dX2_standing_55 : decode cX2_standing 55 = .ok (.iload_n 3, 1) := by decide +kernel
theorem dX2_standing_56 : decode cX2_standing 56 = .ok (.ireturn, 1) := by decide +kernel
set_option maxRecDepth 20000 in
theorem ggX2_ringTold_X2_size : GoodIn wsX2_ringTold wsX2_size := goodIn_r _ [5] (by decide +kernel) (by decide +kernel)
set_option maxRecDepth 20000 in
theorem gX2_ringTold_X2_size : GoodIn wsX2_ringTold (va_wsS RX2 82 yX2_size wsX2_size) := goodIn_app (goodIn_of _ (by decide +kernel)) ggX2_ringTold_X2_size
set_option maxRecDepth 20000 in
theorem ggX2_ringTold_X2_standing : GoodIn wsX2_ringTold wsX2_standing := goodIn_r _ [9, 10, 11, 12, 45, 46, 47, 48, 49, 50, 51, 52, 53, 54, 55, 56, 57] (by decide +kernel) (by decide +kernel)
set_option maxRecDepth 20000 in
theorem gX2_ringTold_X2_standing : GoodIn wsX2_ringTold (wsV RX2 133 RX2 yX2_standing wsX2_standing) := goodIn_app (goodIn_of _ (by decide +kernel)) ggX2_ringTold_X2_standing
set_option maxRecDepth 20000 in
theorem ggX2_ringTold_X2_lit : GoodIn wsX2_ringTold wsX2_lit := goodIn_r _ [16, 10, 1, 12, 17, 18, 19, 4, 20, 21, 22, 23, 24, 25, 26, 27, 28, 29, 30, 31, 32, 33, 34, 35, 36, 37, 38, 39, 40, 41, 45, 46, 47, 48, 49, 50, 51, 52, 53, 54, 55, 56, 57] (by decide +kernel) (by decide +kernel)
set_option maxRecDepth 20000 in
theorem gX2_ringTold_X2_lit : GoodIn wsX2_ringTold (wsV RX2 112 RX2 yX2_lit wsX2_lit) := goodIn_app (goodIn_of _ (by decide +kernel)) ggX2_ringTold_X2_lit
set_option maxRecDepth 20000 in
theorem ggX2_ringTold_X2_first : GoodIn wsX2_ringTold wsX2_first := goodIn_r _ [44] (by decide +kernel) (by decide +kernel)
set_option maxRecDepth 20000 in
theorem gX2_ringTold_X2_first : GoodIn wsX2_ringTold (va_wsS RX2 86 yX2_first wsX2_first) := goodIn_app (goodIn_of _ (by decide +kernel)) ggX2_ringTold_X2_first
theorem dX2_ringTold_0 : decode cX2_ringTold 0 = .ok (.iload_n 2, 1) := by decide +kernel
theorem dX2_ringTold_1 : decode cX2_ringTold 1 = .ok (.ifCond .ne 8, 3) := by decide +kernel
theorem dX2_ringTold_4 : decode cX2_ringTold 4 = .ok (.iload_n 1, 1) := by decide +kernel
theorem dX2_ringTold_5 : decode cX2_ringTold 5 = .ok (.invokestatic 82, 3) := by decide +kernel
theorem dX2_ringTold_8 : decode cX2_ringTold 8 = .ok (.ireturn, 1) := by decide +kernel
theorem dX2_ringTold_9 : decode cX2_ringTold 9 = .ok (.iload_n 2, 1) := by decide +kernel
theorem dX2_ringTold_10 : decode cX2_ringTold 10 = .ok (.iconst 3, 1) := by decide +kernel
theorem dX2_ringTold_11 : decode cX2_ringTold 11 = .ok (.if_icmp .ge 19, 3) := by decide +kernel
theorem dX2_ringTold_14 : decode cX2_ringTold 14 = .ok (.aload_n 0, 1) := by decide +kernel
theorem dX2_ringTold_15 : decode cX2_ringTold 15 = .ok (.iload_n 1, 1) := by decide +kernel
theorem dX2_ringTold_16 : decode cX2_ringTold 16 = .ok (.iload_n 2, 1) := by decide +kernel
theorem dX2_ringTold_17 : decode cX2_ringTold 17 = .ok (.iconst 1, 1) := by decide +kernel
theorem dX2_ringTold_18 : decode cX2_ringTold 18 = .ok (.if_icmp .ne 7, 3) := by decide +kernel
theorem dX2_ringTold_21 : decode cX2_ringTold 21 = .ok (.iconst 1, 1) := by decide +kernel
theorem dX2_ringTold_22 : decode cX2_ringTold 22 = .ok (.goto 4, 3) := by decide +kernel
theorem dX2_ringTold_25 : decode cX2_ringTold 25 = .ok (.iconst 2, 1) := by decide +kernel
theorem dX2_ringTold_26 : decode cX2_ringTold 26 = .ok (.invokevirtual 133, 3) := by decide +kernel
theorem dX2_ringTold_29 : decode cX2_ringTold 29 = .ok (.ireturn, 1) := by decide +kernel
theorem dX2_ringTold_30 : decode cX2_ringTold 30 = .ok (.aload_n 0, 1) := by decide +kernel
theorem dX2_ringTold_31 : decode cX2_ringTold 31 = .ok (.invokevirtual 112, 3) := by decide +kernel
theorem dX2_ringTold_34 : decode cX2_ringTold 34 = .ok (.pop, 1) := by decide +kernel
theorem dX2_ringTold_35 : decode cX2_ringTold 35 = .ok (.iconst 0, 1) := by decide +kernel
theorem dX2_ringTold_36 : decode cX2_ringTold 36 = .ok (.istore_n 3, 1) := by decide +kernel
theorem dX2_ringTold_37 : decode cX2_ringTold 37 = .ok (.iconst 0, 1) := by decide +kernel
theorem dX2_ringTold_38 : decode cX2_ringTold 38 = .ok (.istore 4, 2) := by decide +kernel
theorem dX2_ringTold_40 : decode cX2_ringTold 40 = .ok (.iload 4, 2) := by decide +kernel
theorem dX2_ringTold_42 : decode cX2_ringTold 42 = .ok (.iload_n 1, 1) := by decide +kernel
theorem dX2_ringTold_43 : decode cX2_ringTold 43 = .ok (.invokestatic 82, 3) := by decide +kernel
theorem dX2_ringTold_46 : decode cX2_ringTold 46 = .ok (.if_icmp .ge 32, 3) := by decide +kernel
theorem dX2_ringTold_49 : decode cX2_ringTold 49 = .ok (.iload_n 3, 1) := by decide +kernel
theorem dX2_ringTold_50 : decode cX2_ringTold 50 = .ok (.aload_n 0, 1) := by decide +kernel
theorem dX2_ringTold_51 : decode cX2_ringTold 51 = .ok (.getfield 29, 3) := by decide +kernel
theorem dX2_ringTold_54 : decode cX2_ringTold 54 = .ok (.iload_n 1, 1) := by decide +kernel
theorem dX2_ringTold_55 : decode cX2_ringTold 55 = .ok (.invokestatic 86, 3) := by decide +kernel
theorem dX2_ringTold_58 : decode cX2_ringTold 58 = .ok (.iload 4, 2) := by decide +kernel
theorem dX2_ringTold_60 : decode cX2_ringTold 60 = .ok (.iadd, 1) := by decide +kernel
theorem dX2_ringTold_61 : decode cX2_ringTold 61 = .ok (.iaload, 1) := by decide +kernel
theorem dX2_ringTold_62 : decode cX2_ringTold 62 = .ok (.ifCond .le 7, 3) := by decide +kernel
theorem dX2_ringTold_65 : decode cX2_ringTold 65 = .ok (.iconst 1, 1) := by decide +kernel
theorem dX2_ringTold_66 : decode cX2_ringTold 66 = .ok (.goto 4, 3) := by decide +kernel
theorem dX2_ringTold_69 : decode cX2_ringTold 69 = .ok (.iconst 0, 1) := by decide +kernel
theorem dX2_ringTold_70 : decode cX2_ringTold 70 = .ok (.iadd, 1) := by decide +kernel
theorem dX2_ringTold_71 : decode cX2_ringTold 71 = .ok (.istore_n 3, 1) := by decide +kernel
theorem dX2_ringTold_72 : decode cX2_ringTold 72 = .ok (.iinc 4 1, 3) := by decide +kernel
theorem dX2_ringTold_75 : decode cX2_ringTold 75 = .ok (.goto (-35), 3) := by decide +kernel
theorem dX2_ringTold_78 : decode cX2_ringTold 78 = .ok (.iload_n 3, 1) := by decide +kernel
theorem dX2_ringTold_79 : decode cX2_ringTold 79 = .ok (.ireturn, 1) := by decide +kernel
set_option maxRecDepth 20000 in
theorem ggX2_ring_X2_isRing : GoodIn wsX2_ring wsX2_isRing := goodIn_r _ [6, 7, 8, 9, 5, 10, 59, 60, 61, 62, 63, 64, 65, 66, 67, 68, 69, 70, 71] (by decide +kernel) (by decide +kernel)
set_option maxRecDepth 20000 in
theorem gX2_ring_X2_isRing : GoodIn wsX2_ring (wsV RX2 105 RX2 yX2_isRing wsX2_isRing) := goodIn_app (goodIn_of _ (by decide +kernel)) ggX2_ring_X2_isRing
set_option maxRecDepth 20000 in
theorem ggX2_ring_X2_isIn : GoodIn wsX2_ring wsX2_isIn := goodIn_r _ [10] (by decide +kernel) (by decide +kernel)
set_option maxRecDepth 20000 in
theorem gX2_ring_X2_isIn : GoodIn wsX2_ring (va_wsS RX2 52 yX2_isIn wsX2_isIn) := goodIn_app (goodIn_of _ (by decide +kernel)) ggX2_ring_X2_isIn
set_option maxRecDepth 20000 in
theorem ggX2_ring_X2_ringTold : GoodIn wsX2_ring wsX2_ringTold := goodIn_r _ [14, 15, 16, 17, 5, 18, 19, 20, 21, 22, 23, 24, 25, 26, 27, 28, 29, 30, 31, 32, 33, 34, 35, 36, 37, 38, 39, 40, 41, 42, 43, 44, 45, 46, 47, 48, 49, 50, 51, 8, 9, 10, 52, 53, 54, 59, 60, 61, 62, 63, 64, 65, 66, 67, 68, 69, 70, 71] (by decide +kernel) (by decide +kernel)
set_option maxRecDepth 20000 in
theorem gX2_ring_X2_ringTold : GoodIn wsX2_ring (wsV RX2 136 RX2 yX2_ringTold wsX2_ringTold) := goodIn_app (goodIn_of _ (by decide +kernel)) ggX2_ring_X2_ringTold
set_option maxRecDepth 20000 in
theorem ggX2_ring_X2_fail : GoodIn wsX2_ring wsX2_fail := goodIn_r _ [58, 1, 59, 60, 61, 62, 63, 64, 65, 66, 67, 68, 69, 70, 71] (by decide +kernel) (by decide +kernel)
set_option maxRecDepth 20000 in
theorem gX2_ring_X2_fail : GoodIn wsX2_ring (wsV RX2 95 RX2 yX2_fail wsX2_fail) := goodIn_app (goodIn_of _ (by decide +kernel)) ggX2_ring_X2_fail
theorem dX2_ring_0 : decode cX2_ring 0 = .ok (.aload_n 0, 1) := by decide +kernel
theorem dX2_ring_1 : decode cX2_ring 1 = .ok (.iconst 0, 1) := by decide +kernel
theorem dX2_ring_2 : decode cX2_ring 2 = .ok (.putfield 45, 3) := by decide +kernel
theorem dX2_ring_5 : decode cX2_ring 5 = .ok (.aload_n 0, 1) := by decide +kernel
theorem dX2_ring_6 : decode cX2_ring 6 = .ok (.iload_n 1, 1) := by decide +kernel
theorem dX2_ring_7 : decode cX2_ring 7 = .ok (.invokevirtual 105, 3) := by decide +kernel
theorem dX2_ring_10 : decode cX2_ring 10 = .ok (.ifCond .eq 21, 3) := by decide +kernel
theorem dX2_ring_13 : decode cX2_ring 13 = .ok (.iload_n 2, 1) := by decide +kernel
theorem dX2_ring_14 : decode cX2_ring 14 = .ok (.iconst 0, 1) := by decide +kernel
theorem dX2_ring_15 : decode cX2_ring 15 = .ok (.iconst 3, 1) := by decide +kernel
theorem dX2_ring_16 : decode cX2_ring 16 = .ok (.invokestatic 52, 3) := by decide +kernel
theorem dX2_ring_19 : decode cX2_ring 19 = .ok (.ifCond .eq 12, 3) := by decide +kernel
theorem dX2_ring_22 : decode cX2_ring 22 = .ok (.aload_n 0, 1) := by decide +kernel
theorem dX2_ring_23 : decode cX2_ring 23 = .ok (.iload_n 1, 1) := by decide +kernel
theorem dX2_ring_24 : decode cX2_ring 24 = .ok (.iload_n 2, 1) := by decide +kernel
theorem dX2_ring_25 : decode cX2_ring 25 = .ok (.invokevirtual 136, 3) := by decide +kernel
theorem dX2_ring_28 : decode cX2_ring 28 = .ok (.goto 8, 3) := by decide +kernel
theorem dX2_ring_31 : decode cX2_ring 31 = .ok (.aload_n 0, 1) := by decide +kernel
theorem dX2_ring_32 : decode cX2_ring 32 = .ok (.iconst 1, 1) := by decide +kernel
theorem dX2_ring_33 : decode cX2_ring 33 = .ok (.invokevirtual 95, 3) := by decide +kernel
theorem dX2_ring_36 : decode cX2_ring 36 = .ok (.ireturn, 1) := by decide +kernel
set_option maxRecDepth 20000 in
theorem ggX2_parts_X2_spread : GoodIn wsX2_parts wsX2_spread := goodIn_r _ [8, 1, 3, 9, 10, 11, 12, 7, 13, 14, 2, 15, 16, 17, 18, 19, 20, 21, 22, 23, 24, 25, 26, 27, 28, 29, 30, 31, 32, 33, 34, 35, 36, 37, 38, 39, 40, 41, 42, 43] (by decide +kernel) (by decide +kernel)
set_option maxRecDepth 20000 in
theorem gX2_parts_X2_spread : GoodIn wsX2_parts (wsV RX2 130 RX2 yX2_spread wsX2_spread) := goodIn_app (goodIn_of _ (by decide +kernel)) ggX2_parts_X2_spread
theorem dX2_parts_0 : decode cX2_parts 0 = .ok (.iconst 0, 1) := by decide +kernel
theorem dX2_parts_1 : decode cX2_parts 1 = .ok (.istore_n 1, 1) := by decide +kernel
theorem dX2_parts_2 : decode cX2_parts 2 = .ok (.iconst 0, 1) := by decide +kernel
theorem dX2_parts_3 : decode cX2_parts 3 = .ok (.istore_n 2, 1) := by decide +kernel
theorem dX2_parts_4 : decode cX2_parts 4 = .ok (.iload_n 2, 1) := by decide +kernel
theorem dX2_parts_5 : decode cX2_parts 5 = .ok (.aload_n 0, 1) := by decide +kernel
theorem dX2_parts_6 : decode cX2_parts 6 = .ok (.getfield 49, 3) := by decide +kernel
theorem dX2_parts_9 : decode cX2_parts 9 = .ok (.if_icmp .ge 78, 3) := by decide +kernel
theorem dX2_parts_12 : decode cX2_parts 12 = .ok (.aload_n 0, 1) := by decide +kernel
theorem dX2_parts_13 : decode cX2_parts 13 = .ok (.getfield 19, 3) := by decide +kernel
theorem dX2_parts_16 : decode cX2_parts 16 = .ok (.iload_n 2, 1) := by decide +kernel
theorem dX2_parts_17 : decode cX2_parts 17 = .ok (.iaload, 1) := by decide +kernel
theorem dX2_parts_18 : decode cX2_parts 18 = .ok (.iconst 1, 1) := by decide +kernel
theorem dX2_parts_19 : decode cX2_parts 19 = .ok (.if_icmp .ne 6, 3) := by decide +kernel
theorem dX2_parts_22 : decode cX2_parts 22 = .ok (.goto 59, 3) := by decide +kernel
theorem dX2_parts_25 : decode cX2_parts 25 = .ok (.aload_n 0, 1) := by decide +kernel
theorem dX2_parts_26 : decode cX2_parts 26 = .ok (.iload_n 2, 1) := by decide +kernel
theorem dX2_parts_27 : decode cX2_parts 27 = .ok (.invokevirtual 130, 3) := by decide +kernel
theorem dX2_parts_30 : decode cX2_parts 30 = .ok (.pop, 1) := by decide +kernel
theorem dX2_parts_31 : decode cX2_parts 31 = .ok (.iconst 1, 1) := by decide +kernel
theorem dX2_parts_32 : decode cX2_parts 32 = .ok (.istore_n 3, 1) := by decide +kernel
theorem dX2_parts_33 : decode cX2_parts 33 = .ok (.iconst 0, 1) := by decide +kernel
theorem dX2_parts_34 : decode cX2_parts 34 = .ok (.istore 4, 2) := by decide +kernel
theorem dX2_parts_36 : decode cX2_parts 36 = .ok (.iload 4, 2) := by decide +kernel
theorem dX2_parts_38 : decode cX2_parts 38 = .ok (.iload_n 2, 1) := by decide +kernel
theorem dX2_parts_39 : decode cX2_parts 39 = .ok (.if_icmp .ge 30, 3) := by decide +kernel
theorem dX2_parts_42 : decode cX2_parts 42 = .ok (.iload_n 3, 1) := by decide +kernel
theorem dX2_parts_43 : decode cX2_parts 43 = .ok (.ifCond .eq 18, 3) := by decide +kernel
theorem dX2_parts_46 : decode cX2_parts 46 = .ok (.aload_n 0, 1) := by decide +kernel
theorem dX2_parts_47 : decode cX2_parts 47 = .ok (.getfield 32, 3) := by decide +kernel
theorem dX2_parts_50 : decode cX2_parts 50 = .ok (.iload 4, 2) := by decide +kernel
theorem dX2_parts_52 : decode cX2_parts 52 = .ok (.iaload, 1) := by decide +kernel
theorem dX2_parts_53 : decode cX2_parts 53 = .ok (.iconst (-1), 1) := by decide +kernel
theorem dX2_parts_54 : decode cX2_parts 54 = .ok (.if_icmp .ne 7, 3) := by decide +kernel
theorem dX2_parts_57 : decode cX2_parts 57 = .ok (.iconst 1, 1) := by decide +kernel
theorem dX2_parts_58 : decode cX2_parts 58 = .ok (.goto 4, 3) := by decide +kernel
theorem dX2_parts_61 : decode cX2_parts 61 = .ok (.iconst 0, 1) := by decide +kernel
theorem dX2_parts_62 : decode cX2_parts 62 = .ok (.istore_n 3, 1) := by decide +kernel
theorem dX2_parts_63 : decode cX2_parts 63 = .ok (.iinc 4 1, 3) := by decide +kernel
theorem dX2_parts_66 : decode cX2_parts 66 = .ok (.goto (-30), 3) := by decide +kernel
theorem dX2_parts_69 : decode cX2_parts 69 = .ok (.iload_n 1, 1) := by decide +kernel
theorem dX2_parts_70 : decode cX2_parts 70 = .ok (.iload_n 3, 1) := by decide +kernel
theorem dX2_parts_71 : decode cX2_parts 71 = .ok (.ifCond .eq 7, 3) := by decide +kernel
theorem dX2_parts_74 : decode cX2_parts 74 = .ok (.iconst 1, 1) := by decide +kernel
theorem dX2_parts_75 : decode cX2_parts 75 = .ok (.goto 4, 3) := by decide +kernel
theorem dX2_parts_78 : decode cX2_parts 78 = .ok (.iconst 0, 1) := by decide +kernel
theorem dX2_parts_79 : decode cX2_parts 79 = .ok (.iadd, 1) := by decide +kernel
theorem dX2_parts_80 : decode cX2_parts 80 = .ok (.istore_n 1, 1) := by decide +kernel
theorem dX2_parts_81 : decode cX2_parts 81 = .ok (.iinc 2 1, 3) := by decide +kernel
theorem dX2_parts_84 : decode cX2_parts 84 = .ok (.goto (-80), 3) := by decide +kernel
theorem dX2_parts_87 : decode cX2_parts 87 = .ok (.iload_n 1, 1) := by decide +kernel
theorem dX2_parts_88 : decode cX2_parts 88 = .ok (.ireturn, 1) := by decide +kernel
set_option maxRecDepth 20000 in
theorem ggX2_counted_X2_standing : GoodIn wsX2_counted wsX2_standing := goodIn_r _ [8, 1, 9, 10, 50, 51, 52, 53, 54, 55, 56, 57, 58, 59, 60, 61, 62] (by decide +kernel) (by decide +kernel)
set_option maxRecDepth 20000 in
theorem gX2_counted_X2_standing : GoodIn wsX2_counted (wsV RX2 133 RX2 yX2_standing wsX2_standing) := goodIn_app (goodIn_of _ (by decide +kernel)) ggX2_counted_X2_standing
set_option maxRecDepth 20000 in
theorem ggX2_counted_X2_lit : GoodIn wsX2_counted wsX2_lit := goodIn_r _ [14, 1, 15, 10, 16, 17, 18, 7, 19, 20, 21, 22, 23, 3, 24, 25, 26, 27, 28, 29, 30, 31, 32, 33, 34, 35, 36, 37, 38, 39, 50, 51, 52, 53, 54, 55, 56, 57, 58, 59, 60, 61, 62] (by decide +kernel) (by decide +kernel)
set_option maxRecDepth 20000 in
theorem gX2_counted_X2_lit : GoodIn wsX2_counted (wsV RX2 112 RX2 yX2_lit wsX2_lit) := goodIn_app (goodIn_of _ (by decide +kernel)) ggX2_counted_X2_lit
set_option maxRecDepth 20000 in
theorem ggX2_counted_X2_parts : GoodIn wsX2_counted wsX2_parts := goodIn_r _ [43, 1, 10, 44, 45, 46, 47, 7, 48, 49, 20, 21, 22, 23, 3, 24, 25, 26, 27, 28, 29, 30, 31, 32, 33, 34, 35, 36, 37, 38, 39, 50, 51, 52, 53, 54, 55, 56, 57, 58, 59, 60, 61, 62] (by decide +kernel) (by decide +kernel)
set_option maxRecDepth 20000 in
theorem gX2_counted_X2_parts : GoodIn wsX2_counted (wsV RX2 139 RX2 yX2_parts wsX2_parts) := goodIn_app (goodIn_of _ (by decide +kernel)) ggX2_counted_X2_parts
theorem dX2_counted_0 : decode cX2_counted 0 = .ok (.iconst 0, 1) := by decide +kernel
theorem dX2_counted_1 : decode cX2_counted 1 = .ok (.istore_n 2, 1) := by decide +kernel
theorem dX2_counted_2 : decode cX2_counted 2 = .ok (.iload_n 1, 1) := by decide +kernel
theorem dX2_counted_3 : decode cX2_counted 3 = .ok (.tableswitch 106 0 5 #[37, 42, 47, 54, 61, 101], 37) := by decide +kernel
theorem dX2_counted_40 : decode cX2_counted 40 = .ok (.aload_n 0, 1) := by decide +kernel
theorem dX2_counted_41 : decode cX2_counted 41 = .ok (.getfield 49, 3) := by decide +kernel
theorem dX2_counted_44 : decode cX2_counted 44 = .ok (.ireturn, 1) := by decide +kernel
theorem dX2_counted_45 : decode cX2_counted 45 = .ok (.aload_n 0, 1) := by decide +kernel
theorem dX2_counted_46 : decode cX2_counted 46 = .ok (.getfield 56, 3) := by decide +kernel
theorem dX2_counted_49 : decode cX2_counted 49 = .ok (.ireturn, 1) := by decide +kernel
theorem dX2_counted_50 : decode cX2_counted 50 = .ok (.aload_n 0, 1) := by decide +kernel
theorem dX2_counted_51 : decode cX2_counted 51 = .ok (.iconst (-1), 1) := by decide +kernel
theorem dX2_counted_52 : decode cX2_counted 52 = .ok (.iconst 1, 1) := by decide +kernel
theorem dX2_counted_53 : decode cX2_counted 53 = .ok (.invokevirtual 133, 3) := by decide +kernel
theorem dX2_counted_56 : decode cX2_counted 56 = .ok (.ireturn, 1) := by decide +kernel
theorem dX2_counted_57 : decode cX2_counted 57 = .ok (.aload_n 0, 1) := by decide +kernel
theorem dX2_counted_58 : decode cX2_counted 58 = .ok (.iconst (-1), 1) := by decide +kernel
theorem dX2_counted_59 : decode cX2_counted 59 = .ok (.iconst 2, 1) := by decide +kernel
theorem dX2_counted_60 : decode cX2_counted 60 = .ok (.invokevirtual 133, 3) := by decide +kernel
theorem dX2_counted_63 : decode cX2_counted 63 = .ok (.ireturn, 1) := by decide +kernel
theorem dX2_counted_64 : decode cX2_counted 64 = .ok (.iconst 0, 1) := by decide +kernel
theorem dX2_counted_65 : decode cX2_counted 65 = .ok (.istore_n 3, 1) := by decide +kernel
theorem dX2_counted_66 : decode cX2_counted 66 = .ok (.iload_n 3, 1) := by decide +kernel
theorem dX2_counted_67 : decode cX2_counted 67 = .ok (.bipush 6, 2) := by decide +kernel
theorem dX2_counted_69 : decode cX2_counted 69 = .ok (.aload_n 0, 1) := by decide +kernel
theorem dX2_counted_70 : decode cX2_counted 70 = .ok (.getfield 49, 3) := by decide +kernel
theorem dX2_counted_73 : decode cX2_counted 73 = .ok (.imul, 1) := by decide +kernel
theorem dX2_counted_74 : decode cX2_counted 74 = .ok (.if_icmp .ge 26, 3) := by decide +kernel
theorem dX2_counted_77 : decode cX2_counted 77 = .ok (.iload_n 2, 1) := by decide +kernel
theorem dX2_counted_78 : decode cX2_counted 78 = .ok (.aload_n 0, 1) := by decide +kernel
theorem dX2_counted_79 : decode cX2_counted 79 = .ok (.getfield 25, 3) := by decide +kernel
theorem dX2_counted_82 : decode cX2_counted 82 = .ok (.iload_n 3, 1) := by decide +kernel
theorem dX2_counted_83 : decode cX2_counted 83 = .ok (.baload, 1) := by decide +kernel
theorem dX2_counted_84 : decode cX2_counted 84 = .ok (.ifCond .eq 7, 3) := by decide +kernel
theorem dX2_counted_87 : decode cX2_counted 87 = .ok (.iconst 1, 1) := by decide +kernel
theorem dX2_counted_88 : decode cX2_counted 88 = .ok (.goto 4, 3) := by decide +kernel
theorem dX2_counted_91 : decode cX2_counted 91 = .ok (.iconst 0, 1) := by decide +kernel
theorem dX2_counted_92 : decode cX2_counted 92 = .ok (.iadd, 1) := by decide +kernel
theorem dX2_counted_93 : decode cX2_counted 93 = .ok (.istore_n 2, 1) := by decide +kernel
theorem dX2_counted_94 : decode cX2_counted 94 = .ok (.iinc 3 1, 3) := by decide +kernel
theorem dX2_counted_97 : decode cX2_counted 97 = .ok (.goto (-31), 3) := by decide +kernel
theorem dX2_counted_100 : decode cX2_counted 100 = .ok (.iload_n 2, 1) := by decide +kernel
theorem dX2_counted_101 : decode cX2_counted 101 = .ok (.iconst 2, 1) := by decide +kernel
theorem dX2_counted_102 : decode cX2_counted 102 = .ok (.idiv, 1) := by decide +kernel
theorem dX2_counted_103 : decode cX2_counted 103 = .ok (.ireturn, 1) := by decide +kernel
theorem dX2_counted_104 : decode cX2_counted 104 = .ok (.aload_n 0, 1) := by decide +kernel
theorem dX2_counted_105 : decode cX2_counted 105 = .ok (.invokevirtual 112, 3) := by decide +kernel
theorem dX2_counted_108 : decode cX2_counted 108 = .ok (.ireturn, 1) := by decide +kernel
theorem dX2_counted_109 : decode cX2_counted 109 = .ok (.aload_n 0, 1) := by decide +kernel
theorem dX2_counted_110 : decode cX2_counted 110 = .ok (.invokevirtual 139, 3) := by decide +kernel
theorem dX2_counted_113 : decode cX2_counted 113 = .ok (.ireturn, 1) := by decide +kernel
set_option maxRecDepth 20000 in
theorem ggX2_count_X2_isIn : GoodIn wsX2_count wsX2_isIn := goodIn_r _ [5] (by decide +kernel) (by decide +kernel)
set_option maxRecDepth 20000 in
theorem gX2_count_X2_isIn : GoodIn wsX2_count (va_wsS RX2 52 yX2_isIn wsX2_isIn) := goodIn_app (goodIn_of _ (by decide +kernel)) ggX2_count_X2_isIn
set_option maxRecDepth 20000 in
theorem ggX2_count_X2_counted : GoodIn wsX2_count wsX2_counted := goodIn_r _ [9, 10, 11, 12, 13, 14, 15, 4, 16, 17, 18, 19, 20, 21, 22, 23, 24, 25, 26, 27, 28, 29, 30, 31, 32, 33, 34, 35, 36, 37, 38, 39, 40, 41, 42, 43, 44, 2, 3, 5, 45, 46, 47, 48, 49, 50, 51, 52, 53, 54, 59, 60, 61, 62, 63, 64, 65, 66, 67, 68, 69, 70, 71] (by decide +kernel) (by decide +kernel)
set_option maxRecDepth 20000 in
theorem gX2_count_X2_counted : GoodIn wsX2_count (wsV RX2 142 RX2 yX2_counted wsX2_counted) := goodIn_app (goodIn_of _ (by decide +kernel)) ggX2_count_X2_counted
set_option maxRecDepth 20000 in
theorem ggX2_count_X2_fail : GoodIn wsX2_count wsX2_fail := goodIn_r _ [58, 1, 59, 60, 61, 62, 63, 64, 65, 66, 67, 68, 69, 70, 71] (by decide +kernel) (by decide +kernel)
set_option maxRecDepth 20000 in
theorem gX2_count_X2_fail : GoodIn wsX2_count (wsV RX2 95 RX2 yX2_fail wsX2_fail) := goodIn_app (goodIn_of _ (by decide +kernel)) ggX2_count_X2_fail
theorem dX2_count_0 : decode cX2_count 0 = .ok (.aload_n 0, 1) := by decide +kernel
theorem dX2_count_1 : decode cX2_count 1 = .ok (.iconst 0, 1) := by decide +kernel
theorem dX2_count_2 : decode cX2_count 2 = .ok (.putfield 45, 3) := by decide +kernel
theorem dX2_count_5 : decode cX2_count 5 = .ok (.iload_n 1, 1) := by decide +kernel
theorem dX2_count_6 : decode cX2_count 6 = .ok (.iconst 0, 1) := by decide +kernel
theorem dX2_count_7 : decode cX2_count 7 = .ok (.bipush 6, 2) := by decide +kernel
theorem dX2_count_9 : decode cX2_count 9 = .ok (.invokestatic 52, 3) := by decide +kernel
theorem dX2_count_12 : decode cX2_count 12 = .ok (.ifCond .eq 11, 3) := by decide +kernel
theorem dX2_count_15 : decode cX2_count 15 = .ok (.aload_n 0, 1) := by decide +kernel
theorem dX2_count_16 : decode cX2_count 16 = .ok (.iload_n 1, 1) := by decide +kernel
theorem dX2_count_17 : decode cX2_count 17 = .ok (.invokevirtual 142, 3) := by decide +kernel
theorem dX2_count_20 : decode cX2_count 20 = .ok (.goto 8, 3) := by decide +kernel
theorem dX2_count_23 : decode cX2_count 23 = .ok (.aload_n 0, 1) := by decide +kernel
theorem dX2_count_24 : decode cX2_count 24 = .ok (.iconst 1, 1) := by decide +kernel
theorem dX2_count_25 : decode cX2_count 25 = .ok (.invokevirtual 95, 3) := by decide +kernel
theorem dX2_count_28 : decode cX2_count 28 = .ok (.ireturn, 1) := by decide +kernel
set_option maxRecDepth 20000 in
theorem ggX2_isAlike_X2_size : GoodIn wsX2_isAlike wsX2_size := goodIn_r _ [6] (by decide +kernel) (by decide +kernel)
set_option maxRecDepth 20000 in
theorem gX2_isAlike_X2_size : GoodIn wsX2_isAlike (va_wsS RX2 82 yX2_size wsX2_size) := goodIn_app (goodIn_of _ (by decide +kernel)) ggX2_isAlike_X2_size
set_option maxRecDepth 20000 in
theorem ggX2_isAlike_X2_first : GoodIn wsX2_isAlike wsX2_first := goodIn_r _ [9] (by decide +kernel) (by decide +kernel)
set_option maxRecDepth 20000 in
theorem gX2_isAlike_X2_first : GoodIn wsX2_isAlike (va_wsS RX2 86 yX2_first wsX2_first) := goodIn_app (goodIn_of _ (by decide +kernel)) ggX2_isAlike_X2_first
theorem dX2_isAlike_0 : decode cX2_isAlike 0 = .ok (.iconst 1, 1) := by decide +kernel
theorem dX2_isAlike_1 : decode cX2_isAlike 1 = .ok (.istore_n 2, 1) := by decide +kernel
theorem dX2_isAlike_2 : decode cX2_isAlike 2 = .ok (.iload_n 2, 1) := by decide +kernel
theorem dX2_isAlike_3 : decode cX2_isAlike 3 = .ok (.aload_n 0, 1) := by decide +kernel
theorem dX2_isAlike_4 : decode cX2_isAlike 4 = .ok (.getfield 56, 3) := by decide +kernel
theorem dX2_isAlike_7 : decode cX2_isAlike 7 = .ok (.if_icmp .gt 64, 3) := by decide +kernel
theorem dX2_isAlike_10 : decode cX2_isAlike 10 = .ok (.iload_n 2, 1) := by decide +kernel
theorem dX2_isAlike_11 : decode cX2_isAlike 11 = .ok (.invokestatic 82, 3) := by decide +kernel
theorem dX2_isAlike_14 : decode cX2_isAlike 14 = .ok (.istore_n 3, 1) := by decide +kernel
theorem dX2_isAlike_15 : decode cX2_isAlike 15 = .ok (.iconst 0, 1) := by decide +kernel
theorem dX2_isAlike_16 : decode cX2_isAlike 16 = .ok (.istore 4, 2) := by decide +kernel
theorem dX2_isAlike_18 : decode cX2_isAlike 18 = .ok (.iload 4, 2) := by decide +kernel
theorem dX2_isAlike_20 : decode cX2_isAlike 20 = .ok (.iload_n 3, 1) := by decide +kernel
theorem dX2_isAlike_21 : decode cX2_isAlike 21 = .ok (.if_icmp .ge 44, 3) := by decide +kernel
theorem dX2_isAlike_24 : decode cX2_isAlike 24 = .ok (.aload_n 0, 1) := by decide +kernel
theorem dX2_isAlike_25 : decode cX2_isAlike 25 = .ok (.getfield 19, 3) := by decide +kernel
theorem dX2_isAlike_28 : decode cX2_isAlike 28 = .ok (.iload_n 2, 1) := by decide +kernel
theorem dX2_isAlike_29 : decode cX2_isAlike 29 = .ok (.invokestatic 86, 3) := by decide +kernel
theorem dX2_isAlike_32 : decode cX2_isAlike 32 = .ok (.iload 4, 2) := by decide +kernel
theorem dX2_isAlike_34 : decode cX2_isAlike 34 = .ok (.iadd, 1) := by decide +kernel
theorem dX2_isAlike_35 : decode cX2_isAlike 35 = .ok (.iaload, 1) := by decide +kernel
theorem dX2_isAlike_36 : decode cX2_isAlike 36 = .ok (.aload_n 0, 1) := by decide +kernel
theorem dX2_isAlike_37 : decode cX2_isAlike 37 = .ok (.getfield 19, 3) := by decide +kernel
theorem dX2_isAlike_40 : decode cX2_isAlike 40 = .ok (.iload_n 2, 1) := by decide +kernel
theorem dX2_isAlike_41 : decode cX2_isAlike 41 = .ok (.invokestatic 86, 3) := by decide +kernel
theorem dX2_isAlike_44 : decode cX2_isAlike 44 = .ok (.iload 4, 2) := by decide +kernel
theorem dX2_isAlike_46 : decode cX2_isAlike 46 = .ok (.iload_n 2, 1) := by decide +kernel
theorem dX2_isAlike_47 : decode cX2_isAlike 47 = .ok (.iload_n 1, 1) := by decide +kernel
theorem dX2_isAlike_48 : decode cX2_isAlike 48 = .ok (.imul, 1) := by decide +kernel
theorem dX2_isAlike_49 : decode cX2_isAlike 49 = .ok (.iadd, 1) := by decide +kernel
theorem dX2_isAlike_50 : decode cX2_isAlike 50 = .ok (.iload_n 3, 1) := by decide +kernel
theorem dX2_isAlike_51 : decode cX2_isAlike 51 = .ok (.irem, 1) := by decide +kernel
theorem dX2_isAlike_52 : decode cX2_isAlike 52 = .ok (.iadd, 1) := by decide +kernel
theorem dX2_isAlike_53 : decode cX2_isAlike 53 = .ok (.iaload, 1) := by decide +kernel
theorem dX2_isAlike_54 : decode cX2_isAlike 54 = .ok (.if_icmp .eq 5, 3) := by decide +kernel
theorem dX2_isAlike_57 : decode cX2_isAlike 57 = .ok (.iconst 0, 1) := by decide +kernel
theorem dX2_isAlike_58 : decode cX2_isAlike 58 = .ok (.ireturn, 1) := by decide +kernel
theorem dX2_isAlike_59 : decode cX2_isAlike 59 = .ok (.iinc 4 1, 3) := by decide +kernel
theorem dX2_isAlike_62 : decode cX2_isAlike 62 = .ok (.goto (-44), 3) := by decide +kernel
theorem dX2_isAlike_65 : decode cX2_isAlike 65 = .ok (.iinc 2 1, 3) := by decide +kernel
theorem dX2_isAlike_68 : decode cX2_isAlike 68 = .ok (.goto (-66), 3) := by decide +kernel
theorem dX2_isAlike_71 : decode cX2_isAlike 71 = .ok (.iconst 1, 1) := by decide +kernel
theorem dX2_isAlike_72 : decode cX2_isAlike 72 = .ok (.ireturn, 1) := by decide +kernel
set_option maxRecDepth 20000 in
theorem ggX2_sixthsToSame_X2_isAlike : GoodIn wsX2_sixthsToSame wsX2_isAlike := goodIn_r _ [6, 7, 8, 9, 10, 5, 11, 12, 13, 14, 15, 16, 17, 18, 19, 20, 21, 22, 23, 24, 25, 26, 27] (by decide +kernel) (by decide +kernel)
set_option maxRecDepth 20000 in
theorem gX2_sixthsToSame_X2_isAlike : GoodIn wsX2_sixthsToSame (wsV RX2 145 RX2 yX2_isAlike wsX2_isAlike) := goodIn_app (goodIn_of _ (by decide +kernel)) ggX2_sixthsToSame_X2_isAlike
theorem dX2_sixthsToSame_0 : decode cX2_sixthsToSame 0 = .ok (.aload_n 0, 1) := by decide +kernel
theorem dX2_sixthsToSame_1 : decode cX2_sixthsToSame 1 = .ok (.iconst 0, 1) := by decide +kernel
theorem dX2_sixthsToSame_2 : decode cX2_sixthsToSame 2 = .ok (.putfield 45, 3) := by decide +kernel
theorem dX2_sixthsToSame_5 : decode cX2_sixthsToSame 5 = .ok (.iconst 1, 1) := by decide +kernel
theorem dX2_sixthsToSame_6 : decode cX2_sixthsToSame 6 = .ok (.istore_n 1, 1) := by decide +kernel
theorem dX2_sixthsToSame_7 : decode cX2_sixthsToSame 7 = .ok (.aload_n 0, 1) := by decide +kernel
theorem dX2_sixthsToSame_8 : decode cX2_sixthsToSame 8 = .ok (.iload_n 1, 1) := by decide +kernel
theorem dX2_sixthsToSame_9 : decode cX2_sixthsToSame 9 = .ok (.invokevirtual 145, 3) := by decide +kernel
theorem dX2_sixthsToSame_12 : decode cX2_sixthsToSame 12 = .ok (.ifCond .ne 9, 3) := by decide +kernel
theorem dX2_sixthsToSame_15 : decode cX2_sixthsToSame 15 = .ok (.iinc 1 1, 3) := by decide +kernel
theorem dX2_sixthsToSame_18 : decode cX2_sixthsToSame 18 = .ok (.goto (-11), 3) := by decide +kernel
theorem dX2_sixthsToSame_21 : decode cX2_sixthsToSame 21 = .ok (.iload_n 1, 1) := by decide +kernel
theorem dX2_sixthsToSame_22 : decode cX2_sixthsToSame 22 = .ok (.ireturn, 1) := by decide +kernel
set_option maxRecDepth 20000 in
theorem ggX2_litBy_X2_move : GoodIn wsX2_litBy wsX2_move := goodIn_r _ [5, 6, 7, 8, 9, 10, 11, 12, 13, 4, 14, 15, 16, 17, 49, 50, 51, 52, 53, 54, 55, 56, 57, 58, 59, 60, 61] (by decide +kernel) (by decide +kernel)
set_option maxRecDepth 20000 in
theorem gX2_litBy_X2_move : GoodIn wsX2_litBy (wsV RX2 108 RX2 yX2_move wsX2_move) := goodIn_app (goodIn_of _ (by decide +kernel)) ggX2_litBy_X2_move
set_option maxRecDepth 20000 in
theorem ggX2_litBy_X2_lit : GoodIn wsX2_litBy wsX2_lit := goodIn_r _ [21, 22, 23, 7, 24, 25, 26, 4, 27, 28, 29, 30, 31, 32, 33, 34, 35, 36, 37, 38, 39, 40, 41, 42, 43, 44, 45, 46, 47, 48, 49, 50, 51, 52, 53, 54, 55, 56, 57, 58, 59, 60, 61] (by decide +kernel) (by decide +kernel)
set_option maxRecDepth 20000 in
theorem gX2_litBy_X2_lit : GoodIn wsX2_litBy (wsV RX2 112 RX2 yX2_lit wsX2_lit) := goodIn_app (goodIn_of _ (by decide +kernel)) ggX2_litBy_X2_lit
set_option maxRecDepth 20000 in
theorem ggX2_litBy_X2_size : GoodIn wsX2_litBy wsX2_size := goodIn_r _ [14] (by decide +kernel) (by decide +kernel)
set_option maxRecDepth 20000 in
theorem gX2_litBy_X2_size : GoodIn wsX2_litBy (va_wsS RX2 82 yX2_size wsX2_size) := goodIn_app (goodIn_of _ (by decide +kernel)) ggX2_litBy_X2_size
theorem dX2_litBy_0 : decode cX2_litBy 0 = .ok (.aload_n 0, 1) := by decide +kernel
theorem dX2_litBy_1 : decode cX2_litBy 1 = .ok (.iload_n 1, 1) := by decide +kernel
theorem dX2_litBy_2 : decode cX2_litBy 2 = .ok (.iload_n 2, 1) := by decide +kernel
theorem dX2_litBy_3 : decode cX2_litBy 3 = .ok (.invokevirtual 108, 3) := by decide +kernel
theorem dX2_litBy_6 : decode cX2_litBy 6 = .ok (.aload_n 0, 1) := by decide +kernel
theorem dX2_litBy_7 : decode cX2_litBy 7 = .ok (.invokevirtual 112, 3) := by decide +kernel
theorem dX2_litBy_10 : decode cX2_litBy 10 = .ok (.istore_n 3, 1) := by decide +kernel
theorem dX2_litBy_11 : decode cX2_litBy 11 = .ok (.aload_n 0, 1) := by decide +kernel
theorem dX2_litBy_12 : decode cX2_litBy 12 = .ok (.iload_n 1, 1) := by decide +kernel
theorem dX2_litBy_13 : decode cX2_litBy 13 = .ok (.iload_n 1, 1) := by decide +kernel
theorem dX2_litBy_14 : decode cX2_litBy 14 = .ok (.invokestatic 82, 3) := by decide +kernel
theorem dX2_litBy_17 : decode cX2_litBy 17 = .ok (.iload_n 2, 1) := by decide +kernel
theorem dX2_litBy_18 : decode cX2_litBy 18 = .ok (.isub, 1) := by decide +kernel
theorem dX2_litBy_19 : decode cX2_litBy 19 = .ok (.invokevirtual 108, 3) := by decide +kernel
theorem dX2_litBy_22 : decode cX2_litBy 22 = .ok (.iload_n 3, 1) := by decide +kernel
theorem dX2_litBy_23 : decode cX2_litBy 23 = .ok (.ireturn, 1) := by decide +kernel
set_option maxRecDepth 20000 in
theorem ggX2_would_X2_isRing : GoodIn wsX2_would wsX2_isRing := goodIn_r _ [6, 7, 8, 9, 5, 10, 63, 64, 65, 66, 67, 68, 69, 70, 71, 72, 73, 74, 75] (by decide +kernel) (by decide +kernel)
set_option maxRecDepth 20000 in
theorem gX2_would_X2_isRing : GoodIn wsX2_would (wsV RX2 105 RX2 yX2_isRing wsX2_isRing) := goodIn_app (goodIn_of _ (by decide +kernel)) ggX2_would_X2_isRing
set_option maxRecDepth 20000 in
theorem ggX2_would_X2_fail : GoodIn wsX2_would wsX2_fail := goodIn_r _ [14, 1, 63, 64, 65, 66, 67, 68, 69, 70, 71, 72, 73, 74, 75] (by decide +kernel) (by decide +kernel)
set_option maxRecDepth 20000 in
theorem gX2_would_X2_fail : GoodIn wsX2_would (wsV RX2 95 RX2 yX2_fail wsX2_fail) := goodIn_app (goodIn_of _ (by decide +kernel)) ggX2_would_X2_fail
set_option maxRecDepth 20000 in
theorem ggX2_would_X2_size : GoodIn wsX2_would wsX2_size := goodIn_r _ [17] (by decide +kernel) (by decide +kernel)
set_option maxRecDepth 20000 in
theorem gX2_would_X2_size : GoodIn wsX2_would (va_wsS RX2 82 yX2_size wsX2_size) := goodIn_app (goodIn_of _ (by decide +kernel)) ggX2_would_X2_size
set_option maxRecDepth 20000 in
theorem ggX2_would_X2_isIn : GoodIn wsX2_would wsX2_isIn := goodIn_r _ [10] (by decide +kernel) (by decide +kernel)
set_option maxRecDepth 20000 in
theorem gX2_would_X2_isIn : GoodIn wsX2_would (va_wsS RX2 52 yX2_isIn wsX2_isIn) := goodIn_app (goodIn_of _ (by decide +kernel)) ggX2_would_X2_isIn
set_option maxRecDepth 20000 in
theorem ggX2_would_X2_litBy : GoodIn wsX2_would wsX2_litBy := goodIn_r _ [21, 22, 23, 24, 5, 25, 26, 27, 28, 29, 30, 31, 15, 16, 17, 32, 33, 34, 35, 36, 37, 38, 39, 40, 41, 42, 43, 44, 45, 46, 47, 48, 49, 50, 51, 52, 53, 54, 55, 56, 57, 58, 59, 60, 61, 62, 8, 9, 10, 63, 64, 65, 66, 67, 68, 69, 70, 71, 72, 73, 74, 75] (by decide +kernel) (by decide +kernel)
set_option maxRecDepth 20000 in
theorem gX2_would_X2_litBy : GoodIn wsX2_would (wsV RX2 148 RX2 yX2_litBy wsX2_litBy) := goodIn_app (goodIn_of _ (by decide +kernel)) ggX2_would_X2_litBy
theorem dX2_would_0 : decode cX2_would 0 = .ok (.aload_n 0, 1) := by decide +kernel
theorem dX2_would_1 : decode cX2_would 1 = .ok (.iconst 0, 1) := by decide +kernel
theorem dX2_would_2 : decode cX2_would 2 = .ok (.putfield 45, 3) := by decide +kernel
theorem dX2_would_5 : decode cX2_would 5 = .ok (.aload_n 0, 1) := by decide +kernel
theorem dX2_would_6 : decode cX2_would 6 = .ok (.iload_n 1, 1) := by decide +kernel
theorem dX2_would_7 : decode cX2_would 7 = .ok (.invokevirtual 105, 3) := by decide +kernel
theorem dX2_would_10 : decode cX2_would 10 = .ok (.ifCond .ne 9, 3) := by decide +kernel
theorem dX2_would_13 : decode cX2_would 13 = .ok (.aload_n 0, 1) := by decide +kernel
theorem dX2_would_14 : decode cX2_would 14 = .ok (.iconst 1, 1) := by decide +kernel
theorem dX2_would_15 : decode cX2_would 15 = .ok (.invokevirtual 95, 3) := by decide +kernel
theorem dX2_would_18 : decode cX2_would 18 = .ok (.ireturn, 1) := by decide +kernel
theorem dX2_would_19 : decode cX2_would 19 = .ok (.iload_n 2, 1) := by decide +kernel
theorem dX2_would_20 : decode cX2_would 20 = .ok (.iconst 0, 1) := by decide +kernel
theorem dX2_would_21 : decode cX2_would 21 = .ok (.iload_n 1, 1) := by decide +kernel
theorem dX2_would_22 : decode cX2_would 22 = .ok (.invokestatic 82, 3) := by decide +kernel
theorem dX2_would_25 : decode cX2_would 25 = .ok (.iconst 1, 1) := by decide +kernel
theorem dX2_would_26 : decode cX2_would 26 = .ok (.isub, 1) := by decide +kernel
theorem dX2_would_27 : decode cX2_would 27 = .ok (.invokestatic 52, 3) := by decide +kernel
theorem dX2_would_30 : decode cX2_would 30 = .ok (.ifCond .eq 12, 3) := by decide +kernel
theorem dX2_would_33 : decode cX2_would 33 = .ok (.aload_n 0, 1) := by decide +kernel
theorem dX2_would_34 : decode cX2_would 34 = .ok (.iload_n 1, 1) := by decide +kernel
theorem dX2_would_35 : decode cX2_would 35 = .ok (.iload_n 2, 1) := by decide +kernel
theorem dX2_would_36 : decode cX2_would 36 = .ok (.invokevirtual 148, 3) := by decide +kernel
theorem dX2_would_39 : decode cX2_would 39 = .ok (.goto 8, 3) := by decide +kernel
theorem dX2_would_42 : decode cX2_would 42 = .ok (.aload_n 0, 1) := by decide +kernel
theorem dX2_would_43 : decode cX2_would 43 = .ok (.iconst 2, 1) := by decide +kernel
theorem dX2_would_44 : decode cX2_would 44 = .ok (.invokevirtual 95, 3) := by decide +kernel
theorem dX2_would_47 : decode cX2_would 47 = .ok (.ireturn, 1) := by decide +kernel
set_option maxRecDepth 20000 in
theorem ggX2_advise_X2_isRing : GoodIn wsX2_advise wsX2_isRing := goodIn_r _ [6, 7, 8, 9, 5, 10, 63, 64, 65, 66, 67, 68, 69, 70, 71, 72, 73, 74, 75] (by decide +kernel) (by decide +kernel)
set_option maxRecDepth 20000 in
theorem gX2_advise_X2_isRing : GoodIn wsX2_advise (wsV RX2 105 RX2 yX2_isRing wsX2_isRing) := goodIn_app (goodIn_of _ (by decide +kernel)) ggX2_advise_X2_isRing
set_option maxRecDepth 20000 in
theorem ggX2_advise_X2_fail : GoodIn wsX2_advise wsX2_fail := goodIn_r _ [14, 1, 63, 64, 65, 66, 67, 68, 69, 70, 71, 72, 73, 74, 75] (by decide +kernel) (by decide +kernel)
set_option maxRecDepth 20000 in
theorem gX2_advise_X2_fail : GoodIn wsX2_advise (wsV RX2 95 RX2 yX2_fail wsX2_fail) := goodIn_app (goodIn_of _ (by decide +kernel)) ggX2_advise_X2_fail
set_option maxRecDepth 20000 in
theorem ggX2_advise_X2_size : GoodIn wsX2_advise wsX2_size := goodIn_r _ [17] (by decide +kernel) (by decide +kernel)
set_option maxRecDepth 20000 in
theorem gX2_advise_X2_size : GoodIn wsX2_advise (va_wsS RX2 82 yX2_size wsX2_size) := goodIn_app (goodIn_of _ (by decide +kernel)) ggX2_advise_X2_size
set_option maxRecDepth 20000 in
theorem ggX2_advise_X2_litBy : GoodIn wsX2_advise wsX2_litBy := goodIn_r _ [21, 22, 23, 24, 5, 25, 26, 27, 28, 29, 30, 31, 15, 16, 17, 32, 33, 34, 35, 36, 37, 38, 39, 40, 41, 42, 43, 44, 45, 46, 47, 48, 49, 50, 51, 52, 53, 54, 55, 56, 57, 58, 59, 60, 61, 62, 8, 9, 10, 63, 64, 65, 66, 67, 68, 69, 70, 71, 72, 73, 74, 75] (by decide +kernel) (by decide +kernel)
set_option maxRecDepth 20000 in
theorem gX2_advise_X2_litBy : GoodIn wsX2_advise (wsV RX2 148 RX2 yX2_litBy wsX2_litBy) := goodIn_app (goodIn_of _ (by decide +kernel)) ggX2_advise_X2_litBy
theorem dX2_advise_0 : decode cX2_advise 0 = .ok (.aload_n 0, 1) := by decide +kernel
theorem dX2_advise_1 : decode cX2_advise 1 = .ok (.iconst 0, 1) := by decide +kernel
theorem dX2_advise_2 : decode cX2_advise 2 = .ok (.putfield 45, 3) := by decide +kernel
theorem dX2_advise_5 : decode cX2_advise 5 = .ok (.aload_n 0, 1) := by decide +kernel
theorem dX2_advise_6 : decode cX2_advise 6 = .ok (.iload_n 1, 1) := by decide +kernel
theorem dX2_advise_7 : decode cX2_advise 7 = .ok (.invokevirtual 105, 3) := by decide +kernel
theorem dX2_advise_10 : decode cX2_advise 10 = .ok (.ifCond .ne 9, 3) := by decide +kernel
theorem dX2_advise_13 : decode cX2_advise 13 = .ok (.aload_n 0, 1) := by decide +kernel
theorem dX2_advise_14 : decode cX2_advise 14 = .ok (.iconst 1, 1) := by decide +kernel
theorem dX2_advise_15 : decode cX2_advise 15 = .ok (.invokevirtual 95, 3) := by decide +kernel
theorem dX2_advise_18 : decode cX2_advise 18 = .ok (.ireturn, 1) := by decide +kernel
theorem dX2_advise_19 : decode cX2_advise 19 = .ok (.iconst (-1), 1) := by decide +kernel
theorem dX2_advise_20 : decode cX2_advise 20 = .ok (.istore_n 2, 1) := by decide +kernel
theorem dX2_advise_21 : decode cX2_advise 21 = .ok (.iconst (-1), 1) := by decide +kernel
theorem dX2_advise_22 : decode cX2_advise 22 = .ok (.istore_n 3, 1) := by decide +kernel
theorem dX2_advise_23 : decode cX2_advise 23 = .ok (.iconst 0, 1) := by decide +kernel
theorem dX2_advise_24 : decode cX2_advise 24 = .ok (.istore 4, 2) := by decide +kernel
theorem dX2_advise_26 : decode cX2_advise 26 = .ok (.iload 4, 2) := by decide +kernel
theorem dX2_advise_28 : decode cX2_advise 28 = .ok (.iload_n 1, 1) := by decide +kernel
theorem dX2_advise_29 : decode cX2_advise 29 = .ok (.invokestatic 82, 3) := by decide +kernel
theorem dX2_advise_32 : decode cX2_advise 32 = .ok (.if_icmp .ge 33, 3) := by decide +kernel
theorem dX2_advise_35 : decode cX2_advise 35 = .ok (.aload_n 0, 1) := by decide +kernel
theorem dX2_advise_36 : decode cX2_advise 36 = .ok (.iload_n 1, 1) := by decide +kernel
theorem dX2_advise_37 : decode cX2_advise 37 = .ok (.iload 4, 2) := by decide +kernel
theorem dX2_advise_39 : decode cX2_advise 39 = .ok (.invokevirtual 148, 3) := by decide +kernel
theorem dX2_advise_42 : decode cX2_advise 42 = .ok (.istore 5, 2) := by decide +kernel
theorem dX2_advise_44 : decode cX2_advise 44 = .ok (.iload 5, 2) := by decide +kernel
theorem dX2_advise_46 : decode cX2_advise 46 = .ok (.iload_n 3, 1) := by decide +kernel
theorem dX2_advise_47 : decode cX2_advise 47 = .ok (.if_icmp .gt 6, 3) := by decide +kernel
theorem dX2_advise_50 : decode cX2_advise 50 = .ok (.goto 9, 3) := by decide +kernel
theorem dX2_advise_53 : decode cX2_advise 53 = .ok (.iload 4, 2) := by decide +kernel
theorem dX2_advise_55 : decode cX2_advise 55 = .ok (.istore_n 2, 1) := by decide +kernel
theorem dX2_advise_56 : decode cX2_advise 56 = .ok (.iload 5, 2) := by decide +kernel
theorem dX2_advise_58 : decode cX2_advise 58 = .ok (.istore_n 3, 1) := by decide +kernel
theorem dX2_advise_59 : decode cX2_advise 59 = .ok (.iinc 4 1, 3) := by decide +kernel
theorem dX2_advise_62 : decode cX2_advise 62 = .ok (.goto (-36), 3) := by decide +kernel
theorem dX2_advise_65 : decode cX2_advise 65 = .ok (.iload_n 2, 1) := by decide +kernel
theorem dX2_advise_66 : decode cX2_advise 66 = .ok (.ireturn, 1) := by decide +kernel
set_option maxRecDepth 20000 in
theorem ggX2_best_X2_lit : GoodIn wsX2_best wsX2_lit := goodIn_r _ [8, 2, 9, 3, 10, 11, 12, 7, 13, 14, 15, 16, 17, 18, 19, 20, 21, 22, 23, 24, 25, 26, 27, 28, 29, 30, 31, 32, 33, 34, 35, 36, 37, 38, 39, 40, 41, 42, 43, 44, 45, 46, 47] (by decide +kernel) (by decide +kernel)
set_option maxRecDepth 20000 in
theorem gX2_best_X2_lit : GoodIn wsX2_best (wsV RX2 112 RX2 yX2_lit wsX2_lit) := goodIn_app (goodIn_of _ (by decide +kernel)) ggX2_best_X2_lit
theorem dX2_best_0 : decode cX2_best 0 = .ok (.aload_n 0, 1) := by decide +kernel
theorem dX2_best_1 : decode cX2_best 1 = .ok (.iconst 0, 1) := by decide +kernel
theorem dX2_best_2 : decode cX2_best 2 = .ok (.putfield 45, 3) := by decide +kernel
theorem dX2_best_5 : decode cX2_best 5 = .ok (.iconst (-1), 1) := by decide +kernel
theorem dX2_best_6 : decode cX2_best 6 = .ok (.istore_n 1, 1) := by decide +kernel
theorem dX2_best_7 : decode cX2_best 7 = .ok (.iconst (-1), 1) := by decide +kernel
theorem dX2_best_8 : decode cX2_best 8 = .ok (.istore_n 2, 1) := by decide +kernel
theorem dX2_best_9 : decode cX2_best 9 = .ok (.iconst 0, 1) := by decide +kernel
theorem dX2_best_10 : decode cX2_best 10 = .ok (.istore_n 3, 1) := by decide +kernel
theorem dX2_best_11 : decode cX2_best 11 = .ok (.iload_n 3, 1) := by decide +kernel
theorem dX2_best_12 : decode cX2_best 12 = .ok (.aload_n 0, 1) := by decide +kernel
theorem dX2_best_13 : decode cX2_best 13 = .ok (.getfield 49, 3) := by decide +kernel
theorem dX2_best_16 : decode cX2_best 16 = .ok (.if_icmp .ge 55, 3) := by decide +kernel
theorem dX2_best_19 : decode cX2_best 19 = .ok (.aload_n 0, 1) := by decide +kernel
theorem dX2_best_20 : decode cX2_best 20 = .ok (.getfield 19, 3) := by decide +kernel
theorem dX2_best_23 : decode cX2_best 23 = .ok (.iload_n 3, 1) := by decide +kernel
theorem dX2_best_24 : decode cX2_best 24 = .ok (.iaload, 1) := by decide +kernel
theorem dX2_best_25 : decode cX2_best 25 = .ok (.ifCond .eq 6, 3) := by decide +kernel
theorem dX2_best_28 : decode cX2_best 28 = .ok (.goto 37, 3) := by decide +kernel
theorem dX2_best_31 : decode cX2_best 31 = .ok (.aload_n 0, 1) := by decide +kernel
theorem dX2_best_32 : decode cX2_best 32 = .ok (.getfield 19, 3) := by decide +kernel
theorem dX2_best_35 : decode cX2_best 35 = .ok (.iload_n 3, 1) := by decide +kernel
theorem dX2_best_36 : decode cX2_best 36 = .ok (.iconst 2, 1) := by decide +kernel
theorem dX2_best_37 : decode cX2_best 37 = .ok (.iastore, 1) := by decide +kernel
theorem dX2_best_38 : decode cX2_best 38 = .ok (.aload_n 0, 1) := by decide +kernel
theorem dX2_best_39 : decode cX2_best 39 = .ok (.invokevirtual 112, 3) := by decide +kernel
theorem dX2_best_42 : decode cX2_best 42 = .ok (.istore 4, 2) := by decide +kernel
theorem dX2_best_44 : decode cX2_best 44 = .ok (.aload_n 0, 1) := by decide +kernel
theorem dX2_best_45 : decode cX2_best 45 = .ok (.getfield 19, 3) := by decide +kernel
theorem dX2_best_48 : decode cX2_best 48 = .ok (.iload_n 3, 1) := by decide +kernel
theorem dX2_best_49 : decode cX2_best 49 = .ok (.iconst 0, 1) := by decide +kernel
theorem dX2_best_50 : decode cX2_best 50 = .ok (.iastore, 1) := by decide +kernel
theorem dX2_best_51 : decode cX2_best 51 = .ok (.iload 4, 2) := by decide +kernel
theorem dX2_best_53 : decode cX2_best 53 = .ok (.iload_n 2, 1) := by decide +kernel
theorem dX2_best_54 : decode cX2_best 54 = .ok (.if_icmp .gt 6, 3) := by decide +kernel
theorem dX2_best_57 : decode cX2_best 57 = .ok (.goto 8, 3) := by decide +kernel
theorem dX2_best_60 : decode cX2_best 60 = .ok (.iload_n 3, 1) := by decide +kernel
theorem dX2_best_61 : decode cX2_best 61 = .ok (.istore_n 1, 1) := by decide +kernel
theorem dX2_best_62 : decode cX2_best 62 = .ok (.iload 4, 2) := by decide +kernel
theorem dX2_best_64 : decode cX2_best 64 = .ok (.istore_n 2, 1) := by decide +kernel
theorem dX2_best_65 : decode cX2_best 65 = .ok (.iinc 3 1, 3) := by decide +kernel
theorem dX2_best_68 : decode cX2_best 68 = .ok (.goto (-57), 3) := by decide +kernel
theorem dX2_best_71 : decode cX2_best 71 = .ok (.iload_n 1, 1) := by decide +kernel
theorem dX2_best_72 : decode cX2_best 72 = .ok (.ireturn, 1) := by decide +kernel
set_option maxRecDepth 20000 in
theorem ggX2_mean_X2_lit : GoodIn wsX2_mean wsX2_lit := goodIn_r _ [8, 2, 3, 9, 10, 11, 12, 7, 13, 14, 15, 16, 17, 18, 19, 20, 21, 22, 23, 24, 25, 26, 27, 28, 29, 30, 31, 32, 33, 34, 35, 36, 37, 38, 39, 40, 41, 42, 43, 44, 45, 46, 47] (by decide +kernel) (by decide +kernel)
set_option maxRecDepth 20000 in
theorem gX2_mean_X2_lit : GoodIn wsX2_mean (wsV RX2 112 RX2 yX2_lit wsX2_lit) := goodIn_app (goodIn_of _ (by decide +kernel)) ggX2_mean_X2_lit
theorem dX2_mean_0 : decode cX2_mean 0 = .ok (.aload_n 0, 1) := by decide +kernel
theorem dX2_mean_1 : decode cX2_mean 1 = .ok (.iconst 0, 1) := by decide +kernel
theorem dX2_mean_2 : decode cX2_mean 2 = .ok (.putfield 45, 3) := by decide +kernel
theorem dX2_mean_5 : decode cX2_mean 5 = .ok (.aload_n 0, 1) := by decide +kernel
theorem dX2_mean_6 : decode cX2_mean 6 = .ok (.invokevirtual 112, 3) := by decide +kernel
theorem dX2_mean_9 : decode cX2_mean 9 = .ok (.istore_n 1, 1) := by decide +kernel
theorem dX2_mean_10 : decode cX2_mean 10 = .ok (.iconst 0, 1) := by decide +kernel
theorem dX2_mean_11 : decode cX2_mean 11 = .ok (.istore_n 2, 1) := by decide +kernel
theorem dX2_mean_12 : decode cX2_mean 12 = .ok (.iconst 0, 1) := by decide +kernel
theorem dX2_mean_13 : decode cX2_mean 13 = .ok (.istore_n 3, 1) := by decide +kernel
theorem dX2_mean_14 : decode cX2_mean 14 = .ok (.iload_n 3, 1) := by decide +kernel
theorem dX2_mean_15 : decode cX2_mean 15 = .ok (.aload_n 0, 1) := by decide +kernel
theorem dX2_mean_16 : decode cX2_mean 16 = .ok (.getfield 49, 3) := by decide +kernel
theorem dX2_mean_19 : decode cX2_mean 19 = .ok (.if_icmp .ge 18, 3) := by decide +kernel
theorem dX2_mean_22 : decode cX2_mean 22 = .ok (.iload_n 2, 1) := by decide +kernel
theorem dX2_mean_23 : decode cX2_mean 23 = .ok (.aload_n 0, 1) := by decide +kernel
theorem dX2_mean_24 : decode cX2_mean 24 = .ok (.getfield 29, 3) := by decide +kernel
theorem dX2_mean_27 : decode cX2_mean 27 = .ok (.iload_n 3, 1) := by decide +kernel
theorem dX2_mean_28 : decode cX2_mean 28 = .ok (.iaload, 1) := by decide +kernel
theorem dX2_mean_29 : decode cX2_mean 29 = .ok (.iadd, 1) := by decide +kernel
theorem dX2_mean_30 : decode cX2_mean 30 = .ok (.istore_n 2, 1) := by decide +kernel
theorem dX2_mean_31 : decode cX2_mean 31 = .ok (.iinc 3 1, 3) := by decide +kernel
theorem dX2_mean_34 : decode cX2_mean 34 = .ok (.goto (-20), 3) := by decide +kernel
theorem dX2_mean_37 : decode cX2_mean 37 = .ok (.iload_n 1, 1) := by decide +kernel
theorem dX2_mean_38 : decode cX2_mean 38 = .ok (.ifCond .ne 7, 3) := by decide +kernel
theorem dX2_mean_41 : decode cX2_mean 41 = .ok (.dconst 0, 1) := by decide +kernel
theorem dX2_mean_42 : decode cX2_mean 42 = .ok (.goto 8, 3) := by decide +kernel
theorem dX2_mean_45 : decode cX2_mean 45 = .ok (.iload_n 2, 1) := by decide +kernel
theorem dX2_mean_46 : decode cX2_mean 46 = .ok (.i2d, 1) := by decide +kernel
theorem dX2_mean_47 : decode cX2_mean 47 = .ok (.iload_n 1, 1) := by decide +kernel
theorem dX2_mean_48 : decode cX2_mean 48 = .ok (.i2d, 1) := by decide +kernel
theorem dX2_mean_49 : decode cX2_mean 49 = .ok (.ddiv, 1) := by decide +kernel
theorem dX2_mean_50 : decode cX2_mean 50 = .ok (.dreturn, 1) := by decide +kernel
set_option maxRecDepth 20000 in
theorem ggX2_digest_X2_counted : GoodIn wsX2_digest wsX2_counted := goodIn_r _ [11, 4, 6, 5, 12, 13, 14, 10, 15, 16, 17, 18, 19, 20, 21, 22, 23, 24, 25, 26, 27, 28, 29, 30, 31, 32, 33, 34, 35, 36, 37, 38, 39, 40, 41, 42, 43, 44, 45, 46, 47, 48, 49, 50, 51, 52, 53, 54, 55, 56, 75, 76, 77, 78, 79, 80, 81, 82, 83, 84, 85, 86, 87] (by decide +kernel) (by decide +kernel)
set_option maxRecDepth 20000 in
theorem gX2_digest_X2_counted : GoodIn wsX2_digest (wsV RX2 142 RX2 yX2_counted wsX2_counted) := goodIn_app (goodIn_of _ (by decide +kernel)) ggX2_digest_X2_counted
set_option maxRecDepth 20000 in
theorem ggX2_digest_X2_lit : GoodIn wsX2_digest wsX2_lit := goodIn_r _ [21, 4, 22, 17, 23, 24, 25, 10, 26, 27, 28, 29, 30, 5, 31, 32, 33, 34, 35, 36, 37, 38, 39, 40, 41, 42, 43, 44, 45, 46, 75, 76, 77, 78, 79, 80, 81, 82, 83, 84, 85, 86, 87] (by decide +kernel) (by decide +kernel)
set_option maxRecDepth 20000 in
theorem gX2_digest_X2_lit : GoodIn wsX2_digest (wsV RX2 112 RX2 yX2_lit wsX2_lit) := goodIn_app (goodIn_of _ (by decide +kernel)) ggX2_digest_X2_lit
set_option maxRecDepth 20000 in
theorem ggX2_digest_X2_roomTold : GoodIn wsX2_digest wsX2_roomTold := goodIn_r _ [60, 35, 37, 16, 17, 22, 61, 62, 63, 10, 64, 27, 28, 29, 30, 5, 31, 32, 33, 34, 36, 38, 39, 40, 41, 42, 43, 44, 45, 46, 75, 76, 77, 78, 79, 80, 81, 82, 83, 84, 85, 86, 87] (by decide +kernel) (by decide +kernel)
set_option maxRecDepth 20000 in
theorem gX2_digest_X2_roomTold : GoodIn wsX2_digest (wsV RX2 122 RX2 yX2_roomTold wsX2_roomTold) := goodIn_app (goodIn_of _ (by decide +kernel)) ggX2_digest_X2_roomTold
set_option maxRecDepth 20000 in
theorem ggX2_digest_X2_ringTold : GoodIn wsX2_digest wsX2_ringTold := goodIn_r _ [68, 22, 69, 70, 10, 71, 12, 13, 14, 15, 4, 16, 17, 18, 19, 20, 21, 23, 24, 25, 26, 27, 28, 29, 30, 5, 31, 32, 33, 34, 35, 36, 37, 38, 39, 40, 41, 42, 43, 44, 45, 46, 72, 73, 74, 75, 76, 77, 78, 79, 80, 81, 82, 83, 84, 85, 86, 87] (by decide +kernel) (by decide +kernel)
set_option maxRecDepth 20000 in
theorem gX2_digest_X2_ringTold : GoodIn wsX2_digest (wsV RX2 136 RX2 yX2_ringTold wsX2_ringTold) := goodIn_app (goodIn_of _ (by decide +kernel)) ggX2_digest_X2_ringTold
theorem dX2_digest_0 : decode cX2_digest 0 = .ok (.aload_n 0, 1) := by decide +kernel
theorem dX2_digest_1 : decode cX2_digest 1 = .ok (.iconst 0, 1) := by decide +kernel
theorem dX2_digest_2 : decode cX2_digest 2 = .ok (.putfield 45, 3) := by decide +kernel
theorem dX2_digest_5 : decode cX2_digest 5 = .ok (.ldc2_w 151, 3) := by decide +kernel
theorem dX2_digest_8 : decode cX2_digest 8 = .ok (.lstore_n 1, 1) := by decide +kernel
theorem dX2_digest_9 : decode cX2_digest 9 = .ok (.iconst 0, 1) := by decide +kernel
theorem dX2_digest_10 : decode cX2_digest 10 = .ok (.istore_n 3, 1) := by decide +kernel
theorem dX2_digest_11 : decode cX2_digest 11 = .ok (.iload_n 3, 1) := by decide +kernel
theorem dX2_digest_12 : decode cX2_digest 12 = .ok (.bipush 7, 2) := by decide +kernel
theorem dX2_digest_14 : decode cX2_digest 14 = .ok (.if_icmp .ge 22, 3) := by decide +kernel
theorem dX2_digest_17 : decode cX2_digest 17 = .ok (.lload_n 1, 1) := by decide +kernel
theorem dX2_digest_18 : decode cX2_digest 18 = .ok (.ldc2_w 153, 3) := by decide +kernel
theorem dX2_digest_21 : decode cX2_digest 21 = .ok (.lmul, 1) := by decide +kernel
theorem dX2_digest_22 : decode cX2_digest 22 = .ok (.aload_n 0, 1) := by decide +kernel
theorem dX2_digest_23 : decode cX2_digest 23 = .ok (.iload_n 3, 1) := by decide +kernel
theorem dX2_digest_24 : decode cX2_digest 24 = .ok (.invokevirtual 142, 3) := by decide +kernel
theorem dX2_digest_27 : decode cX2_digest 27 = .ok (.i2l, 1) := by decide +kernel
theorem dX2_digest_28 : decode cX2_digest 28 = .ok (.ladd, 1) := by decide +kernel
theorem dX2_digest_29 : decode cX2_digest 29 = .ok (.lstore_n 1, 1) := by decide +kernel
theorem dX2_digest_30 : decode cX2_digest 30 = .ok (.iinc 3 1, 3) := by decide +kernel
theorem dX2_digest_33 : decode cX2_digest 33 = .ok (.goto (-22), 3) := by decide +kernel
theorem dX2_digest_36 : decode cX2_digest 36 = .ok (.aload_n 0, 1) := by decide +kernel
theorem dX2_digest_37 : decode cX2_digest 37 = .ok (.invokevirtual 112, 3) := by decide +kernel
theorem dX2_digest_40 : decode cX2_digest 40 = .ok (.pop, 1) := by decide +kernel
theorem dX2_digest_41 : decode cX2_digest 41 = .ok (.iconst 0, 1) := by decide +kernel
theorem dX2_digest_42 : decode cX2_digest 42 = .ok (.istore_n 3, 1) := by decide +kernel
theorem dX2_digest_43 : decode cX2_digest 43 = .ok (.iload_n 3, 1) := by decide +kernel
theorem dX2_digest_44 : decode cX2_digest 44 = .ok (.aload_n 0, 1) := by decide +kernel
theorem dX2_digest_45 : decode cX2_digest 45 = .ok (.getfield 49, 3) := by decide +kernel
theorem dX2_digest_48 : decode cX2_digest 48 = .ok (.if_icmp .ge 84, 3) := by decide +kernel
theorem dX2_digest_51 : decode cX2_digest 51 = .ok (.iconst 0, 1) := by decide +kernel
theorem dX2_digest_52 : decode cX2_digest 52 = .ok (.istore 4, 2) := by decide +kernel
theorem dX2_digest_54 : decode cX2_digest 54 = .ok (.iload 4, 2) := by decide +kernel
theorem dX2_digest_56 : decode cX2_digest 56 = .ok (.bipush 6, 2) := by decide +kernel
theorem dX2_digest_58 : decode cX2_digest 58 = .ok (.if_icmp .ge 24, 3) := by decide +kernel
theorem dX2_digest_61 : decode cX2_digest 61 = .ok (.lload_n 1, 1) := by decide +kernel
theorem dX2_digest_62 : decode cX2_digest 62 = .ok (.ldc2_w 153, 3) := by decide +kernel
theorem dX2_digest_65 : decode cX2_digest 65 = .ok (.lmul, 1) := by decide +kernel
theorem dX2_digest_66 : decode cX2_digest 66 = .ok (.aload_n 0, 1) := by decide +kernel
theorem dX2_digest_67 : decode cX2_digest 67 = .ok (.iload_n 3, 1) := by decide +kernel
theorem dX2_digest_68 : decode cX2_digest 68 = .ok (.iload 4, 2) := by decide +kernel
theorem dX2_digest_70 : decode cX2_digest 70 = .ok (.invokevirtual 122, 3) := by decide +kernel
theorem dX2_digest_73 : decode cX2_digest 73 = .ok (.i2l, 1) := by decide +kernel
theorem dX2_digest_74 : decode cX2_digest 74 = .ok (.ladd, 1) := by decide +kernel
theorem dX2_digest_75 : decode cX2_digest 75 = .ok (.lstore_n 1, 1) := by decide +kernel
theorem dX2_digest_76 : decode cX2_digest 76 = .ok (.iinc 4 1, 3) := by decide +kernel
theorem dX2_digest_79 : decode cX2_digest 79 = .ok (.goto (-25), 3) := by decide +kernel
theorem dX2_digest_82 : decode cX2_digest 82 = .ok (.iconst 0, 1) := by decide +kernel
theorem dX2_digest_83 : decode cX2_digest 83 = .ok (.istore 4, 2) := by decide +kernel
theorem dX2_digest_85 : decode cX2_digest 85 = .ok (.iload 4, 2) := by decide +kernel
theorem dX2_digest_87 : decode cX2_digest 87 = .ok (.bipush 6, 2) := by decide +kernel
theorem dX2_digest_89 : decode cX2_digest 89 = .ok (.if_icmp .ge 37, 3) := by decide +kernel
theorem dX2_digest_92 : decode cX2_digest 92 = .ok (.lload_n 1, 1) := by decide +kernel
theorem dX2_digest_93 : decode cX2_digest 93 = .ok (.ldc2_w 153, 3) := by decide +kernel
theorem dX2_digest_96 : decode cX2_digest 96 = .ok (.lmul, 1) := by decide +kernel
theorem dX2_digest_97 : decode cX2_digest 97 = .ok (.aload_n 0, 1) := by decide +kernel
theorem dX2_digest_98 : decode cX2_digest 98 = .ok (.getfield 25, 3) := by decide +kernel
theorem dX2_digest_101 : decode cX2_digest 101 = .ok (.bipush 6, 2) := by decide +kernel
theorem dX2_digest_103 : decode cX2_digest 103 = .ok (.iload_n 3, 1) := by decide +kernel
theorem dX2_digest_104 : decode cX2_digest 104 = .ok (.imul, 1) := by decide +kernel
theorem dX2_digest_105 : decode cX2_digest 105 = .ok (.iload 4, 2) := by decide +kernel
theorem dX2_digest_107 : decode cX2_digest 107 = .ok (.iadd, 1) := by decide +kernel
theorem dX2_digest_108 : decode cX2_digest 108 = .ok (.baload, 1) := by decide +kernel
theorem dX2_digest_109 : decode cX2_digest 109 = .ok (.ifCond .eq 7, 3) := by decide +kernel
theorem dX2_digest_112 : decode cX2_digest 112 = .ok (.iconst 1, 1) := by decide +kernel
theorem dX2_digest_113 : decode cX2_digest 113 = .ok (.goto 4, 3) := by decide +kernel
theorem dX2_digest_116 : decode cX2_digest 116 = .ok (.iconst 0, 1) := by decide +kernel
theorem dX2_digest_117 : decode cX2_digest 117 = .ok (.i2l, 1) := by decide +kernel
theorem dX2_digest_118 : decode cX2_digest 118 = .ok (.ladd, 1) := by decide +kernel
theorem dX2_digest_119 : decode cX2_digest 119 = .ok (.lstore_n 1, 1) := by decide +kernel
theorem dX2_digest_120 : decode cX2_digest 120 = .ok (.iinc 4 1, 3) := by decide +kernel
theorem dX2_digest_123 : decode cX2_digest 123 = .ok (.goto (-38), 3) := by decide +kernel
theorem dX2_digest_126 : decode cX2_digest 126 = .ok (.iinc 3 1, 3) := by decide +kernel
theorem dX2_digest_129 : decode cX2_digest 129 = .ok (.goto (-86), 3) := by decide +kernel
theorem dX2_digest_132 : decode cX2_digest 132 = .ok (.iconst 0, 1) := by decide +kernel
theorem dX2_digest_133 : decode cX2_digest 133 = .ok (.istore_n 3, 1) := by decide +kernel
theorem dX2_digest_134 : decode cX2_digest 134 = .ok (.iload_n 3, 1) := by decide +kernel
theorem dX2_digest_135 : decode cX2_digest 135 = .ok (.aload_n 0, 1) := by decide +kernel
theorem dX2_digest_136 : decode cX2_digest 136 = .ok (.getfield 56, 3) := by decide +kernel
theorem dX2_digest_139 : decode cX2_digest 139 = .ok (.if_icmp .gt 39, 3) := by decide +kernel
theorem dX2_digest_142 : decode cX2_digest 142 = .ok (.iconst 0, 1) := by decide +kernel
theorem dX2_digest_143 : decode cX2_digest 143 = .ok (.istore 4, 2) := by decide +kernel
theorem dX2_digest_145 : decode cX2_digest 145 = .ok (.iload 4, 2) := by decide +kernel
theorem dX2_digest_147 : decode cX2_digest 147 = .ok (.iconst 4, 1) := by decide +kernel
theorem dX2_digest_148 : decode cX2_digest 148 = .ok (.if_icmp .ge 24, 3) := by decide +kernel
theorem dX2_digest_151 : decode cX2_digest 151 = .ok (.lload_n 1, 1) := by decide +kernel
theorem dX2_digest_152 : decode cX2_digest 152 = .ok (.ldc2_w 153, 3) := by decide +kernel
theorem dX2_digest_155 : decode cX2_digest 155 = .ok (.lmul, 1) := by decide +kernel
theorem dX2_digest_156 : decode cX2_digest 156 = .ok (.aload_n 0, 1) := by decide +kernel
theorem dX2_digest_157 : decode cX2_digest 157 = .ok (.iload_n 3, 1) := by decide +kernel
theorem dX2_digest_158 : decode cX2_digest 158 = .ok (.iload 4, 2) := by decide +kernel
theorem dX2_digest_160 : decode cX2_digest 160 = .ok (.invokevirtual 136, 3) := by decide +kernel
theorem dX2_digest_163 : decode cX2_digest 163 = .ok (.i2l, 1) := by decide +kernel
theorem dX2_digest_164 : decode cX2_digest 164 = .ok (.ladd, 1) := by decide +kernel
theorem dX2_digest_165 : decode cX2_digest 165 = .ok (.lstore_n 1, 1) := by decide +kernel
theorem dX2_digest_166 : decode cX2_digest 166 = .ok (.iinc 4 1, 3) := by decide +kernel
theorem dX2_digest_169 : decode cX2_digest 169 = .ok (.goto (-24), 3) := by decide +kernel
theorem dX2_digest_172 : decode cX2_digest 172 = .ok (.iinc 3 1, 3) := by decide +kernel
theorem dX2_digest_175 : decode cX2_digest 175 = .ok (.goto (-41), 3) := by decide +kernel
theorem dX2_digest_178 : decode cX2_digest 178 = .ok (.lload_n 1, 1) := by decide +kernel
theorem dX2_digest_179 : decode cX2_digest 179 = .ok (.lreturn, 1) := by decide +kernel
theorem dJ9_abs_0f7a4_0 : decode cJ9_abs_0f7a4 0 = .ok (.iload_n 0, 1) := by decide +kernel
theorem dJ9_abs_0f7a4_1 : decode cJ9_abs_0f7a4 1 = .ok (.ifCond .ge 8, 3) := by decide +kernel
theorem dJ9_abs_0f7a4_4 : decode cJ9_abs_0f7a4 4 = .ok (.iload_n 0, 1) := by decide +kernel
theorem dJ9_abs_0f7a4_5 : decode cJ9_abs_0f7a4 5 = .ok (.ineg, 1) := by decide +kernel
theorem dJ9_abs_0f7a4_6 : decode cJ9_abs_0f7a4 6 = .ok (.goto 4, 3) := by decide +kernel
theorem dJ9_abs_0f7a4_9 : decode cJ9_abs_0f7a4 9 = .ok (.iload_n 0, 1) := by decide +kernel
theorem dJ9_abs_0f7a4_10 : decode cJ9_abs_0f7a4 10 = .ok (.ireturn, 1) := by decide +kernel
theorem dJ7_fill_53178_0 : decode cJ7_fill_53178 0 = .ok (.iconst 0, 1) := by decide +kernel
theorem dJ7_fill_53178_1 : decode cJ7_fill_53178 1 = .ok (.istore_n 2, 1) := by decide +kernel
theorem dJ7_fill_53178_2 : decode cJ7_fill_53178 2 = .ok (.aload_n 0, 1) := by decide +kernel
theorem dJ7_fill_53178_3 : decode cJ7_fill_53178 3 = .ok (.arraylength, 1) := by decide +kernel
theorem dJ7_fill_53178_4 : decode cJ7_fill_53178 4 = .ok (.istore_n 3, 1) := by decide +kernel
theorem dJ7_fill_53178_5 : decode cJ7_fill_53178 5 = .ok (.iload_n 2, 1) := by decide +kernel
theorem dJ7_fill_53178_6 : decode cJ7_fill_53178 6 = .ok (.iload_n 3, 1) := by decide +kernel
theorem dJ7_fill_53178_7 : decode cJ7_fill_53178 7 = .ok (.if_icmp .ge 13, 3) := by decide +kernel
theorem dJ7_fill_53178_10 : decode cJ7_fill_53178 10 = .ok (.aload_n 0, 1) := by decide +kernel
theorem dJ7_fill_53178_11 : decode cJ7_fill_53178 11 = .ok (.iload_n 2, 1) := by decide +kernel
theorem dJ7_fill_53178_12 : decode cJ7_fill_53178 12 = .ok (.iload_n 1, 1) := by decide +kernel
theorem dJ7_fill_53178_13 : decode cJ7_fill_53178 13 = .ok (.iastore, 1) := by decide +kernel
theorem dJ7_fill_53178_14 : decode cJ7_fill_53178 14 = .ok (.iinc 2 1, 3) := by decide +kernel
theorem dJ7_fill_53178_17 : decode cJ7_fill_53178 17 = .ok (.goto (-12), 3) := by decide +kernel
theorem dJ7_fill_53178_20 : decode cJ7_fill_53178 20 = .ok (.return_, 1) := by decide +kernel
set_option maxRecDepth 20000 in
theorem ggL_setRings_X1_setRings : GoodIn wsL_setRings wsX1_setRings := goodIn_ca (goodIn_r _ [6, 7, 8, 9, 5, 10, 11, 12, 13, 14, 15, 16, 17, 18, 19, 20, 21, 22, 23, 24, 25, 26, 27, 28, 29, 30, 31, 32, 33, 34, 35, 36, 37, 38, 39] (by decide +kernel) (by decide +kernel)) (goodIn_sub (fun _ h => List.mem_cons_of_mem _ (List.mem_append_right _ h)) (by decide +kernel))
set_option maxRecDepth 20000 in
theorem gL_setRings_X1_setRings : GoodIn wsL_setRings (wsV RL 7 RX1 yX1_setRings wsX1_setRings) := goodIn_app (goodIn_of _ (by decide +kernel)) ggL_setRings_X1_setRings
theorem dL_setRings_0 : decode cL_setRings 0 = .ok (.aload_n 2, 1) := by decide +kernel
theorem dL_setRings_1 : decode cL_setRings 1 = .ok (.iconst 0, 1) := by decide +kernel
theorem dL_setRings_2 : decode cL_setRings 2 = .ok (.aload_n 0, 1) := by decide +kernel
theorem dL_setRings_3 : decode cL_setRings 3 = .ok (.iload_n 1, 1) := by decide +kernel
theorem dL_setRings_4 : decode cL_setRings 4 = .ok (.invokevirtual 7, 3) := by decide +kernel
theorem dL_setRings_7 : decode cL_setRings 7 = .ok (.i2l, 1) := by decide +kernel
theorem dL_setRings_8 : decode cL_setRings 8 = .ok (.lastore, 1) := by decide +kernel
theorem dL_setRings_9 : decode cL_setRings 9 = .ok (.goto 6, 3) := by decide +kernel
theorem dL_setRings_12 : decode cL_setRings 12 = .ok (.astore_n 3, 1) := by decide +kernel
theorem dL_setRings_13 : decode cL_setRings 13 = .ok (.iconst 1, 1) := by decide +kernel
theorem dL_setRings_14 : decode cL_setRings 14 = .ok (.ireturn, 1) := by decide +kernel
theorem dL_setRings_15 : decode cL_setRings 15 = .ok (.iconst 0, 1) := by decide +kernel
theorem dL_setRings_16 : decode cL_setRings 16 = .ok (.ireturn, 1) := by decide +kernel
set_option maxRecDepth 20000 in
theorem ggL_put_X1_put : GoodIn wsL_put wsX1_put := goodIn_ca (goodIn_r _ [6, 7, 8, 9, 10, 5, 11, 12, 13, 14, 15, 16, 17, 18, 19, 20, 21, 22, 23, 24, 25, 26, 27, 28, 29, 30, 31, 32, 33, 34, 35, 36, 37, 38, 39, 40, 41, 42, 43, 44, 45, 46, 47, 48, 49, 50, 51, 52, 53, 54, 55, 56, 57, 58, 59, 60, 61, 62, 63, 64, 65, 66, 67, 68, 69, 70, 71, 72, 73, 74, 75, 76, 77] (by decide +kernel) (by decide +kernel)) (goodIn_sub (fun _ h => List.mem_cons_of_mem _ (List.mem_append_right _ h)) (by decide +kernel))
set_option maxRecDepth 20000 in
theorem gL_put_X1_put : GoodIn wsL_put (wsV RL 15 RX1 yX1_put wsX1_put) := goodIn_app (goodIn_of _ (by decide +kernel)) ggL_put_X1_put
theorem dL_put_0 : decode cL_put 0 = .ok (.aload_n 3, 1) := by decide +kernel
theorem dL_put_1 : decode cL_put 1 = .ok (.iconst 0, 1) := by decide +kernel
theorem dL_put_2 : decode cL_put 2 = .ok (.aload_n 0, 1) := by decide +kernel
theorem dL_put_3 : decode cL_put 3 = .ok (.iload_n 1, 1) := by decide +kernel
theorem dL_put_4 : decode cL_put 4 = .ok (.iload_n 2, 1) := by decide +kernel
theorem dL_put_5 : decode cL_put 5 = .ok (.invokevirtual 15, 3) := by decide +kernel
theorem dL_put_8 : decode cL_put 8 = .ok (.i2l, 1) := by decide +kernel
theorem dL_put_9 : decode cL_put 9 = .ok (.lastore, 1) := by decide +kernel
theorem dL_put_10 : decode cL_put 10 = .ok (.goto 7, 3) := by decide +kernel
theorem dL_put_13 : decode cL_put 13 = .ok (.astore 4, 2) := by decide +kernel
theorem dL_put_15 : decode cL_put 15 = .ok (.iconst 1, 1) := by decide +kernel
theorem dL_put_16 : decode cL_put 16 = .ok (.ireturn, 1) := by decide +kernel
theorem dL_put_17 : decode cL_put 17 = .ok (.iconst 0, 1) := by decide +kernel
theorem dL_put_18 : decode cL_put 18 = .ok (.ireturn, 1) := by decide +kernel
set_option maxRecDepth 20000 in
theorem ggL_shut_X1_shut : GoodIn wsL_shut wsX1_shut := goodIn_ca (goodIn_ca (goodIn_r _ [7, 8, 9, 10, 11, 6, 12, 13, 14, 15, 16, 17, 18, 19, 20, 21, 22, 23, 24, 25, 26, 27, 28, 29, 30, 31, 32, 33, 34, 35, 36, 37, 38, 39, 40, 41, 42, 43, 44, 45, 46, 47, 48, 49, 50, 51, 52, 53, 54, 55, 56, 57, 58, 59, 60, 61, 62, 63, 64, 65, 66, 67, 68, 69, 70, 71, 72, 73, 74, 75, 76, 77, 78, 79, 80, 81, 82, 83, 84, 85, 86, 87] (by decide +kernel) (by decide +kernel)) (goodIn_sub (fun _ h => List.mem_cons_of_mem _ (List.mem_append_left _ (List.mem_append_right _ h))) (by decide +kernel))) (goodIn_sub (fun _ h => List.mem_cons_of_mem _ (List.mem_append_right _ h)) (by decide +kernel))
set_option maxRecDepth 20000 in
theorem gL_shut_X1_shut : GoodIn wsL_shut (wsV RL 21 RX1 yX1_shut wsX1_shut) := goodIn_app (goodIn_of _ (by decide +kernel)) ggL_shut_X1_shut
theorem dL_shut_0 : decode cL_shut 0 = .ok (.aload 4, 2) := by decide +kernel
theorem dL_shut_2 : decode cL_shut 2 = .ok (.iconst 0, 1) := by decide +kernel
theorem dL_shut_3 : decode cL_shut 3 = .ok (.aload_n 0, 1) := by decide +kernel
theorem dL_shut_4 : decode cL_shut 4 = .ok (.iload_n 1, 1) := by decide +kernel
theorem dL_shut_5 : decode cL_shut 5 = .ok (.iload_n 2, 1) := by decide +kernel
theorem dL_shut_6 : decode cL_shut 6 = .ok (.iload_n 3, 1) := by decide +kernel
theorem dL_shut_7 : decode cL_shut 7 = .ok (.invokevirtual 21, 3) := by decide +kernel
theorem dL_shut_10 : decode cL_shut 10 = .ok (.ifCond .eq 7, 3) := by decide +kernel
theorem dL_shut_13 : decode cL_shut 13 = .ok (.lconst 1, 1) := by decide +kernel
theorem dL_shut_14 : decode cL_shut 14 = .ok (.goto 4, 3) := by decide +kernel
theorem dL_shut_17 : decode cL_shut 17 = .ok (.lconst 0, 1) := by decide +kernel
theorem dL_shut_18 : decode cL_shut 18 = .ok (.lastore, 1) := by decide +kernel
theorem dL_shut_19 : decode cL_shut 19 = .ok (.goto 11, 3) := by decide +kernel
theorem dL_shut_22 : decode cL_shut 22 = .ok (.astore 5, 2) := by decide +kernel
theorem dL_shut_24 : decode cL_shut 24 = .ok (.iconst 1, 1) := by decide +kernel
theorem dL_shut_25 : decode cL_shut 25 = .ok (.ireturn, 1) := by decide +kernel
theorem dL_shut_26 : decode cL_shut 26 = .ok (.astore 5, 2) := by decide +kernel
theorem dL_shut_28 : decode cL_shut 28 = .ok (.iconst 2, 1) := by decide +kernel
theorem dL_shut_29 : decode cL_shut 29 = .ok (.ireturn, 1) := by decide +kernel
theorem dL_shut_30 : decode cL_shut 30 = .ok (.iconst 0, 1) := by decide +kernel
theorem dL_shut_31 : decode cL_shut 31 = .ok (.ireturn, 1) := by decide +kernel
set_option maxRecDepth 20000 in
theorem ggL_turn_X1_turn : GoodIn wsL_turn wsX1_turn := goodIn_ca (goodIn_ca (goodIn_r _ [7, 8, 9, 10, 11, 12, 13, 14, 15, 16, 6, 17, 18, 19, 20, 21, 22, 23, 24, 25, 26, 27, 28, 29, 30, 31, 32, 33, 34, 35, 36, 37, 38, 39, 40, 41, 42, 43, 44, 45, 46, 47, 48, 49, 50, 51, 52, 53, 54, 55, 56, 57, 58, 59, 60, 61, 62, 63, 64, 65, 66, 67, 68, 69, 70, 71, 72, 73, 74, 75, 76, 77, 78, 79, 80, 81, 82, 83, 84, 85, 86, 87, 88, 89, 90, 91, 92, 93, 94, 95, 96, 97, 98, 99] (by decide +kernel) (by decide +kernel)) (goodIn_sub (fun _ h => List.mem_cons_of_mem _ (List.mem_append_left _ (List.mem_append_right _ h))) (by decide +kernel))) (goodIn_sub (fun _ h => List.mem_cons_of_mem _ (List.mem_append_right _ h)) (by decide +kernel))
set_option maxRecDepth 20000 in
theorem gL_turn_X1_turn : GoodIn wsL_turn (wsV RL 27 RX1 yX1_turn wsX1_turn) := goodIn_app (goodIn_of _ (by decide +kernel)) ggL_turn_X1_turn
theorem dL_turn_0 : decode cL_turn 0 = .ok (.aload_n 3, 1) := by decide +kernel
theorem dL_turn_1 : decode cL_turn 1 = .ok (.iconst 0, 1) := by decide +kernel
theorem dL_turn_2 : decode cL_turn 2 = .ok (.aload_n 0, 1) := by decide +kernel
theorem dL_turn_3 : decode cL_turn 3 = .ok (.iload_n 1, 1) := by decide +kernel
theorem dL_turn_4 : decode cL_turn 4 = .ok (.iload_n 2, 1) := by decide +kernel
theorem dL_turn_5 : decode cL_turn 5 = .ok (.invokevirtual 27, 3) := by decide +kernel
theorem dL_turn_8 : decode cL_turn 8 = .ok (.i2l, 1) := by decide +kernel
theorem dL_turn_9 : decode cL_turn 9 = .ok (.lastore, 1) := by decide +kernel
theorem dL_turn_10 : decode cL_turn 10 = .ok (.goto 11, 3) := by decide +kernel
theorem dL_turn_13 : decode cL_turn 13 = .ok (.astore 4, 2) := by decide +kernel
theorem dL_turn_15 : decode cL_turn 15 = .ok (.iconst 1, 1) := by decide +kernel
theorem dL_turn_16 : decode cL_turn 16 = .ok (.ireturn, 1) := by decide +kernel
theorem dL_turn_17 : decode cL_turn 17 = .ok (.astore 4, 2) := by decide +kernel
theorem dL_turn_19 : decode cL_turn 19 = .ok (.iconst 2, 1) := by decide +kernel
theorem dL_turn_20 : decode cL_turn 20 = .ok (.ireturn, 1) := by decide +kernel
theorem dL_turn_21 : decode cL_turn 21 = .ok (.iconst 0, 1) := by decide +kernel
theorem dL_turn_22 : decode cL_turn 22 = .ok (.ireturn, 1) := by decide +kernel
set_option maxRecDepth 20000 in
theorem ggL_turnAll_X1_turnAll : GoodIn wsL_turnAll wsX1_turnAll := goodIn_ca (goodIn_r _ [6, 7, 8, 9, 10, 11, 12, 13, 14, 15, 5, 16, 17, 18, 19, 20, 21, 22, 23, 24, 25, 26, 27, 28, 29, 30, 31, 32, 33, 34, 35, 36, 37, 38, 39, 40, 41, 42, 43, 44, 45, 46, 47, 48, 49, 50, 51, 52, 53, 54, 55, 56, 57, 58, 59, 60, 61, 62, 63, 64, 65, 66, 67, 68, 69, 70, 71, 72, 73, 74, 75, 76, 77, 78, 79, 80, 81, 82, 83, 84, 85, 86, 87, 88, 89, 90, 91, 92, 93] (by decide +kernel) (by decide +kernel)) (goodIn_sub (fun _ h => List.mem_cons_of_mem _ (List.mem_append_right _ h)) (by decide +kernel))
set_option maxRecDepth 20000 in
theorem gL_turnAll_X1_turnAll : GoodIn wsL_turnAll (wsV RL 30 RX1 yX1_turnAll wsX1_turnAll) := goodIn_app (goodIn_of _ (by decide +kernel)) ggL_turnAll_X1_turnAll
theorem dL_turnAll_0 : decode cL_turnAll 0 = .ok (.aload_n 2, 1) := by decide +kernel
theorem dL_turnAll_1 : decode cL_turnAll 1 = .ok (.iconst 0, 1) := by decide +kernel
theorem dL_turnAll_2 : decode cL_turnAll 2 = .ok (.aload_n 0, 1) := by decide +kernel
theorem dL_turnAll_3 : decode cL_turnAll 3 = .ok (.iload_n 1, 1) := by decide +kernel
theorem dL_turnAll_4 : decode cL_turnAll 4 = .ok (.invokevirtual 30, 3) := by decide +kernel
theorem dL_turnAll_7 : decode cL_turnAll 7 = .ok (.i2l, 1) := by decide +kernel
theorem dL_turnAll_8 : decode cL_turnAll 8 = .ok (.lastore, 1) := by decide +kernel
theorem dL_turnAll_9 : decode cL_turnAll 9 = .ok (.goto 6, 3) := by decide +kernel
theorem dL_turnAll_12 : decode cL_turnAll 12 = .ok (.astore_n 3, 1) := by decide +kernel
theorem dL_turnAll_13 : decode cL_turnAll 13 = .ok (.iconst 1, 1) := by decide +kernel
theorem dL_turnAll_14 : decode cL_turnAll 14 = .ok (.ireturn, 1) := by decide +kernel
theorem dL_turnAll_15 : decode cL_turnAll 15 = .ok (.iconst 0, 1) := by decide +kernel
theorem dL_turnAll_16 : decode cL_turnAll 16 = .ok (.ireturn, 1) := by decide +kernel
set_option maxRecDepth 20000 in
theorem ggL_about_X1_about : GoodIn wsL_about wsX1_about := goodIn_ca (goodIn_r _ [6, 7, 8, 9, 10, 11, 12, 5, 13, 14, 15, 16, 17, 18, 19, 20, 21, 22, 23, 24, 25, 26, 27, 28, 29, 30, 31, 32, 33, 34, 35, 36, 37, 38, 39, 40, 41, 42, 43, 44, 45, 46, 47, 48, 49, 50, 51, 52, 53, 54, 55, 56, 57, 58, 59, 60, 61, 62, 63, 64, 65, 66, 67, 68, 69, 70, 71, 72, 73, 74, 75, 76] (by decide +kernel) (by decide +kernel)) (goodIn_sub (fun _ h => List.mem_cons_of_mem _ (List.mem_append_right _ h)) (by decide +kernel))
set_option maxRecDepth 20000 in
theorem gL_about_X1_about : GoodIn wsL_about (wsV RL 33 RX1 yX1_about wsX1_about) := goodIn_app (goodIn_of _ (by decide +kernel)) ggL_about_X1_about
theorem dL_about_0 : decode cL_about 0 = .ok (.aload_n 3, 1) := by decide +kernel
theorem dL_about_1 : decode cL_about 1 = .ok (.iconst 0, 1) := by decide +kernel
theorem dL_about_2 : decode cL_about 2 = .ok (.aload_n 0, 1) := by decide +kernel
theorem dL_about_3 : decode cL_about 3 = .ok (.iload_n 1, 1) := by decide +kernel
theorem dL_about_4 : decode cL_about 4 = .ok (.iload_n 2, 1) := by decide +kernel
theorem dL_about_5 : decode cL_about 5 = .ok (.invokevirtual 33, 3) := by decide +kernel
theorem dL_about_8 : decode cL_about 8 = .ok (.i2l, 1) := by decide +kernel
theorem dL_about_9 : decode cL_about 9 = .ok (.lastore, 1) := by decide +kernel
theorem dL_about_10 : decode cL_about 10 = .ok (.goto 7, 3) := by decide +kernel
theorem dL_about_13 : decode cL_about 13 = .ok (.astore 4, 2) := by decide +kernel
theorem dL_about_15 : decode cL_about 15 = .ok (.iconst 1, 1) := by decide +kernel
theorem dL_about_16 : decode cL_about 16 = .ok (.ireturn, 1) := by decide +kernel
theorem dL_about_17 : decode cL_about 17 = .ok (.iconst 0, 1) := by decide +kernel
theorem dL_about_18 : decode cL_about 18 = .ok (.ireturn, 1) := by decide +kernel
set_option maxRecDepth 20000 in
theorem ggL_beside_X1_beside : GoodIn wsL_beside wsX1_beside := goodIn_ca (goodIn_r _ [6, 7, 8, 9, 5, 10, 11, 12, 13, 14, 15, 16, 17, 18, 19, 20, 21, 22, 23, 24, 25, 26, 27, 28, 29, 30, 31, 32, 33, 34, 35, 36, 37, 38, 39, 40, 41, 42, 43, 44, 45, 46, 47, 48, 49] (by decide +kernel) (by decide +kernel)) (goodIn_sub (fun _ h => List.mem_cons_of_mem _ (List.mem_append_right _ h)) (by decide +kernel))
set_option maxRecDepth 20000 in
theorem gL_beside_X1_beside : GoodIn wsL_beside (wsV RL 36 RX1 yX1_beside wsX1_beside) := goodIn_app (goodIn_of _ (by decide +kernel)) ggL_beside_X1_beside
theorem dL_beside_0 : decode cL_beside 0 = .ok (.aload_n 3, 1) := by decide +kernel
theorem dL_beside_1 : decode cL_beside 1 = .ok (.iconst 0, 1) := by decide +kernel
theorem dL_beside_2 : decode cL_beside 2 = .ok (.aload_n 0, 1) := by decide +kernel
theorem dL_beside_3 : decode cL_beside 3 = .ok (.iload_n 1, 1) := by decide +kernel
theorem dL_beside_4 : decode cL_beside 4 = .ok (.iload_n 2, 1) := by decide +kernel
theorem dL_beside_5 : decode cL_beside 5 = .ok (.invokevirtual 36, 3) := by decide +kernel
theorem dL_beside_8 : decode cL_beside 8 = .ok (.i2l, 1) := by decide +kernel
theorem dL_beside_9 : decode cL_beside 9 = .ok (.lastore, 1) := by decide +kernel
theorem dL_beside_10 : decode cL_beside 10 = .ok (.goto 7, 3) := by decide +kernel
theorem dL_beside_13 : decode cL_beside 13 = .ok (.astore 4, 2) := by decide +kernel
theorem dL_beside_15 : decode cL_beside 15 = .ok (.iconst 1, 1) := by decide +kernel
theorem dL_beside_16 : decode cL_beside 16 = .ok (.ireturn, 1) := by decide +kernel
theorem dL_beside_17 : decode cL_beside 17 = .ok (.iconst 0, 1) := by decide +kernel
theorem dL_beside_18 : decode cL_beside 18 = .ok (.ireturn, 1) := by decide +kernel
set_option maxRecDepth 20000 in
theorem ggL_isShut_X1_isShut : GoodIn wsL_isShut wsX1_isShut := goodIn_ca (goodIn_ca (goodIn_r _ [7, 8, 9, 10, 11, 6, 12, 13, 14, 15, 16, 17, 18, 19, 20, 21, 22, 23, 24, 25, 26, 27, 28, 29, 30, 31, 32, 33, 34, 35, 36, 37, 38, 39, 40, 41, 42, 43, 44, 45, 46, 47, 48, 49, 50, 51, 52, 53, 54, 55, 56, 57, 58] (by decide +kernel) (by decide +kernel)) (goodIn_sub (fun _ h => List.mem_cons_of_mem _ (List.mem_append_left _ (List.mem_append_right _ h))) (by decide +kernel))) (goodIn_sub (fun _ h => List.mem_cons_of_mem _ (List.mem_append_right _ h)) (by decide +kernel))
set_option maxRecDepth 20000 in
theorem gL_isShut_X1_isShut : GoodIn wsL_isShut (wsV RL 39 RX1 yX1_isShut wsX1_isShut) := goodIn_app (goodIn_of _ (by decide +kernel)) ggL_isShut_X1_isShut
theorem dL_isShut_0 : decode cL_isShut 0 = .ok (.aload_n 3, 1) := by decide +kernel
theorem dL_isShut_1 : decode cL_isShut 1 = .ok (.iconst 0, 1) := by decide +kernel
theorem dL_isShut_2 : decode cL_isShut 2 = .ok (.aload_n 0, 1) := by decide +kernel
theorem dL_isShut_3 : decode cL_isShut 3 = .ok (.iload_n 1, 1) := by decide +kernel
theorem dL_isShut_4 : decode cL_isShut 4 = .ok (.iload_n 2, 1) := by decide +kernel
theorem dL_isShut_5 : decode cL_isShut 5 = .ok (.invokevirtual 39, 3) := by decide +kernel
theorem dL_isShut_8 : decode cL_isShut 8 = .ok (.ifCond .eq 7, 3) := by decide +kernel
theorem dL_isShut_11 : decode cL_isShut 11 = .ok (.lconst 1, 1) := by decide +kernel
theorem dL_isShut_12 : decode cL_isShut 12 = .ok (.goto 4, 3) := by decide +kernel
theorem dL_isShut_15 : decode cL_isShut 15 = .ok (.lconst 0, 1) := by decide +kernel
theorem dL_isShut_16 : decode cL_isShut 16 = .ok (.lastore, 1) := by decide +kernel
theorem dL_isShut_17 : decode cL_isShut 17 = .ok (.goto 11, 3) := by decide +kernel
theorem dL_isShut_20 : decode cL_isShut 20 = .ok (.astore 4, 2) := by decide +kernel
theorem dL_isShut_22 : decode cL_isShut 22 = .ok (.iconst 1, 1) := by decide +kernel
theorem dL_isShut_23 : decode cL_isShut 23 = .ok (.ireturn, 1) := by decide +kernel
theorem dL_isShut_24 : decode cL_isShut 24 = .ok (.astore 4, 2) := by decide +kernel
theorem dL_isShut_26 : decode cL_isShut 26 = .ok (.iconst 2, 1) := by decide +kernel
theorem dL_isShut_27 : decode cL_isShut 27 = .ok (.ireturn, 1) := by decide +kernel
theorem dL_isShut_28 : decode cL_isShut 28 = .ok (.iconst 0, 1) := by decide +kernel
theorem dL_isShut_29 : decode cL_isShut 29 = .ok (.ireturn, 1) := by decide +kernel
set_option maxRecDepth 20000 in
theorem ggL_far_X1_far : GoodIn wsL_far wsX1_far := goodIn_ca (goodIn_r _ [6, 7, 8, 9, 10, 11, 12, 13, 14, 5, 15, 16, 17, 18, 19, 20, 21, 22, 23, 24, 25, 26, 27, 28, 29, 30, 31, 32, 33, 34, 35, 36, 37, 38, 39, 40, 41, 42, 43, 44, 45, 46, 47, 48] (by decide +kernel) (by decide +kernel)) (goodIn_sub (fun _ h => List.mem_cons_of_mem _ (List.mem_append_right _ h)) (by decide +kernel))
set_option maxRecDepth 20000 in
theorem gL_far_X1_far : GoodIn wsL_far (wsV RL 43 RX1 yX1_far wsX1_far) := goodIn_app (goodIn_of _ (by decide +kernel)) ggL_far_X1_far
theorem dL_far_0 : decode cL_far 0 = .ok (.aload_n 3, 1) := by decide +kernel
theorem dL_far_1 : decode cL_far 1 = .ok (.iconst 0, 1) := by decide +kernel
theorem dL_far_2 : decode cL_far 2 = .ok (.aload_n 0, 1) := by decide +kernel
theorem dL_far_3 : decode cL_far 3 = .ok (.iload_n 1, 1) := by decide +kernel
theorem dL_far_4 : decode cL_far 4 = .ok (.iload_n 2, 1) := by decide +kernel
theorem dL_far_5 : decode cL_far 5 = .ok (.invokevirtual 43, 3) := by decide +kernel
theorem dL_far_8 : decode cL_far 8 = .ok (.i2l, 1) := by decide +kernel
theorem dL_far_9 : decode cL_far 9 = .ok (.lastore, 1) := by decide +kernel
theorem dL_far_10 : decode cL_far 10 = .ok (.goto 7, 3) := by decide +kernel
theorem dL_far_13 : decode cL_far 13 = .ok (.astore 4, 2) := by decide +kernel
theorem dL_far_15 : decode cL_far 15 = .ok (.iconst 1, 1) := by decide +kernel
theorem dL_far_16 : decode cL_far 16 = .ok (.ireturn, 1) := by decide +kernel
theorem dL_far_17 : decode cL_far 17 = .ok (.iconst 0, 1) := by decide +kernel
theorem dL_far_18 : decode cL_far 18 = .ok (.ireturn, 1) := by decide +kernel
set_option maxRecDepth 20000 in
theorem ggL_sees_X1_sees : GoodIn wsL_sees wsX1_sees := goodIn_ca (goodIn_r _ [6, 7, 8, 9, 10, 11, 5, 12, 13, 14, 15, 16, 17, 18, 19, 20, 21, 22, 23, 24, 25, 26, 27, 28, 29, 30, 31, 32, 33, 34, 35, 36, 37, 38, 39, 40, 41, 42, 43, 44, 45, 46, 47, 48, 49, 50, 51, 52, 53, 54, 55, 56, 57, 58, 59, 60, 61] (by decide +kernel) (by decide +kernel)) (goodIn_sub (fun _ h => List.mem_cons_of_mem _ (List.mem_append_right _ h)) (by decide +kernel))
set_option maxRecDepth 20000 in
theorem gL_sees_X1_sees : GoodIn wsL_sees (wsV RL 46 RX1 yX1_sees wsX1_sees) := goodIn_app (goodIn_of _ (by decide +kernel)) ggL_sees_X1_sees
theorem dL_sees_0 : decode cL_sees 0 = .ok (.aload_n 3, 1) := by decide +kernel
theorem dL_sees_1 : decode cL_sees 1 = .ok (.iconst 0, 1) := by decide +kernel
theorem dL_sees_2 : decode cL_sees 2 = .ok (.aload_n 0, 1) := by decide +kernel
theorem dL_sees_3 : decode cL_sees 3 = .ok (.iload_n 1, 1) := by decide +kernel
theorem dL_sees_4 : decode cL_sees 4 = .ok (.iload_n 2, 1) := by decide +kernel
theorem dL_sees_5 : decode cL_sees 5 = .ok (.invokevirtual 46, 3) := by decide +kernel
theorem dL_sees_8 : decode cL_sees 8 = .ok (.ifCond .eq 7, 3) := by decide +kernel
theorem dL_sees_11 : decode cL_sees 11 = .ok (.lconst 1, 1) := by decide +kernel
theorem dL_sees_12 : decode cL_sees 12 = .ok (.goto 4, 3) := by decide +kernel
theorem dL_sees_15 : decode cL_sees 15 = .ok (.lconst 0, 1) := by decide +kernel
theorem dL_sees_16 : decode cL_sees 16 = .ok (.lastore, 1) := by decide +kernel
theorem dL_sees_17 : decode cL_sees 17 = .ok (.goto 7, 3) := by decide +kernel
theorem dL_sees_20 : decode cL_sees 20 = .ok (.astore 4, 2) := by decide +kernel
theorem dL_sees_22 : decode cL_sees 22 = .ok (.iconst 1, 1) := by decide +kernel
theorem dL_sees_23 : decode cL_sees 23 = .ok (.ireturn, 1) := by decide +kernel
theorem dL_sees_24 : decode cL_sees 24 = .ok (.iconst 0, 1) := by decide +kernel
theorem dL_sees_25 : decode cL_sees 25 = .ok (.ireturn, 1) := by decide +kernel
set_option maxRecDepth 20000 in
theorem ggL_way_X1_way : GoodIn wsL_way wsX1_way := goodIn_ca (goodIn_r _ [6, 7, 8, 9, 5, 10, 11, 12, 13, 14, 15, 16, 17, 18, 19, 20, 21, 22, 23, 24, 25, 26, 27, 28, 29, 30, 31, 32, 33, 34, 35, 36, 37, 38, 39, 40, 41, 42, 43, 44, 45, 46, 47, 48, 49, 50, 51, 52, 53, 54, 55, 56, 57, 58, 59, 60, 61, 62, 63, 64, 65, 66, 67, 68, 69, 70, 71, 72, 73, 74] (by decide +kernel) (by decide +kernel)) (goodIn_sub (fun _ h => List.mem_cons_of_mem _ (List.mem_append_right _ h)) (by decide +kernel))
set_option maxRecDepth 20000 in
theorem gL_way_X1_way : GoodIn wsL_way (wsV RL 49 RX1 yX1_way wsX1_way) := goodIn_app (goodIn_of _ (by decide +kernel)) ggL_way_X1_way
theorem dL_way_0 : decode cL_way 0 = .ok (.aload_n 3, 1) := by decide +kernel
theorem dL_way_1 : decode cL_way 1 = .ok (.iconst 0, 1) := by decide +kernel
theorem dL_way_2 : decode cL_way 2 = .ok (.aload_n 0, 1) := by decide +kernel
theorem dL_way_3 : decode cL_way 3 = .ok (.iload_n 1, 1) := by decide +kernel
theorem dL_way_4 : decode cL_way 4 = .ok (.iload_n 2, 1) := by decide +kernel
theorem dL_way_5 : decode cL_way 5 = .ok (.invokevirtual 49, 3) := by decide +kernel
theorem dL_way_8 : decode cL_way 8 = .ok (.i2l, 1) := by decide +kernel
theorem dL_way_9 : decode cL_way 9 = .ok (.lastore, 1) := by decide +kernel
theorem dL_way_10 : decode cL_way 10 = .ok (.goto 7, 3) := by decide +kernel
theorem dL_way_13 : decode cL_way 13 = .ok (.astore 4, 2) := by decide +kernel
theorem dL_way_15 : decode cL_way 15 = .ok (.iconst 1, 1) := by decide +kernel
theorem dL_way_16 : decode cL_way 16 = .ok (.ireturn, 1) := by decide +kernel
theorem dL_way_17 : decode cL_way 17 = .ok (.iconst 0, 1) := by decide +kernel
theorem dL_way_18 : decode cL_way 18 = .ok (.ireturn, 1) := by decide +kernel
set_option maxRecDepth 20000 in
theorem ggL_side_X1_side : GoodIn wsL_side wsX1_side := goodIn_ca (goodIn_r _ [6, 7, 8, 9, 10, 5, 11, 12, 13, 14, 15, 16, 17, 18, 19, 20, 21, 22, 23, 24, 25, 26, 27, 28, 29, 30, 31, 32, 33, 34, 35, 36, 37, 38, 39, 40, 41, 42, 43, 44, 45, 46, 47, 48, 49, 50, 51, 52, 53, 54, 55, 56, 57, 58, 59, 60, 61, 62, 63, 64, 65, 66, 67, 68, 69, 70, 71, 72, 73, 74] (by decide +kernel) (by decide +kernel)) (goodIn_sub (fun _ h => List.mem_cons_of_mem _ (List.mem_append_right _ h)) (by decide +kernel))
set_option maxRecDepth 20000 in
theorem gL_side_X1_side : GoodIn wsL_side (wsV RL 52 RX1 yX1_side wsX1_side) := goodIn_app (goodIn_of _ (by decide +kernel)) ggL_side_X1_side
theorem dL_side_0 : decode cL_side 0 = .ok (.aload_n 3, 1) := by decide +kernel
theorem dL_side_1 : decode cL_side 1 = .ok (.iconst 0, 1) := by decide +kernel
theorem dL_side_2 : decode cL_side 2 = .ok (.aload_n 0, 1) := by decide +kernel
theorem dL_side_3 : decode cL_side 3 = .ok (.iload_n 1, 1) := by decide +kernel
theorem dL_side_4 : decode cL_side 4 = .ok (.iload_n 2, 1) := by decide +kernel
theorem dL_side_5 : decode cL_side 5 = .ok (.invokevirtual 52, 3) := by decide +kernel
theorem dL_side_8 : decode cL_side 8 = .ok (.i2l, 1) := by decide +kernel
theorem dL_side_9 : decode cL_side 9 = .ok (.lastore, 1) := by decide +kernel
theorem dL_side_10 : decode cL_side 10 = .ok (.goto 7, 3) := by decide +kernel
theorem dL_side_13 : decode cL_side 13 = .ok (.astore 4, 2) := by decide +kernel
theorem dL_side_15 : decode cL_side 15 = .ok (.iconst 1, 1) := by decide +kernel
theorem dL_side_16 : decode cL_side 16 = .ok (.ireturn, 1) := by decide +kernel
theorem dL_side_17 : decode cL_side 17 = .ok (.iconst 0, 1) := by decide +kernel
theorem dL_side_18 : decode cL_side 18 = .ok (.ireturn, 1) := by decide +kernel
set_option maxRecDepth 20000 in
theorem ggL_reach_X1_reach : GoodIn wsL_reach wsX1_reach := goodIn_ca (goodIn_ca (goodIn_r _ [7, 8, 9, 10, 11, 12, 6, 13, 14, 15, 16, 17, 18, 19, 20, 21, 22, 23, 24, 25, 26, 27, 28, 29, 30, 31, 32, 33, 34, 35, 36, 37, 38, 39, 40, 41, 42, 43, 44, 45, 46, 47, 48, 49, 50, 51, 52, 53, 54, 55, 56, 57, 58, 59, 60, 61, 62, 63, 64, 65, 66, 67, 68, 69, 70, 71, 72, 73, 74, 75, 76] (by decide +kernel) (by decide +kernel)) (goodIn_sub (fun _ h => List.mem_cons_of_mem _ (List.mem_append_left _ (List.mem_append_right _ h))) (by decide +kernel))) (goodIn_sub (fun _ h => List.mem_cons_of_mem _ (List.mem_append_right _ h)) (by decide +kernel))
set_option maxRecDepth 20000 in
theorem gL_reach_X1_reach : GoodIn wsL_reach (wsV RL 55 RX1 yX1_reach wsX1_reach) := goodIn_app (goodIn_of _ (by decide +kernel)) ggL_reach_X1_reach
theorem dL_reach_0 : decode cL_reach 0 = .ok (.aload_n 3, 1) := by decide +kernel
theorem dL_reach_1 : decode cL_reach 1 = .ok (.iconst 0, 1) := by decide +kernel
theorem dL_reach_2 : decode cL_reach 2 = .ok (.aload_n 0, 1) := by decide +kernel
theorem dL_reach_3 : decode cL_reach 3 = .ok (.iload_n 1, 1) := by decide +kernel
theorem dL_reach_4 : decode cL_reach 4 = .ok (.iload_n 2, 1) := by decide +kernel
theorem dL_reach_5 : decode cL_reach 5 = .ok (.invokevirtual 55, 3) := by decide +kernel
theorem dL_reach_8 : decode cL_reach 8 = .ok (.i2l, 1) := by decide +kernel
theorem dL_reach_9 : decode cL_reach 9 = .ok (.lastore, 1) := by decide +kernel
theorem dL_reach_10 : decode cL_reach 10 = .ok (.goto 11, 3) := by decide +kernel
theorem dL_reach_13 : decode cL_reach 13 = .ok (.astore 4, 2) := by decide +kernel
theorem dL_reach_15 : decode cL_reach 15 = .ok (.iconst 1, 1) := by decide +kernel
theorem dL_reach_16 : decode cL_reach 16 = .ok (.ireturn, 1) := by decide +kernel
theorem dL_reach_17 : decode cL_reach 17 = .ok (.astore 4, 2) := by decide +kernel
theorem dL_reach_19 : decode cL_reach 19 = .ok (.iconst 2, 1) := by decide +kernel
theorem dL_reach_20 : decode cL_reach 20 = .ok (.ireturn, 1) := by decide +kernel
theorem dL_reach_21 : decode cL_reach 21 = .ok (.iconst 0, 1) := by decide +kernel
theorem dL_reach_22 : decode cL_reach 22 = .ok (.ireturn, 1) := by decide +kernel
set_option maxRecDepth 20000 in
theorem ggL_ring_X1_ring : GoodIn wsL_ring wsX1_ring := goodIn_ca (goodIn_r _ [6, 7, 8, 9, 10, 5, 11, 12, 13, 14, 15, 16, 17, 18, 19, 20, 21, 22, 23, 24, 25, 26, 27, 28, 29, 30, 31, 32, 33, 34, 35, 36, 37, 38, 39, 40, 41, 42, 43] (by decide +kernel) (by decide +kernel)) (goodIn_sub (fun _ h => List.mem_cons_of_mem _ (List.mem_append_right _ h)) (by decide +kernel))
set_option maxRecDepth 20000 in
theorem gL_ring_X1_ring : GoodIn wsL_ring (wsV RL 58 RX1 yX1_ring wsX1_ring) := goodIn_app (goodIn_of _ (by decide +kernel)) ggL_ring_X1_ring
theorem dL_ring_0 : decode cL_ring 0 = .ok (.aload_n 3, 1) := by decide +kernel
theorem dL_ring_1 : decode cL_ring 1 = .ok (.iconst 0, 1) := by decide +kernel
theorem dL_ring_2 : decode cL_ring 2 = .ok (.aload_n 0, 1) := by decide +kernel
theorem dL_ring_3 : decode cL_ring 3 = .ok (.iload_n 1, 1) := by decide +kernel
theorem dL_ring_4 : decode cL_ring 4 = .ok (.iload_n 2, 1) := by decide +kernel
theorem dL_ring_5 : decode cL_ring 5 = .ok (.invokevirtual 58, 3) := by decide +kernel
theorem dL_ring_8 : decode cL_ring 8 = .ok (.i2l, 1) := by decide +kernel
theorem dL_ring_9 : decode cL_ring 9 = .ok (.lastore, 1) := by decide +kernel
theorem dL_ring_10 : decode cL_ring 10 = .ok (.goto 7, 3) := by decide +kernel
theorem dL_ring_13 : decode cL_ring 13 = .ok (.astore 4, 2) := by decide +kernel
theorem dL_ring_15 : decode cL_ring 15 = .ok (.iconst 1, 1) := by decide +kernel
theorem dL_ring_16 : decode cL_ring 16 = .ok (.ireturn, 1) := by decide +kernel
theorem dL_ring_17 : decode cL_ring 17 = .ok (.iconst 0, 1) := by decide +kernel
theorem dL_ring_18 : decode cL_ring 18 = .ok (.ireturn, 1) := by decide +kernel
set_option maxRecDepth 20000 in
theorem ggL_count_X1_count : GoodIn wsL_count wsX1_count := goodIn_ca (goodIn_r _ [6, 7, 8, 9, 10, 11, 5, 12, 13, 14, 15, 16, 17, 18, 19, 20, 21, 22, 23, 24, 25, 26, 27, 28, 29, 30, 31, 32, 33, 34, 35, 36, 37, 38, 39, 40, 41, 42, 43, 44, 45, 46, 47, 48, 49, 50, 51, 52, 53, 54, 55, 56, 57, 58, 59, 60, 61, 62, 63, 64, 65, 66, 67, 68, 69, 70, 71, 72, 73, 74, 75, 76, 77, 78, 79, 80, 81, 82, 83] (by decide +kernel) (by decide +kernel)) (goodIn_sub (fun _ h => List.mem_cons_of_mem _ (List.mem_append_right _ h)) (by decide +kernel))
set_option maxRecDepth 20000 in
theorem gL_count_X1_count : GoodIn wsL_count (wsV RL 61 RX1 yX1_count wsX1_count) := goodIn_app (goodIn_of _ (by decide +kernel)) ggL_count_X1_count
theorem dL_count_0 : decode cL_count 0 = .ok (.aload_n 2, 1) := by decide +kernel
theorem dL_count_1 : decode cL_count 1 = .ok (.iconst 0, 1) := by decide +kernel
theorem dL_count_2 : decode cL_count 2 = .ok (.aload_n 0, 1) := by decide +kernel
theorem dL_count_3 : decode cL_count 3 = .ok (.iload_n 1, 1) := by decide +kernel
theorem dL_count_4 : decode cL_count 4 = .ok (.invokevirtual 61, 3) := by decide +kernel
theorem dL_count_7 : decode cL_count 7 = .ok (.i2l, 1) := by decide +kernel
theorem dL_count_8 : decode cL_count 8 = .ok (.lastore, 1) := by decide +kernel
theorem dL_count_9 : decode cL_count 9 = .ok (.goto 6, 3) := by decide +kernel
theorem dL_count_12 : decode cL_count 12 = .ok (.astore_n 3, 1) := by decide +kernel
theorem dL_count_13 : decode cL_count 13 = .ok (.iconst 1, 1) := by decide +kernel
theorem dL_count_14 : decode cL_count 14 = .ok (.ireturn, 1) := by decide +kernel
theorem dL_count_15 : decode cL_count 15 = .ok (.iconst 0, 1) := by decide +kernel
theorem dL_count_16 : decode cL_count 16 = .ok (.ireturn, 1) := by decide +kernel
set_option maxRecDepth 20000 in
theorem ggL_would_X1_would : GoodIn wsL_would wsX1_would := goodIn_ca (goodIn_ca (goodIn_r _ [7, 8, 9, 10, 6, 11, 12, 13, 14, 15, 16, 17, 18, 19, 20, 21, 22, 23, 24, 25, 26, 27, 28, 29, 30, 31, 32, 33, 34, 35, 36, 37, 38, 39, 40, 41, 42, 43, 44, 45, 46, 47, 48, 49, 50, 51, 52, 53, 54, 55, 56, 57, 58, 59, 60, 61, 62, 63, 64, 65, 66, 67, 68, 69, 70, 71, 72, 73, 74, 75, 76, 77, 78, 79, 80, 81, 82, 83, 84, 85, 86, 87, 88, 89, 90, 91, 92, 93, 94, 95, 96, 97, 98, 99] (by decide +kernel) (by decide +kernel)) (goodIn_sub (fun _ h => List.mem_cons_of_mem _ (List.mem_append_left _ (List.mem_append_right _ h))) (by decide +kernel))) (goodIn_sub (fun _ h => List.mem_cons_of_mem _ (List.mem_append_right _ h)) (by decide +kernel))
set_option maxRecDepth 20000 in
theorem gL_would_X1_would : GoodIn wsL_would (wsV RL 64 RX1 yX1_would wsX1_would) := goodIn_app (goodIn_of _ (by decide +kernel)) ggL_would_X1_would
theorem dL_would_0 : decode cL_would 0 = .ok (.aload_n 3, 1) := by decide +kernel
theorem dL_would_1 : decode cL_would 1 = .ok (.iconst 0, 1) := by decide +kernel
theorem dL_would_2 : decode cL_would 2 = .ok (.aload_n 0, 1) := by decide +kernel
theorem dL_would_3 : decode cL_would 3 = .ok (.iload_n 1, 1) := by decide +kernel
theorem dL_would_4 : decode cL_would 4 = .ok (.iload_n 2, 1) := by decide +kernel
theorem dL_would_5 : decode cL_would 5 = .ok (.invokevirtual 64, 3) := by decide +kernel
theorem dL_would_8 : decode cL_would 8 = .ok (.i2l, 1) := by decide +kernel
theorem dL_would_9 : decode cL_would 9 = .ok (.lastore, 1) := by decide +kernel
theorem dL_would_10 : decode cL_would 10 = .ok (.goto 11, 3) := by decide +kernel
theorem dL_would_13 : decode cL_would 13 = .ok (.astore 4, 2) := by decide +kernel
theorem dL_would_15 : decode cL_would 15 = .ok (.iconst 1, 1) := by decide +kernel
theorem dL_would_16 : decode cL_would 16 = .ok (.ireturn, 1) := by decide +kernel
theorem dL_would_17 : decode cL_would 17 = .ok (.astore 4, 2) := by decide +kernel
theorem dL_would_19 : decode cL_would 19 = .ok (.iconst 2, 1) := by decide +kernel
theorem dL_would_20 : decode cL_would 20 = .ok (.ireturn, 1) := by decide +kernel
theorem dL_would_21 : decode cL_would 21 = .ok (.iconst 0, 1) := by decide +kernel
end
section
theorem dL_would_22 : decode cL_would 22 = .ok (.ireturn, 1) := by decide +kernel
set_option maxRecDepth 20000 in
theorem ggL_advise_X1_advise : GoodIn wsL_advise wsX1_advise := goodIn_ca (goodIn_r _ [6, 7, 8, 9, 5, 10, 11, 12, 13, 14, 15, 16, 17, 18, 19, 20, 21, 22, 23, 24, 25, 26, 27, 28, 29, 30, 31, 32, 33, 34, 35, 36, 37, 38, 39, 40, 41, 42, 43, 44, 45, 46, 47, 48, 49, 50, 51, 52, 53, 54, 55, 56, 57, 58, 59, 60, 61, 62, 63, 64, 65, 66, 67, 68, 69, 70, 71, 72, 73, 74, 75, 76, 77, 78, 79, 80, 81, 82, 83, 84, 85, 86, 87, 88, 89, 90, 91, 92, 93] (by decide +kernel) (by decide +kernel)) (goodIn_sub (fun _ h => List.mem_cons_of_mem _ (List.mem_append_right _ h)) (by decide +kernel))
set_option maxRecDepth 20000 in
theorem gL_advise_X1_advise : GoodIn wsL_advise (wsV RL 67 RX1 yX1_advise wsX1_advise) := goodIn_app (goodIn_of _ (by decide +kernel)) ggL_advise_X1_advise
theorem dL_advise_0 : decode cL_advise 0 = .ok (.aload_n 2, 1) := by decide +kernel
theorem dL_advise_1 : decode cL_advise 1 = .ok (.iconst 0, 1) := by decide +kernel
theorem dL_advise_2 : decode cL_advise 2 = .ok (.aload_n 0, 1) := by decide +kernel
theorem dL_advise_3 : decode cL_advise 3 = .ok (.iload_n 1, 1) := by decide +kernel
theorem dL_advise_4 : decode cL_advise 4 = .ok (.invokevirtual 67, 3) := by decide +kernel
theorem dL_advise_7 : decode cL_advise 7 = .ok (.i2l, 1) := by decide +kernel
theorem dL_advise_8 : decode cL_advise 8 = .ok (.lastore, 1) := by decide +kernel
theorem dL_advise_9 : decode cL_advise 9 = .ok (.goto 6, 3) := by decide +kernel
theorem dL_advise_12 : decode cL_advise 12 = .ok (.astore_n 3, 1) := by decide +kernel
theorem dL_advise_13 : decode cL_advise 13 = .ok (.iconst 1, 1) := by decide +kernel
theorem dL_advise_14 : decode cL_advise 14 = .ok (.ireturn, 1) := by decide +kernel
theorem dL_advise_15 : decode cL_advise 15 = .ok (.iconst 0, 1) := by decide +kernel
theorem dL_advise_16 : decode cL_advise 16 = .ok (.ireturn, 1) := by decide +kernel
set_option maxRecDepth 20000 in
theorem ggL_law_X1_init : GoodIn wsL_law wsX1_init := goodIn_r _ [9, 10, 11, 12, 13, 14, 15, 16, 17, 18, 19, 20, 21, 22, 23, 24, 25, 26, 27, 28, 29, 30, 31, 32, 33, 34, 35, 36, 37, 38, 39, 40, 41, 42, 43, 44, 45, 46, 47, 48, 49, 50, 51, 52, 53, 54, 55, 56, 57, 58, 59, 60, 2, 61, 62, 63, 64, 65, 66, 67, 68, 69, 70, 71, 72, 73, 74, 75, 76, 591, 592, 593, 594, 595, 567, 568, 569, 570, 571, 572, 573, 574, 575, 576, 577] (by decide +kernel) (by decide +kernel)
set_option maxRecDepth 20000 in
theorem gL_law_X1_init : GoodIn wsL_law (wsX1_init) := ggL_law_X1_init
set_option maxRecDepth 20000 in
theorem ggL_law_X2_init : GoodIn wsL_law wsX2_init := goodIn_r _ [79, 80, 11, 12, 17, 81, 82, 83, 84, 85, 19, 86, 87, 88, 89, 90, 91, 92, 93, 5, 94, 95, 96, 97, 98, 99, 100, 101, 102, 578, 579, 580, 581, 582, 583, 584, 585, 586, 587, 588, 589, 590] (by decide +kernel) (by decide +kernel)
set_option maxRecDepth 20000 in
theorem gL_law_X2_init : GoodIn wsL_law (wsX2_init) := ggL_law_X2_init
set_option maxRecDepth 20000 in
theorem ggL_law_L_setRings : GoodIn wsL_law wsL_setRings := goodIn_ca (goodIn_r _ [106, 107, 108, 109, 110, 2, 111, 74, 112, 113, 114, 115, 116, 69, 70, 71, 72, 73, 18, 20, 21, 75, 54, 15, 55, 76, 37, 38, 39, 567, 568, 569, 570, 571, 572, 573, 574, 575, 576, 577] (by decide +kernel) (by decide +kernel)) (goodIn_sub (fun _ h => List.mem_append_left _ (List.mem_append_left _ (List.mem_append_right _ h))) (by decide +kernel))
set_option maxRecDepth 20000 in
theorem gL_law_L_setRings : GoodIn wsL_law (va_wsS RL 74 yL_setRings wsL_setRings) := goodIn_app (goodIn_of _ (by decide +kernel)) ggL_law_L_setRings
set_option maxRecDepth 20000 in
theorem ggL_law_X2_setRings : GoodIn wsL_law wsX2_setRings := goodIn_r _ [120, 121, 96, 122, 123, 5, 124, 125, 126, 127, 128, 91, 92, 93, 94, 95, 85, 86, 97, 98, 99, 100, 101, 102, 81, 82, 83, 84, 578, 579, 580, 581, 582, 583, 584, 585, 586, 587, 588, 589, 590] (by decide +kernel) (by decide +kernel)
set_option maxRecDepth 20000 in
theorem gL_law_X2_setRings : GoodIn wsL_law (wsV RL 79 RX2 yX2_setRings wsX2_setRings) := goodIn_app (goodIn_of _ (by decide +kernel)) ggL_law_X2_setRings
set_option maxRecDepth 20000 in
theorem ggL_law_X2_thrown : GoodIn wsL_law wsX2_thrown := goodIn_r _ [132, 121, 578, 579, 580, 581, 582, 583, 584, 585, 586, 587, 588, 589, 590] (by decide +kernel) (by decide +kernel)
set_option maxRecDepth 20000 in
theorem gL_law_X2_thrown : GoodIn wsL_law (wsV RL 80 RX2 yX2_thrown wsX2_thrown) := goodIn_app (goodIn_of _ (by decide +kernel)) ggL_law_X2_thrown
set_option maxRecDepth 20000 in
theorem ggL_law_L_put : GoodIn wsL_law wsL_put := goodIn_ca (goodIn_r _ [135, 136, 137, 138, 139, 2, 140, 18, 141, 142, 143, 144, 74, 145, 146, 147, 148, 149, 150, 151, 152, 153, 21, 154, 155, 156, 157, 24, 76, 37, 38, 39, 158, 159, 160, 161, 162, 163, 164, 165, 20, 166, 167, 168, 169, 16, 170, 171, 172, 15, 173, 35, 60, 61, 174, 175, 176, 177, 178, 179, 180, 181, 567, 568, 569, 570, 571, 572, 573, 574, 575, 576, 577, 591, 592, 593, 594, 595] (by decide +kernel) (by decide +kernel)) (goodIn_sub (fun _ h => List.mem_append_left _ (List.mem_append_right _ h)) (by decide +kernel))
set_option maxRecDepth 20000 in
theorem gL_law_L_put : GoodIn wsL_law (va_wsS RL 84 yL_put wsL_put) := goodIn_app (goodIn_of _ (by decide +kernel)) ggL_law_L_put
set_option maxRecDepth 20000 in
theorem ggL_law_X2_put : GoodIn wsL_law wsX2_put := goodIn_r _ [185, 121, 84, 186, 187, 188, 5, 189, 96, 122, 123, 124, 125, 126, 127, 128, 578, 579, 580, 581, 582, 583, 584, 585, 586, 587, 588, 589, 590] (by decide +kernel) (by decide +kernel)
set_option maxRecDepth 20000 in
theorem gL_law_X2_put : GoodIn wsL_law (wsV RL 87 RX2 yX2_put wsX2_put) := goodIn_app (goodIn_of _ (by decide +kernel)) ggL_law_X2_put
set_option maxRecDepth 20000 in
theorem ggL_law_L_shut : GoodIn wsL_law wsL_shut := goodIn_ca (goodIn_ca (goodIn_r _ [192, 136, 193, 194, 195, 196, 2, 197, 20, 198, 199, 200, 201, 202, 203, 141, 142, 143, 144, 74, 145, 146, 147, 148, 149, 166, 167, 168, 169, 16, 170, 171, 172, 15, 173, 35, 60, 61, 174, 175, 176, 177, 178, 204, 205, 206, 150, 151, 152, 153, 18, 21, 154, 155, 156, 157, 24, 76, 37, 38, 39, 158, 159, 160, 161, 162, 163, 164, 165, 179, 180, 181, 567, 568, 569, 570, 571, 572, 573, 574, 575, 576, 577, 591, 592, 593, 594, 595] (by decide +kernel) (by decide +kernel)) (goodIn_sub (fun _ h => List.mem_append_right _ h) (by decide +kernel))) (goodIn_sub (fun _ h => List.mem_append_left _ (List.mem_append_right _ h)) (by decide +kernel))
set_option maxRecDepth 20000 in
theorem gL_law_L_shut : GoodIn wsL_law (va_wsS RL 88 yL_shut wsL_shut) := goodIn_app (goodIn_of _ (by decide +kernel)) ggL_law_L_shut
set_option maxRecDepth 20000 in
theorem ggL_law_X2_shut : GoodIn wsL_law wsX2_shut := goodIn_r _ [210, 121, 86, 186, 187, 188, 5, 189, 96, 122, 123, 124, 211, 212, 213, 214, 215, 216, 217, 81, 97, 82, 98, 218, 219, 220, 221, 85, 578, 579, 580, 581, 582, 583, 584, 585, 586, 587, 588, 589, 590] (by decide +kernel) (by decide +kernel)
set_option maxRecDepth 20000 in
theorem gL_law_X2_shut : GoodIn wsL_law (wsV RL 91 RX2 yX2_shut wsX2_shut) := goodIn_app (goodIn_of _ (by decide +kernel)) ggL_law_X2_shut
set_option maxRecDepth 20000 in
theorem ggL_law_L_turn : GoodIn wsL_law wsL_turn := goodIn_ca (goodIn_ca (goodIn_r _ [224, 136, 107, 225, 226, 227, 2, 228, 22, 18, 229, 230, 231, 232, 233, 234, 235, 236, 73, 145, 146, 147, 148, 149, 112, 113, 114, 115, 116, 237, 238, 239, 240, 75, 54, 15, 55, 241, 242, 243, 150, 151, 152, 153, 21, 154, 155, 156, 157, 74, 24, 76, 37, 38, 39, 158, 159, 160, 161, 162, 163, 164, 165, 20, 166, 167, 168, 169, 16, 170, 171, 172, 173, 35, 60, 61, 174, 175, 176, 177, 178, 179, 180, 181, 567, 568, 569, 570, 571, 572, 573, 574, 575, 576, 577, 591, 592, 593, 594, 595] (by decide +kernel) (by decide +kernel)) (goodIn_sub (fun _ h => List.mem_append_left _ (List.mem_append_right _ h)) (by decide +kernel))) (goodIn_sub (fun _ h => List.mem_append_left _ (List.mem_append_left _ (List.mem_append_right _ h))) (by decide +kernel))
set_option maxRecDepth 20000 in
theorem gL_law_L_turn : GoodIn wsL_law (va_wsS RL 92 yL_turn wsL_turn) := goodIn_app (goodIn_of _ (by decide +kernel)) ggL_law_L_turn
set_option maxRecDepth 20000 in
theorem ggL_law_X2_turn : GoodIn wsL_law wsX2_turn := goodIn_r _ [247, 121, 248, 249, 250, 5, 251, 95, 122, 123, 124, 125, 126, 127, 128, 252, 253, 254, 255, 90, 84, 256, 230, 231, 232, 257, 258, 259, 260, 261, 262, 263, 264, 265, 266, 96, 87, 267, 268, 269, 270, 271, 272, 273, 274, 86, 214, 215, 216, 217, 81, 97, 82, 98, 218, 219, 220, 221, 85, 578, 579, 580, 581, 582, 583, 584, 585, 586, 587, 588, 589, 590] (by decide +kernel) (by decide +kernel)
set_option maxRecDepth 20000 in
theorem gL_law_X2_turn : GoodIn wsL_law (wsV RL 94 RX2 yX2_turn wsX2_turn) := goodIn_app (goodIn_of _ (by decide +kernel)) ggL_law_X2_turn
set_option maxRecDepth 20000 in
theorem ggL_law_L_turnAll : GoodIn wsL_law wsL_turnAll := goodIn_ca (goodIn_r _ [277, 107, 278, 279, 280, 2, 281, 22, 18, 74, 229, 230, 231, 232, 112, 113, 114, 115, 116, 282, 283, 284, 285, 73, 237, 238, 239, 240, 75, 54, 15, 55, 241, 242, 243, 150, 151, 152, 153, 21, 154, 155, 156, 157, 24, 76, 37, 38, 39, 158, 159, 160, 161, 162, 163, 164, 165, 20, 166, 167, 168, 169, 16, 170, 171, 172, 173, 35, 60, 61, 174, 175, 176, 177, 178, 179, 180, 181, 567, 568, 569, 570, 571, 572, 573, 574, 575, 576, 577, 591, 592, 593, 594, 595] (by decide +kernel) (by decide +kernel)) (goodIn_sub (fun _ h => List.mem_append_left _ (List.mem_append_left _ (List.mem_append_right _ h))) (by decide +kernel))
set_option maxRecDepth 20000 in
theorem gL_law_L_turnAll : GoodIn wsL_law (va_wsS RL 95 yL_turnAll wsL_turnAll) := goodIn_app (goodIn_of _ (by decide +kernel)) ggL_law_L_turnAll
set_option maxRecDepth 20000 in
theorem ggL_law_X2_turnAll : GoodIn wsL_law wsX2_turnAll := goodIn_r _ [289, 121, 122, 123, 5, 124, 125, 126, 127, 128, 290, 291, 292, 293, 95, 252, 253, 254, 255, 90, 84, 256, 230, 231, 232, 257, 258, 259, 260, 261, 262, 263, 264, 265, 266, 96, 87, 267, 268, 269, 270, 271, 272, 273, 274, 86, 214, 215, 216, 217, 81, 97, 82, 98, 218, 219, 220, 221, 85, 578, 579, 580, 581, 582, 583, 584, 585, 586, 587, 588, 589, 590] (by decide +kernel) (by decide +kernel)
set_option maxRecDepth 20000 in
theorem gL_law_X2_turnAll : GoodIn wsL_law (wsV RL 97 RX2 yX2_turnAll wsX2_turnAll) := goodIn_app (goodIn_of _ (by decide +kernel)) ggL_law_X2_turnAll
set_option maxRecDepth 20000 in
theorem ggL_law_X1_at : GoodIn wsL_law wsX1_at := goodIn_r _ [297, 16, 298, 63, 64, 15, 65, 34, 66, 67, 68, 44, 45, 46, 174, 175, 176, 2, 177, 74, 567, 568, 569, 570, 571, 572, 573, 574, 575, 576, 577, 591, 592, 593, 594, 595] (by decide +kernel) (by decide +kernel)
set_option maxRecDepth 20000 in
theorem gL_law_X1_at : GoodIn wsL_law (wsV RL 98 RX1 yX1_at wsX1_at) := goodIn_app (goodIn_of _ (by decide +kernel)) ggL_law_X1_at
set_option maxRecDepth 20000 in
theorem ggL_law_X2_at : GoodIn wsL_law wsX2_at := goodIn_r _ [302, 121, 218, 219, 220, 5, 221, 85, 122, 123, 124, 578, 579, 580, 581, 582, 583, 584, 585, 586, 587, 588, 589, 590] (by decide +kernel) (by decide +kernel)
set_option maxRecDepth 20000 in
theorem gL_law_X2_at : GoodIn wsL_law (wsV RL 101 RX2 yX2_at wsX2_at) := goodIn_app (goodIn_of _ (by decide +kernel)) ggL_law_X2_at
set_option maxRecDepth 20000 in
theorem ggL_law_L_about : GoodIn wsL_law wsL_about := goodIn_ca (goodIn_r _ [305, 136, 306, 307, 308, 2, 309, 16, 18, 21, 141, 142, 143, 144, 74, 145, 146, 147, 148, 149, 310, 311, 312, 15, 313, 31, 314, 315, 316, 317, 32, 318, 319, 320, 321, 33, 322, 323, 324, 325, 162, 163, 164, 165, 20, 166, 167, 168, 169, 170, 171, 172, 173, 35, 60, 61, 174, 175, 176, 177, 178, 567, 568, 569, 570, 571, 572, 573, 574, 575, 576, 577, 591, 592, 593, 594, 595] (by decide +kernel) (by decide +kernel)) (goodIn_sub (fun _ h => List.mem_append_left _ (List.mem_append_right _ h)) (by decide +kernel))
set_option maxRecDepth 20000 in
theorem gL_law_L_about : GoodIn wsL_law (va_wsS RL 102 yL_about wsL_about) := goodIn_app (goodIn_of _ (by decide +kernel)) ggL_law_L_about
set_option maxRecDepth 20000 in
theorem ggL_law_X2_about : GoodIn wsL_law wsX2_about := goodIn_r _ [329, 121, 186, 187, 188, 5, 189, 96, 122, 123, 124, 125, 126, 127, 128, 263, 264, 265, 266, 87, 84, 267, 268, 269, 270, 271, 272, 273, 274, 86, 214, 215, 216, 217, 81, 97, 82, 98, 218, 219, 220, 221, 85, 330, 331, 332, 333, 83, 334, 335, 336, 337, 578, 579, 580, 581, 582, 583, 584, 585, 586, 587, 588, 589, 590] (by decide +kernel) (by decide +kernel)
set_option maxRecDepth 20000 in
theorem gL_law_X2_about : GoodIn wsL_law (wsV RL 104 RX2 yX2_about wsX2_about) := goodIn_app (goodIn_of _ (by decide +kernel)) ggL_law_X2_about
set_option maxRecDepth 20000 in
theorem ggL_law_L_beside : GoodIn wsL_law wsL_beside := goodIn_ca (goodIn_r _ [340, 136, 341, 342, 343, 2, 344, 141, 142, 143, 144, 74, 145, 146, 147, 148, 149, 166, 167, 168, 169, 16, 170, 171, 172, 15, 173, 35, 60, 61, 174, 175, 176, 177, 567, 568, 569, 570, 571, 572, 573, 574, 575, 576, 577, 591, 592, 593, 594, 595] (by decide +kernel) (by decide +kernel)) (goodIn_sub (fun _ h => List.mem_append_left _ (List.mem_append_right _ h)) (by decide +kernel))
set_option maxRecDepth 20000 in
theorem gL_law_L_beside : GoodIn wsL_law (va_wsS RL 105 yL_beside wsL_beside) := goodIn_app (goodIn_of _ (by decide +kernel)) ggL_law_L_beside
set_option maxRecDepth 20000 in
theorem ggL_law_X2_beside : GoodIn wsL_law wsX2_beside := goodIn_r _ [348, 121, 186, 187, 188, 5, 189, 96, 122, 123, 124, 211, 212, 213, 214, 215, 216, 217, 81, 97, 82, 98, 218, 219, 220, 221, 85, 125, 126, 127, 128, 578, 579, 580, 581, 582, 583, 584, 585, 586, 587, 588, 589, 590] (by decide +kernel) (by decide +kernel)
set_option maxRecDepth 20000 in
theorem gL_law_X2_beside : GoodIn wsL_law (wsV RL 107 RX2 yX2_beside wsX2_beside) := goodIn_app (goodIn_of _ (by decide +kernel)) ggL_law_X2_beside
set_option maxRecDepth 20000 in
theorem ggL_law_L_isShut : GoodIn wsL_law wsL_isShut := goodIn_ca (goodIn_ca (goodIn_r _ [351, 136, 193, 352, 353, 354, 2, 355, 20, 198, 199, 200, 201, 202, 203, 141, 142, 143, 144, 74, 145, 146, 147, 148, 149, 166, 167, 168, 169, 16, 170, 171, 172, 15, 173, 35, 60, 61, 174, 175, 176, 177, 178, 567, 568, 569, 570, 571, 572, 573, 574, 575, 576, 577, 591, 592, 593, 594, 595] (by decide +kernel) (by decide +kernel)) (goodIn_sub (fun _ h => List.mem_append_right _ h) (by decide +kernel))) (goodIn_sub (fun _ h => List.mem_append_left _ (List.mem_append_right _ h)) (by decide +kernel))
set_option maxRecDepth 20000 in
theorem gL_law_L_isShut : GoodIn wsL_law (va_wsS RL 108 yL_isShut wsL_isShut) := goodIn_app (goodIn_of _ (by decide +kernel)) ggL_law_L_isShut
set_option maxRecDepth 20000 in
theorem ggL_law_X2_isShut : GoodIn wsL_law wsX2_isShut := goodIn_r _ [359, 121, 86, 186, 187, 188, 5, 189, 96, 122, 123, 124, 211, 212, 213, 214, 215, 216, 217, 81, 97, 82, 98, 218, 219, 220, 221, 85, 578, 579, 580, 581, 582, 583, 584, 585, 586, 587, 588, 589, 590] (by decide +kernel) (by decide +kernel)
set_option maxRecDepth 20000 in
theorem gL_law_X2_isShut : GoodIn wsL_law (wsV RL 110 RX2 yX2_isShut wsX2_isShut) := goodIn_app (goodIn_of _ (by decide +kernel)) ggL_law_X2_isShut
set_option maxRecDepth 20000 in
theorem ggL_law_L_far : GoodIn wsL_law wsL_far := goodIn_ca (goodIn_r _ [362, 136, 363, 364, 365, 2, 366, 16, 367, 368, 369, 370, 141, 142, 143, 144, 74, 145, 146, 147, 148, 149, 310, 311, 312, 15, 313, 31, 314, 315, 316, 317, 32, 567, 568, 569, 570, 571, 572, 573, 574, 575, 576, 577, 591, 592, 593, 594, 595] (by decide +kernel) (by decide +kernel)) (goodIn_sub (fun _ h => List.mem_append_left _ (List.mem_append_right _ h)) (by decide +kernel))
set_option maxRecDepth 20000 in
theorem gL_law_L_far : GoodIn wsL_law (va_wsS RL 111 yL_far wsL_far) := goodIn_app (goodIn_of _ (by decide +kernel)) ggL_law_L_far
set_option maxRecDepth 20000 in
theorem ggL_law_X2_far : GoodIn wsL_law wsX2_far := goodIn_r _ [374, 121, 81, 82, 375, 368, 369, 370, 186, 187, 188, 5, 189, 96, 122, 123, 124, 125, 126, 127, 128, 578, 579, 580, 581, 582, 583, 584, 585, 586, 587, 588, 589, 590] (by decide +kernel) (by decide +kernel)
set_option maxRecDepth 20000 in
theorem gL_law_X2_far : GoodIn wsL_law (wsV RL 113 RX2 yX2_far wsX2_far) := goodIn_app (goodIn_of _ (by decide +kernel)) ggL_law_X2_far
set_option maxRecDepth 20000 in
theorem ggL_law_L_sees : GoodIn wsL_law wsL_sees := goodIn_ca (goodIn_r _ [378, 136, 379, 380, 381, 2, 382, 18, 24, 141, 142, 143, 144, 74, 145, 146, 147, 148, 149, 158, 159, 160, 161, 162, 163, 164, 165, 20, 166, 167, 168, 169, 16, 170, 171, 172, 15, 173, 35, 60, 61, 174, 175, 176, 177, 178, 567, 568, 569, 570, 571, 572, 573, 574, 575, 576, 577, 591, 592, 593, 594, 595] (by decide +kernel) (by decide +kernel)) (goodIn_sub (fun _ h => List.mem_append_left _ (List.mem_append_right _ h)) (by decide +kernel))
set_option maxRecDepth 20000 in
theorem gL_law_L_sees : GoodIn wsL_law (va_wsS RL 114 yL_sees wsL_sees) := goodIn_app (goodIn_of _ (by decide +kernel)) ggL_law_L_sees
set_option maxRecDepth 20000 in
theorem ggL_law_X2_sees : GoodIn wsL_law wsX2_sees := goodIn_r _ [386, 121, 96, 87, 186, 187, 188, 5, 189, 122, 123, 124, 267, 268, 269, 270, 271, 272, 273, 274, 86, 84, 214, 215, 216, 217, 81, 97, 82, 98, 218, 219, 220, 221, 85, 578, 579, 580, 581, 582, 583, 584, 585, 586, 587, 588, 589, 590] (by decide +kernel) (by decide +kernel)
set_option maxRecDepth 20000 in
theorem gL_law_X2_sees : GoodIn wsL_law (wsV RL 116 RX2 yX2_sees wsX2_sees) := goodIn_app (goodIn_of _ (by decide +kernel)) ggL_law_X2_sees
set_option maxRecDepth 20000 in
theorem ggL_law_L_way : GoodIn wsL_law wsL_way := goodIn_ca (goodIn_r _ [389, 136, 390, 391, 392, 2, 393, 141, 142, 143, 144, 74, 145, 146, 147, 148, 149, 394, 395, 396, 397, 25, 398, 399, 400, 401, 76, 37, 38, 39, 402, 403, 404, 405, 26, 18, 162, 163, 164, 165, 20, 166, 167, 168, 169, 16, 170, 171, 172, 15, 173, 35, 60, 61, 174, 175, 176, 177, 178, 567, 568, 569, 570, 571, 572, 573, 574, 575, 576, 577, 591, 592, 593, 594, 595] (by decide +kernel) (by decide +kernel)) (goodIn_sub (fun _ h => List.mem_append_left _ (List.mem_append_right _ h)) (by decide +kernel))
set_option maxRecDepth 20000 in
theorem gL_law_L_way : GoodIn wsL_law (va_wsS RL 117 yL_way wsL_way) := goodIn_app (goodIn_of _ (by decide +kernel)) ggL_law_L_way
set_option maxRecDepth 20000 in
theorem ggL_law_X2_way : GoodIn wsL_law wsX2_way := goodIn_r _ [409, 121, 88, 186, 187, 188, 5, 189, 96, 122, 123, 124, 125, 126, 127, 128, 410, 411, 412, 413, 89, 271, 272, 273, 274, 86, 84, 214, 215, 216, 217, 81, 97, 82, 98, 218, 219, 220, 221, 85, 578, 579, 580, 581, 582, 583, 584, 585, 586, 587, 588, 589, 590] (by decide +kernel) (by decide +kernel)
set_option maxRecDepth 20000 in
theorem gL_law_X2_way : GoodIn wsL_law (wsV RL 119 RX2 yX2_way wsX2_way) := goodIn_app (goodIn_of _ (by decide +kernel)) ggL_law_X2_way
set_option maxRecDepth 20000 in
theorem ggL_law_L_side : GoodIn wsL_law wsL_side := goodIn_ca (goodIn_r _ [416, 136, 417, 418, 419, 2, 420, 18, 141, 142, 143, 144, 74, 145, 146, 147, 148, 149, 162, 163, 164, 165, 20, 166, 167, 168, 169, 16, 170, 171, 172, 15, 173, 35, 60, 61, 174, 175, 176, 177, 178, 394, 395, 396, 397, 25, 398, 399, 400, 401, 76, 37, 38, 39, 402, 403, 404, 405, 26, 567, 568, 569, 570, 571, 572, 573, 574, 575, 576, 577, 591, 592, 593, 594, 595] (by decide +kernel) (by decide +kernel)) (goodIn_sub (fun _ h => List.mem_append_left _ (List.mem_append_right _ h)) (by decide +kernel))
set_option maxRecDepth 20000 in
theorem gL_law_L_side : GoodIn wsL_law (va_wsS RL 120 yL_side wsL_side) := goodIn_app (goodIn_of _ (by decide +kernel)) ggL_law_L_side
set_option maxRecDepth 20000 in
theorem ggL_law_X2_side : GoodIn wsL_law wsX2_side := goodIn_r _ [424, 121, 88, 186, 187, 188, 5, 189, 96, 122, 123, 124, 125, 126, 127, 128, 410, 411, 412, 413, 89, 271, 272, 273, 274, 86, 84, 214, 215, 216, 217, 81, 97, 82, 98, 218, 219, 220, 221, 85, 578, 579, 580, 581, 582, 583, 584, 585, 586, 587, 588, 589, 590] (by decide +kernel) (by decide +kernel)
set_option maxRecDepth 20000 in
theorem gL_law_X2_side : GoodIn wsL_law (wsV RL 122 RX2 yX2_side wsX2_side) := goodIn_app (goodIn_of _ (by decide +kernel)) ggL_law_X2_side
set_option maxRecDepth 20000 in
theorem ggL_law_L_reach : GoodIn wsL_law wsL_reach := goodIn_ca (goodIn_ca (goodIn_r _ [427, 136, 107, 428, 429, 430, 2, 431, 74, 25, 141, 142, 143, 144, 145, 146, 147, 148, 149, 112, 113, 114, 115, 116, 398, 399, 400, 401, 76, 37, 38, 39, 402, 403, 404, 405, 26, 18, 162, 163, 164, 165, 20, 166, 167, 168, 169, 16, 170, 171, 172, 15, 173, 35, 60, 61, 174, 175, 176, 177, 178, 567, 568, 569, 570, 571, 572, 573, 574, 575, 576, 577, 591, 592, 593, 594, 595] (by decide +kernel) (by decide +kernel)) (goodIn_sub (fun _ h => List.mem_append_left _ (List.mem_append_right _ h)) (by decide +kernel))) (goodIn_sub (fun _ h => List.mem_append_left _ (List.mem_append_left _ (List.mem_append_right _ h))) (by decide +kernel))
set_option maxRecDepth 20000 in
theorem gL_law_L_reach : GoodIn wsL_law (va_wsS RL 123 yL_reach wsL_reach) := goodIn_app (goodIn_of _ (by decide +kernel)) ggL_law_L_reach
set_option maxRecDepth 20000 in
theorem ggL_law_X2_reach : GoodIn wsL_law wsX2_reach := goodIn_r _ [435, 121, 96, 88, 186, 187, 188, 5, 189, 122, 123, 124, 125, 126, 127, 128, 410, 411, 412, 413, 89, 271, 272, 273, 274, 86, 84, 214, 215, 216, 217, 81, 97, 82, 98, 218, 219, 220, 221, 85, 578, 579, 580, 581, 582, 583, 584, 585, 586, 587, 588, 589, 590] (by decide +kernel) (by decide +kernel)
set_option maxRecDepth 20000 in
theorem gL_law_X2_reach : GoodIn wsL_law (wsV RL 125 RX2 yX2_reach wsX2_reach) := goodIn_app (goodIn_of _ (by decide +kernel)) ggL_law_X2_reach
set_option maxRecDepth 20000 in
theorem ggL_law_L_ring : GoodIn wsL_law wsL_ring := goodIn_ca (goodIn_r _ [438, 136, 439, 440, 441, 2, 442, 21, 233, 234, 235, 236, 73, 145, 146, 147, 148, 149, 75, 54, 15, 55, 241, 242, 243, 443, 444, 445, 446, 18, 179, 180, 181, 567, 568, 569, 570, 571, 572, 573, 574, 575, 576, 577] (by decide +kernel) (by decide +kernel)) (goodIn_sub (fun _ h => List.mem_append_left _ (List.mem_append_right _ h)) (by decide +kernel))
set_option maxRecDepth 20000 in
theorem gL_law_L_ring : GoodIn wsL_law (va_wsS RL 126 yL_ring wsL_ring) := goodIn_app (goodIn_of _ (by decide +kernel)) ggL_law_L_ring
set_option maxRecDepth 20000 in
theorem ggL_law_X2_ring : GoodIn wsL_law wsX2_ring := goodIn_r _ [450, 121, 248, 249, 250, 5, 251, 95, 122, 123, 124, 451, 452, 453, 454, 87, 257, 258, 259, 455, 456, 457, 458, 96, 83, 84, 263, 264, 265, 266, 267, 268, 269, 270, 271, 272, 273, 274, 86, 214, 215, 216, 217, 81, 97, 82, 98, 218, 219, 220, 221, 85, 260, 261, 262, 125, 126, 127, 128, 578, 579, 580, 581, 582, 583, 584, 585, 586, 587, 588, 589, 590] (by decide +kernel) (by decide +kernel)
set_option maxRecDepth 20000 in
theorem gL_law_X2_ring : GoodIn wsL_law (wsV RL 128 RX2 yX2_ring wsX2_ring) := goodIn_app (goodIn_of _ (by decide +kernel)) ggL_law_X2_ring
set_option maxRecDepth 20000 in
theorem ggL_law_L_count : GoodIn wsL_law wsL_count := goodIn_ca (goodIn_r _ [461, 136, 462, 463, 464, 2, 465, 74, 73, 21, 145, 146, 147, 148, 149, 443, 444, 445, 446, 18, 466, 467, 468, 469, 20, 178, 60, 61, 179, 180, 181, 470, 471, 472, 473, 25, 398, 399, 400, 401, 76, 37, 38, 39, 402, 403, 404, 405, 26, 162, 163, 164, 165, 166, 167, 168, 169, 16, 170, 171, 172, 15, 173, 35, 174, 175, 176, 177, 567, 568, 569, 570, 571, 572, 573, 574, 575, 576, 577, 591, 592, 593, 594, 595] (by decide +kernel) (by decide +kernel)) (goodIn_sub (fun _ h => List.mem_append_left _ (List.mem_append_right _ h)) (by decide +kernel))
set_option maxRecDepth 20000 in
theorem gL_law_L_count : GoodIn wsL_law (va_wsS RL 129 yL_count wsL_count) := goodIn_app (goodIn_of _ (by decide +kernel)) ggL_law_L_count
set_option maxRecDepth 20000 in
theorem ggL_law_X2_count : GoodIn wsL_law wsX2_count := goodIn_r _ [477, 121, 122, 123, 5, 124, 478, 479, 480, 481, 96, 95, 86, 455, 456, 457, 458, 83, 84, 263, 264, 265, 266, 87, 267, 268, 269, 270, 271, 272, 273, 274, 214, 215, 216, 217, 81, 97, 82, 98, 218, 219, 220, 221, 85, 482, 483, 484, 485, 88, 410, 411, 412, 413, 89, 125, 126, 127, 128, 578, 579, 580, 581, 582, 583, 584, 585, 586, 587, 588, 589, 590] (by decide +kernel) (by decide +kernel)
set_option maxRecDepth 20000 in
theorem gL_law_X2_count : GoodIn wsL_law (wsV RL 131 RX2 yX2_count wsX2_count) := goodIn_app (goodIn_of _ (by decide +kernel)) ggL_law_X2_count
set_option maxRecDepth 20000 in
theorem ggL_law_X1_sixthsToSame : GoodIn wsL_law wsX1_sixthsToSame := goodIn_r _ [489, 22, 282, 283, 284, 2, 285, 73, 237, 238, 239, 240, 18, 75, 54, 15, 55, 241, 242, 243, 490, 491, 492, 493, 74, 567, 568, 569, 570, 571, 572, 573, 574, 575, 576, 577] (by decide +kernel) (by decide +kernel)
set_option maxRecDepth 20000 in
theorem gL_law_X1_sixthsToSame : GoodIn wsL_law (wsV RL 132 RX1 yX1_sixthsToSame wsX1_sixthsToSame) := goodIn_app (goodIn_of _ (by decide +kernel)) ggL_law_X1_sixthsToSame
set_option maxRecDepth 20000 in
theorem ggL_law_X2_sixthsToSame : GoodIn wsL_law wsX2_sixthsToSame := goodIn_r _ [497, 121, 498, 499, 500, 5, 501, 95, 84, 257, 258, 259, 260, 261, 262, 578, 579, 580, 581, 582, 583, 584, 585, 586, 587, 588, 589, 590] (by decide +kernel) (by decide +kernel)
set_option maxRecDepth 20000 in
theorem gL_law_X2_sixthsToSame : GoodIn wsL_law (wsV RL 135 RX2 yX2_sixthsToSame wsX2_sixthsToSame) := goodIn_app (goodIn_of _ (by decide +kernel)) ggL_law_X2_sixthsToSame
set_option maxRecDepth 20000 in
theorem ggL_law_L_would : GoodIn wsL_law wsL_would := goodIn_ca (goodIn_ca (goodIn_r _ [504, 136, 107, 505, 506, 507, 2, 508, 233, 234, 235, 236, 73, 145, 146, 147, 148, 149, 241, 242, 15, 243, 112, 113, 114, 115, 116, 509, 510, 511, 512, 18, 22, 74, 229, 230, 231, 232, 23, 237, 238, 239, 240, 75, 54, 55, 154, 155, 156, 157, 24, 76, 37, 38, 39, 158, 159, 160, 161, 162, 163, 164, 165, 20, 166, 167, 168, 169, 16, 170, 171, 172, 173, 35, 60, 61, 174, 175, 176, 177, 178, 179, 180, 181, 567, 568, 569, 570, 571, 572, 573, 574, 575, 576, 577, 591, 592, 593, 594, 595] (by decide +kernel) (by decide +kernel)) (goodIn_sub (fun _ h => List.mem_append_left _ (List.mem_append_right _ h)) (by decide +kernel))) (goodIn_sub (fun _ h => List.mem_append_left _ (List.mem_append_left _ (List.mem_append_right _ h))) (by decide +kernel))
set_option maxRecDepth 20000 in
theorem gL_law_L_would : GoodIn wsL_law (va_wsS RL 136 yL_would wsL_would) := goodIn_app (goodIn_of _ (by decide +kernel)) ggL_law_L_would
set_option maxRecDepth 20000 in
theorem ggL_law_X2_would : GoodIn wsL_law wsX2_would := goodIn_r _ [516, 121, 248, 249, 250, 5, 251, 95, 122, 123, 124, 125, 126, 127, 128, 257, 258, 259, 517, 518, 519, 520, 252, 253, 254, 255, 90, 84, 256, 230, 231, 232, 260, 261, 262, 263, 264, 265, 266, 96, 87, 267, 268, 269, 270, 271, 272, 273, 274, 86, 214, 215, 216, 217, 81, 97, 82, 98, 218, 219, 220, 221, 85, 578, 579, 580, 581, 582, 583, 584, 585, 586, 587, 588, 589, 590] (by decide +kernel) (by decide +kernel)
set_option maxRecDepth 20000 in
theorem gL_law_X2_would : GoodIn wsL_law (wsV RL 138 RX2 yX2_would wsX2_would) := goodIn_app (goodIn_of _ (by decide +kernel)) ggL_law_X2_would
set_option maxRecDepth 20000 in
theorem ggL_law_L_advise : GoodIn wsL_law wsL_advise := goodIn_ca (goodIn_r _ [523, 136, 524, 525, 526, 2, 527, 233, 234, 235, 236, 73, 145, 146, 147, 148, 149, 241, 242, 15, 243, 509, 510, 511, 512, 18, 22, 74, 229, 230, 231, 232, 23, 237, 238, 239, 240, 75, 54, 55, 154, 155, 156, 157, 24, 76, 37, 38, 39, 158, 159, 160, 161, 162, 163, 164, 165, 20, 166, 167, 168, 169, 16, 170, 171, 172, 173, 35, 60, 61, 174, 175, 176, 177, 178, 179, 180, 181, 567, 568, 569, 570, 571, 572, 573, 574, 575, 576, 577, 591, 592, 593, 594, 595] (by decide +kernel) (by decide +kernel)) (goodIn_sub (fun _ h => List.mem_append_left _ (List.mem_append_right _ h)) (by decide +kernel))
set_option maxRecDepth 20000 in
theorem gL_law_L_advise : GoodIn wsL_law (va_wsS RL 139 yL_advise wsL_advise) := goodIn_app (goodIn_of _ (by decide +kernel)) ggL_law_L_advise
set_option maxRecDepth 20000 in
theorem ggL_law_X2_advise : GoodIn wsL_law wsX2_advise := goodIn_r _ [531, 121, 248, 249, 250, 5, 251, 95, 122, 123, 124, 125, 126, 127, 128, 257, 258, 259, 517, 518, 519, 520, 252, 253, 254, 255, 90, 84, 256, 230, 231, 232, 260, 261, 262, 263, 264, 265, 266, 96, 87, 267, 268, 269, 270, 271, 272, 273, 274, 86, 214, 215, 216, 217, 81, 97, 82, 98, 218, 219, 220, 221, 85, 578, 579, 580, 581, 582, 583, 584, 585, 586, 587, 588, 589, 590] (by decide +kernel) (by decide +kernel)
set_option maxRecDepth 20000 in
theorem gL_law_X2_advise : GoodIn wsL_law (wsV RL 141 RX2 yX2_advise wsX2_advise) := goodIn_app (goodIn_of _ (by decide +kernel)) ggL_law_X2_advise
set_option maxRecDepth 20000 in
theorem ggL_law_X1_best : GoodIn wsL_law wsX1_best := goodIn_r _ [535, 74, 18, 536, 537, 538, 2, 539, 21, 24, 158, 159, 160, 161, 162, 163, 164, 165, 20, 166, 167, 168, 169, 16, 170, 171, 172, 15, 173, 35, 60, 61, 174, 175, 176, 177, 178, 567, 568, 569, 570, 571, 572, 573, 574, 575, 576, 577, 591, 592, 593, 594, 595] (by decide +kernel) (by decide +kernel)
set_option maxRecDepth 20000 in
theorem gL_law_X1_best : GoodIn wsL_law (wsV RL 142 RX1 yX1_best wsX1_best) := goodIn_app (goodIn_of _ (by decide +kernel)) ggL_law_X1_best
set_option maxRecDepth 20000 in
theorem ggL_law_X2_best : GoodIn wsL_law wsX2_best := goodIn_r _ [543, 121, 96, 84, 263, 264, 265, 5, 266, 87, 267, 268, 269, 270, 271, 272, 273, 274, 86, 214, 215, 216, 217, 81, 97, 82, 98, 218, 219, 220, 221, 85, 122, 123, 124, 578, 579, 580, 581, 582, 583, 584, 585, 586, 587, 588, 589, 590] (by decide +kernel) (by decide +kernel)
set_option maxRecDepth 20000 in
theorem gL_law_X2_best : GoodIn wsL_law (wsV RL 145 RX2 yX2_best wsX2_best) := goodIn_app (goodIn_of _ (by decide +kernel)) ggL_law_X2_best
set_option maxRecDepth 20000 in
theorem ggL_law_X1_mean : GoodIn wsL_law wsX1_mean := goodIn_r _ [547, 21, 74, 179, 180, 2, 181, 567, 568, 569, 570, 571, 572, 573, 574, 575, 576, 577] (by decide +kernel) (by decide +kernel)
set_option maxRecDepth 20000 in
theorem gL_law_X1_mean : GoodIn wsL_law (wsV RL 146 RX1 yX1_mean wsX1_mean) := goodIn_app (goodIn_of _ (by decide +kernel)) ggL_law_X1_mean
set_option maxRecDepth 20000 in
theorem ggL_law_X2_mean : GoodIn wsL_law wsX2_mean := goodIn_r _ [551, 121, 96, 87, 263, 264, 265, 5, 266, 84, 267, 268, 269, 270, 271, 272, 273, 274, 86, 214, 215, 216, 217, 81, 97, 82, 98, 218, 219, 220, 221, 85, 122, 123, 124, 578, 579, 580, 581, 582, 583, 584, 585, 586, 587, 588, 589, 590] (by decide +kernel) (by decide +kernel)
set_option maxRecDepth 20000 in
theorem gL_law_X2_mean : GoodIn wsL_law (wsV RL 150 RX2 yX2_mean wsX2_mean) := goodIn_app (goodIn_of _ (by decide +kernel)) ggL_law_X2_mean
set_option maxRecDepth 20000 in
theorem ggL_law_X1_digest : GoodIn wsL_law wsX1_digest := goodIn_ca (goodIn_r _ [555, 556, 557, 74, 20, 73, 558, 463, 464, 2, 465, 21, 145, 146, 147, 148, 149, 443, 444, 445, 446, 18, 466, 467, 468, 469, 178, 60, 61, 179, 180, 181, 470, 471, 472, 473, 25, 398, 399, 400, 401, 76, 37, 38, 39, 402, 403, 404, 405, 26, 162, 163, 164, 165, 166, 167, 168, 169, 16, 170, 171, 172, 15, 173, 35, 174, 175, 176, 177, 559, 307, 308, 309, 141, 142, 143, 144, 310, 311, 312, 313, 31, 314, 315, 316, 317, 32, 318, 319, 320, 321, 33, 322, 323, 324, 325, 560, 440, 441, 442, 233, 234, 235, 236, 75, 54, 55, 241, 242, 243, 567, 568, 569, 570, 571, 572, 573, 574, 575, 576, 577, 591, 592, 593, 594, 595] (by decide +kernel) (by decide +kernel)) (goodIn_sub (fun _ h => List.mem_append_left _ (List.mem_append_right _ h)) (by decide +kernel))
set_option maxRecDepth 20000 in
theorem gL_law_X1_digest : GoodIn wsL_law (wsV RL 151 RX1 yX1_digest wsX1_digest) := goodIn_app (goodIn_of _ (by decide +kernel)) ggL_law_X1_digest
set_option maxRecDepth 20000 in
theorem ggL_law_X2_digest : GoodIn wsL_law wsX2_digest := goodIn_r _ [564, 121, 565, 566, 96, 86, 95, 478, 479, 480, 5, 481, 455, 456, 457, 458, 83, 84, 263, 264, 265, 266, 87, 267, 268, 269, 270, 271, 272, 273, 274, 214, 215, 216, 217, 81, 97, 82, 98, 218, 219, 220, 221, 85, 122, 123, 124, 482, 483, 484, 485, 88, 410, 411, 412, 413, 89, 330, 331, 332, 333, 334, 335, 336, 337, 451, 452, 453, 454, 257, 258, 259, 260, 261, 262, 578, 579, 580, 581, 582, 583, 584, 585, 586, 587, 588, 589, 590] (by decide +kernel) (by decide +kernel)
set_option maxRecDepth 20000 in
theorem gL_law_X2_digest : GoodIn wsL_law (wsV RL 155 RX2 yX2_digest wsX2_digest) := goodIn_app (goodIn_of _ (by decide +kernel)) ggL_law_X2_digest
theorem dL_law_0 : decode cL_law 0 = .ok (.new 8, 3) := by decide +kernel
theorem dL_law_3 : decode cL_law 3 = .ok (.dup, 1) := by decide +kernel
theorem dL_law_4 : decode cL_law 4 = .ok (.invokespecial 70, 3) := by decide +kernel
theorem dL_law_7 : decode cL_law 7 = .ok (.astore_n 1, 1) := by decide +kernel
theorem dL_law_8 : decode cL_law 8 = .ok (.new 71, 3) := by decide +kernel
theorem dL_law_11 : decode cL_law 11 = .ok (.dup, 1) := by decide +kernel
theorem dL_law_12 : decode cL_law 12 = .ok (.invokespecial 73, 3) := by decide +kernel
theorem dL_law_15 : decode cL_law 15 = .ok (.astore_n 2, 1) := by decide +kernel
theorem dL_law_16 : decode cL_law 16 = .ok (.iconst 1, 1) := by decide +kernel
theorem dL_law_17 : decode cL_law 17 = .ok (.newarray .long, 2) := by decide +kernel
theorem dL_law_19 : decode cL_law 19 = .ok (.astore_n 3, 1) := by decide +kernel
theorem dL_law_20 : decode cL_law 20 = .ok (.iconst 0, 1) := by decide +kernel
theorem dL_law_21 : decode cL_law 21 = .ok (.istore 4, 2) := by decide +kernel
theorem dL_law_23 : decode cL_law 23 = .ok (.iload 4, 2) := by decide +kernel
theorem dL_law_25 : decode cL_law 25 = .ok (.aload_n 0, 1) := by decide +kernel
theorem dL_law_26 : decode cL_law 26 = .ok (.arraylength, 1) := by decide +kernel
theorem dL_law_27 : decode cL_law 27 = .ok (.iconst 4, 1) := by decide +kernel
theorem dL_law_28 : decode cL_law 28 = .ok (.isub, 1) := by decide +kernel
theorem dL_law_29 : decode cL_law 29 = .ok (.if_icmp .gt 1392, 3) := by decide +kernel
theorem dL_law_32 : decode cL_law 32 = .ok (.aload_n 0, 1) := by decide +kernel
theorem dL_law_33 : decode cL_law 33 = .ok (.iload 4, 2) := by decide +kernel
theorem dL_law_35 : decode cL_law 35 = .ok (.iaload, 1) := by decide +kernel
theorem dL_law_36 : decode cL_law 36 = .ok (.bipush 31, 2) := by decide +kernel
theorem dL_law_38 : decode cL_law 38 = .ok (.iand, 1) := by decide +kernel
theorem dL_law_39 : decode cL_law 39 = .ok (.tableswitch 1376 0 21 #[101, 157, 225, 328, 396, 452, 489, 557, 625, 700, 768, 843, 911, 979, 1047, 1115, 1171, 1184, 1252, 1308, 1321, 1362], 101) := by decide +kernel
theorem dL_law_140 : decode cL_law 140 = .ok (.aload_n 1, 1) := by decide +kernel
theorem dL_law_141 : decode cL_law 141 = .ok (.aload_n 0, 1) := by decide +kernel
theorem dL_law_142 : decode cL_law 142 = .ok (.iload 4, 2) := by decide +kernel
theorem dL_law_144 : decode cL_law 144 = .ok (.iconst 1, 1) := by decide +kernel
theorem dL_law_145 : decode cL_law 145 = .ok (.iadd, 1) := by decide +kernel
theorem dL_law_146 : decode cL_law 146 = .ok (.iaload, 1) := by decide +kernel
theorem dL_law_147 : decode cL_law 147 = .ok (.aload_n 3, 1) := by decide +kernel
theorem dL_law_148 : decode cL_law 148 = .ok (.invokestatic 74, 3) := by decide +kernel
theorem dL_law_151 : decode cL_law 151 = .ok (.istore 5, 2) := by decide +kernel
theorem dL_law_153 : decode cL_law 153 = .ok (.aload_n 2, 1) := by decide +kernel
theorem dL_law_154 : decode cL_law 154 = .ok (.aload_n 0, 1) := by decide +kernel
theorem dL_law_155 : decode cL_law 155 = .ok (.iload 4, 2) := by decide +kernel
theorem dL_law_157 : decode cL_law 157 = .ok (.iconst 1, 1) := by decide +kernel
theorem dL_law_158 : decode cL_law 158 = .ok (.iadd, 1) := by decide +kernel
theorem dL_law_159 : decode cL_law 159 = .ok (.iaload, 1) := by decide +kernel
theorem dL_law_160 : decode cL_law 160 = .ok (.invokevirtual 79, 3) := by decide +kernel
theorem dL_law_163 : decode cL_law 163 = .ok (.istore 6, 2) := by decide +kernel
theorem dL_law_165 : decode cL_law 165 = .ok (.aload_n 2, 1) := by decide +kernel
theorem dL_law_166 : decode cL_law 166 = .ok (.invokevirtual 80, 3) := by decide +kernel
theorem dL_law_169 : decode cL_law 169 = .ok (.iload 5, 2) := by decide +kernel
theorem dL_law_171 : decode cL_law 171 = .ok (.if_icmp .eq 5, 3) := by decide +kernel
theorem dL_law_174 : decode cL_law 174 = .ok (.iconst 0, 1) := by decide +kernel
theorem dL_law_175 : decode cL_law 175 = .ok (.ireturn, 1) := by decide +kernel
theorem dL_law_176 : decode cL_law 176 = .ok (.iload 5, 2) := by decide +kernel
theorem dL_law_178 : decode cL_law 178 = .ok (.ifCond .ne 15, 3) := by decide +kernel
theorem dL_law_181 : decode cL_law 181 = .ok (.aload_n 3, 1) := by decide +kernel
theorem dL_law_182 : decode cL_law 182 = .ok (.iconst 0, 1) := by decide +kernel
theorem dL_law_183 : decode cL_law 183 = .ok (.laload, 1) := by decide +kernel
theorem dL_law_184 : decode cL_law 184 = .ok (.iload 6, 2) := by decide +kernel
theorem dL_law_186 : decode cL_law 186 = .ok (.i2l, 1) := by decide +kernel
theorem dL_law_187 : decode cL_law 187 = .ok (.lcmp, 1) := by decide +kernel
theorem dL_law_188 : decode cL_law 188 = .ok (.ifCond .eq 5, 3) := by decide +kernel
theorem dL_law_191 : decode cL_law 191 = .ok (.iconst 0, 1) := by decide +kernel
theorem dL_law_192 : decode cL_law 192 = .ok (.ireturn, 1) := by decide +kernel
theorem dL_law_193 : decode cL_law 193 = .ok (.goto 1222, 3) := by decide +kernel
theorem dL_law_196 : decode cL_law 196 = .ok (.aload_n 1, 1) := by decide +kernel
theorem dL_law_197 : decode cL_law 197 = .ok (.aload_n 0, 1) := by decide +kernel
theorem dL_law_198 : decode cL_law 198 = .ok (.iload 4, 2) := by decide +kernel
theorem dL_law_200 : decode cL_law 200 = .ok (.iconst 1, 1) := by decide +kernel
theorem dL_law_201 : decode cL_law 201 = .ok (.iadd, 1) := by decide +kernel
theorem dL_law_202 : decode cL_law 202 = .ok (.iaload, 1) := by decide +kernel
theorem dL_law_203 : decode cL_law 203 = .ok (.aload_n 0, 1) := by decide +kernel
theorem dL_law_204 : decode cL_law 204 = .ok (.iload 4, 2) := by decide +kernel
theorem dL_law_206 : decode cL_law 206 = .ok (.iconst 2, 1) := by decide +kernel
theorem dL_law_207 : decode cL_law 207 = .ok (.iadd, 1) := by decide +kernel
theorem dL_law_208 : decode cL_law 208 = .ok (.iaload, 1) := by decide +kernel
theorem dL_law_209 : decode cL_law 209 = .ok (.aload_n 3, 1) := by decide +kernel
theorem dL_law_210 : decode cL_law 210 = .ok (.invokestatic 84, 3) := by decide +kernel
theorem dL_law_213 : decode cL_law 213 = .ok (.istore 5, 2) := by decide +kernel
theorem dL_law_215 : decode cL_law 215 = .ok (.aload_n 2, 1) := by decide +kernel
theorem dL_law_216 : decode cL_law 216 = .ok (.aload_n 0, 1) := by decide +kernel
theorem dL_law_217 : decode cL_law 217 = .ok (.iload 4, 2) := by decide +kernel
theorem dL_law_219 : decode cL_law 219 = .ok (.iconst 1, 1) := by decide +kernel
theorem dL_law_220 : decode cL_law 220 = .ok (.iadd, 1) := by decide +kernel
theorem dL_law_221 : decode cL_law 221 = .ok (.iaload, 1) := by decide +kernel
theorem dL_law_222 : decode cL_law 222 = .ok (.aload_n 0, 1) := by decide +kernel
theorem dL_law_223 : decode cL_law 223 = .ok (.iload 4, 2) := by decide +kernel
theorem dL_law_225 : decode cL_law 225 = .ok (.iconst 2, 1) := by decide +kernel
theorem dL_law_226 : decode cL_law 226 = .ok (.iadd, 1) := by decide +kernel
theorem dL_law_227 : decode cL_law 227 = .ok (.iaload, 1) := by decide +kernel
theorem dL_law_228 : decode cL_law 228 = .ok (.invokevirtual 87, 3) := by decide +kernel
theorem dL_law_231 : decode cL_law 231 = .ok (.istore 6, 2) := by decide +kernel
theorem dL_law_233 : decode cL_law 233 = .ok (.aload_n 2, 1) := by decide +kernel
theorem dL_law_234 : decode cL_law 234 = .ok (.invokevirtual 80, 3) := by decide +kernel
theorem dL_law_237 : decode cL_law 237 = .ok (.iload 5, 2) := by decide +kernel
theorem dL_law_239 : decode cL_law 239 = .ok (.if_icmp .eq 5, 3) := by decide +kernel
theorem dL_law_242 : decode cL_law 242 = .ok (.iconst 0, 1) := by decide +kernel
theorem dL_law_243 : decode cL_law 243 = .ok (.ireturn, 1) := by decide +kernel
theorem dL_law_244 : decode cL_law 244 = .ok (.iload 5, 2) := by decide +kernel
theorem dL_law_246 : decode cL_law 246 = .ok (.ifCond .ne 15, 3) := by decide +kernel
theorem dL_law_249 : decode cL_law 249 = .ok (.aload_n 3, 1) := by decide +kernel
theorem dL_law_250 : decode cL_law 250 = .ok (.iconst 0, 1) := by decide +kernel
theorem dL_law_251 : decode cL_law 251 = .ok (.laload, 1) := by decide +kernel
theorem dL_law_252 : decode cL_law 252 = .ok (.iload 6, 2) := by decide +kernel
theorem dL_law_254 : decode cL_law 254 = .ok (.i2l, 1) := by decide +kernel
theorem dL_law_255 : decode cL_law 255 = .ok (.lcmp, 1) := by decide +kernel
theorem dL_law_256 : decode cL_law 256 = .ok (.ifCond .eq 5, 3) := by decide +kernel
theorem dL_law_259 : decode cL_law 259 = .ok (.iconst 0, 1) := by decide +kernel
theorem dL_law_260 : decode cL_law 260 = .ok (.ireturn, 1) := by decide +kernel
theorem dL_law_261 : decode cL_law 261 = .ok (.goto 1154, 3) := by decide +kernel
theorem dL_law_264 : decode cL_law 264 = .ok (.aload_n 1, 1) := by decide +kernel
theorem dL_law_265 : decode cL_law 265 = .ok (.aload_n 0, 1) := by decide +kernel
theorem dL_law_266 : decode cL_law 266 = .ok (.iload 4, 2) := by decide +kernel
theorem dL_law_268 : decode cL_law 268 = .ok (.iconst 1, 1) := by decide +kernel
theorem dL_law_269 : decode cL_law 269 = .ok (.iadd, 1) := by decide +kernel
theorem dL_law_270 : decode cL_law 270 = .ok (.iaload, 1) := by decide +kernel
theorem dL_law_271 : decode cL_law 271 = .ok (.aload_n 0, 1) := by decide +kernel
theorem dL_law_272 : decode cL_law 272 = .ok (.iload 4, 2) := by decide +kernel
theorem dL_law_274 : decode cL_law 274 = .ok (.iconst 2, 1) := by decide +kernel
theorem dL_law_275 : decode cL_law 275 = .ok (.iadd, 1) := by decide +kernel
theorem dL_law_276 : decode cL_law 276 = .ok (.iaload, 1) := by decide +kernel
theorem dL_law_277 : decode cL_law 277 = .ok (.aload_n 0, 1) := by decide +kernel
theorem dL_law_278 : decode cL_law 278 = .ok (.iload 4, 2) := by decide +kernel
theorem dL_law_280 : decode cL_law 280 = .ok (.iconst 3, 1) := by decide +kernel
theorem dL_law_281 : decode cL_law 281 = .ok (.iadd, 1) := by decide +kernel
theorem dL_law_282 : decode cL_law 282 = .ok (.iaload, 1) := by decide +kernel
theorem dL_law_283 : decode cL_law 283 = .ok (.ifCond .eq 7, 3) := by decide +kernel
theorem dL_law_286 : decode cL_law 286 = .ok (.iconst 1, 1) := by decide +kernel
theorem dL_law_287 : decode cL_law 287 = .ok (.goto 4, 3) := by decide +kernel
theorem dL_law_290 : decode cL_law 290 = .ok (.iconst 0, 1) := by decide +kernel
theorem dL_law_291 : decode cL_law 291 = .ok (.aload_n 3, 1) := by decide +kernel
theorem dL_law_292 : decode cL_law 292 = .ok (.invokestatic 88, 3) := by decide +kernel
theorem dL_law_295 : decode cL_law 295 = .ok (.istore 5, 2) := by decide +kernel
theorem dL_law_297 : decode cL_law 297 = .ok (.aload_n 2, 1) := by decide +kernel
theorem dL_law_298 : decode cL_law 298 = .ok (.aload_n 0, 1) := by decide +kernel
theorem dL_law_299 : decode cL_law 299 = .ok (.iload 4, 2) := by decide +kernel
theorem dL_law_301 : decode cL_law 301 = .ok (.iconst 1, 1) := by decide +kernel
theorem dL_law_302 : decode cL_law 302 = .ok (.iadd, 1) := by decide +kernel
theorem dL_law_303 : decode cL_law 303 = .ok (.iaload, 1) := by decide +kernel
theorem dL_law_304 : decode cL_law 304 = .ok (.aload_n 0, 1) := by decide +kernel
theorem dL_law_305 : decode cL_law 305 = .ok (.iload 4, 2) := by decide +kernel
theorem dL_law_307 : decode cL_law 307 = .ok (.iconst 2, 1) := by decide +kernel
theorem dL_law_308 : decode cL_law 308 = .ok (.iadd, 1) := by decide +kernel
theorem dL_law_309 : decode cL_law 309 = .ok (.iaload, 1) := by decide +kernel
theorem dL_law_310 : decode cL_law 310 = .ok (.aload_n 0, 1) := by decide +kernel
theorem dL_law_311 : decode cL_law 311 = .ok (.iload 4, 2) := by decide +kernel
theorem dL_law_313 : decode cL_law 313 = .ok (.iconst 3, 1) := by decide +kernel
theorem dL_law_314 : decode cL_law 314 = .ok (.iadd, 1) := by decide +kernel
theorem dL_law_315 : decode cL_law 315 = .ok (.iaload, 1) := by decide +kernel
theorem dL_law_316 : decode cL_law 316 = .ok (.ifCond .eq 7, 3) := by decide +kernel
theorem dL_law_319 : decode cL_law 319 = .ok (.iconst 1, 1) := by decide +kernel
theorem dL_law_320 : decode cL_law 320 = .ok (.goto 4, 3) := by decide +kernel
theorem dL_law_323 : decode cL_law 323 = .ok (.iconst 0, 1) := by decide +kernel
theorem dL_law_324 : decode cL_law 324 = .ok (.invokevirtual 91, 3) := by decide +kernel
theorem dL_law_327 : decode cL_law 327 = .ok (.istore 6, 2) := by decide +kernel
theorem dL_law_329 : decode cL_law 329 = .ok (.aload_n 2, 1) := by decide +kernel
theorem dL_law_330 : decode cL_law 330 = .ok (.invokevirtual 80, 3) := by decide +kernel
theorem dL_law_333 : decode cL_law 333 = .ok (.iload 5, 2) := by decide +kernel
theorem dL_law_335 : decode cL_law 335 = .ok (.if_icmp .eq 5, 3) := by decide +kernel
theorem dL_law_338 : decode cL_law 338 = .ok (.iconst 0, 1) := by decide +kernel
theorem dL_law_339 : decode cL_law 339 = .ok (.ireturn, 1) := by decide +kernel
theorem dL_law_340 : decode cL_law 340 = .ok (.iload 5, 2) := by decide +kernel
theorem dL_law_342 : decode cL_law 342 = .ok (.ifCond .ne 22, 3) := by decide +kernel
theorem dL_law_345 : decode cL_law 345 = .ok (.aload_n 3, 1) := by decide +kernel
theorem dL_law_346 : decode cL_law 346 = .ok (.iconst 0, 1) := by decide +kernel
theorem dL_law_347 : decode cL_law 347 = .ok (.laload, 1) := by decide +kernel
theorem dL_law_348 : decode cL_law 348 = .ok (.iload 6, 2) := by decide +kernel
theorem dL_law_350 : decode cL_law 350 = .ok (.ifCond .eq 7, 3) := by decide +kernel
theorem dL_law_353 : decode cL_law 353 = .ok (.lconst 1, 1) := by decide +kernel
theorem dL_law_354 : decode cL_law 354 = .ok (.goto 4, 3) := by decide +kernel
theorem dL_law_357 : decode cL_law 357 = .ok (.lconst 0, 1) := by decide +kernel
theorem dL_law_358 : decode cL_law 358 = .ok (.lcmp, 1) := by decide +kernel
theorem dL_law_359 : decode cL_law 359 = .ok (.ifCond .eq 5, 3) := by decide +kernel
theorem dL_law_362 : decode cL_law 362 = .ok (.iconst 0, 1) := by decide +kernel
theorem dL_law_363 : decode cL_law 363 = .ok (.ireturn, 1) := by decide +kernel
theorem dL_law_364 : decode cL_law 364 = .ok (.goto 1051, 3) := by decide +kernel
theorem dL_law_367 : decode cL_law 367 = .ok (.aload_n 1, 1) := by decide +kernel
theorem dL_law_368 : decode cL_law 368 = .ok (.aload_n 0, 1) := by decide +kernel
theorem dL_law_369 : decode cL_law 369 = .ok (.iload 4, 2) := by decide +kernel
theorem dL_law_371 : decode cL_law 371 = .ok (.iconst 1, 1) := by decide +kernel
theorem dL_law_372 : decode cL_law 372 = .ok (.iadd, 1) := by decide +kernel
theorem dL_law_373 : decode cL_law 373 = .ok (.iaload, 1) := by decide +kernel
theorem dL_law_374 : decode cL_law 374 = .ok (.aload_n 0, 1) := by decide +kernel
theorem dL_law_375 : decode cL_law 375 = .ok (.iload 4, 2) := by decide +kernel
theorem dL_law_377 : decode cL_law 377 = .ok (.iconst 2, 1) := by decide +kernel
theorem dL_law_378 : decode cL_law 378 = .ok (.iadd, 1) := by decide +kernel
theorem dL_law_379 : decode cL_law 379 = .ok (.iaload, 1) := by decide +kernel
theorem dL_law_380 : decode cL_law 380 = .ok (.aload_n 3, 1) := by decide +kernel
theorem dL_law_381 : decode cL_law 381 = .ok (.invokestatic 92, 3) := by decide +kernel
theorem dL_law_384 : decode cL_law 384 = .ok (.istore 5, 2) := by decide +kernel
theorem dL_law_386 : decode cL_law 386 = .ok (.aload_n 2, 1) := by decide +kernel
theorem dL_law_387 : decode cL_law 387 = .ok (.aload_n 0, 1) := by decide +kernel
theorem dL_law_388 : decode cL_law 388 = .ok (.iload 4, 2) := by decide +kernel
theorem dL_law_390 : decode cL_law 390 = .ok (.iconst 1, 1) := by decide +kernel
theorem dL_law_391 : decode cL_law 391 = .ok (.iadd, 1) := by decide +kernel
theorem dL_law_392 : decode cL_law 392 = .ok (.iaload, 1) := by decide +kernel
theorem dL_law_393 : decode cL_law 393 = .ok (.aload_n 0, 1) := by decide +kernel
theorem dL_law_394 : decode cL_law 394 = .ok (.iload 4, 2) := by decide +kernel
theorem dL_law_396 : decode cL_law 396 = .ok (.iconst 2, 1) := by decide +kernel
theorem dL_law_397 : decode cL_law 397 = .ok (.iadd, 1) := by decide +kernel
theorem dL_law_398 : decode cL_law 398 = .ok (.iaload, 1) := by decide +kernel
theorem dL_law_399 : decode cL_law 399 = .ok (.invokevirtual 94, 3) := by decide +kernel
theorem dL_law_402 : decode cL_law 402 = .ok (.istore 6, 2) := by decide +kernel
theorem dL_law_404 : decode cL_law 404 = .ok (.aload_n 2, 1) := by decide +kernel
theorem dL_law_405 : decode cL_law 405 = .ok (.invokevirtual 80, 3) := by decide +kernel
theorem dL_law_408 : decode cL_law 408 = .ok (.iload 5, 2) := by decide +kernel
theorem dL_law_410 : decode cL_law 410 = .ok (.if_icmp .eq 5, 3) := by decide +kernel
theorem dL_law_413 : decode cL_law 413 = .ok (.iconst 0, 1) := by decide +kernel
theorem dL_law_414 : decode cL_law 414 = .ok (.ireturn, 1) := by decide +kernel
theorem dL_law_415 : decode cL_law 415 = .ok (.iload 5, 2) := by decide +kernel
theorem dL_law_417 : decode cL_law 417 = .ok (.ifCond .ne 15, 3) := by decide +kernel
theorem dL_law_420 : decode cL_law 420 = .ok (.aload_n 3, 1) := by decide +kernel
theorem dL_law_421 : decode cL_law 421 = .ok (.iconst 0, 1) := by decide +kernel
theorem dL_law_422 : decode cL_law 422 = .ok (.laload, 1) := by decide +kernel
theorem dL_law_423 : decode cL_law 423 = .ok (.iload 6, 2) := by decide +kernel
theorem dL_law_425 : decode cL_law 425 = .ok (.i2l, 1) := by decide +kernel
theorem dL_law_426 : decode cL_law 426 = .ok (.lcmp, 1) := by decide +kernel
theorem dL_law_427 : decode cL_law 427 = .ok (.ifCond .eq 5, 3) := by decide +kernel
theorem dL_law_430 : decode cL_law 430 = .ok (.iconst 0, 1) := by decide +kernel
theorem dL_law_431 : decode cL_law 431 = .ok (.ireturn, 1) := by decide +kernel
theorem dL_law_432 : decode cL_law 432 = .ok (.goto 983, 3) := by decide +kernel
theorem dL_law_435 : decode cL_law 435 = .ok (.aload_n 1, 1) := by decide +kernel
theorem dL_law_436 : decode cL_law 436 = .ok (.aload_n 0, 1) := by decide +kernel
theorem dL_law_437 : decode cL_law 437 = .ok (.iload 4, 2) := by decide +kernel
theorem dL_law_439 : decode cL_law 439 = .ok (.iconst 1, 1) := by decide +kernel
theorem dL_law_440 : decode cL_law 440 = .ok (.iadd, 1) := by decide +kernel
theorem dL_law_441 : decode cL_law 441 = .ok (.iaload, 1) := by decide +kernel
theorem dL_law_442 : decode cL_law 442 = .ok (.aload_n 3, 1) := by decide +kernel
theorem dL_law_443 : decode cL_law 443 = .ok (.invokestatic 95, 3) := by decide +kernel
theorem dL_law_446 : decode cL_law 446 = .ok (.istore 5, 2) := by decide +kernel
theorem dL_law_448 : decode cL_law 448 = .ok (.aload_n 2, 1) := by decide +kernel
theorem dL_law_449 : decode cL_law 449 = .ok (.aload_n 0, 1) := by decide +kernel
theorem dL_law_450 : decode cL_law 450 = .ok (.iload 4, 2) := by decide +kernel
theorem dL_law_452 : decode cL_law 452 = .ok (.iconst 1, 1) := by decide +kernel
theorem dL_law_453 : decode cL_law 453 = .ok (.iadd, 1) := by decide +kernel
theorem dL_law_454 : decode cL_law 454 = .ok (.iaload, 1) := by decide +kernel
theorem dL_law_455 : decode cL_law 455 = .ok (.invokevirtual 97, 3) := by decide +kernel
theorem dL_law_458 : decode cL_law 458 = .ok (.istore 6, 2) := by decide +kernel
theorem dL_law_460 : decode cL_law 460 = .ok (.aload_n 2, 1) := by decide +kernel
theorem dL_law_461 : decode cL_law 461 = .ok (.invokevirtual 80, 3) := by decide +kernel
theorem dL_law_464 : decode cL_law 464 = .ok (.iload 5, 2) := by decide +kernel
theorem dL_law_466 : decode cL_law 466 = .ok (.if_icmp .eq 5, 3) := by decide +kernel
theorem dL_law_469 : decode cL_law 469 = .ok (.iconst 0, 1) := by decide +kernel
theorem dL_law_470 : decode cL_law 470 = .ok (.ireturn, 1) := by decide +kernel
theorem dL_law_471 : decode cL_law 471 = .ok (.iload 5, 2) := by decide +kernel
theorem dL_law_473 : decode cL_law 473 = .ok (.ifCond .ne 15, 3) := by decide +kernel
theorem dL_law_476 : decode cL_law 476 = .ok (.aload_n 3, 1) := by decide +kernel
theorem dL_law_477 : decode cL_law 477 = .ok (.iconst 0, 1) := by decide +kernel
theorem dL_law_478 : decode cL_law 478 = .ok (.laload, 1) := by decide +kernel
theorem dL_law_479 : decode cL_law 479 = .ok (.iload 6, 2) := by decide +kernel
theorem dL_law_481 : decode cL_law 481 = .ok (.i2l, 1) := by decide +kernel
theorem dL_law_482 : decode cL_law 482 = .ok (.lcmp, 1) := by decide +kernel
theorem dL_law_483 : decode cL_law 483 = .ok (.ifCond .eq 5, 3) := by decide +kernel
theorem dL_law_486 : decode cL_law 486 = .ok (.iconst 0, 1) := by decide +kernel
theorem dL_law_487 : decode cL_law 487 = .ok (.ireturn, 1) := by decide +kernel
theorem dL_law_488 : decode cL_law 488 = .ok (.goto 927, 3) := by decide +kernel
theorem dL_law_491 : decode cL_law 491 = .ok (.aload_n 1, 1) := by decide +kernel
theorem dL_law_492 : decode cL_law 492 = .ok (.aload_n 0, 1) := by decide +kernel
theorem dL_law_493 : decode cL_law 493 = .ok (.iload 4, 2) := by decide +kernel
theorem dL_law_495 : decode cL_law 495 = .ok (.iconst 1, 1) := by decide +kernel
theorem dL_law_496 : decode cL_law 496 = .ok (.iadd, 1) := by decide +kernel
theorem dL_law_497 : decode cL_law 497 = .ok (.iaload, 1) := by decide +kernel
theorem dL_law_498 : decode cL_law 498 = .ok (.aload_n 0, 1) := by decide +kernel
theorem dL_law_499 : decode cL_law 499 = .ok (.iload 4, 2) := by decide +kernel
theorem dL_law_501 : decode cL_law 501 = .ok (.iconst 2, 1) := by decide +kernel
theorem dL_law_502 : decode cL_law 502 = .ok (.iadd, 1) := by decide +kernel
theorem dL_law_503 : decode cL_law 503 = .ok (.iaload, 1) := by decide +kernel
theorem dL_law_504 : decode cL_law 504 = .ok (.invokevirtual 98, 3) := by decide +kernel
theorem dL_law_507 : decode cL_law 507 = .ok (.aload_n 2, 1) := by decide +kernel
theorem dL_law_508 : decode cL_law 508 = .ok (.aload_n 0, 1) := by decide +kernel
theorem dL_law_509 : decode cL_law 509 = .ok (.iload 4, 2) := by decide +kernel
theorem dL_law_511 : decode cL_law 511 = .ok (.iconst 1, 1) := by decide +kernel
theorem dL_law_512 : decode cL_law 512 = .ok (.iadd, 1) := by decide +kernel
theorem dL_law_513 : decode cL_law 513 = .ok (.iaload, 1) := by decide +kernel
theorem dL_law_514 : decode cL_law 514 = .ok (.aload_n 0, 1) := by decide +kernel
theorem dL_law_515 : decode cL_law 515 = .ok (.iload 4, 2) := by decide +kernel
theorem dL_law_517 : decode cL_law 517 = .ok (.iconst 2, 1) := by decide +kernel
theorem dL_law_518 : decode cL_law 518 = .ok (.iadd, 1) := by decide +kernel
theorem dL_law_519 : decode cL_law 519 = .ok (.iaload, 1) := by decide +kernel
theorem dL_law_520 : decode cL_law 520 = .ok (.invokevirtual 101, 3) := by decide +kernel
theorem dL_law_523 : decode cL_law 523 = .ok (.if_icmp .eq 892, 3) := by decide +kernel
theorem dL_law_526 : decode cL_law 526 = .ok (.iconst 0, 1) := by decide +kernel
theorem dL_law_527 : decode cL_law 527 = .ok (.ireturn, 1) := by decide +kernel
theorem dL_law_528 : decode cL_law 528 = .ok (.aload_n 1, 1) := by decide +kernel
theorem dL_law_529 : decode cL_law 529 = .ok (.aload_n 0, 1) := by decide +kernel
theorem dL_law_530 : decode cL_law 530 = .ok (.iload 4, 2) := by decide +kernel
theorem dL_law_532 : decode cL_law 532 = .ok (.iconst 1, 1) := by decide +kernel
theorem dL_law_533 : decode cL_law 533 = .ok (.iadd, 1) := by decide +kernel
theorem dL_law_534 : decode cL_law 534 = .ok (.iaload, 1) := by decide +kernel
theorem dL_law_535 : decode cL_law 535 = .ok (.aload_n 0, 1) := by decide +kernel
theorem dL_law_536 : decode cL_law 536 = .ok (.iload 4, 2) := by decide +kernel
theorem dL_law_538 : decode cL_law 538 = .ok (.iconst 2, 1) := by decide +kernel
theorem dL_law_539 : decode cL_law 539 = .ok (.iadd, 1) := by decide +kernel
theorem dL_law_540 : decode cL_law 540 = .ok (.iaload, 1) := by decide +kernel
theorem dL_law_541 : decode cL_law 541 = .ok (.aload_n 3, 1) := by decide +kernel
theorem dL_law_542 : decode cL_law 542 = .ok (.invokestatic 102, 3) := by decide +kernel
theorem dL_law_545 : decode cL_law 545 = .ok (.istore 5, 2) := by decide +kernel
theorem dL_law_547 : decode cL_law 547 = .ok (.aload_n 2, 1) := by decide +kernel
theorem dL_law_548 : decode cL_law 548 = .ok (.aload_n 0, 1) := by decide +kernel
theorem dL_law_549 : decode cL_law 549 = .ok (.iload 4, 2) := by decide +kernel
theorem dL_law_551 : decode cL_law 551 = .ok (.iconst 1, 1) := by decide +kernel
theorem dL_law_552 : decode cL_law 552 = .ok (.iadd, 1) := by decide +kernel
theorem dL_law_553 : decode cL_law 553 = .ok (.iaload, 1) := by decide +kernel
theorem dL_law_554 : decode cL_law 554 = .ok (.aload_n 0, 1) := by decide +kernel
theorem dL_law_555 : decode cL_law 555 = .ok (.iload 4, 2) := by decide +kernel
theorem dL_law_557 : decode cL_law 557 = .ok (.iconst 2, 1) := by decide +kernel
theorem dL_law_558 : decode cL_law 558 = .ok (.iadd, 1) := by decide +kernel
theorem dL_law_559 : decode cL_law 559 = .ok (.iaload, 1) := by decide +kernel
theorem dL_law_560 : decode cL_law 560 = .ok (.invokevirtual 104, 3) := by decide +kernel
theorem dL_law_563 : decode cL_law 563 = .ok (.istore 6, 2) := by decide +kernel
theorem dL_law_565 : decode cL_law 565 = .ok (.aload_n 2, 1) := by decide +kernel
theorem dL_law_566 : decode cL_law 566 = .ok (.invokevirtual 80, 3) := by decide +kernel
theorem dL_law_569 : decode cL_law 569 = .ok (.iload 5, 2) := by decide +kernel
theorem dL_law_571 : decode cL_law 571 = .ok (.if_icmp .eq 5, 3) := by decide +kernel
theorem dL_law_574 : decode cL_law 574 = .ok (.iconst 0, 1) := by decide +kernel
theorem dL_law_575 : decode cL_law 575 = .ok (.ireturn, 1) := by decide +kernel
theorem dL_law_576 : decode cL_law 576 = .ok (.iload 5, 2) := by decide +kernel
theorem dL_law_578 : decode cL_law 578 = .ok (.ifCond .ne 15, 3) := by decide +kernel
theorem dL_law_581 : decode cL_law 581 = .ok (.aload_n 3, 1) := by decide +kernel
theorem dL_law_582 : decode cL_law 582 = .ok (.iconst 0, 1) := by decide +kernel
theorem dL_law_583 : decode cL_law 583 = .ok (.laload, 1) := by decide +kernel
theorem dL_law_584 : decode cL_law 584 = .ok (.iload 6, 2) := by decide +kernel
theorem dL_law_586 : decode cL_law 586 = .ok (.i2l, 1) := by decide +kernel
theorem dL_law_587 : decode cL_law 587 = .ok (.lcmp, 1) := by decide +kernel
theorem dL_law_588 : decode cL_law 588 = .ok (.ifCond .eq 5, 3) := by decide +kernel
theorem dL_law_591 : decode cL_law 591 = .ok (.iconst 0, 1) := by decide +kernel
theorem dL_law_592 : decode cL_law 592 = .ok (.ireturn, 1) := by decide +kernel
theorem dL_law_593 : decode cL_law 593 = .ok (.goto 822, 3) := by decide +kernel
theorem dL_law_596 : decode cL_law 596 = .ok (.aload_n 1, 1) := by decide +kernel
theorem dL_law_597 : decode cL_law 597 = .ok (.aload_n 0, 1) := by decide +kernel
theorem dL_law_598 : decode cL_law 598 = .ok (.iload 4, 2) := by decide +kernel
theorem dL_law_600 : decode cL_law 600 = .ok (.iconst 1, 1) := by decide +kernel
theorem dL_law_601 : decode cL_law 601 = .ok (.iadd, 1) := by decide +kernel
theorem dL_law_602 : decode cL_law 602 = .ok (.iaload, 1) := by decide +kernel
theorem dL_law_603 : decode cL_law 603 = .ok (.aload_n 0, 1) := by decide +kernel
theorem dL_law_604 : decode cL_law 604 = .ok (.iload 4, 2) := by decide +kernel
theorem dL_law_606 : decode cL_law 606 = .ok (.iconst 2, 1) := by decide +kernel
theorem dL_law_607 : decode cL_law 607 = .ok (.iadd, 1) := by decide +kernel
theorem dL_law_608 : decode cL_law 608 = .ok (.iaload, 1) := by decide +kernel
theorem dL_law_609 : decode cL_law 609 = .ok (.aload_n 3, 1) := by decide +kernel
theorem dL_law_610 : decode cL_law 610 = .ok (.invokestatic 105, 3) := by decide +kernel
theorem dL_law_613 : decode cL_law 613 = .ok (.istore 5, 2) := by decide +kernel
theorem dL_law_615 : decode cL_law 615 = .ok (.aload_n 2, 1) := by decide +kernel
theorem dL_law_616 : decode cL_law 616 = .ok (.aload_n 0, 1) := by decide +kernel
theorem dL_law_617 : decode cL_law 617 = .ok (.iload 4, 2) := by decide +kernel
theorem dL_law_619 : decode cL_law 619 = .ok (.iconst 1, 1) := by decide +kernel
theorem dL_law_620 : decode cL_law 620 = .ok (.iadd, 1) := by decide +kernel
theorem dL_law_621 : decode cL_law 621 = .ok (.iaload, 1) := by decide +kernel
theorem dL_law_622 : decode cL_law 622 = .ok (.aload_n 0, 1) := by decide +kernel
theorem dL_law_623 : decode cL_law 623 = .ok (.iload 4, 2) := by decide +kernel
theorem dL_law_625 : decode cL_law 625 = .ok (.iconst 2, 1) := by decide +kernel
theorem dL_law_626 : decode cL_law 626 = .ok (.iadd, 1) := by decide +kernel
theorem dL_law_627 : decode cL_law 627 = .ok (.iaload, 1) := by decide +kernel
theorem dL_law_628 : decode cL_law 628 = .ok (.invokevirtual 107, 3) := by decide +kernel
theorem dL_law_631 : decode cL_law 631 = .ok (.istore 6, 2) := by decide +kernel
theorem dL_law_633 : decode cL_law 633 = .ok (.aload_n 2, 1) := by decide +kernel
theorem dL_law_634 : decode cL_law 634 = .ok (.invokevirtual 80, 3) := by decide +kernel
theorem dL_law_637 : decode cL_law 637 = .ok (.iload 5, 2) := by decide +kernel
theorem dL_law_639 : decode cL_law 639 = .ok (.if_icmp .eq 5, 3) := by decide +kernel
theorem dL_law_642 : decode cL_law 642 = .ok (.iconst 0, 1) := by decide +kernel
theorem dL_law_643 : decode cL_law 643 = .ok (.ireturn, 1) := by decide +kernel
theorem dL_law_644 : decode cL_law 644 = .ok (.iload 5, 2) := by decide +kernel
theorem dL_law_646 : decode cL_law 646 = .ok (.ifCond .ne 15, 3) := by decide +kernel
theorem dL_law_649 : decode cL_law 649 = .ok (.aload_n 3, 1) := by decide +kernel
theorem dL_law_650 : decode cL_law 650 = .ok (.iconst 0, 1) := by decide +kernel
theorem dL_law_651 : decode cL_law 651 = .ok (.laload, 1) := by decide +kernel
theorem dL_law_652 : decode cL_law 652 = .ok (.iload 6, 2) := by decide +kernel
theorem dL_law_654 : decode cL_law 654 = .ok (.i2l, 1) := by decide +kernel
theorem dL_law_655 : decode cL_law 655 = .ok (.lcmp, 1) := by decide +kernel
theorem dL_law_656 : decode cL_law 656 = .ok (.ifCond .eq 5, 3) := by decide +kernel
theorem dL_law_659 : decode cL_law 659 = .ok (.iconst 0, 1) := by decide +kernel
theorem dL_law_660 : decode cL_law 660 = .ok (.ireturn, 1) := by decide +kernel
theorem dL_law_661 : decode cL_law 661 = .ok (.goto 754, 3) := by decide +kernel
theorem dL_law_664 : decode cL_law 664 = .ok (.aload_n 1, 1) := by decide +kernel
theorem dL_law_665 : decode cL_law 665 = .ok (.aload_n 0, 1) := by decide +kernel
theorem dL_law_666 : decode cL_law 666 = .ok (.iload 4, 2) := by decide +kernel
theorem dL_law_668 : decode cL_law 668 = .ok (.iconst 1, 1) := by decide +kernel
theorem dL_law_669 : decode cL_law 669 = .ok (.iadd, 1) := by decide +kernel
theorem dL_law_670 : decode cL_law 670 = .ok (.iaload, 1) := by decide +kernel
theorem dL_law_671 : decode cL_law 671 = .ok (.aload_n 0, 1) := by decide +kernel
theorem dL_law_672 : decode cL_law 672 = .ok (.iload 4, 2) := by decide +kernel
theorem dL_law_674 : decode cL_law 674 = .ok (.iconst 2, 1) := by decide +kernel
theorem dL_law_675 : decode cL_law 675 = .ok (.iadd, 1) := by decide +kernel
theorem dL_law_676 : decode cL_law 676 = .ok (.iaload, 1) := by decide +kernel
theorem dL_law_677 : decode cL_law 677 = .ok (.aload_n 3, 1) := by decide +kernel
theorem dL_law_678 : decode cL_law 678 = .ok (.invokestatic 108, 3) := by decide +kernel
theorem dL_law_681 : decode cL_law 681 = .ok (.istore 5, 2) := by decide +kernel
theorem dL_law_683 : decode cL_law 683 = .ok (.aload_n 2, 1) := by decide +kernel
theorem dL_law_684 : decode cL_law 684 = .ok (.aload_n 0, 1) := by decide +kernel
theorem dL_law_685 : decode cL_law 685 = .ok (.iload 4, 2) := by decide +kernel
theorem dL_law_687 : decode cL_law 687 = .ok (.iconst 1, 1) := by decide +kernel
theorem dL_law_688 : decode cL_law 688 = .ok (.iadd, 1) := by decide +kernel
theorem dL_law_689 : decode cL_law 689 = .ok (.iaload, 1) := by decide +kernel
theorem dL_law_690 : decode cL_law 690 = .ok (.aload_n 0, 1) := by decide +kernel
theorem dL_law_691 : decode cL_law 691 = .ok (.iload 4, 2) := by decide +kernel
theorem dL_law_693 : decode cL_law 693 = .ok (.iconst 2, 1) := by decide +kernel
theorem dL_law_694 : decode cL_law 694 = .ok (.iadd, 1) := by decide +kernel
theorem dL_law_695 : decode cL_law 695 = .ok (.iaload, 1) := by decide +kernel
theorem dL_law_696 : decode cL_law 696 = .ok (.invokevirtual 110, 3) := by decide +kernel
theorem dL_law_699 : decode cL_law 699 = .ok (.istore 6, 2) := by decide +kernel
theorem dL_law_701 : decode cL_law 701 = .ok (.aload_n 2, 1) := by decide +kernel
theorem dL_law_702 : decode cL_law 702 = .ok (.invokevirtual 80, 3) := by decide +kernel
theorem dL_law_705 : decode cL_law 705 = .ok (.iload 5, 2) := by decide +kernel
theorem dL_law_707 : decode cL_law 707 = .ok (.if_icmp .eq 5, 3) := by decide +kernel
theorem dL_law_710 : decode cL_law 710 = .ok (.iconst 0, 1) := by decide +kernel
theorem dL_law_711 : decode cL_law 711 = .ok (.ireturn, 1) := by decide +kernel
theorem dL_law_712 : decode cL_law 712 = .ok (.iload 5, 2) := by decide +kernel
theorem dL_law_714 : decode cL_law 714 = .ok (.ifCond .ne 22, 3) := by decide +kernel
theorem dL_law_717 : decode cL_law 717 = .ok (.aload_n 3, 1) := by decide +kernel
theorem dL_law_718 : decode cL_law 718 = .ok (.iconst 0, 1) := by decide +kernel
theorem dL_law_719 : decode cL_law 719 = .ok (.laload, 1) := by decide +kernel
theorem dL_law_720 : decode cL_law 720 = .ok (.iload 6, 2) := by decide +kernel
theorem dL_law_722 : decode cL_law 722 = .ok (.ifCond .eq 7, 3) := by decide +kernel
theorem dL_law_725 : decode cL_law 725 = .ok (.lconst 1, 1) := by decide +kernel
theorem dL_law_726 : decode cL_law 726 = .ok (.goto 4, 3) := by decide +kernel
theorem dL_law_729 : decode cL_law 729 = .ok (.lconst 0, 1) := by decide +kernel
theorem dL_law_730 : decode cL_law 730 = .ok (.lcmp, 1) := by decide +kernel
theorem dL_law_731 : decode cL_law 731 = .ok (.ifCond .eq 5, 3) := by decide +kernel
theorem dL_law_734 : decode cL_law 734 = .ok (.iconst 0, 1) := by decide +kernel
theorem dL_law_735 : decode cL_law 735 = .ok (.ireturn, 1) := by decide +kernel
theorem dL_law_736 : decode cL_law 736 = .ok (.goto 679, 3) := by decide +kernel
theorem dL_law_739 : decode cL_law 739 = .ok (.aload_n 1, 1) := by decide +kernel
theorem dL_law_740 : decode cL_law 740 = .ok (.aload_n 0, 1) := by decide +kernel
theorem dL_law_741 : decode cL_law 741 = .ok (.iload 4, 2) := by decide +kernel
theorem dL_law_743 : decode cL_law 743 = .ok (.iconst 1, 1) := by decide +kernel
theorem dL_law_744 : decode cL_law 744 = .ok (.iadd, 1) := by decide +kernel
theorem dL_law_745 : decode cL_law 745 = .ok (.iaload, 1) := by decide +kernel
theorem dL_law_746 : decode cL_law 746 = .ok (.aload_n 0, 1) := by decide +kernel
theorem dL_law_747 : decode cL_law 747 = .ok (.iload 4, 2) := by decide +kernel
theorem dL_law_749 : decode cL_law 749 = .ok (.iconst 2, 1) := by decide +kernel
theorem dL_law_750 : decode cL_law 750 = .ok (.iadd, 1) := by decide +kernel
theorem dL_law_751 : decode cL_law 751 = .ok (.iaload, 1) := by decide +kernel
theorem dL_law_752 : decode cL_law 752 = .ok (.aload_n 3, 1) := by decide +kernel
theorem dL_law_753 : decode cL_law 753 = .ok (.invokestatic 111, 3) := by decide +kernel
theorem dL_law_756 : decode cL_law 756 = .ok (.istore 5, 2) := by decide +kernel
theorem dL_law_758 : decode cL_law 758 = .ok (.aload_n 2, 1) := by decide +kernel
theorem dL_law_759 : decode cL_law 759 = .ok (.aload_n 0, 1) := by decide +kernel
theorem dL_law_760 : decode cL_law 760 = .ok (.iload 4, 2) := by decide +kernel
theorem dL_law_762 : decode cL_law 762 = .ok (.iconst 1, 1) := by decide +kernel
theorem dL_law_763 : decode cL_law 763 = .ok (.iadd, 1) := by decide +kernel
theorem dL_law_764 : decode cL_law 764 = .ok (.iaload, 1) := by decide +kernel
theorem dL_law_765 : decode cL_law 765 = .ok (.aload_n 0, 1) := by decide +kernel
theorem dL_law_766 : decode cL_law 766 = .ok (.iload 4, 2) := by decide +kernel
theorem dL_law_768 : decode cL_law 768 = .ok (.iconst 2, 1) := by decide +kernel
theorem dL_law_769 : decode cL_law 769 = .ok (.iadd, 1) := by decide +kernel
theorem dL_law_770 : decode cL_law 770 = .ok (.iaload, 1) := by decide +kernel
theorem dL_law_771 : decode cL_law 771 = .ok (.invokevirtual 113, 3) := by decide +kernel
theorem dL_law_774 : decode cL_law 774 = .ok (.istore 6, 2) := by decide +kernel
theorem dL_law_776 : decode cL_law 776 = .ok (.aload_n 2, 1) := by decide +kernel
theorem dL_law_777 : decode cL_law 777 = .ok (.invokevirtual 80, 3) := by decide +kernel
theorem dL_law_780 : decode cL_law 780 = .ok (.iload 5, 2) := by decide +kernel
theorem dL_law_782 : decode cL_law 782 = .ok (.if_icmp .eq 5, 3) := by decide +kernel
theorem dL_law_785 : decode cL_law 785 = .ok (.iconst 0, 1) := by decide +kernel
theorem dL_law_786 : decode cL_law 786 = .ok (.ireturn, 1) := by decide +kernel
theorem dL_law_787 : decode cL_law 787 = .ok (.iload 5, 2) := by decide +kernel
theorem dL_law_789 : decode cL_law 789 = .ok (.ifCond .ne 15, 3) := by decide +kernel
theorem dL_law_792 : decode cL_law 792 = .ok (.aload_n 3, 1) := by decide +kernel
theorem dL_law_793 : decode cL_law 793 = .ok (.iconst 0, 1) := by decide +kernel
theorem dL_law_794 : decode cL_law 794 = .ok (.laload, 1) := by decide +kernel
theorem dL_law_795 : decode cL_law 795 = .ok (.iload 6, 2) := by decide +kernel
theorem dL_law_797 : decode cL_law 797 = .ok (.i2l, 1) := by decide +kernel
theorem dL_law_798 : decode cL_law 798 = .ok (.lcmp, 1) := by decide +kernel
theorem dL_law_799 : decode cL_law 799 = .ok (.ifCond .eq 5, 3) := by decide +kernel
theorem dL_law_802 : decode cL_law 802 = .ok (.iconst 0, 1) := by decide +kernel
theorem dL_law_803 : decode cL_law 803 = .ok (.ireturn, 1) := by decide +kernel
theorem dL_law_804 : decode cL_law 804 = .ok (.goto 611, 3) := by decide +kernel
theorem dL_law_807 : decode cL_law 807 = .ok (.aload_n 1, 1) := by decide +kernel
theorem dL_law_808 : decode cL_law 808 = .ok (.aload_n 0, 1) := by decide +kernel
theorem dL_law_809 : decode cL_law 809 = .ok (.iload 4, 2) := by decide +kernel
theorem dL_law_811 : decode cL_law 811 = .ok (.iconst 1, 1) := by decide +kernel
theorem dL_law_812 : decode cL_law 812 = .ok (.iadd, 1) := by decide +kernel
theorem dL_law_813 : decode cL_law 813 = .ok (.iaload, 1) := by decide +kernel
theorem dL_law_814 : decode cL_law 814 = .ok (.aload_n 0, 1) := by decide +kernel
theorem dL_law_815 : decode cL_law 815 = .ok (.iload 4, 2) := by decide +kernel
theorem dL_law_817 : decode cL_law 817 = .ok (.iconst 2, 1) := by decide +kernel
theorem dL_law_818 : decode cL_law 818 = .ok (.iadd, 1) := by decide +kernel
theorem dL_law_819 : decode cL_law 819 = .ok (.iaload, 1) := by decide +kernel
theorem dL_law_820 : decode cL_law 820 = .ok (.aload_n 3, 1) := by decide +kernel
theorem dL_law_821 : decode cL_law 821 = .ok (.invokestatic 114, 3) := by decide +kernel
theorem dL_law_824 : decode cL_law 824 = .ok (.istore 5, 2) := by decide +kernel
theorem dL_law_826 : decode cL_law 826 = .ok (.aload_n 2, 1) := by decide +kernel
theorem dL_law_827 : decode cL_law 827 = .ok (.aload_n 0, 1) := by decide +kernel
theorem dL_law_828 : decode cL_law 828 = .ok (.iload 4, 2) := by decide +kernel
theorem dL_law_830 : decode cL_law 830 = .ok (.iconst 1, 1) := by decide +kernel
theorem dL_law_831 : decode cL_law 831 = .ok (.iadd, 1) := by decide +kernel
theorem dL_law_832 : decode cL_law 832 = .ok (.iaload, 1) := by decide +kernel
theorem dL_law_833 : decode cL_law 833 = .ok (.aload_n 0, 1) := by decide +kernel
theorem dL_law_834 : decode cL_law 834 = .ok (.iload 4, 2) := by decide +kernel
theorem dL_law_836 : decode cL_law 836 = .ok (.iconst 2, 1) := by decide +kernel
theorem dL_law_837 : decode cL_law 837 = .ok (.iadd, 1) := by decide +kernel
theorem dL_law_838 : decode cL_law 838 = .ok (.iaload, 1) := by decide +kernel
theorem dL_law_839 : decode cL_law 839 = .ok (.invokevirtual 116, 3) := by decide +kernel
theorem dL_law_842 : decode cL_law 842 = .ok (.istore 6, 2) := by decide +kernel
theorem dL_law_844 : decode cL_law 844 = .ok (.aload_n 2, 1) := by decide +kernel
theorem dL_law_845 : decode cL_law 845 = .ok (.invokevirtual 80, 3) := by decide +kernel
theorem dL_law_848 : decode cL_law 848 = .ok (.iload 5, 2) := by decide +kernel
theorem dL_law_850 : decode cL_law 850 = .ok (.if_icmp .eq 5, 3) := by decide +kernel
theorem dL_law_853 : decode cL_law 853 = .ok (.iconst 0, 1) := by decide +kernel
theorem dL_law_854 : decode cL_law 854 = .ok (.ireturn, 1) := by decide +kernel
theorem dL_law_855 : decode cL_law 855 = .ok (.iload 5, 2) := by decide +kernel
theorem dL_law_857 : decode cL_law 857 = .ok (.ifCond .ne 22, 3) := by decide +kernel
theorem dL_law_860 : decode cL_law 860 = .ok (.aload_n 3, 1) := by decide +kernel
theorem dL_law_861 : decode cL_law 861 = .ok (.iconst 0, 1) := by decide +kernel
theorem dL_law_862 : decode cL_law 862 = .ok (.laload, 1) := by decide +kernel
theorem dL_law_863 : decode cL_law 863 = .ok (.iload 6, 2) := by decide +kernel
theorem dL_law_865 : decode cL_law 865 = .ok (.ifCond .eq 7, 3) := by decide +kernel
theorem dL_law_868 : decode cL_law 868 = .ok (.lconst 1, 1) := by decide +kernel
theorem dL_law_869 : decode cL_law 869 = .ok (.goto 4, 3) := by decide +kernel
theorem dL_law_872 : decode cL_law 872 = .ok (.lconst 0, 1) := by decide +kernel
theorem dL_law_873 : decode cL_law 873 = .ok (.lcmp, 1) := by decide +kernel
theorem dL_law_874 : decode cL_law 874 = .ok (.ifCond .eq 5, 3) := by decide +kernel
theorem dL_law_877 : decode cL_law 877 = .ok (.iconst 0, 1) := by decide +kernel
theorem dL_law_878 : decode cL_law 878 = .ok (.ireturn, 1) := by decide +kernel
theorem dL_law_879 : decode cL_law 879 = .ok (.goto 536, 3) := by decide +kernel
theorem dL_law_882 : decode cL_law 882 = .ok (.aload_n 1, 1) := by decide +kernel
theorem dL_law_883 : decode cL_law 883 = .ok (.aload_n 0, 1) := by decide +kernel
theorem dL_law_884 : decode cL_law 884 = .ok (.iload 4, 2) := by decide +kernel
theorem dL_law_886 : decode cL_law 886 = .ok (.iconst 1, 1) := by decide +kernel
theorem dL_law_887 : decode cL_law 887 = .ok (.iadd, 1) := by decide +kernel
theorem dL_law_888 : decode cL_law 888 = .ok (.iaload, 1) := by decide +kernel
theorem dL_law_889 : decode cL_law 889 = .ok (.aload_n 0, 1) := by decide +kernel
theorem dL_law_890 : decode cL_law 890 = .ok (.iload 4, 2) := by decide +kernel
theorem dL_law_892 : decode cL_law 892 = .ok (.iconst 2, 1) := by decide +kernel
theorem dL_law_893 : decode cL_law 893 = .ok (.iadd, 1) := by decide +kernel
theorem dL_law_894 : decode cL_law 894 = .ok (.iaload, 1) := by decide +kernel
theorem dL_law_895 : decode cL_law 895 = .ok (.aload_n 3, 1) := by decide +kernel
theorem dL_law_896 : decode cL_law 896 = .ok (.invokestatic 117, 3) := by decide +kernel
theorem dL_law_899 : decode cL_law 899 = .ok (.istore 5, 2) := by decide +kernel
theorem dL_law_901 : decode cL_law 901 = .ok (.aload_n 2, 1) := by decide +kernel
theorem dL_law_902 : decode cL_law 902 = .ok (.aload_n 0, 1) := by decide +kernel
theorem dL_law_903 : decode cL_law 903 = .ok (.iload 4, 2) := by decide +kernel
theorem dL_law_905 : decode cL_law 905 = .ok (.iconst 1, 1) := by decide +kernel
theorem dL_law_906 : decode cL_law 906 = .ok (.iadd, 1) := by decide +kernel
theorem dL_law_907 : decode cL_law 907 = .ok (.iaload, 1) := by decide +kernel
theorem dL_law_908 : decode cL_law 908 = .ok (.aload_n 0, 1) := by decide +kernel
theorem dL_law_909 : decode cL_law 909 = .ok (.iload 4, 2) := by decide +kernel
theorem dL_law_911 : decode cL_law 911 = .ok (.iconst 2, 1) := by decide +kernel
theorem dL_law_912 : decode cL_law 912 = .ok (.iadd, 1) := by decide +kernel
theorem dL_law_913 : decode cL_law 913 = .ok (.iaload, 1) := by decide +kernel
theorem dL_law_914 : decode cL_law 914 = .ok (.invokevirtual 119, 3) := by decide +kernel
theorem dL_law_917 : decode cL_law 917 = .ok (.istore 6, 2) := by decide +kernel
theorem dL_law_919 : decode cL_law 919 = .ok (.aload_n 2, 1) := by decide +kernel
theorem dL_law_920 : decode cL_law 920 = .ok (.invokevirtual 80, 3) := by decide +kernel
theorem dL_law_923 : decode cL_law 923 = .ok (.iload 5, 2) := by decide +kernel
theorem dL_law_925 : decode cL_law 925 = .ok (.if_icmp .eq 5, 3) := by decide +kernel
theorem dL_law_928 : decode cL_law 928 = .ok (.iconst 0, 1) := by decide +kernel
theorem dL_law_929 : decode cL_law 929 = .ok (.ireturn, 1) := by decide +kernel
theorem dL_law_930 : decode cL_law 930 = .ok (.iload 5, 2) := by decide +kernel
theorem dL_law_932 : decode cL_law 932 = .ok (.ifCond .ne 15, 3) := by decide +kernel
theorem dL_law_935 : decode cL_law 935 = .ok (.aload_n 3, 1) := by decide +kernel
theorem dL_law_936 : decode cL_law 936 = .ok (.iconst 0, 1) := by decide +kernel
theorem dL_law_937 : decode cL_law 937 = .ok (.laload, 1) := by decide +kernel
theorem dL_law_938 : decode cL_law 938 = .ok (.iload 6, 2) := by decide +kernel
theorem dL_law_940 : decode cL_law 940 = .ok (.i2l, 1) := by decide +kernel
theorem dL_law_941 : decode cL_law 941 = .ok (.lcmp, 1) := by decide +kernel
theorem dL_law_942 : decode cL_law 942 = .ok (.ifCond .eq 5, 3) := by decide +kernel
theorem dL_law_945 : decode cL_law 945 = .ok (.iconst 0, 1) := by decide +kernel
theorem dL_law_946 : decode cL_law 946 = .ok (.ireturn, 1) := by decide +kernel
theorem dL_law_947 : decode cL_law 947 = .ok (.goto 468, 3) := by decide +kernel
theorem dL_law_950 : decode cL_law 950 = .ok (.aload_n 1, 1) := by decide +kernel
theorem dL_law_951 : decode cL_law 951 = .ok (.aload_n 0, 1) := by decide +kernel
theorem dL_law_952 : decode cL_law 952 = .ok (.iload 4, 2) := by decide +kernel
theorem dL_law_954 : decode cL_law 954 = .ok (.iconst 1, 1) := by decide +kernel
theorem dL_law_955 : decode cL_law 955 = .ok (.iadd, 1) := by decide +kernel
theorem dL_law_956 : decode cL_law 956 = .ok (.iaload, 1) := by decide +kernel
theorem dL_law_957 : decode cL_law 957 = .ok (.aload_n 0, 1) := by decide +kernel
theorem dL_law_958 : decode cL_law 958 = .ok (.iload 4, 2) := by decide +kernel
theorem dL_law_960 : decode cL_law 960 = .ok (.iconst 2, 1) := by decide +kernel
theorem dL_law_961 : decode cL_law 961 = .ok (.iadd, 1) := by decide +kernel
theorem dL_law_962 : decode cL_law 962 = .ok (.iaload, 1) := by decide +kernel
theorem dL_law_963 : decode cL_law 963 = .ok (.aload_n 3, 1) := by decide +kernel
theorem dL_law_964 : decode cL_law 964 = .ok (.invokestatic 120, 3) := by decide +kernel
theorem dL_law_967 : decode cL_law 967 = .ok (.istore 5, 2) := by decide +kernel
theorem dL_law_969 : decode cL_law 969 = .ok (.aload_n 2, 1) := by decide +kernel
theorem dL_law_970 : decode cL_law 970 = .ok (.aload_n 0, 1) := by decide +kernel
theorem dL_law_971 : decode cL_law 971 = .ok (.iload 4, 2) := by decide +kernel
theorem dL_law_973 : decode cL_law 973 = .ok (.iconst 1, 1) := by decide +kernel
theorem dL_law_974 : decode cL_law 974 = .ok (.iadd, 1) := by decide +kernel
theorem dL_law_975 : decode cL_law 975 = .ok (.iaload, 1) := by decide +kernel
theorem dL_law_976 : decode cL_law 976 = .ok (.aload_n 0, 1) := by decide +kernel
theorem dL_law_977 : decode cL_law 977 = .ok (.iload 4, 2) := by decide +kernel
theorem dL_law_979 : decode cL_law 979 = .ok (.iconst 2, 1) := by decide +kernel
theorem dL_law_980 : decode cL_law 980 = .ok (.iadd, 1) := by decide +kernel
theorem dL_law_981 : decode cL_law 981 = .ok (.iaload, 1) := by decide +kernel
theorem dL_law_982 : decode cL_law 982 = .ok (.invokevirtual 122, 3) := by decide +kernel
theorem dL_law_985 : decode cL_law 985 = .ok (.istore 6, 2) := by decide +kernel
theorem dL_law_987 : decode cL_law 987 = .ok (.aload_n 2, 1) := by decide +kernel
theorem dL_law_988 : decode cL_law 988 = .ok (.invokevirtual 80, 3) := by decide +kernel
theorem dL_law_991 : decode cL_law 991 = .ok (.iload 5, 2) := by decide +kernel
theorem dL_law_993 : decode cL_law 993 = .ok (.if_icmp .eq 5, 3) := by decide +kernel
theorem dL_law_996 : decode cL_law 996 = .ok (.iconst 0, 1) := by decide +kernel
theorem dL_law_997 : decode cL_law 997 = .ok (.ireturn, 1) := by decide +kernel
theorem dL_law_998 : decode cL_law 998 = .ok (.iload 5, 2) := by decide +kernel
theorem dL_law_1000 : decode cL_law 1000 = .ok (.ifCond .ne 15, 3) := by decide +kernel
theorem dL_law_1003 : decode cL_law 1003 = .ok (.aload_n 3, 1) := by decide +kernel
theorem dL_law_1004 : decode cL_law 1004 = .ok (.iconst 0, 1) := by decide +kernel
theorem dL_law_1005 : decode cL_law 1005 = .ok (.laload, 1) := by decide +kernel
theorem dL_law_1006 : decode cL_law 1006 = .ok (.iload 6, 2) := by decide +kernel
theorem dL_law_1008 : decode cL_law 1008 = .ok (.i2l, 1) := by decide +kernel
theorem dL_law_1009 : decode cL_law 1009 = .ok (.lcmp, 1) := by decide +kernel
theorem dL_law_1010 : decode cL_law 1010 = .ok (.ifCond .eq 5, 3) := by decide +kernel
theorem dL_law_1013 : decode cL_law 1013 = .ok (.iconst 0, 1) := by decide +kernel
theorem dL_law_1014 : decode cL_law 1014 = .ok (.ireturn, 1) := by decide +kernel
theorem dL_law_1015 : decode cL_law 1015 = .ok (.goto 400, 3) := by decide +kernel
theorem dL_law_1018 : decode cL_law 1018 = .ok (.aload_n 1, 1) := by decide +kernel
theorem dL_law_1019 : decode cL_law 1019 = .ok (.aload_n 0, 1) := by decide +kernel
theorem dL_law_1020 : decode cL_law 1020 = .ok (.iload 4, 2) := by decide +kernel
theorem dL_law_1022 : decode cL_law 1022 = .ok (.iconst 1, 1) := by decide +kernel
theorem dL_law_1023 : decode cL_law 1023 = .ok (.iadd, 1) := by decide +kernel
theorem dL_law_1024 : decode cL_law 1024 = .ok (.iaload, 1) := by decide +kernel
theorem dL_law_1025 : decode cL_law 1025 = .ok (.aload_n 0, 1) := by decide +kernel
theorem dL_law_1026 : decode cL_law 1026 = .ok (.iload 4, 2) := by decide +kernel
theorem dL_law_1028 : decode cL_law 1028 = .ok (.iconst 2, 1) := by decide +kernel
theorem dL_law_1029 : decode cL_law 1029 = .ok (.iadd, 1) := by decide +kernel
theorem dL_law_1030 : decode cL_law 1030 = .ok (.iaload, 1) := by decide +kernel
theorem dL_law_1031 : decode cL_law 1031 = .ok (.aload_n 3, 1) := by decide +kernel
theorem dL_law_1032 : decode cL_law 1032 = .ok (.invokestatic 123, 3) := by decide +kernel
theorem dL_law_1035 : decode cL_law 1035 = .ok (.istore 5, 2) := by decide +kernel
theorem dL_law_1037 : decode cL_law 1037 = .ok (.aload_n 2, 1) := by decide +kernel
theorem dL_law_1038 : decode cL_law 1038 = .ok (.aload_n 0, 1) := by decide +kernel
theorem dL_law_1039 : decode cL_law 1039 = .ok (.iload 4, 2) := by decide +kernel
theorem dL_law_1041 : decode cL_law 1041 = .ok (.iconst 1, 1) := by decide +kernel
theorem dL_law_1042 : decode cL_law 1042 = .ok (.iadd, 1) := by decide +kernel
theorem dL_law_1043 : decode cL_law 1043 = .ok (.iaload, 1) := by decide +kernel
theorem dL_law_1044 : decode cL_law 1044 = .ok (.aload_n 0, 1) := by decide +kernel
theorem dL_law_1045 : decode cL_law 1045 = .ok (.iload 4, 2) := by decide +kernel
theorem dL_law_1047 : decode cL_law 1047 = .ok (.iconst 2, 1) := by decide +kernel
theorem dL_law_1048 : decode cL_law 1048 = .ok (.iadd, 1) := by decide +kernel
theorem dL_law_1049 : decode cL_law 1049 = .ok (.iaload, 1) := by decide +kernel
theorem dL_law_1050 : decode cL_law 1050 = .ok (.invokevirtual 125, 3) := by decide +kernel
theorem dL_law_1053 : decode cL_law 1053 = .ok (.istore 6, 2) := by decide +kernel
theorem dL_law_1055 : decode cL_law 1055 = .ok (.aload_n 2, 1) := by decide +kernel
theorem dL_law_1056 : decode cL_law 1056 = .ok (.invokevirtual 80, 3) := by decide +kernel
theorem dL_law_1059 : decode cL_law 1059 = .ok (.iload 5, 2) := by decide +kernel
theorem dL_law_1061 : decode cL_law 1061 = .ok (.if_icmp .eq 5, 3) := by decide +kernel
theorem dL_law_1064 : decode cL_law 1064 = .ok (.iconst 0, 1) := by decide +kernel
theorem dL_law_1065 : decode cL_law 1065 = .ok (.ireturn, 1) := by decide +kernel
theorem dL_law_1066 : decode cL_law 1066 = .ok (.iload 5, 2) := by decide +kernel
theorem dL_law_1068 : decode cL_law 1068 = .ok (.ifCond .ne 15, 3) := by decide +kernel
theorem dL_law_1071 : decode cL_law 1071 = .ok (.aload_n 3, 1) := by decide +kernel
theorem dL_law_1072 : decode cL_law 1072 = .ok (.iconst 0, 1) := by decide +kernel
theorem dL_law_1073 : decode cL_law 1073 = .ok (.laload, 1) := by decide +kernel
theorem dL_law_1074 : decode cL_law 1074 = .ok (.iload 6, 2) := by decide +kernel
theorem dL_law_1076 : decode cL_law 1076 = .ok (.i2l, 1) := by decide +kernel
theorem dL_law_1077 : decode cL_law 1077 = .ok (.lcmp, 1) := by decide +kernel
theorem dL_law_1078 : decode cL_law 1078 = .ok (.ifCond .eq 5, 3) := by decide +kernel
theorem dL_law_1081 : decode cL_law 1081 = .ok (.iconst 0, 1) := by decide +kernel
theorem dL_law_1082 : decode cL_law 1082 = .ok (.ireturn, 1) := by decide +kernel
theorem dL_law_1083 : decode cL_law 1083 = .ok (.goto 332, 3) := by decide +kernel
theorem dL_law_1086 : decode cL_law 1086 = .ok (.aload_n 1, 1) := by decide +kernel
theorem dL_law_1087 : decode cL_law 1087 = .ok (.aload_n 0, 1) := by decide +kernel
theorem dL_law_1088 : decode cL_law 1088 = .ok (.iload 4, 2) := by decide +kernel
theorem dL_law_1090 : decode cL_law 1090 = .ok (.iconst 1, 1) := by decide +kernel
theorem dL_law_1091 : decode cL_law 1091 = .ok (.iadd, 1) := by decide +kernel
theorem dL_law_1092 : decode cL_law 1092 = .ok (.iaload, 1) := by decide +kernel
theorem dL_law_1093 : decode cL_law 1093 = .ok (.aload_n 0, 1) := by decide +kernel
theorem dL_law_1094 : decode cL_law 1094 = .ok (.iload 4, 2) := by decide +kernel
theorem dL_law_1096 : decode cL_law 1096 = .ok (.iconst 2, 1) := by decide +kernel
theorem dL_law_1097 : decode cL_law 1097 = .ok (.iadd, 1) := by decide +kernel
theorem dL_law_1098 : decode cL_law 1098 = .ok (.iaload, 1) := by decide +kernel
theorem dL_law_1099 : decode cL_law 1099 = .ok (.aload_n 3, 1) := by decide +kernel
theorem dL_law_1100 : decode cL_law 1100 = .ok (.invokestatic 126, 3) := by decide +kernel
theorem dL_law_1103 : decode cL_law 1103 = .ok (.istore 5, 2) := by decide +kernel
theorem dL_law_1105 : decode cL_law 1105 = .ok (.aload_n 2, 1) := by decide +kernel
theorem dL_law_1106 : decode cL_law 1106 = .ok (.aload_n 0, 1) := by decide +kernel
theorem dL_law_1107 : decode cL_law 1107 = .ok (.iload 4, 2) := by decide +kernel
theorem dL_law_1109 : decode cL_law 1109 = .ok (.iconst 1, 1) := by decide +kernel
theorem dL_law_1110 : decode cL_law 1110 = .ok (.iadd, 1) := by decide +kernel
theorem dL_law_1111 : decode cL_law 1111 = .ok (.iaload, 1) := by decide +kernel
theorem dL_law_1112 : decode cL_law 1112 = .ok (.aload_n 0, 1) := by decide +kernel
theorem dL_law_1113 : decode cL_law 1113 = .ok (.iload 4, 2) := by decide +kernel
theorem dL_law_1115 : decode cL_law 1115 = .ok (.iconst 2, 1) := by decide +kernel
theorem dL_law_1116 : decode cL_law 1116 = .ok (.iadd, 1) := by decide +kernel
theorem dL_law_1117 : decode cL_law 1117 = .ok (.iaload, 1) := by decide +kernel
theorem dL_law_1118 : decode cL_law 1118 = .ok (.invokevirtual 128, 3) := by decide +kernel
theorem dL_law_1121 : decode cL_law 1121 = .ok (.istore 6, 2) := by decide +kernel
theorem dL_law_1123 : decode cL_law 1123 = .ok (.aload_n 2, 1) := by decide +kernel
theorem dL_law_1124 : decode cL_law 1124 = .ok (.invokevirtual 80, 3) := by decide +kernel
theorem dL_law_1127 : decode cL_law 1127 = .ok (.iload 5, 2) := by decide +kernel
theorem dL_law_1129 : decode cL_law 1129 = .ok (.if_icmp .eq 5, 3) := by decide +kernel
theorem dL_law_1132 : decode cL_law 1132 = .ok (.iconst 0, 1) := by decide +kernel
theorem dL_law_1133 : decode cL_law 1133 = .ok (.ireturn, 1) := by decide +kernel
theorem dL_law_1134 : decode cL_law 1134 = .ok (.iload 5, 2) := by decide +kernel
theorem dL_law_1136 : decode cL_law 1136 = .ok (.ifCond .ne 15, 3) := by decide +kernel
theorem dL_law_1139 : decode cL_law 1139 = .ok (.aload_n 3, 1) := by decide +kernel
theorem dL_law_1140 : decode cL_law 1140 = .ok (.iconst 0, 1) := by decide +kernel
theorem dL_law_1141 : decode cL_law 1141 = .ok (.laload, 1) := by decide +kernel
theorem dL_law_1142 : decode cL_law 1142 = .ok (.iload 6, 2) := by decide +kernel
theorem dL_law_1144 : decode cL_law 1144 = .ok (.i2l, 1) := by decide +kernel
theorem dL_law_1145 : decode cL_law 1145 = .ok (.lcmp, 1) := by decide +kernel
theorem dL_law_1146 : decode cL_law 1146 = .ok (.ifCond .eq 5, 3) := by decide +kernel
theorem dL_law_1149 : decode cL_law 1149 = .ok (.iconst 0, 1) := by decide +kernel
theorem dL_law_1150 : decode cL_law 1150 = .ok (.ireturn, 1) := by decide +kernel
theorem dL_law_1151 : decode cL_law 1151 = .ok (.goto 264, 3) := by decide +kernel
theorem dL_law_1154 : decode cL_law 1154 = .ok (.aload_n 1, 1) := by decide +kernel
theorem dL_law_1155 : decode cL_law 1155 = .ok (.aload_n 0, 1) := by decide +kernel
theorem dL_law_1156 : decode cL_law 1156 = .ok (.iload 4, 2) := by decide +kernel
theorem dL_law_1158 : decode cL_law 1158 = .ok (.iconst 1, 1) := by decide +kernel
theorem dL_law_1159 : decode cL_law 1159 = .ok (.iadd, 1) := by decide +kernel
theorem dL_law_1160 : decode cL_law 1160 = .ok (.iaload, 1) := by decide +kernel
theorem dL_law_1161 : decode cL_law 1161 = .ok (.aload_n 3, 1) := by decide +kernel
theorem dL_law_1162 : decode cL_law 1162 = .ok (.invokestatic 129, 3) := by decide +kernel
theorem dL_law_1165 : decode cL_law 1165 = .ok (.istore 5, 2) := by decide +kernel
theorem dL_law_1167 : decode cL_law 1167 = .ok (.aload_n 2, 1) := by decide +kernel
theorem dL_law_1168 : decode cL_law 1168 = .ok (.aload_n 0, 1) := by decide +kernel
theorem dL_law_1169 : decode cL_law 1169 = .ok (.iload 4, 2) := by decide +kernel
theorem dL_law_1171 : decode cL_law 1171 = .ok (.iconst 1, 1) := by decide +kernel
theorem dL_law_1172 : decode cL_law 1172 = .ok (.iadd, 1) := by decide +kernel
theorem dL_law_1173 : decode cL_law 1173 = .ok (.iaload, 1) := by decide +kernel
theorem dL_law_1174 : decode cL_law 1174 = .ok (.invokevirtual 131, 3) := by decide +kernel
theorem dL_law_1177 : decode cL_law 1177 = .ok (.istore 6, 2) := by decide +kernel
theorem dL_law_1179 : decode cL_law 1179 = .ok (.aload_n 2, 1) := by decide +kernel
theorem dL_law_1180 : decode cL_law 1180 = .ok (.invokevirtual 80, 3) := by decide +kernel
theorem dL_law_1183 : decode cL_law 1183 = .ok (.iload 5, 2) := by decide +kernel
theorem dL_law_1185 : decode cL_law 1185 = .ok (.if_icmp .eq 5, 3) := by decide +kernel
theorem dL_law_1188 : decode cL_law 1188 = .ok (.iconst 0, 1) := by decide +kernel
theorem dL_law_1189 : decode cL_law 1189 = .ok (.ireturn, 1) := by decide +kernel
theorem dL_law_1190 : decode cL_law 1190 = .ok (.iload 5, 2) := by decide +kernel
theorem dL_law_1192 : decode cL_law 1192 = .ok (.ifCond .ne 15, 3) := by decide +kernel
theorem dL_law_1195 : decode cL_law 1195 = .ok (.aload_n 3, 1) := by decide +kernel
theorem dL_law_1196 : decode cL_law 1196 = .ok (.iconst 0, 1) := by decide +kernel
theorem dL_law_1197 : decode cL_law 1197 = .ok (.laload, 1) := by decide +kernel
theorem dL_law_1198 : decode cL_law 1198 = .ok (.iload 6, 2) := by decide +kernel
theorem dL_law_1200 : decode cL_law 1200 = .ok (.i2l, 1) := by decide +kernel
theorem dL_law_1201 : decode cL_law 1201 = .ok (.lcmp, 1) := by decide +kernel
theorem dL_law_1202 : decode cL_law 1202 = .ok (.ifCond .eq 5, 3) := by decide +kernel
theorem dL_law_1205 : decode cL_law 1205 = .ok (.iconst 0, 1) := by decide +kernel
theorem dL_law_1206 : decode cL_law 1206 = .ok (.ireturn, 1) := by decide +kernel
theorem dL_law_1207 : decode cL_law 1207 = .ok (.goto 208, 3) := by decide +kernel
theorem dL_law_1210 : decode cL_law 1210 = .ok (.aload_n 1, 1) := by decide +kernel
theorem dL_law_1211 : decode cL_law 1211 = .ok (.invokevirtual 132, 3) := by decide +kernel
theorem dL_law_1214 : decode cL_law 1214 = .ok (.aload_n 2, 1) := by decide +kernel
theorem dL_law_1215 : decode cL_law 1215 = .ok (.invokevirtual 135, 3) := by decide +kernel
theorem dL_law_1218 : decode cL_law 1218 = .ok (.if_icmp .eq 197, 3) := by decide +kernel
theorem dL_law_1221 : decode cL_law 1221 = .ok (.iconst 0, 1) := by decide +kernel
theorem dL_law_1222 : decode cL_law 1222 = .ok (.ireturn, 1) := by decide +kernel
theorem dL_law_1223 : decode cL_law 1223 = .ok (.aload_n 1, 1) := by decide +kernel
theorem dL_law_1224 : decode cL_law 1224 = .ok (.aload_n 0, 1) := by decide +kernel
theorem dL_law_1225 : decode cL_law 1225 = .ok (.iload 4, 2) := by decide +kernel
theorem dL_law_1227 : decode cL_law 1227 = .ok (.iconst 1, 1) := by decide +kernel
theorem dL_law_1228 : decode cL_law 1228 = .ok (.iadd, 1) := by decide +kernel
theorem dL_law_1229 : decode cL_law 1229 = .ok (.iaload, 1) := by decide +kernel
theorem dL_law_1230 : decode cL_law 1230 = .ok (.aload_n 0, 1) := by decide +kernel
theorem dL_law_1231 : decode cL_law 1231 = .ok (.iload 4, 2) := by decide +kernel
theorem dL_law_1233 : decode cL_law 1233 = .ok (.iconst 2, 1) := by decide +kernel
theorem dL_law_1234 : decode cL_law 1234 = .ok (.iadd, 1) := by decide +kernel
theorem dL_law_1235 : decode cL_law 1235 = .ok (.iaload, 1) := by decide +kernel
theorem dL_law_1236 : decode cL_law 1236 = .ok (.aload_n 3, 1) := by decide +kernel
theorem dL_law_1237 : decode cL_law 1237 = .ok (.invokestatic 136, 3) := by decide +kernel
theorem dL_law_1240 : decode cL_law 1240 = .ok (.istore 5, 2) := by decide +kernel
theorem dL_law_1242 : decode cL_law 1242 = .ok (.aload_n 2, 1) := by decide +kernel
theorem dL_law_1243 : decode cL_law 1243 = .ok (.aload_n 0, 1) := by decide +kernel
theorem dL_law_1244 : decode cL_law 1244 = .ok (.iload 4, 2) := by decide +kernel
theorem dL_law_1246 : decode cL_law 1246 = .ok (.iconst 1, 1) := by decide +kernel
theorem dL_law_1247 : decode cL_law 1247 = .ok (.iadd, 1) := by decide +kernel
theorem dL_law_1248 : decode cL_law 1248 = .ok (.iaload, 1) := by decide +kernel
theorem dL_law_1249 : decode cL_law 1249 = .ok (.aload_n 0, 1) := by decide +kernel
theorem dL_law_1250 : decode cL_law 1250 = .ok (.iload 4, 2) := by decide +kernel
theorem dL_law_1252 : decode cL_law 1252 = .ok (.iconst 2, 1) := by decide +kernel
theorem dL_law_1253 : decode cL_law 1253 = .ok (.iadd, 1) := by decide +kernel
theorem dL_law_1254 : decode cL_law 1254 = .ok (.iaload, 1) := by decide +kernel
theorem dL_law_1255 : decode cL_law 1255 = .ok (.invokevirtual 138, 3) := by decide +kernel
theorem dL_law_1258 : decode cL_law 1258 = .ok (.istore 6, 2) := by decide +kernel
theorem dL_law_1260 : decode cL_law 1260 = .ok (.aload_n 2, 1) := by decide +kernel
theorem dL_law_1261 : decode cL_law 1261 = .ok (.invokevirtual 80, 3) := by decide +kernel
theorem dL_law_1264 : decode cL_law 1264 = .ok (.iload 5, 2) := by decide +kernel
theorem dL_law_1266 : decode cL_law 1266 = .ok (.if_icmp .eq 5, 3) := by decide +kernel
theorem dL_law_1269 : decode cL_law 1269 = .ok (.iconst 0, 1) := by decide +kernel
theorem dL_law_1270 : decode cL_law 1270 = .ok (.ireturn, 1) := by decide +kernel
theorem dL_law_1271 : decode cL_law 1271 = .ok (.iload 5, 2) := by decide +kernel
theorem dL_law_1273 : decode cL_law 1273 = .ok (.ifCond .ne 15, 3) := by decide +kernel
theorem dL_law_1276 : decode cL_law 1276 = .ok (.aload_n 3, 1) := by decide +kernel
theorem dL_law_1277 : decode cL_law 1277 = .ok (.iconst 0, 1) := by decide +kernel
theorem dL_law_1278 : decode cL_law 1278 = .ok (.laload, 1) := by decide +kernel
theorem dL_law_1279 : decode cL_law 1279 = .ok (.iload 6, 2) := by decide +kernel
theorem dL_law_1281 : decode cL_law 1281 = .ok (.i2l, 1) := by decide +kernel
theorem dL_law_1282 : decode cL_law 1282 = .ok (.lcmp, 1) := by decide +kernel
theorem dL_law_1283 : decode cL_law 1283 = .ok (.ifCond .eq 5, 3) := by decide +kernel
theorem dL_law_1286 : decode cL_law 1286 = .ok (.iconst 0, 1) := by decide +kernel
theorem dL_law_1287 : decode cL_law 1287 = .ok (.ireturn, 1) := by decide +kernel
theorem dL_law_1288 : decode cL_law 1288 = .ok (.goto 127, 3) := by decide +kernel
theorem dL_law_1291 : decode cL_law 1291 = .ok (.aload_n 1, 1) := by decide +kernel
theorem dL_law_1292 : decode cL_law 1292 = .ok (.aload_n 0, 1) := by decide +kernel
theorem dL_law_1293 : decode cL_law 1293 = .ok (.iload 4, 2) := by decide +kernel
theorem dL_law_1295 : decode cL_law 1295 = .ok (.iconst 1, 1) := by decide +kernel
theorem dL_law_1296 : decode cL_law 1296 = .ok (.iadd, 1) := by decide +kernel
theorem dL_law_1297 : decode cL_law 1297 = .ok (.iaload, 1) := by decide +kernel
theorem dL_law_1298 : decode cL_law 1298 = .ok (.aload_n 3, 1) := by decide +kernel
theorem dL_law_1299 : decode cL_law 1299 = .ok (.invokestatic 139, 3) := by decide +kernel
theorem dL_law_1302 : decode cL_law 1302 = .ok (.istore 5, 2) := by decide +kernel
theorem dL_law_1304 : decode cL_law 1304 = .ok (.aload_n 2, 1) := by decide +kernel
theorem dL_law_1305 : decode cL_law 1305 = .ok (.aload_n 0, 1) := by decide +kernel
theorem dL_law_1306 : decode cL_law 1306 = .ok (.iload 4, 2) := by decide +kernel
theorem dL_law_1308 : decode cL_law 1308 = .ok (.iconst 1, 1) := by decide +kernel
theorem dL_law_1309 : decode cL_law 1309 = .ok (.iadd, 1) := by decide +kernel
theorem dL_law_1310 : decode cL_law 1310 = .ok (.iaload, 1) := by decide +kernel
theorem dL_law_1311 : decode cL_law 1311 = .ok (.invokevirtual 141, 3) := by decide +kernel
theorem dL_law_1314 : decode cL_law 1314 = .ok (.istore 6, 2) := by decide +kernel
theorem dL_law_1316 : decode cL_law 1316 = .ok (.aload_n 2, 1) := by decide +kernel
theorem dL_law_1317 : decode cL_law 1317 = .ok (.invokevirtual 80, 3) := by decide +kernel
theorem dL_law_1320 : decode cL_law 1320 = .ok (.iload 5, 2) := by decide +kernel
theorem dL_law_1322 : decode cL_law 1322 = .ok (.if_icmp .eq 5, 3) := by decide +kernel
theorem dL_law_1325 : decode cL_law 1325 = .ok (.iconst 0, 1) := by decide +kernel
theorem dL_law_1326 : decode cL_law 1326 = .ok (.ireturn, 1) := by decide +kernel
theorem dL_law_1327 : decode cL_law 1327 = .ok (.iload 5, 2) := by decide +kernel
theorem dL_law_1329 : decode cL_law 1329 = .ok (.ifCond .ne 15, 3) := by decide +kernel
theorem dL_law_1332 : decode cL_law 1332 = .ok (.aload_n 3, 1) := by decide +kernel
theorem dL_law_1333 : decode cL_law 1333 = .ok (.iconst 0, 1) := by decide +kernel
theorem dL_law_1334 : decode cL_law 1334 = .ok (.laload, 1) := by decide +kernel
theorem dL_law_1335 : decode cL_law 1335 = .ok (.iload 6, 2) := by decide +kernel
theorem dL_law_1337 : decode cL_law 1337 = .ok (.i2l, 1) := by decide +kernel
theorem dL_law_1338 : decode cL_law 1338 = .ok (.lcmp, 1) := by decide +kernel
theorem dL_law_1339 : decode cL_law 1339 = .ok (.ifCond .eq 5, 3) := by decide +kernel
theorem dL_law_1342 : decode cL_law 1342 = .ok (.iconst 0, 1) := by decide +kernel
theorem dL_law_1343 : decode cL_law 1343 = .ok (.ireturn, 1) := by decide +kernel
theorem dL_law_1344 : decode cL_law 1344 = .ok (.goto 71, 3) := by decide +kernel
theorem dL_law_1347 : decode cL_law 1347 = .ok (.aload_n 1, 1) := by decide +kernel
theorem dL_law_1348 : decode cL_law 1348 = .ok (.invokevirtual 142, 3) := by decide +kernel
theorem dL_law_1351 : decode cL_law 1351 = .ok (.aload_n 2, 1) := by decide +kernel
theorem dL_law_1352 : decode cL_law 1352 = .ok (.invokevirtual 145, 3) := by decide +kernel
theorem dL_law_1355 : decode cL_law 1355 = .ok (.if_icmp .eq 60, 3) := by decide +kernel
theorem dL_law_1358 : decode cL_law 1358 = .ok (.iconst 0, 1) := by decide +kernel
theorem dL_law_1359 : decode cL_law 1359 = .ok (.ireturn, 1) := by decide +kernel
theorem dL_law_1360 : decode cL_law 1360 = .ok (.aload_n 1, 1) := by decide +kernel
theorem dL_law_1361 : decode cL_law 1361 = .ok (.invokevirtual 146, 3) := by decide +kernel
theorem dL_law_1364 : decode cL_law 1364 = .ok (.dstore 5, 2) := by decide +kernel
theorem dL_law_1366 : decode cL_law 1366 = .ok (.aload_n 2, 1) := by decide +kernel
theorem dL_law_1367 : decode cL_law 1367 = .ok (.invokevirtual 150, 3) := by decide +kernel
theorem dL_law_1370 : decode cL_law 1370 = .ok (.dstore 7, 2) := by decide +kernel
theorem dL_law_1372 : decode cL_law 1372 = .ok (.dload 5, 2) := by decide +kernel
theorem dL_law_1374 : decode cL_law 1374 = .ok (.dload 7, 2) := by decide +kernel
theorem dL_law_1376 : decode cL_law 1376 = .ok (.dcmp .l, 1) := by decide +kernel
theorem dL_law_1377 : decode cL_law 1377 = .ok (.ifCond .eq 21, 3) := by decide +kernel
theorem dL_law_1380 : decode cL_law 1380 = .ok (.dload 5, 2) := by decide +kernel
theorem dL_law_1382 : decode cL_law 1382 = .ok (.dload 5, 2) := by decide +kernel
theorem dL_law_1384 : decode cL_law 1384 = .ok (.dcmp .l, 1) := by decide +kernel
theorem dL_law_1385 : decode cL_law 1385 = .ok (.ifCond .eq 11, 3) := by decide +kernel
theorem dL_law_1388 : decode cL_law 1388 = .ok (.dload 7, 2) := by decide +kernel
theorem dL_law_1390 : decode cL_law 1390 = .ok (.dload 7, 2) := by decide +kernel
theorem dL_law_1392 : decode cL_law 1392 = .ok (.dcmp .l, 1) := by decide +kernel
theorem dL_law_1393 : decode cL_law 1393 = .ok (.ifCond .ne 5, 3) := by decide +kernel
theorem dL_law_1396 : decode cL_law 1396 = .ok (.iconst 0, 1) := by decide +kernel
theorem dL_law_1397 : decode cL_law 1397 = .ok (.ireturn, 1) := by decide +kernel
theorem dL_law_1398 : decode cL_law 1398 = .ok (.goto 17, 3) := by decide +kernel
theorem dL_law_1401 : decode cL_law 1401 = .ok (.aload_n 1, 1) := by decide +kernel
theorem dL_law_1402 : decode cL_law 1402 = .ok (.invokevirtual 151, 3) := by decide +kernel
theorem dL_law_1405 : decode cL_law 1405 = .ok (.aload_n 2, 1) := by decide +kernel
theorem dL_law_1406 : decode cL_law 1406 = .ok (.invokevirtual 155, 3) := by decide +kernel
theorem dL_law_1409 : decode cL_law 1409 = .ok (.lcmp, 1) := by decide +kernel
theorem dL_law_1410 : decode cL_law 1410 = .ok (.ifCond .eq 5, 3) := by decide +kernel
theorem dL_law_1413 : decode cL_law 1413 = .ok (.iconst 0, 1) := by decide +kernel
theorem dL_law_1414 : decode cL_law 1414 = .ok (.ireturn, 1) := by decide +kernel
theorem dL_law_1415 : decode cL_law 1415 = .ok (.iinc 4 4, 3) := by decide +kernel
theorem dL_law_1418 : decode cL_law 1418 = .ok (.goto (-1395), 3) := by decide +kernel
theorem dL_law_1421 : decode cL_law 1421 = .ok (.iconst 1, 1) := by decide +kernel
theorem dL_law_1422 : decode cL_law 1422 = .ok (.ireturn, 1) := by decide +kernel
end
section
/-! numbers -/
def iI (z : Int) : Int32 := Int32.ofInt z
theorem iI_add (a b : Int) : iI a + iI b = iI (a + b) := (Int32.ofInt_add a b).symm
theorem iI_sub (a b : Int) : iI a - iI b = iI (a - b) := (Int32.ofInt_sub a b).symm
theorem iI_mul (a b : Int) : iI a * iI b = iI (a * b) := (Int32.ofInt_mul a b).symm
theorem iI_neg (a : Int) : -iI a = iI (-a) := (Int32.ofInt_neg a).symm
theorem iI_toInt {z : Int} (h : -2147483648 ≤ z ∧ z < 2147483648) : (iI z).toInt = z := Int32.toInt_ofInt_of_le (by omega) (by omega)
theorem iI_self (x : Int32) : iI x.toInt = x := Int32.ofInt_toInt x
theorem iI_rng (x : Int32) : -2147483648 ≤ x.toInt ∧ x.toInt < 2147483648 := by
  have h1 := Int32.le_toInt x
  have h2 := Int32.toInt_lt x
  omega
theorem iI_le {a b : Int} (ha : -2147483648 ≤ a ∧ a < 2147483648) (hb : -2147483648 ≤ b ∧ b < 2147483648) : iI a ≤ iI b ↔ a ≤ b := by
  rw [Int32.le_iff_toInt_le, iI_toInt ha, iI_toInt hb]
theorem iI_lt {a b : Int} (ha : -2147483648 ≤ a ∧ a < 2147483648) (hb : -2147483648 ≤ b ∧ b < 2147483648) : iI a < iI b ↔ a < b := by
  rw [Int32.lt_iff_toInt_lt, iI_toInt ha, iI_toInt hb]
theorem iI_eq {a b : Int} (ha : -2147483648 ≤ a ∧ a < 2147483648) (hb : -2147483648 ≤ b ∧ b < 2147483648) : iI a = iI b ↔ a = b := by
  rw [← Int32.toInt_inj, iI_toInt ha, iI_toInt hb]
theorem iI_0 : iI 0 = 0 := by decide +kernel
theorem iI_clamp {z : Int} (h : 0 ≤ z ∧ z < 2147483648) : (iI z).toNatClampNeg = z.toNat := by
  show (iI z).toInt.toNat = z.toNat
  rw [iI_toInt (by omega)]
theorem iI_in {z : Int} {n : Nat} (h : 0 ≤ z ∧ z < n ∧ z < 2147483648) : vp_in (iI z) n := by
  rw [vp_in_iff, iI_toInt (by omega)]
  omega
theorem iI_div {a b : Int} (ha : 0 ≤ a ∧ a < 2147483648) (hb : 0 < b ∧ b < 2147483648) : iI a / iI b = iI (a / b) := by
  rw [← Int32.toInt_inj, Int32.toInt_div_of_ne_left, iI_toInt (by omega), iI_toInt (by omega), Int.tdiv_eq_ediv_of_nonneg (by omega), iI_toInt]
  · have h1 : 0 ≤ a / b := Int.ediv_nonneg (by omega) (by omega)
    have h2 : a / b ≤ a := Int.ediv_le_self _ (by omega)
    omega
  · intro h
    have h2 := congrArg Int32.toInt h
    rw [iI_toInt (by omega)] at h2
    have h3 : Int32.minValue.toInt = -2147483648 := by decide +kernel
    omega
theorem iI_rem {a b : Int} (ha : 0 ≤ a ∧ a < 2147483648) (hb : 0 < b ∧ b < 2147483648) : iI a - iI a / iI b * iI b = iI (a % b) := by
  rw [iI_div ha hb, iI_mul, iI_sub]
  congr 1
  have := Int.emod_add_mul_ediv a b
  rw [Int.mul_comm (a / b) b]
  omega
theorem iI_abs {a : Int} (ha : -2147483648 ≤ a ∧ a < 2147483648) : (if 0 ≤ iI a then iI a else 0 - iI a) = iI (if 0 ≤ a then a else -a) := by
  have h0 : (0 : Int32) = iI 0 := iI_0.symm
  rw [h0]
  have h1 := iI_le (a := 0) (b := a) (by omega) ha
  by_cases h : 0 ≤ a
  · rw [if_pos (h1.mpr h), if_pos h]
  · rw [if_neg (fun q => h (h1.mp q)), if_neg h, iI_sub]
    congr 1
    omega
def vF (f : Int → Int) : Nat → Int32 := fun j => iI (f (j : Int))
def fU (f : Int → Int) (i v : Int) : Int → Int := fun j => if j = i then v else f j
theorem fU_at (f : Int → Int) (i v : Int) : fU f i v i = v := if_pos rfl
theorem fU_ne (f : Int → Int) (i v : Int) {j : Int} (h : j ≠ i) : fU f i v j = f j := if_neg h
theorem vF_up (f : Int → Int) {i : Int} (v : Int) (h : 0 ≤ i ∧ i < 2147483648) : upd (vF f) (iI i).toNatClampNeg (iI v) = vF (fU f i v) := by
  rw [iI_clamp h]
  funext j
  unfold upd vF fU
  by_cases e : j = i.toNat
  · rw [if_pos e, if_pos (by omega)]
  · rw [if_neg e, if_neg (by omega)]
theorem vF_at (f : Int → Int) {i : Int} (h : 0 ≤ i ∧ i < 2147483648) : vF f (iI i).toNatClampNeg = iI (f i) := by
  rw [iI_clamp h]
  unfold vF
  congr 2
  omega
def fC (f g : Int → Int) (sp dp n : Int) : Int → Int := fun j => if dp ≤ j ∧ j < dp + n then f (sp + (j - dp)) else g j
theorem vF_cpy (f g : Int → Int) {sp dp n : Int} (h1 : 0 ≤ sp ∧ sp < 2147483648) (h2 : 0 ≤ dp ∧ dp < 2147483648) (h3 : 0 ≤ n ∧ n < 2147483648) : va_cpy (vF f) (vF g) (iI sp).toNatClampNeg (iI dp).toNatClampNeg (iI n).toNatClampNeg = vF (fC f g sp dp n) := by
  rw [iI_clamp h1, iI_clamp h2, iI_clamp h3]
  funext j
  unfold va_cpy vF fC
  by_cases e : dp ≤ (j : Int) ∧ (j : Int) < dp + n
  · rw [if_pos e, if_pos (by omega)]
    congr 2
    omega
  · rw [if_neg e, if_neg (by omega)]
/-! locals -/
def lk : List (Nat × Value) → Nat → Option Value
  | [], _ => none
  | (j, v) :: t, i => cond (Nat.beq j i) (some v) (lk t i)
theorem lk_mem : ∀ {l : List (Nat × Value)} {i : Nat} {v : Value}, lk l i = some v → (i, v) ∈ l
  | [], _, _, h => nomatch h
  | (j, w) :: t, i, v, h => by
    unfold lk at h
    cases hb : Nat.beq j i
    · rw [hb] at h
      exact List.mem_cons_of_mem _ (lk_mem h)
    · rw [hb] at h
      have e1 : j = i := Nat.eq_of_beq_eq_true hb
      have e2 : w = v := Option.some.inj h
      rw [e1, e2]
      exact List.mem_cons_self
theorem lk_at {ls : Array Slot} {nL : Nat} {l : List (Nat × Value)} (h : lv_has ls nL l) {i : Nat} {v : Value} (hk : lk l i = some v) : ls[i]? = some (.val v) := h.2.2 (i, v) (lk_mem hk)
/-! the walk's frame of reference -/
abbrev KK : Type := va_G × (Nat → ClassId) × (Nat → Nat)
def tys0 (K : KK) : List (ClassId × FieldType) := [(K.2.1 0, .int), (K.2.1 1, .boolean), (K.2.1 2, .long)]
def aI (K : KK) (n : Nat) (f : Int → Int) : va_E := .inl (K.2.1 0, n, .inl (vF f))
def aZ (K : KK) (n : Nat) (f : Int → Int) : va_E := .inl (K.2.1 1, n, .inl (vF f))
def aJ (K : KK) (n : Nat) (f : Nat → Int64) : va_E := .inl (K.2.1 2, n, .inr (.inl f))
def stX : Int → Int := fun j => if j = 0 then 1 else if j = 1 then 0 else if j = 2 then -1 else if j = 3 then -1 else if j = 4 then 0 else 1
def stY : Int → Int := fun j => if j = 0 then 0 else if j = 1 then 1 else if j = 2 then 1 else if j = 3 then 0 else if j = 4 then -1 else -1
def ZS (C n : String) (t : Nat) (f : Int → Int) (A : Nat → Prop) (U : State) (H : Heap) : Prop := va_Z C n "[I" (.ref t) A U H ∧ va_T .int t 6 (fun j => .int (vF f j)) A U H
theorem ZS.moved {C n : String} {t : Nat} {f : Int → Int} {A : Nat → Prop} {u U : State} {H : Heap} (hvm : u.vm.Alike U.vm) (h : ZS C n t f A u H) : ZS C n t f A U H := ⟨h.1.moved hvm, h.2.moved hvm⟩
theorem ZS.kept {C n : String} {t : Nat} {f : Int → Int} {A : Nat → Prop} {U : State} {H H1 : Heap} (h : ZS C n t f A U H) (hq : ∀ a : Nat, a < H.size → ¬ A a → H1[a]? = H[a]?) : ZS C n t f A U H1 := ⟨h.1.kept hq, h.2.kept hq⟩
theorem ZS.narrow {C n : String} {t : Nat} {f : Int → Int} {A B : Nat → Prop} {U : State} {H : Heap} (h : ZS C n t f A U H) (hAB : ∀ q, B q → A q) : ZS C n t f B U H := ⟨h.1.narrow hAB, h.2.narrow hAB⟩
def ZT (K : KK) (A : Nat → Prop) (U : State) (H : Heap) : Prop :=
  ZS "HexRooms$Plan" "STEP_ACROSS" (K.2.2 0) stX A U H ∧ ZS "HexRooms$Plan" "STEP_DOWN" (K.2.2 1) stY A U H ∧ ZS "HexRoomsModel" "ACROSS" (K.2.2 2) stX A U H ∧ ZS "HexRoomsModel" "DOWN" (K.2.2 3) stY A U H ∧
  vx_Zq Bundle.tN "UNASSIGNED_STACK" Bundle.steD A U H ∧ vx_Zq Bundle.tN "SUPPRESSED_SENTINEL" Bundle.listD A U H ∧ va_Nw (.methodLinkNest RX0 44 yX1_doorOf RX1) U
theorem ZT.moved {K : KK} {A : Nat → Prop} {u U : State} {H : Heap} (hW : u.WarmedH U.vm) (h : ZT K A u H) : ZT K A U H := by
  obtain ⟨h1, h2, h3, h4, h5, h6, h7⟩ := h
  have hvm := hW.alike
  exact ⟨h1.moved hvm, h2.moved hvm, h3.moved hvm, h4.moved hvm, h5.moved hvm, h6.moved hvm, h7.warmM hW⟩
theorem ZT.blind {K : KK} {A : Nat → Prop} {u U : State} {H : Heap} (hvm : u.vm = U.vm) (h : ZT K A u H) : ZT K A U H := by
  obtain ⟨h1, h2, h3, h4, h5, h6, h7⟩ := h
  have hal : u.vm.Alike U.vm := by rw [hvm]; exact Vm.Alike.refl _
  exact ⟨h1.moved hal, h2.moved hal, h3.moved hal, h4.moved hal, h5.moved hal, h6.moved hal, h7.same rfl hvm⟩
theorem ZT.kept {K : KK} {A : Nat → Prop} {U : State} {H H1 : Heap} (h : ZT K A U H) (hq : ∀ a : Nat, a < H.size → ¬ A a → H1[a]? = H[a]?) : ZT K A U H1 := by
  obtain ⟨h1, h2, h3, h4, h5, h6, h7⟩ := h
  exact ⟨h1.kept hq, h2.kept hq, h3.kept hq, h4.kept hq, h5.kept hq, h6.kept hq, h7⟩
theorem ZT.narrow {K : KK} {A B : Nat → Prop} {U : State} {H : Heap} (h : ZT K A U H) (hAB : ∀ q, B q → A q) : ZT K B U H := by
  obtain ⟨h1, h2, h3, h4, h5, h6, h7⟩ := h
  exact ⟨h1.narrow hAB, h2.narrow hAB, h3.narrow hAB, h4.narrow hAB, h5.narrow hAB, h6.narrow hAB, h7⟩
def hCx (p : Program) (s : State) (m : MethodId) (args : Array Value) (meth : Method) (c : Code) (cc : ByteArray) (nL : Nat) (rt : Option FieldType) (Ts : List Cond) (own : String) (K : KK) (A : Nat → Prop) : Prop :=
  p.tables.exec = Jvm.exec ∧ c.code = cc ∧ c.maxLocals = nL ∧ meth.sig.returnType = rt ∧ (∀ w ∈ Ts, w.before args s = true) ∧ s.vm.findClass own = some m.cls ∧ meth.locks = false ∧ va_K K.1 vwCl (tys0 K) s ∧ ZT K A s s.heap ∧ ∀ q : Nat, s.heap.size ≤ q → A q
def hG (p : Program) (l : Launch) (e : Env) (R : Room) (s : State) (m : MethodId) (args : Array Value) (below : List Frame) (meth : Method) (c : Code) (nL : Nat) (K : KK) (A : Nat → Prop) (k n : Nat) (Q : State → Prop) (pc : Nat) (lv : List (Nat × Value)) (st : List Value) (ws : va_W) : Prop :=
  ∀ (H : Heap) (locs : List Loc) (ls : Array Slot), va_P K.1 vwCl ws H → va_D A ws → va_S A s.heap H locs → lv_has ls nL lv → W p l e R s m args below meth c H locs k n Q (F0 m pc ls st)
def Pc0 (K : KK) (w0 : va_W) (As : List Value) (sz : Nat) : Array Value → State → Prop := va_Pc As (fun U => U.heap.size = sz ∧ va_P K.1 vwCl w0 U.heap ∧ va_K K.1 vwCl (tys0 K) U ∧ va_D (fun _ => True) w0 ∧ ZT K (va_A w0 sz) U U.heap)
def Bd0 (K : KK) (A : Nat → Prop) (w : va_W) (t : State) : Prop := va_P K.1 vwCl w t.heap ∧ va_K K.1 vwCl (tys0 K) t ∧ va_D A w
def hMI (l : Launch) (y : MethodName) (wy : List Cond) (rm : Room) (K : KK) (As : List Value) (w0 : va_W) (post : Int → va_W → Prop) : Prop :=
  ∀ sz : Nat, Met l y wy rm (Pc0 K w0 As sz) (va_Qi (fun r w => ∃ z : Int, r = iI z ∧ post z w) (Bd0 K (va_A w0 sz)) (va_A w0 sz)) 0 0 (va_A w0 sz)
def hMV (l : Launch) (y : MethodName) (wy : List Cond) (rm : Room) (K : KK) (As : List Value) (w0 : va_W) (post : va_W → Prop) : Prop :=
  ∀ sz : Nat, Met l y wy rm (Pc0 K w0 As sz) (va_Qv post (Bd0 K (va_A w0 sz)) (va_A w0 sz)) 0 0 (va_A w0 sz)
def hML (l : Launch) (y : MethodName) (wy : List Cond) (rm : Room) (K : KK) (As : List Value) (w0 : va_W) (post : Int64 → va_W → Prop) : Prop :=
  ∀ sz : Nat, Met l y wy rm (Pc0 K w0 As sz) (va_Ql post (Bd0 K (va_A w0 sz)) (va_A w0 sz)) 0 0 (va_A w0 sz)
def QI (K : KK) (A : Nat → Prop) (below : List Frame) (args : Array Value) (s : State) (post : Int → va_W → Prop) : State → Prop := MQ below (va_Qi (fun r w => ∃ z : Int, r = iI z ∧ post z w) (Bd0 K A) A) args s 0 0 A
def QV (K : KK) (A : Nat → Prop) (below : List Frame) (args : Array Value) (s : State) (post : va_W → Prop) : State → Prop := MQ below (va_Qv post (Bd0 K A) A) args s 0 0 A
def QL (K : KK) (A : Nat → Prop) (below : List Frame) (args : Array Value) (s : State) (post : Int64 → va_W → Prop) : State → Prop := MQ below (va_Ql post (Bd0 K A) A) args s 0 0 A
section GL
variable {p : Program} {l : Launch} {e : Env} {R : Room} {s : State} {m : MethodId} {args : Array Value} {below : List Frame} {meth : Method} {c : Code} {cc : ByteArray} {nL : Nat} {rt : Option FieldType} {Ts : List Cond} {own : String} {K : KK} {A : Nat → Prop} {k n : Nat} {Q : State → Prop} {pc : Nat} {lv lv' : List (Nat × Value)} {st : List Value} {ws : va_W}
theorem hCx.hx (C : hCx p s m args meth c cc nL rt Ts own K A) : p.tables.exec = Jvm.exec := C.1
theorem hCx.hb (C : hCx p s m args meth c cc nL rt Ts own K A) : c.code = cc := C.2.1
theorem hCx.hml (C : hCx p s m args meth c cc nL rt Ts own K A) : c.maxLocals = nL := C.2.2.1
theorem hCx.hr (C : hCx p s m args meth c cc nL rt Ts own K A) : meth.sig.returnType = rt := C.2.2.2.1
theorem hCx.hts (C : hCx p s m args meth c cc nL rt Ts own K A) : ∀ w ∈ Ts, w.before args s = true := C.2.2.2.2.1
theorem hCx.hown (C : hCx p s m args meth c cc nL rt Ts own K A) : s.vm.findClass own = some m.cls := C.2.2.2.2.2.1
theorem hCx.hlo (C : hCx p s m args meth c cc nL rt Ts own K A) : meth.locks = false := C.2.2.2.2.2.2.1
theorem hCx.hK (C : hCx p s m args meth c cc nL rt Ts own K A) : va_K K.1 vwCl (tys0 K) s := C.2.2.2.2.2.2.2.1
theorem hCx.hZ (C : hCx p s m args meth c cc nL rt Ts own K A) : ZT K A s s.heap := C.2.2.2.2.2.2.2.2.1
theorem hCx.hA (C : hCx p s m args meth c cc nL rt Ts own K A) : ∀ q : Nat, s.heap.size ≤ q → A q := C.2.2.2.2.2.2.2.2.2
theorem g_iconst (C : hCx p s m args meth c cc nL rt Ts own K A) {v : Int} (d : decode cc pc = .ok (.iconst v, 1)) (kk : hG p l e R s m args below meth c nL K A k n Q (pc + 1) lv (.int (iI v) :: st) ws) : hG p l e R s m args below meth c nL K A k n Q pc lv st ws :=
  fun H locs ls hP hD hS hl => lv_iconst C.hx C.hb d rfl (kk H locs ls hP hD hS hl)
theorem g_bipush (C : hCx p s m args meth c cc nL rt Ts own K A) {v : Int} (d : decode cc pc = .ok (.bipush v, 2)) (hv : (Int8.ofInt v).toInt32 = iI v) (kk : hG p l e R s m args below meth c nL K A k n Q (pc + 2) lv (.int (iI v) :: st) ws) : hG p l e R s m args below meth c nL K A k n Q pc lv st ws :=
  fun H locs ls hP hD hS hl => lv_bipush C.hx C.hb d hv (kk H locs ls hP hD hS hl)
theorem g_sipush (C : hCx p s m args meth c cc nL rt Ts own K A) {v : Int} (d : decode cc pc = .ok (.sipush v, 3)) (hv : (Int16.ofInt v).toInt32 = iI v) (kk : hG p l e R s m args below meth c nL K A k n Q (pc + 3) lv (.int (iI v) :: st) ws) : hG p l e R s m args below meth c nL K A k n Q pc lv st ws :=
  fun H locs ls hP hD hS hl => lv_sipush C.hx C.hb d hv (kk H locs ls hP hD hS hl)
theorem g_iload_n (C : hCx p s m args meth c cc nL rt Ts own K A) {f : Fin 4} {i : Nat} {x : Int32} (d : decode cc pc = .ok (.iload_n f, 1)) (hi : (f : Nat) = i) (h : lk lv i = some (.int x)) (kk : hG p l e R s m args below meth c nL K A k n Q (pc + 1) lv (.int x :: st) ws) : hG p l e R s m args below meth c nL K A k n Q pc lv st ws :=
  fun H locs ls hP hD hS hl => lv_iload_n C.hx C.hb d hi (lk_at hl h) (kk H locs ls hP hD hS hl)
theorem g_iload (C : hCx p s m args meth c cc nL rt Ts own K A) {i : Nat} {x : Int32} (d : decode cc pc = .ok (.iload i, 2)) (h : lk lv i = some (.int x)) (kk : hG p l e R s m args below meth c nL K A k n Q (pc + 2) lv (.int x :: st) ws) : hG p l e R s m args below meth c nL K A k n Q pc lv st ws :=
  fun H locs ls hP hD hS hl => lv_iload C.hx C.hb d (lk_at hl h) (kk H locs ls hP hD hS hl)
theorem g_aload_n (C : hCx p s m args meth c cc nL rt Ts own K A) {f : Fin 4} {i : Nat} {x : Nat} (d : decode cc pc = .ok (.aload_n f, 1)) (hi : (f : Nat) = i) (h : lk lv i = some (.ref x)) (kk : hG p l e R s m args below meth c nL K A k n Q (pc + 1) lv (.ref x :: st) ws) : hG p l e R s m args below meth c nL K A k n Q pc lv st ws :=
  fun H locs ls hP hD hS hl => lv_aload_n C.hx C.hb d hi (lk_at hl h) (kk H locs ls hP hD hS hl)
theorem g_aload (C : hCx p s m args meth c cc nL rt Ts own K A) {i : Nat} {x : Nat} (d : decode cc pc = .ok (.aload i, 2)) (h : lk lv i = some (.ref x)) (kk : hG p l e R s m args below meth c nL K A k n Q (pc + 2) lv (.ref x :: st) ws) : hG p l e R s m args below meth c nL K A k n Q pc lv st ws :=
  fun H locs ls hP hD hS hl => lv_aload C.hx C.hb d (lk_at hl h) (kk H locs ls hP hD hS hl)
theorem g_lload_n (C : hCx p s m args meth c cc nL rt Ts own K A) {f : Fin 4} {i : Nat} {x : Int64} (d : decode cc pc = .ok (.lload_n f, 1)) (hi : (f : Nat) = i) (h : lk lv i = some (.long x)) (kk : hG p l e R s m args below meth c nL K A k n Q (pc + 1) lv (.long x :: st) ws) : hG p l e R s m args below meth c nL K A k n Q pc lv st ws :=
  fun H locs ls hP hD hS hl => lv_lload_n C.hx C.hb d hi (lk_at hl h) (kk H locs ls hP hD hS hl)
theorem g_dload (C : hCx p s m args meth c cc nL rt Ts own K A) {i : Nat} {x : UInt64} (d : decode cc pc = .ok (.dload i, 2)) (h : lk lv i = some (.double x)) (kk : hG p l e R s m args below meth c nL K A k n Q (pc + 2) lv (.double x :: st) ws) : hG p l e R s m args below meth c nL K A k n Q pc lv st ws :=
  fun H locs ls hP hD hS hl => lv_dload C.hx C.hb d (lk_at hl h) (kk H locs ls hP hD hS hl)
theorem g_istore_n (C : hCx p s m args meth c cc nL rt Ts own K A) {f : Fin 4} {i : Nat} {x : Int32} (d : decode cc pc = .ok (.istore_n f, 1)) (hi : (f : Nat) = i) (hn : i < nL) (hl : (i, Value.int x) :: lv.filter (fun q => !(q.1 == i) && !(q.1 + 1 == i && q.2.category == 2)) = lv') (kk : hG p l e R s m args below meth c nL K A k n Q (pc + 1) lv' st ws) : hG p l e R s m args below meth c nL K A k n Q pc lv (.int x :: st) ws :=
  fun H locs ls hP hD hS h => lv_istore_n C.hx C.hb d hi h hn hl (fun ls' h' => kk H locs ls' hP hD hS h')
theorem g_istore (C : hCx p s m args meth c cc nL rt Ts own K A) {i : Nat} {x : Int32} (d : decode cc pc = .ok (.istore i, 2)) (hn : i < nL) (hl : (i, Value.int x) :: lv.filter (fun q => !(q.1 == i) && !(q.1 + 1 == i && q.2.category == 2)) = lv') (kk : hG p l e R s m args below meth c nL K A k n Q (pc + 2) lv' st ws) : hG p l e R s m args below meth c nL K A k n Q pc lv (.int x :: st) ws :=
  fun H locs ls hP hD hS h => lv_istore C.hx C.hb d h hn hl (fun ls' h' => kk H locs ls' hP hD hS h')
theorem g_astore_n (C : hCx p s m args meth c cc nL rt Ts own K A) {f : Fin 4} {i : Nat} {x : Nat} (d : decode cc pc = .ok (.astore_n f, 1)) (hi : (f : Nat) = i) (hn : i < nL) (hl : (i, Value.ref x) :: lv.filter (fun q => !(q.1 == i) && !(q.1 + 1 == i && q.2.category == 2)) = lv') (kk : hG p l e R s m args below meth c nL K A k n Q (pc + 1) lv' st ws) : hG p l e R s m args below meth c nL K A k n Q pc lv (.ref x :: st) ws :=
  fun H locs ls hP hD hS h => lv_astore_n C.hx C.hb d hi h hn hl (fun ls' h' => kk H locs ls' hP hD hS h')
theorem g_astore (C : hCx p s m args meth c cc nL rt Ts own K A) {i : Nat} {x : Nat} (d : decode cc pc = .ok (.astore i, 2)) (hn : i < nL) (hl : (i, Value.ref x) :: lv.filter (fun q => !(q.1 == i) && !(q.1 + 1 == i && q.2.category == 2)) = lv') (kk : hG p l e R s m args below meth c nL K A k n Q (pc + 2) lv' st ws) : hG p l e R s m args below meth c nL K A k n Q pc lv (.ref x :: st) ws :=
  fun H locs ls hP hD hS h => lv_astore C.hx C.hb d h hn hl (fun ls' h' => kk H locs ls' hP hD hS h')
theorem g_lstore_n (C : hCx p s m args meth c cc nL rt Ts own K A) {f : Fin 4} {i : Nat} {x : Int64} (d : decode cc pc = .ok (.lstore_n f, 1)) (hi : (f : Nat) = i) (hn : i + 1 < nL) (hl : (i, Value.long x) :: lv.filter (fun q => !(q.1 == i) && (!(q.1 == i + 1) && !(q.1 + 1 == i && q.2.category == 2))) = lv') (kk : hG p l e R s m args below meth c nL K A k n Q (pc + 1) lv' st ws) : hG p l e R s m args below meth c nL K A k n Q pc lv (.long x :: st) ws :=
  fun H locs ls hP hD hS h => lv_lstore_n C.hx C.hb d hi h hn hl (fun ls' h' => kk H locs ls' hP hD hS h')
theorem g_dstore (C : hCx p s m args meth c cc nL rt Ts own K A) {i : Nat} {x : UInt64} (d : decode cc pc = .ok (.dstore i, 2)) (hn : i + 1 < nL) (hl : (i, Value.double x) :: lv.filter (fun q => !(q.1 == i) && (!(q.1 == i + 1) && !(q.1 + 1 == i && q.2.category == 2))) = lv') (kk : hG p l e R s m args below meth c nL K A k n Q (pc + 2) lv' st ws) : hG p l e R s m args below meth c nL K A k n Q pc lv (.double x :: st) ws :=
  fun H locs ls hP hD hS h => lv_dstore C.hx C.hb d h hn hl (fun ls' h' => kk H locs ls' hP hD hS h')
theorem g_iinc (C : hCx p s m args meth c cc nL rt Ts own K A) {i : Nat} {v z : Int} (d : decode cc pc = .ok (.iinc i v, 3)) (h : lk lv i = some (.int (iI z))) (hn : i < nL) (hl : (i, Value.int (iI (z + v))) :: lv.filter (fun q => !(q.1 == i) && !(q.1 + 1 == i && q.2.category == 2)) = lv') (kk : hG p l e R s m args below meth c nL K A k n Q (pc + 3) lv' st ws) : hG p l e R s m args below meth c nL K A k n Q pc lv st ws := by
  intro H locs ls hP hD hS h0
  obtain ⟨j, hj⟩ := List.getElem?_of_mem (lk_mem h)
  exact lv_iinc (v := iI (z + v)) C.hx C.hb d h0 hj (iI_add z v) hn hl (fun ls' h' => kk H locs ls' hP hD hS h')
theorem g_iadd (C : hCx p s m args meth c cc nL rt Ts own K A) {x y : Int} (d : decode cc pc = .ok (.iadd, 1)) (kk : hG p l e R s m args below meth c nL K A k n Q (pc + 1) lv (.int (iI (x + y)) :: st) ws) : hG p l e R s m args below meth c nL K A k n Q pc lv (.int (iI y) :: .int (iI x) :: st) ws :=
  fun H locs ls hP hD hS hl => lv_iadd C.hx C.hb d (by rw [iI_add]; exact kk H locs ls hP hD hS hl)
theorem g_isub (C : hCx p s m args meth c cc nL rt Ts own K A) {x y : Int} (d : decode cc pc = .ok (.isub, 1)) (kk : hG p l e R s m args below meth c nL K A k n Q (pc + 1) lv (.int (iI (x - y)) :: st) ws) : hG p l e R s m args below meth c nL K A k n Q pc lv (.int (iI y) :: .int (iI x) :: st) ws :=
  fun H locs ls hP hD hS hl => lv_isub C.hx C.hb d (by rw [iI_sub]; exact kk H locs ls hP hD hS hl)
theorem g_imul (C : hCx p s m args meth c cc nL rt Ts own K A) {x y : Int} (d : decode cc pc = .ok (.imul, 1)) (kk : hG p l e R s m args below meth c nL K A k n Q (pc + 1) lv (.int (iI (x * y)) :: st) ws) : hG p l e R s m args below meth c nL K A k n Q pc lv (.int (iI y) :: .int (iI x) :: st) ws :=
  fun H locs ls hP hD hS hl => lv_imul C.hx C.hb d (by rw [iI_mul]; exact kk H locs ls hP hD hS hl)
theorem iI_ne0 {b : Int} (hb : 0 < b ∧ b < 2147483648) : ¬ iI b = 0 := by
  rw [← iI_0, iI_eq (by omega) (by omega)]
  omega
theorem g_idiv (C : hCx p s m args meth c cc nL rt Ts own K A) {x y : Int} (d : decode cc pc = .ok (.idiv, 1)) (hx : 0 ≤ x ∧ x < 2147483648) (hy : 0 < y ∧ y < 2147483648) (kk : hG p l e R s m args below meth c nL K A k n Q (pc + 1) lv (.int (iI (x / y)) :: st) ws) : hG p l e R s m args below meth c nL K A k n Q pc lv (.int (iI y) :: .int (iI x) :: st) ws :=
  fun H locs ls hP hD hS hl => lv_idiv C.hx C.hb d (iI_ne0 hy) (by rw [iI_div hx hy]; exact kk H locs ls hP hD hS hl)
theorem g_irem (C : hCx p s m args meth c cc nL rt Ts own K A) {x y : Int} (d : decode cc pc = .ok (.irem, 1)) (hx : 0 ≤ x ∧ x < 2147483648) (hy : 0 < y ∧ y < 2147483648) (kk : hG p l e R s m args below meth c nL K A k n Q (pc + 1) lv (.int (iI (x % y)) :: st) ws) : hG p l e R s m args below meth c nL K A k n Q pc lv (.int (iI y) :: .int (iI x) :: st) ws :=
  fun H locs ls hP hD hS hl => lv_irem C.hx C.hb d (iI_ne0 hy) (by rw [iI_rem hx hy]; exact kk H locs ls hP hD hS hl)
theorem g_goto (C : hCx p s m args meth c cc nL rt Ts own K A) {off : Int} {tgt : Nat} (d : decode cc pc = .ok (.goto off, 3)) (ht : (pc : Int) + off = (tgt : Int)) (kk : hG p l e R s m args below meth c nL K A k n Q tgt lv st ws) : hG p l e R s m args below meth c nL K A k n Q pc lv st ws :=
  fun H locs ls hP hD hS hl => lv_goto C.hx C.hb d ht (kk H locs ls hP hD hS hl)
theorem g_dup (C : hCx p s m args meth c cc nL rt Ts own K A) {v : Value} (d : decode cc pc = .ok (.dup, 1)) (hv : v.category = 1) (kk : hG p l e R s m args below meth c nL K A k n Q (pc + 1) lv (v :: v :: st) ws) : hG p l e R s m args below meth c nL K A k n Q pc lv (v :: st) ws :=
  fun H locs ls hP hD hS hl => lv_dup C.hx C.hb d hv (kk H locs ls hP hD hS hl)
theorem g_dup2 (C : hCx p s m args meth c cc nL rt Ts own K A) {v w : Value} (d : decode cc pc = .ok (.dup2, 1)) (hv : v.category = 1) (hw : w.category = 1) (kk : hG p l e R s m args below meth c nL K A k n Q (pc + 1) lv (v :: w :: v :: w :: st) ws) : hG p l e R s m args below meth c nL K A k n Q pc lv (v :: w :: st) ws :=
  fun H locs ls hP hD hS hl => lv_dup2_11 C.hx C.hb d hv hw (kk H locs ls hP hD hS hl)
theorem g_pop (C : hCx p s m args meth c cc nL rt Ts own K A) {v : Value} (d : decode cc pc = .ok (.pop, 1)) (hv : v.category = 1) (kk : hG p l e R s m args below meth c nL K A k n Q (pc + 1) lv st ws) : hG p l e R s m args below meth c nL K A k n Q pc lv (v :: st) ws :=
  fun H locs ls hP hD hS hl => lv_pop C.hx C.hb d hv (kk H locs ls hP hD hS hl)
theorem g_if_eq (C : hCx p s m args meth c cc nL rt Ts own K A) {x off : Int} {tgt : Nat} (d : decode cc pc = .ok (.ifCond .eq off, 3)) (ht : (pc : Int) + off = (tgt : Int)) (hx : -2147483648 ≤ x ∧ x < 2147483648) (kt : x = 0 → hG p l e R s m args below meth c nL K A k n Q tgt lv st ws) (kf : ¬ x = 0 → hG p l e R s m args below meth c nL K A k n Q (pc + 3) lv st ws) : hG p l e R s m args below meth c nL K A k n Q pc lv (.int (iI x) :: st) ws :=
  fun H locs ls hP hD hS hl => lv_if_eq C.hx C.hb d ht (fun h => kt ((iI_eq hx (by omega)).mp (by rw [iI_0]; exact h)) H locs ls hP hD hS hl) (fun h => kf (fun q => h (by rw [q, iI_0])) H locs ls hP hD hS hl)
theorem g_if_ne (C : hCx p s m args meth c cc nL rt Ts own K A) {x off : Int} {tgt : Nat} (d : decode cc pc = .ok (.ifCond .ne off, 3)) (ht : (pc : Int) + off = (tgt : Int)) (hx : -2147483648 ≤ x ∧ x < 2147483648) (kt : ¬ x = 0 → hG p l e R s m args below meth c nL K A k n Q tgt lv st ws) (kf : x = 0 → hG p l e R s m args below meth c nL K A k n Q (pc + 3) lv st ws) : hG p l e R s m args below meth c nL K A k n Q pc lv (.int (iI x) :: st) ws :=
  fun H locs ls hP hD hS hl => lv_if_ne C.hx C.hb d ht (fun h => kt (fun q => h (by rw [q, iI_0])) H locs ls hP hD hS hl) (fun h => kf ((iI_eq hx (by omega)).mp (by rw [iI_0]; exact h)) H locs ls hP hD hS hl)
theorem g_if_lt (C : hCx p s m args meth c cc nL rt Ts own K A) {x off : Int} {tgt : Nat} (d : decode cc pc = .ok (.ifCond .lt off, 3)) (ht : (pc : Int) + off = (tgt : Int)) (hx : -2147483648 ≤ x ∧ x < 2147483648) (kt : x < 0 → hG p l e R s m args below meth c nL K A k n Q tgt lv st ws) (kf : ¬ x < 0 → hG p l e R s m args below meth c nL K A k n Q (pc + 3) lv st ws) : hG p l e R s m args below meth c nL K A k n Q pc lv (.int (iI x) :: st) ws :=
  fun H locs ls hP hD hS hl => lv_if_lt C.hx C.hb d ht (fun h => kt ((iI_lt hx (by omega)).mp (by rw [iI_0]; exact h)) H locs ls hP hD hS hl) (fun h => kf (fun q => h (by rw [← iI_0]; exact (iI_lt hx (by omega)).mpr q)) H locs ls hP hD hS hl)
theorem g_if_le (C : hCx p s m args meth c cc nL rt Ts own K A) {x off : Int} {tgt : Nat} (d : decode cc pc = .ok (.ifCond .le off, 3)) (ht : (pc : Int) + off = (tgt : Int)) (hx : -2147483648 ≤ x ∧ x < 2147483648) (kt : x ≤ 0 → hG p l e R s m args below meth c nL K A k n Q tgt lv st ws) (kf : ¬ x ≤ 0 → hG p l e R s m args below meth c nL K A k n Q (pc + 3) lv st ws) : hG p l e R s m args below meth c nL K A k n Q pc lv (.int (iI x) :: st) ws :=
  fun H locs ls hP hD hS hl => lv_if_le C.hx C.hb d ht (fun h => kt ((iI_le hx (by omega)).mp (by rw [iI_0]; exact h)) H locs ls hP hD hS hl) (fun h => kf (fun q => h (by rw [← iI_0]; exact (iI_le hx (by omega)).mpr q)) H locs ls hP hD hS hl)
theorem g_icmp_eq (C : hCx p s m args meth c cc nL rt Ts own K A) {x y off : Int} {tgt : Nat} (d : decode cc pc = .ok (.if_icmp .eq off, 3)) (ht : (pc : Int) + off = (tgt : Int)) (hx : -2147483648 ≤ x ∧ x < 2147483648) (hy : -2147483648 ≤ y ∧ y < 2147483648) (kt : x = y → hG p l e R s m args below meth c nL K A k n Q tgt lv st ws) (kf : ¬ x = y → hG p l e R s m args below meth c nL K A k n Q (pc + 3) lv st ws) : hG p l e R s m args below meth c nL K A k n Q pc lv (.int (iI y) :: .int (iI x) :: st) ws :=
  fun H locs ls hP hD hS hl => lv_icmp_eq C.hx C.hb d ht (fun h => kt ((iI_eq hx hy).mp h) H locs ls hP hD hS hl) (fun h => kf (fun q => h ((iI_eq hx hy).mpr q)) H locs ls hP hD hS hl)
theorem g_icmp_ne (C : hCx p s m args meth c cc nL rt Ts own K A) {x y off : Int} {tgt : Nat} (d : decode cc pc = .ok (.if_icmp .ne off, 3)) (ht : (pc : Int) + off = (tgt : Int)) (hx : -2147483648 ≤ x ∧ x < 2147483648) (hy : -2147483648 ≤ y ∧ y < 2147483648) (kt : ¬ x = y → hG p l e R s m args below meth c nL K A k n Q tgt lv st ws) (kf : x = y → hG p l e R s m args below meth c nL K A k n Q (pc + 3) lv st ws) : hG p l e R s m args below meth c nL K A k n Q pc lv (.int (iI y) :: .int (iI x) :: st) ws :=
  fun H locs ls hP hD hS hl => lv_icmp_ne C.hx C.hb d ht (fun h => kt (fun q => h ((iI_eq hx hy).mpr q)) H locs ls hP hD hS hl) (fun h => kf ((iI_eq hx hy).mp h) H locs ls hP hD hS hl)
theorem g_icmp_lt (C : hCx p s m args meth c cc nL rt Ts own K A) {x y off : Int} {tgt : Nat} (d : decode cc pc = .ok (.if_icmp .lt off, 3)) (ht : (pc : Int) + off = (tgt : Int)) (hx : -2147483648 ≤ x ∧ x < 2147483648) (hy : -2147483648 ≤ y ∧ y < 2147483648) (kt : x < y → hG p l e R s m args below meth c nL K A k n Q tgt lv st ws) (kf : ¬ x < y → hG p l e R s m args below meth c nL K A k n Q (pc + 3) lv st ws) : hG p l e R s m args below meth c nL K A k n Q pc lv (.int (iI y) :: .int (iI x) :: st) ws :=
  fun H locs ls hP hD hS hl => lv_icmp_lt C.hx C.hb d ht (fun h => kt ((iI_lt hx hy).mp h) H locs ls hP hD hS hl) (fun h => kf (fun q => h ((iI_lt hx hy).mpr q)) H locs ls hP hD hS hl)
theorem g_icmp_ge (C : hCx p s m args meth c cc nL rt Ts own K A) {x y off : Int} {tgt : Nat} (d : decode cc pc = .ok (.if_icmp .ge off, 3)) (ht : (pc : Int) + off = (tgt : Int)) (hx : -2147483648 ≤ x ∧ x < 2147483648) (hy : -2147483648 ≤ y ∧ y < 2147483648) (kt : y ≤ x → hG p l e R s m args below meth c nL K A k n Q tgt lv st ws) (kf : ¬ y ≤ x → hG p l e R s m args below meth c nL K A k n Q (pc + 3) lv st ws) : hG p l e R s m args below meth c nL K A k n Q pc lv (.int (iI y) :: .int (iI x) :: st) ws :=
  fun H locs ls hP hD hS hl => lv_icmp_ge C.hx C.hb d ht (fun h => kt ((iI_le hy hx).mp h) H locs ls hP hD hS hl) (fun h => kf (fun q => h ((iI_le hy hx).mpr q)) H locs ls hP hD hS hl)
theorem g_icmp_gt (C : hCx p s m args meth c cc nL rt Ts own K A) {x y off : Int} {tgt : Nat} (d : decode cc pc = .ok (.if_icmp .gt off, 3)) (ht : (pc : Int) + off = (tgt : Int)) (hx : -2147483648 ≤ x ∧ x < 2147483648) (hy : -2147483648 ≤ y ∧ y < 2147483648) (kt : y < x → hG p l e R s m args below meth c nL K A k n Q tgt lv st ws) (kf : ¬ y < x → hG p l e R s m args below meth c nL K A k n Q (pc + 3) lv st ws) : hG p l e R s m args below meth c nL K A k n Q pc lv (.int (iI y) :: .int (iI x) :: st) ws :=
  fun H locs ls hP hD hS hl => lv_icmp_gt C.hx C.hb d ht (fun h => kt ((iI_lt hy hx).mp h) H locs ls hP hD hS hl) (fun h => kf (fun q => h ((iI_lt hy hx).mpr q)) H locs ls hP hD hS hl)
theorem g_icmp_le (C : hCx p s m args meth c cc nL rt Ts own K A) {x y off : Int} {tgt : Nat} (d : decode cc pc = .ok (.if_icmp .le off, 3)) (ht : (pc : Int) + off = (tgt : Int)) (hx : -2147483648 ≤ x ∧ x < 2147483648) (hy : -2147483648 ≤ y ∧ y < 2147483648) (kt : x ≤ y → hG p l e R s m args below meth c nL K A k n Q tgt lv st ws) (kf : ¬ x ≤ y → hG p l e R s m args below meth c nL K A k n Q (pc + 3) lv st ws) : hG p l e R s m args below meth c nL K A k n Q pc lv (.int (iI y) :: .int (iI x) :: st) ws :=
  fun H locs ls hP hD hS hl => lv_icmp_le C.hx C.hb d ht (fun h => kt ((iI_le hx hy).mp h) H locs ls hP hD hS hl) (fun h => kf (fun q => h ((iI_le hx hy).mpr q)) H locs ls hP hD hS hl)
theorem g_tsw (C : hCx p s m args meth c cc nL rt Ts own K A) {z dflt lo hi off : Int} {offs : Array Int} {len tgt : Nat} (d : decode cc pc = .ok (.tableswitch dflt lo hi offs, len)) (hz : -2147483648 ≤ z ∧ z < 2147483648) (h1 : ¬ z < lo) (h2 : ¬ hi < z) (ho : offs[(z - lo).toNat]? = some off) (ht : (pc : Int) + off = (tgt : Int)) (kk : hG p l e R s m args below meth c nL K A k n Q tgt lv st ws) : hG p l e R s m args below meth c nL K A k n Q pc lv (.int (iI z) :: st) ws :=
  fun H locs ls hP hD hS hl => lv_tableIn C.hx C.hb d (by rw [iI_toInt hz]; exact h1) (by rw [iI_toInt hz]; exact h2) (by rw [iI_toInt hz]; exact ho) ht (kk H locs ls hP hD hS hl)
theorem g_tswD (C : hCx p s m args meth c cc nL rt Ts own K A) {z dflt lo hi : Int} {offs : Array Int} {len tgt : Nat} (d : decode cc pc = .ok (.tableswitch dflt lo hi offs, len)) (hz : -2147483648 ≤ z ∧ z < 2147483648) (h1 : z < lo ∨ hi < z) (ht : (pc : Int) + dflt = (tgt : Int)) (kk : hG p l e R s m args below meth c nL K A k n Q tgt lv st ws) : hG p l e R s m args below meth c nL K A k n Q pc lv (.int (iI z) :: st) ws :=
  fun H locs ls hP hD hS hl => lv_tableOut C.hx C.hb d (by rw [iI_toInt hz]; exact h1) ht (kk H locs ls hP hD hS hl)
theorem g_get (C : hCx p s m args meth c cc nL rt Ts own K A) {ref Cn : String} {T : u_T} {N ci index a : Nat} (q0 : Nat) {fs : List Value} (he : ws[q0]? = some (a, .inr (ci, fs))) (hc : vwCl[ci]? = some (Cn, T, N)) (hin : ∀ w ∈ u_ws Cn T N, w ∈ Ts) (f : Nat) (hk : f < N) (hlink : (Cond.fieldLink own index ref (T f).2.1 (T f).2.2.1) ∈ Ts) (hsame : ref = (T f).1) {v : Value} (hv : fs[f]? = some v) (d : decode cc pc = .ok (.getfield index, 3)) (kk : hG p l e R s m args below meth c nL K A k n Q (pc + 3) lv (v :: st) ws) : hG p l e R s m args below meth c nL K A k n Q pc lv (.ref a :: st) ws :=
  fun H locs ls hP hD hS hl => va_get C.hx C.hb C.hts hin C.hown C.hK hP q0 he hc f hk (C.hts _ hlink) (fun _ h => by rw [hsame]; exact h) hv d (kk H locs ls hP hD hS hl)
theorem g_put (C : hCx p s m args meth c cc nL rt Ts own K A) {ref Cn : String} {T : u_T} {N ci index a : Nat} (q0 : Nat) {fs : List Value} (he : ws[q0]? = some (a, .inr (ci, fs))) (hc : vwCl[ci]? = some (Cn, T, N)) (hin : ∀ w ∈ u_ws Cn T N, w ∈ Ts) (ty0 : Nat → FieldType) (hty : ∀ k, k < N → parseFieldDescriptor (T k).2.2.1 = some (ty0 k)) (hnm : ∀ a, a < N → ∀ b, b < N → a ≠ b → (T a).2.1 ≠ (T b).2.1) (f : Nat) (hk : f < N) (hlink : (Cond.fieldLink own index ref (T f).2.1 (T f).2.2.1) ∈ Ts) (hsame : ref = (T f).1) (hfin : (T f).2.2.2 = false) (hd : ty0 f = .int) {x : Int32} (hl0 : f < fs.length) (d : decode cc pc = .ok (.putfield index, 3)) {ws' : va_W} (hw : ws.set q0 (a, .inr (ci, fs.set f (.int x))) = ws') (kk : hG p l e R s m args below meth c nL K A k n Q (pc + 3) lv st ws') : hG p l e R s m args below meth c nL K A k n Q pc lv (.int x :: .ref a :: st) ws := by
  intro H locs ls hP hD hS hl
  subst hw
  exact va_put (ty := .int) (v := .int x) C.hx C.hb C.hts hin ty0 hty hnm C.hown C.hK hP hD hS q0 he hc f hk (C.hts _ hlink) (fun _ h => by rw [hsame]; exact h) hfin (by rw [hty f hk, hd]) rfl rfl hl0 d (fun H1 locs1 hP hD hS => kk H1 locs1 ls hP hD hS hl)
theorem g_iaload (C : hCx p s m args meth c cc nL rt Ts own K A) {a N : Nat} {f : Int → Int} {i : Int} (q0 : Nat) (he : ws[q0]? = some (a, aI K N f)) (hi : 0 ≤ i ∧ i < N ∧ i < 2147483648) (d : decode cc pc = .ok (.iaload, 1)) (kk : hG p l e R s m args below meth c nL K A k n Q (pc + 1) lv (.int (iI (f i)) :: st) ws) : hG p l e R s m args below meth c nL K A k n Q pc lv (.int (iI i) :: .ref a :: st) ws :=
  fun H locs ls hP hD hS hl => va_iald (cA := K.2.1 0) (f := vF f) C.hx C.hb C.hK hP q0 0 he rfl (iI_in hi) d (by rw [vF_at f (by omega)]; exact kk H locs ls hP hD hS hl)
theorem g_baload (C : hCx p s m args meth c cc nL rt Ts own K A) {a N : Nat} {f : Int → Int} {i : Int} (q0 : Nat) (he : ws[q0]? = some (a, aZ K N f)) (hi : 0 ≤ i ∧ i < N ∧ i < 2147483648) (d : decode cc pc = .ok (.baload, 1)) (kk : hG p l e R s m args below meth c nL K A k n Q (pc + 1) lv (.int (iI (f i)) :: st) ws) : hG p l e R s m args below meth c nL K A k n Q pc lv (.int (iI i) :: .ref a :: st) ws :=
  fun H locs ls hP hD hS hl => va_zald (cA := K.2.1 1) (f := vF f) C.hx C.hb C.hK hP q0 1 he rfl (iI_in hi) d (by rw [vF_at f (by omega)]; exact kk H locs ls hP hD hS hl)
theorem g_iastore (C : hCx p s m args meth c cc nL rt Ts own K A) {a N : Nat} {f : Int → Int} {i v : Int} (q0 : Nat) (he : ws[q0]? = some (a, aI K N f)) (hi : 0 ≤ i ∧ i < N ∧ i < 2147483648) (d : decode cc pc = .ok (.iastore, 1)) {ws' : va_W} (hw : ws.set q0 (a, aI K N (fU f i v)) = ws') (kk : hG p l e R s m args below meth c nL K A k n Q (pc + 1) lv st ws') : hG p l e R s m args below meth c nL K A k n Q pc lv (.int (iI v) :: .int (iI i) :: .ref a :: st) ws := by
  intro H locs ls hP hD hS hl
  refine va_iast (cA := K.2.1 0) (f := vF f) C.hx C.hb C.hK hP hD hS q0 0 he rfl (iI_in hi) d (fun H1 locs1 hP hD hS => ?_)
  rw [vF_up f v (by omega)] at hP hD
  subst hw
  exact kk H1 locs1 ls hP hD hS hl
theorem iI_bool {v : Int} (h : v = 0 ∨ v = 1) : vp_nar .boolean (iI v) = iI v := by
  rcases h with rfl | rfl <;> decide +kernel
theorem g_bastore (C : hCx p s m args meth c cc nL rt Ts own K A) {a N : Nat} {f : Int → Int} {i v : Int} (q0 : Nat) (he : ws[q0]? = some (a, aZ K N f)) (hi : 0 ≤ i ∧ i < N ∧ i < 2147483648) (hv : v = 0 ∨ v = 1) (d : decode cc pc = .ok (.bastore, 1)) {ws' : va_W} (hw : ws.set q0 (a, aZ K N (fU f i v)) = ws') (kk : hG p l e R s m args below meth c nL K A k n Q (pc + 1) lv st ws') : hG p l e R s m args below meth c nL K A k n Q pc lv (.int (iI v) :: .int (iI i) :: .ref a :: st) ws := by
  intro H locs ls hP hD hS hl
  refine va_zast (cA := K.2.1 1) (f := vF f) C.hx C.hb C.hK hP hD hS q0 1 he rfl (iI_in hi) d (fun H1 locs1 hP hD hS => ?_)
  rw [iI_bool hv, vF_up f v (by omega)] at hP hD
  subst hw
  exact kk H1 locs1 ls hP hD hS hl
theorem g_alen (C : hCx p s m args meth c cc nL rt Ts own K A) {a N : Nat} {f : Int → Int} (q0 : Nat) (he : ws[q0]? = some (a, aI K N f)) (d : decode cc pc = .ok (.arraylength, 1)) (kk : hG p l e R s m args below meth c nL K A k n Q (pc + 1) lv (.int (iI (N : Int)) :: st) ws) : hG p l e R s m args below meth c nL K A k n Q pc lv (.ref a :: st) ws :=
  fun H locs ls hP hD hS hl => va_alen (cA := K.2.1 0) (x := (N, .inl (vF f))) C.hx C.hb C.hK hP q0 0 he rfl (v := iI (N : Int)) (Int32.ofInt_eq_ofNat).symm d (kk H locs ls hP hD hS hl)
theorem g_alenZ (C : hCx p s m args meth c cc nL rt Ts own K A) {a N : Nat} {f : Int → Int} (q0 : Nat) (he : ws[q0]? = some (a, aZ K N f)) (d : decode cc pc = .ok (.arraylength, 1)) (kk : hG p l e R s m args below meth c nL K A k n Q (pc + 1) lv (.int (iI (N : Int)) :: st) ws) : hG p l e R s m args below meth c nL K A k n Q pc lv (.ref a :: st) ws :=
  fun H locs ls hP hD hS hl => va_alen (cA := K.2.1 1) (x := (N, .inl (vF f))) C.hx C.hb C.hK hP q0 1 he rfl (v := iI (N : Int)) (Int32.ofInt_eq_ofNat).symm d (kk H locs ls hP hD hS hl)
theorem g_getS (C : hCx p s m args meth c cc nL rt Ts own K A) {Cn nm : String} {t index : Nat} {f : Int → Int} (hz : ZS Cn nm t f A s s.heap) (hlink : (Cond.fieldLink own index Cn nm "[I") ∈ Ts) (d : decode cc pc = .ok (.getstatic index, 3)) (kk : hG p l e R s m args below meth c nL K A k n Q (pc + 3) lv (.ref t :: st) ws) : hG p l e R s m args below meth c nL K A k n Q pc lv st ws :=
  fun H locs ls hP hD hS hl => va_gets C.hx C.hb hz.1 hS C.hown (C.hts _ hlink) (fun _ h => h) d (kk H locs ls hP hD hS hl)
theorem g_ialoadS (C : hCx p s m args meth c cc nL rt Ts own K A) {Cn nm : String} {t : Nat} {f : Int → Int} {i : Int} (hz : ZS Cn nm t f A s s.heap) (hi : 0 ≤ i ∧ i < 6) (d : decode cc pc = .ok (.iaload, 1)) (kk : hG p l e R s m args below meth c nL K A k n Q (pc + 1) lv (.int (iI (f i)) :: st) ws) : hG p l e R s m args below meth c nL K A k n Q pc lv (.int (iI i) :: .ref t :: st) ws :=
  fun H locs ls hP hD hS hl => va_ti C.hx C.hb hz.2 hS (iI_in (by omega)) rfl d (by rw [vF_at f (by omega)]; exact kk H locs ls hP hD hS hl)
theorem g_fr (hD : va_D A ws) {H : Heap} {locs : List Loc} (hS : va_S A s.heap H locs) (hA : ∀ q : Nat, s.heap.size ≤ q → A q) : ∀ q, va_A ws H.size q → A q := by
  intro q h
  rcases h with ⟨j, x, h⟩ | h
  · exact hD.2 j _ h
  · exact hA q (Nat.le_trans hS.1 h)
theorem g_pre (C : hCx p s m args meth c cc nL rt Ts own K A) {H : Heap} {locs : List Loc} (hP : va_P K.1 vwCl ws H) (hD : va_D A ws) (hS : va_S A s.heap H locs) (As : List Value) {U : State} (hU : U.heap = H) (hW : s.WarmedH U.vm) : Pc0 K ws As H.size As.toArray U := by
  refine ⟨rfl, by rw [hU], by rw [hU]; exact hP, va_K.moved hW.alike C.hK, hD.weaken (fun _ _ _ _ => trivial), ?_⟩
  rw [hU]
  exact (ZT.moved hW (C.hZ.kept hS.2.1)).narrow (g_fr hD hS C.hA)
theorem g_blind (As : List Value) (sz : Nat) : FrameBlind (Pc0 K ws As sz) := by
  intro a U g mk h
  obtain ⟨h0, h1, h2, h3, h4, h5⟩ := h
  exact ⟨h0, h1, h2, va_K.moved (u := U) (U := U.calling g mk a) (Vm.Alike.refl U.vm) h3, h4, ZT.blind (u := U) (U := U.calling g mk a) rfl h5⟩
theorem g_callVI (C : hCx p s m args meth c cc nL rt Ts own K A) {y : MethodName} {wy : List Cond} {rm : Room} {bytes : ByteArray} {maxL index a : Nat} {ret : Option FieldType} {Cn : String} {As rest : List Value} {post : Int → va_W → Prop} (hM : hMI l y wy rm K (.ref a :: As) ws post) (cw : CallW R s args own Cn index y bytes maxL ret wy rm 0 0 As.length) (q0 : Nat) {ci : Nat} {fs : List Value} {T : u_T} {N : Nat} (he : ws[q0]? = some (a, .inr (ci, fs))) (hc : vwCl[ci]? = some (Cn, T, N)) (d : decode cc pc = .ok (.invokevirtual index, 3)) (hst : st = As.reverse ++ .ref a :: rest) (hcat : (rest.map fun v => v.category).sum ≤ 8) (hk : k ≤ R.cells ∧ n ≤ R.slots) (kk : ∀ z w, post z w → hG p l e R s m args below meth c nL K A k n Q (pc + 3) lv (.int (iI z) :: rest) w) : hG p l e R s m args below meth c nL K A k n Q pc lv st ws := by
  intro H locs ls hP hD hS hl
  have hF := g_fr hD hS C.hA
  refine va_calli (va_runV (As := As) (rest := rest) ⟨C.hx, C.hb, C.hml, C.hown, C.hts⟩ (hM H.size) cw ⟨g_blind _ _, va_recv C.hK hP hc he, fun U hU hW => g_pre C hP hD hS _ hU hW⟩ rfl rfl hl.1 hst (lv_room hcat) d hk) hS (fun q _ h => hF q h) hF (fun r w t H1 locs1 ht hvm hp hB hz1 hk1 hS1 => ?_)
  obtain ⟨z, rfl, hp⟩ := hp
  exact kk z w hp H1 locs1 ls (by rw [← ht]; exact hB.1) (hB.2.2.weaken (fun _ _ _ h => hF _ h)) hS1 hl
theorem g_callVV (C : hCx p s m args meth c cc nL rt Ts own K A) {y : MethodName} {wy : List Cond} {rm : Room} {bytes : ByteArray} {maxL index a : Nat} {ret : Option FieldType} {Cn : String} {As rest : List Value} {post : va_W → Prop} (hM : hMV l y wy rm K (.ref a :: As) ws post) (cw : CallW R s args own Cn index y bytes maxL ret wy rm 0 0 As.length) (q0 : Nat) {ci : Nat} {fs : List Value} {T : u_T} {N : Nat} (he : ws[q0]? = some (a, .inr (ci, fs))) (hc : vwCl[ci]? = some (Cn, T, N)) (d : decode cc pc = .ok (.invokevirtual index, 3)) (hst : st = As.reverse ++ .ref a :: rest) (hcat : (rest.map fun v => v.category).sum ≤ 8) (hk : k ≤ R.cells ∧ n ≤ R.slots) (kk : ∀ w, post w → hG p l e R s m args below meth c nL K A k n Q (pc + 3) lv rest w) : hG p l e R s m args below meth c nL K A k n Q pc lv st ws := by
  intro H locs ls hP hD hS hl
  have hF := g_fr hD hS C.hA
  refine va_callv (va_runV (As := As) (rest := rest) ⟨C.hx, C.hb, C.hml, C.hown, C.hts⟩ (hM H.size) cw ⟨g_blind _ _, va_recv C.hK hP hc he, fun U hU hW => g_pre C hP hD hS _ hU hW⟩ rfl rfl hl.1 hst (lv_room hcat) d hk) hS (fun q _ h => hF q h) hF (fun w t H1 locs1 ht hvm hp hB hz1 hk1 hS1 => ?_)
  exact kk w hp H1 locs1 ls (by rw [← ht]; exact hB.1) (hB.2.2.weaken (fun _ _ _ h => hF _ h)) hS1 hl
theorem g_callVL (C : hCx p s m args meth c cc nL rt Ts own K A) {y : MethodName} {wy : List Cond} {rm : Room} {bytes : ByteArray} {maxL index a : Nat} {ret : Option FieldType} {Cn : String} {As rest : List Value} {post : Int64 → va_W → Prop} (hM : hML l y wy rm K (.ref a :: As) ws post) (cw : CallW R s args own Cn index y bytes maxL ret wy rm 0 0 As.length) (q0 : Nat) {ci : Nat} {fs : List Value} {T : u_T} {N : Nat} (he : ws[q0]? = some (a, .inr (ci, fs))) (hc : vwCl[ci]? = some (Cn, T, N)) (d : decode cc pc = .ok (.invokevirtual index, 3)) (hst : st = As.reverse ++ .ref a :: rest) (hcat : (rest.map fun v => v.category).sum ≤ 8) (hk : k ≤ R.cells ∧ n ≤ R.slots) (kk : ∀ z w, post z w → hG p l e R s m args below meth c nL K A k n Q (pc + 3) lv (.long z :: rest) w) : hG p l e R s m args below meth c nL K A k n Q pc lv st ws := by
  intro H locs ls hP hD hS hl
  have hF := g_fr hD hS C.hA
  refine va_calll (va_runV (As := As) (rest := rest) ⟨C.hx, C.hb, C.hml, C.hown, C.hts⟩ (hM H.size) cw ⟨g_blind _ _, va_recv C.hK hP hc he, fun U hU hW => g_pre C hP hD hS _ hU hW⟩ rfl rfl hl.1 hst (lv_room hcat) d hk) hS (fun q _ h => hF q h) hF (fun r w t H1 locs1 ht hvm hp hB hz1 hk1 hS1 => ?_)
  exact kk r w hp H1 locs1 ls (by rw [← ht]; exact hB.1) (hB.2.2.weaken (fun _ _ _ h => hF _ h)) hS1 hl
theorem g_callSI (C : hCx p s m args meth c cc nL rt Ts own K A) {y : MethodName} {wy : List Cond} {rm : Room} {bytes : ByteArray} {maxL index : Nat} {ret : Option FieldType} {As rest : List Value} {post : Int → va_W → Prop} (hM : hMI l y wy rm K As ws post) (cw : CallB R s args own index y bytes maxL ret wy rm 0 0 As.length ∧ (Cond.static y).before args s = true) (d : decode cc pc = .ok (.invokestatic index, 3)) (hst : st = As.reverse ++ rest) (hcat : (rest.map fun v => v.category).sum ≤ 8) (hk : k ≤ R.cells ∧ n ≤ R.slots) (kk : ∀ z w, post z w → hG p l e R s m args below meth c nL K A k n Q (pc + 3) lv (.int (iI z) :: rest) w) : hG p l e R s m args below meth c nL K A k n Q pc lv st ws := by
  intro H locs ls hP hD hS hl
  have hF := g_fr hD hS C.hA
  refine va_calli (va_runS (As := As) (rest := rest) ⟨C.hx, C.hb, C.hml, C.hown, C.hts⟩ (hM H.size) cw ⟨g_blind _ _, fun U hU hW => g_pre C hP hD hS _ hU hW⟩ rfl rfl hl.1 hst (lv_room hcat) d hk) hS (fun q _ h => hF q h) hF (fun r w t H1 locs1 ht hvm hp hB hz1 hk1 hS1 => ?_)
  obtain ⟨z, rfl, hp⟩ := hp
  exact kk z w hp H1 locs1 ls (by rw [← ht]; exact hB.1) (hB.2.2.weaken (fun _ _ _ h => hF _ h)) hS1 hl
theorem g_callSV (C : hCx p s m args meth c cc nL rt Ts own K A) {y : MethodName} {wy : List Cond} {rm : Room} {bytes : ByteArray} {maxL index : Nat} {ret : Option FieldType} {As rest : List Value} {post : va_W → Prop} (hM : hMV l y wy rm K As ws post) (cw : CallB R s args own index y bytes maxL ret wy rm 0 0 As.length ∧ (Cond.static y).before args s = true) (d : decode cc pc = .ok (.invokestatic index, 3)) (hst : st = As.reverse ++ rest) (hcat : (rest.map fun v => v.category).sum ≤ 8) (hk : k ≤ R.cells ∧ n ≤ R.slots) (kk : ∀ w, post w → hG p l e R s m args below meth c nL K A k n Q (pc + 3) lv rest w) : hG p l e R s m args below meth c nL K A k n Q pc lv st ws := by
  intro H locs ls hP hD hS hl
  have hF := g_fr hD hS C.hA
  refine va_callv (va_runS (As := As) (rest := rest) ⟨C.hx, C.hb, C.hml, C.hown, C.hts⟩ (hM H.size) cw ⟨g_blind _ _, fun U hU hW => g_pre C hP hD hS _ hU hW⟩ rfl rfl hl.1 hst (lv_room hcat) d hk) hS (fun q _ h => hF q h) hF (fun w t H1 locs1 ht hvm hp hB hz1 hk1 hS1 => ?_)
  exact kk w hp H1 locs1 ls (by rw [← ht]; exact hB.1) (hB.2.2.weaken (fun _ _ _ h => hF _ h)) hS1 hl
theorem g_callNI (C : hCx p s m args meth c cc nL rt Ts own K A) {y : MethodName} {wy : List Cond} {rm : Room} {bytes : ByteArray} {maxL index : Nat} {host : String} {ret : Option FieldType} {As rest : List Value} {post : Int → va_W → Prop} (hM : hMI l y wy rm K As ws post) (cw : va_CN R s args own index y host bytes maxL ret wy rm 0 0 As.length ∧ (Cond.static y).before args s = true ∧ True) (d : decode cc pc = .ok (.invokestatic index, 3)) (hst : st = As.reverse ++ rest) (hcat : (rest.map fun v => v.category).sum ≤ 8) (hk : k ≤ R.cells ∧ n ≤ R.slots) (kk : ∀ z w, post z w → hG p l e R s m args below meth c nL K A k n Q (pc + 3) lv (.int (iI z) :: rest) w) : hG p l e R s m args below meth c nL K A k n Q pc lv st ws := by
  intro H locs ls hP hD hS hl
  have hF := g_fr hD hS C.hA
  refine va_calli (va_runSN (As := As) (rest := rest) ⟨C.hx, C.hb, C.hml, C.hown, C.hts⟩ (hM H.size) cw ⟨g_blind _ _, fun U hU hW => g_pre C hP hD hS _ hU hW⟩ rfl rfl hl.1 hst (lv_room hcat) d hk) hS (fun q _ h => hF q h) hF (fun r w t H1 locs1 ht hvm hp hB hz1 hk1 hS1 => ?_)
  obtain ⟨z, rfl, hp⟩ := hp
  exact kk z w hp H1 locs1 ls (by rw [← ht]; exact hB.1) (hB.2.2.weaken (fun _ _ _ h => hF _ h)) hS1 hl
theorem g_ireturn (C : hCx p s m args meth c cc nL rt Ts own K A) {post : Int → va_W → Prop} {z : Int} (hrt : rt = some .int) (d : decode cc pc = .ok (.ireturn, 1)) (h : post z ws) : hG p l e R s m args below meth c nL K A 0 0 (QI K A below args s post) pc lv [.int (iI z)] ws := by
  subst hrt
  exact fun H locs ls hP hD hS hl => W.iret C.hx C.hb C.hr (fun t ht hW => ⟨⟨iI z, ws, rfl, ⟨z, rfl, h⟩, by rw [ht]; exact hP, va_K.moved hW.alike C.hK, hD⟩, hS.F ht⟩) hS.2.2 d C.hlo
theorem g_zreturn (C : hCx p s m args meth c cc nL rt Ts own K A) {post : Int → va_W → Prop} {z : Int} (hrt : rt = some .boolean) (hz : z = 0 ∨ z = 1) (d : decode cc pc = .ok (.ireturn, 1)) (h : post z ws) : hG p l e R s m args below meth c nL K A 0 0 (QI K A below args s post) pc lv [.int (iI z)] ws := by
  subst hrt
  have hn : narrow .boolean (.int (iI z)) = .int (iI z) := by rcases hz with rfl | rfl <;> decide +kernel
  exact fun H locs ls hP hD hS hl => W.zret C.hx C.hb C.hr hn (fun t ht hW => ⟨⟨iI z, ws, rfl, ⟨z, rfl, h⟩, by rw [ht]; exact hP, va_K.moved hW.alike C.hK, hD⟩, hS.F ht⟩) hS.2.2 d C.hlo
theorem g_return (C : hCx p s m args meth c cc nL rt Ts own K A) {post : va_W → Prop} (hrt : rt = none) (d : decode cc pc = .ok (.return_, 1)) (h : post ws) : hG p l e R s m args below meth c nL K A 0 0 (QV K A below args s post) pc lv [] ws := by
  subst hrt
  exact fun H locs ls hP hD hS hl => W.vret C.hx C.hb C.hr (fun t ht hW => ⟨⟨ws, rfl, h, by rw [ht]; exact hP, va_K.moved hW.alike C.hK, hD⟩, hS.F ht⟩) hS.2.2 d C.hlo
theorem g_lreturn (C : hCx p s m args meth c cc nL rt Ts own K A) {post : Int64 → va_W → Prop} {z : Int64} (hrt : rt = some .long) (d : decode cc pc = .ok (.lreturn, 1)) (h : post z ws) : hG p l e R s m args below meth c nL K A 0 0 (QL K A below args s post) pc lv [.long z] ws := by
  subst hrt
  exact fun H locs ls hP hD hS hl => W.lret C.hx C.hb C.hr (fun t ht hW => ⟨⟨z, ws, rfl, h, by rw [ht]; exact hP, va_K.moved hW.alike C.hK, hD⟩, hS.F ht⟩) hS.2.2 d C.hlo
end GL
theorem in_MI {l : Launch} {y : MethodName} {wy ws' : List Cond} {rm : Room} {K : KK} {As : List Value} {w0 : va_W} {post : Int → va_W → Prop} {cc : ByteArray} {maxL : Nat} {rt : Option FieldType} {lv : List (Nat × Value)} (hy : plainName y.cls = true) (hw : wy = Cond.code y cc maxL rt :: ws') (hsz : (lg_sl As).length ≤ maxL) (hlv : lv_args 0 As = lv)
    (body : ∀ p e s m args below meth c A, hCx p s m args meth c cc maxL rt wy y.cls K A → hG p l e rm s m args below meth c maxL K A 0 0 (QI K A below args s post) 0 lv [] w0) : hMI l y wy rm K As w0 post := by
  intro sz
  refine Met.ofW (cc := cc) (maxL := maxL) (ret := rt) hy hw ?_
  intro p e s m args below meth c s₁ B hml hv
  obtain ⟨rfl, hsz0, hP, hK, hD0, hZ⟩ := hv
  subst hsz0
  subst hlv
  have hD := hD0.self (sz := s.heap.size)
  rw [lg_entry_eq]
  exact body p e s m _ below meth c (va_A w0 s.heap.size) ⟨B.exec, B.bytes, hml, B.returns, atoms_spec (ws := wy) B.pre, findClass_of_methodNamed B.named, B.notSynchronized, hK, hZ, fun q h => Or.inr h⟩ s.heap [] _ hP hD va_S.rf (lv_entry As hsz)
theorem in_MV {l : Launch} {y : MethodName} {wy ws' : List Cond} {rm : Room} {K : KK} {As : List Value} {w0 : va_W} {post : va_W → Prop} {cc : ByteArray} {maxL : Nat} {rt : Option FieldType} {lv : List (Nat × Value)} (hy : plainName y.cls = true) (hw : wy = Cond.code y cc maxL rt :: ws') (hsz : (lg_sl As).length ≤ maxL) (hlv : lv_args 0 As = lv)
    (body : ∀ p e s m args below meth c A, hCx p s m args meth c cc maxL rt wy y.cls K A → hG p l e rm s m args below meth c maxL K A 0 0 (QV K A below args s post) 0 lv [] w0) : hMV l y wy rm K As w0 post := by
  intro sz
  refine Met.ofW (cc := cc) (maxL := maxL) (ret := rt) hy hw ?_
  intro p e s m args below meth c s₁ B hml hv
  obtain ⟨rfl, hsz0, hP, hK, hD0, hZ⟩ := hv
  subst hsz0
  subst hlv
  have hD := hD0.self (sz := s.heap.size)
  rw [lg_entry_eq]
  exact body p e s m _ below meth c (va_A w0 s.heap.size) ⟨B.exec, B.bytes, hml, B.returns, atoms_spec (ws := wy) B.pre, findClass_of_methodNamed B.named, B.notSynchronized, hK, hZ, fun q h => Or.inr h⟩ s.heap [] _ hP hD va_S.rf (lv_entry As hsz)
theorem in_ML {l : Launch} {y : MethodName} {wy ws' : List Cond} {rm : Room} {K : KK} {As : List Value} {w0 : va_W} {post : Int64 → va_W → Prop} {cc : ByteArray} {maxL : Nat} {rt : Option FieldType} {lv : List (Nat × Value)} (hy : plainName y.cls = true) (hw : wy = Cond.code y cc maxL rt :: ws') (hsz : (lg_sl As).length ≤ maxL) (hlv : lv_args 0 As = lv)
    (body : ∀ p e s m args below meth c A, hCx p s m args meth c cc maxL rt wy y.cls K A → hG p l e rm s m args below meth c maxL K A 0 0 (QL K A below args s post) 0 lv [] w0) : hML l y wy rm K As w0 post := by
  intro sz
  refine Met.ofW (cc := cc) (maxL := maxL) (ret := rt) hy hw ?_
  intro p e s m args below meth c s₁ B hml hv
  obtain ⟨rfl, hsz0, hP, hK, hD0, hZ⟩ := hv
  subst hsz0
  subst hlv
  have hD := hD0.self (sz := s.heap.size)
  rw [lg_entry_eq]
  exact body p e s m _ below meth c (va_A w0 s.heap.size) ⟨B.exec, B.bytes, hml, B.returns, atoms_spec (ws := wy) B.pre, findClass_of_methodNamed B.named, B.notSynchronized, hK, hZ, fun q h => Or.inr h⟩ s.heap [] _ hP hD va_S.rf (lv_entry As hsz)
end
section
/-! tables of the largest house, the states of both sides, sums -/
def TAl : List Int := [0, 1, 0, -1, -1, 0, 1, 2, 1, 0, -1, -2, -2, -2, -1, 0, 1, 2, 2, 3, 2, 1, 0, -1, -2, -3, -3, -3, -3, -2, -1, 0, 1, 2, 3, 3, 3, 4, 3, 2, 1, 0, -1, -2, -3, -4, -4, -4, -4, -4, -3, -2, -1, 0, 1, 2, 3, 4, 4, 4, 4, 5, 4, 3, 2, 1, 0, -1, -2, -3, -4, -5, -5, -5, -5, -5, -5, -4, -3, -2, -1, 0, 1, 2, 3, 4, 5, 5, 5, 5, 5]
def TDl : List Int := [0, 0, 1, 1, 0, -1, -1, 0, 1, 2, 2, 2, 1, 0, -1, -2, -2, -2, -1, 0, 1, 2, 3, 3, 3, 3, 2, 1, 0, -1, -2, -3, -3, -3, -3, -2, -1, 0, 1, 2, 3, 4, 4, 4, 4, 4, 3, 2, 1, 0, -1, -2, -3, -4, -4, -4, -4, -4, -3, -2, -1, 0, 1, 2, 3, 4, 5, 5, 5, 5, 5, 5, 4, 3, 2, 1, 0, -1, -2, -3, -4, -5, -5, -5, -5, -5, -5, -4, -3, -2, -1]
def TRl : List Int := [0, 1, 1, 1, 1, 1, 1, 2, 2, 2, 2, 2, 2, 2, 2, 2, 2, 2, 2, 3, 3, 3, 3, 3, 3, 3, 3, 3, 3, 3, 3, 3, 3, 3, 3, 3, 3, 4, 4, 4, 4, 4, 4, 4, 4, 4, 4, 4, 4, 4, 4, 4, 4, 4, 4, 4, 4, 4, 4, 4, 4, 5, 5, 5, 5, 5, 5, 5, 5, 5, 5, 5, 5, 5, 5, 5, 5, 5, 5, 5, 5, 5, 5, 5, 5, 5, 5, 5, 5, 5, 5]
def TCl : List Int := [-1, -1, -1, -1, -1, 81, 82, 83, 84, 85, 86, -1, -1, -1, -1, 80, 53, 54, 55, 56, 57, 87, -1, -1, -1, 79, 52, 31, 32, 33, 34, 58, 88, -1, -1, 78, 51, 30, 15, 16, 17, 35, 59, 89, -1, 77, 50, 29, 14, 5, 6, 18, 36, 60, 90, 76, 49, 28, 13, 4, 0, 1, 7, 19, 37, 61, 75, 48, 27, 12, 3, 2, 8, 20, 38, 62, -1, 74, 47, 26, 11, 10, 9, 21, 39, 63, -1, -1, 73, 46, 25, 24, 23, 22, 40, 64, -1, -1, -1, 72, 45, 44, 43, 42, 41, 65, -1, -1, -1, -1, 71, 70, 69, 68, 67, 66, -1, -1, -1, -1, -1]
def TNl : List Int := [1, 2, 3, 4, 5, 6, 7, 8, 2, 0, 6, 18, 8, 9, 10, 3, 0, 1, 2, 10, 11, 12, 4, 0, 0, 3, 12, 13, 14, 5, 6, 0, 4, 14, 15, 16, 18, 1, 0, 5, 16, 17, 19, 20, 8, 1, 18, 36, 20, 21, 9, 2, 1, 7, 21, 22, 23, 10, 2, 8, 9, 23, 24, 11, 3, 2, 10, 24, 25, 26, 12, 3, 3, 11, 26, 27, 13, 4, 4, 12, 27, 28, 29, 14, 5, 4, 13, 29, 30, 15, 16, 5, 14, 30, 31, 32, 17, 6, 5, 15, 32, 33, 35, 18, 6, 16, 33, 34, 36, 7, 1, 6, 17, 35, 37, 38, 20, 7, 36, 60, 38, 39, 21, 8, 7, 19, 39, 40, 22, 9, 8, 20, 40, 41, 42, 23, 9, 21, 22, 42, 43, 24, 10, 9, 23, 43, 44, 25, 11, 10, 24, 44, 45, 46, 26, 11, 11, 25, 46, 47, 27, 12, 12, 26, 47, 48, 28, 13, 13, 27, 48, 49, 50, 29, 14, 13, 28, 50, 51, 30, 15, 14, 29, 51, 52, 31, 32, 15, 30, 52, 53, 54, 33, 16, 15, 31, 54, 55, 34, 17, 16, 32, 55, 56, 58, 35, 17, 33, 56, 57, 59, 36, 18, 17, 34, 58, 60, 19, 7, 18, 35, 59, 61, 62, 38, 19, 60, 90, 62, 63, 39, 20, 19, 37, 63, 64, 40, 21, 20, 38, 64, 65, 41, 22, 21, 39, 65, 66, 67, 42, 22, 40, 41, 67, 68, 43, 23, 22, 42, 68, 69, 44, 24, 23, 43, 69, 70, 45, 25, 24, 44, 70, 71, 72, 46, 25, 25, 45, 72, 73, 47, 26, 26, 46, 73, 74, 48, 27, 27, 47, 74, 75, 49, 28, 28, 48, 75, 76, 77, 50, 29, 28, 49, 77, 78, 51, 30, 29, 50, 78, 79, 52, 31, 30, 51, 79, 80, 53, 54, 31, 52, 80, 81, 82, 55, 32, 31, 53, 82, 83, 56, 33, 32, 54, 83, 84, 57, 34, 33, 55, 84, 85, 87, 58, 34, 56, 85, 86, 88, 59, 35, 34, 57, 87, 89, 60, 36, 35, 58, 88, 90, 37, 19, 36, 59, 89, -1, -1, 62, 37, 90, -1, -1, -1, 63, 38, 37, 61, -1, -1, 64, 39, 38, 62, -1, -1, 65, 40, 39, 63, -1, -1, 66, 41, 40, 64, -1, -1, -1, 67, 41, 65, 66, -1, -1, 68, 42, 41, 67, -1, -1, 69, 43, 42, 68, -1, -1, 70, 44, 43, 69, -1, -1, 71, 45, 44, 70, -1, -1, -1, 72, 45, 45, 71, -1, -1, 73, 46, 46, 72, -1, -1, 74, 47, 47, 73, -1, -1, 75, 48, 48, 74, -1, -1, 76, 49, 49, 75, -1, -1, -1, 77, 50, 49, 76, -1, -1, 78, 51, 50, 77, -1, -1, 79, 52, 51, 78, -1, -1, 80, 53, 52, 79, -1, -1, 81, 82, 53, 80, -1, -1, -1, 83, 54, 53, 81, -1, -1, 84, 55, 54, 82, -1, -1, 85, 56, 55, 83, -1, -1, 86, 57, 56, 84, -1, -1, -1, 87, 57, 85, -1, -1, -1, 88, 58, 57, 86, -1, -1, 89, 59, 58, 87, -1, -1, 90, 60, 59, 88, -1, -1, 61, 37, 60, 89, -1]
def TPl : List Int := [5, 5, 5, 5, 5, 5, 4, 4, 5, 6, 5, 4, 4, 4, 4, 5, 6, 5, 5, 4, 4, 4, 5, 6, 6, 5, 4, 4, 4, 5, 5, 6, 5, 4, 4, 4, 4, 5, 6, 5, 4, 4, 3, 3, 5, 7, 5, 3, 3, 3, 4, 6, 6, 4, 3, 3, 3, 5, 7, 5, 4, 3, 3, 4, 6, 6, 5, 3, 3, 3, 5, 7, 6, 4, 3, 3, 4, 6, 7, 5, 3, 3, 3, 5, 6, 6, 4, 3, 3, 4, 5, 7, 5, 3, 3, 3, 4, 6, 6, 4, 3, 3, 3, 5, 7, 5, 3, 3, 3, 4, 6, 6, 4, 3, 2, 2, 5, 8, 5, 2, 2, 2, 4, 7, 6, 3, 2, 2, 3, 6, 7, 4, 2, 2, 2, 5, 8, 5, 3, 2, 2, 4, 7, 6, 4, 2, 2, 3, 6, 7, 5, 2, 2, 2, 5, 8, 6, 3, 2, 2, 4, 7, 7, 4, 2, 2, 3, 6, 8, 5, 2, 2, 2, 5, 7, 6, 3, 2, 2, 4, 6, 7, 4, 2, 2, 3, 5, 8, 5, 2, 2, 2, 4, 7, 6, 3, 2, 2, 3, 6, 7, 4, 2, 2, 2, 5, 8, 5, 2, 2, 2, 4, 7, 6, 3, 2, 2, 3, 6, 7, 4, 2, 1, 1, 5, 9, 5, 1, 1, 1, 4, 8, 6, 2, 1, 1, 3, 7, 7, 3, 1, 1, 2, 6, 8, 4, 1, 1, 1, 5, 9, 5, 2, 1, 1, 4, 8, 6, 3, 1, 1, 3, 7, 7, 4, 1, 1, 2, 6, 8, 5, 1, 1, 1, 5, 9, 6, 2, 1, 1, 4, 8, 7, 3, 1, 1, 3, 7, 8, 4, 1, 1, 2, 6, 9, 5, 1, 1, 1, 5, 8, 6, 2, 1, 1, 4, 7, 7, 3, 1, 1, 3, 6, 8, 4, 1, 1, 2, 5, 9, 5, 1, 1, 1, 4, 8, 6, 2, 1, 1, 3, 7, 7, 3, 1, 1, 2, 6, 8, 4, 1, 1, 1, 5, 9, 5, 1, 1, 1, 4, 8, 6, 2, 1, 1, 3, 7, 7, 3, 1, 1, 2, 6, 8, 4, 1, 0, 0, 5, 10, 5, 0, 0, 0, 4, 9, 6, 1, 0, 0, 3, 8, 7, 2, 0, 0, 2, 7, 8, 3, 0, 0, 1, 6, 9, 4, 0, 0, 0, 5, 10, 5, 1, 0, 0, 4, 9, 6, 2, 0, 0, 3, 8, 7, 3, 0, 0, 2, 7, 8, 4, 0, 0, 1, 6, 9, 5, 0, 0, 0, 5, 10, 6, 1, 0, 0, 4, 9, 7, 2, 0, 0, 3, 8, 8, 3, 0, 0, 2, 7, 9, 4, 0, 0, 1, 6, 10, 5, 0, 0, 0, 5, 9, 6, 1, 0, 0, 4, 8, 7, 2, 0, 0, 3, 7, 8, 3, 0, 0, 2, 6, 9, 4, 0, 0, 1, 5, 10, 5, 0, 0, 0, 4, 9, 6, 1, 0, 0, 3, 8, 7, 2, 0, 0, 2, 7, 8, 3, 0, 0, 1, 6, 9, 4, 0, 0, 0, 5, 10, 5, 0, 0, 0, 4, 9, 6, 1, 0, 0, 3, 8, 7, 2, 0, 0, 2, 7, 8, 3, 0, 0, 1, 6, 9, 4, 0]
def TA (j : Int) : Int := TAl.getD j.toNat 0
def TD (j : Int) : Int := TDl.getD j.toNat 0
def TR (j : Int) : Int := TRl.getD j.toNat 0
def TC (j : Int) : Int := TCl.getD j.toNat (-1)
def TN (j : Int) : Int := TNl.getD j.toNat (-1)
def TP (j : Int) : Int := TPl.getD j.toNat 0
def sA (S : Nat → Int → Int) (k : Nat) (f : Int → Int) : Nat → Int → Int := fun k2 => cond (Nat.beq k2 k) f (S k2)
theorem sA_at (S : Nat → Int → Int) (k : Nat) (f : Int → Int) : sA S k f k = f := by
  unfold sA
  rw [Nat.beq_refl]
  rfl
theorem sA_ne (S : Nat → Int → Int) {k k2 : Nat} (f : Int → Int) (h : k2 ≠ k) : sA S k f k2 = S k2 := by
  unfold sA
  have : Nat.beq k2 k = false := by
    cases hb : Nat.beq k2 k
    · rfl
    · exact absurd (Nat.eq_of_beq_eq_true hb) h
  rw [this]
  rfl
theorem sA_self (S : Nat → Int → Int) (k : Nat) : sA S k (S k) = S := by
  funext k2
  by_cases h : k2 = k
  · rw [h, sA_at]
  · rw [sA_ne S _ h]
theorem sA_sA (S : Nat → Int → Int) (k : Nat) (f g : Int → Int) : sA (sA S k f) k g = sA S k g := by
  funext k2
  by_cases h : k2 = k
  · rw [h, sA_at, sA_at]
  · rw [sA_ne _ _ h, sA_ne _ _ h, sA_ne _ _ h]
theorem sA_comm (S : Nat → Int → Int) {k j : Nat} (h : k ≠ j) (f g : Int → Int) : sA (sA S k f) j g = sA (sA S j g) k f := by
  funext k2
  by_cases h1 : k2 = k
  · rw [h1, sA_ne _ _ h, sA_at, sA_at]
  · by_cases h2 : k2 = j
    · rw [h2, sA_at, sA_ne _ _ (Ne.symm h), sA_at]
    · rw [sA_ne _ _ h2, sA_ne _ _ h1, sA_ne _ _ h1, sA_ne _ _ h2]
def wX (K : KK) (q : Nat → Nat) (S : Nat → Int → Int) : va_W := [(q 0, .inr (1, [.ref (q 1), .ref (q 7), .ref (q 8), .ref (q 9), .ref (q 10), .ref (q 11), .ref (q 12), .ref (q 13), .ref (q 14), .int (iI (S 0 9)), .int (iI (S 0 10))])), (q 1, .inr (0, [.ref (q 2), .ref (q 3), .ref (q 4), .ref (q 5), .ref (q 6)])), (q 2, aI K 91 TA), (q 3, aI K 91 TD), (q 4, aI K 91 TR), (q 5, aI K 121 TC), (q 6, aI K 546 TN), (q 7, aI K 91 (S 7)), (q 8, aZ K 546 (S 8)), (q 9, aI K 91 (S 9)), (q 10, aI K 91 (S 10)), (q 11, aI K 91 (S 11)), (q 12, aI K 91 (S 12)), (q 13, aI K 91 (S 13)), (q 14, aI K 91 (S 14))]
def wM (K : KK) (q : Nat → Nat) (S : Nat → Int → Int) : va_W := [(q 0, .inr (2, [.int (iI (S 0 0)), .int (iI (S 0 1)), .int (iI (S 0 2)), .ref (q 1), .ref (q 2), .ref (q 3), .ref (q 4), .ref (q 5), .ref (q 6), .ref (q 7), .ref (q 8), .ref (q 9), .ref (q 10)])), (q 1, aI K 91 (S 1)), (q 2, aI K 91 (S 2)), (q 3, aI K 91 (S 3)), (q 4, aI K 91 (S 4)), (q 5, aI K 121 (S 5)), (q 6, aZ K 546 (S 6)), (q 7, aI K 91 (S 7)), (q 8, aI K 91 (S 8)), (q 9, aI K 91 (S 9)), (q 10, aI K 91 (S 10))]
def wP (K : KK) (q : Nat → Nat) (S : Nat → Int → Int) : va_W := [(q 0, .inr (0, [.ref (q 1), .ref (q 2), .ref (q 3), .ref (q 4), .ref (q 5)])), (q 1, aI K 91 (S 1)), (q 2, aI K 91 (S 2)), (q 3, aI K 91 (S 3)), (q 4, aI K 121 (S 4)), (q 5, aI K 546 (S 5))]
abbrev rmL (i : Nat) : Room := { frames := i, cells := 0, slots := 0, locals := 32 * i }
def smN (g : Int → Int) (a : Int) : Nat → Int
  | 0 => 0
  | n + 1 => smN g a n + g (a + n)
def sm (g : Int → Int) (a b : Int) : Int := smN g a (b - a).toNat
theorem sm_0 (g : Int → Int) (a : Int) : sm g a a = 0 := by
  unfold sm
  rw [Int.sub_self]
  rfl
theorem sm_out (g : Int → Int) {a b : Int} (h : b ≤ a) : sm g a b = 0 := by
  unfold sm
  rw [show (b - a).toNat = 0 by omega]
  rfl
theorem sm_s (g : Int → Int) {a b : Int} (h : a ≤ b) : sm g a (b + 1) = sm g a b + g b := by
  unfold sm
  rw [show (b + 1 - a).toNat = (b - a).toNat + 1 by omega]
  show smN g a (b - a).toNat + g (a + ((b - a).toNat : Int)) = _
  rw [show a + ((b - a).toNat : Int) = b by omega]
theorem sm_ind {P : Int → Prop} {a : Int} (h0 : P a) (hs : ∀ b, a ≤ b → P b → P (b + 1)) : ∀ b, a ≤ b → P b := by
  have key : ∀ n : Nat, P (a + n) := by
    intro n
    induction n with
    | zero => rw [show a + ((0 : Nat) : Int) = a by omega]; exact h0
    | succ n ih => rw [show a + ((n + 1 : Nat) : Int) = a + n + 1 by omega]; exact hs _ (by omega) ih
  intro b hb
  have := key (b - a).toNat
  rw [show a + ((b - a).toNat : Int) = b by omega] at this
  exact this
theorem sm_cong {g h : Int → Int} {a b : Int} (e : ∀ j, a ≤ j → j < b → g j = h j) : sm g a b = sm h a b := by
  by_cases hab : a ≤ b
  · have key : ∀ c, a ≤ c → (c ≤ b → sm g a c = sm h a c) := by
      intro c hc
      refine sm_ind (P := fun c => c ≤ b → sm g a c = sm h a c) (fun _ => by rw [sm_0, sm_0]) (fun c hac ih hcb => ?_) c hc
      rw [sm_s g hac, sm_s h hac, ih (by omega), e c hac (by omega)]
    exact key b hab (Int.le_refl _)
  · rw [sm_out g (by omega), sm_out h (by omega)]
theorem sm_le {g : Int → Int} {a b : Int} (hab : a ≤ b) {c : Int} (e : ∀ j, a ≤ j → j < b → 0 ≤ g j ∧ g j ≤ c) : 0 ≤ sm g a b ∧ sm g a b ≤ c * (b - a) := by
  have key : ∀ d, a ≤ d → (d ≤ b → 0 ≤ sm g a d ∧ sm g a d ≤ c * (d - a)) := by
    intro d hd
    refine sm_ind (P := fun d => d ≤ b → 0 ≤ sm g a d ∧ sm g a d ≤ c * (d - a)) (fun _ => by rw [sm_0, Int.sub_self, Int.mul_zero]; omega) (fun d had ih hdb => ?_) d hd
    have h1 := ih (by omega)
    have h2 := e d had (by omega)
    rw [sm_s g had, show d + 1 - a = (d - a) + 1 by omega, Int.mul_add, Int.mul_one]
    omega
  exact key b hab (Int.le_refl _)
def FR (k : Int) : Int := if k < 1 then 0 else 1 + 3 * k * (k - 1)
def SZ (k : Int) : Int := if k < 1 then 1 else 6 * k
def NX (n r s : Int) : Int := if TN (r * 6 + s) < n then TN (r * 6 + s) else -1
def ON (n : Int) (f h : Int → Int) (r s : Int) : Int := if NX n r s = -1 ∨ ¬ h (r * 6 + s) = 0 ∨ f (NX n r s) = 1 then -1 else NX n r s
theorem getD_all {l : List Int} {P : Int → Prop} {d : Int} (hd : P d) (h : ∀ x ∈ l, P x) (j : Nat) : P (l.getD j d) := by
  rw [List.getD_eq_getElem?_getD]
  cases hj : l[j]? with
  | none => exact hd
  | some x => exact h x (List.mem_of_getElem? hj)
theorem TN_b (j : Int) : -1 ≤ TN j ∧ TN j ≤ 90 := getD_all (P := fun x => -1 ≤ x ∧ x ≤ 90) (by decide) (by decide +kernel) _
theorem TA_b (j : Int) : -5 ≤ TA j ∧ TA j ≤ 5 := getD_all (P := fun x => -5 ≤ x ∧ x ≤ 5) (by decide) (by decide +kernel) _
theorem TD_b (j : Int) : -5 ≤ TD j ∧ TD j ≤ 5 := getD_all (P := fun x => -5 ≤ x ∧ x ≤ 5) (by decide) (by decide +kernel) _
theorem TR_b (j : Int) : 0 ≤ TR j ∧ TR j ≤ 5 := getD_all (P := fun x => 0 ≤ x ∧ x ≤ 5) (by decide) (by decide +kernel) _
theorem TC_b (j : Int) : -1 ≤ TC j ∧ TC j ≤ 90 := getD_all (P := fun x => -1 ≤ x ∧ x ≤ 90) (by decide) (by decide +kernel) _
theorem NX_b (n r s : Int) : NX n r s = -1 ∨ (0 ≤ NX n r s ∧ NX n r s < n ∧ NX n r s ≤ 90) := by
  have h := TN_b (r * 6 + s)
  unfold NX
  by_cases c : TN (r * 6 + s) < n
  · rw [if_pos c]
    omega
  · rw [if_neg c]
    exact Or.inl rfl
theorem ON_b (n : Int) (f h : Int → Int) (r s : Int) : ON n f h r s = -1 ∨ (0 ≤ ON n f h r s ∧ ON n f h r s < n ∧ ON n f h r s ≤ 90) := by
  unfold ON
  by_cases c : NX n r s = -1 ∨ ¬ h (r * 6 + s) = 0 ∨ f (NX n r s) = 1
  · rw [if_pos c]
    exact Or.inl rfl
  · rw [if_neg c]
    exact NX_b n r s
def HS (S : Nat → Int → Int) : Prop := (1 ≤ S 0 9 ∧ S 0 9 ≤ 5) ∧ S 0 10 = FR (S 0 9 + 1) ∧ (∀ j, 0 ≤ j → j < 91 → 0 ≤ S 7 j ∧ S 7 j ≤ 2) ∧ (∀ j, 0 ≤ j → j < 546 → 0 ≤ S 8 j ∧ S 8 j ≤ 1)
theorem FR_5 {k : Int} (h : 1 ≤ k ∧ k ≤ 5) : FR (k + 1) = (if k = 1 then 7 else if k = 2 then 19 else if k = 3 then 37 else if k = 4 then 61 else 91) := by
  rcases (by omega : k = 1 ∨ k = 2 ∨ k = 3 ∨ k = 4 ∨ k = 5) with h | h | h | h | h <;> subst h <;> decide +kernel
theorem FR_n {k : Int} (h : 1 ≤ k ∧ k ≤ 5) : 7 ≤ FR (k + 1) ∧ FR (k + 1) ≤ 91 := by
  rcases (by omega : k = 1 ∨ k = 2 ∨ k = 3 ∨ k = 4 ∨ k = 5) with h | h | h | h | h <;> subst h <;> decide +kernel
theorem HS.n {S : Nat → Int → Int} (h : HS S) : 7 ≤ S 0 10 ∧ S 0 10 ≤ 91 := by
  rw [h.2.1]
  exact FR_n h.1
def fF (f : Int → Int) (n v : Int) : Int → Int := fun j => if 0 ≤ j ∧ j < n then v else f j
theorem fF_0 (f : Int → Int) (v : Int) : fF f 0 v = f := by
  funext j
  unfold fF
  rw [if_neg (by omega)]
theorem fF_s (f : Int → Int) {n : Int} (v : Int) (h : 0 ≤ n) : fU (fF f n v) n v = fF f (n + 1) v := by
  funext j
  unfold fU fF
  by_cases e : j = n
  · rw [if_pos e, if_pos (by omega)]
  · rw [if_neg e]
    by_cases c : 0 ≤ j ∧ j < n
    · rw [if_pos c, if_pos (by omega)]
    · rw [if_neg c, if_neg (by omega)]
section G2
variable {p : Program} {l : Launch} {e : Env} {R : Room} {s : State} {m : MethodId} {args : Array Value} {below : List Frame} {meth : Method} {c : Code} {cc : ByteArray} {nL : Nat} {rt : Option FieldType} {Ts : List Cond} {own : String} {K : KK} {A : Nat → Prop} {k n : Nat} {Q : State → Prop} {pc : Nat} {lv lv' : List (Nat × Value)} {st : List Value} {ws : va_W}
theorem g_sub (ks : List Nat) (h : lv_pick lv ks = lv') (kk : hG p l e R s m args below meth c nL K A k n Q pc lv' st ws) : hG p l e R s m args below meth c nL K A k n Q pc lv st ws :=
  fun H locs ls hP hD hS hl => kk H locs ls hP hD hS (lv_sub hl ks h)
theorem g_copy (C : hCx p s m args meth c cc nL rt Ts own K A) {index : Nat} (hlink : Cond.methodLink own index arraycopyName ∈ Ts) (hnat : Cond.native arraycopyName ∈ Ts) (hstat : Cond.static arraycopyName ∈ Ts) (hini : Cond.initialized "java/lang/System" ∈ Ts) (q0 q1 : Nat) {a0 a n0 n1 : Nat} {f g : Int → Int} (ha0 : ws[q0]? = some (a0, aI K n0 f)) (ha1 : ws[q1]? = some (a, aI K n1 g)) {sp dp cnt : Int} (h1 : 0 ≤ sp ∧ sp + cnt ≤ n0) (h2 : 0 ≤ dp ∧ dp + cnt ≤ n1) (h3 : 0 ≤ cnt) (hN : n0 < 100000 ∧ n1 < 100000) (hfr : 1 ≤ R.frames) (hlo : (st.map fun v => v.category).sum + (nativeFrameWords "java/lang/System" "arraycopy" 5 + 11) ≤ R.locals) (d : decode cc pc = .ok (.invokestatic index, 3)) {ws' : va_W} (hw : ws.set q1 (a, aI K n1 (fC f g sp dp cnt)) = ws') (kk : hG p l e R s m args below meth c nL K A k n Q (pc + 3) lv st ws') : hG p l e R s m args below meth c nL K A k n Q pc lv (.int (iI cnt) :: .int (iI dp) :: .ref a :: .int (iI sp) :: .ref a0 :: st) ws := by
  intro H locs ls hP hD hS hl
  have nz : ∀ z : Int, 0 ≤ z → z < 2147483648 → ¬ iI z < 0 := by
    intro z h0 hz
    rw [← iI_0, iI_lt (by omega) (by omega)]
    omega
  refine va_copyi (c0 := K.2.1 0) (c1 := K.2.1 0) (f := vF f) (g := vF g) (ty := .int) C.hx C.hb (C.hml.trans hl.1.symm) C.hown (C.hts _ hlink) (C.hts _ hnat) (C.hts _ hstat) (C.hts _ hini) C.hK hP hD hS q0 q1 0 0 ha0 ha1 rfl rfl rfl (nz sp h1.1 (by omega)) (nz dp h2.1 (by omega)) (nz cnt h3 (by omega)) ?_ ?_ (fun _ _ => rfl) hfr hlo d (fun H1 locs1 hP hD hS => ?_)
  · rw [iI_clamp (by omega), iI_clamp (by omega)]
    omega
  · rw [iI_clamp (by omega), iI_clamp (by omega)]
    omega
  · rw [vF_cpy f g (by omega) (by omega) (by omega)] at hP hD
    subst hw
    exact kk H1 locs1 ls hP hD hS hl
theorem g_abs (C : hCx p s m args meth c cc nL rt Ts own K A) {index : Nat} (hlink : Cond.methodLink own index Lib.Math.abs.name ∈ Ts) (hstat : Cond.static Lib.Math.abs.name ∈ Ts) (hini : Cond.initialized "java/lang/Math" ∈ Ts) (hcode : Cond.code Lib.Math.abs.name Lib.Math.abs.code 1 (some .int) ∈ Ts) (hfr : 1 ≤ R.frames) (hlo : (st.map fun v => v.category).sum + 13 ≤ R.locals) (hk : k ≤ R.cells ∧ n ≤ R.slots) {x : Int} (hx : -2147483648 ≤ x ∧ x < 2147483648) (d : decode cc pc = .ok (.invokestatic index, 3)) (kk : hG p l e R s m args below meth c nL K A k n Q (pc + 3) lv (.int (iI (if 0 ≤ x then x else -x)) :: st) ws) : hG p l e R s m args below meth c nL K A k n Q pc lv (.int (iI x) :: st) ws :=
  fun H locs ls hP hD hS hl => va_mabs C.hx C.hb (C.hml.trans hl.1.symm) C.hown (C.hts _ hlink) (C.hts _ hstat) (C.hts _ hini) (C.hts _ hcode) hfr hlo hk.1 hk.2 d (by rw [iI_abs hx]; exact kk H locs ls hP hD hS hl)
theorem g_i2l (C : hCx p s m args meth c cc nL rt Ts own K A) {z : Int} (hz : -2147483648 ≤ z ∧ z < 2147483648) (d : decode cc pc = .ok (.i2l, 1)) (kk : hG p l e R s m args below meth c nL K A k n Q (pc + 1) lv (.long (Int64.ofInt z) :: st) ws) : hG p l e R s m args below meth c nL K A k n Q pc lv (.int (iI z) :: st) ws :=
  fun H locs ls hP hD hS hl => lv_i2l C.hx C.hb d (by show (iI z).toInt64 = _; exact Int32.toInt64_ofInt (by rw [show Int32.minValue.toInt = -2147483648 from by decide +kernel]; omega) (by rw [show Int32.maxValue.toInt = 2147483647 from by decide +kernel]; omega)) (kk H locs ls hP hD hS hl)
theorem g_lmul (C : hCx p s m args meth c cc nL rt Ts own K A) {x y : Int64} (d : decode cc pc = .ok (.lmul, 1)) (kk : hG p l e R s m args below meth c nL K A k n Q (pc + 1) lv (.long (x * y) :: st) ws) : hG p l e R s m args below meth c nL K A k n Q pc lv (.long y :: .long x :: st) ws :=
  fun H locs ls hP hD hS hl => lv_lmul C.hx C.hb d (kk H locs ls hP hD hS hl)
theorem g_ladd (C : hCx p s m args meth c cc nL rt Ts own K A) {x y : Int64} (d : decode cc pc = .ok (.ladd, 1)) (kk : hG p l e R s m args below meth c nL K A k n Q (pc + 1) lv (.long (x + y) :: st) ws) : hG p l e R s m args below meth c nL K A k n Q pc lv (.long y :: .long x :: st) ws :=
  fun H locs ls hP hD hS hl => lv_ladd C.hx C.hb d (kk H locs ls hP hD hS hl)
theorem g_ldc2 (C : hCx p s m args meth c cc nL rt Ts own K A) {index : Nat} {v : Int64} (hc : Cond.constantLong own index v ∈ Ts) (d : decode cc pc = .ok (.ldc2_w index, 3)) (kk : hG p l e R s m args below meth c nL K A k n Q (pc + 3) lv (.long v :: st) ws) : hG p l e R s m args below meth c nL K A k n Q pc lv st ws :=
  fun H locs ls hP hD hS hl => lv_ldc2 C.hx C.hb C.hown (C.hts _ hc) d (kk H locs ls hP hD hS hl)
end G2
theorem set_at {ws : va_W} {q0 : Nat} {x y : Nat × va_E} (h : ws[q0]? = some x) : (ws.set q0 y)[q0]? = some y := by
  have hl : q0 < ws.length := (List.getElem?_eq_some_iff.mp h).1
  rw [List.getElem?_set_self hl]
theorem set_set {ws : va_W} {q0 : Nat} {x y : Nat × va_E} : (ws.set q0 x).set q0 y = ws.set q0 y := List.set_set _
theorem set_id {ws : va_W} {q0 : Nat} {x : Nat × va_E} (h : ws[q0]? = some x) : ws.set q0 x = ws := by
  apply List.ext_getElem?
  intro i
  by_cases e : i = q0
  · subst e
    rw [set_at h, h]
  · rw [List.getElem?_set_ne (fun q => e q.symm)]
set_option maxHeartbeats 4000000 in
set_option maxRecDepth 100000 in
theorem c_J7_fill (l : Launch) (K : KK) (ws ws' : va_W) (q0 : Nat) {a N : Nat} {f : Int → Int} (v : Int) (he : ws[q0]? = some (a, aI K N f)) (hw : ws.set q0 (a, aI K N (fF f N v)) = ws') (hN : N < 100000) : hMV l yJ7_fill_53178 wsJ7_fill_53178 (rmL 0) K [.ref a, .int (iI v)] ws (fun w => w = ws') := by
  refine in_MV (cc := cJ7_fill_53178) (maxL := 4) (rt := none) (lv := [(0, .ref a), (1, .int (iI v))]) (by decide) rfl (Nat.le_of_ble_eq_true rfl) rfl ?_
  intro p e s m args below meth c A C
  refine g_iconst (pc := 0) C dJ7_fill_53178_0 ?_
  refine g_istore_n (pc := 1) (lv' := [(2, .int (iI 0)), (0, .ref a), (1, .int (iI v))]) C dJ7_fill_53178_1 rfl (by decide) rfl ?_
  refine g_aload_n (pc := 2) C dJ7_fill_53178_2 rfl rfl ?_
  refine g_alen (pc := 3) C q0 he dJ7_fill_53178_3 ?_
  refine g_istore_n (pc := 4) (lv' := [(3, .int (iI N)), (2, .int (iI 0)), (0, .ref a), (1, .int (iI v))]) C dJ7_fill_53178_4 rfl (by decide) rfl ?_
  have loop5 : ∀ (fu : Nat) (i : Int), (0 ≤ i ∧ i ≤ N) → N - i < (fu : Int) → hG p l e (rmL 0) s m args below meth c 4 K A 0 0 (QV K A below args s (fun w => w = ws')) 5 [(3, .int (iI N)), (2, .int (iI i)), (0, .ref a), (1, .int (iI v))] [] (ws.set q0 (a, aI K N (fF f i v))) := by
    intro fu
    induction fu with
    | zero =>
      intro i h1 hm
      exact absurd hm (by omega)
    | succ fu ih =>
      intro i h1 hm
      refine g_iload_n (pc := 5) C dJ7_fill_53178_5 rfl rfl ?_
      refine g_iload_n (pc := 6) C dJ7_fill_53178_6 rfl rfl ?_
      refine g_icmp_ge (pc := 7) (tgt := 20) C dJ7_fill_53178_7 (by decide) (by omega) (by omega) (fun c1 => ?_) (fun c1 => ?_)
      · exact g_return (pc := 20) C rfl dJ7_fill_53178_20 (by rw [show i = (N : Int) by omega]; exact hw)
      · refine g_aload_n (pc := 10) C dJ7_fill_53178_10 rfl rfl ?_
        refine g_iload_n (pc := 11) C dJ7_fill_53178_11 rfl rfl ?_
        refine g_iload_n (pc := 12) C dJ7_fill_53178_12 rfl rfl ?_
        refine g_iastore (pc := 13) C q0 (set_at he) (by omega) dJ7_fill_53178_13 set_set ?_
        rw [fF_s f v h1.1]
        refine g_iinc (pc := 14) (lv' := [(2, .int (iI (i + 1))), (3, .int (iI N)), (0, .ref a), (1, .int (iI v))]) C dJ7_fill_53178_14 rfl (by decide) rfl ?_
        refine g_goto (pc := 17) (tgt := 5) C dJ7_fill_53178_17 (by decide) ?_
        refine g_sub (lv' := [(3, .int (iI N)), (2, .int (iI (i + 1))), (0, .ref a), (1, .int (iI v))]) [1, 0, 2, 3] rfl ?_
        exact ih (i + 1) (by omega) (by omega)
  have h0 := loop5 (N + 1) 0 (by omega) (by omega)
  rw [fF_0, set_id he] at h0
  exact h0
end
section
set_option maxHeartbeats 4000000 in
set_option maxRecDepth 100000 in
theorem c_X1_doorOf (l : Launch) (K : KK) (ws : va_W) (r t : Int) : hMI l yX1_doorOf wsX1_doorOf (rmL 0) K [.int (iI r), .int (iI t)] ws (fun z w => z = r * 6 + t ∧ w = ws) := by
  refine in_MI (cc := cX1_doorOf) (maxL := 2) (rt := (some .int)) (lv := [(0, .int (iI r)), (1, .int (iI t))]) (by decide) rfl (Nat.le_of_ble_eq_true rfl) rfl ?_
  intro p e s m args below meth c A C
  refine g_iload_n (pc := 0) C dX1_doorOf_0 rfl rfl ?_
  refine g_bipush (pc := 1) C dX1_doorOf_1 (by decide +kernel) ?_
  refine g_imul (pc := 3) C dX1_doorOf_3 ?_
  refine g_iload_n (pc := 4) C dX1_doorOf_4 rfl rfl ?_
  refine g_iadd (pc := 5) C dX1_doorOf_5 ?_
  exact g_ireturn (pc := 6) C rfl dX1_doorOf_6 ⟨by omega, rfl⟩

set_option maxHeartbeats 4000000 in
set_option maxRecDepth 100000 in
theorem c_X1_opposite (l : Launch) (K : KK) (ws : va_W) (t : Int) (ht : 0 ≤ t ∧ t < 6) : hMI l yX1_opposite wsX1_opposite (rmL 0) K [.int (iI t)] ws (fun z w => z = (t + 3) % 6 ∧ w = ws) := by
  refine in_MI (cc := cX1_opposite) (maxL := 1) (rt := (some .int)) (lv := [(0, .int (iI t))]) (by decide) rfl (Nat.le_of_ble_eq_true rfl) rfl ?_
  intro p e s m args below meth c A C
  refine g_iload_n (pc := 0) C dX1_opposite_0 rfl rfl ?_
  refine g_iconst (pc := 1) C dX1_opposite_1 ?_
  refine g_iadd (pc := 2) C dX1_opposite_2 ?_
  refine g_bipush (pc := 3) C dX1_opposite_3 (by decide +kernel) ?_
  refine g_irem (pc := 5) C dX1_opposite_5 (by omega) (by omega) ?_
  exact g_ireturn (pc := 6) C rfl dX1_opposite_6 ⟨by omega, rfl⟩

set_option maxHeartbeats 4000000 in
set_option maxRecDepth 100000 in
theorem c_X0_cellOf (l : Launch) (K : KK) (ws : va_W) (x y : Int) : hMI l yX0_cellOf wsX0_cellOf (rmL 0) K [.int (iI x), .int (iI y)] ws (fun z w => z = (y + 5) * 11 + x + 5 ∧ w = ws) := by
  refine in_MI (cc := cX0_cellOf) (maxL := 2) (rt := (some .int)) (lv := [(0, .int (iI x)), (1, .int (iI y))]) (by decide) rfl (Nat.le_of_ble_eq_true rfl) rfl ?_
  intro p e s m args below meth c A C
  refine g_iload_n (pc := 0) C dX0_cellOf_0 rfl rfl ?_
  refine g_iconst (pc := 1) C dX0_cellOf_1 ?_
  refine g_iadd (pc := 2) C dX0_cellOf_2 ?_
  refine g_bipush (pc := 3) C dX0_cellOf_3 (by decide +kernel) ?_
  refine g_imul (pc := 5) C dX0_cellOf_5 ?_
  refine g_iload_n (pc := 6) C dX0_cellOf_6 rfl rfl ?_
  refine g_iadd (pc := 7) C dX0_cellOf_7 ?_
  refine g_iconst (pc := 8) C dX0_cellOf_8 ?_
  refine g_iadd (pc := 9) C dX0_cellOf_9 ?_
  exact g_ireturn (pc := 10) C rfl dX0_cellOf_10 ⟨by omega, rfl⟩

set_option maxHeartbeats 4000000 in
set_option maxRecDepth 100000 in
theorem c_X0_isOnPlan (l : Launch) (K : KK) (ws : va_W) (x : Int) (hx : -2147483648 ≤ x ∧ x < 2147483648) : hMI l yX0_isOnPlan wsX0_isOnPlan (rmL 0) K [.int (iI x)] ws (fun z w => z = (if -5 ≤ x ∧ x ≤ 5 then 1 else 0) ∧ w = ws) := by
  refine in_MI (cc := cX0_isOnPlan) (maxL := 1) (rt := (some .boolean)) (lv := [(0, .int (iI x))]) (by decide) rfl (Nat.le_of_ble_eq_true rfl) rfl ?_
  intro p e s m args below meth c A C
  refine g_iload_n (pc := 0) C dX0_isOnPlan_0 rfl rfl ?_
  refine g_bipush (pc := 1) C dX0_isOnPlan_1 (by decide +kernel) ?_
  refine g_icmp_lt (pc := 3) (tgt := 15) C dX0_isOnPlan_3 (by decide) (by omega) (by omega) (fun c1 => ?_) (fun c1 => ?_)
  · refine g_iconst (pc := 15) C dX0_isOnPlan_15 ?_
    exact g_zreturn (pc := 16) C rfl (by omega) dX0_isOnPlan_16 ⟨by split <;> omega, rfl⟩
  · refine g_iload_n (pc := 6) C dX0_isOnPlan_6 rfl rfl ?_
    refine g_iconst (pc := 7) C dX0_isOnPlan_7 ?_
    refine g_icmp_gt (pc := 8) (tgt := 15) C dX0_isOnPlan_8 (by decide) (by omega) (by omega) (fun c2 => ?_) (fun c2 => ?_)
    · refine g_iconst (pc := 15) C dX0_isOnPlan_15 ?_
      exact g_zreturn (pc := 16) C rfl (by omega) dX0_isOnPlan_16 ⟨by split <;> omega, rfl⟩
    · refine g_iconst (pc := 11) C dX0_isOnPlan_11 ?_
      refine g_goto (pc := 12) (tgt := 16) C dX0_isOnPlan_12 (by decide) ?_
      exact g_zreturn (pc := 16) C rfl (by omega) dX0_isOnPlan_16 ⟨by split <;> omega, rfl⟩

set_option maxHeartbeats 4000000 in
set_option maxRecDepth 100000 in
theorem c_X0_firstRoomOf (l : Launch) (K : KK) (ws : va_W) (k : Int) (hk : -1000 ≤ k ∧ k < 1000) : hMI l yX0_firstRoomOf wsX0_firstRoomOf (rmL 0) K [.int (iI k)] ws (fun z w => z = FR k ∧ w = ws) := by
  refine in_MI (cc := cX0_firstRoomOf) (maxL := 1) (rt := (some .int)) (lv := [(0, .int (iI k))]) (by decide) rfl (Nat.le_of_ble_eq_true rfl) rfl ?_
  intro p e s m args below meth c A C
  refine g_iload_n (pc := 0) C dX0_firstRoomOf_0 rfl rfl ?_
  refine g_iconst (pc := 1) C dX0_firstRoomOf_1 ?_
  refine g_icmp_ge (pc := 2) (tgt := 9) C dX0_firstRoomOf_2 (by decide) (by omega) (by omega) (fun c1 => ?_) (fun c1 => ?_)
  · refine g_iconst (pc := 9) C dX0_firstRoomOf_9 ?_
    refine g_iconst (pc := 10) C dX0_firstRoomOf_10 ?_
    refine g_iload_n (pc := 11) C dX0_firstRoomOf_11 rfl rfl ?_
    refine g_imul (pc := 12) C dX0_firstRoomOf_12 ?_
    refine g_iload_n (pc := 13) C dX0_firstRoomOf_13 rfl rfl ?_
    refine g_iconst (pc := 14) C dX0_firstRoomOf_14 ?_
    refine g_isub (pc := 15) C dX0_firstRoomOf_15 ?_
    refine g_imul (pc := 16) C dX0_firstRoomOf_16 ?_
    refine g_iadd (pc := 17) C dX0_firstRoomOf_17 ?_
    exact g_ireturn (pc := 18) C rfl dX0_firstRoomOf_18 ⟨by unfold FR; split <;> omega, rfl⟩
  · refine g_iconst (pc := 5) C dX0_firstRoomOf_5 ?_
    refine g_goto (pc := 6) (tgt := 18) C dX0_firstRoomOf_6 (by decide) ?_
    exact g_ireturn (pc := 18) C rfl dX0_firstRoomOf_18 ⟨by unfold FR; split <;> omega, rfl⟩

set_option maxHeartbeats 4000000 in
set_option maxRecDepth 100000 in
theorem c_X0_sizeOf (l : Launch) (K : KK) (ws : va_W) (k : Int) (hk : -1000 ≤ k ∧ k < 1000) : hMI l yX0_sizeOf wsX0_sizeOf (rmL 0) K [.int (iI k)] ws (fun z w => z = SZ k ∧ w = ws) := by
  refine in_MI (cc := cX0_sizeOf) (maxL := 1) (rt := (some .int)) (lv := [(0, .int (iI k))]) (by decide) rfl (Nat.le_of_ble_eq_true rfl) rfl ?_
  intro p e s m args below meth c A C
  refine g_iload_n (pc := 0) C dX0_sizeOf_0 rfl rfl ?_
  refine g_iconst (pc := 1) C dX0_sizeOf_1 ?_
  refine g_icmp_ge (pc := 2) (tgt := 9) C dX0_sizeOf_2 (by decide) (by omega) (by omega) (fun c1 => ?_) (fun c1 => ?_)
  · refine g_bipush (pc := 9) C dX0_sizeOf_9 (by decide +kernel) ?_
    refine g_iload_n (pc := 11) C dX0_sizeOf_11 rfl rfl ?_
    refine g_imul (pc := 12) C dX0_sizeOf_12 ?_
    exact g_ireturn (pc := 13) C rfl dX0_sizeOf_13 ⟨by unfold SZ; split <;> omega, rfl⟩
  · refine g_iconst (pc := 5) C dX0_sizeOf_5 ?_
    refine g_goto (pc := 6) (tgt := 13) C dX0_sizeOf_6 (by decide) ?_
    exact g_ireturn (pc := 13) C rfl dX0_sizeOf_13 ⟨by unfold SZ; split <;> omega, rfl⟩

set_option maxHeartbeats 4000000 in
set_option maxRecDepth 100000 in
theorem c_X0_acrossOf (l : Launch) (K : KK) (q : Nat → Nat) (S : Nat → Int → Int) (r : Int) (hr : 0 ≤ r ∧ r < 91) : hMI l yX0_acrossOf wsX0_acrossOf (rmL 0) K [.ref (q 1), .int (iI r)] (wX K q S) (fun z w => z = TA r ∧ w = (wX K q S)) := by
  refine in_MI (cc := cX0_acrossOf) (maxL := 2) (rt := (some .int)) (lv := [(0, .ref (q 1)), (1, .int (iI r))]) (by decide) rfl (Nat.le_of_ble_eq_true rfl) rfl ?_
  intro p e s m args below meth c A C
  have hinX0 : ∀ w ∈ wsX00, w ∈ wsX0_acrossOf := by decide +kernel
  refine g_aload_n (pc := 0) C dX0_acrossOf_0 rfl rfl ?_
  refine g_get (pc := 1) (ref := "HexRooms$Plan") (ci := 0) (N := 5) C 1 rfl rfl hinX0 0 (by decide) (by decide +kernel) rfl rfl dX0_acrossOf_1 ?_
  refine g_iload_n (pc := 4) C dX0_acrossOf_4 rfl rfl ?_
  refine g_iaload (pc := 5) C 2 rfl (by omega) dX0_acrossOf_5 ?_
  exact g_ireturn (pc := 6) C rfl dX0_acrossOf_6 ⟨by omega, rfl⟩

set_option maxHeartbeats 4000000 in
set_option maxRecDepth 100000 in
theorem c_X0_downOf (l : Launch) (K : KK) (q : Nat → Nat) (S : Nat → Int → Int) (r : Int) (hr : 0 ≤ r ∧ r < 91) : hMI l yX0_downOf wsX0_downOf (rmL 0) K [.ref (q 1), .int (iI r)] (wX K q S) (fun z w => z = TD r ∧ w = (wX K q S)) := by
  refine in_MI (cc := cX0_downOf) (maxL := 2) (rt := (some .int)) (lv := [(0, .ref (q 1)), (1, .int (iI r))]) (by decide) rfl (Nat.le_of_ble_eq_true rfl) rfl ?_
  intro p e s m args below meth c A C
  have hinX0 : ∀ w ∈ wsX00, w ∈ wsX0_downOf := by decide +kernel
  refine g_aload_n (pc := 0) C dX0_downOf_0 rfl rfl ?_
  refine g_get (pc := 1) (ref := "HexRooms$Plan") (ci := 0) (N := 5) C 1 rfl rfl hinX0 1 (by decide) (by decide +kernel) rfl rfl dX0_downOf_1 ?_
  refine g_iload_n (pc := 4) C dX0_downOf_4 rfl rfl ?_
  refine g_iaload (pc := 5) C 3 rfl (by omega) dX0_downOf_5 ?_
  exact g_ireturn (pc := 6) C rfl dX0_downOf_6 ⟨by omega, rfl⟩

set_option maxHeartbeats 4000000 in
set_option maxRecDepth 100000 in
theorem c_X0_ringOf (l : Launch) (K : KK) (q : Nat → Nat) (S : Nat → Int → Int) (r : Int) (hr : 0 ≤ r ∧ r < 91) : hMI l yX0_ringOf wsX0_ringOf (rmL 0) K [.ref (q 1), .int (iI r)] (wX K q S) (fun z w => z = TR r ∧ w = (wX K q S)) := by
  refine in_MI (cc := cX0_ringOf) (maxL := 2) (rt := (some .int)) (lv := [(0, .ref (q 1)), (1, .int (iI r))]) (by decide) rfl (Nat.le_of_ble_eq_true rfl) rfl ?_
  intro p e s m args below meth c A C
  have hinX0 : ∀ w ∈ wsX00, w ∈ wsX0_ringOf := by decide +kernel
  refine g_aload_n (pc := 0) C dX0_ringOf_0 rfl rfl ?_
  refine g_get (pc := 1) (ref := "HexRooms$Plan") (ci := 0) (N := 5) C 1 rfl rfl hinX0 2 (by decide) (by decide +kernel) rfl rfl dX0_ringOf_1 ?_
  refine g_iload_n (pc := 4) C dX0_ringOf_4 rfl rfl ?_
  refine g_iaload (pc := 5) C 4 rfl (by omega) dX0_ringOf_5 ?_
  exact g_ireturn (pc := 6) C rfl dX0_ringOf_6 ⟨by omega, rfl⟩

set_option maxHeartbeats 4000000 in
set_option maxRecDepth 100000 in
theorem c_X0_nextTo (l : Launch) (K : KK) (q : Nat → Nat) (S : Nat → Int → Int) (r t : Int) (hr : 0 ≤ r ∧ r < 91) (ht : 0 ≤ t ∧ t < 6) : hMI l yX0_nextTo wsX0_nextTo (rmL 1) K [.ref (q 1), .int (iI r), .int (iI t)] (wX K q S) (fun z w => z = TN (r * 6 + t) ∧ w = (wX K q S)) := by
  refine in_MI (cc := cX0_nextTo) (maxL := 3) (rt := (some .int)) (lv := [(0, .ref (q 1)), (1, .int (iI r)), (2, .int (iI t))]) (by decide) rfl (Nat.le_of_ble_eq_true rfl) rfl ?_
  intro p e s m args below meth c A C
  have hinX0 : ∀ w ∈ wsX00, w ∈ wsX0_nextTo := by decide +kernel
  refine g_aload_n (pc := 0) C dX0_nextTo_0 rfl rfl ?_
  refine g_get (pc := 1) (ref := "HexRooms$Plan") (ci := 0) (N := 5) C 1 rfl rfl hinX0 4 (by decide) (by decide +kernel) rfl rfl dX0_nextTo_1 ?_
  refine g_iload_n (pc := 4) C dX0_nextTo_4 rfl rfl ?_
  refine g_iload_n (pc := 5) C dX0_nextTo_5 rfl rfl ?_
  refine g_callNI (pc := 6) (As := [.int (iI r), .int (iI t)]) (rest := [.ref (q 6)]) C (c_X1_doorOf l K _ r t) ⟨va_cnB 2 C.hts ggX0_nextTo_X1_doorOf rfl rfl rfl C.hZ.2.2.2.2.2.2 (C.hts _ (by decide +kernel)) (by decide +kernel) ⟨by decide, by decide⟩, C.hts _ (by decide +kernel), trivial⟩ dX0_nextTo_6 rfl (Nat.le_of_ble_eq_true rfl) ⟨Nat.zero_le _, Nat.zero_le _⟩ (fun z w hp => ?_)
  obtain ⟨rfl, rfl⟩ := hp
  refine g_iaload (pc := 9) C 6 rfl (by omega) dX0_nextTo_9 ?_
  exact g_ireturn (pc := 10) C rfl dX0_nextTo_10 ⟨by omega, rfl⟩

set_option maxHeartbeats 4000000 in
set_option maxRecDepth 100000 in
theorem c_X0_roomAt (l : Launch) (K : KK) (q : Nat → Nat) (S : Nat → Int → Int) (x y : Int) (hx : -2147483648 ≤ x ∧ x < 2147483648) (hy : -2147483648 ≤ y ∧ y < 2147483648) : hMI l yX0_roomAt wsX0_roomAt (rmL 1) K [.ref (q 1), .int (iI x), .int (iI y)] (wX K q S) (fun z w => z = (if (-5 ≤ x ∧ x ≤ 5) ∧ (-5 ≤ y ∧ y ≤ 5) then TC ((y + 5) * 11 + x + 5) else -1) ∧ w = (wX K q S)) := by
  refine in_MI (cc := cX0_roomAt) (maxL := 3) (rt := (some .int)) (lv := [(0, .ref (q 1)), (1, .int (iI x)), (2, .int (iI y))]) (by decide) rfl (Nat.le_of_ble_eq_true rfl) rfl ?_
  intro p e s m args below meth c A C
  have hinX0 : ∀ w ∈ wsX00, w ∈ wsX0_roomAt := by decide +kernel
  refine g_iload_n (pc := 0) C dX0_roomAt_0 rfl rfl ?_
  refine g_callSI (pc := 1) (As := [.int (iI x)]) (rest := []) C (c_X0_isOnPlan l K _ x (by omega)) (cwS 1 C.hts gX0_roomAt_X0_isOnPlan rfl rfl rfl (by decide +kernel) ⟨by decide, by decide⟩) dX0_roomAt_1 rfl (Nat.le_of_ble_eq_true rfl) ⟨Nat.zero_le _, Nat.zero_le _⟩ (fun z w hp => ?_)
  obtain ⟨rfl, rfl⟩ := hp
  refine g_if_eq (pc := 4) (tgt := 27) C dX0_roomAt_4 (by decide) (by split <;> omega) (fun c1 => ?_) (fun c1 => ?_)
  · refine g_iconst (pc := 27) C dX0_roomAt_27 ?_
    exact g_ireturn (pc := 28) C rfl dX0_roomAt_28 ⟨by split <;> omega, rfl⟩
  · refine g_iload_n (pc := 7) C dX0_roomAt_7 rfl rfl ?_
    refine g_callSI (pc := 8) (As := [.int (iI y)]) (rest := []) C (c_X0_isOnPlan l K _ y (by omega)) (cwS 1 C.hts gX0_roomAt_X0_isOnPlan rfl rfl rfl (by decide +kernel) ⟨by decide, by decide⟩) dX0_roomAt_8 rfl (Nat.le_of_ble_eq_true rfl) ⟨Nat.zero_le _, Nat.zero_le _⟩ (fun z w hp => ?_)
    obtain ⟨rfl, rfl⟩ := hp
    refine g_if_eq (pc := 11) (tgt := 27) C dX0_roomAt_11 (by decide) (by split <;> omega) (fun c2 => ?_) (fun c2 => ?_)
    · refine g_iconst (pc := 27) C dX0_roomAt_27 ?_
      exact g_ireturn (pc := 28) C rfl dX0_roomAt_28 ⟨by split <;> omega, rfl⟩
    · refine g_aload_n (pc := 14) C dX0_roomAt_14 rfl rfl ?_
      refine g_get (pc := 15) (ref := "HexRooms$Plan") (ci := 0) (N := 5) C 1 rfl rfl hinX0 3 (by decide) (by decide +kernel) rfl rfl dX0_roomAt_15 ?_
      refine g_iload_n (pc := 18) C dX0_roomAt_18 rfl rfl ?_
      refine g_iload_n (pc := 19) C dX0_roomAt_19 rfl rfl ?_
      refine g_callSI (pc := 20) (As := [.int (iI x), .int (iI y)]) (rest := [.ref (q 5)]) C (c_X0_cellOf l K _ x y) (cwS 2 C.hts gX0_roomAt_X0_cellOf rfl rfl rfl (by decide +kernel) ⟨by decide, by decide⟩) dX0_roomAt_20 rfl (Nat.le_of_ble_eq_true rfl) ⟨Nat.zero_le _, Nat.zero_le _⟩ (fun z w hp => ?_)
      obtain ⟨rfl, rfl⟩ := hp
      refine g_iaload (pc := 23) C 5 rfl (by omega) dX0_roomAt_23 ?_
      refine g_goto (pc := 24) (tgt := 28) C dX0_roomAt_24 (by decide) ?_
      exact g_ireturn (pc := 28) C rfl dX0_roomAt_28 ⟨by split <;> omega, rfl⟩

set_option maxHeartbeats 4000000 in
set_option maxRecDepth 100000 in
theorem c_X1_orNone (l : Launch) (K : KK) (q : Nat → Nat) (S : Nat → Int → Int) (hn : 7 ≤ S 0 10 ∧ S 0 10 ≤ 91) (x : Int) (hx : -1 ≤ x ∧ x ≤ 90) : hMI l yX1_orNone wsX1_orNone (rmL 0) K [.ref (q 0), .int (iI x)] (wX K q S) (fun z w => z = (if x < S 0 10 then x else -1) ∧ w = (wX K q S)) := by
  refine in_MI (cc := cX1_orNone) (maxL := 2) (rt := (some .int)) (lv := [(0, .ref (q 0)), (1, .int (iI x))]) (by decide) rfl (Nat.le_of_ble_eq_true rfl) rfl ?_
  intro p e s m args below meth c A C
  have hinX1 : ∀ w ∈ wsX10, w ∈ wsX1_orNone := by decide +kernel
  refine g_iload_n (pc := 0) C dX1_orNone_0 rfl rfl ?_
  refine g_aload_n (pc := 1) C dX1_orNone_1 rfl rfl ?_
  refine g_get (pc := 2) (ref := "HexRooms") (ci := 1) (N := 11) C 0 rfl rfl hinX1 10 (by decide) (by decide +kernel) rfl rfl dX1_orNone_2 ?_
  refine g_icmp_ge (pc := 5) (tgt := 12) C dX1_orNone_5 (by decide) (by omega) (by omega) (fun c1 => ?_) (fun c1 => ?_)
  · refine g_iconst (pc := 12) C dX1_orNone_12 ?_
    exact g_ireturn (pc := 13) C rfl dX1_orNone_13 ⟨by split <;> omega, rfl⟩
  · refine g_iload_n (pc := 8) C dX1_orNone_8 rfl rfl ?_
    refine g_goto (pc := 9) (tgt := 13) C dX1_orNone_9 (by decide) ?_
    exact g_ireturn (pc := 13) C rfl dX1_orNone_13 ⟨by split <;> omega, rfl⟩

set_option maxHeartbeats 4000000 in
set_option maxRecDepth 100000 in
theorem c_X1_neighbour (l : Launch) (K : KK) (q : Nat → Nat) (S : Nat → Int → Int) (hn : 7 ≤ S 0 10 ∧ S 0 10 ≤ 91) (r t : Int) (hr : 0 ≤ r ∧ r < 91) (ht : 0 ≤ t ∧ t < 6) : hMI l yX1_neighbour wsX1_neighbour (rmL 2) K [.ref (q 0), .int (iI r), .int (iI t)] (wX K q S) (fun z w => z = NX (S 0 10) r t ∧ w = (wX K q S)) := by
  refine in_MI (cc := cX1_neighbour) (maxL := 3) (rt := (some .int)) (lv := [(0, .ref (q 0)), (1, .int (iI r)), (2, .int (iI t))]) (by decide) rfl (Nat.le_of_ble_eq_true rfl) rfl ?_
  intro p e s m args below meth c A C
  have hinX1 : ∀ w ∈ wsX10, w ∈ wsX1_neighbour := by decide +kernel
  refine g_aload_n (pc := 0) C dX1_neighbour_0 rfl rfl ?_
  refine g_aload_n (pc := 1) C dX1_neighbour_1 rfl rfl ?_
  refine g_get (pc := 2) (ref := "HexRooms") (ci := 1) (N := 11) C 0 rfl rfl hinX1 0 (by decide) (by decide +kernel) rfl rfl dX1_neighbour_2 ?_
  refine g_iload_n (pc := 5) C dX1_neighbour_5 rfl rfl ?_
  refine g_iload_n (pc := 6) C dX1_neighbour_6 rfl rfl ?_
  refine g_callVI (pc := 7) (As := [.int (iI r), .int (iI t)]) (rest := [.ref (q 0)]) C (c_X0_nextTo l K q S r t hr ht) (cwV 2 C.hts gX1_neighbour_X0_nextTo rfl rfl rfl (by decide +kernel) ⟨by decide, by decide⟩) 1 rfl rfl dX1_neighbour_7 rfl (Nat.le_of_ble_eq_true rfl) ⟨Nat.zero_le _, Nat.zero_le _⟩ (fun z w hp => ?_)
  obtain ⟨rfl, rfl⟩ := hp
  refine g_callVI (pc := 10) (As := [.int (iI (TN (r * 6 + t)))]) (rest := []) C (c_X1_orNone l K q S hn (TN (r * 6 + t)) (TN_b _)) (cwV 1 C.hts gX1_neighbour_X1_orNone rfl rfl rfl (by decide +kernel) ⟨by decide, by decide⟩) 0 rfl rfl dX1_neighbour_10 rfl (Nat.le_of_ble_eq_true rfl) ⟨Nat.zero_le _, Nat.zero_le _⟩ (fun z w hp => ?_)
  obtain ⟨rfl, rfl⟩ := hp
  exact g_ireturn (pc := 13) C rfl dX1_neighbour_13 ⟨rfl, rfl⟩

set_option maxHeartbeats 4000000 in
set_option maxRecDepth 100000 in
theorem c_X1_onward_7 (l : Launch) (K : KK) (q : Nat → Nat) (S : Nat → Int → Int) (hn : 7 ≤ S 0 10 ∧ S 0 10 ≤ 91) (hf : ∀ j, 0 ≤ j → j < S 0 10 → 0 ≤ S 7 j ∧ S 7 j ≤ 2) (hh : ∀ j, 0 ≤ j → j < 546 → 0 ≤ S 8 j ∧ S 8 j ≤ 1) (r t : Int) (hr : 0 ≤ r ∧ r < 91) (ht : 0 ≤ t ∧ t < 6) : hMI l yX1_onward wsX1_onward (rmL 3) K [.ref (q 0), .ref (q 7), .int (iI r), .int (iI t)] (wX K q S) (fun z w => z = ON (S 0 10) (S 7) (S 8) r t ∧ w = (wX K q S)) := by
  refine in_MI (cc := cX1_onward) (maxL := 5) (rt := (some .int)) (lv := [(0, .ref (q 0)), (1, .ref (q 7)), (2, .int (iI r)), (3, .int (iI t))]) (by decide) rfl (Nat.le_of_ble_eq_true rfl) rfl ?_
  intro p e s m args below meth c A C
  have hinX1 : ∀ w ∈ wsX10, w ∈ wsX1_onward := by decide +kernel
  refine g_aload_n (pc := 0) C dX1_onward_0 rfl rfl ?_
  refine g_iload_n (pc := 1) C dX1_onward_1 rfl rfl ?_
  refine g_iload_n (pc := 2) C dX1_onward_2 rfl rfl ?_
  refine g_callVI (pc := 3) (As := [.int (iI r), .int (iI t)]) (rest := []) C (c_X1_neighbour l K q S hn r t hr ht) (cwV 2 C.hts gX1_onward_X1_neighbour rfl rfl rfl (by decide +kernel) ⟨by decide, by decide⟩) 0 rfl rfl dX1_onward_3 rfl (Nat.le_of_ble_eq_true rfl) ⟨Nat.zero_le _, Nat.zero_le _⟩ (fun z w hp => ?_)
  obtain ⟨rfl, rfl⟩ := hp
  have hb := NX_b (S 0 10) r t
  refine g_istore (pc := 6) (lv' := [(4, .int (iI (NX (S 0 10) r t))), (0, .ref (q 0)), (1, .ref (q 7)), (2, .int (iI r)), (3, .int (iI t))]) C dX1_onward_6 (by decide) rfl ?_
  refine g_iload (pc := 8) C dX1_onward_8 rfl ?_
  refine g_iconst (pc := 10) C dX1_onward_10 ?_
  refine g_icmp_eq (pc := 11) (tgt := 35) C dX1_onward_11 (by decide) (by omega) (by omega) (fun c1 => ?_) (fun c1 => ?_)
  · refine g_iconst (pc := 35) C dX1_onward_35 ?_
    exact g_ireturn (pc := 36) C rfl dX1_onward_36 ⟨by unfold ON; split <;> omega, rfl⟩
  · refine g_aload_n (pc := 14) C dX1_onward_14 rfl rfl ?_
    refine g_get (pc := 15) (ref := "HexRooms") (ci := 1) (N := 11) C 0 rfl rfl hinX1 2 (by decide) (by decide +kernel) rfl rfl dX1_onward_15 ?_
    refine g_iload_n (pc := 18) C dX1_onward_18 rfl rfl ?_
    refine g_iload_n (pc := 19) C dX1_onward_19 rfl rfl ?_
    refine g_callSI (pc := 20) (As := [.int (iI r), .int (iI t)]) (rest := [.ref (q 8)]) C (c_X1_doorOf l K _ r t) (cwS 2 C.hts gX1_onward_X1_doorOf rfl rfl rfl (by decide +kernel) ⟨by decide, by decide⟩) dX1_onward_20 rfl (Nat.le_of_ble_eq_true rfl) ⟨Nat.zero_le _, Nat.zero_le _⟩ (fun z w hp => ?_)
    obtain ⟨rfl, rfl⟩ := hp
    refine g_baload (pc := 23) C 8 rfl (by omega) dX1_onward_23 ?_
    have bd2 := hh (r * 6 + t) (by omega) (by omega)
    refine g_if_ne (pc := 24) (tgt := 35) C dX1_onward_24 (by decide) (by omega) (fun c3 => ?_) (fun c3 => ?_)
    · refine g_iconst (pc := 35) C dX1_onward_35 ?_
      exact g_ireturn (pc := 36) C rfl dX1_onward_36 ⟨by unfold ON; split <;> omega, rfl⟩
    · refine g_aload_n (pc := 27) C dX1_onward_27 rfl rfl ?_
      refine g_iload (pc := 28) C dX1_onward_28 rfl ?_
      refine g_iaload (pc := 30) C 7 rfl (by omega) dX1_onward_30 ?_
      have bd4 := hf (NX (S 0 10) r t) (by omega) (by omega)
      refine g_iconst (pc := 31) C dX1_onward_31 ?_
      refine g_icmp_ne (pc := 32) (tgt := 37) C dX1_onward_32 (by decide) (by omega) (by omega) (fun c5 => ?_) (fun c5 => ?_)
      · refine g_iload (pc := 37) C dX1_onward_37 rfl ?_
        exact g_ireturn (pc := 39) C rfl dX1_onward_39 ⟨by unfold ON; split <;> omega, rfl⟩
      · refine g_iconst (pc := 35) C dX1_onward_35 ?_
        exact g_ireturn (pc := 36) C rfl dX1_onward_36 ⟨by unfold ON; split <;> omega, rfl⟩

set_option maxHeartbeats 4000000 in
set_option maxRecDepth 100000 in
theorem c_X1_onward_10 (l : Launch) (K : KK) (q : Nat → Nat) (S : Nat → Int → Int) (hn : 7 ≤ S 0 10 ∧ S 0 10 ≤ 91) (hf : ∀ j, 0 ≤ j → j < S 0 10 → 0 ≤ S 10 j ∧ S 10 j ≤ 2) (hh : ∀ j, 0 ≤ j → j < 546 → 0 ≤ S 8 j ∧ S 8 j ≤ 1) (r t : Int) (hr : 0 ≤ r ∧ r < 91) (ht : 0 ≤ t ∧ t < 6) : hMI l yX1_onward wsX1_onward (rmL 3) K [.ref (q 0), .ref (q 10), .int (iI r), .int (iI t)] (wX K q S) (fun z w => z = ON (S 0 10) (S 10) (S 8) r t ∧ w = (wX K q S)) := by
  refine in_MI (cc := cX1_onward) (maxL := 5) (rt := (some .int)) (lv := [(0, .ref (q 0)), (1, .ref (q 10)), (2, .int (iI r)), (3, .int (iI t))]) (by decide) rfl (Nat.le_of_ble_eq_true rfl) rfl ?_
  intro p e s m args below meth c A C
  have hinX1 : ∀ w ∈ wsX10, w ∈ wsX1_onward := by decide +kernel
  refine g_aload_n (pc := 0) C dX1_onward_0 rfl rfl ?_
  refine g_iload_n (pc := 1) C dX1_onward_1 rfl rfl ?_
  refine g_iload_n (pc := 2) C dX1_onward_2 rfl rfl ?_
  refine g_callVI (pc := 3) (As := [.int (iI r), .int (iI t)]) (rest := []) C (c_X1_neighbour l K q S hn r t hr ht) (cwV 2 C.hts gX1_onward_X1_neighbour rfl rfl rfl (by decide +kernel) ⟨by decide, by decide⟩) 0 rfl rfl dX1_onward_3 rfl (Nat.le_of_ble_eq_true rfl) ⟨Nat.zero_le _, Nat.zero_le _⟩ (fun z w hp => ?_)
  obtain ⟨rfl, rfl⟩ := hp
  have hb := NX_b (S 0 10) r t
  refine g_istore (pc := 6) (lv' := [(4, .int (iI (NX (S 0 10) r t))), (0, .ref (q 0)), (1, .ref (q 10)), (2, .int (iI r)), (3, .int (iI t))]) C dX1_onward_6 (by decide) rfl ?_
  refine g_iload (pc := 8) C dX1_onward_8 rfl ?_
  refine g_iconst (pc := 10) C dX1_onward_10 ?_
  refine g_icmp_eq (pc := 11) (tgt := 35) C dX1_onward_11 (by decide) (by omega) (by omega) (fun c1 => ?_) (fun c1 => ?_)
  · refine g_iconst (pc := 35) C dX1_onward_35 ?_
    exact g_ireturn (pc := 36) C rfl dX1_onward_36 ⟨by unfold ON; split <;> omega, rfl⟩
  · refine g_aload_n (pc := 14) C dX1_onward_14 rfl rfl ?_
    refine g_get (pc := 15) (ref := "HexRooms") (ci := 1) (N := 11) C 0 rfl rfl hinX1 2 (by decide) (by decide +kernel) rfl rfl dX1_onward_15 ?_
    refine g_iload_n (pc := 18) C dX1_onward_18 rfl rfl ?_
    refine g_iload_n (pc := 19) C dX1_onward_19 rfl rfl ?_
    refine g_callSI (pc := 20) (As := [.int (iI r), .int (iI t)]) (rest := [.ref (q 8)]) C (c_X1_doorOf l K _ r t) (cwS 2 C.hts gX1_onward_X1_doorOf rfl rfl rfl (by decide +kernel) ⟨by decide, by decide⟩) dX1_onward_20 rfl (Nat.le_of_ble_eq_true rfl) ⟨Nat.zero_le _, Nat.zero_le _⟩ (fun z w hp => ?_)
    obtain ⟨rfl, rfl⟩ := hp
    refine g_baload (pc := 23) C 8 rfl (by omega) dX1_onward_23 ?_
    have bd2 := hh (r * 6 + t) (by omega) (by omega)
    refine g_if_ne (pc := 24) (tgt := 35) C dX1_onward_24 (by decide) (by omega) (fun c3 => ?_) (fun c3 => ?_)
    · refine g_iconst (pc := 35) C dX1_onward_35 ?_
      exact g_ireturn (pc := 36) C rfl dX1_onward_36 ⟨by unfold ON; split <;> omega, rfl⟩
    · refine g_aload_n (pc := 27) C dX1_onward_27 rfl rfl ?_
      refine g_iload (pc := 28) C dX1_onward_28 rfl ?_
      refine g_iaload (pc := 30) C 10 rfl (by omega) dX1_onward_30 ?_
      have bd4 := hf (NX (S 0 10) r t) (by omega) (by omega)
      refine g_iconst (pc := 31) C dX1_onward_31 ?_
      refine g_icmp_ne (pc := 32) (tgt := 37) C dX1_onward_32 (by decide) (by omega) (by omega) (fun c5 => ?_) (fun c5 => ?_)
      · refine g_iload (pc := 37) C dX1_onward_37 rfl ?_
        exact g_ireturn (pc := 39) C rfl dX1_onward_39 ⟨by unfold ON; split <;> omega, rfl⟩
      · refine g_iconst (pc := 35) C dX1_onward_35 ?_
        exact g_ireturn (pc := 36) C rfl dX1_onward_36 ⟨by unfold ON; split <;> omega, rfl⟩
end
section
set_option maxHeartbeats 4000000 in
set_option maxRecDepth 100000 in
theorem c_X1_sidesOnward (l : Launch) (K : KK) (q : Nat → Nat) (S : Nat → Int → Int) (hn : 7 ≤ S 0 10 ∧ S 0 10 ≤ 91) (hf : ∀ j, 0 ≤ j → j < S 0 10 → 0 ≤ S 7 j ∧ S 7 j ≤ 2) (hh : ∀ j, 0 ≤ j → j < 546 → 0 ≤ S 8 j ∧ S 8 j ≤ 1) (r : Int) (hr : 0 ≤ r ∧ r < 91) : hMI l yX1_sidesOnward wsX1_sidesOnward (rmL 4) K [.ref (q 0), .int (iI r)] (wX K q S) (fun z w => z = sm (fun t => if ON (S 0 10) (S 7) (S 8) r t = -1 then 0 else 1) 0 6 ∧ w = (wX K q S)) := by
  refine in_MI (cc := cX1_sidesOnward) (maxL := 4) (rt := (some .int)) (lv := [(0, .ref (q 0)), (1, .int (iI r))]) (by decide) rfl (Nat.le_of_ble_eq_true rfl) rfl ?_
  intro p e s m args below meth c A C
  have hinX1 : ∀ w ∈ wsX10, w ∈ wsX1_sidesOnward := by decide +kernel
  refine g_iconst (pc := 0) C dX1_sidesOnward_0 ?_
  refine g_istore_n (pc := 1) (lv' := [(2, .int (iI 0)), (0, .ref (q 0)), (1, .int (iI r))]) C dX1_sidesOnward_1 rfl (by decide) rfl ?_
  refine g_iconst (pc := 2) C dX1_sidesOnward_2 ?_
  refine g_istore_n (pc := 3) (lv' := [(3, .int (iI 0)), (2, .int (iI 0)), (0, .ref (q 0)), (1, .int (iI r))]) C dX1_sidesOnward_3 rfl (by decide) rfl ?_
  have loop4 : ∀ (fu : Nat) (acc : Int) (t : Int), (0 ≤ t ∧ t ≤ 6) → (acc = sm (fun t => if ON (S 0 10) (S 7) (S 8) r t = -1 then 0 else 1) 0 t) → 6 - t < (fu : Int) → hG p l e (rmL 4) s m args below meth c 4 K A 0 0 (QI K A below args s (fun z w => z = sm (fun t => if ON (S 0 10) (S 7) (S 8) r t = -1 then 0 else 1) 0 6 ∧ w = (wX K q S))) 4 [(3, .int (iI t)), (2, .int (iI acc)), (0, .ref (q 0)), (1, .int (iI r))] [] (wX K q S) := by
    intro fu
    induction fu with
    | zero =>
      intro acc t h1 h2 hm
      exact absurd hm (by omega)
    | succ fu ih4 =>
      intro acc t h1 h2 hm
      refine g_iload_n (pc := 4) C dX1_sidesOnward_4 rfl rfl ?_
      refine g_bipush (pc := 5) C dX1_sidesOnward_5 (by decide +kernel) ?_
      refine g_icmp_ge (pc := 7) (tgt := 33) C dX1_sidesOnward_7 (by decide) (by omega) (by omega) (fun c1 => ?_) (fun c1 => ?_)
      · refine g_iload_n (pc := 33) C dX1_sidesOnward_33 rfl rfl ?_
        exact g_ireturn (pc := 34) C rfl dX1_sidesOnward_34 ⟨by rw [h2, show t = 6 by omega], rfl⟩
      · refine g_aload_n (pc := 10) C dX1_sidesOnward_10 rfl rfl ?_
        refine g_aload_n (pc := 11) C dX1_sidesOnward_11 rfl rfl ?_
        refine g_get (pc := 12) (ref := "HexRooms") (ci := 1) (N := 11) C 0 rfl rfl hinX1 1 (by decide) (by decide +kernel) rfl rfl dX1_sidesOnward_12 ?_
        refine g_iload_n (pc := 15) C dX1_sidesOnward_15 rfl rfl ?_
        refine g_iload_n (pc := 16) C dX1_sidesOnward_16 rfl rfl ?_
        refine g_callVI (pc := 17) (As := [.ref (q 7), .int (iI r), .int (iI t)]) (rest := []) C (c_X1_onward_7 l K q S hn hf hh r t (by omega) (by omega)) (cwV 3 C.hts gX1_sidesOnward_X1_onward rfl rfl rfl (by decide +kernel) ⟨by decide, by decide⟩) 0 rfl rfl dX1_sidesOnward_17 rfl (Nat.le_of_ble_eq_true rfl) ⟨Nat.zero_le _, Nat.zero_le _⟩ (fun z w hp => ?_)
        obtain ⟨rfl, rfl⟩ := hp
        have hb := ON_b (S 0 10) (S 7) (S 8) r t
        refine g_iconst (pc := 20) C dX1_sidesOnward_20 ?_
        refine g_icmp_eq (pc := 21) (tgt := 27) C dX1_sidesOnward_21 (by decide) (by omega) (by omega) (fun c2 => ?_) (fun c2 => ?_)
        · refine g_iinc (pc := 27) (lv' := [(3, .int (iI (t + 1))), (2, .int (iI acc)), (0, .ref (q 0)), (1, .int (iI r))]) C dX1_sidesOnward_27 rfl (by decide) rfl ?_
          refine g_goto (pc := 30) (tgt := 4) C dX1_sidesOnward_30 (by decide) ?_
          exact ih4 acc (t + 1) (by omega) (by rw [sm_s _ h1.1, ← h2]; split <;> omega) (by omega)
        · refine g_iinc (pc := 24) (lv' := [(2, .int (iI (acc + 1))), (3, .int (iI t)), (0, .ref (q 0)), (1, .int (iI r))]) C dX1_sidesOnward_24 rfl (by decide) rfl ?_
          refine g_iinc (pc := 27) (lv' := [(3, .int (iI (t + 1))), (2, .int (iI (acc + 1))), (0, .ref (q 0)), (1, .int (iI r))]) C dX1_sidesOnward_27 rfl (by decide) rfl ?_
          refine g_goto (pc := 30) (tgt := 4) C dX1_sidesOnward_30 (by decide) ?_
          exact ih4 (acc + 1) (t + 1) (by omega) (by rw [sm_s _ h1.1, ← h2]; split <;> omega) (by omega)
  exact loop4 (7) 0 0 (by omega) (by rw [sm_0]) (by omega)

set_option maxHeartbeats 4000000 in
set_option maxRecDepth 100000 in
theorem c_X1_standing (l : Launch) (K : KK) (q : Nat → Nat) (S : Nat → Int → Int) (v a b : Int) (hv : 0 ≤ v ∧ v ≤ 2) (ha : 0 ≤ a ∧ a ≤ b ∧ b ≤ 91) (hf : ∀ j, 0 ≤ j → j < b → 0 ≤ S 7 j ∧ S 7 j ≤ 2) : hMI l yX1_standing wsX1_standing (rmL 0) K [.ref (q 0), .int (iI v), .int (iI a), .int (iI b)] (wX K q S) (fun z w => z = sm (fun j => if S 7 j = v then 1 else 0) a b ∧ w = (wX K q S)) := by
  refine in_MI (cc := cX1_standing) (maxL := 6) (rt := (some .int)) (lv := [(0, .ref (q 0)), (1, .int (iI v)), (2, .int (iI a)), (3, .int (iI b))]) (by decide) rfl (Nat.le_of_ble_eq_true rfl) rfl ?_
  intro p e s m args below meth c A C
  have hinX1 : ∀ w ∈ wsX10, w ∈ wsX1_standing := by decide +kernel
  refine g_iconst (pc := 0) C dX1_standing_0 ?_
  refine g_istore (pc := 1) (lv' := [(4, .int (iI 0)), (0, .ref (q 0)), (1, .int (iI v)), (2, .int (iI a)), (3, .int (iI b))]) C dX1_standing_1 (by decide) rfl ?_
  refine g_iload_n (pc := 3) C dX1_standing_3 rfl rfl ?_
  refine g_istore (pc := 4) (lv' := [(5, .int (iI a)), (4, .int (iI 0)), (0, .ref (q 0)), (1, .int (iI v)), (2, .int (iI a)), (3, .int (iI b))]) C dX1_standing_4 (by decide) rfl ?_
  have loop6 : ∀ (fu : Nat) (acc : Int) (i : Int), (a ≤ i ∧ i ≤ b) → (acc = sm (fun j => if S 7 j = v then 1 else 0) a i) → b - i < (fu : Int) → hG p l e (rmL 0) s m args below meth c 6 K A 0 0 (QI K A below args s (fun z w => z = sm (fun j => if S 7 j = v then 1 else 0) a b ∧ w = (wX K q S))) 6 [(5, .int (iI i)), (4, .int (iI acc)), (0, .ref (q 0)), (1, .int (iI v)), (2, .int (iI a)), (3, .int (iI b))] [] (wX K q S) := by
    intro fu
    induction fu with
    | zero =>
      intro acc i h1 h2 hm
      exact absurd hm (by omega)
    | succ fu ih6 =>
      intro acc i h1 h2 hm
      refine g_iload (pc := 6) C dX1_standing_6 rfl ?_
      refine g_iload_n (pc := 8) C dX1_standing_8 rfl rfl ?_
      refine g_icmp_ge (pc := 9) (tgt := 32) C dX1_standing_9 (by decide) (by omega) (by omega) (fun c1 => ?_) (fun c1 => ?_)
      · refine g_iload (pc := 32) C dX1_standing_32 rfl ?_
        exact g_ireturn (pc := 34) C rfl dX1_standing_34 ⟨by rw [h2, show i = b by omega], rfl⟩
      · refine g_aload_n (pc := 12) C dX1_standing_12 rfl rfl ?_
        refine g_get (pc := 13) (ref := "HexRooms") (ci := 1) (N := 11) C 0 rfl rfl hinX1 1 (by decide) (by decide +kernel) rfl rfl dX1_standing_13 ?_
        refine g_iload (pc := 16) C dX1_standing_16 rfl ?_
        refine g_iaload (pc := 18) C 7 rfl (by omega) dX1_standing_18 ?_
        have bd2 := hf i (by omega) (by omega)
        refine g_iload_n (pc := 19) C dX1_standing_19 rfl rfl ?_
        refine g_icmp_ne (pc := 20) (tgt := 26) C dX1_standing_20 (by decide) (by omega) (by omega) (fun c3 => ?_) (fun c3 => ?_)
        · refine g_iinc (pc := 26) (lv' := [(5, .int (iI (i + 1))), (4, .int (iI acc)), (0, .ref (q 0)), (1, .int (iI v)), (2, .int (iI a)), (3, .int (iI b))]) C dX1_standing_26 rfl (by decide) rfl ?_
          refine g_goto (pc := 29) (tgt := 6) C dX1_standing_29 (by decide) ?_
          exact ih6 acc (i + 1) (by omega) (by rw [sm_s _ h1.1, ← h2]; split <;> omega) (by omega)
        · refine g_iinc (pc := 23) (lv' := [(4, .int (iI (acc + 1))), (5, .int (iI i)), (0, .ref (q 0)), (1, .int (iI v)), (2, .int (iI a)), (3, .int (iI b))]) C dX1_standing_23 rfl (by decide) rfl ?_
          refine g_iinc (pc := 26) (lv' := [(5, .int (iI (i + 1))), (4, .int (iI (acc + 1))), (0, .ref (q 0)), (1, .int (iI v)), (2, .int (iI a)), (3, .int (iI b))]) C dX1_standing_26 rfl (by decide) rfl ?_
          refine g_goto (pc := 29) (tgt := 6) C dX1_standing_29 (by decide) ?_
          exact ih6 (acc + 1) (i + 1) (by omega) (by rw [sm_s _ h1.1, ← h2]; split <;> omega) (by omega)
  exact loop6 (92) 0 a (by omega) (by rw [sm_0]) (by omega)

set_option maxHeartbeats 4000000 in
set_option maxRecDepth 100000 in
theorem c_X1_litAmong_9 (l : Launch) (K : KK) (q : Nat → Nat) (S : Nat → Int → Int) (a b : Int) (ha : 0 ≤ a ∧ a ≤ b ∧ b ≤ 91) (hf : ∀ j, 0 ≤ j → j < b → 0 ≤ S 9 j ∧ S 9 j ≤ 100000) : hMI l yX1_litAmong wsX1_litAmong (rmL 0) K [.ref (q 9), .int (iI a), .int (iI b)] (wX K q S) (fun z w => z = sm (fun j => if 0 < S 9 j then 1 else 0) a b ∧ w = (wX K q S)) := by
  refine in_MI (cc := cX1_litAmong) (maxL := 5) (rt := (some .int)) (lv := [(0, .ref (q 9)), (1, .int (iI a)), (2, .int (iI b))]) (by decide) rfl (Nat.le_of_ble_eq_true rfl) rfl ?_
  intro p e s m args below meth c A C
  refine g_iconst (pc := 0) C dX1_litAmong_0 ?_
  refine g_istore_n (pc := 1) (lv' := [(3, .int (iI 0)), (0, .ref (q 9)), (1, .int (iI a)), (2, .int (iI b))]) C dX1_litAmong_1 rfl (by decide) rfl ?_
  refine g_iload_n (pc := 2) C dX1_litAmong_2 rfl rfl ?_
  refine g_istore (pc := 3) (lv' := [(4, .int (iI a)), (3, .int (iI 0)), (0, .ref (q 9)), (1, .int (iI a)), (2, .int (iI b))]) C dX1_litAmong_3 (by decide) rfl ?_
  have loop5 : ∀ (fu : Nat) (acc : Int) (i : Int), (a ≤ i ∧ i ≤ b) → (acc = sm (fun j => if 0 < S 9 j then 1 else 0) a i) → b - i < (fu : Int) → hG p l e (rmL 0) s m args below meth c 5 K A 0 0 (QI K A below args s (fun z w => z = sm (fun j => if 0 < S 9 j then 1 else 0) a b ∧ w = (wX K q S))) 5 [(4, .int (iI i)), (3, .int (iI acc)), (0, .ref (q 9)), (1, .int (iI a)), (2, .int (iI b))] [] (wX K q S) := by
    intro fu
    induction fu with
    | zero =>
      intro acc i h1 h2 hm
      exact absurd hm (by omega)
    | succ fu ih5 =>
      intro acc i h1 h2 hm
      refine g_iload (pc := 5) C dX1_litAmong_5 rfl ?_
      refine g_iload_n (pc := 7) C dX1_litAmong_7 rfl rfl ?_
      refine g_icmp_ge (pc := 8) (tgt := 27) C dX1_litAmong_8 (by decide) (by omega) (by omega) (fun c1 => ?_) (fun c1 => ?_)
      · refine g_iload_n (pc := 27) C dX1_litAmong_27 rfl rfl ?_
        exact g_ireturn (pc := 28) C rfl dX1_litAmong_28 ⟨by rw [h2, show i = b by omega], rfl⟩
      · refine g_aload_n (pc := 11) C dX1_litAmong_11 rfl rfl ?_
        refine g_iload (pc := 12) C dX1_litAmong_12 rfl ?_
        refine g_iaload (pc := 14) C 9 rfl (by omega) dX1_litAmong_14 ?_
        have bd2 := hf i (by omega) (by omega)
        refine g_if_le (pc := 15) (tgt := 21) C dX1_litAmong_15 (by decide) (by omega) (fun c3 => ?_) (fun c3 => ?_)
        · refine g_iinc (pc := 21) (lv' := [(4, .int (iI (i + 1))), (3, .int (iI acc)), (0, .ref (q 9)), (1, .int (iI a)), (2, .int (iI b))]) C dX1_litAmong_21 rfl (by decide) rfl ?_
          refine g_goto (pc := 24) (tgt := 5) C dX1_litAmong_24 (by decide) ?_
          exact ih5 acc (i + 1) (by omega) (by rw [sm_s _ h1.1, ← h2]; split <;> omega) (by omega)
        · refine g_iinc (pc := 18) (lv' := [(3, .int (iI (acc + 1))), (4, .int (iI i)), (0, .ref (q 9)), (1, .int (iI a)), (2, .int (iI b))]) C dX1_litAmong_18 rfl (by decide) rfl ?_
          refine g_iinc (pc := 21) (lv' := [(4, .int (iI (i + 1))), (3, .int (iI (acc + 1))), (0, .ref (q 9)), (1, .int (iI a)), (2, .int (iI b))]) C dX1_litAmong_21 rfl (by decide) rfl ?_
          refine g_goto (pc := 24) (tgt := 5) C dX1_litAmong_24 (by decide) ?_
          exact ih5 (acc + 1) (i + 1) (by omega) (by rw [sm_s _ h1.1, ← h2]; split <;> omega) (by omega)
  exact loop5 (92) 0 a (by omega) (by rw [sm_0]) (by omega)

set_option maxHeartbeats 4000000 in
set_option maxRecDepth 100000 in
theorem c_X1_litAmong_11 (l : Launch) (K : KK) (q : Nat → Nat) (S : Nat → Int → Int) (a b : Int) (ha : 0 ≤ a ∧ a ≤ b ∧ b ≤ 91) (hf : ∀ j, 0 ≤ j → j < b → 0 ≤ S 11 j ∧ S 11 j ≤ 100000) : hMI l yX1_litAmong wsX1_litAmong (rmL 0) K [.ref (q 11), .int (iI a), .int (iI b)] (wX K q S) (fun z w => z = sm (fun j => if 0 < S 11 j then 1 else 0) a b ∧ w = (wX K q S)) := by
  refine in_MI (cc := cX1_litAmong) (maxL := 5) (rt := (some .int)) (lv := [(0, .ref (q 11)), (1, .int (iI a)), (2, .int (iI b))]) (by decide) rfl (Nat.le_of_ble_eq_true rfl) rfl ?_
  intro p e s m args below meth c A C
  refine g_iconst (pc := 0) C dX1_litAmong_0 ?_
  refine g_istore_n (pc := 1) (lv' := [(3, .int (iI 0)), (0, .ref (q 11)), (1, .int (iI a)), (2, .int (iI b))]) C dX1_litAmong_1 rfl (by decide) rfl ?_
  refine g_iload_n (pc := 2) C dX1_litAmong_2 rfl rfl ?_
  refine g_istore (pc := 3) (lv' := [(4, .int (iI a)), (3, .int (iI 0)), (0, .ref (q 11)), (1, .int (iI a)), (2, .int (iI b))]) C dX1_litAmong_3 (by decide) rfl ?_
  have loop5 : ∀ (fu : Nat) (acc : Int) (i : Int), (a ≤ i ∧ i ≤ b) → (acc = sm (fun j => if 0 < S 11 j then 1 else 0) a i) → b - i < (fu : Int) → hG p l e (rmL 0) s m args below meth c 5 K A 0 0 (QI K A below args s (fun z w => z = sm (fun j => if 0 < S 11 j then 1 else 0) a b ∧ w = (wX K q S))) 5 [(4, .int (iI i)), (3, .int (iI acc)), (0, .ref (q 11)), (1, .int (iI a)), (2, .int (iI b))] [] (wX K q S) := by
    intro fu
    induction fu with
    | zero =>
      intro acc i h1 h2 hm
      exact absurd hm (by omega)
    | succ fu ih5 =>
      intro acc i h1 h2 hm
      refine g_iload (pc := 5) C dX1_litAmong_5 rfl ?_
      refine g_iload_n (pc := 7) C dX1_litAmong_7 rfl rfl ?_
      refine g_icmp_ge (pc := 8) (tgt := 27) C dX1_litAmong_8 (by decide) (by omega) (by omega) (fun c1 => ?_) (fun c1 => ?_)
      · refine g_iload_n (pc := 27) C dX1_litAmong_27 rfl rfl ?_
        exact g_ireturn (pc := 28) C rfl dX1_litAmong_28 ⟨by rw [h2, show i = b by omega], rfl⟩
      · refine g_aload_n (pc := 11) C dX1_litAmong_11 rfl rfl ?_
        refine g_iload (pc := 12) C dX1_litAmong_12 rfl ?_
        refine g_iaload (pc := 14) C 11 rfl (by omega) dX1_litAmong_14 ?_
        have bd2 := hf i (by omega) (by omega)
        refine g_if_le (pc := 15) (tgt := 21) C dX1_litAmong_15 (by decide) (by omega) (fun c3 => ?_) (fun c3 => ?_)
        · refine g_iinc (pc := 21) (lv' := [(4, .int (iI (i + 1))), (3, .int (iI acc)), (0, .ref (q 11)), (1, .int (iI a)), (2, .int (iI b))]) C dX1_litAmong_21 rfl (by decide) rfl ?_
          refine g_goto (pc := 24) (tgt := 5) C dX1_litAmong_24 (by decide) ?_
          exact ih5 acc (i + 1) (by omega) (by rw [sm_s _ h1.1, ← h2]; split <;> omega) (by omega)
        · refine g_iinc (pc := 18) (lv' := [(3, .int (iI (acc + 1))), (4, .int (iI i)), (0, .ref (q 11)), (1, .int (iI a)), (2, .int (iI b))]) C dX1_litAmong_18 rfl (by decide) rfl ?_
          refine g_iinc (pc := 21) (lv' := [(4, .int (iI (i + 1))), (3, .int (iI (acc + 1))), (0, .ref (q 11)), (1, .int (iI a)), (2, .int (iI b))]) C dX1_litAmong_21 rfl (by decide) rfl ?_
          refine g_goto (pc := 24) (tgt := 5) C dX1_litAmong_24 (by decide) ?_
          exact ih5 (acc + 1) (i + 1) (by omega) (by rw [sm_s _ h1.1, ← h2]; split <;> omega) (by omega)
  exact loop5 (92) 0 a (by omega) (by rw [sm_0]) (by omega)

set_option maxHeartbeats 4000000 in
set_option maxRecDepth 100000 in
theorem c_X1_doorsShut (l : Launch) (K : KK) (q : Nat → Nat) (S : Nat → Int → Int) (hn : 7 ≤ S 0 10 ∧ S 0 10 ≤ 91) (hh : ∀ j, 0 ≤ j → j < 546 → 0 ≤ S 8 j ∧ S 8 j ≤ 1) : hMI l yX1_doorsShut wsX1_doorsShut (rmL 1) K [.ref (q 0)] (wX K q S) (fun z w => z = sm (fun r => sm (fun t => if S 8 (r * 6 + t) = 0 then 0 else 1) 0 3) 0 (S 0 10) ∧ w = (wX K q S)) := by
  refine in_MI (cc := cX1_doorsShut) (maxL := 4) (rt := (some .int)) (lv := [(0, .ref (q 0))]) (by decide) rfl (Nat.le_of_ble_eq_true rfl) rfl ?_
  intro p e s m args below meth c A C
  have hinX1 : ∀ w ∈ wsX10, w ∈ wsX1_doorsShut := by decide +kernel
  refine g_iconst (pc := 0) C dX1_doorsShut_0 ?_
  refine g_istore_n (pc := 1) (lv' := [(1, .int (iI 0)), (0, .ref (q 0))]) C dX1_doorsShut_1 rfl (by decide) rfl ?_
  refine g_iconst (pc := 2) C dX1_doorsShut_2 ?_
  refine g_istore_n (pc := 3) (lv' := [(2, .int (iI 0)), (1, .int (iI 0)), (0, .ref (q 0))]) C dX1_doorsShut_3 rfl (by decide) rfl ?_
  have loop4 : ∀ (fu : Nat) (acc : Int) (r : Int), (0 ≤ r ∧ r ≤ S 0 10) → (acc = sm (fun r => sm (fun t => if S 8 (r * 6 + t) = 0 then 0 else 1) 0 3) 0 r) → S 0 10 - r < (fu : Int) → hG p l e (rmL 1) s m args below meth c 4 K A 0 0 (QI K A below args s (fun z w => z = sm (fun r => sm (fun t => if S 8 (r * 6 + t) = 0 then 0 else 1) 0 3) 0 (S 0 10) ∧ w = (wX K q S))) 4 [(2, .int (iI r)), (1, .int (iI acc)), (0, .ref (q 0))] [] (wX K q S) := by
    intro fu
    induction fu with
    | zero =>
      intro acc r h1 h2 hm
      exact absurd hm (by omega)
    | succ fu ih4 =>
      intro acc r h1 h2 hm
      refine g_iload_n (pc := 4) C dX1_doorsShut_4 rfl rfl ?_
      refine g_aload_n (pc := 5) C dX1_doorsShut_5 rfl rfl ?_
      refine g_get (pc := 6) (ref := "HexRooms") (ci := 1) (N := 11) C 0 rfl rfl hinX1 10 (by decide) (by decide +kernel) rfl rfl dX1_doorsShut_6 ?_
      refine g_icmp_ge (pc := 9) (tgt := 47) C dX1_doorsShut_9 (by decide) (by omega) (by omega) (fun c1 => ?_) (fun c1 => ?_)
      · refine g_iload_n (pc := 47) C dX1_doorsShut_47 rfl rfl ?_
        exact g_ireturn (pc := 48) C rfl dX1_doorsShut_48 ⟨by rw [h2, show r = S 0 10 by omega], rfl⟩
      · refine g_iconst (pc := 12) C dX1_doorsShut_12 ?_
        refine g_istore_n (pc := 13) (lv' := [(3, .int (iI 0)), (2, .int (iI r)), (1, .int (iI acc)), (0, .ref (q 0))]) C dX1_doorsShut_13 rfl (by decide) rfl ?_
        have loop14 : ∀ (fu : Nat) (ac2 : Int) (t : Int), (0 ≤ t ∧ t ≤ 3) → (ac2 = acc + sm (fun t => if S 8 (r * 6 + t) = 0 then 0 else 1) 0 t) → 3 - t < (fu : Int) → hG p l e (rmL 1) s m args below meth c 4 K A 0 0 (QI K A below args s (fun z w => z = sm (fun r => sm (fun t => if S 8 (r * 6 + t) = 0 then 0 else 1) 0 3) 0 (S 0 10) ∧ w = (wX K q S))) 14 [(3, .int (iI t)), (2, .int (iI r)), (1, .int (iI ac2)), (0, .ref (q 0))] [] (wX K q S) := by
          intro fu
          induction fu with
          | zero =>
            intro ac2 t h3 h4 hm
            exact absurd hm (by omega)
          | succ fu ih14 =>
            intro ac2 t h3 h4 hm
            refine g_iload_n (pc := 14) C dX1_doorsShut_14 rfl rfl ?_
            refine g_iconst (pc := 15) C dX1_doorsShut_15 ?_
            refine g_icmp_ge (pc := 16) (tgt := 41) C dX1_doorsShut_16 (by decide) (by omega) (by omega) (fun c2 => ?_) (fun c2 => ?_)
            · refine g_iinc (pc := 41) (lv' := [(2, .int (iI (r + 1))), (3, .int (iI t)), (1, .int (iI ac2)), (0, .ref (q 0))]) C dX1_doorsShut_41 rfl (by decide) rfl ?_
              refine g_goto (pc := 44) (tgt := 4) C dX1_doorsShut_44 (by decide) ?_
              refine g_sub (lv' := [(2, .int (iI (r + 1))), (1, .int (iI ac2)), (0, .ref (q 0))]) [0, 2, 3] rfl ?_
              exact ih4 ac2 (r + 1) (by omega) (by rw [sm_s _ h1.1, h4, h2, show t = 3 by omega]) (by omega)
            · refine g_aload_n (pc := 19) C dX1_doorsShut_19 rfl rfl ?_
              refine g_get (pc := 20) (ref := "HexRooms") (ci := 1) (N := 11) C 0 rfl rfl hinX1 2 (by decide) (by decide +kernel) rfl rfl dX1_doorsShut_20 ?_
              refine g_iload_n (pc := 23) C dX1_doorsShut_23 rfl rfl ?_
              refine g_iload_n (pc := 24) C dX1_doorsShut_24 rfl rfl ?_
              refine g_callSI (pc := 25) (As := [.int (iI r), .int (iI t)]) (rest := [.ref (q 8)]) C (c_X1_doorOf l K _ r t) (cwS 2 C.hts gX1_doorsShut_X1_doorOf rfl rfl rfl (by decide +kernel) ⟨by decide, by decide⟩) dX1_doorsShut_25 rfl (Nat.le_of_ble_eq_true rfl) ⟨Nat.zero_le _, Nat.zero_le _⟩ (fun z w hp => ?_)
              obtain ⟨rfl, rfl⟩ := hp
              refine g_baload (pc := 28) C 8 rfl (by omega) dX1_doorsShut_28 ?_
              have bd3 := hh (r * 6 + t) (by omega) (by omega)
              refine g_if_eq (pc := 29) (tgt := 35) C dX1_doorsShut_29 (by decide) (by omega) (fun c4 => ?_) (fun c4 => ?_)
              · refine g_iinc (pc := 35) (lv' := [(3, .int (iI (t + 1))), (2, .int (iI r)), (1, .int (iI ac2)), (0, .ref (q 0))]) C dX1_doorsShut_35 rfl (by decide) rfl ?_
                refine g_goto (pc := 38) (tgt := 14) C dX1_doorsShut_38 (by decide) ?_
                exact ih14 ac2 (t + 1) (by omega) (by rw [sm_s _ h3.1, h4]; split <;> omega) (by omega)
              · refine g_iinc (pc := 32) (lv' := [(1, .int (iI (ac2 + 1))), (3, .int (iI t)), (2, .int (iI r)), (0, .ref (q 0))]) C dX1_doorsShut_32 rfl (by decide) rfl ?_
                refine g_iinc (pc := 35) (lv' := [(3, .int (iI (t + 1))), (1, .int (iI (ac2 + 1))), (2, .int (iI r)), (0, .ref (q 0))]) C dX1_doorsShut_35 rfl (by decide) rfl ?_
                refine g_goto (pc := 38) (tgt := 14) C dX1_doorsShut_38 (by decide) ?_
                refine g_sub (lv' := [(3, .int (iI (t + 1))), (2, .int (iI r)), (1, .int (iI (ac2 + 1))), (0, .ref (q 0))]) [0, 2, 1, 3] rfl ?_
                exact ih14 (ac2 + 1) (t + 1) (by omega) (by rw [sm_s _ h3.1, h4]; split <;> omega) (by omega)
        exact loop14 (4) acc 0 (by omega) (by rw [sm_0]; omega) (by omega)
  exact loop4 (92) 0 0 (by omega) (by rw [sm_0]) (by omega)
end
section
/-! lists as rows -/
def lg (l : List Int) (i : Int) : Int := l.getD i.toNat 0
def sL (g : Int → Int) : List Int → Int
  | [] => 0
  | x :: t => g x + sL g t
theorem sL_app (g : Int → Int) : ∀ (a b : List Int), sL g (a ++ b) = sL g a + sL g b
  | [], b => by
    show sL g b = 0 + sL g b
    omega
  | x :: t, b => by
    show g x + sL g (t ++ b) = g x + sL g t + sL g b
    rw [sL_app g t b]
    omega
theorem sL_take (g : Int → Int) (l : List Int) {i : Int} (h : 0 ≤ i ∧ i < l.length) : sL g (l.take (i + 1).toNat) = sL g (l.take i.toNat) + g (lg l i) := by
  have hl : i.toNat < l.length := by omega
  rw [show (i + 1).toNat = i.toNat + 1 by omega, List.take_succ_eq_append_getElem hl, sL_app]
  show _ + (g l[i.toNat] + 0) = _
  unfold lg
  rw [List.getD_eq_getElem?_getD, List.getElem?_eq_getElem hl]
  show _ + (g l[i.toNat] + 0) = _ + g l[i.toNat]
  omega
theorem sL_take0 (g : Int → Int) (l : List Int) : sL g (l.take (0 : Int).toNat) = 0 := rfl
theorem sL_takeAll (g : Int → Int) (l : List Int) {i : Int} (h : i = l.length) : sL g (l.take i.toNat) = sL g l := by
  rw [List.take_of_length_le (by omega)]
theorem sL_b (g : Int → Int) (hg : ∀ x, 0 ≤ g x ∧ g x ≤ 1) : ∀ l : List Int, 0 ≤ sL g l ∧ sL g l ≤ l.length
  | [] => by
    show (0 : Int) ≤ 0 ∧ (0 : Int) ≤ ((0 : Nat) : Int)
    omega
  | x :: t => by
    have h1 := hg x
    have h2 := sL_b g hg t
    show 0 ≤ g x + sL g t ∧ g x + sL g t ≤ ((t.length + 1 : Nat) : Int)
    omega
theorem sL_cong {g h : Int → Int} : ∀ {l : List Int}, (∀ x ∈ l, g x = h x) → sL g l = sL h l
  | [], _ => rfl
  | x :: t, e => by
    show g x + sL g t = h x + sL h t
    rw [e x List.mem_cons_self, sL_cong (fun y hy => e y (List.mem_cons_of_mem _ hy))]
theorem lg_app1 {l m : List Int} {i : Int} (h : 0 ≤ i ∧ i < l.length) : lg (l ++ m) i = lg l i := by
  unfold lg
  rw [List.getD_eq_getElem?_getD, List.getD_eq_getElem?_getD, List.getElem?_append_left (by omega)]
theorem lg_app2 {l : List Int} {x i : Int} (h : i = l.length) : lg (l ++ [x]) i = x := by
  unfold lg
  rw [List.getD_eq_getElem?_getD, List.getElem?_append_right (by omega), show i.toNat - l.length = 0 by omega]
  rfl
theorem lg_mem {l : List Int} {i : Int} (h : 0 ≤ i ∧ i < l.length) : lg l i ∈ l := by
  unfold lg
  rw [List.getD_eq_getElem?_getD, List.getElem?_eq_getElem (by omega : i.toNat < l.length)]
  exact List.getElem_mem _
/-! rays, beams, light -/
section RAY
variable (n : Int) (f h : Int → Int)
def rayN (t : Int) : Nat → Int → List Int
  | 0, _ => []
  | k + 1, x => if x = -1 then [] else x :: rayN t k (ON n f h x t)
def ray (r t : Int) : List Int := rayN n f h t 11 (ON n f h r t)
def bm (r : Int) : Nat → List Int
  | 0 => [r]
  | t + 1 => bm r t ++ ray n f h r t
def beam (r : Int) : List Int := bm n f h r 6
def ind (j : Int) : Int → Int := fun x => if x = j then 1 else 0
def LT (m j : Int) : Int := sm (fun r => if f r = 2 then sL (ind j) (beam n f h r) else 0) 0 m
def LIT : Int := sm (fun j => if 0 < LT n f h n j then 1 else 0) 0 n
end RAY
theorem ind_b (j x : Int) : 0 ≤ ind j x ∧ ind j x ≤ 1 := by
  unfold ind
  split <;> omega
theorem rayN_none (n : Int) (f h : Int → Int) (t : Int) (k : Nat) : rayN n f h t k (-1) = [] := by
  cases k with
  | zero => rfl
  | succ k => exact if_pos rfl
theorem rayN_some (n : Int) (f h : Int → Int) (t : Int) (k : Nat) {x : Int} (hx : ¬ x = -1) : rayN n f h t (k + 1) x = x :: rayN n f h t k (ON n f h x t) := if_neg hx
theorem rayN_len (n : Int) (f h : Int → Int) (t : Int) : ∀ (k : Nat) (x : Int), (rayN n f h t k x).length ≤ k
  | 0, _ => Nat.le_refl _
  | k + 1, x => by
    by_cases hx : x = -1
    · rw [hx, rayN_none]
      exact Nat.zero_le _
    · rw [rayN_some _ _ _ _ _ hx]
      exact Nat.succ_le_succ (rayN_len n f h t k _)
theorem rayN_mem (n : Int) (f h : Int → Int) (t : Int) : ∀ (k : Nat) (x : Int), (x = -1 ∨ (0 ≤ x ∧ x < n)) → ∀ y ∈ rayN n f h t k x, 0 ≤ y ∧ y < n
  | 0, _, _, y, hy => nomatch hy
  | k + 1, x, hx, y, hy => by
    by_cases h1 : x = -1
    · rw [h1, rayN_none] at hy
      nomatch hy
    · rw [rayN_some _ _ _ _ _ h1] at hy
      rcases List.mem_cons.mp hy with e | hy
      · subst e
        omega
      · refine rayN_mem n f h t k _ ?_ y hy
        have := ON_b n f h x t
        omega
theorem bm_len (n : Int) (f h : Int → Int) (r : Int) : ∀ t : Nat, ((bm n f h r t).length : Int) ≤ 1 + 11 * t
  | 0 => by
    show ((1 : Nat) : Int) ≤ 1 + 11 * ((0 : Nat) : Int)
    omega
  | t + 1 => by
    have h1 := bm_len n f h r t
    have h2 : (ray n f h r t).length ≤ 11 := rayN_len n f h t 11 _
    show ((bm n f h r t ++ ray n f h r t).length : Int) ≤ _
    rw [List.length_append]
    omega
theorem bm_mem (n : Int) (f h : Int → Int) {r : Int} (hr : 0 ≤ r ∧ r < n) : ∀ (t : Nat), ∀ y ∈ bm n f h r t, 0 ≤ y ∧ y < n
  | 0, y, hy => by
    have : y = r := List.mem_singleton.mp hy
    omega
  | t + 1, y, hy => by
    rcases List.mem_append.mp hy with h1 | h1
    · exact bm_mem n f h hr t y h1
    · refine rayN_mem n f h t 11 _ ?_ y h1
      have := ON_b n f h r t
      omega
theorem beam_len (n : Int) (f h : Int → Int) (r : Int) : ((beam n f h r).length : Int) ≤ 67 := bm_len n f h r 6
theorem LT_b (n : Int) (f h : Int → Int) {m : Int} (hm : 0 ≤ m) (j : Int) : 0 ≤ LT n f h m j ∧ LT n f h m j ≤ 67 * m := by
  have := sm_le (g := fun r => if f r = 2 then sL (ind j) (beam n f h r) else 0) (c := 67) hm (fun r _ _ => by
    have h1 := sL_b (ind j) (ind_b j) (beam n f h r)
    have h2 := beam_len n f h r
    show 0 ≤ (if f r = 2 then sL (ind j) (beam n f h r) else 0) ∧ (if f r = 2 then sL (ind j) (beam n f h r) else 0) ≤ 67
    split <;> omega)
  rw [Int.sub_zero] at this
  exact this
theorem ON_cong {n : Int} {f g h : Int → Int} (e : ∀ j, 0 ≤ j → j < n → f j = g j) (r t : Int) : ON n f h r t = ON n g h r t := by
  have hb := NX_b n r t
  unfold ON
  by_cases c : NX n r t = -1
  · rw [if_pos (Or.inl c), if_pos (Or.inl c)]
  · rw [e _ (by omega) (by omega)]
theorem ON_cong2 {n : Int} {f h h2 : Int → Int} {r t : Int} (e : h (r * 6 + t) = h2 (r * 6 + t)) : ON n f h r t = ON n f h2 r t := by
  unfold ON
  rw [e]
theorem rayN_cong {n : Int} {f g h h2 : Int → Int} (ef : ∀ j, 0 ≤ j → j < n → f j = g j) {t : Int} (ht : 0 ≤ t ∧ t < 6) (eh : ∀ j, 0 ≤ j → j < n * 6 → h j = h2 j) : ∀ (k : Nat) (x : Int), (x = -1 ∨ (0 ≤ x ∧ x < n)) → rayN n f h t k x = rayN n g h2 t k x
  | 0, _, _ => rfl
  | k + 1, x, hx => by
    by_cases c : x = -1
    · rw [c, rayN_none, rayN_none]
    · rw [rayN_some _ _ _ _ _ c, rayN_some _ _ _ _ _ c, ON_cong ef x t, ON_cong2 (eh _ (by omega) (by omega))]
      congr 1
      refine rayN_cong ef ht eh k _ ?_
      have := ON_b n g h2 x t
      omega
theorem bm_cong {n : Int} {f g h h2 : Int → Int} (ef : ∀ j, 0 ≤ j → j < n → f j = g j) (eh : ∀ j, 0 ≤ j → j < n * 6 → h j = h2 j) {r : Int} (hr : 0 ≤ r ∧ r < n) : ∀ t : Nat, t ≤ 6 → bm n f h r t = bm n g h2 r t
  | 0, _ => rfl
  | t + 1, ht => by
    show bm n f h r t ++ ray n f h r t = bm n g h2 r t ++ ray n g h2 r t
    rw [bm_cong ef eh hr t (by omega)]
    congr 1
    unfold ray
    rw [ON_cong ef r t, ON_cong2 (h2 := h2) (eh _ (by omega) (by omega))]
    refine rayN_cong ef (by omega) eh 11 _ ?_
    have := ON_b n g h2 r t
    omega
theorem beam_cong {n : Int} {f g h h2 : Int → Int} (ef : ∀ j, 0 ≤ j → j < n → f j = g j) (eh : ∀ j, 0 ≤ j → j < n * 6 → h j = h2 j) {r : Int} (hr : 0 ≤ r ∧ r < n) : beam n f h r = beam n g h2 r := bm_cong ef eh hr 6 (Nat.le_refl _)
theorem LT_cong {n : Int} {f g h h2 : Int → Int} (ef : ∀ j, 0 ≤ j → j < n → f j = g j) (eh : ∀ j, 0 ≤ j → j < n * 6 → h j = h2 j) {m : Int} (hm : m ≤ n) (j : Int) : LT n f h m j = LT n g h2 m j := by
  unfold LT
  refine sm_cong (fun r h0 h1 => ?_)
  show (if f r = 2 then sL (ind j) (beam n f h r) else 0) = (if g r = 2 then sL (ind j) (beam n g h2 r) else 0)
  rw [ef r h0 (by omega), beam_cong ef eh ⟨h0, by omega⟩]
theorem LIT_cong {n : Int} {f g h h2 : Int → Int} (ef : ∀ j, 0 ≤ j → j < n → f j = g j) (eh : ∀ j, 0 ≤ j → j < n * 6 → h j = h2 j) : LIT n f h = LIT n g h2 := by
  unfold LIT
  refine sm_cong (fun j _ _ => ?_)
  show (if 0 < LT n f h n j then (1 : Int) else 0) = (if 0 < LT n g h2 n j then 1 else 0)
  rw [LT_cong ef eh (Int.le_refl _) j]
def TPok : Bool := (List.range 91).all (fun r => (List.range 6).all (fun t => decide (TN ((r : Int) * 6 + t) = -1 ∨ TP (TN ((r : Int) * 6 + t) * 6 + t) + 1 ≤ TP ((r : Int) * 6 + t)) && decide (0 ≤ TP ((r : Int) * 6 + t) ∧ TP ((r : Int) * 6 + t) ≤ 10)))
theorem TPok_t : TPok = true := by decide +kernel
theorem all2 {p : Nat → Nat → Bool} {a b : Nat} (h : (List.range a).all (fun r => (List.range b).all (fun t => p r t)) = true) {r t : Int} (hr : 0 ≤ r ∧ r < a) (ht : 0 ≤ t ∧ t < b) : p r.toNat t.toNat = true := by
  have h1 := List.all_eq_true.mp h r.toNat (List.mem_range.mpr (by omega))
  exact List.all_eq_true.mp h1 t.toNat (List.mem_range.mpr (by omega))
theorem TP_f {r t : Int} (hr : 0 ≤ r ∧ r < 91) (ht : 0 ≤ t ∧ t < 6) : (TN (r * 6 + t) = -1 ∨ TP (TN (r * 6 + t) * 6 + t) + 1 ≤ TP (r * 6 + t)) ∧ 0 ≤ TP (r * 6 + t) ∧ TP (r * 6 + t) ≤ 10 := by
  have h := all2 (p := fun r t => decide (TN ((r : Int) * 6 + t) = -1 ∨ TP (TN ((r : Int) * 6 + t) * 6 + t) + 1 ≤ TP ((r : Int) * 6 + t)) && decide (0 ≤ TP ((r : Int) * 6 + t) ∧ TP ((r : Int) * 6 + t) ≤ 10)) TPok_t hr ht
  rw [Bool.and_eq_true, decide_eq_true_eq, decide_eq_true_eq] at h
  rw [show ((r.toNat : Nat) : Int) = r by omega, show ((t.toNat : Nat) : Int) = t by omega] at h
  exact ⟨h.1, h.2⟩
theorem ON_TN (n : Int) (f h : Int → Int) (r t : Int) : ON n f h r t = -1 ∨ (ON n f h r t = TN (r * 6 + t) ∧ ¬ TN (r * 6 + t) = -1 ∧ TN (r * 6 + t) < n) := by
  have hb := ON_b n f h r t
  by_cases c : ON n f h r t = -1
  · exact Or.inl c
  · refine Or.inr ?_
    unfold ON at c hb ⊢
    by_cases c2 : NX n r t = -1 ∨ ¬ h (r * 6 + t) = 0 ∨ f (NX n r t) = 1
    · rw [if_pos c2] at c
      exact absurd rfl c
    · rw [if_neg c2] at c ⊢
      unfold NX at c ⊢
      by_cases c3 : TN (r * 6 + t) < n
      · rw [if_pos c3] at c ⊢
        exact ⟨rfl, c, c3⟩
      · rw [if_neg c3] at c
        exact absurd rfl c
def MU (x t : Int) : Int := if x = -1 then 0 else TP (x * 6 + t) + 1
theorem MU_b {x t : Int} (hx : x = -1 ∨ (0 ≤ x ∧ x < 91)) (ht : 0 ≤ t ∧ t < 6) : 0 ≤ MU x t ∧ MU x t ≤ 11 := by
  unfold MU
  by_cases c : x = -1
  · rw [if_pos c]
    omega
  · rw [if_neg c]
    have := (TP_f (r := x) (t := t) (by omega) ht).2
    omega
theorem MU_s (n : Int) (f h : Int → Int) {x t : Int} (hx : 0 ≤ x ∧ x < 91) (ht : 0 ≤ t ∧ t < 6) : MU (ON n f h x t) t + 1 ≤ MU x t := by
  have h1 := TP_f hx ht
  have h2 := ON_TN n f h x t
  unfold MU
  rw [if_neg (by omega : ¬ x = -1)]
  rcases h2 with e | ⟨e, e2, _⟩
  · rw [if_pos e]
    omega
  · rw [if_neg (by rw [e]; exact e2), e]
    omega
/-! turning -/
def rot (k b : Int) (f g : Int → Int) : Int → Int := fun j => if FR k ≤ j ∧ j < FR k + SZ k then f (FR k + (j - FR k - b) % SZ k) else g j
def rotP (k b : Int) (f g : Int → Int) (i : Int) : Int → Int := fun j => if (FR k ≤ j ∧ j < FR k + SZ k) ∧ (j - FR k - b) % SZ k < i then f (FR k + (j - FR k - b) % SZ k) else g j
theorem FR_SZ {k : Int} (hk : 0 ≤ k ∧ k ≤ 5) : (k = 0 ∧ FR k = 0 ∧ SZ k = 1) ∨ (k = 1 ∧ FR k = 1 ∧ SZ k = 6) ∨ (k = 2 ∧ FR k = 7 ∧ SZ k = 12) ∨ (k = 3 ∧ FR k = 19 ∧ SZ k = 18) ∨ (k = 4 ∧ FR k = 37 ∧ SZ k = 24) ∨ (k = 5 ∧ FR k = 61 ∧ SZ k = 30) := by
  rcases (by omega : k = 0 ∨ k = 1 ∨ k = 2 ∨ k = 3 ∨ k = 4 ∨ k = 5) with h | h | h | h | h | h <;> subst h <;> decide +kernel
theorem FR_s {k : Int} (hk : 0 ≤ k ∧ k ≤ 5) : FR (k + 1) = FR k + SZ k := by
  rcases (by omega : k = 0 ∨ k = 1 ∨ k = 2 ∨ k = 3 ∨ k = 4 ∨ k = 5) with h | h | h | h | h | h <;> subst h <;> decide +kernel
theorem rot_n {F n b i j : Int} (hn : n = 1 ∨ n = 6 ∨ n = 12 ∨ n = 18 ∨ n = 24 ∨ n = 30) (hi : 0 ≤ i ∧ i < n) (hj : F ≤ j ∧ j < F + n) : (j - F - b) % n = i ↔ j = F + (i + b) % n := by
  rcases hn with h | h | h | h | h | h <;> subst h <;> omega
theorem SZ_6 {k : Int} (hk : 0 ≤ k ∧ k ≤ 5) : SZ k = 1 ∨ SZ k = 6 ∨ SZ k = 12 ∨ SZ k = 18 ∨ SZ k = 24 ∨ SZ k = 30 := by
  have := FR_SZ hk
  omega
theorem rot_i {k b i j : Int} (hk : 0 ≤ k ∧ k ≤ 5) (hi : 0 ≤ i ∧ i < SZ k) (hj : FR k ≤ j ∧ j < FR k + SZ k) : (j - FR k - b) % SZ k = i ↔ j = FR k + (i + b) % SZ k := rot_n (SZ_6 hk) hi hj
theorem rot_m {k b : Int} (hk : 0 ≤ k ∧ k ≤ 5) (x : Int) : 0 ≤ x % SZ k ∧ x % SZ k < SZ k := by
  rcases FR_SZ hk with ⟨_, e1, e2⟩ | ⟨_, e1, e2⟩ | ⟨_, e1, e2⟩ | ⟨_, e1, e2⟩ | ⟨_, e1, e2⟩ | ⟨_, e1, e2⟩ <;> rw [e2] <;> omega
theorem rotP_0 (k b : Int) (f g : Int → Int) (hk : 0 ≤ k ∧ k ≤ 5) : rotP k b f g 0 = g := by
  funext j
  unfold rotP
  have := rot_m (b := b) hk (j - FR k - b)
  rw [if_neg (by omega)]
theorem rotP_n (k b : Int) (f g : Int → Int) (hk : 0 ≤ k ∧ k ≤ 5) : rotP k b f g (SZ k) = rot k b f g := by
  funext j
  unfold rotP rot
  have := rot_m (b := b) hk (j - FR k - b)
  by_cases c : FR k ≤ j ∧ j < FR k + SZ k
  · rw [if_pos ⟨c, this.2⟩, if_pos c]
  · rw [if_neg (fun q => c q.1), if_neg c]
theorem rotP_s {k b : Int} (f g : Int → Int) {i : Int} (hk : 0 ≤ k ∧ k ≤ 5) (hi : 0 ≤ i ∧ i < SZ k) : fU (rotP k b f g i) (FR k + (i + b) % SZ k) (f (FR k + i)) = rotP k b f g (i + 1) := by
  funext j
  unfold fU rotP
  have hm := rot_m (b := b) hk (i + b)
  by_cases c : FR k ≤ j ∧ j < FR k + SZ k
  · have h1 := rot_i (b := b) hk hi c
    by_cases e : j = FR k + (i + b) % SZ k
    · have h2 := h1.mpr e
      rw [if_pos e, if_pos ⟨c, by omega⟩, h2]
    · have h2 : ¬ (j - FR k - b) % SZ k = i := fun q => e (h1.mp q)
      rw [if_neg e]
      by_cases c2 : (j - FR k - b) % SZ k < i
      · rw [if_pos ⟨c, c2⟩, if_pos ⟨c, by omega⟩]
      · rw [if_neg (fun q => c2 q.2), if_neg (by omega)]
  · rw [if_neg (by omega), if_neg (fun q => c q.1), if_neg (fun q => c q.1)]
def AT (f : Int → Int) (b j : Int) : Int := f (FR (TR j) + (j - FR (TR j) - TR j * b) % SZ (TR j))
def TRok : Bool := (List.range 91).all (fun r => (List.range 6).all (fun k => decide (FR k ≤ (r : Int) ∧ (r : Int) < FR k + SZ k → TR r = k) && decide (FR (TR r) ≤ (r : Int) ∧ (r : Int) < FR (TR r) + SZ (TR r))))
theorem TRok_t : TRok = true := by decide +kernel
theorem TR_u {j k : Int} (hk : 0 ≤ k ∧ k ≤ 5) (h : FR k ≤ j ∧ j < FR k + SZ k) : TR j = k := by
  have hj : 0 ≤ j ∧ j < 91 := by
    have := FR_SZ hk
    omega
  have h1 := all2 (p := fun r k => decide (FR k ≤ (r : Int) ∧ (r : Int) < FR k + SZ k → TR r = k) && decide (FR (TR r) ≤ (r : Int) ∧ (r : Int) < FR (TR r) + SZ (TR r))) TRok_t hj (show 0 ≤ k ∧ k < ((6 : Nat) : Int) by omega)
  rw [Bool.and_eq_true, decide_eq_true_eq, decide_eq_true_eq] at h1
  rw [show ((j.toNat : Nat) : Int) = j by omega, show ((k.toNat : Nat) : Int) = k by omega] at h1
  exact h1.1 h
theorem TR_r {j : Int} (hj : 0 ≤ j ∧ j < 91) : FR (TR j) ≤ j ∧ j < FR (TR j) + SZ (TR j) := by
  have h1 := all2 (p := fun r k => decide (FR k ≤ (r : Int) ∧ (r : Int) < FR k + SZ k → TR r = k) && decide (FR (TR r) ≤ (r : Int) ∧ (r : Int) < FR (TR r) + SZ (TR r))) TRok_t hj (show (0 : Int) ≤ 0 ∧ (0 : Int) < ((6 : Nat) : Int) by omega)
  rw [Bool.and_eq_true, decide_eq_true_eq, decide_eq_true_eq] at h1
  rw [show ((j.toNat : Nat) : Int) = j by omega] at h1
  exact h1.2
theorem AT_rot {f g : Int → Int} {k b j : Int} (hk : 0 ≤ k ∧ k ≤ 5) (h : FR k ≤ j ∧ j < FR k + SZ k) : rot k (k * b) f g j = AT f b j := by
  unfold rot AT
  rw [if_pos h, TR_u hk h]
end
section
set_option maxHeartbeats 4000000 in
set_option maxRecDepth 100000 in
theorem c_X1_forgetSteps (l : Launch) (K : KK) (q : Nat → Nat) (S : Nat → Int → Int) : hMV l yX1_forgetSteps wsX1_forgetSteps (rmL 1) K [.ref (q 0)] (wX K q S) (fun w => w = wX K q (sA S 13 (fF (S 13) 91 (-1)))) := by
  refine in_MV (cc := cX1_forgetSteps) (maxL := 1) (rt := none) (lv := [(0, .ref (q 0))]) (by decide) rfl (Nat.le_of_ble_eq_true rfl) rfl ?_
  intro p e s m args below meth c A C
  have hinX1 : ∀ w ∈ wsX10, w ∈ wsX1_forgetSteps := by decide +kernel
  refine g_aload_n (pc := 0) C dX1_forgetSteps_0 rfl rfl ?_
  refine g_get (pc := 1) (ref := "HexRooms") (ci := 1) (N := 11) C 0 rfl rfl hinX1 7 (by decide) (by decide +kernel) rfl rfl dX1_forgetSteps_1 ?_
  refine g_iconst (pc := 4) C dX1_forgetSteps_4 ?_
  refine g_callSV (pc := 5) (As := [.ref (q 13), .int (iI (-1))]) (rest := []) C (c_J7_fill l K (wX K q S) (wX K q (sA S 13 (fF (S 13) 91 (-1)))) 13 (-1) rfl rfl (by decide)) (va_cwS 2 C.hts gX1_forgetSteps_J7_fill_53178 rfl rfl rfl (by decide +kernel) ⟨by decide, by decide⟩) dX1_forgetSteps_5 rfl (Nat.le_of_ble_eq_true rfl) ⟨Nat.zero_le _, Nat.zero_le _⟩ (fun w hp => ?_)
  subst hp
  exact g_return (pc := 8) C rfl dX1_forgetSteps_8 rfl

set_option maxHeartbeats 4000000 in
set_option maxRecDepth 100000 in
theorem c_X1_isTrialAsNow (l : Launch) (K : KK) (q : Nat → Nat) (S : Nat → Int → Int) (hn : 7 ≤ S 0 10 ∧ S 0 10 ≤ 91) (hf : ∀ j, 0 ≤ j → j < S 0 10 → 0 ≤ S 7 j ∧ S 7 j ≤ 2) (hg : ∀ j, 0 ≤ j → j < S 0 10 → 0 ≤ S 10 j ∧ S 10 j ≤ 2) : hMI l yX1_isTrialAsNow wsX1_isTrialAsNow (rmL 0) K [.ref (q 0)] (wX K q S) (fun z w => ((z = 1 ∧ ∀ j, 0 ≤ j → j < S 0 10 → S 10 j = S 7 j) ∨ (z = 0 ∧ ∃ j, 0 ≤ j ∧ j < S 0 10 ∧ ¬ S 10 j = S 7 j)) ∧ w = wX K q S) := by
  refine in_MI (cc := cX1_isTrialAsNow) (maxL := 2) (rt := (some .boolean)) (lv := [(0, .ref (q 0))]) (by decide) rfl (Nat.le_of_ble_eq_true rfl) rfl ?_
  intro p e s m args below meth c A C
  have hinX1 : ∀ w ∈ wsX10, w ∈ wsX1_isTrialAsNow := by decide +kernel
  refine g_iconst (pc := 0) C dX1_isTrialAsNow_0 ?_
  refine g_istore_n (pc := 1) (lv' := [(1, .int (iI 0)), (0, .ref (q 0))]) C dX1_isTrialAsNow_1 rfl (by decide) rfl ?_
  have loop2 : ∀ (fu : Nat) (i : Int), (0 ≤ i ∧ i ≤ S 0 10) → (∀ j, 0 ≤ j → j < i → S 10 j = S 7 j) → S 0 10 - i < (fu : Int) → hG p l e (rmL 0) s m args below meth c 2 K A 0 0 (QI K A below args s (fun z w => ((z = 1 ∧ ∀ j, 0 ≤ j → j < S 0 10 → S 10 j = S 7 j) ∨ (z = 0 ∧ ∃ j, 0 ≤ j ∧ j < S 0 10 ∧ ¬ S 10 j = S 7 j)) ∧ w = wX K q S)) 2 [(1, .int (iI i)), (0, .ref (q 0))] [] (wX K q S) := by
    intro fu
    induction fu with
    | zero =>
      intro i h1 h2 hm
      exact absurd hm (by omega)
    | succ fu ih2 =>
      intro i h1 h2 hm
      refine g_iload_n (pc := 2) C dX1_isTrialAsNow_2 rfl rfl ?_
      refine g_aload_n (pc := 3) C dX1_isTrialAsNow_3 rfl rfl ?_
      refine g_get (pc := 4) (ref := "HexRooms") (ci := 1) (N := 11) C 0 rfl rfl hinX1 10 (by decide) (by decide +kernel) rfl rfl dX1_isTrialAsNow_4 ?_
      refine g_icmp_ge (pc := 7) (tgt := 33) C dX1_isTrialAsNow_7 (by decide) (by omega) (by omega) (fun c1 => ?_) (fun c1 => ?_)
      · refine g_iconst (pc := 33) C dX1_isTrialAsNow_33 ?_
        exact g_zreturn (pc := 34) C rfl (by omega) dX1_isTrialAsNow_34 ⟨Or.inl ⟨rfl, fun j h3 h4 => h2 j h3 (by omega)⟩, rfl⟩
      · refine g_aload_n (pc := 10) C dX1_isTrialAsNow_10 rfl rfl ?_
        refine g_get (pc := 11) (ref := "HexRooms") (ci := 1) (N := 11) C 0 rfl rfl hinX1 4 (by decide) (by decide +kernel) rfl rfl dX1_isTrialAsNow_11 ?_
        refine g_iload_n (pc := 14) C dX1_isTrialAsNow_14 rfl rfl ?_
        refine g_iaload (pc := 15) C 10 rfl (by omega) dX1_isTrialAsNow_15 ?_
        have bd2 := hg i (by omega) (by omega)
        refine g_aload_n (pc := 16) C dX1_isTrialAsNow_16 rfl rfl ?_
        refine g_get (pc := 17) (ref := "HexRooms") (ci := 1) (N := 11) C 0 rfl rfl hinX1 1 (by decide) (by decide +kernel) rfl rfl dX1_isTrialAsNow_17 ?_
        refine g_iload_n (pc := 20) C dX1_isTrialAsNow_20 rfl rfl ?_
        refine g_iaload (pc := 21) C 7 rfl (by omega) dX1_isTrialAsNow_21 ?_
        have bd3 := hf i (by omega) (by omega)
        refine g_icmp_eq (pc := 22) (tgt := 27) C dX1_isTrialAsNow_22 (by decide) (by omega) (by omega) (fun c4 => ?_) (fun c4 => ?_)
        · refine g_iinc (pc := 27) (lv' := [(1, .int (iI (i + 1))), (0, .ref (q 0))]) C dX1_isTrialAsNow_27 rfl (by decide) rfl ?_
          refine g_goto (pc := 30) (tgt := 2) C dX1_isTrialAsNow_30 (by decide) ?_
          exact ih2 (i + 1) (by omega) (fun j h3 h4 => by
            by_cases e : j = i
            · rw [e]; omega
            · exact h2 j h3 (by omega)) (by omega)
        · refine g_iconst (pc := 25) C dX1_isTrialAsNow_25 ?_
          exact g_zreturn (pc := 26) C rfl (by omega) dX1_isTrialAsNow_26 ⟨Or.inr ⟨rfl, i, h1.1, by omega, by omega⟩, rfl⟩
  exact loop2 (92) 0 (by omega) (fun j h0 h1 => by omega) (by omega)

set_option maxHeartbeats 4000000 in
set_option maxRecDepth 100000 in
theorem c_X1_turnRingInto (l : Launch) (K : KK) (q : Nat → Nat) (S : Nat → Int → Int) (k b : Int) (hk : 0 ≤ k ∧ k ≤ 5) (hb : 0 ≤ b ∧ b < 1000) : hMV l yX1_turnRingInto wsX1_turnRingInto (rmL 1) K [.ref (q 0), .int (iI k), .int (iI b), .ref (q 10)] (wX K q S) (fun w => w = wX K q (sA S 10 (rot k b (S 7) (S 10)))) := by
  have hfs := FR_SZ hk
  refine in_MV (cc := cX1_turnRingInto) (maxL := 7) (rt := none) (lv := [(0, .ref (q 0)), (1, .int (iI k)), (2, .int (iI b)), (3, .ref (q 10))]) (by decide) rfl (Nat.le_of_ble_eq_true rfl) rfl ?_
  intro p e s m args below meth c A C
  have hinX1 : ∀ w ∈ wsX10, w ∈ wsX1_turnRingInto := by decide +kernel
  refine g_iload_n (pc := 0) C dX1_turnRingInto_0 rfl rfl ?_
  refine g_callSI (pc := 1) (As := [.int (iI k)]) (rest := []) C (c_X0_firstRoomOf l K _ k (by omega)) (va_cwS 1 C.hts gX1_turnRingInto_X0_firstRoomOf rfl rfl rfl (by decide +kernel) ⟨by decide, by decide⟩) dX1_turnRingInto_1 rfl (Nat.le_of_ble_eq_true rfl) ⟨Nat.zero_le _, Nat.zero_le _⟩ (fun z w hp => ?_)
  obtain ⟨rfl, rfl⟩ := hp
  refine g_istore (pc := 4) (lv' := [(4, .int (iI (FR k))), (0, .ref (q 0)), (1, .int (iI k)), (2, .int (iI b)), (3, .ref (q 10))]) C dX1_turnRingInto_4 (by decide) rfl ?_
  refine g_iload_n (pc := 6) C dX1_turnRingInto_6 rfl rfl ?_
  refine g_callSI (pc := 7) (As := [.int (iI k)]) (rest := []) C (c_X0_sizeOf l K _ k (by omega)) (va_cwS 1 C.hts gX1_turnRingInto_X0_sizeOf rfl rfl rfl (by decide +kernel) ⟨by decide, by decide⟩) dX1_turnRingInto_7 rfl (Nat.le_of_ble_eq_true rfl) ⟨Nat.zero_le _, Nat.zero_le _⟩ (fun z w hp => ?_)
  obtain ⟨rfl, rfl⟩ := hp
  refine g_istore (pc := 10) (lv' := [(5, .int (iI (SZ k))), (4, .int (iI (FR k))), (0, .ref (q 0)), (1, .int (iI k)), (2, .int (iI b)), (3, .ref (q 10))]) C dX1_turnRingInto_10 (by decide) rfl ?_
  refine g_iconst (pc := 12) C dX1_turnRingInto_12 ?_
  refine g_istore (pc := 13) (lv' := [(6, .int (iI 0)), (5, .int (iI (SZ k))), (4, .int (iI (FR k))), (0, .ref (q 0)), (1, .int (iI k)), (2, .int (iI b)), (3, .ref (q 10))]) C dX1_turnRingInto_13 (by decide) rfl ?_
  have loop15 : ∀ (fu : Nat) (i : Int), (0 ≤ i ∧ i ≤ SZ k) → SZ k - i < (fu : Int) → hG p l e (rmL 1) s m args below meth c 7 K A 0 0 (QV K A below args s (fun w => w = wX K q (sA S 10 (rot k b (S 7) (S 10))))) 15 [(6, .int (iI i)), (5, .int (iI (SZ k))), (4, .int (iI (FR k))), (0, .ref (q 0)), (1, .int (iI k)), (2, .int (iI b)), (3, .ref (q 10))] [] (wX K q (sA S 10 (rotP k b (S 7) (S 10) i))) := by
    intro fu
    induction fu with
    | zero =>
      intro i h1 hm
      exact absurd hm (by omega)
    | succ fu ih15 =>
      intro i h1 hm
      refine g_iload (pc := 15) C dX1_turnRingInto_15 rfl ?_
      refine g_iload (pc := 17) C dX1_turnRingInto_17 rfl ?_
      refine g_icmp_ge (pc := 19) (tgt := 50) C dX1_turnRingInto_19 (by decide) (by omega) (by omega) (fun c1 => ?_) (fun c1 => ?_)
      · exact g_return (pc := 50) C rfl dX1_turnRingInto_50 (by rw [show i = SZ k by omega, rotP_n _ _ _ _ hk])
      · refine g_aload_n (pc := 22) C dX1_turnRingInto_22 rfl rfl ?_
        refine g_iload (pc := 23) C dX1_turnRingInto_23 rfl ?_
        refine g_iload (pc := 25) C dX1_turnRingInto_25 rfl ?_
        refine g_iload_n (pc := 27) C dX1_turnRingInto_27 rfl rfl ?_
        refine g_iadd (pc := 28) C dX1_turnRingInto_28 ?_
        refine g_iload (pc := 29) C dX1_turnRingInto_29 rfl ?_
        have hm := rot_m (b := b) hk (i + b)
        refine g_irem (pc := 31) C dX1_turnRingInto_31 (by omega) (by omega) ?_
        refine g_iadd (pc := 32) C dX1_turnRingInto_32 ?_
        refine g_aload_n (pc := 33) C dX1_turnRingInto_33 rfl rfl ?_
        refine g_get (pc := 34) (ref := "HexRooms") (ci := 1) (N := 11) C 0 rfl rfl hinX1 1 (by decide) (by decide +kernel) rfl rfl dX1_turnRingInto_34 ?_
        refine g_iload (pc := 37) C dX1_turnRingInto_37 rfl ?_
        refine g_iload (pc := 39) C dX1_turnRingInto_39 rfl ?_
        refine g_iadd (pc := 41) C dX1_turnRingInto_41 ?_
        refine g_iaload (pc := 42) C 7 rfl (by omega) dX1_turnRingInto_42 ?_
        refine g_iastore (pc := 43) (ws' := (wX K q (sA S 10 (fU (rotP k b (S 7) (S 10) i) ((FR k) + ((i + b) % (SZ k))) ((S 7) ((FR k) + i)))))) C 10 rfl (by omega) dX1_turnRingInto_43 rfl ?_
        rw [rotP_s (S 7) (S 10) hk (by omega)]
        refine g_iinc (pc := 44) (lv' := [(6, .int (iI (i + 1))), (5, .int (iI (SZ k))), (4, .int (iI (FR k))), (0, .ref (q 0)), (1, .int (iI k)), (2, .int (iI b)), (3, .ref (q 10))]) C dX1_turnRingInto_44 rfl (by decide) rfl ?_
        refine g_goto (pc := 47) (tgt := 15) C dX1_turnRingInto_47 (by decide) ?_
        exact ih15 (i + 1) (by omega) (by omega)
  have h0 := loop15 (31) 0 (by omega) (by omega)
  rw [rotP_0 k b (S 7) (S 10) hk, sA_self] at h0
  exact h0
end
