section
-- ===== PART A: goes FIRST, ahead of the names: the tables' words, and 'selects' of the private methods out of them =====
/-- a private method of a class that the tables say can be made, by its rows of tables_1 -/
def lw_okq (q : MethodName × Nat) : Prop := (q.1.cls ≠ "java/lang/invoke/MethodHandle" ∧ q.1.cls ≠ "java/lang/invoke/VarHandle") ∧ Cond.instantiable q.1.cls q.2 ∈ tables_1 ∧ Cond.privateMethod q.1 ∈ tables_1 ∧ Cond.instanceMethod q.1 ∈ tables_1
theorem lw_p0 : lw_okq (⟨"CurveTies", "forgetAll", "()V"⟩, 12) := ⟨⟨by decide +kernel, by decide +kernel⟩, List.mem_of_getElem? (i := 9) (by decide +kernel), List.mem_of_getElem? (i := 58) (by decide +kernel), List.mem_of_getElem? (i := 59) (by decide +kernel)⟩
theorem lw_p1 : lw_okq (⟨"CurveTies", "isLine", "(I)Z"⟩, 12) := ⟨⟨by decide +kernel, by decide +kernel⟩, List.mem_of_getElem? (i := 9) (by decide +kernel), List.mem_of_getElem? (i := 110) (by decide +kernel), List.mem_of_getElem? (i := 111) (by decide +kernel)⟩
theorem lw_p2 : lw_okq (⟨"CurveTies", "isBarPlace", "(III)Z"⟩, 12) := ⟨⟨by decide +kernel, by decide +kernel⟩, List.mem_of_getElem? (i := 9) (by decide +kernel), List.mem_of_getElem? (i := 147) (by decide +kernel), List.mem_of_getElem? (i := 148) (by decide +kernel)⟩
theorem lw_p3 : lw_okq (⟨"CurveTies", "addCurve", "(IIZ)I"⟩, 12) := ⟨⟨by decide +kernel, by decide +kernel⟩, List.mem_of_getElem? (i := 9) (by decide +kernel), List.mem_of_getElem? (i := 179) (by decide +kernel), List.mem_of_getElem? (i := 180) (by decide +kernel)⟩
theorem lw_p4 : lw_okq (⟨"CurveTies", "isNote", "(I)Z"⟩, 12) := ⟨⟨by decide +kernel, by decide +kernel⟩, List.mem_of_getElem? (i := 9) (by decide +kernel), List.mem_of_getElem? (i := 183) (by decide +kernel), List.mem_of_getElem? (i := 184) (by decide +kernel)⟩
theorem lw_p5 : lw_okq (⟨"CurveTies", "canBeJoined", "(LCurveTies$Note;LCurveTies$Note;)Z"⟩, 12) := ⟨⟨by decide +kernel, by decide +kernel⟩, List.mem_of_getElem? (i := 9) (by decide +kernel), List.mem_of_getElem? (i := 187) (by decide +kernel), List.mem_of_getElem? (i := 188) (by decide +kernel)⟩
theorem lw_p6 : lw_okq (⟨"CurveTies", "tieSide", "(LCurveTies$Note;)I"⟩, 12) := ⟨⟨by decide +kernel, by decide +kernel⟩, List.mem_of_getElem? (i := 9) (by decide +kernel), List.mem_of_getElem? (i := 195) (by decide +kernel), List.mem_of_getElem? (i := 196) (by decide +kernel)⟩
theorem lw_p7 : lw_okq (⟨"CurveTies", "slurSide", "(LCurveTies$Note;LCurveTies$Note;)I"⟩, 12) := ⟨⟨by decide +kernel, by decide +kernel⟩, List.mem_of_getElem? (i := 9) (by decide +kernel), List.mem_of_getElem? (i := 207) (by decide +kernel), List.mem_of_getElem? (i := 208) (by decide +kernel)⟩
theorem lw_p8 : lw_okq (⟨"CurveTies", "addParts", "(LCurveTies$Curve;)V"⟩, 12) := ⟨⟨by decide +kernel, by decide +kernel⟩, List.mem_of_getElem? (i := 9) (by decide +kernel), List.mem_of_getElem? (i := 243) (by decide +kernel), List.mem_of_getElem? (i := 244) (by decide +kernel)⟩
theorem lw_p9 : lw_okq (⟨"CurveTies", "addPart", "(LCurveTies$Part;)V"⟩, 12) := ⟨⟨by decide +kernel, by decide +kernel⟩, List.mem_of_getElem? (i := 9) (by decide +kernel), List.mem_of_getElem? (i := 306) (by decide +kernel), List.mem_of_getElem? (i := 307) (by decide +kernel)⟩
theorem lw_p10 : lw_okq (⟨"CurveTies", "choose", "(LCurveTies$Part;)V"⟩, 12) := ⟨⟨by decide +kernel, by decide +kernel⟩, List.mem_of_getElem? (i := 9) (by decide +kernel), List.mem_of_getElem? (i := 310) (by decide +kernel), List.mem_of_getElem? (i := 311) (by decide +kernel)⟩
theorem lw_p11 : lw_okq (⟨"CurveTies", "barsMet", "(I)I"⟩, 12) := ⟨⟨by decide +kernel, by decide +kernel⟩, List.mem_of_getElem? (i := 9) (by decide +kernel), List.mem_of_getElem? (i := 328) (by decide +kernel), List.mem_of_getElem? (i := 329) (by decide +kernel)⟩
theorem lw_p12 : lw_okq (⟨"CurveTies$Figure", "hasEdgeBefore", "(LCurveTies$Figure;)Z"⟩, 7) := ⟨⟨by decide +kernel, by decide +kernel⟩, List.mem_of_getElem? (i := 28) (by decide +kernel), List.mem_of_getElem? (i := 336) (by decide +kernel), List.mem_of_getElem? (i := 337) (by decide +kernel)⟩
theorem lw_p13 : lw_okq (⟨"CurveTies$Figure", "separates", "(IILCurveTies$Figure;)Z"⟩, 7) := ⟨⟨by decide +kernel, by decide +kernel⟩, List.mem_of_getElem? (i := 28) (by decide +kernel), List.mem_of_getElem? (i := 340) (by decide +kernel), List.mem_of_getElem? (i := 341) (by decide +kernel)⟩
theorem lw_p14 : lw_okq (⟨"CurveTies", "hullsMet", "(LCurveTies$Part;I)I"⟩, 12) := ⟨⟨by decide +kernel, by decide +kernel⟩, List.mem_of_getElem? (i := 9) (by decide +kernel), List.mem_of_getElem? (i := 344) (by decide +kernel), List.mem_of_getElem? (i := 345) (by decide +kernel)⟩
theorem lw_p15 : lw_okq (⟨"CurveTies", "isCurve", "(I)Z"⟩, 12) := ⟨⟨by decide +kernel, by decide +kernel⟩, List.mem_of_getElem? (i := 9) (by decide +kernel), List.mem_of_getElem? (i := 364) (by decide +kernel), List.mem_of_getElem? (i := 365) (by decide +kernel)⟩
def lw_privs_1 : List (MethodName × Nat) := [(⟨"CurveTies", "forgetAll", "()V"⟩, 12), (⟨"CurveTies", "isLine", "(I)Z"⟩, 12), (⟨"CurveTies", "isBarPlace", "(III)Z"⟩, 12), (⟨"CurveTies", "addCurve", "(IIZ)I"⟩, 12), (⟨"CurveTies", "isNote", "(I)Z"⟩, 12), (⟨"CurveTies", "canBeJoined", "(LCurveTies$Note;LCurveTies$Note;)Z"⟩, 12), (⟨"CurveTies", "tieSide", "(LCurveTies$Note;)I"⟩, 12), (⟨"CurveTies", "slurSide", "(LCurveTies$Note;LCurveTies$Note;)I"⟩, 12), (⟨"CurveTies", "addParts", "(LCurveTies$Curve;)V"⟩, 12), (⟨"CurveTies", "addPart", "(LCurveTies$Part;)V"⟩, 12), (⟨"CurveTies", "choose", "(LCurveTies$Part;)V"⟩, 12), (⟨"CurveTies", "barsMet", "(I)I"⟩, 12), (⟨"CurveTies$Figure", "hasEdgeBefore", "(LCurveTies$Figure;)Z"⟩, 7), (⟨"CurveTies$Figure", "separates", "(IILCurveTies$Figure;)Z"⟩, 7), (⟨"CurveTies", "hullsMet", "(LCurveTies$Part;I)I"⟩, 12), (⟨"CurveTies", "isCurve", "(I)Z"⟩, 12)]
theorem lw_r1 : ∀ q ∈ lw_privs_1, lw_okq q := List.forall_mem_cons.mpr ⟨lw_p0, List.forall_mem_cons.mpr ⟨lw_p1, List.forall_mem_cons.mpr ⟨lw_p2, List.forall_mem_cons.mpr ⟨lw_p3, List.forall_mem_cons.mpr ⟨lw_p4, List.forall_mem_cons.mpr ⟨lw_p5, List.forall_mem_cons.mpr ⟨lw_p6, List.forall_mem_cons.mpr ⟨lw_p7, List.forall_mem_cons.mpr ⟨lw_p8, List.forall_mem_cons.mpr ⟨lw_p9, List.forall_mem_cons.mpr ⟨lw_p10, List.forall_mem_cons.mpr ⟨lw_p11, List.forall_mem_cons.mpr ⟨lw_p12, List.forall_mem_cons.mpr ⟨lw_p13, List.forall_mem_cons.mpr ⟨lw_p14, List.forall_mem_cons.mpr ⟨lw_p15, fun _ h => absurd h List.not_mem_nil⟩⟩⟩⟩⟩⟩⟩⟩⟩⟩⟩⟩⟩⟩⟩⟩
theorem lw_p16 : lw_okq (⟨"CurveTies", "findPart", "(II)LCurveTies$Part;"⟩, 12) := ⟨⟨by decide +kernel, by decide +kernel⟩, List.mem_of_getElem? (i := 9) (by decide +kernel), List.mem_of_getElem? (i := 372) (by decide +kernel), List.mem_of_getElem? (i := 373) (by decide +kernel)⟩
theorem lw_p17 : lw_okq (⟨"CurveTies", "collidingParts", "()I"⟩, 12) := ⟨⟨by decide +kernel, by decide +kernel⟩, List.mem_of_getElem? (i := 9) (by decide +kernel), List.mem_of_getElem? (i := 404) (by decide +kernel), List.mem_of_getElem? (i := 405) (by decide +kernel)⟩
theorem lw_p18 : lw_okq (⟨"CurveTiesModel", "isLine", "(I)Z"⟩, 36) := ⟨⟨by decide +kernel, by decide +kernel⟩, List.mem_of_getElem? (i := 412) (by decide +kernel), List.mem_of_getElem? (i := 540) (by decide +kernel), List.mem_of_getElem? (i := 541) (by decide +kernel)⟩
theorem lw_p19 : lw_okq (⟨"CurveTiesModel", "comes", "(IIZ)I"⟩, 36) := ⟨⟨by decide +kernel, by decide +kernel⟩, List.mem_of_getElem? (i := 412) (by decide +kernel), List.mem_of_getElem? (i := 556) (by decide +kernel), List.mem_of_getElem? (i := 557) (by decide +kernel)⟩
theorem lw_p20 : lw_okq (⟨"CurveTiesModel", "isNote", "(I)Z"⟩, 36) := ⟨⟨by decide +kernel, by decide +kernel⟩, List.mem_of_getElem? (i := 412) (by decide +kernel), List.mem_of_getElem? (i := 560) (by decide +kernel), List.mem_of_getElem? (i := 561) (by decide +kernel)⟩
theorem lw_p21 : lw_okq (⟨"CurveTiesModel", "mayBe", "(II)Z"⟩, 36) := ⟨⟨by decide +kernel, by decide +kernel⟩, List.mem_of_getElem? (i := 412) (by decide +kernel), List.mem_of_getElem? (i := 564) (by decide +kernel), List.mem_of_getElem? (i := 565) (by decide +kernel)⟩
theorem lw_p22 : lw_okq (⟨"CurveTiesModel", "isBefore", "(II)Z"⟩, 36) := ⟨⟨by decide +kernel, by decide +kernel⟩, List.mem_of_getElem? (i := 412) (by decide +kernel), List.mem_of_getElem? (i := 568) (by decide +kernel), List.mem_of_getElem? (i := 569) (by decide +kernel)⟩
theorem lw_p23 : lw_okq (⟨"CurveTiesModel", "layOut", "(I)V"⟩, 36) := ⟨⟨by decide +kernel, by decide +kernel⟩, List.mem_of_getElem? (i := 412) (by decide +kernel), List.mem_of_getElem? (i := 572) (by decide +kernel), List.mem_of_getElem? (i := 573) (by decide +kernel)⟩
theorem lw_p24 : lw_okq (⟨"CurveTiesModel", "sideOfTie", "(I)I"⟩, 36) := ⟨⟨by decide +kernel, by decide +kernel⟩, List.mem_of_getElem? (i := 412) (by decide +kernel), List.mem_of_getElem? (i := 576) (by decide +kernel), List.mem_of_getElem? (i := 577) (by decide +kernel)⟩
theorem lw_p25 : lw_okq (⟨"CurveTiesModel", "sideOfSlur", "(II)I"⟩, 36) := ⟨⟨by decide +kernel, by decide +kernel⟩, List.mem_of_getElem? (i := 412) (by decide +kernel), List.mem_of_getElem? (i := 580) (by decide +kernel), List.mem_of_getElem? (i := 581) (by decide +kernel)⟩
theorem lw_p26 : lw_okq (⟨"CurveTiesModel", "endOf", "(II)I"⟩, 36) := ⟨⟨by decide +kernel, by decide +kernel⟩, List.mem_of_getElem? (i := 412) (by decide +kernel), List.mem_of_getElem? (i := 584) (by decide +kernel), List.mem_of_getElem? (i := 585) (by decide +kernel)⟩
theorem lw_p27 : lw_okq (⟨"CurveTiesModel", "lay", "(IIIIII)V"⟩, 36) := ⟨⟨by decide +kernel, by decide +kernel⟩, List.mem_of_getElem? (i := 412) (by decide +kernel), List.mem_of_getElem? (i := 588) (by decide +kernel), List.mem_of_getElem? (i := 589) (by decide +kernel)⟩
theorem lw_p28 : lw_okq (⟨"CurveTiesModel", "choose", "(II)V"⟩, 36) := ⟨⟨by decide +kernel, by decide +kernel⟩, List.mem_of_getElem? (i := 412) (by decide +kernel), List.mem_of_getElem? (i := 592) (by decide +kernel), List.mem_of_getElem? (i := 593) (by decide +kernel)⟩
theorem lw_p29 : lw_okq (⟨"CurveTiesModel", "candidates", "(I)I"⟩, 36) := ⟨⟨by decide +kernel, by decide +kernel⟩, List.mem_of_getElem? (i := 412) (by decide +kernel), List.mem_of_getElem? (i := 596) (by decide +kernel), List.mem_of_getElem? (i := 597) (by decide +kernel)⟩
theorem lw_p30 : lw_okq (⟨"CurveTiesModel", "bars", "(II)I"⟩, 36) := ⟨⟨by decide +kernel, by decide +kernel⟩, List.mem_of_getElem? (i := 412) (by decide +kernel), List.mem_of_getElem? (i := 603) (by decide +kernel), List.mem_of_getElem? (i := 604) (by decide +kernel)⟩
theorem lw_p31 : lw_okq (⟨"CurveTiesModel", "ask", "(II)V"⟩, 36) := ⟨⟨by decide +kernel, by decide +kernel⟩, List.mem_of_getElem? (i := 412) (by decide +kernel), List.mem_of_getElem? (i := 607) (by decide +kernel), List.mem_of_getElem? (i := 608) (by decide +kernel)⟩
def lw_privs_2 : List (MethodName × Nat) := [(⟨"CurveTies", "findPart", "(II)LCurveTies$Part;"⟩, 12), (⟨"CurveTies", "collidingParts", "()I"⟩, 12), (⟨"CurveTiesModel", "isLine", "(I)Z"⟩, 36), (⟨"CurveTiesModel", "comes", "(IIZ)I"⟩, 36), (⟨"CurveTiesModel", "isNote", "(I)Z"⟩, 36), (⟨"CurveTiesModel", "mayBe", "(II)Z"⟩, 36), (⟨"CurveTiesModel", "isBefore", "(II)Z"⟩, 36), (⟨"CurveTiesModel", "layOut", "(I)V"⟩, 36), (⟨"CurveTiesModel", "sideOfTie", "(I)I"⟩, 36), (⟨"CurveTiesModel", "sideOfSlur", "(II)I"⟩, 36), (⟨"CurveTiesModel", "endOf", "(II)I"⟩, 36), (⟨"CurveTiesModel", "lay", "(IIIIII)V"⟩, 36), (⟨"CurveTiesModel", "choose", "(II)V"⟩, 36), (⟨"CurveTiesModel", "candidates", "(I)I"⟩, 36), (⟨"CurveTiesModel", "bars", "(II)I"⟩, 36), (⟨"CurveTiesModel", "ask", "(II)V"⟩, 36)]
theorem lw_r2 : ∀ q ∈ lw_privs_2, lw_okq q := List.forall_mem_cons.mpr ⟨lw_p16, List.forall_mem_cons.mpr ⟨lw_p17, List.forall_mem_cons.mpr ⟨lw_p18, List.forall_mem_cons.mpr ⟨lw_p19, List.forall_mem_cons.mpr ⟨lw_p20, List.forall_mem_cons.mpr ⟨lw_p21, List.forall_mem_cons.mpr ⟨lw_p22, List.forall_mem_cons.mpr ⟨lw_p23, List.forall_mem_cons.mpr ⟨lw_p24, List.forall_mem_cons.mpr ⟨lw_p25, List.forall_mem_cons.mpr ⟨lw_p26, List.forall_mem_cons.mpr ⟨lw_p27, List.forall_mem_cons.mpr ⟨lw_p28, List.forall_mem_cons.mpr ⟨lw_p29, List.forall_mem_cons.mpr ⟨lw_p30, List.forall_mem_cons.mpr ⟨lw_p31, fun _ h => absurd h List.not_mem_nil⟩⟩⟩⟩⟩⟩⟩⟩⟩⟩⟩⟩⟩⟩⟩⟩
theorem lw_p32 : lw_okq (⟨"CurveTiesModel", "px", "(II)I"⟩, 36) := ⟨⟨by decide +kernel, by decide +kernel⟩, List.mem_of_getElem? (i := 412) (by decide +kernel), List.mem_of_getElem? (i := 611) (by decide +kernel), List.mem_of_getElem? (i := 612) (by decide +kernel)⟩
theorem lw_p33 : lw_okq (⟨"CurveTiesModel", "py", "(III)I"⟩, 36) := ⟨⟨by decide +kernel, by decide +kernel⟩, List.mem_of_getElem? (i := 412) (by decide +kernel), List.mem_of_getElem? (i := 615) (by decide +kernel), List.mem_of_getElem? (i := 616) (by decide +kernel)⟩
theorem lw_p34 : lw_okq (⟨"CurveTiesModel", "arch", "(I)I"⟩, 36) := ⟨⟨by decide +kernel, by decide +kernel⟩, List.mem_of_getElem? (i := 412) (by decide +kernel), List.mem_of_getElem? (i := 619) (by decide +kernel), List.mem_of_getElem? (i := 620) (by decide +kernel)⟩
theorem lw_p35 : lw_okq (⟨"CurveTiesModel", "other", "(IJJ)V"⟩, 36) := ⟨⟨by decide +kernel, by decide +kernel⟩, List.mem_of_getElem? (i := 412) (by decide +kernel), List.mem_of_getElem? (i := 623) (by decide +kernel), List.mem_of_getElem? (i := 624) (by decide +kernel)⟩
theorem lw_p36 : lw_okq (⟨"CurveTiesModel", "meets", "()Z"⟩, 36) := ⟨⟨by decide +kernel, by decide +kernel⟩, List.mem_of_getElem? (i := 412) (by decide +kernel), List.mem_of_getElem? (i := 627) (by decide +kernel), List.mem_of_getElem? (i := 628) (by decide +kernel)⟩
theorem lw_p37 : lw_okq (⟨"CurveTiesModel", "cross", "(IIII)Z"⟩, 36) := ⟨⟨by decide +kernel, by decide +kernel⟩, List.mem_of_getElem? (i := 412) (by decide +kernel), List.mem_of_getElem? (i := 638) (by decide +kernel), List.mem_of_getElem? (i := 639) (by decide +kernel)⟩
theorem lw_p38 : lw_okq (⟨"CurveTiesModel", "hulls", "(II)I"⟩, 36) := ⟨⟨by decide +kernel, by decide +kernel⟩, List.mem_of_getElem? (i := 412) (by decide +kernel), List.mem_of_getElem? (i := 648) (by decide +kernel), List.mem_of_getElem? (i := 649) (by decide +kernel)⟩
theorem lw_p39 : lw_okq (⟨"CurveTiesModel", "isIn", "(II)Z"⟩, 36) := ⟨⟨by decide +kernel, by decide +kernel⟩, List.mem_of_getElem? (i := 412) (by decide +kernel), List.mem_of_getElem? (i := 652) (by decide +kernel), List.mem_of_getElem? (i := 653) (by decide +kernel)⟩
theorem lw_p40 : lw_okq (⟨"CurveTiesModel", "isCurve", "(I)Z"⟩, 36) := ⟨⟨by decide +kernel, by decide +kernel⟩, List.mem_of_getElem? (i := 412) (by decide +kernel), List.mem_of_getElem? (i := 668) (by decide +kernel), List.mem_of_getElem? (i := 669) (by decide +kernel)⟩
theorem lw_p41 : lw_okq (⟨"CurveTiesModel", "isPart", "(II)Z"⟩, 36) := ⟨⟨by decide +kernel, by decide +kernel⟩, List.mem_of_getElem? (i := 412) (by decide +kernel), List.mem_of_getElem? (i := 676) (by decide +kernel), List.mem_of_getElem? (i := 677) (by decide +kernel)⟩
def lw_privs_3 : List (MethodName × Nat) := [(⟨"CurveTiesModel", "px", "(II)I"⟩, 36), (⟨"CurveTiesModel", "py", "(III)I"⟩, 36), (⟨"CurveTiesModel", "arch", "(I)I"⟩, 36), (⟨"CurveTiesModel", "other", "(IJJ)V"⟩, 36), (⟨"CurveTiesModel", "meets", "()Z"⟩, 36), (⟨"CurveTiesModel", "cross", "(IIII)Z"⟩, 36), (⟨"CurveTiesModel", "hulls", "(II)I"⟩, 36), (⟨"CurveTiesModel", "isIn", "(II)Z"⟩, 36), (⟨"CurveTiesModel", "isCurve", "(I)Z"⟩, 36), (⟨"CurveTiesModel", "isPart", "(II)Z"⟩, 36)]
theorem lw_r3 : ∀ q ∈ lw_privs_3, lw_okq q := List.forall_mem_cons.mpr ⟨lw_p32, List.forall_mem_cons.mpr ⟨lw_p33, List.forall_mem_cons.mpr ⟨lw_p34, List.forall_mem_cons.mpr ⟨lw_p35, List.forall_mem_cons.mpr ⟨lw_p36, List.forall_mem_cons.mpr ⟨lw_p37, List.forall_mem_cons.mpr ⟨lw_p38, List.forall_mem_cons.mpr ⟨lw_p39, List.forall_mem_cons.mpr ⟨lw_p40, List.forall_mem_cons.mpr ⟨lw_p41, fun _ h => absurd h List.not_mem_nil⟩⟩⟩⟩⟩⟩⟩⟩⟩⟩
def lw_privs : List (MethodName × Nat) := lw_privs_1 ++ (lw_privs_2 ++ (lw_privs_3))
def lw_tbl : List Cond := k2_sels lw_privs ++ tables_1
theorem lw_privs_ok : ∀ q ∈ lw_privs, lw_okq q := by
  show ∀ q ∈ lw_privs_1 ++ (lw_privs_2 ++ (lw_privs_3)), lw_okq q
  exact List.forall_mem_append.mpr ⟨lw_r1, List.forall_mem_append.mpr ⟨lw_r2, lw_r3⟩⟩
end
section
/-! ===== BEGIN words of one list among another's, by their places ===== -/
theorem goodIn_r {big : List Cond} (ws : List Cond) (ps : List Nat) (hp : ws = ps.filterMap (fun i => big[i]?)) (h : ws.all goodWord = true) : GoodIn big ws := by
  intro w hw
  have h1 := List.all_eq_true.mp h w hw
  rw [hp] at hw
  obtain ⟨i, -, hi⟩ := List.mem_filterMap.mp hw
  have hm : w ∈ big := by first | exact List.mem_of_getElem? hi | exact List.getElem?_mem hi
  exact ⟨hm, good_of_word h1⟩
theorem goodIn_app {big a b : List Cond} (ha : GoodIn big a) (hb : GoodIn big b) : GoodIn big (a ++ b) := fun w h => (List.mem_append.mp h).elim (ha w) (hb w)
theorem goodIn_ca {big a b : List Cond} {c : Cond} (ha : GoodIn big (c :: a)) (hb : GoodIn big b) : GoodIn big (c :: (a ++ b)) := fun w h => (List.mem_cons.mp h).elim (fun e => ha w (List.mem_cons.mpr (Or.inl e))) (fun h => (List.mem_append.mp h).elim (fun h => ha w (List.mem_cons.mpr (Or.inr h))) (hb w))
theorem goodIn_sub {big ws : List Cond} (hm : ∀ w ∈ ws, w ∈ big) (h : ws.all goodWord = true) : GoodIn big ws := fun w hw => ⟨hm w hw, good_of_word (List.all_eq_true.mp h w hw)⟩
/-! ===== END ===== -/

/-! ===== BEGIN printed: names, fields, word lists, decode rows ===== -/
def RX0 : String := "CurveTies$Curve"
def TX0 : u_T := fun k => match k with
  | 0 => ("CurveTies$Curve", "number", "I", true)
  | 1 => ("CurveTies$Curve", "first", "LCurveTies$Note;", true)
  | 2 => ("CurveTies$Curve", "second", "LCurveTies$Note;", true)
  | 3 => ("CurveTies$Curve", "isTie", "Z", true)
  | 4 => ("CurveTies$Curve", "side", "I", true)
  | _ => ("CurveTies$Curve", "firstPart", "I", true)
def tyX0 : Nat → FieldType := fun k => match k with
  | 0 => .int
  | 1 => .object "CurveTies$Note"
  | 2 => .object "CurveTies$Note"
  | 3 => .boolean
  | 4 => .int
  | _ => .int
abbrev wsX00 : List Cond := u_ws RX0 TX0 6
theorem nmX0 : ∀ a, a < 6 → ∀ b, b < 6 → a ≠ b → (TX0 a).2.1 ≠ (TX0 b).2.1 := by decide +kernel
theorem tyX0_ok : ∀ k, k < 6 → parseFieldDescriptor (TX0 k).2.2.1 = some (tyX0 k) := by decide +kernel
abbrev cX0_init : ByteArray := prog_2_method_1_code
def yX0_init : MethodName := ⟨RX0, "<init>", "(ILCurveTies$Note;LCurveTies$Note;ZII)V"⟩
abbrev cX0_partCount : ByteArray := prog_2_method_2_code
def yX0_partCount : MethodName := ⟨RX0, "partCount", "()I"⟩
abbrev cX0_firstX : ByteArray := prog_2_method_3_code
def yX0_firstX : MethodName := ⟨RX0, "firstX", "()I"⟩
abbrev cX0_secondX : ByteArray := prog_2_method_4_code
def yX0_secondX : MethodName := ⟨RX0, "secondX", "()I"⟩
abbrev cX0_endHeight : ByteArray := prog_2_method_5_code
def yX0_endHeight : MethodName := ⟨RX0, "endHeight", "(LCurveTies$Note;)I"⟩
def RX1 : String := "CurveTies$Figure"
def TX1 : u_T := fun k => match k with
  | 0 => ("CurveTies$Figure", "line", "I", false)
  | 1 => ("CurveTies$Figure", "xs", "[I", true)
  | 2 => ("CurveTies$Figure", "ys", "[I", true)
  | 3 => ("CurveTies$Figure", "left", "I", false)
  | 4 => ("CurveTies$Figure", "right", "I", false)
  | 5 => ("CurveTies$Figure", "bottom", "I", false)
  | _ => ("CurveTies$Figure", "top", "I", false)
def tyX1 : Nat → FieldType := fun k => match k with
  | 0 => .int
  | 1 => .array .int
  | 2 => .array .int
  | 3 => .int
  | 4 => .int
  | 5 => .int
  | _ => .int
abbrev wsX10 : List Cond := u_ws RX1 TX1 7
theorem nmX1 : ∀ a, a < 7 → ∀ b, b < 7 → a ≠ b → (TX1 a).2.1 ≠ (TX1 b).2.1 := by decide +kernel
theorem tyX1_ok : ∀ k, k < 7 → parseFieldDescriptor (TX1 k).2.2.1 = some (tyX1 k) := by decide +kernel
abbrev cX1_init : ByteArray := prog_3_method_1_code
def yX1_init : MethodName := ⟨RX1, "<init>", "(II)V"⟩
abbrev cX1_hullOn : ByteArray := prog_3_method_2_code
def yX1_hullOn : MethodName := ⟨RX1, "hullOn", "(I)LCurveTies$Figure;"⟩
abbrev cX1_rectangle : ByteArray := prog_3_method_3_code
def yX1_rectangle : MethodName := ⟨RX1, "rectangle", "(IIIII)LCurveTies$Figure;"⟩
abbrev cX1_triangle : ByteArray := prog_3_method_4_code
def yX1_triangle : MethodName := ⟨RX1, "triangle", "(IIIII)LCurveTies$Figure;"⟩
abbrev cX1_setCorner : ByteArray := prog_3_method_5_code
def yX1_setCorner : MethodName := ⟨RX1, "setCorner", "(III)V"⟩
abbrev cX1_setFrame : ByteArray := prog_3_method_6_code
def yX1_setFrame : MethodName := ⟨RX1, "setFrame", "()V"⟩
abbrev cX1_row : ByteArray := prog_3_method_7_code
def yX1_row : MethodName := ⟨RX1, "row", "(I)[I"⟩
abbrev cX1_meets : ByteArray := prog_3_method_8_code
def yX1_meets : MethodName := ⟨RX1, "meets", "(LCurveTies$Figure;)Z"⟩
abbrev cX1_hasEdgeBefore : ByteArray := prog_3_method_9_code
def yX1_hasEdgeBefore : MethodName := ⟨RX1, "hasEdgeBefore", "(LCurveTies$Figure;)Z"⟩
abbrev cX1_separates : ByteArray := prog_3_method_10_code
def yX1_separates : MethodName := ⟨RX1, "separates", "(IILCurveTies$Figure;)Z"⟩
def RX2 : String := "CurveTies$Note"
def TX2 : u_T := fun k => match k with
  | 0 => ("CurveTies$Note", "number", "I", true)
  | 1 => ("CurveTies$Note", "line", "I", true)
  | 2 => ("CurveTies$Note", "x", "I", true)
  | 3 => ("CurveTies$Note", "y", "I", true)
  | _ => ("CurveTies$Note", "up", "Z", true)
def tyX2 : Nat → FieldType := fun k => match k with
  | 0 => .int
  | 1 => .int
  | 2 => .int
  | 3 => .int
  | _ => .boolean
abbrev wsX20 : List Cond := u_ws RX2 TX2 5
theorem nmX2 : ∀ a, a < 5 → ∀ b, b < 5 → a ≠ b → (TX2 a).2.1 ≠ (TX2 b).2.1 := by decide +kernel
theorem tyX2_ok : ∀ k, k < 5 → parseFieldDescriptor (TX2 k).2.2.1 = some (tyX2 k) := by decide +kernel
abbrev cX2_init : ByteArray := prog_4_method_1_code
def yX2_init : MethodName := ⟨RX2, "<init>", "(IIIIZ)V"⟩
abbrev cX2_isBefore : ByteArray := prog_4_method_2_code
def yX2_isBefore : MethodName := ⟨RX2, "isBefore", "(LCurveTies$Note;)Z"⟩
abbrev cX2_isInChordOf : ByteArray := prog_4_method_3_code
def yX2_isInChordOf : MethodName := ⟨RX2, "isInChordOf", "(LCurveTies$Note;)Z"⟩
abbrev cX2_stemSide : ByteArray := prog_4_method_4_code
def yX2_stemSide : MethodName := ⟨RX2, "stemSide", "()I"⟩
def RX3 : String := "CurveTies$Part"
def TX3 : u_T := fun k => match k with
  | 0 => ("CurveTies$Part", "curve", "LCurveTies$Curve;", true)
  | 1 => ("CurveTies$Part", "line", "I", true)
  | 2 => ("CurveTies$Part", "fromX", "I", true)
  | 3 => ("CurveTies$Part", "fromY", "I", true)
  | 4 => ("CurveTies$Part", "toX", "I", true)
  | 5 => ("CurveTies$Part", "toY", "I", true)
  | 6 => ("CurveTies$Part", "arch", "I", true)
  | 7 => ("CurveTies$Part", "hull", "LCurveTies$Figure;", true)
  | 8 => ("CurveTies$Part", "chosen", "I", false)
  | _ => ("CurveTies$Part", "collides", "Z", false)
def tyX3 : Nat → FieldType := fun k => match k with
  | 0 => .object "CurveTies$Curve"
  | 1 => .int
  | 2 => .int
  | 3 => .int
  | 4 => .int
  | 5 => .int
  | 6 => .int
  | 7 => .object "CurveTies$Figure"
  | 8 => .int
  | _ => .boolean
abbrev wsX30 : List Cond := u_ws RX3 TX3 10
theorem nmX3 : ∀ a, a < 10 → ∀ b, b < 10 → a ≠ b → (TX3 a).2.1 ≠ (TX3 b).2.1 := by decide +kernel
theorem tyX3_ok : ∀ k, k < 10 → parseFieldDescriptor (TX3 k).2.2.1 = some (tyX3 k) := by decide +kernel
abbrev cX3_init : ByteArray := prog_5_method_1_code
def yX3_init : MethodName := ⟨RX3, "<init>", "(LCurveTies$Curve;IIIII)V"⟩
abbrev cX3_candidateCount : ByteArray := prog_5_method_2_code
def yX3_candidateCount : MethodName := ⟨RX3, "candidateCount", "()I"⟩
abbrev cX3_badness : ByteArray := prog_5_method_3_code
def yX3_badness : MethodName := ⟨RX3, "badness", "(I)I"⟩
abbrev cX3_liesWithin : ByteArray := prog_5_method_4_code
def yX3_liesWithin : MethodName := ⟨RX3, "liesWithin", "(LCurveTies$Part;)Z"⟩
abbrev cX3_draw : ByteArray := prog_5_method_5_code
def yX3_draw : MethodName := ⟨RX3, "draw", "(ILCurveTies$Figure;)V"⟩
def RX4 : String := "CurveTies"
def TX4 : u_T := fun k => match k with
  | 0 => ("CurveTies", "widths", "[I", true)
  | 1 => ("CurveTies", "notes", "[LCurveTies$Note;", true)
  | 2 => ("CurveTies", "bars", "[LCurveTies$Figure;", true)
  | 3 => ("CurveTies", "curves", "[LCurveTies$Curve;", true)
  | 4 => ("CurveTies", "parts", "[LCurveTies$Part;", true)
  | 5 => ("CurveTies", "trial", "LCurveTies$Figure;", true)
  | 6 => ("CurveTies", "lineCount", "I", false)
  | 7 => ("CurveTies", "noteCount", "I", false)
  | 8 => ("CurveTies", "markCount", "I", false)
  | 9 => ("CurveTies", "wedgeCount", "I", false)
  | 10 => ("CurveTies", "curveCount", "I", false)
  | _ => ("CurveTies", "partCount", "I", false)
def tyX4 : Nat → FieldType := fun k => match k with
  | 0 => .array .int
  | 1 => .array (.object "CurveTies$Note")
  | 2 => .array (.object "CurveTies$Figure")
  | 3 => .array (.object "CurveTies$Curve")
  | 4 => .array (.object "CurveTies$Part")
  | 5 => .object "CurveTies$Figure"
  | 6 => .int
  | 7 => .int
  | 8 => .int
  | 9 => .int
  | 10 => .int
  | _ => .int
abbrev wsX40 : List Cond := u_ws RX4 TX4 12
theorem nmX4 : ∀ a, a < 12 → ∀ b, b < 12 → a ≠ b → (TX4 a).2.1 ≠ (TX4 b).2.1 := by decide +kernel
theorem tyX4_ok : ∀ k, k < 12 → parseFieldDescriptor (TX4 k).2.2.1 = some (tyX4 k) := by decide +kernel
abbrev cX4_init : ByteArray := prog_1_method_1_code
def yX4_init : MethodName := ⟨RX4, "<init>", "()V"⟩
abbrev cX4_line : ByteArray := prog_1_method_2_code
def yX4_line : MethodName := ⟨RX4, "line", "(I)I"⟩
abbrev cX4_note : ByteArray := prog_1_method_3_code
def yX4_note : MethodName := ⟨RX4, "note", "(IIIZ)I"⟩
abbrev cX4_mark : ByteArray := prog_1_method_4_code
def yX4_mark : MethodName := ⟨RX4, "mark", "(IIIII)I"⟩
abbrev cX4_wedge : ByteArray := prog_1_method_5_code
def yX4_wedge : MethodName := ⟨RX4, "wedge", "(IIIII)I"⟩
abbrev cX4_tie : ByteArray := prog_1_method_6_code
def yX4_tie : MethodName := ⟨RX4, "tie", "(II)I"⟩
abbrev cX4_slur : ByteArray := prog_1_method_7_code
def yX4_slur : MethodName := ⟨RX4, "slur", "(II)I"⟩
abbrev cX4_again : ByteArray := prog_1_method_8_code
def yX4_again : MethodName := ⟨RX4, "again", "()I"⟩
abbrev cX4_curve : ByteArray := prog_1_method_9_code
def yX4_curve : MethodName := ⟨RX4, "curve", "(II)I"⟩
abbrev cX4_part : ByteArray := prog_1_method_10_code
def yX4_part : MethodName := ⟨RX4, "part", "(III)I"⟩
abbrev cX4_point : ByteArray := prog_1_method_11_code
def yX4_point : MethodName := ⟨RX4, "point", "(IIII)I"⟩
abbrev cX4_candidate : ByteArray := prog_1_method_12_code
def yX4_candidate : MethodName := ⟨RX4, "candidate", "(IIII)I"⟩
abbrev cX4_along : ByteArray := prog_1_method_13_code
def yX4_along : MethodName := ⟨RX4, "along", "(IIII)J"⟩
abbrev cX4_within : ByteArray := prog_1_method_14_code
def yX4_within : MethodName := ⟨RX4, "within", "(IIII)I"⟩
abbrev cX4_count : ByteArray := prog_1_method_15_code
def yX4_count : MethodName := ⟨RX4, "count", "(I)I"⟩
abbrev cX4_clear : ByteArray := prog_1_method_16_code
def yX4_clear : MethodName := ⟨RX4, "clear", "()I"⟩
abbrev cX4_forgetAll : ByteArray := prog_1_method_17_code
def yX4_forgetAll : MethodName := ⟨RX4, "forgetAll", "()V"⟩
abbrev cX4_isFrom : ByteArray := prog_1_method_18_code
def yX4_isFrom : MethodName := ⟨RX4, "isFrom", "(III)Z"⟩
abbrev cX4_isLine : ByteArray := prog_1_method_19_code
def yX4_isLine : MethodName := ⟨RX4, "isLine", "(I)Z"⟩
abbrev cX4_isNote : ByteArray := prog_1_method_20_code
def yX4_isNote : MethodName := ⟨RX4, "isNote", "(I)Z"⟩
abbrev cX4_isCurve : ByteArray := prog_1_method_21_code
def yX4_isCurve : MethodName := ⟨RX4, "isCurve", "(I)Z"⟩
abbrev cX4_isBarPlace : ByteArray := prog_1_method_22_code
def yX4_isBarPlace : MethodName := ⟨RX4, "isBarPlace", "(III)Z"⟩
abbrev cX4_findPart : ByteArray := prog_1_method_23_code
def yX4_findPart : MethodName := ⟨RX4, "findPart", "(II)LCurveTies$Part;"⟩
abbrev cX4_addCurve : ByteArray := prog_1_method_24_code
def yX4_addCurve : MethodName := ⟨RX4, "addCurve", "(IIZ)I"⟩
abbrev cX4_canBeJoined : ByteArray := prog_1_method_25_code
def yX4_canBeJoined : MethodName := ⟨RX4, "canBeJoined", "(LCurveTies$Note;LCurveTies$Note;)Z"⟩
abbrev cX4_tieSide : ByteArray := prog_1_method_26_code
def yX4_tieSide : MethodName := ⟨RX4, "tieSide", "(LCurveTies$Note;)I"⟩
abbrev cX4_slurSide : ByteArray := prog_1_method_27_code
def yX4_slurSide : MethodName := ⟨RX4, "slurSide", "(LCurveTies$Note;LCurveTies$Note;)I"⟩
abbrev cX4_addParts : ByteArray := prog_1_method_28_code
def yX4_addParts : MethodName := ⟨RX4, "addParts", "(LCurveTies$Curve;)V"⟩
abbrev cX4_addPart : ByteArray := prog_1_method_29_code
def yX4_addPart : MethodName := ⟨RX4, "addPart", "(LCurveTies$Part;)V"⟩
abbrev cX4_choose : ByteArray := prog_1_method_30_code
def yX4_choose : MethodName := ⟨RX4, "choose", "(LCurveTies$Part;)V"⟩
abbrev cX4_barsMet : ByteArray := prog_1_method_31_code
def yX4_barsMet : MethodName := ⟨RX4, "barsMet", "(I)I"⟩
abbrev cX4_hullsMet : ByteArray := prog_1_method_32_code
def yX4_hullsMet : MethodName := ⟨RX4, "hullsMet", "(LCurveTies$Part;I)I"⟩
abbrev cX4_collidingParts : ByteArray := prog_1_method_33_code
def yX4_collidingParts : MethodName := ⟨RX4, "collidingParts", "()I"⟩
def RX5 : String := "CurveTiesModel"
def TX5 : u_T := fun k => match k with
  | 0 => ("CurveTiesModel", "lines", "I", false)
  | 1 => ("CurveTiesModel", "widths", "[I", true)
  | 2 => ("CurveTiesModel", "notes", "I", false)
  | 3 => ("CurveTiesModel", "noteLine", "[I", true)
  | 4 => ("CurveTiesModel", "noteX", "[I", true)
  | 5 => ("CurveTiesModel", "noteY", "[I", true)
  | 6 => ("CurveTiesModel", "noteUp", "[Z", true)
  | 7 => ("CurveTiesModel", "marks", "I", false)
  | 8 => ("CurveTiesModel", "markLine", "[I", true)
  | 9 => ("CurveTiesModel", "markX", "[I", true)
  | 10 => ("CurveTiesModel", "markY", "[I", true)
  | 11 => ("CurveTiesModel", "markW", "[I", true)
  | 12 => ("CurveTiesModel", "markL", "[I", true)
  | 13 => ("CurveTiesModel", "wedges", "I", false)
  | 14 => ("CurveTiesModel", "wedgeLine", "[I", true)
  | 15 => ("CurveTiesModel", "wedgeFrom", "[I", true)
  | 16 => ("CurveTiesModel", "wedgeTo", "[I", true)
  | 17 => ("CurveTiesModel", "wedgeY", "[I", true)
  | 18 => ("CurveTiesModel", "wedgeO", "[I", true)
  | 19 => ("CurveTiesModel", "curves", "I", false)
  | 20 => ("CurveTiesModel", "firsts", "[I", true)
  | 21 => ("CurveTiesModel", "seconds", "[I", true)
  | 22 => ("CurveTiesModel", "ties", "[Z", true)
  | 23 => ("CurveTiesModel", "sides", "[I", true)
  | 24 => ("CurveTiesModel", "partMany", "[I", true)
  | 25 => ("CurveTiesModel", "partLine", "[I", true)
  | 26 => ("CurveTiesModel", "x0", "[I", true)
  | 27 => ("CurveTiesModel", "y0", "[I", true)
  | 28 => ("CurveTiesModel", "x1", "[I", true)
  | 29 => ("CurveTiesModel", "y1", "[I", true)
  | 30 => ("CurveTiesModel", "chosen", "[I", true)
  | 31 => ("CurveTiesModel", "collides", "[I", true)
  | 32 => ("CurveTiesModel", "ax", "[J", true)
  | 33 => ("CurveTiesModel", "ay", "[J", true)
  | 34 => ("CurveTiesModel", "bx", "[J", true)
  | _ => ("CurveTiesModel", "by", "[J", true)
def tyX5 : Nat → FieldType := fun k => match k with
  | 0 => .int
  | 1 => .array .int
  | 2 => .int
  | 3 => .array .int
  | 4 => .array .int
  | 5 => .array .int
  | 6 => .array .boolean
  | 7 => .int
  | 8 => .array .int
  | 9 => .array .int
  | 10 => .array .int
  | 11 => .array .int
  | 12 => .array .int
  | 13 => .int
  | 14 => .array .int
  | 15 => .array .int
  | 16 => .array .int
  | 17 => .array .int
  | 18 => .array .int
  | 19 => .int
  | 20 => .array .int
  | 21 => .array .int
  | 22 => .array .boolean
  | 23 => .array .int
  | 24 => .array .int
  | 25 => .array .int
  | 26 => .array .int
  | 27 => .array .int
  | 28 => .array .int
  | 29 => .array .int
  | 30 => .array .int
  | 31 => .array .int
  | 32 => .array .long
  | 33 => .array .long
  | 34 => .array .long
  | _ => .array .long
abbrev wsX50 : List Cond := u_ws RX5 TX5 36
theorem nmX5 : ∀ a, a < 36 → ∀ b, b < 36 → a ≠ b → (TX5 a).2.1 ≠ (TX5 b).2.1 := by decide +kernel
theorem tyX5_ok : ∀ k, k < 36 → parseFieldDescriptor (TX5 k).2.2.1 = some (tyX5 k) := by decide +kernel
abbrev cX5_init : ByteArray := prog_7_method_1_code
def yX5_init : MethodName := ⟨RX5, "<init>", "()V"⟩
abbrev cX5_in : ByteArray := prog_7_method_3_code
def yX5_in : MethodName := ⟨RX5, "in", "(III)Z"⟩
abbrev cX5_isLine : ByteArray := prog_7_method_4_code
def yX5_isLine : MethodName := ⟨RX5, "isLine", "(I)Z"⟩
abbrev cX5_isNote : ByteArray := prog_7_method_5_code
def yX5_isNote : MethodName := ⟨RX5, "isNote", "(I)Z"⟩
abbrev cX5_line : ByteArray := prog_7_method_6_code
def yX5_line : MethodName := ⟨RX5, "line", "(I)I"⟩
abbrev cX5_note : ByteArray := prog_7_method_7_code
def yX5_note : MethodName := ⟨RX5, "note", "(IIIZ)I"⟩
abbrev cX5_mark : ByteArray := prog_7_method_8_code
def yX5_mark : MethodName := ⟨RX5, "mark", "(IIIII)I"⟩
abbrev cX5_wedge : ByteArray := prog_7_method_9_code
def yX5_wedge : MethodName := ⟨RX5, "wedge", "(IIIII)I"⟩
abbrev cX5_isBefore : ByteArray := prog_7_method_10_code
def yX5_isBefore : MethodName := ⟨RX5, "isBefore", "(II)Z"⟩
abbrev cX5_mayBe : ByteArray := prog_7_method_11_code
def yX5_mayBe : MethodName := ⟨RX5, "mayBe", "(II)Z"⟩
abbrev cX5_comes : ByteArray := prog_7_method_12_code
def yX5_comes : MethodName := ⟨RX5, "comes", "(IIZ)I"⟩
abbrev cX5_tie : ByteArray := prog_7_method_13_code
def yX5_tie : MethodName := ⟨RX5, "tie", "(II)I"⟩
abbrev cX5_slur : ByteArray := prog_7_method_14_code
def yX5_slur : MethodName := ⟨RX5, "slur", "(II)I"⟩
abbrev cX5_sideOfTie : ByteArray := prog_7_method_15_code
def yX5_sideOfTie : MethodName := ⟨RX5, "sideOfTie", "(I)I"⟩
abbrev cX5_sideOfSlur : ByteArray := prog_7_method_16_code
def yX5_sideOfSlur : MethodName := ⟨RX5, "sideOfSlur", "(II)I"⟩
abbrev cX5_layOut : ByteArray := prog_7_method_17_code
def yX5_layOut : MethodName := ⟨RX5, "layOut", "(I)V"⟩
abbrev cX5_endOf : ByteArray := prog_7_method_18_code
def yX5_endOf : MethodName := ⟨RX5, "endOf", "(II)I"⟩
abbrev cX5_lay : ByteArray := prog_7_method_19_code
def yX5_lay : MethodName := ⟨RX5, "lay", "(IIIIII)V"⟩
abbrev cX5_arch : ByteArray := prog_7_method_20_code
def yX5_arch : MethodName := ⟨RX5, "arch", "(I)I"⟩
abbrev cX5_candidates : ByteArray := prog_7_method_21_code
def yX5_candidates : MethodName := ⟨RX5, "candidates", "(I)I"⟩
abbrev cX5_badnessOf : ByteArray := prog_7_method_22_code
def yX5_badnessOf : MethodName := ⟨RX5, "badnessOf", "(I)I"⟩
abbrev cX5_px : ByteArray := prog_7_method_23_code
def yX5_px : MethodName := ⟨RX5, "px", "(II)I"⟩
abbrev cX5_py : ByteArray := prog_7_method_24_code
def yX5_py : MethodName := ⟨RX5, "py", "(III)I"⟩
abbrev cX5_turn : ByteArray := prog_7_method_25_code
def yX5_turn : MethodName := ⟨RX5, "turn", "(JJJJJJ)J"⟩
abbrev cX5_between : ByteArray := prog_7_method_26_code
def yX5_between : MethodName := ⟨RX5, "between", "(JJJ)Z"⟩
abbrev cX5_isOn : ByteArray := prog_7_method_27_code
def yX5_isOn : MethodName := ⟨RX5, "isOn", "(JJJJJJ)Z"⟩
abbrev cX5_cross : ByteArray := prog_7_method_28_code
def yX5_cross : MethodName := ⟨RX5, "cross", "(IIII)Z"⟩
abbrev cX5_isWithin : ByteArray := prog_7_method_29_code
def yX5_isWithin : MethodName := ⟨RX5, "isWithin", "([J[JJJ)Z"⟩
abbrev cX5_meets : ByteArray := prog_7_method_30_code
def yX5_meets : MethodName := ⟨RX5, "meets", "()Z"⟩
abbrev cX5_other : ByteArray := prog_7_method_31_code
def yX5_other : MethodName := ⟨RX5, "other", "(IJJ)V"⟩
abbrev cX5_ask : ByteArray := prog_7_method_32_code
def yX5_ask : MethodName := ⟨RX5, "ask", "(II)V"⟩
abbrev cX5_bars : ByteArray := prog_7_method_33_code
def yX5_bars : MethodName := ⟨RX5, "bars", "(II)I"⟩
abbrev cX5_isIn : ByteArray := prog_7_method_34_code
def yX5_isIn : MethodName := ⟨RX5, "isIn", "(II)Z"⟩
abbrev cX5_hulls : ByteArray := prog_7_method_35_code
def yX5_hulls : MethodName := ⟨RX5, "hulls", "(II)I"⟩
abbrev cX5_choose : ByteArray := prog_7_method_36_code
def yX5_choose : MethodName := ⟨RX5, "choose", "(II)V"⟩
abbrev cX5_again : ByteArray := prog_7_method_37_code
def yX5_again : MethodName := ⟨RX5, "again", "()I"⟩
abbrev cX5_isCurve : ByteArray := prog_7_method_38_code
def yX5_isCurve : MethodName := ⟨RX5, "isCurve", "(I)Z"⟩
abbrev cX5_isPart : ByteArray := prog_7_method_39_code
def yX5_isPart : MethodName := ⟨RX5, "isPart", "(II)Z"⟩
abbrev cX5_curve : ByteArray := prog_7_method_40_code
def yX5_curve : MethodName := ⟨RX5, "curve", "(II)I"⟩
abbrev cX5_part : ByteArray := prog_7_method_41_code
def yX5_part : MethodName := ⟨RX5, "part", "(III)I"⟩
abbrev cX5_point : ByteArray := prog_7_method_42_code
def yX5_point : MethodName := ⟨RX5, "point", "(IIII)I"⟩
abbrev cX5_candidate : ByteArray := prog_7_method_43_code
def yX5_candidate : MethodName := ⟨RX5, "candidate", "(IIII)I"⟩
abbrev cX5_along : ByteArray := prog_7_method_44_code
def yX5_along : MethodName := ⟨RX5, "along", "(IIII)J"⟩
abbrev cX5_within : ByteArray := prog_7_method_45_code
def yX5_within : MethodName := ⟨RX5, "within", "(IIII)I"⟩
abbrev cX5_count : ByteArray := prog_7_method_46_code
def yX5_count : MethodName := ⟨RX5, "count", "(I)I"⟩
abbrev cX5_clear : ByteArray := prog_7_method_47_code
def yX5_clear : MethodName := ⟨RX5, "clear", "()I"⟩
def RJ9 : String := "java/lang/Math"
def TJ9 : u_T := fun k => match k with
  | _ => ("", "", "", false)
def tyJ9 : Nat → FieldType := fun k => match k with
  | _ => .int
abbrev wsJ90 : List Cond := u_ws RJ9 TJ9 0
theorem nmJ9 : ∀ a, a < 0 → ∀ b, b < 0 → a ≠ b → (TJ9 a).2.1 ≠ (TJ9 b).2.1 := by decide +kernel
theorem tyJ9_ok : ∀ k, k < 0 → parseFieldDescriptor (TJ9 k).2.2.1 = some (tyJ9 k) := by decide +kernel
abbrev cJ9_max_7cf53 : ByteArray := prog_8_method_65_code
def yJ9_max_7cf53 : MethodName := ⟨RJ9, "max", "(II)I"⟩
abbrev cJ9_min_7cf53 : ByteArray := prog_8_method_69_code
def yJ9_min_7cf53 : MethodName := ⟨RJ9, "min", "(II)I"⟩
def RL : String := "CurveTiesLaw"
abbrev cL_law : ByteArray := code
def yL_law : MethodName := ⟨RL, "law", "([I)Z"⟩
abbrev vwCl : List vw_C := [(RX0, TX0, 6), (RX1, TX1, 7), (RX2, TX2, 5), (RX3, TX3, 10), (RX4, TX4, 12), (RX5, TX5, 36)]
end
section
/-- the words that methods stand on: the tables' good ones -/
def tt : List Cond := lw_tbl.filter goodWord
theorem tt_good : ∀ w ∈ tt, w ∈ lw_tbl ∧ ((w.onTables && w.keeps) = true ∨ ∃ ty, w = .arrayClass ty) := fun w h => ⟨(List.mem_filter.mp h).1, good_of_word (List.mem_filter.mp h).2⟩
theorem tt_0 {w : Cond} (h : w ∈ k2_sels lw_privs) (g : goodWord w = true) : w ∈ tt := List.mem_filter.mpr ⟨List.mem_append_left _ h, g⟩
theorem tt_1 {w : Cond} (h : w ∈ tables_1_1) (g : goodWord w = true) : w ∈ tt := List.mem_filter.mpr ⟨List.mem_append_right _ (List.mem_append_left _ h), g⟩
theorem tt_2 {w : Cond} (h : w ∈ tables_1_2) (g : goodWord w = true) : w ∈ tt := List.mem_filter.mpr ⟨List.mem_append_right _ (List.mem_append_right _ (List.mem_append_left _ h)), g⟩
theorem tt_3 {w : Cond} (h : w ∈ tables_1_3) (g : goodWord w = true) : w ∈ tt := List.mem_filter.mpr ⟨List.mem_append_right _ (List.mem_append_right _ (List.mem_append_right _ h)), g⟩
theorem tt_in {ws : List Cond} (ps : List Nat) (hp : ws = ps.filterMap (fun i => tables_1[i]?)) (hg : ws.all goodWord = true) : ∀ w ∈ ws, w ∈ tt := by
  intro w hw
  have h1 := List.all_eq_true.mp hg w hw
  rw [hp] at hw
  obtain ⟨i, -, hi⟩ := List.mem_filterMap.mp hw
  exact List.mem_filter.mpr ⟨List.mem_append_right _ (List.mem_of_getElem? hi), h1⟩
theorem wm_0 : Cond.classLink RL 7 RX4 ∈ tt := tt_1 (List.mem_of_getElem? (i := 8) rfl) rfl
theorem wm_1 : Cond.instantiable RX4 12 ∈ tt := tt_1 (List.mem_of_getElem? (i := 9) rfl) rfl
theorem wm_2 : Cond.initialized RX4 ∈ tt := tt_1 (List.mem_of_getElem? (i := 1) rfl) rfl
theorem wm_3 : Cond.classLink RL 10 RX5 ∈ tt := tt_2 (List.mem_of_getElem? (i := 171) rfl) rfl
theorem wm_4 : Cond.instantiable RX5 36 ∈ tt := tt_2 (List.mem_of_getElem? (i := 172) rfl) rfl
theorem wm_5 : Cond.initialized RX5 ∈ tt := tt_1 (List.mem_of_getElem? (i := 3) rfl) rfl
theorem wm_6 : Cond.methodLink RL 9 yX4_init ∈ tt := tt_1 (List.mem_of_getElem? (i := 10) rfl) rfl
theorem wm_7 : Cond.instanceMethod yX4_init ∈ tt := tt_1 (List.mem_of_getElem? (i := 11) rfl) rfl
theorem wm_8 : Cond.code yX4_init cX4_init 1 none ∈ tt := tt_1 (List.mem_of_getElem? (i := 12) rfl) rfl
theorem wm_9 : Cond.methodLink RX4 3 objectInit ∈ tt := tt_1 (List.mem_of_getElem? (i := 13) rfl) rfl
theorem wm_10 : Cond.instanceMethod objectInit ∈ tt := tt_1 (List.mem_of_getElem? (i := 14) rfl) rfl
theorem wm_11 : Cond.code objectInit ⟨#[0xb1]⟩ 1 none ∈ tt := tt_1 (List.mem_of_getElem? (i := 15) rfl) rfl
theorem wm_12 : Cond.arrayClass .int ∈ tt := tt_1 (List.mem_of_getElem? (i := 56) rfl) rfl
theorem wm_13 : Cond.fieldLink RX4 9 "CurveTies" "widths" "[I" ∈ tt := tt_1 (List.mem_of_getElem? (i := 61) rfl) rfl
theorem wm_14 : Cond.classLink RX4 13 RX2 ∈ tt := tt_1 (List.mem_of_getElem? (i := 16) rfl) rfl
theorem wm_15 : Cond.fieldLink RX4 15 "CurveTies" "notes" "[LCurveTies$Note;" ∈ tt := tt_1 (List.mem_of_getElem? (i := 62) rfl) rfl
theorem wm_16 : Cond.classLink RX4 19 RX1 ∈ tt := tt_1 (List.mem_of_getElem? (i := 18) rfl) rfl
theorem wm_17 : Cond.fieldLink RX4 21 "CurveTies" "bars" "[LCurveTies$Figure;" ∈ tt := tt_1 (List.mem_of_getElem? (i := 63) rfl) rfl
theorem wm_18 : Cond.classLink RX4 25 RX0 ∈ tt := tt_1 (List.mem_of_getElem? (i := 20) rfl) rfl
theorem wm_19 : Cond.fieldLink RX4 27 "CurveTies" "curves" "[LCurveTies$Curve;" ∈ tt := tt_1 (List.mem_of_getElem? (i := 64) rfl) rfl
theorem wm_20 : Cond.classLink RX4 31 RX3 ∈ tt := tt_1 (List.mem_of_getElem? (i := 22) rfl) rfl
theorem wm_21 : Cond.fieldLink RX4 33 "CurveTies" "parts" "[LCurveTies$Part;" ∈ tt := tt_1 (List.mem_of_getElem? (i := 65) rfl) rfl
theorem wm_22 : Cond.fieldLink RX4 41 "CurveTies" "trial" "LCurveTies$Figure;" ∈ tt := tt_1 (List.mem_of_getElem? (i := 66) rfl) rfl
theorem wm_23 : Cond.methodLink RX4 37 yX1_hullOn ∈ tt := tt_1 (List.mem_of_getElem? (i := 24) rfl) rfl
theorem wm_24 : Cond.static yX1_hullOn ∈ tt := tt_1 (List.mem_of_getElem? (i := 25) rfl) rfl
theorem wm_25 : Cond.initialized RX1 ∈ tt := tt_1 (List.mem_of_getElem? (i := 2) rfl) rfl
theorem wm_26 : Cond.code yX1_hullOn cX1_hullOn 1 (some (.object "CurveTies$Figure")) ∈ tt := tt_1 (List.mem_of_getElem? (i := 26) rfl) rfl
theorem wm_27 : Cond.classLink RX1 8 RX1 ∈ tt := tt_1 (List.mem_of_getElem? (i := 27) rfl) rfl
theorem wm_28 : Cond.instantiable RX1 7 ∈ tt := tt_1 (List.mem_of_getElem? (i := 28) rfl) rfl
theorem wm_29 : Cond.methodLink RX1 20 yX1_init ∈ tt := tt_1 (List.mem_of_getElem? (i := 29) rfl) rfl
theorem wm_30 : Cond.instanceMethod yX1_init ∈ tt := tt_1 (List.mem_of_getElem? (i := 30) rfl) rfl
theorem wm_31 : Cond.code yX1_init cX1_init 3 none ∈ tt := tt_1 (List.mem_of_getElem? (i := 31) rfl) rfl
theorem wm_32 : Cond.methodLink RX1 1 objectInit ∈ tt := tt_1 (List.mem_of_getElem? (i := 32) rfl) rfl
theorem wm_33 : Cond.fieldLink RX1 7 "CurveTies$Figure" "line" "I" ∈ tt := tt_1 (List.mem_of_getElem? (i := 33) rfl) rfl
theorem wm_34 : Cond.fieldLink RX1 13 "CurveTies$Figure" "xs" "[I" ∈ tt := tt_1 (List.mem_of_getElem? (i := 35) rfl) rfl
theorem wm_35 : Cond.fieldLink RX1 17 "CurveTies$Figure" "ys" "[I" ∈ tt := tt_1 (List.mem_of_getElem? (i := 36) rfl) rfl
theorem wm_36 : Cond.methodLink RX4 45 yX4_forgetAll ∈ tt := tt_1 (List.mem_of_getElem? (i := 57) rfl) rfl
theorem wm_37 : Cond.instanceMethod yX4_forgetAll ∈ tt := tt_1 (List.mem_of_getElem? (i := 59) rfl) rfl
theorem wm_38 : Cond.selects RX4 yX4_forgetAll yX4_forgetAll ∈ tt := tt_0 (List.mem_of_getElem? (i := 0) rfl) rfl
theorem wm_39 : Cond.code yX4_forgetAll cX4_forgetAll 1 none ∈ tt := tt_1 (List.mem_of_getElem? (i := 60) rfl) rfl
theorem wm_40 : Cond.fieldLink RX4 52 "CurveTies" "lineCount" "I" ∈ tt := tt_1 (List.mem_of_getElem? (i := 67) rfl) rfl
theorem wm_41 : Cond.fieldLink RX4 60 "CurveTies" "noteCount" "I" ∈ tt := tt_1 (List.mem_of_getElem? (i := 68) rfl) rfl
theorem wm_42 : Cond.fieldLink RX4 69 "CurveTies" "markCount" "I" ∈ tt := tt_1 (List.mem_of_getElem? (i := 69) rfl) rfl
theorem wm_43 : Cond.fieldLink RX4 72 "CurveTies" "wedgeCount" "I" ∈ tt := tt_1 (List.mem_of_getElem? (i := 70) rfl) rfl
theorem wm_44 : Cond.fieldLink RX4 169 "CurveTies" "curveCount" "I" ∈ tt := tt_1 (List.mem_of_getElem? (i := 71) rfl) rfl
theorem wm_45 : Cond.fieldLink RX4 86 "CurveTies" "partCount" "I" ∈ tt := tt_1 (List.mem_of_getElem? (i := 72) rfl) rfl
theorem wm_46 : Cond.methodLink RL 12 yX5_init ∈ tt := tt_2 (List.mem_of_getElem? (i := 173) rfl) rfl
theorem wm_47 : Cond.instanceMethod yX5_init ∈ tt := tt_2 (List.mem_of_getElem? (i := 174) rfl) rfl
theorem wm_48 : Cond.code yX5_init cX5_init 1 none ∈ tt := tt_2 (List.mem_of_getElem? (i := 175) rfl) rfl
theorem wm_49 : Cond.methodLink RX5 1 objectInit ∈ tt := tt_2 (List.mem_of_getElem? (i := 176) rfl) rfl
theorem wm_50 : Cond.fieldLink RX5 7 "CurveTiesModel" "widths" "[I" ∈ tt := tt_2 (List.mem_of_getElem? (i := 178) rfl) rfl
theorem wm_51 : Cond.fieldLink RX5 13 "CurveTiesModel" "noteLine" "[I" ∈ tt := tt_2 (List.mem_of_getElem? (i := 180) rfl) rfl
theorem wm_52 : Cond.fieldLink RX5 16 "CurveTiesModel" "noteX" "[I" ∈ tt := tt_2 (List.mem_of_getElem? (i := 181) rfl) rfl
theorem wm_53 : Cond.fieldLink RX5 19 "CurveTiesModel" "noteY" "[I" ∈ tt := tt_2 (List.mem_of_getElem? (i := 182) rfl) rfl
theorem wm_54 : Cond.arrayClass .boolean ∈ tt := tt_3 (List.mem_of_getElem? (i := 46) rfl) rfl
theorem wm_55 : Cond.fieldLink RX5 22 "CurveTiesModel" "noteUp" "[Z" ∈ tt := tt_2 (List.mem_of_getElem? (i := 183) rfl) rfl
theorem wm_56 : Cond.fieldLink RX5 26 "CurveTiesModel" "markLine" "[I" ∈ tt := tt_2 (List.mem_of_getElem? (i := 185) rfl) rfl
theorem wm_57 : Cond.fieldLink RX5 29 "CurveTiesModel" "markX" "[I" ∈ tt := tt_2 (List.mem_of_getElem? (i := 186) rfl) rfl
theorem wm_58 : Cond.fieldLink RX5 32 "CurveTiesModel" "markY" "[I" ∈ tt := tt_2 (List.mem_of_getElem? (i := 187) rfl) rfl
theorem wm_59 : Cond.fieldLink RX5 35 "CurveTiesModel" "markW" "[I" ∈ tt := tt_2 (List.mem_of_getElem? (i := 188) rfl) rfl
theorem wm_60 : Cond.fieldLink RX5 38 "CurveTiesModel" "markL" "[I" ∈ tt := tt_2 (List.mem_of_getElem? (i := 189) rfl) rfl
theorem wm_61 : Cond.fieldLink RX5 41 "CurveTiesModel" "wedgeLine" "[I" ∈ tt := tt_2 (List.mem_of_getElem? (i := 191) rfl) rfl
theorem wm_62 : Cond.fieldLink RX5 44 "CurveTiesModel" "wedgeFrom" "[I" ∈ tt := tt_2 (List.mem_of_getElem? (i := 192) rfl) rfl
theorem wm_63 : Cond.fieldLink RX5 47 "CurveTiesModel" "wedgeTo" "[I" ∈ tt := tt_2 (List.mem_of_getElem? (i := 193) rfl) rfl
theorem wm_64 : Cond.fieldLink RX5 50 "CurveTiesModel" "wedgeY" "[I" ∈ tt := tt_2 (List.mem_of_getElem? (i := 194) rfl) rfl
theorem wm_65 : Cond.fieldLink RX5 53 "CurveTiesModel" "wedgeO" "[I" ∈ tt := tt_2 (List.mem_of_getElem? (i := 195) rfl) rfl
theorem wm_66 : Cond.fieldLink RX5 56 "CurveTiesModel" "firsts" "[I" ∈ tt := tt_2 (List.mem_of_getElem? (i := 197) rfl) rfl
theorem wm_67 : Cond.fieldLink RX5 59 "CurveTiesModel" "seconds" "[I" ∈ tt := tt_2 (List.mem_of_getElem? (i := 198) rfl) rfl
theorem wm_68 : Cond.fieldLink RX5 62 "CurveTiesModel" "ties" "[Z" ∈ tt := tt_2 (List.mem_of_getElem? (i := 199) rfl) rfl
theorem wm_69 : Cond.fieldLink RX5 65 "CurveTiesModel" "sides" "[I" ∈ tt := tt_2 (List.mem_of_getElem? (i := 200) rfl) rfl
theorem wm_70 : Cond.fieldLink RX5 68 "CurveTiesModel" "partMany" "[I" ∈ tt := tt_2 (List.mem_of_getElem? (i := 201) rfl) rfl
theorem wm_71 : Cond.fieldLink RX5 71 "CurveTiesModel" "partLine" "[I" ∈ tt := tt_2 (List.mem_of_getElem? (i := 202) rfl) rfl
theorem wm_72 : Cond.fieldLink RX5 74 "CurveTiesModel" "x0" "[I" ∈ tt := tt_2 (List.mem_of_getElem? (i := 203) rfl) rfl
theorem wm_73 : Cond.fieldLink RX5 77 "CurveTiesModel" "y0" "[I" ∈ tt := tt_2 (List.mem_of_getElem? (i := 204) rfl) rfl
theorem wm_74 : Cond.fieldLink RX5 80 "CurveTiesModel" "x1" "[I" ∈ tt := tt_2 (List.mem_of_getElem? (i := 205) rfl) rfl
theorem wm_75 : Cond.fieldLink RX5 83 "CurveTiesModel" "y1" "[I" ∈ tt := tt_2 (List.mem_of_getElem? (i := 206) rfl) rfl
theorem wm_76 : Cond.fieldLink RX5 86 "CurveTiesModel" "chosen" "[I" ∈ tt := tt_2 (List.mem_of_getElem? (i := 207) rfl) rfl
theorem wm_77 : Cond.fieldLink RX5 89 "CurveTiesModel" "collides" "[I" ∈ tt := tt_2 (List.mem_of_getElem? (i := 208) rfl) rfl
theorem wm_78 : Cond.arrayClass .long ∈ tt := tt_3 (List.mem_of_getElem? (i := 47) rfl) rfl
theorem wm_79 : Cond.fieldLink RX5 92 "CurveTiesModel" "ax" "[J" ∈ tt := tt_2 (List.mem_of_getElem? (i := 209) rfl) rfl
theorem wm_80 : Cond.fieldLink RX5 96 "CurveTiesModel" "ay" "[J" ∈ tt := tt_2 (List.mem_of_getElem? (i := 210) rfl) rfl
theorem wm_81 : Cond.fieldLink RX5 99 "CurveTiesModel" "bx" "[J" ∈ tt := tt_2 (List.mem_of_getElem? (i := 211) rfl) rfl
theorem wm_82 : Cond.fieldLink RX5 102 "CurveTiesModel" "by" "[J" ∈ tt := tt_2 (List.mem_of_getElem? (i := 212) rfl) rfl
theorem wm_83 : Cond.methodLink RL 13 yX4_line ∈ tt := tt_1 (List.mem_of_getElem? (i := 98) rfl) rfl
theorem wm_84 : Cond.instanceMethod yX4_line ∈ tt := tt_1 (List.mem_of_getElem? (i := 99) rfl) rfl
theorem wm_85 : Cond.selects RX4 yX4_line yX4_line ∈ tt := tt_1 (List.mem_of_getElem? (i := 100) rfl) rfl
theorem wm_86 : Cond.code yX4_line cX4_line 2 (some .int) ∈ tt := tt_1 (List.mem_of_getElem? (i := 101) rfl) rfl
theorem wm_87 : Cond.methodLink RX4 48 yX4_isFrom ∈ tt := tt_1 (List.mem_of_getElem? (i := 102) rfl) rfl
theorem wm_88 : Cond.static yX4_isFrom ∈ tt := tt_1 (List.mem_of_getElem? (i := 103) rfl) rfl
theorem wm_89 : Cond.code yX4_isFrom cX4_isFrom 3 (some .boolean) ∈ tt := tt_1 (List.mem_of_getElem? (i := 104) rfl) rfl
theorem wm_90 : Cond.methodLink RL 17 yX5_line ∈ tt := tt_3 (List.mem_of_getElem? (i := 48) rfl) rfl
theorem wm_91 : Cond.instanceMethod yX5_line ∈ tt := tt_3 (List.mem_of_getElem? (i := 49) rfl) rfl
theorem wm_92 : Cond.selects RX5 yX5_line yX5_line ∈ tt := tt_3 (List.mem_of_getElem? (i := 50) rfl) rfl
theorem wm_93 : Cond.code yX5_line cX5_line 2 (some .int) ∈ tt := tt_3 (List.mem_of_getElem? (i := 51) rfl) rfl
theorem wm_94 : Cond.fieldLink RX5 105 "CurveTiesModel" "lines" "I" ∈ tt := tt_2 (List.mem_of_getElem? (i := 177) rfl) rfl
theorem wm_95 : Cond.methodLink RX5 109 yX5_in ∈ tt := tt_3 (List.mem_of_getElem? (i := 52) rfl) rfl
theorem wm_96 : Cond.static yX5_in ∈ tt := tt_3 (List.mem_of_getElem? (i := 53) rfl) rfl
theorem wm_97 : Cond.code yX5_in cX5_in 3 (some .boolean) ∈ tt := tt_3 (List.mem_of_getElem? (i := 54) rfl) rfl
theorem wm_98 : Cond.methodLink RL 18 yX4_note ∈ tt := tt_1 (List.mem_of_getElem? (i := 105) rfl) rfl
theorem wm_99 : Cond.instanceMethod yX4_note ∈ tt := tt_1 (List.mem_of_getElem? (i := 106) rfl) rfl
theorem wm_100 : Cond.selects RX4 yX4_note yX4_note ∈ tt := tt_1 (List.mem_of_getElem? (i := 107) rfl) rfl
theorem wm_101 : Cond.code yX4_note cX4_note 5 (some .int) ∈ tt := tt_1 (List.mem_of_getElem? (i := 108) rfl) rfl
theorem wm_102 : Cond.instantiable RX2 5 ∈ tt := tt_1 (List.mem_of_getElem? (i := 113) rfl) rfl
theorem wm_103 : Cond.initialized RX2 ∈ tt := tt_1 (List.mem_of_getElem? (i := 4) rfl) rfl
theorem wm_104 : Cond.methodLink RX4 56 yX4_isLine ∈ tt := tt_1 (List.mem_of_getElem? (i := 109) rfl) rfl
theorem wm_105 : Cond.instanceMethod yX4_isLine ∈ tt := tt_1 (List.mem_of_getElem? (i := 111) rfl) rfl
theorem wm_106 : Cond.selects RX4 yX4_isLine yX4_isLine ∈ tt := tt_0 (List.mem_of_getElem? (i := 1) rfl) rfl
theorem wm_107 : Cond.code yX4_isLine cX4_isLine 2 (some .boolean) ∈ tt := tt_1 (List.mem_of_getElem? (i := 112) rfl) rfl
theorem wm_108 : Cond.methodLink RX4 63 yX2_init ∈ tt := tt_1 (List.mem_of_getElem? (i := 114) rfl) rfl
theorem wm_109 : Cond.instanceMethod yX2_init ∈ tt := tt_1 (List.mem_of_getElem? (i := 115) rfl) rfl
theorem wm_110 : Cond.code yX2_init cX2_init 6 none ∈ tt := tt_1 (List.mem_of_getElem? (i := 116) rfl) rfl
theorem wm_111 : Cond.methodLink RX2 3 objectInit ∈ tt := tt_1 (List.mem_of_getElem? (i := 117) rfl) rfl
theorem wm_112 : Cond.fieldLink RX2 9 "CurveTies$Note" "number" "I" ∈ tt := tt_1 (List.mem_of_getElem? (i := 118) rfl) rfl
theorem wm_113 : Cond.fieldLink RX2 15 "CurveTies$Note" "line" "I" ∈ tt := tt_1 (List.mem_of_getElem? (i := 120) rfl) rfl
theorem wm_114 : Cond.fieldLink RX2 18 "CurveTies$Note" "x" "I" ∈ tt := tt_1 (List.mem_of_getElem? (i := 123) rfl) rfl
theorem wm_115 : Cond.fieldLink RX2 21 "CurveTies$Note" "y" "I" ∈ tt := tt_1 (List.mem_of_getElem? (i := 126) rfl) rfl
theorem wm_116 : Cond.fieldLink RX2 24 "CurveTies$Note" "up" "Z" ∈ tt := tt_1 (List.mem_of_getElem? (i := 129) rfl) rfl
theorem wm_117 : Cond.methodLink RL 22 yX5_note ∈ tt := tt_3 (List.mem_of_getElem? (i := 55) rfl) rfl
theorem wm_118 : Cond.instanceMethod yX5_note ∈ tt := tt_3 (List.mem_of_getElem? (i := 56) rfl) rfl
theorem wm_119 : Cond.selects RX5 yX5_note yX5_note ∈ tt := tt_3 (List.mem_of_getElem? (i := 57) rfl) rfl
theorem wm_120 : Cond.code yX5_note cX5_note 5 (some .int) ∈ tt := tt_3 (List.mem_of_getElem? (i := 58) rfl) rfl
theorem wm_121 : Cond.fieldLink RX5 113 "CurveTiesModel" "notes" "I" ∈ tt := tt_2 (List.mem_of_getElem? (i := 179) rfl) rfl
theorem wm_122 : Cond.methodLink RX5 116 yX5_isLine ∈ tt := tt_3 (List.mem_of_getElem? (i := 59) rfl) rfl
theorem wm_123 : Cond.instanceMethod yX5_isLine ∈ tt := tt_3 (List.mem_of_getElem? (i := 61) rfl) rfl
theorem wm_124 : Cond.selects RX5 yX5_isLine yX5_isLine ∈ tt := tt_0 (List.mem_of_getElem? (i := 18) rfl) rfl
theorem wm_125 : Cond.code yX5_isLine cX5_isLine 2 (some .boolean) ∈ tt := tt_3 (List.mem_of_getElem? (i := 62) rfl) rfl
theorem wm_126 : Cond.methodLink RL 23 yX4_mark ∈ tt := tt_1 (List.mem_of_getElem? (i := 142) rfl) rfl
theorem wm_127 : Cond.instanceMethod yX4_mark ∈ tt := tt_1 (List.mem_of_getElem? (i := 143) rfl) rfl
theorem wm_128 : Cond.selects RX4 yX4_mark yX4_mark ∈ tt := tt_1 (List.mem_of_getElem? (i := 144) rfl) rfl
theorem wm_129 : Cond.code yX4_mark cX4_mark 6 (some .int) ∈ tt := tt_1 (List.mem_of_getElem? (i := 145) rfl) rfl
theorem wm_130 : Cond.methodLink RX4 66 yX4_isBarPlace ∈ tt := tt_1 (List.mem_of_getElem? (i := 146) rfl) rfl
theorem wm_131 : Cond.instanceMethod yX4_isBarPlace ∈ tt := tt_1 (List.mem_of_getElem? (i := 148) rfl) rfl
theorem wm_132 : Cond.selects RX4 yX4_isBarPlace yX4_isBarPlace ∈ tt := tt_0 (List.mem_of_getElem? (i := 2) rfl) rfl
theorem wm_133 : Cond.code yX4_isBarPlace cX4_isBarPlace 4 (some .boolean) ∈ tt := tt_1 (List.mem_of_getElem? (i := 149) rfl) rfl
theorem wm_134 : Cond.methodLink RX4 75 yX1_rectangle ∈ tt := tt_1 (List.mem_of_getElem? (i := 150) rfl) rfl
theorem wm_135 : Cond.static yX1_rectangle ∈ tt := tt_1 (List.mem_of_getElem? (i := 151) rfl) rfl
theorem wm_136 : Cond.code yX1_rectangle cX1_rectangle 6 (some (.object "CurveTies$Figure")) ∈ tt := tt_1 (List.mem_of_getElem? (i := 152) rfl) rfl
theorem wm_137 : Cond.methodLink RX1 23 yX1_setCorner ∈ tt := tt_1 (List.mem_of_getElem? (i := 153) rfl) rfl
theorem wm_138 : Cond.instanceMethod yX1_setCorner ∈ tt := tt_1 (List.mem_of_getElem? (i := 154) rfl) rfl
theorem wm_139 : Cond.selects RX1 yX1_setCorner yX1_setCorner ∈ tt := tt_1 (List.mem_of_getElem? (i := 155) rfl) rfl
theorem wm_140 : Cond.code yX1_setCorner cX1_setCorner 4 none ∈ tt := tt_1 (List.mem_of_getElem? (i := 156) rfl) rfl
theorem wm_141 : Cond.methodLink RX1 27 yX1_setFrame ∈ tt := tt_1 (List.mem_of_getElem? (i := 157) rfl) rfl
theorem wm_142 : Cond.instanceMethod yX1_setFrame ∈ tt := tt_1 (List.mem_of_getElem? (i := 158) rfl) rfl
theorem wm_143 : Cond.selects RX1 yX1_setFrame yX1_setFrame ∈ tt := tt_1 (List.mem_of_getElem? (i := 159) rfl) rfl
theorem wm_144 : Cond.code yX1_setFrame cX1_setFrame 2 none ∈ tt := tt_1 (List.mem_of_getElem? (i := 160) rfl) rfl
theorem wm_145 : Cond.fieldLink RX1 30 "CurveTies$Figure" "left" "I" ∈ tt := tt_1 (List.mem_of_getElem? (i := 37) rfl) rfl
theorem wm_146 : Cond.fieldLink RX1 33 "CurveTies$Figure" "right" "I" ∈ tt := tt_1 (List.mem_of_getElem? (i := 38) rfl) rfl
theorem wm_147 : Cond.fieldLink RX1 36 "CurveTies$Figure" "bottom" "I" ∈ tt := tt_1 (List.mem_of_getElem? (i := 39) rfl) rfl
theorem wm_148 : Cond.fieldLink RX1 39 "CurveTies$Figure" "top" "I" ∈ tt := tt_1 (List.mem_of_getElem? (i := 40) rfl) rfl
theorem wm_149 : Cond.methodLink RX1 42 Lib.Math.min.name ∈ tt := tt_1 (List.mem_of_getElem? (i := 161) rfl) rfl
theorem wm_150 : Cond.static Lib.Math.min.name ∈ tt := tt_1 (List.mem_of_getElem? (i := 162) rfl) rfl
theorem wm_151 : Cond.initialized "java/lang/Math" ∈ tt := tt_1 (List.mem_of_getElem? (i := 5) rfl) rfl
theorem wm_152 : Cond.code Lib.Math.min.name Lib.Math.min.code 2 (some .int) ∈ tt := tt_1 (List.mem_of_getElem? (i := 163) rfl) rfl
theorem wm_153 : Cond.methodLink RX1 48 Lib.Math.max.name ∈ tt := tt_1 (List.mem_of_getElem? (i := 164) rfl) rfl
theorem wm_154 : Cond.static Lib.Math.max.name ∈ tt := tt_1 (List.mem_of_getElem? (i := 165) rfl) rfl
theorem wm_155 : Cond.code Lib.Math.max.name Lib.Math.max.code 2 (some .int) ∈ tt := tt_1 (List.mem_of_getElem? (i := 166) rfl) rfl
theorem wm_156 : Cond.methodLink RL 27 yX5_mark ∈ tt := tt_3 (List.mem_of_getElem? (i := 63) rfl) rfl
theorem wm_157 : Cond.instanceMethod yX5_mark ∈ tt := tt_3 (List.mem_of_getElem? (i := 64) rfl) rfl
theorem wm_158 : Cond.selects RX5 yX5_mark yX5_mark ∈ tt := tt_3 (List.mem_of_getElem? (i := 65) rfl) rfl
theorem wm_159 : Cond.code yX5_mark cX5_mark 6 (some .int) ∈ tt := tt_3 (List.mem_of_getElem? (i := 66) rfl) rfl
theorem wm_160 : Cond.fieldLink RX5 120 "CurveTiesModel" "marks" "I" ∈ tt := tt_2 (List.mem_of_getElem? (i := 184) rfl) rfl
theorem wm_161 : Cond.methodLink RL 28 yX4_wedge ∈ tt := tt_1 (List.mem_of_getElem? (i := 167) rfl) rfl
theorem wm_162 : Cond.instanceMethod yX4_wedge ∈ tt := tt_1 (List.mem_of_getElem? (i := 168) rfl) rfl
theorem wm_163 : Cond.selects RX4 yX4_wedge yX4_wedge ∈ tt := tt_1 (List.mem_of_getElem? (i := 169) rfl) rfl
theorem wm_164 : Cond.code yX4_wedge cX4_wedge 6 (some .int) ∈ tt := tt_1 (List.mem_of_getElem? (i := 170) rfl) rfl
theorem wm_165 : Cond.methodLink RX4 79 yX1_triangle ∈ tt := tt_1 (List.mem_of_getElem? (i := 171) rfl) rfl
theorem wm_166 : Cond.static yX1_triangle ∈ tt := tt_1 (List.mem_of_getElem? (i := 172) rfl) rfl
theorem wm_167 : Cond.code yX1_triangle cX1_triangle 6 (some (.object "CurveTies$Figure")) ∈ tt := tt_1 (List.mem_of_getElem? (i := 173) rfl) rfl
theorem wm_168 : Cond.methodLink RL 31 yX5_wedge ∈ tt := tt_3 (List.mem_of_getElem? (i := 67) rfl) rfl
theorem wm_169 : Cond.instanceMethod yX5_wedge ∈ tt := tt_3 (List.mem_of_getElem? (i := 68) rfl) rfl
theorem wm_170 : Cond.selects RX5 yX5_wedge yX5_wedge ∈ tt := tt_3 (List.mem_of_getElem? (i := 69) rfl) rfl
theorem wm_171 : Cond.code yX5_wedge cX5_wedge 6 (some .int) ∈ tt := tt_3 (List.mem_of_getElem? (i := 70) rfl) rfl
theorem wm_172 : Cond.fieldLink RX5 123 "CurveTiesModel" "wedges" "I" ∈ tt := tt_2 (List.mem_of_getElem? (i := 190) rfl) rfl
theorem wm_173 : Cond.methodLink RL 32 yX4_tie ∈ tt := tt_1 (List.mem_of_getElem? (i := 174) rfl) rfl
theorem wm_174 : Cond.instanceMethod yX4_tie ∈ tt := tt_1 (List.mem_of_getElem? (i := 175) rfl) rfl
theorem wm_175 : Cond.selects RX4 yX4_tie yX4_tie ∈ tt := tt_1 (List.mem_of_getElem? (i := 176) rfl) rfl
theorem wm_176 : Cond.code yX4_tie cX4_tie 3 (some .int) ∈ tt := tt_1 (List.mem_of_getElem? (i := 177) rfl) rfl
theorem wm_177 : Cond.methodLink RX4 82 yX4_addCurve ∈ tt := tt_1 (List.mem_of_getElem? (i := 178) rfl) rfl
theorem wm_178 : Cond.instanceMethod yX4_addCurve ∈ tt := tt_1 (List.mem_of_getElem? (i := 180) rfl) rfl
theorem wm_179 : Cond.selects RX4 yX4_addCurve yX4_addCurve ∈ tt := tt_0 (List.mem_of_getElem? (i := 3) rfl) rfl
theorem wm_180 : Cond.code yX4_addCurve cX4_addCurve 9 (some .int) ∈ tt := tt_1 (List.mem_of_getElem? (i := 181) rfl) rfl
theorem wm_181 : Cond.fieldLink RX4 185 "CurveTies$Note" "y" "I" ∈ tt := tt_1 (List.mem_of_getElem? (i := 128) rfl) rfl
theorem wm_182 : Cond.instantiable RX0 6 ∈ tt := tt_1 (List.mem_of_getElem? (i := 210) rfl) rfl
theorem wm_183 : Cond.initialized RX0 ∈ tt := tt_1 (List.mem_of_getElem? (i := 6) rfl) rfl
theorem wm_184 : Cond.fieldLink RX4 175 "CurveTies$Curve" "firstPart" "I" ∈ tt := tt_1 (List.mem_of_getElem? (i := 228) rfl) rfl
theorem wm_185 : Cond.methodLink RX4 178 yX4_isNote ∈ tt := tt_1 (List.mem_of_getElem? (i := 182) rfl) rfl
theorem wm_186 : Cond.instanceMethod yX4_isNote ∈ tt := tt_1 (List.mem_of_getElem? (i := 184) rfl) rfl
theorem wm_187 : Cond.selects RX4 yX4_isNote yX4_isNote ∈ tt := tt_0 (List.mem_of_getElem? (i := 4) rfl) rfl
theorem wm_188 : Cond.code yX4_isNote cX4_isNote 2 (some .boolean) ∈ tt := tt_1 (List.mem_of_getElem? (i := 185) rfl) rfl
theorem wm_189 : Cond.methodLink RX4 181 yX4_canBeJoined ∈ tt := tt_1 (List.mem_of_getElem? (i := 186) rfl) rfl
theorem wm_190 : Cond.instanceMethod yX4_canBeJoined ∈ tt := tt_1 (List.mem_of_getElem? (i := 188) rfl) rfl
theorem wm_191 : Cond.selects RX4 yX4_canBeJoined yX4_canBeJoined ∈ tt := tt_0 (List.mem_of_getElem? (i := 5) rfl) rfl
theorem wm_192 : Cond.code yX4_canBeJoined cX4_canBeJoined 3 (some .boolean) ∈ tt := tt_1 (List.mem_of_getElem? (i := 189) rfl) rfl
theorem wm_193 : Cond.fieldLink RX4 207 "CurveTies$Note" "line" "I" ∈ tt := tt_1 (List.mem_of_getElem? (i := 122) rfl) rfl
theorem wm_194 : Cond.fieldLink RX4 208 "CurveTies$Note" "x" "I" ∈ tt := tt_1 (List.mem_of_getElem? (i := 125) rfl) rfl
theorem wm_195 : Cond.methodLink RX4 203 yX2_isBefore ∈ tt := tt_1 (List.mem_of_getElem? (i := 190) rfl) rfl
theorem wm_196 : Cond.instanceMethod yX2_isBefore ∈ tt := tt_1 (List.mem_of_getElem? (i := 191) rfl) rfl
theorem wm_197 : Cond.selects RX2 yX2_isBefore yX2_isBefore ∈ tt := tt_1 (List.mem_of_getElem? (i := 192) rfl) rfl
theorem wm_198 : Cond.code yX2_isBefore cX2_isBefore 2 (some .boolean) ∈ tt := tt_1 (List.mem_of_getElem? (i := 193) rfl) rfl
theorem wm_199 : Cond.methodLink RX4 188 yX4_tieSide ∈ tt := tt_1 (List.mem_of_getElem? (i := 194) rfl) rfl
theorem wm_200 : Cond.instanceMethod yX4_tieSide ∈ tt := tt_1 (List.mem_of_getElem? (i := 196) rfl) rfl
theorem wm_201 : Cond.selects RX4 yX4_tieSide yX4_tieSide ∈ tt := tt_0 (List.mem_of_getElem? (i := 6) rfl) rfl
theorem wm_202 : Cond.code yX4_tieSide cX4_tieSide 5 (some .int) ∈ tt := tt_1 (List.mem_of_getElem? (i := 197) rfl) rfl
theorem wm_203 : Cond.methodLink RX4 211 yX2_isInChordOf ∈ tt := tt_1 (List.mem_of_getElem? (i := 198) rfl) rfl
theorem wm_204 : Cond.instanceMethod yX2_isInChordOf ∈ tt := tt_1 (List.mem_of_getElem? (i := 199) rfl) rfl
theorem wm_205 : Cond.selects RX2 yX2_isInChordOf yX2_isInChordOf ∈ tt := tt_1 (List.mem_of_getElem? (i := 200) rfl) rfl
theorem wm_206 : Cond.code yX2_isInChordOf cX2_isInChordOf 2 (some .boolean) ∈ tt := tt_1 (List.mem_of_getElem? (i := 201) rfl) rfl
theorem wm_207 : Cond.methodLink RX4 214 yX2_stemSide ∈ tt := tt_1 (List.mem_of_getElem? (i := 202) rfl) rfl
theorem wm_208 : Cond.instanceMethod yX2_stemSide ∈ tt := tt_1 (List.mem_of_getElem? (i := 203) rfl) rfl
theorem wm_209 : Cond.selects RX2 yX2_stemSide yX2_stemSide ∈ tt := tt_1 (List.mem_of_getElem? (i := 204) rfl) rfl
theorem wm_210 : Cond.code yX2_stemSide cX2_stemSide 1 (some .int) ∈ tt := tt_1 (List.mem_of_getElem? (i := 205) rfl) rfl
theorem wm_211 : Cond.methodLink RX4 192 yX4_slurSide ∈ tt := tt_1 (List.mem_of_getElem? (i := 206) rfl) rfl
theorem wm_212 : Cond.instanceMethod yX4_slurSide ∈ tt := tt_1 (List.mem_of_getElem? (i := 208) rfl) rfl
theorem wm_213 : Cond.selects RX4 yX4_slurSide yX4_slurSide ∈ tt := tt_0 (List.mem_of_getElem? (i := 7) rfl) rfl
theorem wm_214 : Cond.code yX4_slurSide cX4_slurSide 5 (some .int) ∈ tt := tt_1 (List.mem_of_getElem? (i := 209) rfl) rfl
theorem wm_215 : Cond.fieldLink RX4 217 "CurveTies$Note" "up" "Z" ∈ tt := tt_1 (List.mem_of_getElem? (i := 130) rfl) rfl
theorem wm_216 : Cond.methodLink RX4 196 yX0_init ∈ tt := tt_1 (List.mem_of_getElem? (i := 211) rfl) rfl
theorem wm_217 : Cond.instanceMethod yX0_init ∈ tt := tt_1 (List.mem_of_getElem? (i := 212) rfl) rfl
theorem wm_218 : Cond.code yX0_init cX0_init 7 none ∈ tt := tt_1 (List.mem_of_getElem? (i := 213) rfl) rfl
theorem wm_219 : Cond.methodLink RX0 1 objectInit ∈ tt := tt_1 (List.mem_of_getElem? (i := 214) rfl) rfl
theorem wm_220 : Cond.fieldLink RX0 7 "CurveTies$Curve" "number" "I" ∈ tt := tt_1 (List.mem_of_getElem? (i := 215) rfl) rfl
theorem wm_221 : Cond.fieldLink RX0 13 "CurveTies$Curve" "first" "LCurveTies$Note;" ∈ tt := tt_1 (List.mem_of_getElem? (i := 217) rfl) rfl
theorem wm_222 : Cond.fieldLink RX0 17 "CurveTies$Curve" "second" "LCurveTies$Note;" ∈ tt := tt_1 (List.mem_of_getElem? (i := 219) rfl) rfl
theorem wm_223 : Cond.fieldLink RX0 20 "CurveTies$Curve" "isTie" "Z" ∈ tt := tt_1 (List.mem_of_getElem? (i := 221) rfl) rfl
theorem wm_224 : Cond.fieldLink RX0 24 "CurveTies$Curve" "side" "I" ∈ tt := tt_1 (List.mem_of_getElem? (i := 224) rfl) rfl
theorem wm_225 : Cond.fieldLink RX0 27 "CurveTies$Curve" "firstPart" "I" ∈ tt := tt_1 (List.mem_of_getElem? (i := 227) rfl) rfl
theorem wm_226 : Cond.methodLink RX4 199 yX4_addParts ∈ tt := tt_2 (List.mem_of_getElem? (i := 2) rfl) rfl
theorem wm_227 : Cond.instanceMethod yX4_addParts ∈ tt := tt_2 (List.mem_of_getElem? (i := 4) rfl) rfl
theorem wm_228 : Cond.selects RX4 yX4_addParts yX4_addParts ∈ tt := tt_0 (List.mem_of_getElem? (i := 8) rfl) rfl
theorem wm_229 : Cond.code yX4_addParts cX4_addParts 6 none ∈ tt := tt_2 (List.mem_of_getElem? (i := 5) rfl) rfl
theorem wm_230 : Cond.fieldLink RX4 99 "CurveTies$Curve" "first" "LCurveTies$Note;" ∈ tt := tt_1 (List.mem_of_getElem? (i := 218) rfl) rfl
theorem wm_231 : Cond.fieldLink RX4 106 "CurveTies$Curve" "second" "LCurveTies$Note;" ∈ tt := tt_1 (List.mem_of_getElem? (i := 220) rfl) rfl
theorem wm_232 : Cond.instantiable RX3 10 ∈ tt := tt_2 (List.mem_of_getElem? (i := 23) rfl) rfl
theorem wm_233 : Cond.initialized RX3 ∈ tt := tt_1 (List.mem_of_getElem? (i := 7) rfl) rfl
theorem wm_234 : Cond.methodLink RX4 220 yX0_firstX ∈ tt := tt_2 (List.mem_of_getElem? (i := 6) rfl) rfl
theorem wm_235 : Cond.instanceMethod yX0_firstX ∈ tt := tt_2 (List.mem_of_getElem? (i := 7) rfl) rfl
theorem wm_236 : Cond.selects RX0 yX0_firstX yX0_firstX ∈ tt := tt_2 (List.mem_of_getElem? (i := 8) rfl) rfl
theorem wm_237 : Cond.code yX0_firstX cX0_firstX 1 (some .int) ∈ tt := tt_2 (List.mem_of_getElem? (i := 9) rfl) rfl
theorem wm_238 : Cond.fieldLink RX0 35 "CurveTies$Note" "x" "I" ∈ tt := tt_1 (List.mem_of_getElem? (i := 124) rfl) rfl
theorem wm_239 : Cond.methodLink RX4 223 yX0_endHeight ∈ tt := tt_2 (List.mem_of_getElem? (i := 10) rfl) rfl
theorem wm_240 : Cond.instanceMethod yX0_endHeight ∈ tt := tt_2 (List.mem_of_getElem? (i := 11) rfl) rfl
theorem wm_241 : Cond.selects RX0 yX0_endHeight yX0_endHeight ∈ tt := tt_2 (List.mem_of_getElem? (i := 12) rfl) rfl
theorem wm_242 : Cond.code yX0_endHeight cX0_endHeight 3 (some .int) ∈ tt := tt_2 (List.mem_of_getElem? (i := 13) rfl) rfl
theorem wm_243 : Cond.fieldLink RX0 38 "CurveTies$Note" "y" "I" ∈ tt := tt_1 (List.mem_of_getElem? (i := 127) rfl) rfl
theorem wm_244 : Cond.methodLink RX0 41 yX2_stemSide ∈ tt := tt_2 (List.mem_of_getElem? (i := 14) rfl) rfl
theorem wm_245 : Cond.methodLink RX4 226 yX0_secondX ∈ tt := tt_2 (List.mem_of_getElem? (i := 15) rfl) rfl
theorem wm_246 : Cond.instanceMethod yX0_secondX ∈ tt := tt_2 (List.mem_of_getElem? (i := 16) rfl) rfl
theorem wm_247 : Cond.selects RX0 yX0_secondX yX0_secondX ∈ tt := tt_2 (List.mem_of_getElem? (i := 17) rfl) rfl
theorem wm_248 : Cond.code yX0_secondX cX0_secondX 1 (some .int) ∈ tt := tt_2 (List.mem_of_getElem? (i := 18) rfl) rfl
theorem wm_249 : Cond.methodLink RX4 112 yX0_partCount ∈ tt := tt_2 (List.mem_of_getElem? (i := 19) rfl) rfl
theorem wm_250 : Cond.instanceMethod yX0_partCount ∈ tt := tt_2 (List.mem_of_getElem? (i := 20) rfl) rfl
theorem wm_251 : Cond.selects RX0 yX0_partCount yX0_partCount ∈ tt := tt_2 (List.mem_of_getElem? (i := 21) rfl) rfl
theorem wm_252 : Cond.code yX0_partCount cX0_partCount 1 (some .int) ∈ tt := tt_2 (List.mem_of_getElem? (i := 22) rfl) rfl
theorem wm_253 : Cond.fieldLink RX0 30 "CurveTies$Note" "line" "I" ∈ tt := tt_1 (List.mem_of_getElem? (i := 121) rfl) rfl
theorem wm_254 : Cond.methodLink RX4 229 yX3_init ∈ tt := tt_2 (List.mem_of_getElem? (i := 24) rfl) rfl
theorem wm_255 : Cond.instanceMethod yX3_init ∈ tt := tt_2 (List.mem_of_getElem? (i := 25) rfl) rfl
theorem wm_256 : Cond.code yX3_init cX3_init 7 none ∈ tt := tt_2 (List.mem_of_getElem? (i := 26) rfl) rfl
theorem wm_257 : Cond.methodLink RX3 1 objectInit ∈ tt := tt_2 (List.mem_of_getElem? (i := 27) rfl) rfl
theorem wm_258 : Cond.fieldLink RX3 9 "CurveTies$Part" "chosen" "I" ∈ tt := tt_2 (List.mem_of_getElem? (i := 41) rfl) rfl
theorem wm_259 : Cond.fieldLink RX3 13 "CurveTies$Part" "curve" "LCurveTies$Curve;" ∈ tt := tt_2 (List.mem_of_getElem? (i := 30) rfl) rfl
theorem wm_260 : Cond.fieldLink RX3 17 "CurveTies$Part" "line" "I" ∈ tt := tt_2 (List.mem_of_getElem? (i := 31) rfl) rfl
theorem wm_261 : Cond.fieldLink RX3 20 "CurveTies$Part" "fromX" "I" ∈ tt := tt_2 (List.mem_of_getElem? (i := 33) rfl) rfl
theorem wm_262 : Cond.fieldLink RX3 23 "CurveTies$Part" "fromY" "I" ∈ tt := tt_2 (List.mem_of_getElem? (i := 34) rfl) rfl
theorem wm_263 : Cond.fieldLink RX3 26 "CurveTies$Part" "toX" "I" ∈ tt := tt_2 (List.mem_of_getElem? (i := 35) rfl) rfl
theorem wm_264 : Cond.fieldLink RX3 29 "CurveTies$Part" "toY" "I" ∈ tt := tt_2 (List.mem_of_getElem? (i := 36) rfl) rfl
theorem wm_265 : Cond.methodLink RX3 32 Lib.Math.min.name ∈ tt := tt_2 (List.mem_of_getElem? (i := 28) rfl) rfl
theorem wm_266 : Cond.fieldLink RX3 38 "CurveTies$Part" "arch" "I" ∈ tt := tt_2 (List.mem_of_getElem? (i := 37) rfl) rfl
theorem wm_267 : Cond.fieldLink RX3 47 "CurveTies$Part" "hull" "LCurveTies$Figure;" ∈ tt := tt_2 (List.mem_of_getElem? (i := 39) rfl) rfl
theorem wm_268 : Cond.methodLink RX3 41 yX1_hullOn ∈ tt := tt_2 (List.mem_of_getElem? (i := 29) rfl) rfl
theorem wm_269 : Cond.methodLink RX4 232 yX4_addPart ∈ tt := tt_2 (List.mem_of_getElem? (i := 65) rfl) rfl
theorem wm_270 : Cond.instanceMethod yX4_addPart ∈ tt := tt_2 (List.mem_of_getElem? (i := 67) rfl) rfl
theorem wm_271 : Cond.selects RX4 yX4_addPart yX4_addPart ∈ tt := tt_0 (List.mem_of_getElem? (i := 9) rfl) rfl
theorem wm_272 : Cond.code yX4_addPart cX4_addPart 2 none ∈ tt := tt_2 (List.mem_of_getElem? (i := 68) rfl) rfl
theorem wm_273 : Cond.methodLink RX4 92 yX4_choose ∈ tt := tt_2 (List.mem_of_getElem? (i := 69) rfl) rfl
theorem wm_274 : Cond.instanceMethod yX4_choose ∈ tt := tt_2 (List.mem_of_getElem? (i := 71) rfl) rfl
theorem wm_275 : Cond.selects RX4 yX4_choose yX4_choose ∈ tt := tt_0 (List.mem_of_getElem? (i := 10) rfl) rfl
theorem wm_276 : Cond.code yX4_choose cX4_choose 4 none ∈ tt := tt_2 (List.mem_of_getElem? (i := 72) rfl) rfl
theorem wm_277 : Cond.fieldLink RX4 130 "CurveTies$Part" "collides" "Z" ∈ tt := tt_2 (List.mem_of_getElem? (i := 43) rfl) rfl
theorem wm_278 : Cond.fieldLink RX4 89 "CurveTies$Part" "chosen" "I" ∈ tt := tt_2 (List.mem_of_getElem? (i := 42) rfl) rfl
theorem wm_279 : Cond.fieldLink RX4 139 "CurveTies$Part" "hull" "LCurveTies$Figure;" ∈ tt := tt_2 (List.mem_of_getElem? (i := 40) rfl) rfl
theorem wm_280 : Cond.methodLink RX4 136 yX3_candidateCount ∈ tt := tt_2 (List.mem_of_getElem? (i := 73) rfl) rfl
theorem wm_281 : Cond.instanceMethod yX3_candidateCount ∈ tt := tt_2 (List.mem_of_getElem? (i := 74) rfl) rfl
theorem wm_282 : Cond.selects RX3 yX3_candidateCount yX3_candidateCount ∈ tt := tt_2 (List.mem_of_getElem? (i := 75) rfl) rfl
theorem wm_283 : Cond.code yX3_candidateCount cX3_candidateCount 1 (some .int) ∈ tt := tt_2 (List.mem_of_getElem? (i := 76) rfl) rfl
theorem wm_284 : Cond.fieldLink RX3 51 "CurveTies$Curve" "isTie" "Z" ∈ tt := tt_1 (List.mem_of_getElem? (i := 222) rfl) rfl
theorem wm_285 : Cond.methodLink RX4 126 yX3_badness ∈ tt := tt_2 (List.mem_of_getElem? (i := 77) rfl) rfl
theorem wm_286 : Cond.instanceMethod yX3_badness ∈ tt := tt_2 (List.mem_of_getElem? (i := 78) rfl) rfl
theorem wm_287 : Cond.selects RX3 yX3_badness yX3_badness ∈ tt := tt_2 (List.mem_of_getElem? (i := 79) rfl) rfl
theorem wm_288 : Cond.code yX3_badness cX3_badness 4 (some .int) ∈ tt := tt_2 (List.mem_of_getElem? (i := 80) rfl) rfl
theorem wm_289 : Cond.methodLink RX4 146 yX3_draw ∈ tt := tt_2 (List.mem_of_getElem? (i := 81) rfl) rfl
theorem wm_290 : Cond.instanceMethod yX3_draw ∈ tt := tt_2 (List.mem_of_getElem? (i := 82) rfl) rfl
theorem wm_291 : Cond.selects RX3 yX3_draw yX3_draw ∈ tt := tt_2 (List.mem_of_getElem? (i := 83) rfl) rfl
theorem wm_292 : Cond.code yX3_draw cX3_draw 8 none ∈ tt := tt_2 (List.mem_of_getElem? (i := 84) rfl) rfl
theorem wm_293 : Cond.fieldLink RX3 60 "CurveTies$Curve" "side" "I" ∈ tt := tt_1 (List.mem_of_getElem? (i := 225) rfl) rfl
theorem wm_294 : Cond.fieldLink RX3 63 "CurveTies$Figure" "line" "I" ∈ tt := tt_1 (List.mem_of_getElem? (i := 34) rfl) rfl
theorem wm_295 : Cond.methodLink RX3 64 yX1_setCorner ∈ tt := tt_2 (List.mem_of_getElem? (i := 85) rfl) rfl
theorem wm_296 : Cond.methodLink RX3 68 yX1_setFrame ∈ tt := tt_2 (List.mem_of_getElem? (i := 86) rfl) rfl
theorem wm_297 : Cond.methodLink RX4 150 yX4_barsMet ∈ tt := tt_2 (List.mem_of_getElem? (i := 87) rfl) rfl
theorem wm_298 : Cond.instanceMethod yX4_barsMet ∈ tt := tt_2 (List.mem_of_getElem? (i := 89) rfl) rfl
theorem wm_299 : Cond.selects RX4 yX4_barsMet yX4_barsMet ∈ tt := tt_0 (List.mem_of_getElem? (i := 11) rfl) rfl
theorem wm_300 : Cond.code yX4_barsMet cX4_barsMet 4 (some .int) ∈ tt := tt_2 (List.mem_of_getElem? (i := 90) rfl) rfl
theorem wm_301 : Cond.methodLink RX4 235 yX1_meets ∈ tt := tt_2 (List.mem_of_getElem? (i := 91) rfl) rfl
theorem wm_302 : Cond.instanceMethod yX1_meets ∈ tt := tt_2 (List.mem_of_getElem? (i := 92) rfl) rfl
theorem wm_303 : Cond.selects RX1 yX1_meets yX1_meets ∈ tt := tt_2 (List.mem_of_getElem? (i := 93) rfl) rfl
theorem wm_304 : Cond.code yX1_meets cX1_meets 2 (some .boolean) ∈ tt := tt_2 (List.mem_of_getElem? (i := 94) rfl) rfl
theorem wm_305 : Cond.methodLink RX1 51 yX1_hasEdgeBefore ∈ tt := tt_2 (List.mem_of_getElem? (i := 95) rfl) rfl
theorem wm_306 : Cond.instanceMethod yX1_hasEdgeBefore ∈ tt := tt_2 (List.mem_of_getElem? (i := 97) rfl) rfl
theorem wm_307 : Cond.selects RX1 yX1_hasEdgeBefore yX1_hasEdgeBefore ∈ tt := tt_0 (List.mem_of_getElem? (i := 12) rfl) rfl
theorem wm_308 : Cond.code yX1_hasEdgeBefore cX1_hasEdgeBefore 4 (some .boolean) ∈ tt := tt_2 (List.mem_of_getElem? (i := 98) rfl) rfl
theorem wm_309 : Cond.methodLink RX1 55 yX1_separates ∈ tt := tt_2 (List.mem_of_getElem? (i := 99) rfl) rfl
theorem wm_310 : Cond.instanceMethod yX1_separates ∈ tt := tt_2 (List.mem_of_getElem? (i := 101) rfl) rfl
theorem wm_311 : Cond.selects RX1 yX1_separates yX1_separates ∈ tt := tt_0 (List.mem_of_getElem? (i := 13) rfl) rfl
theorem wm_312 : Cond.code yX1_separates cX1_separates 11 (some .boolean) ∈ tt := tt_2 (List.mem_of_getElem? (i := 102) rfl) rfl
theorem wm_313 : Cond.methodLink RX4 153 yX4_hullsMet ∈ tt := tt_2 (List.mem_of_getElem? (i := 103) rfl) rfl
theorem wm_314 : Cond.instanceMethod yX4_hullsMet ∈ tt := tt_2 (List.mem_of_getElem? (i := 105) rfl) rfl
theorem wm_315 : Cond.selects RX4 yX4_hullsMet yX4_hullsMet ∈ tt := tt_0 (List.mem_of_getElem? (i := 14) rfl) rfl
theorem wm_316 : Cond.code yX4_hullsMet cX4_hullsMet 5 (some .int) ∈ tt := tt_2 (List.mem_of_getElem? (i := 106) rfl) rfl
theorem wm_317 : Cond.methodLink RX4 165 yX3_liesWithin ∈ tt := tt_2 (List.mem_of_getElem? (i := 107) rfl) rfl
theorem wm_318 : Cond.instanceMethod yX3_liesWithin ∈ tt := tt_2 (List.mem_of_getElem? (i := 108) rfl) rfl
theorem wm_319 : Cond.selects RX3 yX3_liesWithin yX3_liesWithin ∈ tt := tt_2 (List.mem_of_getElem? (i := 109) rfl) rfl
theorem wm_320 : Cond.code yX3_liesWithin cX3_liesWithin 2 (some .boolean) ∈ tt := tt_2 (List.mem_of_getElem? (i := 110) rfl) rfl
theorem wm_321 : Cond.fieldLink RX3 57 "CurveTies$Curve" "number" "I" ∈ tt := tt_1 (List.mem_of_getElem? (i := 216) rfl) rfl
theorem wm_322 : Cond.methodLink RL 36 yX5_tie ∈ tt := tt_3 (List.mem_of_getElem? (i := 71) rfl) rfl
theorem wm_323 : Cond.instanceMethod yX5_tie ∈ tt := tt_3 (List.mem_of_getElem? (i := 72) rfl) rfl
theorem wm_324 : Cond.selects RX5 yX5_tie yX5_tie ∈ tt := tt_3 (List.mem_of_getElem? (i := 73) rfl) rfl
theorem wm_325 : Cond.code yX5_tie cX5_tie 3 (some .int) ∈ tt := tt_3 (List.mem_of_getElem? (i := 74) rfl) rfl
theorem wm_326 : Cond.methodLink RX5 147 yX5_comes ∈ tt := tt_3 (List.mem_of_getElem? (i := 75) rfl) rfl
theorem wm_327 : Cond.instanceMethod yX5_comes ∈ tt := tt_3 (List.mem_of_getElem? (i := 77) rfl) rfl
theorem wm_328 : Cond.selects RX5 yX5_comes yX5_comes ∈ tt := tt_0 (List.mem_of_getElem? (i := 19) rfl) rfl
theorem wm_329 : Cond.code yX5_comes cX5_comes 6 (some .int) ∈ tt := tt_3 (List.mem_of_getElem? (i := 78) rfl) rfl
theorem wm_330 : Cond.fieldLink RX5 136 "CurveTiesModel" "curves" "I" ∈ tt := tt_2 (List.mem_of_getElem? (i := 196) rfl) rfl
theorem wm_331 : Cond.methodLink RX5 130 yX5_isNote ∈ tt := tt_3 (List.mem_of_getElem? (i := 79) rfl) rfl
theorem wm_332 : Cond.instanceMethod yX5_isNote ∈ tt := tt_3 (List.mem_of_getElem? (i := 81) rfl) rfl
theorem wm_333 : Cond.selects RX5 yX5_isNote yX5_isNote ∈ tt := tt_0 (List.mem_of_getElem? (i := 20) rfl) rfl
theorem wm_334 : Cond.code yX5_isNote cX5_isNote 2 (some .boolean) ∈ tt := tt_3 (List.mem_of_getElem? (i := 82) rfl) rfl
theorem wm_335 : Cond.methodLink RX5 133 yX5_mayBe ∈ tt := tt_3 (List.mem_of_getElem? (i := 83) rfl) rfl
theorem wm_336 : Cond.instanceMethod yX5_mayBe ∈ tt := tt_3 (List.mem_of_getElem? (i := 85) rfl) rfl
theorem wm_337 : Cond.selects RX5 yX5_mayBe yX5_mayBe ∈ tt := tt_0 (List.mem_of_getElem? (i := 21) rfl) rfl
theorem wm_338 : Cond.code yX5_mayBe cX5_mayBe 3 (some .boolean) ∈ tt := tt_3 (List.mem_of_getElem? (i := 86) rfl) rfl
theorem wm_339 : Cond.methodLink RX5 126 yX5_isBefore ∈ tt := tt_3 (List.mem_of_getElem? (i := 87) rfl) rfl
theorem wm_340 : Cond.instanceMethod yX5_isBefore ∈ tt := tt_3 (List.mem_of_getElem? (i := 89) rfl) rfl
theorem wm_341 : Cond.selects RX5 yX5_isBefore yX5_isBefore ∈ tt := tt_0 (List.mem_of_getElem? (i := 22) rfl) rfl
theorem wm_342 : Cond.code yX5_isBefore cX5_isBefore 3 (some .boolean) ∈ tt := tt_3 (List.mem_of_getElem? (i := 90) rfl) rfl
theorem wm_343 : Cond.methodLink RX5 139 yX5_layOut ∈ tt := tt_3 (List.mem_of_getElem? (i := 91) rfl) rfl
theorem wm_344 : Cond.instanceMethod yX5_layOut ∈ tt := tt_3 (List.mem_of_getElem? (i := 93) rfl) rfl
theorem wm_345 : Cond.selects RX5 yX5_layOut yX5_layOut ∈ tt := tt_0 (List.mem_of_getElem? (i := 23) rfl) rfl
theorem wm_346 : Cond.code yX5_layOut cX5_layOut 8 none ∈ tt := tt_3 (List.mem_of_getElem? (i := 94) rfl) rfl
theorem wm_347 : Cond.methodLink RX5 151 yX5_sideOfTie ∈ tt := tt_3 (List.mem_of_getElem? (i := 95) rfl) rfl
theorem wm_348 : Cond.instanceMethod yX5_sideOfTie ∈ tt := tt_3 (List.mem_of_getElem? (i := 97) rfl) rfl
theorem wm_349 : Cond.selects RX5 yX5_sideOfTie yX5_sideOfTie ∈ tt := tt_0 (List.mem_of_getElem? (i := 24) rfl) rfl
theorem wm_350 : Cond.code yX5_sideOfTie cX5_sideOfTie 5 (some .int) ∈ tt := tt_3 (List.mem_of_getElem? (i := 98) rfl) rfl
theorem wm_351 : Cond.methodLink RX5 155 yX5_sideOfSlur ∈ tt := tt_3 (List.mem_of_getElem? (i := 99) rfl) rfl
theorem wm_352 : Cond.instanceMethod yX5_sideOfSlur ∈ tt := tt_3 (List.mem_of_getElem? (i := 101) rfl) rfl
theorem wm_353 : Cond.selects RX5 yX5_sideOfSlur yX5_sideOfSlur ∈ tt := tt_0 (List.mem_of_getElem? (i := 25) rfl) rfl
theorem wm_354 : Cond.code yX5_sideOfSlur cX5_sideOfSlur 6 (some .int) ∈ tt := tt_3 (List.mem_of_getElem? (i := 102) rfl) rfl
theorem wm_355 : Cond.methodLink RX5 159 yX5_endOf ∈ tt := tt_3 (List.mem_of_getElem? (i := 103) rfl) rfl
theorem wm_356 : Cond.instanceMethod yX5_endOf ∈ tt := tt_3 (List.mem_of_getElem? (i := 105) rfl) rfl
theorem wm_357 : Cond.selects RX5 yX5_endOf yX5_endOf ∈ tt := tt_0 (List.mem_of_getElem? (i := 26) rfl) rfl
theorem wm_358 : Cond.code yX5_endOf cX5_endOf 3 (some .int) ∈ tt := tt_3 (List.mem_of_getElem? (i := 106) rfl) rfl
theorem wm_359 : Cond.methodLink RX5 162 yX5_lay ∈ tt := tt_3 (List.mem_of_getElem? (i := 107) rfl) rfl
theorem wm_360 : Cond.instanceMethod yX5_lay ∈ tt := tt_3 (List.mem_of_getElem? (i := 109) rfl) rfl
theorem wm_361 : Cond.selects RX5 yX5_lay yX5_lay ∈ tt := tt_0 (List.mem_of_getElem? (i := 27) rfl) rfl
theorem wm_362 : Cond.code yX5_lay cX5_lay 7 none ∈ tt := tt_3 (List.mem_of_getElem? (i := 110) rfl) rfl
theorem wm_363 : Cond.methodLink RX5 143 yX5_choose ∈ tt := tt_3 (List.mem_of_getElem? (i := 111) rfl) rfl
theorem wm_364 : Cond.instanceMethod yX5_choose ∈ tt := tt_3 (List.mem_of_getElem? (i := 113) rfl) rfl
theorem wm_365 : Cond.selects RX5 yX5_choose yX5_choose ∈ tt := tt_0 (List.mem_of_getElem? (i := 28) rfl) rfl
theorem wm_366 : Cond.code yX5_choose cX5_choose 7 none ∈ tt := tt_3 (List.mem_of_getElem? (i := 114) rfl) rfl
theorem wm_367 : Cond.methodLink RX5 212 yX5_candidates ∈ tt := tt_3 (List.mem_of_getElem? (i := 115) rfl) rfl
theorem wm_368 : Cond.instanceMethod yX5_candidates ∈ tt := tt_3 (List.mem_of_getElem? (i := 117) rfl) rfl
theorem wm_369 : Cond.selects RX5 yX5_candidates yX5_candidates ∈ tt := tt_0 (List.mem_of_getElem? (i := 29) rfl) rfl
theorem wm_370 : Cond.code yX5_candidates cX5_candidates 2 (some .int) ∈ tt := tt_3 (List.mem_of_getElem? (i := 118) rfl) rfl
theorem wm_371 : Cond.methodLink RX5 215 yX5_badnessOf ∈ tt := tt_3 (List.mem_of_getElem? (i := 119) rfl) rfl
theorem wm_372 : Cond.static yX5_badnessOf ∈ tt := tt_3 (List.mem_of_getElem? (i := 120) rfl) rfl
theorem wm_373 : Cond.code yX5_badnessOf cX5_badnessOf 3 (some .int) ∈ tt := tt_3 (List.mem_of_getElem? (i := 121) rfl) rfl
theorem wm_374 : Cond.methodLink RX5 218 yX5_bars ∈ tt := tt_3 (List.mem_of_getElem? (i := 122) rfl) rfl
theorem wm_375 : Cond.instanceMethod yX5_bars ∈ tt := tt_3 (List.mem_of_getElem? (i := 124) rfl) rfl
theorem wm_376 : Cond.selects RX5 yX5_bars yX5_bars ∈ tt := tt_0 (List.mem_of_getElem? (i := 30) rfl) rfl
theorem wm_377 : Cond.code yX5_bars cX5_bars 5 (some .int) ∈ tt := tt_3 (List.mem_of_getElem? (i := 125) rfl) rfl
theorem wm_378 : Cond.methodLink RX5 198 yX5_ask ∈ tt := tt_3 (List.mem_of_getElem? (i := 126) rfl) rfl
theorem wm_379 : Cond.instanceMethod yX5_ask ∈ tt := tt_3 (List.mem_of_getElem? (i := 128) rfl) rfl
theorem wm_380 : Cond.selects RX5 yX5_ask yX5_ask ∈ tt := tt_0 (List.mem_of_getElem? (i := 31) rfl) rfl
theorem wm_381 : Cond.code yX5_ask cX5_ask 4 none ∈ tt := tt_3 (List.mem_of_getElem? (i := 129) rfl) rfl
theorem wm_382 : Cond.methodLink RX5 191 yX5_px ∈ tt := tt_3 (List.mem_of_getElem? (i := 130) rfl) rfl
theorem wm_383 : Cond.instanceMethod yX5_px ∈ tt := tt_3 (List.mem_of_getElem? (i := 132) rfl) rfl
theorem wm_384 : Cond.selects RX5 yX5_px yX5_px ∈ tt := tt_0 (List.mem_of_getElem? (i := 32) rfl) rfl
theorem wm_385 : Cond.code yX5_px cX5_px 4 (some .int) ∈ tt := tt_3 (List.mem_of_getElem? (i := 133) rfl) rfl
theorem wm_386 : Cond.methodLink RX5 194 yX5_py ∈ tt := tt_3 (List.mem_of_getElem? (i := 134) rfl) rfl
theorem wm_387 : Cond.instanceMethod yX5_py ∈ tt := tt_3 (List.mem_of_getElem? (i := 136) rfl) rfl
theorem wm_388 : Cond.selects RX5 yX5_py yX5_py ∈ tt := tt_0 (List.mem_of_getElem? (i := 33) rfl) rfl
theorem wm_389 : Cond.code yX5_py cX5_py 9 (some .int) ∈ tt := tt_3 (List.mem_of_getElem? (i := 137) rfl) rfl
theorem wm_390 : Cond.methodLink RX5 166 yX5_arch ∈ tt := tt_3 (List.mem_of_getElem? (i := 138) rfl) rfl
theorem wm_391 : Cond.instanceMethod yX5_arch ∈ tt := tt_3 (List.mem_of_getElem? (i := 140) rfl) rfl
theorem wm_392 : Cond.selects RX5 yX5_arch yX5_arch ∈ tt := tt_0 (List.mem_of_getElem? (i := 34) rfl) rfl
theorem wm_393 : Cond.code yX5_arch cX5_arch 3 (some .int) ∈ tt := tt_3 (List.mem_of_getElem? (i := 141) rfl) rfl
theorem wm_394 : Cond.methodLink RX5 201 yX5_other ∈ tt := tt_3 (List.mem_of_getElem? (i := 142) rfl) rfl
theorem wm_395 : Cond.instanceMethod yX5_other ∈ tt := tt_3 (List.mem_of_getElem? (i := 144) rfl) rfl
theorem wm_396 : Cond.selects RX5 yX5_other yX5_other ∈ tt := tt_0 (List.mem_of_getElem? (i := 35) rfl) rfl
theorem wm_397 : Cond.code yX5_other cX5_other 6 none ∈ tt := tt_3 (List.mem_of_getElem? (i := 145) rfl) rfl
theorem wm_398 : Cond.methodLink RX5 205 yX5_meets ∈ tt := tt_3 (List.mem_of_getElem? (i := 146) rfl) rfl
theorem wm_399 : Cond.instanceMethod yX5_meets ∈ tt := tt_3 (List.mem_of_getElem? (i := 148) rfl) rfl
theorem wm_400 : Cond.selects RX5 yX5_meets yX5_meets ∈ tt := tt_0 (List.mem_of_getElem? (i := 36) rfl) rfl
theorem wm_401 : Cond.code yX5_meets cX5_meets 6 (some .boolean) ∈ tt := tt_3 (List.mem_of_getElem? (i := 149) rfl) rfl
theorem wm_402 : Cond.methodLink RX5 183 yX5_isWithin ∈ tt := tt_3 (List.mem_of_getElem? (i := 150) rfl) rfl
theorem wm_403 : Cond.static yX5_isWithin ∈ tt := tt_3 (List.mem_of_getElem? (i := 151) rfl) rfl
theorem wm_404 : Cond.code yX5_isWithin cX5_isWithin 18 (some .boolean) ∈ tt := tt_3 (List.mem_of_getElem? (i := 152) rfl) rfl
theorem wm_405 : Cond.methodLink RX5 175 yX5_turn ∈ tt := tt_3 (List.mem_of_getElem? (i := 153) rfl) rfl
theorem wm_406 : Cond.static yX5_turn ∈ tt := tt_3 (List.mem_of_getElem? (i := 154) rfl) rfl
theorem wm_407 : Cond.code yX5_turn cX5_turn 14 (some .long) ∈ tt := tt_3 (List.mem_of_getElem? (i := 155) rfl) rfl
theorem wm_408 : Cond.constantLong RX5 169 (-1) ∈ tt := tt_3 (List.mem_of_getElem? (i := 156) rfl) rfl
theorem wm_409 : Cond.methodLink RX5 187 yX5_cross ∈ tt := tt_3 (List.mem_of_getElem? (i := 157) rfl) rfl
theorem wm_410 : Cond.instanceMethod yX5_cross ∈ tt := tt_3 (List.mem_of_getElem? (i := 159) rfl) rfl
theorem wm_411 : Cond.selects RX5 yX5_cross yX5_cross ∈ tt := tt_0 (List.mem_of_getElem? (i := 37) rfl) rfl
theorem wm_412 : Cond.code yX5_cross cX5_cross 13 (some .boolean) ∈ tt := tt_3 (List.mem_of_getElem? (i := 160) rfl) rfl
theorem wm_413 : Cond.methodLink RX5 179 yX5_isOn ∈ tt := tt_3 (List.mem_of_getElem? (i := 161) rfl) rfl
theorem wm_414 : Cond.static yX5_isOn ∈ tt := tt_3 (List.mem_of_getElem? (i := 162) rfl) rfl
theorem wm_415 : Cond.code yX5_isOn cX5_isOn 12 (some .boolean) ∈ tt := tt_3 (List.mem_of_getElem? (i := 163) rfl) rfl
theorem wm_416 : Cond.methodLink RX5 171 yX5_between ∈ tt := tt_3 (List.mem_of_getElem? (i := 164) rfl) rfl
theorem wm_417 : Cond.static yX5_between ∈ tt := tt_3 (List.mem_of_getElem? (i := 165) rfl) rfl
theorem wm_418 : Cond.code yX5_between cX5_between 6 (some .boolean) ∈ tt := tt_3 (List.mem_of_getElem? (i := 166) rfl) rfl
theorem wm_419 : Cond.methodLink RX5 221 yX5_hulls ∈ tt := tt_3 (List.mem_of_getElem? (i := 167) rfl) rfl
theorem wm_420 : Cond.instanceMethod yX5_hulls ∈ tt := tt_3 (List.mem_of_getElem? (i := 169) rfl) rfl
theorem wm_421 : Cond.selects RX5 yX5_hulls yX5_hulls ∈ tt := tt_0 (List.mem_of_getElem? (i := 38) rfl) rfl
theorem wm_422 : Cond.code yX5_hulls cX5_hulls 6 (some .int) ∈ tt := tt_3 (List.mem_of_getElem? (i := 170) rfl) rfl
theorem wm_423 : Cond.methodLink RX5 209 yX5_isIn ∈ tt := tt_3 (List.mem_of_getElem? (i := 171) rfl) rfl
theorem wm_424 : Cond.instanceMethod yX5_isIn ∈ tt := tt_3 (List.mem_of_getElem? (i := 173) rfl) rfl
theorem wm_425 : Cond.selects RX5 yX5_isIn yX5_isIn ∈ tt := tt_0 (List.mem_of_getElem? (i := 39) rfl) rfl
theorem wm_426 : Cond.code yX5_isIn cX5_isIn 3 (some .boolean) ∈ tt := tt_3 (List.mem_of_getElem? (i := 174) rfl) rfl
theorem wm_427 : Cond.methodLink RL 37 yX4_slur ∈ tt := tt_2 (List.mem_of_getElem? (i := 111) rfl) rfl
theorem wm_428 : Cond.instanceMethod yX4_slur ∈ tt := tt_2 (List.mem_of_getElem? (i := 112) rfl) rfl
theorem wm_429 : Cond.selects RX4 yX4_slur yX4_slur ∈ tt := tt_2 (List.mem_of_getElem? (i := 113) rfl) rfl
theorem wm_430 : Cond.code yX4_slur cX4_slur 3 (some .int) ∈ tt := tt_2 (List.mem_of_getElem? (i := 114) rfl) rfl
theorem wm_431 : Cond.methodLink RL 40 yX5_slur ∈ tt := tt_3 (List.mem_of_getElem? (i := 175) rfl) rfl
theorem wm_432 : Cond.instanceMethod yX5_slur ∈ tt := tt_3 (List.mem_of_getElem? (i := 176) rfl) rfl
theorem wm_433 : Cond.selects RX5 yX5_slur yX5_slur ∈ tt := tt_3 (List.mem_of_getElem? (i := 177) rfl) rfl
theorem wm_434 : Cond.code yX5_slur cX5_slur 3 (some .int) ∈ tt := tt_3 (List.mem_of_getElem? (i := 178) rfl) rfl
theorem wm_435 : Cond.methodLink RL 41 yX4_again ∈ tt := tt_2 (List.mem_of_getElem? (i := 115) rfl) rfl
theorem wm_436 : Cond.instanceMethod yX4_again ∈ tt := tt_2 (List.mem_of_getElem? (i := 116) rfl) rfl
theorem wm_437 : Cond.selects RX4 yX4_again yX4_again ∈ tt := tt_2 (List.mem_of_getElem? (i := 117) rfl) rfl
theorem wm_438 : Cond.code yX4_again cX4_again 4 (some .int) ∈ tt := tt_2 (List.mem_of_getElem? (i := 118) rfl) rfl
theorem wm_439 : Cond.methodLink RL 45 yX5_again ∈ tt := tt_3 (List.mem_of_getElem? (i := 179) rfl) rfl
theorem wm_440 : Cond.instanceMethod yX5_again ∈ tt := tt_3 (List.mem_of_getElem? (i := 180) rfl) rfl
theorem wm_441 : Cond.selects RX5 yX5_again yX5_again ∈ tt := tt_3 (List.mem_of_getElem? (i := 181) rfl) rfl
theorem wm_442 : Cond.code yX5_again cX5_again 5 (some .int) ∈ tt := tt_3 (List.mem_of_getElem? (i := 182) rfl) rfl
theorem wm_443 : Cond.methodLink RL 46 yX4_curve ∈ tt := tt_2 (List.mem_of_getElem? (i := 119) rfl) rfl
theorem wm_444 : Cond.instanceMethod yX4_curve ∈ tt := tt_2 (List.mem_of_getElem? (i := 120) rfl) rfl
theorem wm_445 : Cond.selects RX4 yX4_curve yX4_curve ∈ tt := tt_2 (List.mem_of_getElem? (i := 121) rfl) rfl
theorem wm_446 : Cond.code yX4_curve cX4_curve 4 (some .int) ∈ tt := tt_2 (List.mem_of_getElem? (i := 122) rfl) rfl
theorem wm_447 : Cond.fieldLink RX4 103 "CurveTies$Note" "number" "I" ∈ tt := tt_1 (List.mem_of_getElem? (i := 119) rfl) rfl
theorem wm_448 : Cond.fieldLink RX4 109 "CurveTies$Curve" "side" "I" ∈ tt := tt_1 (List.mem_of_getElem? (i := 226) rfl) rfl
theorem wm_449 : Cond.fieldLink RX4 115 "CurveTies$Curve" "isTie" "Z" ∈ tt := tt_1 (List.mem_of_getElem? (i := 223) rfl) rfl
theorem wm_450 : Cond.methodLink RX4 96 yX4_isCurve ∈ tt := tt_2 (List.mem_of_getElem? (i := 123) rfl) rfl
theorem wm_451 : Cond.instanceMethod yX4_isCurve ∈ tt := tt_2 (List.mem_of_getElem? (i := 125) rfl) rfl
theorem wm_452 : Cond.selects RX4 yX4_isCurve yX4_isCurve ∈ tt := tt_0 (List.mem_of_getElem? (i := 15) rfl) rfl
theorem wm_453 : Cond.code yX4_isCurve cX4_isCurve 2 (some .boolean) ∈ tt := tt_2 (List.mem_of_getElem? (i := 126) rfl) rfl
theorem wm_454 : Cond.methodLink RL 49 yX5_curve ∈ tt := tt_3 (List.mem_of_getElem? (i := 183) rfl) rfl
theorem wm_455 : Cond.instanceMethod yX5_curve ∈ tt := tt_3 (List.mem_of_getElem? (i := 184) rfl) rfl
theorem wm_456 : Cond.selects RX5 yX5_curve yX5_curve ∈ tt := tt_3 (List.mem_of_getElem? (i := 185) rfl) rfl
theorem wm_457 : Cond.code yX5_curve cX5_curve 3 (some .int) ∈ tt := tt_3 (List.mem_of_getElem? (i := 186) rfl) rfl
theorem wm_458 : Cond.methodLink RX5 224 yX5_isCurve ∈ tt := tt_3 (List.mem_of_getElem? (i := 187) rfl) rfl
theorem wm_459 : Cond.instanceMethod yX5_isCurve ∈ tt := tt_3 (List.mem_of_getElem? (i := 189) rfl) rfl
theorem wm_460 : Cond.selects RX5 yX5_isCurve yX5_isCurve ∈ tt := tt_0 (List.mem_of_getElem? (i := 40) rfl) rfl
theorem wm_461 : Cond.code yX5_isCurve cX5_isCurve 2 (some .boolean) ∈ tt := tt_3 (List.mem_of_getElem? (i := 190) rfl) rfl
theorem wm_462 : Cond.methodLink RL 50 yX4_part ∈ tt := tt_2 (List.mem_of_getElem? (i := 127) rfl) rfl
theorem wm_463 : Cond.instanceMethod yX4_part ∈ tt := tt_2 (List.mem_of_getElem? (i := 128) rfl) rfl
theorem wm_464 : Cond.selects RX4 yX4_part yX4_part ∈ tt := tt_2 (List.mem_of_getElem? (i := 129) rfl) rfl
theorem wm_465 : Cond.code yX4_part cX4_part 5 (some .int) ∈ tt := tt_2 (List.mem_of_getElem? (i := 130) rfl) rfl
theorem wm_466 : Cond.fieldLink RX4 123 "CurveTies$Part" "line" "I" ∈ tt := tt_2 (List.mem_of_getElem? (i := 32) rfl) rfl
theorem wm_467 : Cond.fieldLink RX4 133 "CurveTies$Part" "arch" "I" ∈ tt := tt_2 (List.mem_of_getElem? (i := 38) rfl) rfl
theorem wm_468 : Cond.methodLink RX4 119 yX4_findPart ∈ tt := tt_2 (List.mem_of_getElem? (i := 131) rfl) rfl
theorem wm_469 : Cond.instanceMethod yX4_findPart ∈ tt := tt_2 (List.mem_of_getElem? (i := 133) rfl) rfl
theorem wm_470 : Cond.selects RX4 yX4_findPart yX4_findPart ∈ tt := tt_0 (List.mem_of_getElem? (i := 16) rfl) rfl
theorem wm_471 : Cond.code yX4_findPart cX4_findPart 3 (some (.object "CurveTies$Part")) ∈ tt := tt_2 (List.mem_of_getElem? (i := 134) rfl) rfl
theorem wm_472 : Cond.methodLink RL 54 yX5_part ∈ tt := tt_3 (List.mem_of_getElem? (i := 191) rfl) rfl
theorem wm_473 : Cond.instanceMethod yX5_part ∈ tt := tt_3 (List.mem_of_getElem? (i := 192) rfl) rfl
theorem wm_474 : Cond.selects RX5 yX5_part yX5_part ∈ tt := tt_3 (List.mem_of_getElem? (i := 193) rfl) rfl
theorem wm_475 : Cond.code yX5_part cX5_part 5 (some .int) ∈ tt := tt_3 (List.mem_of_getElem? (i := 194) rfl) rfl
theorem wm_476 : Cond.methodLink RX5 227 yX5_isPart ∈ tt := tt_3 (List.mem_of_getElem? (i := 195) rfl) rfl
theorem wm_477 : Cond.instanceMethod yX5_isPart ∈ tt := tt_3 (List.mem_of_getElem? (i := 197) rfl) rfl
theorem wm_478 : Cond.selects RX5 yX5_isPart yX5_isPart ∈ tt := tt_0 (List.mem_of_getElem? (i := 41) rfl) rfl
theorem wm_479 : Cond.code yX5_isPart cX5_isPart 3 (some .boolean) ∈ tt := tt_3 (List.mem_of_getElem? (i := 198) rfl) rfl
theorem wm_480 : Cond.methodLink RL 55 yX4_point ∈ tt := tt_2 (List.mem_of_getElem? (i := 135) rfl) rfl
theorem wm_481 : Cond.instanceMethod yX4_point ∈ tt := tt_2 (List.mem_of_getElem? (i := 136) rfl) rfl
theorem wm_482 : Cond.selects RX4 yX4_point yX4_point ∈ tt := tt_2 (List.mem_of_getElem? (i := 137) rfl) rfl
theorem wm_483 : Cond.code yX4_point cX4_point 6 (some .int) ∈ tt := tt_2 (List.mem_of_getElem? (i := 138) rfl) rfl
theorem wm_484 : Cond.methodLink RX4 142 yX1_row ∈ tt := tt_2 (List.mem_of_getElem? (i := 139) rfl) rfl
theorem wm_485 : Cond.instanceMethod yX1_row ∈ tt := tt_2 (List.mem_of_getElem? (i := 140) rfl) rfl
theorem wm_486 : Cond.selects RX1 yX1_row yX1_row ∈ tt := tt_2 (List.mem_of_getElem? (i := 141) rfl) rfl
theorem wm_487 : Cond.code yX1_row cX1_row 2 (some (.array .int)) ∈ tt := tt_2 (List.mem_of_getElem? (i := 142) rfl) rfl
theorem wm_488 : Cond.methodLink RL 59 yX5_point ∈ tt := tt_3 (List.mem_of_getElem? (i := 199) rfl) rfl
theorem wm_489 : Cond.instanceMethod yX5_point ∈ tt := tt_3 (List.mem_of_getElem? (i := 200) rfl) rfl
theorem wm_490 : Cond.selects RX5 yX5_point yX5_point ∈ tt := tt_3 (List.mem_of_getElem? (i := 201) rfl) rfl
theorem wm_491 : Cond.code yX5_point cX5_point 6 (some .int) ∈ tt := tt_3 (List.mem_of_getElem? (i := 202) rfl) rfl
theorem wm_492 : Cond.methodLink RL 60 yX4_candidate ∈ tt := tt_2 (List.mem_of_getElem? (i := 143) rfl) rfl
theorem wm_493 : Cond.instanceMethod yX4_candidate ∈ tt := tt_2 (List.mem_of_getElem? (i := 144) rfl) rfl
theorem wm_494 : Cond.selects RX4 yX4_candidate yX4_candidate ∈ tt := tt_2 (List.mem_of_getElem? (i := 145) rfl) rfl
theorem wm_495 : Cond.code yX4_candidate cX4_candidate 6 (some .int) ∈ tt := tt_2 (List.mem_of_getElem? (i := 146) rfl) rfl
theorem wm_496 : Cond.methodLink RL 63 yX5_candidate ∈ tt := tt_3 (List.mem_of_getElem? (i := 203) rfl) rfl
theorem wm_497 : Cond.instanceMethod yX5_candidate ∈ tt := tt_3 (List.mem_of_getElem? (i := 204) rfl) rfl
theorem wm_498 : Cond.selects RX5 yX5_candidate yX5_candidate ∈ tt := tt_3 (List.mem_of_getElem? (i := 205) rfl) rfl
theorem wm_499 : Cond.code yX5_candidate cX5_candidate 6 (some .int) ∈ tt := tt_3 (List.mem_of_getElem? (i := 206) rfl) rfl
theorem wm_500 : Cond.methodLink RL 64 yX4_along ∈ tt := tt_2 (List.mem_of_getElem? (i := 147) rfl) rfl
theorem wm_501 : Cond.instanceMethod yX4_along ∈ tt := tt_2 (List.mem_of_getElem? (i := 148) rfl) rfl
theorem wm_502 : Cond.selects RX4 yX4_along yX4_along ∈ tt := tt_2 (List.mem_of_getElem? (i := 149) rfl) rfl
theorem wm_503 : Cond.code yX4_along cX4_along 11 (some .long) ∈ tt := tt_2 (List.mem_of_getElem? (i := 150) rfl) rfl
theorem wm_504 : Cond.constantLong RX4 157 (-9000000000001) ∈ tt := tt_2 (List.mem_of_getElem? (i := 151) rfl) rfl
theorem wm_505 : Cond.constantLong RX4 159 (-9000000000002) ∈ tt := tt_2 (List.mem_of_getElem? (i := 152) rfl) rfl
theorem wm_506 : Cond.constantLong RX4 161 (64) ∈ tt := tt_2 (List.mem_of_getElem? (i := 153) rfl) rfl
theorem wm_507 : Cond.constantLong RX4 163 (3) ∈ tt := tt_2 (List.mem_of_getElem? (i := 154) rfl) rfl
theorem wm_508 : Cond.methodLink RL 68 yX5_along ∈ tt := tt_3 (List.mem_of_getElem? (i := 207) rfl) rfl
theorem wm_509 : Cond.instanceMethod yX5_along ∈ tt := tt_3 (List.mem_of_getElem? (i := 208) rfl) rfl
theorem wm_510 : Cond.selects RX5 yX5_along yX5_along ∈ tt := tt_3 (List.mem_of_getElem? (i := 209) rfl) rfl
theorem wm_511 : Cond.code yX5_along cX5_along 13 (some .long) ∈ tt := tt_3 (List.mem_of_getElem? (i := 210) rfl) rfl
theorem wm_512 : Cond.constantLong RX5 230 (-9000000000001) ∈ tt := tt_3 (List.mem_of_getElem? (i := 211) rfl) rfl
theorem wm_513 : Cond.constantLong RX5 232 (-9000000000002) ∈ tt := tt_3 (List.mem_of_getElem? (i := 212) rfl) rfl
theorem wm_514 : Cond.constantLong RX5 234 (3) ∈ tt := tt_3 (List.mem_of_getElem? (i := 213) rfl) rfl
theorem wm_515 : Cond.methodLink RL 69 yX4_within ∈ tt := tt_2 (List.mem_of_getElem? (i := 155) rfl) rfl
theorem wm_516 : Cond.instanceMethod yX4_within ∈ tt := tt_2 (List.mem_of_getElem? (i := 156) rfl) rfl
theorem wm_517 : Cond.selects RX4 yX4_within yX4_within ∈ tt := tt_2 (List.mem_of_getElem? (i := 157) rfl) rfl
theorem wm_518 : Cond.code yX4_within cX4_within 7 (some .int) ∈ tt := tt_2 (List.mem_of_getElem? (i := 158) rfl) rfl
theorem wm_519 : Cond.methodLink RL 72 yX5_within ∈ tt := tt_3 (List.mem_of_getElem? (i := 214) rfl) rfl
theorem wm_520 : Cond.instanceMethod yX5_within ∈ tt := tt_3 (List.mem_of_getElem? (i := 215) rfl) rfl
theorem wm_521 : Cond.selects RX5 yX5_within yX5_within ∈ tt := tt_3 (List.mem_of_getElem? (i := 216) rfl) rfl
theorem wm_522 : Cond.code yX5_within cX5_within 5 (some .int) ∈ tt := tt_3 (List.mem_of_getElem? (i := 217) rfl) rfl
theorem wm_523 : Cond.methodLink RL 73 yX4_count ∈ tt := tt_2 (List.mem_of_getElem? (i := 159) rfl) rfl
theorem wm_524 : Cond.instanceMethod yX4_count ∈ tt := tt_2 (List.mem_of_getElem? (i := 160) rfl) rfl
theorem wm_525 : Cond.selects RX4 yX4_count yX4_count ∈ tt := tt_2 (List.mem_of_getElem? (i := 161) rfl) rfl
theorem wm_526 : Cond.code yX4_count cX4_count 2 (some .int) ∈ tt := tt_2 (List.mem_of_getElem? (i := 162) rfl) rfl
theorem wm_527 : Cond.methodLink RX4 172 yX4_collidingParts ∈ tt := tt_2 (List.mem_of_getElem? (i := 163) rfl) rfl
theorem wm_528 : Cond.instanceMethod yX4_collidingParts ∈ tt := tt_2 (List.mem_of_getElem? (i := 165) rfl) rfl
theorem wm_529 : Cond.selects RX4 yX4_collidingParts yX4_collidingParts ∈ tt := tt_0 (List.mem_of_getElem? (i := 17) rfl) rfl
theorem wm_530 : Cond.code yX4_collidingParts cX4_collidingParts 3 (some .int) ∈ tt := tt_2 (List.mem_of_getElem? (i := 166) rfl) rfl
theorem wm_531 : Cond.methodLink RL 76 yX5_count ∈ tt := tt_3 (List.mem_of_getElem? (i := 218) rfl) rfl
theorem wm_532 : Cond.instanceMethod yX5_count ∈ tt := tt_3 (List.mem_of_getElem? (i := 219) rfl) rfl
theorem wm_533 : Cond.selects RX5 yX5_count yX5_count ∈ tt := tt_3 (List.mem_of_getElem? (i := 220) rfl) rfl
theorem wm_534 : Cond.code yX5_count cX5_count 4 (some .int) ∈ tt := tt_3 (List.mem_of_getElem? (i := 221) rfl) rfl
theorem wm_535 : Cond.methodLink RL 77 yX4_clear ∈ tt := tt_2 (List.mem_of_getElem? (i := 167) rfl) rfl
theorem wm_536 : Cond.instanceMethod yX4_clear ∈ tt := tt_2 (List.mem_of_getElem? (i := 168) rfl) rfl
theorem wm_537 : Cond.selects RX4 yX4_clear yX4_clear ∈ tt := tt_2 (List.mem_of_getElem? (i := 169) rfl) rfl
theorem wm_538 : Cond.code yX4_clear cX4_clear 2 (some .int) ∈ tt := tt_2 (List.mem_of_getElem? (i := 170) rfl) rfl
theorem wm_539 : Cond.methodLink RL 80 yX5_clear ∈ tt := tt_3 (List.mem_of_getElem? (i := 222) rfl) rfl
theorem wm_540 : Cond.instanceMethod yX5_clear ∈ tt := tt_3 (List.mem_of_getElem? (i := 223) rfl) rfl
theorem wm_541 : Cond.selects RX5 yX5_clear yX5_clear ∈ tt := tt_3 (List.mem_of_getElem? (i := 224) rfl) rfl
theorem wm_542 : Cond.code yX5_clear cX5_clear 2 (some .int) ∈ tt := tt_3 (List.mem_of_getElem? (i := 225) rfl) rfl
theorem inX0 : ∀ w ∈ u_ws RX0 TX0 6, w ∈ tt := tt_in [229, 231, 233, 235, 237, 239] (by decide +kernel) (by decide +kernel)
theorem inX1 : ∀ w ∈ u_ws RX1 TX1 7, w ∈ tt := tt_in [41, 43, 45, 47, 49, 51, 53] (by decide +kernel) (by decide +kernel)
theorem inX2 : ∀ w ∈ u_ws RX2 TX2 5, w ∈ tt := tt_in [131, 133, 135, 137, 139] (by decide +kernel) (by decide +kernel)
theorem inX3 : ∀ w ∈ u_ws RX3 TX3 10, w ∈ tt := tt_in [284, 286, 288, 290, 292, 294, 296, 298, 300, 302] (by decide +kernel) (by decide +kernel)
theorem inX4 : ∀ w ∈ u_ws RX4 TX4 12, w ∈ tt := tt_in [73, 75, 77, 79, 81, 83, 85, 87, 89, 91, 93, 95] (by decide +kernel) (by decide +kernel)
theorem inX5 : ∀ w ∈ u_ws RX5 TX5 36, w ∈ tt := tt_in [453, 455, 457, 459, 461, 463, 465, 467, 469, 471, 473, 475, 477, 479, 481, 483, 485, 487, 489, 491, 493, 495, 497, 499, 501, 503, 505, 507, 509, 511, 513, 515, 517, 519, 521, 523] (by decide +kernel) (by decide +kernel)
end
section
theorem dJ9_max_7cf53_0 : decode cJ9_max_7cf53 0 = .ok (.iload_n 0, 1) := by decide +kernel
theorem dJ9_max_7cf53_1 : decode cJ9_max_7cf53 1 = .ok (.iload_n 1, 1) := by decide +kernel
theorem dJ9_max_7cf53_2 : decode cJ9_max_7cf53 2 = .ok (.if_icmp .lt 7, 3) := by decide +kernel
theorem dJ9_max_7cf53_5 : decode cJ9_max_7cf53 5 = .ok (.iload_n 0, 1) := by decide +kernel
theorem dJ9_max_7cf53_6 : decode cJ9_max_7cf53 6 = .ok (.goto 4, 3) := by decide +kernel
theorem dJ9_max_7cf53_9 : decode cJ9_max_7cf53 9 = .ok (.iload_n 1, 1) := by decide +kernel
theorem dJ9_max_7cf53_10 : decode cJ9_max_7cf53 10 = .ok (.ireturn, 1) := by decide +kernel
theorem dJ9_min_7cf53_0 : decode cJ9_min_7cf53 0 = .ok (.iload_n 0, 1) := by decide +kernel
theorem dJ9_min_7cf53_1 : decode cJ9_min_7cf53 1 = .ok (.iload_n 1, 1) := by decide +kernel
theorem dJ9_min_7cf53_2 : decode cJ9_min_7cf53 2 = .ok (.if_icmp .gt 7, 3) := by decide +kernel
theorem dJ9_min_7cf53_5 : decode cJ9_min_7cf53 5 = .ok (.iload_n 0, 1) := by decide +kernel
theorem dJ9_min_7cf53_6 : decode cJ9_min_7cf53 6 = .ok (.goto 4, 3) := by decide +kernel
theorem dJ9_min_7cf53_9 : decode cJ9_min_7cf53 9 = .ok (.iload_n 1, 1) := by decide +kernel
theorem dJ9_min_7cf53_10 : decode cJ9_min_7cf53 10 = .ok (.ireturn, 1) := by decide +kernel
end
section
theorem dL_law_0 : decode cL_law 0 = .ok (.new 7, 3) := by decide +kernel
theorem dL_law_3 : decode cL_law 3 = .ok (.dup, 1) := by decide +kernel
theorem dL_law_4 : decode cL_law 4 = .ok (.invokespecial 9, 3) := by decide +kernel
theorem dL_law_7 : decode cL_law 7 = .ok (.astore_n 1, 1) := by decide +kernel
theorem dL_law_8 : decode cL_law 8 = .ok (.new 10, 3) := by decide +kernel
theorem dL_law_11 : decode cL_law 11 = .ok (.dup, 1) := by decide +kernel
theorem dL_law_12 : decode cL_law 12 = .ok (.invokespecial 12, 3) := by decide +kernel
theorem dL_law_15 : decode cL_law 15 = .ok (.astore_n 2, 1) := by decide +kernel
theorem dL_law_16 : decode cL_law 16 = .ok (.iconst 0, 1) := by decide +kernel
theorem dL_law_17 : decode cL_law 17 = .ok (.istore_n 3, 1) := by decide +kernel
theorem dL_law_18 : decode cL_law 18 = .ok (.iload_n 3, 1) := by decide +kernel
theorem dL_law_19 : decode cL_law 19 = .ok (.aload_n 0, 1) := by decide +kernel
theorem dL_law_20 : decode cL_law 20 = .ok (.arraylength, 1) := by decide +kernel
theorem dL_law_21 : decode cL_law 21 = .ok (.bipush 6, 2) := by decide +kernel
theorem dL_law_23 : decode cL_law 23 = .ok (.isub, 1) := by decide +kernel
theorem dL_law_24 : decode cL_law 24 = .ok (.if_icmp .gt 712, 3) := by decide +kernel
theorem dL_law_27 : decode cL_law 27 = .ok (.aload_n 0, 1) := by decide +kernel
theorem dL_law_28 : decode cL_law 28 = .ok (.iload_n 3, 1) := by decide +kernel
theorem dL_law_29 : decode cL_law 29 = .ok (.iaload, 1) := by decide +kernel
theorem dL_law_30 : decode cL_law 30 = .ok (.bipush 15, 2) := by decide +kernel
theorem dL_law_32 : decode cL_law 32 = .ok (.iand, 1) := by decide +kernel
theorem dL_law_33 : decode cL_law 33 = .ok (.tableswitch 697 0 14 #[75, 98, 167, 230, 293, 326, 359, 372, 405, 448, 501, 554, 608, 661, 684], 75) := by decide +kernel
theorem dL_law_108 : decode cL_law 108 = .ok (.aload_n 1, 1) := by decide +kernel
theorem dL_law_109 : decode cL_law 109 = .ok (.aload_n 0, 1) := by decide +kernel
theorem dL_law_110 : decode cL_law 110 = .ok (.iload_n 3, 1) := by decide +kernel
theorem dL_law_111 : decode cL_law 111 = .ok (.iconst 1, 1) := by decide +kernel
theorem dL_law_112 : decode cL_law 112 = .ok (.iadd, 1) := by decide +kernel
theorem dL_law_113 : decode cL_law 113 = .ok (.iaload, 1) := by decide +kernel
theorem dL_law_114 : decode cL_law 114 = .ok (.invokevirtual 13, 3) := by decide +kernel
theorem dL_law_117 : decode cL_law 117 = .ok (.aload_n 2, 1) := by decide +kernel
theorem dL_law_118 : decode cL_law 118 = .ok (.aload_n 0, 1) := by decide +kernel
theorem dL_law_119 : decode cL_law 119 = .ok (.iload_n 3, 1) := by decide +kernel
theorem dL_law_120 : decode cL_law 120 = .ok (.iconst 1, 1) := by decide +kernel
theorem dL_law_121 : decode cL_law 121 = .ok (.iadd, 1) := by decide +kernel
theorem dL_law_122 : decode cL_law 122 = .ok (.iaload, 1) := by decide +kernel
theorem dL_law_123 : decode cL_law 123 = .ok (.invokevirtual 17, 3) := by decide +kernel
theorem dL_law_126 : decode cL_law 126 = .ok (.if_icmp .eq 604, 3) := by decide +kernel
theorem dL_law_129 : decode cL_law 129 = .ok (.iconst 0, 1) := by decide +kernel
theorem dL_law_130 : decode cL_law 130 = .ok (.ireturn, 1) := by decide +kernel
theorem dL_law_131 : decode cL_law 131 = .ok (.aload_n 1, 1) := by decide +kernel
theorem dL_law_132 : decode cL_law 132 = .ok (.aload_n 0, 1) := by decide +kernel
theorem dL_law_133 : decode cL_law 133 = .ok (.iload_n 3, 1) := by decide +kernel
theorem dL_law_134 : decode cL_law 134 = .ok (.iconst 1, 1) := by decide +kernel
theorem dL_law_135 : decode cL_law 135 = .ok (.iadd, 1) := by decide +kernel
theorem dL_law_136 : decode cL_law 136 = .ok (.iaload, 1) := by decide +kernel
theorem dL_law_137 : decode cL_law 137 = .ok (.aload_n 0, 1) := by decide +kernel
theorem dL_law_138 : decode cL_law 138 = .ok (.iload_n 3, 1) := by decide +kernel
theorem dL_law_139 : decode cL_law 139 = .ok (.iconst 2, 1) := by decide +kernel
theorem dL_law_140 : decode cL_law 140 = .ok (.iadd, 1) := by decide +kernel
theorem dL_law_141 : decode cL_law 141 = .ok (.iaload, 1) := by decide +kernel
theorem dL_law_142 : decode cL_law 142 = .ok (.aload_n 0, 1) := by decide +kernel
theorem dL_law_143 : decode cL_law 143 = .ok (.iload_n 3, 1) := by decide +kernel
theorem dL_law_144 : decode cL_law 144 = .ok (.iconst 3, 1) := by decide +kernel
theorem dL_law_145 : decode cL_law 145 = .ok (.iadd, 1) := by decide +kernel
theorem dL_law_146 : decode cL_law 146 = .ok (.iaload, 1) := by decide +kernel
theorem dL_law_147 : decode cL_law 147 = .ok (.aload_n 0, 1) := by decide +kernel
theorem dL_law_148 : decode cL_law 148 = .ok (.iload_n 3, 1) := by decide +kernel
theorem dL_law_149 : decode cL_law 149 = .ok (.iconst 4, 1) := by decide +kernel
theorem dL_law_150 : decode cL_law 150 = .ok (.iadd, 1) := by decide +kernel
theorem dL_law_151 : decode cL_law 151 = .ok (.iaload, 1) := by decide +kernel
theorem dL_law_152 : decode cL_law 152 = .ok (.ifCond .eq 7, 3) := by decide +kernel
theorem dL_law_155 : decode cL_law 155 = .ok (.iconst 1, 1) := by decide +kernel
theorem dL_law_156 : decode cL_law 156 = .ok (.goto 4, 3) := by decide +kernel
theorem dL_law_159 : decode cL_law 159 = .ok (.iconst 0, 1) := by decide +kernel
theorem dL_law_160 : decode cL_law 160 = .ok (.invokevirtual 18, 3) := by decide +kernel
theorem dL_law_163 : decode cL_law 163 = .ok (.aload_n 2, 1) := by decide +kernel
theorem dL_law_164 : decode cL_law 164 = .ok (.aload_n 0, 1) := by decide +kernel
theorem dL_law_165 : decode cL_law 165 = .ok (.iload_n 3, 1) := by decide +kernel
theorem dL_law_166 : decode cL_law 166 = .ok (.iconst 1, 1) := by decide +kernel
theorem dL_law_167 : decode cL_law 167 = .ok (.iadd, 1) := by decide +kernel
theorem dL_law_168 : decode cL_law 168 = .ok (.iaload, 1) := by decide +kernel
theorem dL_law_169 : decode cL_law 169 = .ok (.aload_n 0, 1) := by decide +kernel
theorem dL_law_170 : decode cL_law 170 = .ok (.iload_n 3, 1) := by decide +kernel
theorem dL_law_171 : decode cL_law 171 = .ok (.iconst 2, 1) := by decide +kernel
theorem dL_law_172 : decode cL_law 172 = .ok (.iadd, 1) := by decide +kernel
theorem dL_law_173 : decode cL_law 173 = .ok (.iaload, 1) := by decide +kernel
theorem dL_law_174 : decode cL_law 174 = .ok (.aload_n 0, 1) := by decide +kernel
theorem dL_law_175 : decode cL_law 175 = .ok (.iload_n 3, 1) := by decide +kernel
theorem dL_law_176 : decode cL_law 176 = .ok (.iconst 3, 1) := by decide +kernel
theorem dL_law_177 : decode cL_law 177 = .ok (.iadd, 1) := by decide +kernel
theorem dL_law_178 : decode cL_law 178 = .ok (.iaload, 1) := by decide +kernel
theorem dL_law_179 : decode cL_law 179 = .ok (.aload_n 0, 1) := by decide +kernel
theorem dL_law_180 : decode cL_law 180 = .ok (.iload_n 3, 1) := by decide +kernel
theorem dL_law_181 : decode cL_law 181 = .ok (.iconst 4, 1) := by decide +kernel
theorem dL_law_182 : decode cL_law 182 = .ok (.iadd, 1) := by decide +kernel
theorem dL_law_183 : decode cL_law 183 = .ok (.iaload, 1) := by decide +kernel
theorem dL_law_184 : decode cL_law 184 = .ok (.ifCond .eq 7, 3) := by decide +kernel
theorem dL_law_187 : decode cL_law 187 = .ok (.iconst 1, 1) := by decide +kernel
theorem dL_law_188 : decode cL_law 188 = .ok (.goto 4, 3) := by decide +kernel
theorem dL_law_191 : decode cL_law 191 = .ok (.iconst 0, 1) := by decide +kernel
theorem dL_law_192 : decode cL_law 192 = .ok (.invokevirtual 22, 3) := by decide +kernel
theorem dL_law_195 : decode cL_law 195 = .ok (.if_icmp .eq 535, 3) := by decide +kernel
theorem dL_law_198 : decode cL_law 198 = .ok (.iconst 0, 1) := by decide +kernel
theorem dL_law_199 : decode cL_law 199 = .ok (.ireturn, 1) := by decide +kernel
theorem dL_law_200 : decode cL_law 200 = .ok (.aload_n 1, 1) := by decide +kernel
theorem dL_law_201 : decode cL_law 201 = .ok (.aload_n 0, 1) := by decide +kernel
theorem dL_law_202 : decode cL_law 202 = .ok (.iload_n 3, 1) := by decide +kernel
theorem dL_law_203 : decode cL_law 203 = .ok (.iconst 1, 1) := by decide +kernel
theorem dL_law_204 : decode cL_law 204 = .ok (.iadd, 1) := by decide +kernel
theorem dL_law_205 : decode cL_law 205 = .ok (.iaload, 1) := by decide +kernel
theorem dL_law_206 : decode cL_law 206 = .ok (.aload_n 0, 1) := by decide +kernel
theorem dL_law_207 : decode cL_law 207 = .ok (.iload_n 3, 1) := by decide +kernel
theorem dL_law_208 : decode cL_law 208 = .ok (.iconst 2, 1) := by decide +kernel
theorem dL_law_209 : decode cL_law 209 = .ok (.iadd, 1) := by decide +kernel
theorem dL_law_210 : decode cL_law 210 = .ok (.iaload, 1) := by decide +kernel
theorem dL_law_211 : decode cL_law 211 = .ok (.aload_n 0, 1) := by decide +kernel
theorem dL_law_212 : decode cL_law 212 = .ok (.iload_n 3, 1) := by decide +kernel
theorem dL_law_213 : decode cL_law 213 = .ok (.iconst 3, 1) := by decide +kernel
theorem dL_law_214 : decode cL_law 214 = .ok (.iadd, 1) := by decide +kernel
theorem dL_law_215 : decode cL_law 215 = .ok (.iaload, 1) := by decide +kernel
theorem dL_law_216 : decode cL_law 216 = .ok (.aload_n 0, 1) := by decide +kernel
theorem dL_law_217 : decode cL_law 217 = .ok (.iload_n 3, 1) := by decide +kernel
theorem dL_law_218 : decode cL_law 218 = .ok (.iconst 4, 1) := by decide +kernel
theorem dL_law_219 : decode cL_law 219 = .ok (.iadd, 1) := by decide +kernel
theorem dL_law_220 : decode cL_law 220 = .ok (.iaload, 1) := by decide +kernel
theorem dL_law_221 : decode cL_law 221 = .ok (.aload_n 0, 1) := by decide +kernel
theorem dL_law_222 : decode cL_law 222 = .ok (.iload_n 3, 1) := by decide +kernel
theorem dL_law_223 : decode cL_law 223 = .ok (.iconst 5, 1) := by decide +kernel
theorem dL_law_224 : decode cL_law 224 = .ok (.iadd, 1) := by decide +kernel
theorem dL_law_225 : decode cL_law 225 = .ok (.iaload, 1) := by decide +kernel
theorem dL_law_226 : decode cL_law 226 = .ok (.invokevirtual 23, 3) := by decide +kernel
theorem dL_law_229 : decode cL_law 229 = .ok (.aload_n 2, 1) := by decide +kernel
theorem dL_law_230 : decode cL_law 230 = .ok (.aload_n 0, 1) := by decide +kernel
theorem dL_law_231 : decode cL_law 231 = .ok (.iload_n 3, 1) := by decide +kernel
theorem dL_law_232 : decode cL_law 232 = .ok (.iconst 1, 1) := by decide +kernel
theorem dL_law_233 : decode cL_law 233 = .ok (.iadd, 1) := by decide +kernel
theorem dL_law_234 : decode cL_law 234 = .ok (.iaload, 1) := by decide +kernel
theorem dL_law_235 : decode cL_law 235 = .ok (.aload_n 0, 1) := by decide +kernel
theorem dL_law_236 : decode cL_law 236 = .ok (.iload_n 3, 1) := by decide +kernel
theorem dL_law_237 : decode cL_law 237 = .ok (.iconst 2, 1) := by decide +kernel
theorem dL_law_238 : decode cL_law 238 = .ok (.iadd, 1) := by decide +kernel
theorem dL_law_239 : decode cL_law 239 = .ok (.iaload, 1) := by decide +kernel
theorem dL_law_240 : decode cL_law 240 = .ok (.aload_n 0, 1) := by decide +kernel
theorem dL_law_241 : decode cL_law 241 = .ok (.iload_n 3, 1) := by decide +kernel
theorem dL_law_242 : decode cL_law 242 = .ok (.iconst 3, 1) := by decide +kernel
theorem dL_law_243 : decode cL_law 243 = .ok (.iadd, 1) := by decide +kernel
theorem dL_law_244 : decode cL_law 244 = .ok (.iaload, 1) := by decide +kernel
theorem dL_law_245 : decode cL_law 245 = .ok (.aload_n 0, 1) := by decide +kernel
theorem dL_law_246 : decode cL_law 246 = .ok (.iload_n 3, 1) := by decide +kernel
theorem dL_law_247 : decode cL_law 247 = .ok (.iconst 4, 1) := by decide +kernel
theorem dL_law_248 : decode cL_law 248 = .ok (.iadd, 1) := by decide +kernel
theorem dL_law_249 : decode cL_law 249 = .ok (.iaload, 1) := by decide +kernel
theorem dL_law_250 : decode cL_law 250 = .ok (.aload_n 0, 1) := by decide +kernel
theorem dL_law_251 : decode cL_law 251 = .ok (.iload_n 3, 1) := by decide +kernel
theorem dL_law_252 : decode cL_law 252 = .ok (.iconst 5, 1) := by decide +kernel
theorem dL_law_253 : decode cL_law 253 = .ok (.iadd, 1) := by decide +kernel
theorem dL_law_254 : decode cL_law 254 = .ok (.iaload, 1) := by decide +kernel
theorem dL_law_255 : decode cL_law 255 = .ok (.invokevirtual 27, 3) := by decide +kernel
theorem dL_law_258 : decode cL_law 258 = .ok (.if_icmp .eq 472, 3) := by decide +kernel
theorem dL_law_261 : decode cL_law 261 = .ok (.iconst 0, 1) := by decide +kernel
theorem dL_law_262 : decode cL_law 262 = .ok (.ireturn, 1) := by decide +kernel
theorem dL_law_263 : decode cL_law 263 = .ok (.aload_n 1, 1) := by decide +kernel
theorem dL_law_264 : decode cL_law 264 = .ok (.aload_n 0, 1) := by decide +kernel
theorem dL_law_265 : decode cL_law 265 = .ok (.iload_n 3, 1) := by decide +kernel
theorem dL_law_266 : decode cL_law 266 = .ok (.iconst 1, 1) := by decide +kernel
theorem dL_law_267 : decode cL_law 267 = .ok (.iadd, 1) := by decide +kernel
theorem dL_law_268 : decode cL_law 268 = .ok (.iaload, 1) := by decide +kernel
theorem dL_law_269 : decode cL_law 269 = .ok (.aload_n 0, 1) := by decide +kernel
theorem dL_law_270 : decode cL_law 270 = .ok (.iload_n 3, 1) := by decide +kernel
theorem dL_law_271 : decode cL_law 271 = .ok (.iconst 2, 1) := by decide +kernel
theorem dL_law_272 : decode cL_law 272 = .ok (.iadd, 1) := by decide +kernel
theorem dL_law_273 : decode cL_law 273 = .ok (.iaload, 1) := by decide +kernel
theorem dL_law_274 : decode cL_law 274 = .ok (.aload_n 0, 1) := by decide +kernel
theorem dL_law_275 : decode cL_law 275 = .ok (.iload_n 3, 1) := by decide +kernel
theorem dL_law_276 : decode cL_law 276 = .ok (.iconst 3, 1) := by decide +kernel
theorem dL_law_277 : decode cL_law 277 = .ok (.iadd, 1) := by decide +kernel
theorem dL_law_278 : decode cL_law 278 = .ok (.iaload, 1) := by decide +kernel
theorem dL_law_279 : decode cL_law 279 = .ok (.aload_n 0, 1) := by decide +kernel
theorem dL_law_280 : decode cL_law 280 = .ok (.iload_n 3, 1) := by decide +kernel
theorem dL_law_281 : decode cL_law 281 = .ok (.iconst 4, 1) := by decide +kernel
theorem dL_law_282 : decode cL_law 282 = .ok (.iadd, 1) := by decide +kernel
theorem dL_law_283 : decode cL_law 283 = .ok (.iaload, 1) := by decide +kernel
theorem dL_law_284 : decode cL_law 284 = .ok (.aload_n 0, 1) := by decide +kernel
theorem dL_law_285 : decode cL_law 285 = .ok (.iload_n 3, 1) := by decide +kernel
theorem dL_law_286 : decode cL_law 286 = .ok (.iconst 5, 1) := by decide +kernel
theorem dL_law_287 : decode cL_law 287 = .ok (.iadd, 1) := by decide +kernel
theorem dL_law_288 : decode cL_law 288 = .ok (.iaload, 1) := by decide +kernel
theorem dL_law_289 : decode cL_law 289 = .ok (.invokevirtual 28, 3) := by decide +kernel
theorem dL_law_292 : decode cL_law 292 = .ok (.aload_n 2, 1) := by decide +kernel
theorem dL_law_293 : decode cL_law 293 = .ok (.aload_n 0, 1) := by decide +kernel
theorem dL_law_294 : decode cL_law 294 = .ok (.iload_n 3, 1) := by decide +kernel
theorem dL_law_295 : decode cL_law 295 = .ok (.iconst 1, 1) := by decide +kernel
theorem dL_law_296 : decode cL_law 296 = .ok (.iadd, 1) := by decide +kernel
theorem dL_law_297 : decode cL_law 297 = .ok (.iaload, 1) := by decide +kernel
theorem dL_law_298 : decode cL_law 298 = .ok (.aload_n 0, 1) := by decide +kernel
theorem dL_law_299 : decode cL_law 299 = .ok (.iload_n 3, 1) := by decide +kernel
theorem dL_law_300 : decode cL_law 300 = .ok (.iconst 2, 1) := by decide +kernel
theorem dL_law_301 : decode cL_law 301 = .ok (.iadd, 1) := by decide +kernel
theorem dL_law_302 : decode cL_law 302 = .ok (.iaload, 1) := by decide +kernel
theorem dL_law_303 : decode cL_law 303 = .ok (.aload_n 0, 1) := by decide +kernel
theorem dL_law_304 : decode cL_law 304 = .ok (.iload_n 3, 1) := by decide +kernel
theorem dL_law_305 : decode cL_law 305 = .ok (.iconst 3, 1) := by decide +kernel
theorem dL_law_306 : decode cL_law 306 = .ok (.iadd, 1) := by decide +kernel
theorem dL_law_307 : decode cL_law 307 = .ok (.iaload, 1) := by decide +kernel
theorem dL_law_308 : decode cL_law 308 = .ok (.aload_n 0, 1) := by decide +kernel
theorem dL_law_309 : decode cL_law 309 = .ok (.iload_n 3, 1) := by decide +kernel
theorem dL_law_310 : decode cL_law 310 = .ok (.iconst 4, 1) := by decide +kernel
theorem dL_law_311 : decode cL_law 311 = .ok (.iadd, 1) := by decide +kernel
theorem dL_law_312 : decode cL_law 312 = .ok (.iaload, 1) := by decide +kernel
theorem dL_law_313 : decode cL_law 313 = .ok (.aload_n 0, 1) := by decide +kernel
theorem dL_law_314 : decode cL_law 314 = .ok (.iload_n 3, 1) := by decide +kernel
theorem dL_law_315 : decode cL_law 315 = .ok (.iconst 5, 1) := by decide +kernel
theorem dL_law_316 : decode cL_law 316 = .ok (.iadd, 1) := by decide +kernel
theorem dL_law_317 : decode cL_law 317 = .ok (.iaload, 1) := by decide +kernel
theorem dL_law_318 : decode cL_law 318 = .ok (.invokevirtual 31, 3) := by decide +kernel
theorem dL_law_321 : decode cL_law 321 = .ok (.if_icmp .eq 409, 3) := by decide +kernel
theorem dL_law_324 : decode cL_law 324 = .ok (.iconst 0, 1) := by decide +kernel
theorem dL_law_325 : decode cL_law 325 = .ok (.ireturn, 1) := by decide +kernel
theorem dL_law_326 : decode cL_law 326 = .ok (.aload_n 1, 1) := by decide +kernel
theorem dL_law_327 : decode cL_law 327 = .ok (.aload_n 0, 1) := by decide +kernel
theorem dL_law_328 : decode cL_law 328 = .ok (.iload_n 3, 1) := by decide +kernel
theorem dL_law_329 : decode cL_law 329 = .ok (.iconst 1, 1) := by decide +kernel
theorem dL_law_330 : decode cL_law 330 = .ok (.iadd, 1) := by decide +kernel
theorem dL_law_331 : decode cL_law 331 = .ok (.iaload, 1) := by decide +kernel
theorem dL_law_332 : decode cL_law 332 = .ok (.aload_n 0, 1) := by decide +kernel
theorem dL_law_333 : decode cL_law 333 = .ok (.iload_n 3, 1) := by decide +kernel
theorem dL_law_334 : decode cL_law 334 = .ok (.iconst 2, 1) := by decide +kernel
theorem dL_law_335 : decode cL_law 335 = .ok (.iadd, 1) := by decide +kernel
theorem dL_law_336 : decode cL_law 336 = .ok (.iaload, 1) := by decide +kernel
theorem dL_law_337 : decode cL_law 337 = .ok (.invokevirtual 32, 3) := by decide +kernel
theorem dL_law_340 : decode cL_law 340 = .ok (.aload_n 2, 1) := by decide +kernel
theorem dL_law_341 : decode cL_law 341 = .ok (.aload_n 0, 1) := by decide +kernel
theorem dL_law_342 : decode cL_law 342 = .ok (.iload_n 3, 1) := by decide +kernel
theorem dL_law_343 : decode cL_law 343 = .ok (.iconst 1, 1) := by decide +kernel
theorem dL_law_344 : decode cL_law 344 = .ok (.iadd, 1) := by decide +kernel
theorem dL_law_345 : decode cL_law 345 = .ok (.iaload, 1) := by decide +kernel
theorem dL_law_346 : decode cL_law 346 = .ok (.aload_n 0, 1) := by decide +kernel
theorem dL_law_347 : decode cL_law 347 = .ok (.iload_n 3, 1) := by decide +kernel
theorem dL_law_348 : decode cL_law 348 = .ok (.iconst 2, 1) := by decide +kernel
theorem dL_law_349 : decode cL_law 349 = .ok (.iadd, 1) := by decide +kernel
theorem dL_law_350 : decode cL_law 350 = .ok (.iaload, 1) := by decide +kernel
theorem dL_law_351 : decode cL_law 351 = .ok (.invokevirtual 36, 3) := by decide +kernel
theorem dL_law_354 : decode cL_law 354 = .ok (.if_icmp .eq 376, 3) := by decide +kernel
theorem dL_law_357 : decode cL_law 357 = .ok (.iconst 0, 1) := by decide +kernel
theorem dL_law_358 : decode cL_law 358 = .ok (.ireturn, 1) := by decide +kernel
theorem dL_law_359 : decode cL_law 359 = .ok (.aload_n 1, 1) := by decide +kernel
theorem dL_law_360 : decode cL_law 360 = .ok (.aload_n 0, 1) := by decide +kernel
theorem dL_law_361 : decode cL_law 361 = .ok (.iload_n 3, 1) := by decide +kernel
theorem dL_law_362 : decode cL_law 362 = .ok (.iconst 1, 1) := by decide +kernel
theorem dL_law_363 : decode cL_law 363 = .ok (.iadd, 1) := by decide +kernel
theorem dL_law_364 : decode cL_law 364 = .ok (.iaload, 1) := by decide +kernel
theorem dL_law_365 : decode cL_law 365 = .ok (.aload_n 0, 1) := by decide +kernel
theorem dL_law_366 : decode cL_law 366 = .ok (.iload_n 3, 1) := by decide +kernel
theorem dL_law_367 : decode cL_law 367 = .ok (.iconst 2, 1) := by decide +kernel
theorem dL_law_368 : decode cL_law 368 = .ok (.iadd, 1) := by decide +kernel
theorem dL_law_369 : decode cL_law 369 = .ok (.iaload, 1) := by decide +kernel
theorem dL_law_370 : decode cL_law 370 = .ok (.invokevirtual 37, 3) := by decide +kernel
theorem dL_law_373 : decode cL_law 373 = .ok (.aload_n 2, 1) := by decide +kernel
theorem dL_law_374 : decode cL_law 374 = .ok (.aload_n 0, 1) := by decide +kernel
theorem dL_law_375 : decode cL_law 375 = .ok (.iload_n 3, 1) := by decide +kernel
theorem dL_law_376 : decode cL_law 376 = .ok (.iconst 1, 1) := by decide +kernel
theorem dL_law_377 : decode cL_law 377 = .ok (.iadd, 1) := by decide +kernel
theorem dL_law_378 : decode cL_law 378 = .ok (.iaload, 1) := by decide +kernel
theorem dL_law_379 : decode cL_law 379 = .ok (.aload_n 0, 1) := by decide +kernel
theorem dL_law_380 : decode cL_law 380 = .ok (.iload_n 3, 1) := by decide +kernel
theorem dL_law_381 : decode cL_law 381 = .ok (.iconst 2, 1) := by decide +kernel
theorem dL_law_382 : decode cL_law 382 = .ok (.iadd, 1) := by decide +kernel
theorem dL_law_383 : decode cL_law 383 = .ok (.iaload, 1) := by decide +kernel
theorem dL_law_384 : decode cL_law 384 = .ok (.invokevirtual 40, 3) := by decide +kernel
theorem dL_law_387 : decode cL_law 387 = .ok (.if_icmp .eq 343, 3) := by decide +kernel
theorem dL_law_390 : decode cL_law 390 = .ok (.iconst 0, 1) := by decide +kernel
theorem dL_law_391 : decode cL_law 391 = .ok (.ireturn, 1) := by decide +kernel
theorem dL_law_392 : decode cL_law 392 = .ok (.aload_n 1, 1) := by decide +kernel
theorem dL_law_393 : decode cL_law 393 = .ok (.invokevirtual 41, 3) := by decide +kernel
theorem dL_law_396 : decode cL_law 396 = .ok (.aload_n 2, 1) := by decide +kernel
theorem dL_law_397 : decode cL_law 397 = .ok (.invokevirtual 45, 3) := by decide +kernel
theorem dL_law_400 : decode cL_law 400 = .ok (.if_icmp .eq 330, 3) := by decide +kernel
theorem dL_law_403 : decode cL_law 403 = .ok (.iconst 0, 1) := by decide +kernel
theorem dL_law_404 : decode cL_law 404 = .ok (.ireturn, 1) := by decide +kernel
theorem dL_law_405 : decode cL_law 405 = .ok (.aload_n 1, 1) := by decide +kernel
theorem dL_law_406 : decode cL_law 406 = .ok (.aload_n 0, 1) := by decide +kernel
theorem dL_law_407 : decode cL_law 407 = .ok (.iload_n 3, 1) := by decide +kernel
theorem dL_law_408 : decode cL_law 408 = .ok (.iconst 1, 1) := by decide +kernel
theorem dL_law_409 : decode cL_law 409 = .ok (.iadd, 1) := by decide +kernel
theorem dL_law_410 : decode cL_law 410 = .ok (.iaload, 1) := by decide +kernel
theorem dL_law_411 : decode cL_law 411 = .ok (.aload_n 0, 1) := by decide +kernel
theorem dL_law_412 : decode cL_law 412 = .ok (.iload_n 3, 1) := by decide +kernel
theorem dL_law_413 : decode cL_law 413 = .ok (.iconst 2, 1) := by decide +kernel
theorem dL_law_414 : decode cL_law 414 = .ok (.iadd, 1) := by decide +kernel
theorem dL_law_415 : decode cL_law 415 = .ok (.iaload, 1) := by decide +kernel
theorem dL_law_416 : decode cL_law 416 = .ok (.invokevirtual 46, 3) := by decide +kernel
theorem dL_law_419 : decode cL_law 419 = .ok (.aload_n 2, 1) := by decide +kernel
theorem dL_law_420 : decode cL_law 420 = .ok (.aload_n 0, 1) := by decide +kernel
theorem dL_law_421 : decode cL_law 421 = .ok (.iload_n 3, 1) := by decide +kernel
theorem dL_law_422 : decode cL_law 422 = .ok (.iconst 1, 1) := by decide +kernel
theorem dL_law_423 : decode cL_law 423 = .ok (.iadd, 1) := by decide +kernel
theorem dL_law_424 : decode cL_law 424 = .ok (.iaload, 1) := by decide +kernel
theorem dL_law_425 : decode cL_law 425 = .ok (.aload_n 0, 1) := by decide +kernel
theorem dL_law_426 : decode cL_law 426 = .ok (.iload_n 3, 1) := by decide +kernel
theorem dL_law_427 : decode cL_law 427 = .ok (.iconst 2, 1) := by decide +kernel
theorem dL_law_428 : decode cL_law 428 = .ok (.iadd, 1) := by decide +kernel
theorem dL_law_429 : decode cL_law 429 = .ok (.iaload, 1) := by decide +kernel
theorem dL_law_430 : decode cL_law 430 = .ok (.invokevirtual 49, 3) := by decide +kernel
theorem dL_law_433 : decode cL_law 433 = .ok (.if_icmp .eq 297, 3) := by decide +kernel
theorem dL_law_436 : decode cL_law 436 = .ok (.iconst 0, 1) := by decide +kernel
theorem dL_law_437 : decode cL_law 437 = .ok (.ireturn, 1) := by decide +kernel
theorem dL_law_438 : decode cL_law 438 = .ok (.aload_n 1, 1) := by decide +kernel
theorem dL_law_439 : decode cL_law 439 = .ok (.aload_n 0, 1) := by decide +kernel
theorem dL_law_440 : decode cL_law 440 = .ok (.iload_n 3, 1) := by decide +kernel
theorem dL_law_441 : decode cL_law 441 = .ok (.iconst 1, 1) := by decide +kernel
theorem dL_law_442 : decode cL_law 442 = .ok (.iadd, 1) := by decide +kernel
theorem dL_law_443 : decode cL_law 443 = .ok (.iaload, 1) := by decide +kernel
theorem dL_law_444 : decode cL_law 444 = .ok (.aload_n 0, 1) := by decide +kernel
theorem dL_law_445 : decode cL_law 445 = .ok (.iload_n 3, 1) := by decide +kernel
theorem dL_law_446 : decode cL_law 446 = .ok (.iconst 2, 1) := by decide +kernel
theorem dL_law_447 : decode cL_law 447 = .ok (.iadd, 1) := by decide +kernel
theorem dL_law_448 : decode cL_law 448 = .ok (.iaload, 1) := by decide +kernel
theorem dL_law_449 : decode cL_law 449 = .ok (.aload_n 0, 1) := by decide +kernel
theorem dL_law_450 : decode cL_law 450 = .ok (.iload_n 3, 1) := by decide +kernel
theorem dL_law_451 : decode cL_law 451 = .ok (.iconst 3, 1) := by decide +kernel
theorem dL_law_452 : decode cL_law 452 = .ok (.iadd, 1) := by decide +kernel
theorem dL_law_453 : decode cL_law 453 = .ok (.iaload, 1) := by decide +kernel
theorem dL_law_454 : decode cL_law 454 = .ok (.invokevirtual 50, 3) := by decide +kernel
theorem dL_law_457 : decode cL_law 457 = .ok (.aload_n 2, 1) := by decide +kernel
theorem dL_law_458 : decode cL_law 458 = .ok (.aload_n 0, 1) := by decide +kernel
theorem dL_law_459 : decode cL_law 459 = .ok (.iload_n 3, 1) := by decide +kernel
theorem dL_law_460 : decode cL_law 460 = .ok (.iconst 1, 1) := by decide +kernel
theorem dL_law_461 : decode cL_law 461 = .ok (.iadd, 1) := by decide +kernel
theorem dL_law_462 : decode cL_law 462 = .ok (.iaload, 1) := by decide +kernel
theorem dL_law_463 : decode cL_law 463 = .ok (.aload_n 0, 1) := by decide +kernel
theorem dL_law_464 : decode cL_law 464 = .ok (.iload_n 3, 1) := by decide +kernel
theorem dL_law_465 : decode cL_law 465 = .ok (.iconst 2, 1) := by decide +kernel
theorem dL_law_466 : decode cL_law 466 = .ok (.iadd, 1) := by decide +kernel
theorem dL_law_467 : decode cL_law 467 = .ok (.iaload, 1) := by decide +kernel
theorem dL_law_468 : decode cL_law 468 = .ok (.aload_n 0, 1) := by decide +kernel
theorem dL_law_469 : decode cL_law 469 = .ok (.iload_n 3, 1) := by decide +kernel
theorem dL_law_470 : decode cL_law 470 = .ok (.iconst 3, 1) := by decide +kernel
theorem dL_law_471 : decode cL_law 471 = .ok (.iadd, 1) := by decide +kernel
theorem dL_law_472 : decode cL_law 472 = .ok (.iaload, 1) := by decide +kernel
theorem dL_law_473 : decode cL_law 473 = .ok (.invokevirtual 54, 3) := by decide +kernel
theorem dL_law_476 : decode cL_law 476 = .ok (.if_icmp .eq 254, 3) := by decide +kernel
theorem dL_law_479 : decode cL_law 479 = .ok (.iconst 0, 1) := by decide +kernel
theorem dL_law_480 : decode cL_law 480 = .ok (.ireturn, 1) := by decide +kernel
theorem dL_law_481 : decode cL_law 481 = .ok (.aload_n 1, 1) := by decide +kernel
theorem dL_law_482 : decode cL_law 482 = .ok (.aload_n 0, 1) := by decide +kernel
theorem dL_law_483 : decode cL_law 483 = .ok (.iload_n 3, 1) := by decide +kernel
theorem dL_law_484 : decode cL_law 484 = .ok (.iconst 1, 1) := by decide +kernel
theorem dL_law_485 : decode cL_law 485 = .ok (.iadd, 1) := by decide +kernel
theorem dL_law_486 : decode cL_law 486 = .ok (.iaload, 1) := by decide +kernel
theorem dL_law_487 : decode cL_law 487 = .ok (.aload_n 0, 1) := by decide +kernel
theorem dL_law_488 : decode cL_law 488 = .ok (.iload_n 3, 1) := by decide +kernel
theorem dL_law_489 : decode cL_law 489 = .ok (.iconst 2, 1) := by decide +kernel
theorem dL_law_490 : decode cL_law 490 = .ok (.iadd, 1) := by decide +kernel
theorem dL_law_491 : decode cL_law 491 = .ok (.iaload, 1) := by decide +kernel
theorem dL_law_492 : decode cL_law 492 = .ok (.aload_n 0, 1) := by decide +kernel
theorem dL_law_493 : decode cL_law 493 = .ok (.iload_n 3, 1) := by decide +kernel
theorem dL_law_494 : decode cL_law 494 = .ok (.iconst 3, 1) := by decide +kernel
theorem dL_law_495 : decode cL_law 495 = .ok (.iadd, 1) := by decide +kernel
theorem dL_law_496 : decode cL_law 496 = .ok (.iaload, 1) := by decide +kernel
theorem dL_law_497 : decode cL_law 497 = .ok (.aload_n 0, 1) := by decide +kernel
theorem dL_law_498 : decode cL_law 498 = .ok (.iload_n 3, 1) := by decide +kernel
theorem dL_law_499 : decode cL_law 499 = .ok (.iconst 4, 1) := by decide +kernel
theorem dL_law_500 : decode cL_law 500 = .ok (.iadd, 1) := by decide +kernel
theorem dL_law_501 : decode cL_law 501 = .ok (.iaload, 1) := by decide +kernel
theorem dL_law_502 : decode cL_law 502 = .ok (.invokevirtual 55, 3) := by decide +kernel
theorem dL_law_505 : decode cL_law 505 = .ok (.aload_n 2, 1) := by decide +kernel
theorem dL_law_506 : decode cL_law 506 = .ok (.aload_n 0, 1) := by decide +kernel
theorem dL_law_507 : decode cL_law 507 = .ok (.iload_n 3, 1) := by decide +kernel
theorem dL_law_508 : decode cL_law 508 = .ok (.iconst 1, 1) := by decide +kernel
theorem dL_law_509 : decode cL_law 509 = .ok (.iadd, 1) := by decide +kernel
theorem dL_law_510 : decode cL_law 510 = .ok (.iaload, 1) := by decide +kernel
theorem dL_law_511 : decode cL_law 511 = .ok (.aload_n 0, 1) := by decide +kernel
theorem dL_law_512 : decode cL_law 512 = .ok (.iload_n 3, 1) := by decide +kernel
theorem dL_law_513 : decode cL_law 513 = .ok (.iconst 2, 1) := by decide +kernel
theorem dL_law_514 : decode cL_law 514 = .ok (.iadd, 1) := by decide +kernel
theorem dL_law_515 : decode cL_law 515 = .ok (.iaload, 1) := by decide +kernel
theorem dL_law_516 : decode cL_law 516 = .ok (.aload_n 0, 1) := by decide +kernel
theorem dL_law_517 : decode cL_law 517 = .ok (.iload_n 3, 1) := by decide +kernel
theorem dL_law_518 : decode cL_law 518 = .ok (.iconst 3, 1) := by decide +kernel
theorem dL_law_519 : decode cL_law 519 = .ok (.iadd, 1) := by decide +kernel
theorem dL_law_520 : decode cL_law 520 = .ok (.iaload, 1) := by decide +kernel
theorem dL_law_521 : decode cL_law 521 = .ok (.aload_n 0, 1) := by decide +kernel
theorem dL_law_522 : decode cL_law 522 = .ok (.iload_n 3, 1) := by decide +kernel
theorem dL_law_523 : decode cL_law 523 = .ok (.iconst 4, 1) := by decide +kernel
theorem dL_law_524 : decode cL_law 524 = .ok (.iadd, 1) := by decide +kernel
theorem dL_law_525 : decode cL_law 525 = .ok (.iaload, 1) := by decide +kernel
theorem dL_law_526 : decode cL_law 526 = .ok (.invokevirtual 59, 3) := by decide +kernel
theorem dL_law_529 : decode cL_law 529 = .ok (.if_icmp .eq 201, 3) := by decide +kernel
theorem dL_law_532 : decode cL_law 532 = .ok (.iconst 0, 1) := by decide +kernel
theorem dL_law_533 : decode cL_law 533 = .ok (.ireturn, 1) := by decide +kernel
theorem dL_law_534 : decode cL_law 534 = .ok (.aload_n 1, 1) := by decide +kernel
theorem dL_law_535 : decode cL_law 535 = .ok (.aload_n 0, 1) := by decide +kernel
theorem dL_law_536 : decode cL_law 536 = .ok (.iload_n 3, 1) := by decide +kernel
theorem dL_law_537 : decode cL_law 537 = .ok (.iconst 1, 1) := by decide +kernel
theorem dL_law_538 : decode cL_law 538 = .ok (.iadd, 1) := by decide +kernel
theorem dL_law_539 : decode cL_law 539 = .ok (.iaload, 1) := by decide +kernel
theorem dL_law_540 : decode cL_law 540 = .ok (.aload_n 0, 1) := by decide +kernel
theorem dL_law_541 : decode cL_law 541 = .ok (.iload_n 3, 1) := by decide +kernel
theorem dL_law_542 : decode cL_law 542 = .ok (.iconst 2, 1) := by decide +kernel
theorem dL_law_543 : decode cL_law 543 = .ok (.iadd, 1) := by decide +kernel
theorem dL_law_544 : decode cL_law 544 = .ok (.iaload, 1) := by decide +kernel
theorem dL_law_545 : decode cL_law 545 = .ok (.aload_n 0, 1) := by decide +kernel
theorem dL_law_546 : decode cL_law 546 = .ok (.iload_n 3, 1) := by decide +kernel
theorem dL_law_547 : decode cL_law 547 = .ok (.iconst 3, 1) := by decide +kernel
theorem dL_law_548 : decode cL_law 548 = .ok (.iadd, 1) := by decide +kernel
theorem dL_law_549 : decode cL_law 549 = .ok (.iaload, 1) := by decide +kernel
theorem dL_law_550 : decode cL_law 550 = .ok (.aload_n 0, 1) := by decide +kernel
theorem dL_law_551 : decode cL_law 551 = .ok (.iload_n 3, 1) := by decide +kernel
theorem dL_law_552 : decode cL_law 552 = .ok (.iconst 4, 1) := by decide +kernel
theorem dL_law_553 : decode cL_law 553 = .ok (.iadd, 1) := by decide +kernel
theorem dL_law_554 : decode cL_law 554 = .ok (.iaload, 1) := by decide +kernel
theorem dL_law_555 : decode cL_law 555 = .ok (.invokevirtual 60, 3) := by decide +kernel
theorem dL_law_558 : decode cL_law 558 = .ok (.aload_n 2, 1) := by decide +kernel
theorem dL_law_559 : decode cL_law 559 = .ok (.aload_n 0, 1) := by decide +kernel
theorem dL_law_560 : decode cL_law 560 = .ok (.iload_n 3, 1) := by decide +kernel
theorem dL_law_561 : decode cL_law 561 = .ok (.iconst 1, 1) := by decide +kernel
theorem dL_law_562 : decode cL_law 562 = .ok (.iadd, 1) := by decide +kernel
theorem dL_law_563 : decode cL_law 563 = .ok (.iaload, 1) := by decide +kernel
theorem dL_law_564 : decode cL_law 564 = .ok (.aload_n 0, 1) := by decide +kernel
theorem dL_law_565 : decode cL_law 565 = .ok (.iload_n 3, 1) := by decide +kernel
theorem dL_law_566 : decode cL_law 566 = .ok (.iconst 2, 1) := by decide +kernel
theorem dL_law_567 : decode cL_law 567 = .ok (.iadd, 1) := by decide +kernel
theorem dL_law_568 : decode cL_law 568 = .ok (.iaload, 1) := by decide +kernel
theorem dL_law_569 : decode cL_law 569 = .ok (.aload_n 0, 1) := by decide +kernel
theorem dL_law_570 : decode cL_law 570 = .ok (.iload_n 3, 1) := by decide +kernel
theorem dL_law_571 : decode cL_law 571 = .ok (.iconst 3, 1) := by decide +kernel
theorem dL_law_572 : decode cL_law 572 = .ok (.iadd, 1) := by decide +kernel
theorem dL_law_573 : decode cL_law 573 = .ok (.iaload, 1) := by decide +kernel
theorem dL_law_574 : decode cL_law 574 = .ok (.aload_n 0, 1) := by decide +kernel
theorem dL_law_575 : decode cL_law 575 = .ok (.iload_n 3, 1) := by decide +kernel
theorem dL_law_576 : decode cL_law 576 = .ok (.iconst 4, 1) := by decide +kernel
theorem dL_law_577 : decode cL_law 577 = .ok (.iadd, 1) := by decide +kernel
theorem dL_law_578 : decode cL_law 578 = .ok (.iaload, 1) := by decide +kernel
theorem dL_law_579 : decode cL_law 579 = .ok (.invokevirtual 63, 3) := by decide +kernel
theorem dL_law_582 : decode cL_law 582 = .ok (.if_icmp .eq 148, 3) := by decide +kernel
theorem dL_law_585 : decode cL_law 585 = .ok (.iconst 0, 1) := by decide +kernel
theorem dL_law_586 : decode cL_law 586 = .ok (.ireturn, 1) := by decide +kernel
theorem dL_law_587 : decode cL_law 587 = .ok (.aload_n 1, 1) := by decide +kernel
theorem dL_law_588 : decode cL_law 588 = .ok (.aload_n 0, 1) := by decide +kernel
theorem dL_law_589 : decode cL_law 589 = .ok (.iload_n 3, 1) := by decide +kernel
theorem dL_law_590 : decode cL_law 590 = .ok (.iconst 1, 1) := by decide +kernel
theorem dL_law_591 : decode cL_law 591 = .ok (.iadd, 1) := by decide +kernel
theorem dL_law_592 : decode cL_law 592 = .ok (.iaload, 1) := by decide +kernel
theorem dL_law_593 : decode cL_law 593 = .ok (.aload_n 0, 1) := by decide +kernel
theorem dL_law_594 : decode cL_law 594 = .ok (.iload_n 3, 1) := by decide +kernel
theorem dL_law_595 : decode cL_law 595 = .ok (.iconst 2, 1) := by decide +kernel
theorem dL_law_596 : decode cL_law 596 = .ok (.iadd, 1) := by decide +kernel
theorem dL_law_597 : decode cL_law 597 = .ok (.iaload, 1) := by decide +kernel
theorem dL_law_598 : decode cL_law 598 = .ok (.aload_n 0, 1) := by decide +kernel
theorem dL_law_599 : decode cL_law 599 = .ok (.iload_n 3, 1) := by decide +kernel
theorem dL_law_600 : decode cL_law 600 = .ok (.iconst 3, 1) := by decide +kernel
theorem dL_law_601 : decode cL_law 601 = .ok (.iadd, 1) := by decide +kernel
theorem dL_law_602 : decode cL_law 602 = .ok (.iaload, 1) := by decide +kernel
theorem dL_law_603 : decode cL_law 603 = .ok (.aload_n 0, 1) := by decide +kernel
theorem dL_law_604 : decode cL_law 604 = .ok (.iload_n 3, 1) := by decide +kernel
theorem dL_law_605 : decode cL_law 605 = .ok (.iconst 4, 1) := by decide +kernel
theorem dL_law_606 : decode cL_law 606 = .ok (.iadd, 1) := by decide +kernel
theorem dL_law_607 : decode cL_law 607 = .ok (.iaload, 1) := by decide +kernel
theorem dL_law_608 : decode cL_law 608 = .ok (.invokevirtual 64, 3) := by decide +kernel
theorem dL_law_611 : decode cL_law 611 = .ok (.aload_n 2, 1) := by decide +kernel
theorem dL_law_612 : decode cL_law 612 = .ok (.aload_n 0, 1) := by decide +kernel
theorem dL_law_613 : decode cL_law 613 = .ok (.iload_n 3, 1) := by decide +kernel
theorem dL_law_614 : decode cL_law 614 = .ok (.iconst 1, 1) := by decide +kernel
theorem dL_law_615 : decode cL_law 615 = .ok (.iadd, 1) := by decide +kernel
theorem dL_law_616 : decode cL_law 616 = .ok (.iaload, 1) := by decide +kernel
theorem dL_law_617 : decode cL_law 617 = .ok (.aload_n 0, 1) := by decide +kernel
theorem dL_law_618 : decode cL_law 618 = .ok (.iload_n 3, 1) := by decide +kernel
theorem dL_law_619 : decode cL_law 619 = .ok (.iconst 2, 1) := by decide +kernel
theorem dL_law_620 : decode cL_law 620 = .ok (.iadd, 1) := by decide +kernel
theorem dL_law_621 : decode cL_law 621 = .ok (.iaload, 1) := by decide +kernel
theorem dL_law_622 : decode cL_law 622 = .ok (.aload_n 0, 1) := by decide +kernel
theorem dL_law_623 : decode cL_law 623 = .ok (.iload_n 3, 1) := by decide +kernel
theorem dL_law_624 : decode cL_law 624 = .ok (.iconst 3, 1) := by decide +kernel
theorem dL_law_625 : decode cL_law 625 = .ok (.iadd, 1) := by decide +kernel
theorem dL_law_626 : decode cL_law 626 = .ok (.iaload, 1) := by decide +kernel
theorem dL_law_627 : decode cL_law 627 = .ok (.aload_n 0, 1) := by decide +kernel
theorem dL_law_628 : decode cL_law 628 = .ok (.iload_n 3, 1) := by decide +kernel
theorem dL_law_629 : decode cL_law 629 = .ok (.iconst 4, 1) := by decide +kernel
theorem dL_law_630 : decode cL_law 630 = .ok (.iadd, 1) := by decide +kernel
theorem dL_law_631 : decode cL_law 631 = .ok (.iaload, 1) := by decide +kernel
theorem dL_law_632 : decode cL_law 632 = .ok (.invokevirtual 68, 3) := by decide +kernel
theorem dL_law_635 : decode cL_law 635 = .ok (.lcmp, 1) := by decide +kernel
theorem dL_law_636 : decode cL_law 636 = .ok (.ifCond .eq 94, 3) := by decide +kernel
theorem dL_law_639 : decode cL_law 639 = .ok (.iconst 0, 1) := by decide +kernel
theorem dL_law_640 : decode cL_law 640 = .ok (.ireturn, 1) := by decide +kernel
theorem dL_law_641 : decode cL_law 641 = .ok (.aload_n 1, 1) := by decide +kernel
theorem dL_law_642 : decode cL_law 642 = .ok (.aload_n 0, 1) := by decide +kernel
theorem dL_law_643 : decode cL_law 643 = .ok (.iload_n 3, 1) := by decide +kernel
theorem dL_law_644 : decode cL_law 644 = .ok (.iconst 1, 1) := by decide +kernel
theorem dL_law_645 : decode cL_law 645 = .ok (.iadd, 1) := by decide +kernel
theorem dL_law_646 : decode cL_law 646 = .ok (.iaload, 1) := by decide +kernel
theorem dL_law_647 : decode cL_law 647 = .ok (.aload_n 0, 1) := by decide +kernel
theorem dL_law_648 : decode cL_law 648 = .ok (.iload_n 3, 1) := by decide +kernel
theorem dL_law_649 : decode cL_law 649 = .ok (.iconst 2, 1) := by decide +kernel
theorem dL_law_650 : decode cL_law 650 = .ok (.iadd, 1) := by decide +kernel
theorem dL_law_651 : decode cL_law 651 = .ok (.iaload, 1) := by decide +kernel
theorem dL_law_652 : decode cL_law 652 = .ok (.aload_n 0, 1) := by decide +kernel
theorem dL_law_653 : decode cL_law 653 = .ok (.iload_n 3, 1) := by decide +kernel
theorem dL_law_654 : decode cL_law 654 = .ok (.iconst 3, 1) := by decide +kernel
theorem dL_law_655 : decode cL_law 655 = .ok (.iadd, 1) := by decide +kernel
theorem dL_law_656 : decode cL_law 656 = .ok (.iaload, 1) := by decide +kernel
theorem dL_law_657 : decode cL_law 657 = .ok (.aload_n 0, 1) := by decide +kernel
theorem dL_law_658 : decode cL_law 658 = .ok (.iload_n 3, 1) := by decide +kernel
theorem dL_law_659 : decode cL_law 659 = .ok (.iconst 4, 1) := by decide +kernel
theorem dL_law_660 : decode cL_law 660 = .ok (.iadd, 1) := by decide +kernel
theorem dL_law_661 : decode cL_law 661 = .ok (.iaload, 1) := by decide +kernel
theorem dL_law_662 : decode cL_law 662 = .ok (.invokevirtual 69, 3) := by decide +kernel
theorem dL_law_665 : decode cL_law 665 = .ok (.aload_n 2, 1) := by decide +kernel
theorem dL_law_666 : decode cL_law 666 = .ok (.aload_n 0, 1) := by decide +kernel
theorem dL_law_667 : decode cL_law 667 = .ok (.iload_n 3, 1) := by decide +kernel
theorem dL_law_668 : decode cL_law 668 = .ok (.iconst 1, 1) := by decide +kernel
theorem dL_law_669 : decode cL_law 669 = .ok (.iadd, 1) := by decide +kernel
theorem dL_law_670 : decode cL_law 670 = .ok (.iaload, 1) := by decide +kernel
theorem dL_law_671 : decode cL_law 671 = .ok (.aload_n 0, 1) := by decide +kernel
theorem dL_law_672 : decode cL_law 672 = .ok (.iload_n 3, 1) := by decide +kernel
theorem dL_law_673 : decode cL_law 673 = .ok (.iconst 2, 1) := by decide +kernel
theorem dL_law_674 : decode cL_law 674 = .ok (.iadd, 1) := by decide +kernel
theorem dL_law_675 : decode cL_law 675 = .ok (.iaload, 1) := by decide +kernel
theorem dL_law_676 : decode cL_law 676 = .ok (.aload_n 0, 1) := by decide +kernel
theorem dL_law_677 : decode cL_law 677 = .ok (.iload_n 3, 1) := by decide +kernel
theorem dL_law_678 : decode cL_law 678 = .ok (.iconst 3, 1) := by decide +kernel
theorem dL_law_679 : decode cL_law 679 = .ok (.iadd, 1) := by decide +kernel
theorem dL_law_680 : decode cL_law 680 = .ok (.iaload, 1) := by decide +kernel
theorem dL_law_681 : decode cL_law 681 = .ok (.aload_n 0, 1) := by decide +kernel
theorem dL_law_682 : decode cL_law 682 = .ok (.iload_n 3, 1) := by decide +kernel
theorem dL_law_683 : decode cL_law 683 = .ok (.iconst 4, 1) := by decide +kernel
theorem dL_law_684 : decode cL_law 684 = .ok (.iadd, 1) := by decide +kernel
theorem dL_law_685 : decode cL_law 685 = .ok (.iaload, 1) := by decide +kernel
theorem dL_law_686 : decode cL_law 686 = .ok (.invokevirtual 72, 3) := by decide +kernel
theorem dL_law_689 : decode cL_law 689 = .ok (.if_icmp .eq 41, 3) := by decide +kernel
theorem dL_law_692 : decode cL_law 692 = .ok (.iconst 0, 1) := by decide +kernel
theorem dL_law_693 : decode cL_law 693 = .ok (.ireturn, 1) := by decide +kernel
theorem dL_law_694 : decode cL_law 694 = .ok (.aload_n 1, 1) := by decide +kernel
theorem dL_law_695 : decode cL_law 695 = .ok (.aload_n 0, 1) := by decide +kernel
theorem dL_law_696 : decode cL_law 696 = .ok (.iload_n 3, 1) := by decide +kernel
theorem dL_law_697 : decode cL_law 697 = .ok (.iconst 1, 1) := by decide +kernel
theorem dL_law_698 : decode cL_law 698 = .ok (.iadd, 1) := by decide +kernel
theorem dL_law_699 : decode cL_law 699 = .ok (.iaload, 1) := by decide +kernel
theorem dL_law_700 : decode cL_law 700 = .ok (.invokevirtual 73, 3) := by decide +kernel
theorem dL_law_703 : decode cL_law 703 = .ok (.aload_n 2, 1) := by decide +kernel
theorem dL_law_704 : decode cL_law 704 = .ok (.aload_n 0, 1) := by decide +kernel
theorem dL_law_705 : decode cL_law 705 = .ok (.iload_n 3, 1) := by decide +kernel
theorem dL_law_706 : decode cL_law 706 = .ok (.iconst 1, 1) := by decide +kernel
theorem dL_law_707 : decode cL_law 707 = .ok (.iadd, 1) := by decide +kernel
theorem dL_law_708 : decode cL_law 708 = .ok (.iaload, 1) := by decide +kernel
theorem dL_law_709 : decode cL_law 709 = .ok (.invokevirtual 76, 3) := by decide +kernel
theorem dL_law_712 : decode cL_law 712 = .ok (.if_icmp .eq 18, 3) := by decide +kernel
theorem dL_law_715 : decode cL_law 715 = .ok (.iconst 0, 1) := by decide +kernel
theorem dL_law_716 : decode cL_law 716 = .ok (.ireturn, 1) := by decide +kernel
theorem dL_law_717 : decode cL_law 717 = .ok (.aload_n 1, 1) := by decide +kernel
theorem dL_law_718 : decode cL_law 718 = .ok (.invokevirtual 77, 3) := by decide +kernel
theorem dL_law_721 : decode cL_law 721 = .ok (.aload_n 2, 1) := by decide +kernel
theorem dL_law_722 : decode cL_law 722 = .ok (.invokevirtual 80, 3) := by decide +kernel
theorem dL_law_725 : decode cL_law 725 = .ok (.if_icmp .eq 5, 3) := by decide +kernel
theorem dL_law_728 : decode cL_law 728 = .ok (.iconst 0, 1) := by decide +kernel
theorem dL_law_729 : decode cL_law 729 = .ok (.ireturn, 1) := by decide +kernel
theorem dL_law_730 : decode cL_law 730 = .ok (.iinc 3 6, 3) := by decide +kernel
theorem dL_law_733 : decode cL_law 733 = .ok (.goto (-715), 3) := by decide +kernel
theorem dL_law_736 : decode cL_law 736 = .ok (.iconst 1, 1) := by decide +kernel
theorem dL_law_737 : decode cL_law 737 = .ok (.ireturn, 1) := by decide +kernel
end
section
theorem dX0_init_0 : decode cX0_init 0 = .ok (.aload_n 0, 1) := by decide +kernel
theorem dX0_init_1 : decode cX0_init 1 = .ok (.invokespecial 1, 3) := by decide +kernel
theorem dX0_init_4 : decode cX0_init 4 = .ok (.aload_n 0, 1) := by decide +kernel
theorem dX0_init_5 : decode cX0_init 5 = .ok (.iload_n 1, 1) := by decide +kernel
theorem dX0_init_6 : decode cX0_init 6 = .ok (.putfield 7, 3) := by decide +kernel
theorem dX0_init_9 : decode cX0_init 9 = .ok (.aload_n 0, 1) := by decide +kernel
theorem dX0_init_10 : decode cX0_init 10 = .ok (.aload_n 2, 1) := by decide +kernel
theorem dX0_init_11 : decode cX0_init 11 = .ok (.putfield 13, 3) := by decide +kernel
theorem dX0_init_14 : decode cX0_init 14 = .ok (.aload_n 0, 1) := by decide +kernel
theorem dX0_init_15 : decode cX0_init 15 = .ok (.aload_n 3, 1) := by decide +kernel
theorem dX0_init_16 : decode cX0_init 16 = .ok (.putfield 17, 3) := by decide +kernel
theorem dX0_init_19 : decode cX0_init 19 = .ok (.aload_n 0, 1) := by decide +kernel
theorem dX0_init_20 : decode cX0_init 20 = .ok (.iload 4, 2) := by decide +kernel
theorem dX0_init_22 : decode cX0_init 22 = .ok (.putfield 20, 3) := by decide +kernel
theorem dX0_init_25 : decode cX0_init 25 = .ok (.aload_n 0, 1) := by decide +kernel
theorem dX0_init_26 : decode cX0_init 26 = .ok (.iload 5, 2) := by decide +kernel
theorem dX0_init_28 : decode cX0_init 28 = .ok (.putfield 24, 3) := by decide +kernel
theorem dX0_init_31 : decode cX0_init 31 = .ok (.aload_n 0, 1) := by decide +kernel
theorem dX0_init_32 : decode cX0_init 32 = .ok (.iload 6, 2) := by decide +kernel
theorem dX0_init_34 : decode cX0_init 34 = .ok (.putfield 27, 3) := by decide +kernel
theorem dX0_init_37 : decode cX0_init 37 = .ok (.return_, 1) := by decide +kernel
theorem dX0_partCount_0 : decode cX0_partCount 0 = .ok (.aload_n 0, 1) := by decide +kernel
theorem dX0_partCount_1 : decode cX0_partCount 1 = .ok (.getfield 13, 3) := by decide +kernel
theorem dX0_partCount_4 : decode cX0_partCount 4 = .ok (.getfield 30, 3) := by decide +kernel
theorem dX0_partCount_7 : decode cX0_partCount 7 = .ok (.aload_n 0, 1) := by decide +kernel
theorem dX0_partCount_8 : decode cX0_partCount 8 = .ok (.getfield 17, 3) := by decide +kernel
theorem dX0_partCount_11 : decode cX0_partCount 11 = .ok (.getfield 30, 3) := by decide +kernel
theorem dX0_partCount_14 : decode cX0_partCount 14 = .ok (.if_icmp .ne 7, 3) := by decide +kernel
theorem dX0_partCount_17 : decode cX0_partCount 17 = .ok (.iconst 1, 1) := by decide +kernel
theorem dX0_partCount_18 : decode cX0_partCount 18 = .ok (.goto 4, 3) := by decide +kernel
theorem dX0_partCount_21 : decode cX0_partCount 21 = .ok (.iconst 2, 1) := by decide +kernel
theorem dX0_partCount_22 : decode cX0_partCount 22 = .ok (.ireturn, 1) := by decide +kernel
theorem dX0_firstX_0 : decode cX0_firstX 0 = .ok (.aload_n 0, 1) := by decide +kernel
theorem dX0_firstX_1 : decode cX0_firstX 1 = .ok (.getfield 20, 3) := by decide +kernel
theorem dX0_firstX_4 : decode cX0_firstX 4 = .ok (.ifCond .eq 15, 3) := by decide +kernel
theorem dX0_firstX_7 : decode cX0_firstX 7 = .ok (.aload_n 0, 1) := by decide +kernel
theorem dX0_firstX_8 : decode cX0_firstX 8 = .ok (.getfield 13, 3) := by decide +kernel
theorem dX0_firstX_11 : decode cX0_firstX 11 = .ok (.getfield 35, 3) := by decide +kernel
theorem dX0_firstX_14 : decode cX0_firstX 14 = .ok (.iconst 3, 1) := by decide +kernel
theorem dX0_firstX_15 : decode cX0_firstX 15 = .ok (.iadd, 1) := by decide +kernel
theorem dX0_firstX_16 : decode cX0_firstX 16 = .ok (.goto 10, 3) := by decide +kernel
theorem dX0_firstX_19 : decode cX0_firstX 19 = .ok (.aload_n 0, 1) := by decide +kernel
theorem dX0_firstX_20 : decode cX0_firstX 20 = .ok (.getfield 13, 3) := by decide +kernel
theorem dX0_firstX_23 : decode cX0_firstX 23 = .ok (.getfield 35, 3) := by decide +kernel
theorem dX0_firstX_26 : decode cX0_firstX 26 = .ok (.ireturn, 1) := by decide +kernel
theorem dX0_secondX_0 : decode cX0_secondX 0 = .ok (.aload_n 0, 1) := by decide +kernel
theorem dX0_secondX_1 : decode cX0_secondX 1 = .ok (.getfield 20, 3) := by decide +kernel
theorem dX0_secondX_4 : decode cX0_secondX 4 = .ok (.ifCond .eq 15, 3) := by decide +kernel
theorem dX0_secondX_7 : decode cX0_secondX 7 = .ok (.aload_n 0, 1) := by decide +kernel
theorem dX0_secondX_8 : decode cX0_secondX 8 = .ok (.getfield 17, 3) := by decide +kernel
theorem dX0_secondX_11 : decode cX0_secondX 11 = .ok (.getfield 35, 3) := by decide +kernel
theorem dX0_secondX_14 : decode cX0_secondX 14 = .ok (.iconst 3, 1) := by decide +kernel
theorem dX0_secondX_15 : decode cX0_secondX 15 = .ok (.isub, 1) := by decide +kernel
theorem dX0_secondX_16 : decode cX0_secondX 16 = .ok (.goto 10, 3) := by decide +kernel
theorem dX0_secondX_19 : decode cX0_secondX 19 = .ok (.aload_n 0, 1) := by decide +kernel
theorem dX0_secondX_20 : decode cX0_secondX 20 = .ok (.getfield 17, 3) := by decide +kernel
theorem dX0_secondX_23 : decode cX0_secondX 23 = .ok (.getfield 35, 3) := by decide +kernel
theorem dX0_secondX_26 : decode cX0_secondX 26 = .ok (.ireturn, 1) := by decide +kernel
theorem dX0_endHeight_0 : decode cX0_endHeight 0 = .ok (.aload_n 0, 1) := by decide +kernel
theorem dX0_endHeight_1 : decode cX0_endHeight 1 = .ok (.getfield 20, 3) := by decide +kernel
theorem dX0_endHeight_4 : decode cX0_endHeight 4 = .ok (.ifCond .eq 15, 3) := by decide +kernel
theorem dX0_endHeight_7 : decode cX0_endHeight 7 = .ok (.aload_n 1, 1) := by decide +kernel
theorem dX0_endHeight_8 : decode cX0_endHeight 8 = .ok (.getfield 38, 3) := by decide +kernel
theorem dX0_endHeight_11 : decode cX0_endHeight 11 = .ok (.iconst 2, 1) := by decide +kernel
theorem dX0_endHeight_12 : decode cX0_endHeight 12 = .ok (.aload_n 0, 1) := by decide +kernel
theorem dX0_endHeight_13 : decode cX0_endHeight 13 = .ok (.getfield 24, 3) := by decide +kernel
theorem dX0_endHeight_16 : decode cX0_endHeight 16 = .ok (.imul, 1) := by decide +kernel
theorem dX0_endHeight_17 : decode cX0_endHeight 17 = .ok (.iadd, 1) := by decide +kernel
theorem dX0_endHeight_18 : decode cX0_endHeight 18 = .ok (.ireturn, 1) := by decide +kernel
theorem dX0_endHeight_19 : decode cX0_endHeight 19 = .ok (.aload_n 1, 1) := by decide +kernel
theorem dX0_endHeight_20 : decode cX0_endHeight 20 = .ok (.invokevirtual 41, 3) := by decide +kernel
theorem dX0_endHeight_23 : decode cX0_endHeight 23 = .ok (.aload_n 0, 1) := by decide +kernel
theorem dX0_endHeight_24 : decode cX0_endHeight 24 = .ok (.getfield 24, 3) := by decide +kernel
theorem dX0_endHeight_27 : decode cX0_endHeight 27 = .ok (.if_icmp .ne 8, 3) := by decide +kernel
theorem dX0_endHeight_30 : decode cX0_endHeight 30 = .ok (.bipush 24, 2) := by decide +kernel
theorem dX0_endHeight_32 : decode cX0_endHeight 32 = .ok (.goto 4, 3) := by decide +kernel
theorem dX0_endHeight_35 : decode cX0_endHeight 35 = .ok (.iconst 0, 1) := by decide +kernel
theorem dX0_endHeight_36 : decode cX0_endHeight 36 = .ok (.istore_n 2, 1) := by decide +kernel
theorem dX0_endHeight_37 : decode cX0_endHeight 37 = .ok (.aload_n 1, 1) := by decide +kernel
theorem dX0_endHeight_38 : decode cX0_endHeight 38 = .ok (.getfield 38, 3) := by decide +kernel
theorem dX0_endHeight_41 : decode cX0_endHeight 41 = .ok (.iconst 4, 1) := by decide +kernel
theorem dX0_endHeight_42 : decode cX0_endHeight 42 = .ok (.iload_n 2, 1) := by decide +kernel
theorem dX0_endHeight_43 : decode cX0_endHeight 43 = .ok (.iadd, 1) := by decide +kernel
theorem dX0_endHeight_44 : decode cX0_endHeight 44 = .ok (.aload_n 0, 1) := by decide +kernel
theorem dX0_endHeight_45 : decode cX0_endHeight 45 = .ok (.getfield 24, 3) := by decide +kernel
theorem dX0_endHeight_48 : decode cX0_endHeight 48 = .ok (.imul, 1) := by decide +kernel
theorem dX0_endHeight_49 : decode cX0_endHeight 49 = .ok (.iadd, 1) := by decide +kernel
theorem dX0_endHeight_50 : decode cX0_endHeight 50 = .ok (.ireturn, 1) := by decide +kernel
end
section
theorem dX1_init_0 : decode cX1_init 0 = .ok (.aload_n 0, 1) := by decide +kernel
theorem dX1_init_1 : decode cX1_init 1 = .ok (.invokespecial 1, 3) := by decide +kernel
theorem dX1_init_4 : decode cX1_init 4 = .ok (.aload_n 0, 1) := by decide +kernel
theorem dX1_init_5 : decode cX1_init 5 = .ok (.iload_n 1, 1) := by decide +kernel
theorem dX1_init_6 : decode cX1_init 6 = .ok (.putfield 7, 3) := by decide +kernel
theorem dX1_init_9 : decode cX1_init 9 = .ok (.aload_n 0, 1) := by decide +kernel
theorem dX1_init_10 : decode cX1_init 10 = .ok (.iload_n 2, 1) := by decide +kernel
theorem dX1_init_11 : decode cX1_init 11 = .ok (.newarray .int, 2) := by decide +kernel
theorem dX1_init_13 : decode cX1_init 13 = .ok (.putfield 13, 3) := by decide +kernel
theorem dX1_init_16 : decode cX1_init 16 = .ok (.aload_n 0, 1) := by decide +kernel
theorem dX1_init_17 : decode cX1_init 17 = .ok (.iload_n 2, 1) := by decide +kernel
theorem dX1_init_18 : decode cX1_init 18 = .ok (.newarray .int, 2) := by decide +kernel
theorem dX1_init_20 : decode cX1_init 20 = .ok (.putfield 17, 3) := by decide +kernel
theorem dX1_init_23 : decode cX1_init 23 = .ok (.return_, 1) := by decide +kernel
theorem dX1_hullOn_0 : decode cX1_hullOn 0 = .ok (.new 8, 3) := by decide +kernel
theorem dX1_hullOn_3 : decode cX1_hullOn 3 = .ok (.dup, 1) := by decide +kernel
theorem dX1_hullOn_4 : decode cX1_hullOn 4 = .ok (.iload_n 0, 1) := by decide +kernel
theorem dX1_hullOn_5 : decode cX1_hullOn 5 = .ok (.iconst 4, 1) := by decide +kernel
theorem dX1_hullOn_6 : decode cX1_hullOn 6 = .ok (.invokespecial 20, 3) := by decide +kernel
theorem dX1_hullOn_9 : decode cX1_hullOn 9 = .ok (.areturn, 1) := by decide +kernel
theorem dX1_rectangle_0 : decode cX1_rectangle 0 = .ok (.new 8, 3) := by decide +kernel
theorem dX1_rectangle_3 : decode cX1_rectangle 3 = .ok (.dup, 1) := by decide +kernel
theorem dX1_rectangle_4 : decode cX1_rectangle 4 = .ok (.iload_n 0, 1) := by decide +kernel
theorem dX1_rectangle_5 : decode cX1_rectangle 5 = .ok (.iconst 4, 1) := by decide +kernel
theorem dX1_rectangle_6 : decode cX1_rectangle 6 = .ok (.invokespecial 20, 3) := by decide +kernel
theorem dX1_rectangle_9 : decode cX1_rectangle 9 = .ok (.astore 5, 2) := by decide +kernel
theorem dX1_rectangle_11 : decode cX1_rectangle 11 = .ok (.aload 5, 2) := by decide +kernel
theorem dX1_rectangle_13 : decode cX1_rectangle 13 = .ok (.iconst 0, 1) := by decide +kernel
theorem dX1_rectangle_14 : decode cX1_rectangle 14 = .ok (.iload_n 1, 1) := by decide +kernel
theorem dX1_rectangle_15 : decode cX1_rectangle 15 = .ok (.iload_n 2, 1) := by decide +kernel
theorem dX1_rectangle_16 : decode cX1_rectangle 16 = .ok (.invokevirtual 23, 3) := by decide +kernel
theorem dX1_rectangle_19 : decode cX1_rectangle 19 = .ok (.aload 5, 2) := by decide +kernel
theorem dX1_rectangle_21 : decode cX1_rectangle 21 = .ok (.iconst 1, 1) := by decide +kernel
theorem dX1_rectangle_22 : decode cX1_rectangle 22 = .ok (.iload_n 1, 1) := by decide +kernel
theorem dX1_rectangle_23 : decode cX1_rectangle 23 = .ok (.iload_n 3, 1) := by decide +kernel
theorem dX1_rectangle_24 : decode cX1_rectangle 24 = .ok (.iadd, 1) := by decide +kernel
theorem dX1_rectangle_25 : decode cX1_rectangle 25 = .ok (.iload_n 2, 1) := by decide +kernel
theorem dX1_rectangle_26 : decode cX1_rectangle 26 = .ok (.invokevirtual 23, 3) := by decide +kernel
theorem dX1_rectangle_29 : decode cX1_rectangle 29 = .ok (.aload 5, 2) := by decide +kernel
theorem dX1_rectangle_31 : decode cX1_rectangle 31 = .ok (.iconst 2, 1) := by decide +kernel
theorem dX1_rectangle_32 : decode cX1_rectangle 32 = .ok (.iload_n 1, 1) := by decide +kernel
theorem dX1_rectangle_33 : decode cX1_rectangle 33 = .ok (.iload_n 3, 1) := by decide +kernel
theorem dX1_rectangle_34 : decode cX1_rectangle 34 = .ok (.iadd, 1) := by decide +kernel
theorem dX1_rectangle_35 : decode cX1_rectangle 35 = .ok (.iload_n 2, 1) := by decide +kernel
theorem dX1_rectangle_36 : decode cX1_rectangle 36 = .ok (.iload 4, 2) := by decide +kernel
theorem dX1_rectangle_38 : decode cX1_rectangle 38 = .ok (.iadd, 1) := by decide +kernel
theorem dX1_rectangle_39 : decode cX1_rectangle 39 = .ok (.invokevirtual 23, 3) := by decide +kernel
theorem dX1_rectangle_42 : decode cX1_rectangle 42 = .ok (.aload 5, 2) := by decide +kernel
theorem dX1_rectangle_44 : decode cX1_rectangle 44 = .ok (.iconst 3, 1) := by decide +kernel
theorem dX1_rectangle_45 : decode cX1_rectangle 45 = .ok (.iload_n 1, 1) := by decide +kernel
theorem dX1_rectangle_46 : decode cX1_rectangle 46 = .ok (.iload_n 2, 1) := by decide +kernel
theorem dX1_rectangle_47 : decode cX1_rectangle 47 = .ok (.iload 4, 2) := by decide +kernel
theorem dX1_rectangle_49 : decode cX1_rectangle 49 = .ok (.iadd, 1) := by decide +kernel
theorem dX1_rectangle_50 : decode cX1_rectangle 50 = .ok (.invokevirtual 23, 3) := by decide +kernel
theorem dX1_rectangle_53 : decode cX1_rectangle 53 = .ok (.aload 5, 2) := by decide +kernel
theorem dX1_rectangle_55 : decode cX1_rectangle 55 = .ok (.invokevirtual 27, 3) := by decide +kernel
theorem dX1_rectangle_58 : decode cX1_rectangle 58 = .ok (.aload 5, 2) := by decide +kernel
theorem dX1_rectangle_60 : decode cX1_rectangle 60 = .ok (.areturn, 1) := by decide +kernel
theorem dX1_triangle_0 : decode cX1_triangle 0 = .ok (.new 8, 3) := by decide +kernel
theorem dX1_triangle_3 : decode cX1_triangle 3 = .ok (.dup, 1) := by decide +kernel
theorem dX1_triangle_4 : decode cX1_triangle 4 = .ok (.iload_n 0, 1) := by decide +kernel
theorem dX1_triangle_5 : decode cX1_triangle 5 = .ok (.iconst 3, 1) := by decide +kernel
theorem dX1_triangle_6 : decode cX1_triangle 6 = .ok (.invokespecial 20, 3) := by decide +kernel
theorem dX1_triangle_9 : decode cX1_triangle 9 = .ok (.astore 5, 2) := by decide +kernel
theorem dX1_triangle_11 : decode cX1_triangle 11 = .ok (.aload 5, 2) := by decide +kernel
theorem dX1_triangle_13 : decode cX1_triangle 13 = .ok (.iconst 0, 1) := by decide +kernel
theorem dX1_triangle_14 : decode cX1_triangle 14 = .ok (.iload_n 1, 1) := by decide +kernel
theorem dX1_triangle_15 : decode cX1_triangle 15 = .ok (.iload_n 3, 1) := by decide +kernel
theorem dX1_triangle_16 : decode cX1_triangle 16 = .ok (.invokevirtual 23, 3) := by decide +kernel
theorem dX1_triangle_19 : decode cX1_triangle 19 = .ok (.aload 5, 2) := by decide +kernel
theorem dX1_triangle_21 : decode cX1_triangle 21 = .ok (.iconst 1, 1) := by decide +kernel
theorem dX1_triangle_22 : decode cX1_triangle 22 = .ok (.iload_n 2, 1) := by decide +kernel
theorem dX1_triangle_23 : decode cX1_triangle 23 = .ok (.iload_n 3, 1) := by decide +kernel
theorem dX1_triangle_24 : decode cX1_triangle 24 = .ok (.iload 4, 2) := by decide +kernel
theorem dX1_triangle_26 : decode cX1_triangle 26 = .ok (.isub, 1) := by decide +kernel
theorem dX1_triangle_27 : decode cX1_triangle 27 = .ok (.invokevirtual 23, 3) := by decide +kernel
theorem dX1_triangle_30 : decode cX1_triangle 30 = .ok (.aload 5, 2) := by decide +kernel
theorem dX1_triangle_32 : decode cX1_triangle 32 = .ok (.iconst 2, 1) := by decide +kernel
theorem dX1_triangle_33 : decode cX1_triangle 33 = .ok (.iload_n 2, 1) := by decide +kernel
theorem dX1_triangle_34 : decode cX1_triangle 34 = .ok (.iload_n 3, 1) := by decide +kernel
theorem dX1_triangle_35 : decode cX1_triangle 35 = .ok (.iload 4, 2) := by decide +kernel
theorem dX1_triangle_37 : decode cX1_triangle 37 = .ok (.iadd, 1) := by decide +kernel
theorem dX1_triangle_38 : decode cX1_triangle 38 = .ok (.invokevirtual 23, 3) := by decide +kernel
theorem dX1_triangle_41 : decode cX1_triangle 41 = .ok (.aload 5, 2) := by decide +kernel
theorem dX1_triangle_43 : decode cX1_triangle 43 = .ok (.invokevirtual 27, 3) := by decide +kernel
theorem dX1_triangle_46 : decode cX1_triangle 46 = .ok (.aload 5, 2) := by decide +kernel
theorem dX1_triangle_48 : decode cX1_triangle 48 = .ok (.areturn, 1) := by decide +kernel
theorem dX1_setCorner_0 : decode cX1_setCorner 0 = .ok (.iload_n 1, 1) := by decide +kernel
theorem dX1_setCorner_1 : decode cX1_setCorner 1 = .ok (.ifCond .lt 26, 3) := by decide +kernel
theorem dX1_setCorner_4 : decode cX1_setCorner 4 = .ok (.iload_n 1, 1) := by decide +kernel
theorem dX1_setCorner_5 : decode cX1_setCorner 5 = .ok (.aload_n 0, 1) := by decide +kernel
theorem dX1_setCorner_6 : decode cX1_setCorner 6 = .ok (.getfield 13, 3) := by decide +kernel
theorem dX1_setCorner_9 : decode cX1_setCorner 9 = .ok (.arraylength, 1) := by decide +kernel
theorem dX1_setCorner_10 : decode cX1_setCorner 10 = .ok (.if_icmp .ge 17, 3) := by decide +kernel
theorem dX1_setCorner_13 : decode cX1_setCorner 13 = .ok (.aload_n 0, 1) := by decide +kernel
theorem dX1_setCorner_14 : decode cX1_setCorner 14 = .ok (.getfield 13, 3) := by decide +kernel
theorem dX1_setCorner_17 : decode cX1_setCorner 17 = .ok (.iload_n 1, 1) := by decide +kernel
theorem dX1_setCorner_18 : decode cX1_setCorner 18 = .ok (.iload_n 2, 1) := by decide +kernel
theorem dX1_setCorner_19 : decode cX1_setCorner 19 = .ok (.iastore, 1) := by decide +kernel
theorem dX1_setCorner_20 : decode cX1_setCorner 20 = .ok (.aload_n 0, 1) := by decide +kernel
theorem dX1_setCorner_21 : decode cX1_setCorner 21 = .ok (.getfield 17, 3) := by decide +kernel
theorem dX1_setCorner_24 : decode cX1_setCorner 24 = .ok (.iload_n 1, 1) := by decide +kernel
theorem dX1_setCorner_25 : decode cX1_setCorner 25 = .ok (.iload_n 3, 1) := by decide +kernel
theorem dX1_setCorner_26 : decode cX1_setCorner 26 = .ok (.iastore, 1) := by decide +kernel
theorem dX1_setCorner_27 : decode cX1_setCorner 27 = .ok (.return_, 1) := by decide +kernel
theorem dX1_setFrame_0 : decode cX1_setFrame 0 = .ok (.aload_n 0, 1) := by decide +kernel
theorem dX1_setFrame_1 : decode cX1_setFrame 1 = .ok (.aload_n 0, 1) := by decide +kernel
theorem dX1_setFrame_2 : decode cX1_setFrame 2 = .ok (.getfield 13, 3) := by decide +kernel
theorem dX1_setFrame_5 : decode cX1_setFrame 5 = .ok (.iconst 0, 1) := by decide +kernel
theorem dX1_setFrame_6 : decode cX1_setFrame 6 = .ok (.iaload, 1) := by decide +kernel
theorem dX1_setFrame_7 : decode cX1_setFrame 7 = .ok (.putfield 30, 3) := by decide +kernel
theorem dX1_setFrame_10 : decode cX1_setFrame 10 = .ok (.aload_n 0, 1) := by decide +kernel
theorem dX1_setFrame_11 : decode cX1_setFrame 11 = .ok (.aload_n 0, 1) := by decide +kernel
theorem dX1_setFrame_12 : decode cX1_setFrame 12 = .ok (.getfield 13, 3) := by decide +kernel
theorem dX1_setFrame_15 : decode cX1_setFrame 15 = .ok (.iconst 0, 1) := by decide +kernel
theorem dX1_setFrame_16 : decode cX1_setFrame 16 = .ok (.iaload, 1) := by decide +kernel
theorem dX1_setFrame_17 : decode cX1_setFrame 17 = .ok (.putfield 33, 3) := by decide +kernel
theorem dX1_setFrame_20 : decode cX1_setFrame 20 = .ok (.aload_n 0, 1) := by decide +kernel
theorem dX1_setFrame_21 : decode cX1_setFrame 21 = .ok (.aload_n 0, 1) := by decide +kernel
theorem dX1_setFrame_22 : decode cX1_setFrame 22 = .ok (.getfield 17, 3) := by decide +kernel
theorem dX1_setFrame_25 : decode cX1_setFrame 25 = .ok (.iconst 0, 1) := by decide +kernel
theorem dX1_setFrame_26 : decode cX1_setFrame 26 = .ok (.iaload, 1) := by decide +kernel
theorem dX1_setFrame_27 : decode cX1_setFrame 27 = .ok (.putfield 36, 3) := by decide +kernel
theorem dX1_setFrame_30 : decode cX1_setFrame 30 = .ok (.aload_n 0, 1) := by decide +kernel
theorem dX1_setFrame_31 : decode cX1_setFrame 31 = .ok (.aload_n 0, 1) := by decide +kernel
theorem dX1_setFrame_32 : decode cX1_setFrame 32 = .ok (.getfield 17, 3) := by decide +kernel
theorem dX1_setFrame_35 : decode cX1_setFrame 35 = .ok (.iconst 0, 1) := by decide +kernel
theorem dX1_setFrame_36 : decode cX1_setFrame 36 = .ok (.iaload, 1) := by decide +kernel
theorem dX1_setFrame_37 : decode cX1_setFrame 37 = .ok (.putfield 39, 3) := by decide +kernel
theorem dX1_setFrame_40 : decode cX1_setFrame 40 = .ok (.iconst 1, 1) := by decide +kernel
theorem dX1_setFrame_41 : decode cX1_setFrame 41 = .ok (.istore_n 1, 1) := by decide +kernel
theorem dX1_setFrame_42 : decode cX1_setFrame 42 = .ok (.iload_n 1, 1) := by decide +kernel
theorem dX1_setFrame_43 : decode cX1_setFrame 43 = .ok (.aload_n 0, 1) := by decide +kernel
theorem dX1_setFrame_44 : decode cX1_setFrame 44 = .ok (.getfield 13, 3) := by decide +kernel
theorem dX1_setFrame_47 : decode cX1_setFrame 47 = .ok (.arraylength, 1) := by decide +kernel
theorem dX1_setFrame_48 : decode cX1_setFrame 48 = .ok (.if_icmp .ge 77, 3) := by decide +kernel
theorem dX1_setFrame_51 : decode cX1_setFrame 51 = .ok (.aload_n 0, 1) := by decide +kernel
theorem dX1_setFrame_52 : decode cX1_setFrame 52 = .ok (.aload_n 0, 1) := by decide +kernel
theorem dX1_setFrame_53 : decode cX1_setFrame 53 = .ok (.getfield 30, 3) := by decide +kernel
theorem dX1_setFrame_56 : decode cX1_setFrame 56 = .ok (.aload_n 0, 1) := by decide +kernel
theorem dX1_setFrame_57 : decode cX1_setFrame 57 = .ok (.getfield 13, 3) := by decide +kernel
theorem dX1_setFrame_60 : decode cX1_setFrame 60 = .ok (.iload_n 1, 1) := by decide +kernel
theorem dX1_setFrame_61 : decode cX1_setFrame 61 = .ok (.iaload, 1) := by decide +kernel
theorem dX1_setFrame_62 : decode cX1_setFrame 62 = .ok (.invokestatic 42, 3) := by decide +kernel
theorem dX1_setFrame_65 : decode cX1_setFrame 65 = .ok (.putfield 30, 3) := by decide +kernel
theorem dX1_setFrame_68 : decode cX1_setFrame 68 = .ok (.aload_n 0, 1) := by decide +kernel
theorem dX1_setFrame_69 : decode cX1_setFrame 69 = .ok (.aload_n 0, 1) := by decide +kernel
theorem dX1_setFrame_70 : decode cX1_setFrame 70 = .ok (.getfield 33, 3) := by decide +kernel
theorem dX1_setFrame_73 : decode cX1_setFrame 73 = .ok (.aload_n 0, 1) := by decide +kernel
theorem dX1_setFrame_74 : decode cX1_setFrame 74 = .ok (.getfield 13, 3) := by decide +kernel
theorem dX1_setFrame_77 : decode cX1_setFrame 77 = .ok (.iload_n 1, 1) := by decide +kernel
theorem dX1_setFrame_78 : decode cX1_setFrame 78 = .ok (.iaload, 1) := by decide +kernel
theorem dX1_setFrame_79 : decode cX1_setFrame 79 = .ok (.invokestatic 48, 3) := by decide +kernel
theorem dX1_setFrame_82 : decode cX1_setFrame 82 = .ok (.putfield 33, 3) := by decide +kernel
theorem dX1_setFrame_85 : decode cX1_setFrame 85 = .ok (.aload_n 0, 1) := by decide +kernel
theorem dX1_setFrame_86 : decode cX1_setFrame 86 = .ok (.aload_n 0, 1) := by decide +kernel
theorem dX1_setFrame_87 : decode cX1_setFrame 87 = .ok (.getfield 36, 3) := by decide +kernel
theorem dX1_setFrame_90 : decode cX1_setFrame 90 = .ok (.aload_n 0, 1) := by decide +kernel
theorem dX1_setFrame_91 : decode cX1_setFrame 91 = .ok (.getfield 17, 3) := by decide +kernel
theorem dX1_setFrame_94 : decode cX1_setFrame 94 = .ok (.iload_n 1, 1) := by decide +kernel
theorem dX1_setFrame_95 : decode cX1_setFrame 95 = .ok (.iaload, 1) := by decide +kernel
theorem dX1_setFrame_96 : decode cX1_setFrame 96 = .ok (.invokestatic 42, 3) := by decide +kernel
theorem dX1_setFrame_99 : decode cX1_setFrame 99 = .ok (.putfield 36, 3) := by decide +kernel
theorem dX1_setFrame_102 : decode cX1_setFrame 102 = .ok (.aload_n 0, 1) := by decide +kernel
theorem dX1_setFrame_103 : decode cX1_setFrame 103 = .ok (.aload_n 0, 1) := by decide +kernel
theorem dX1_setFrame_104 : decode cX1_setFrame 104 = .ok (.getfield 39, 3) := by decide +kernel
theorem dX1_setFrame_107 : decode cX1_setFrame 107 = .ok (.aload_n 0, 1) := by decide +kernel
theorem dX1_setFrame_108 : decode cX1_setFrame 108 = .ok (.getfield 17, 3) := by decide +kernel
theorem dX1_setFrame_111 : decode cX1_setFrame 111 = .ok (.iload_n 1, 1) := by decide +kernel
theorem dX1_setFrame_112 : decode cX1_setFrame 112 = .ok (.iaload, 1) := by decide +kernel
theorem dX1_setFrame_113 : decode cX1_setFrame 113 = .ok (.invokestatic 48, 3) := by decide +kernel
theorem dX1_setFrame_116 : decode cX1_setFrame 116 = .ok (.putfield 39, 3) := by decide +kernel
theorem dX1_setFrame_119 : decode cX1_setFrame 119 = .ok (.iinc 1 1, 3) := by decide +kernel
theorem dX1_setFrame_122 : decode cX1_setFrame 122 = .ok (.goto (-80), 3) := by decide +kernel
theorem dX1_setFrame_125 : decode cX1_setFrame 125 = .ok (.return_, 1) := by decide +kernel
theorem dX1_row_0 : decode cX1_row 0 = .ok (.iload_n 1, 1) := by decide +kernel
theorem dX1_row_1 : decode cX1_row 1 = .ok (.ifCond .ne 10, 3) := by decide +kernel
theorem dX1_row_4 : decode cX1_row 4 = .ok (.aload_n 0, 1) := by decide +kernel
theorem dX1_row_5 : decode cX1_row 5 = .ok (.getfield 13, 3) := by decide +kernel
theorem dX1_row_8 : decode cX1_row 8 = .ok (.goto 7, 3) := by decide +kernel
theorem dX1_row_11 : decode cX1_row 11 = .ok (.aload_n 0, 1) := by decide +kernel
theorem dX1_row_12 : decode cX1_row 12 = .ok (.getfield 17, 3) := by decide +kernel
theorem dX1_row_15 : decode cX1_row 15 = .ok (.areturn, 1) := by decide +kernel
theorem dX1_meets_0 : decode cX1_meets 0 = .ok (.aload_n 0, 1) := by decide +kernel
theorem dX1_meets_1 : decode cX1_meets 1 = .ok (.getfield 7, 3) := by decide +kernel
theorem dX1_meets_4 : decode cX1_meets 4 = .ok (.aload_n 1, 1) := by decide +kernel
theorem dX1_meets_5 : decode cX1_meets 5 = .ok (.getfield 7, 3) := by decide +kernel
theorem dX1_meets_8 : decode cX1_meets 8 = .ok (.if_icmp .ne 67, 3) := by decide +kernel
theorem dX1_meets_11 : decode cX1_meets 11 = .ok (.aload_n 0, 1) := by decide +kernel
theorem dX1_meets_12 : decode cX1_meets 12 = .ok (.getfield 30, 3) := by decide +kernel
theorem dX1_meets_15 : decode cX1_meets 15 = .ok (.aload_n 1, 1) := by decide +kernel
theorem dX1_meets_16 : decode cX1_meets 16 = .ok (.getfield 33, 3) := by decide +kernel
theorem dX1_meets_19 : decode cX1_meets 19 = .ok (.if_icmp .gt 56, 3) := by decide +kernel
theorem dX1_meets_22 : decode cX1_meets 22 = .ok (.aload_n 1, 1) := by decide +kernel
theorem dX1_meets_23 : decode cX1_meets 23 = .ok (.getfield 30, 3) := by decide +kernel
theorem dX1_meets_26 : decode cX1_meets 26 = .ok (.aload_n 0, 1) := by decide +kernel
theorem dX1_meets_27 : decode cX1_meets 27 = .ok (.getfield 33, 3) := by decide +kernel
theorem dX1_meets_30 : decode cX1_meets 30 = .ok (.if_icmp .gt 45, 3) := by decide +kernel
theorem dX1_meets_33 : decode cX1_meets 33 = .ok (.aload_n 0, 1) := by decide +kernel
theorem dX1_meets_34 : decode cX1_meets 34 = .ok (.getfield 36, 3) := by decide +kernel
theorem dX1_meets_37 : decode cX1_meets 37 = .ok (.aload_n 1, 1) := by decide +kernel
theorem dX1_meets_38 : decode cX1_meets 38 = .ok (.getfield 39, 3) := by decide +kernel
theorem dX1_meets_41 : decode cX1_meets 41 = .ok (.if_icmp .gt 34, 3) := by decide +kernel
theorem dX1_meets_44 : decode cX1_meets 44 = .ok (.aload_n 1, 1) := by decide +kernel
theorem dX1_meets_45 : decode cX1_meets 45 = .ok (.getfield 36, 3) := by decide +kernel
theorem dX1_meets_48 : decode cX1_meets 48 = .ok (.aload_n 0, 1) := by decide +kernel
theorem dX1_meets_49 : decode cX1_meets 49 = .ok (.getfield 39, 3) := by decide +kernel
theorem dX1_meets_52 : decode cX1_meets 52 = .ok (.if_icmp .gt 23, 3) := by decide +kernel
theorem dX1_meets_55 : decode cX1_meets 55 = .ok (.aload_n 0, 1) := by decide +kernel
theorem dX1_meets_56 : decode cX1_meets 56 = .ok (.aload_n 1, 1) := by decide +kernel
theorem dX1_meets_57 : decode cX1_meets 57 = .ok (.invokevirtual 51, 3) := by decide +kernel
theorem dX1_meets_60 : decode cX1_meets 60 = .ok (.ifCond .ne 15, 3) := by decide +kernel
theorem dX1_meets_63 : decode cX1_meets 63 = .ok (.aload_n 1, 1) := by decide +kernel
theorem dX1_meets_64 : decode cX1_meets 64 = .ok (.aload_n 0, 1) := by decide +kernel
theorem dX1_meets_65 : decode cX1_meets 65 = .ok (.invokevirtual 51, 3) := by decide +kernel
theorem dX1_meets_68 : decode cX1_meets 68 = .ok (.ifCond .ne 7, 3) := by decide +kernel
theorem dX1_meets_71 : decode cX1_meets 71 = .ok (.iconst 1, 1) := by decide +kernel
theorem dX1_meets_72 : decode cX1_meets 72 = .ok (.goto 4, 3) := by decide +kernel
theorem dX1_meets_75 : decode cX1_meets 75 = .ok (.iconst 0, 1) := by decide +kernel
theorem dX1_meets_76 : decode cX1_meets 76 = .ok (.ireturn, 1) := by decide +kernel
theorem dX1_hasEdgeBefore_0 : decode cX1_hasEdgeBefore 0 = .ok (.iconst 0, 1) := by decide +kernel
theorem dX1_hasEdgeBefore_1 : decode cX1_hasEdgeBefore 1 = .ok (.istore_n 2, 1) := by decide +kernel
theorem dX1_hasEdgeBefore_2 : decode cX1_hasEdgeBefore 2 = .ok (.iload_n 2, 1) := by decide +kernel
theorem dX1_hasEdgeBefore_3 : decode cX1_hasEdgeBefore 3 = .ok (.aload_n 0, 1) := by decide +kernel
theorem dX1_hasEdgeBefore_4 : decode cX1_hasEdgeBefore 4 = .ok (.getfield 13, 3) := by decide +kernel
theorem dX1_hasEdgeBefore_7 : decode cX1_hasEdgeBefore 7 = .ok (.arraylength, 1) := by decide +kernel
theorem dX1_hasEdgeBefore_8 : decode cX1_hasEdgeBefore 8 = .ok (.if_icmp .ge 40, 3) := by decide +kernel
theorem dX1_hasEdgeBefore_11 : decode cX1_hasEdgeBefore 11 = .ok (.iload_n 2, 1) := by decide +kernel
theorem dX1_hasEdgeBefore_12 : decode cX1_hasEdgeBefore 12 = .ok (.iconst 1, 1) := by decide +kernel
theorem dX1_hasEdgeBefore_13 : decode cX1_hasEdgeBefore 13 = .ok (.iadd, 1) := by decide +kernel
theorem dX1_hasEdgeBefore_14 : decode cX1_hasEdgeBefore 14 = .ok (.istore_n 3, 1) := by decide +kernel
theorem dX1_hasEdgeBefore_15 : decode cX1_hasEdgeBefore 15 = .ok (.iload_n 3, 1) := by decide +kernel
theorem dX1_hasEdgeBefore_16 : decode cX1_hasEdgeBefore 16 = .ok (.aload_n 0, 1) := by decide +kernel
theorem dX1_hasEdgeBefore_17 : decode cX1_hasEdgeBefore 17 = .ok (.getfield 13, 3) := by decide +kernel
theorem dX1_hasEdgeBefore_20 : decode cX1_hasEdgeBefore 20 = .ok (.arraylength, 1) := by decide +kernel
theorem dX1_hasEdgeBefore_21 : decode cX1_hasEdgeBefore 21 = .ok (.if_icmp .ge 21, 3) := by decide +kernel
theorem dX1_hasEdgeBefore_24 : decode cX1_hasEdgeBefore 24 = .ok (.aload_n 0, 1) := by decide +kernel
theorem dX1_hasEdgeBefore_25 : decode cX1_hasEdgeBefore 25 = .ok (.iload_n 2, 1) := by decide +kernel
theorem dX1_hasEdgeBefore_26 : decode cX1_hasEdgeBefore 26 = .ok (.iload_n 3, 1) := by decide +kernel
theorem dX1_hasEdgeBefore_27 : decode cX1_hasEdgeBefore 27 = .ok (.aload_n 1, 1) := by decide +kernel
theorem dX1_hasEdgeBefore_28 : decode cX1_hasEdgeBefore 28 = .ok (.invokevirtual 55, 3) := by decide +kernel
theorem dX1_hasEdgeBefore_31 : decode cX1_hasEdgeBefore 31 = .ok (.ifCond .eq 5, 3) := by decide +kernel
theorem dX1_hasEdgeBefore_34 : decode cX1_hasEdgeBefore 34 = .ok (.iconst 1, 1) := by decide +kernel
theorem dX1_hasEdgeBefore_35 : decode cX1_hasEdgeBefore 35 = .ok (.ireturn, 1) := by decide +kernel
theorem dX1_hasEdgeBefore_36 : decode cX1_hasEdgeBefore 36 = .ok (.iinc 3 1, 3) := by decide +kernel
theorem dX1_hasEdgeBefore_39 : decode cX1_hasEdgeBefore 39 = .ok (.goto (-24), 3) := by decide +kernel
theorem dX1_hasEdgeBefore_42 : decode cX1_hasEdgeBefore 42 = .ok (.iinc 2 1, 3) := by decide +kernel
theorem dX1_hasEdgeBefore_45 : decode cX1_hasEdgeBefore 45 = .ok (.goto (-43), 3) := by decide +kernel
theorem dX1_hasEdgeBefore_48 : decode cX1_hasEdgeBefore 48 = .ok (.iconst 0, 1) := by decide +kernel
theorem dX1_hasEdgeBefore_49 : decode cX1_hasEdgeBefore 49 = .ok (.ireturn, 1) := by decide +kernel
theorem dX1_separates_0 : decode cX1_separates 0 = .ok (.aload_n 0, 1) := by decide +kernel
theorem dX1_separates_1 : decode cX1_separates 1 = .ok (.getfield 13, 3) := by decide +kernel
theorem dX1_separates_4 : decode cX1_separates 4 = .ok (.iload_n 2, 1) := by decide +kernel
theorem dX1_separates_5 : decode cX1_separates 5 = .ok (.iaload, 1) := by decide +kernel
theorem dX1_separates_6 : decode cX1_separates 6 = .ok (.aload_n 0, 1) := by decide +kernel
theorem dX1_separates_7 : decode cX1_separates 7 = .ok (.getfield 13, 3) := by decide +kernel
theorem dX1_separates_10 : decode cX1_separates 10 = .ok (.iload_n 1, 1) := by decide +kernel
theorem dX1_separates_11 : decode cX1_separates 11 = .ok (.iaload, 1) := by decide +kernel
theorem dX1_separates_12 : decode cX1_separates 12 = .ok (.isub, 1) := by decide +kernel
theorem dX1_separates_13 : decode cX1_separates 13 = .ok (.istore 4, 2) := by decide +kernel
theorem dX1_separates_15 : decode cX1_separates 15 = .ok (.aload_n 0, 1) := by decide +kernel
theorem dX1_separates_16 : decode cX1_separates 16 = .ok (.getfield 17, 3) := by decide +kernel
theorem dX1_separates_19 : decode cX1_separates 19 = .ok (.iload_n 2, 1) := by decide +kernel
theorem dX1_separates_20 : decode cX1_separates 20 = .ok (.iaload, 1) := by decide +kernel
theorem dX1_separates_21 : decode cX1_separates 21 = .ok (.aload_n 0, 1) := by decide +kernel
theorem dX1_separates_22 : decode cX1_separates 22 = .ok (.getfield 17, 3) := by decide +kernel
theorem dX1_separates_25 : decode cX1_separates 25 = .ok (.iload_n 1, 1) := by decide +kernel
theorem dX1_separates_26 : decode cX1_separates 26 = .ok (.iaload, 1) := by decide +kernel
theorem dX1_separates_27 : decode cX1_separates 27 = .ok (.isub, 1) := by decide +kernel
theorem dX1_separates_28 : decode cX1_separates 28 = .ok (.istore 5, 2) := by decide +kernel
theorem dX1_separates_30 : decode cX1_separates 30 = .ok (.iload 4, 2) := by decide +kernel
theorem dX1_separates_32 : decode cX1_separates 32 = .ok (.aload_n 0, 1) := by decide +kernel
theorem dX1_separates_33 : decode cX1_separates 33 = .ok (.getfield 17, 3) := by decide +kernel
theorem dX1_separates_36 : decode cX1_separates 36 = .ok (.iload_n 1, 1) := by decide +kernel
theorem dX1_separates_37 : decode cX1_separates 37 = .ok (.iaload, 1) := by decide +kernel
theorem dX1_separates_38 : decode cX1_separates 38 = .ok (.imul, 1) := by decide +kernel
theorem dX1_separates_39 : decode cX1_separates 39 = .ok (.iload 5, 2) := by decide +kernel
theorem dX1_separates_41 : decode cX1_separates 41 = .ok (.aload_n 0, 1) := by decide +kernel
theorem dX1_separates_42 : decode cX1_separates 42 = .ok (.getfield 13, 3) := by decide +kernel
theorem dX1_separates_45 : decode cX1_separates 45 = .ok (.iload_n 1, 1) := by decide +kernel
theorem dX1_separates_46 : decode cX1_separates 46 = .ok (.iaload, 1) := by decide +kernel
theorem dX1_separates_47 : decode cX1_separates 47 = .ok (.imul, 1) := by decide +kernel
theorem dX1_separates_48 : decode cX1_separates 48 = .ok (.isub, 1) := by decide +kernel
theorem dX1_separates_49 : decode cX1_separates 49 = .ok (.istore 6, 2) := by decide +kernel
theorem dX1_separates_51 : decode cX1_separates 51 = .ok (.iconst 0, 1) := by decide +kernel
theorem dX1_separates_52 : decode cX1_separates 52 = .ok (.istore 7, 2) := by decide +kernel
theorem dX1_separates_54 : decode cX1_separates 54 = .ok (.iconst 0, 1) := by decide +kernel
theorem dX1_separates_55 : decode cX1_separates 55 = .ok (.istore 8, 2) := by decide +kernel
theorem dX1_separates_57 : decode cX1_separates 57 = .ok (.iconst 0, 1) := by decide +kernel
theorem dX1_separates_58 : decode cX1_separates 58 = .ok (.istore 9, 2) := by decide +kernel
theorem dX1_separates_60 : decode cX1_separates 60 = .ok (.iload 9, 2) := by decide +kernel
theorem dX1_separates_62 : decode cX1_separates 62 = .ok (.aload_n 0, 1) := by decide +kernel
theorem dX1_separates_63 : decode cX1_separates 63 = .ok (.getfield 13, 3) := by decide +kernel
theorem dX1_separates_66 : decode cX1_separates 66 = .ok (.arraylength, 1) := by decide +kernel
theorem dX1_separates_67 : decode cX1_separates 67 = .ok (.if_icmp .ge 69, 3) := by decide +kernel
theorem dX1_separates_70 : decode cX1_separates 70 = .ok (.iload 4, 2) := by decide +kernel
theorem dX1_separates_72 : decode cX1_separates 72 = .ok (.aload_n 0, 1) := by decide +kernel
theorem dX1_separates_73 : decode cX1_separates 73 = .ok (.getfield 17, 3) := by decide +kernel
theorem dX1_separates_76 : decode cX1_separates 76 = .ok (.iload 9, 2) := by decide +kernel
theorem dX1_separates_78 : decode cX1_separates 78 = .ok (.iaload, 1) := by decide +kernel
theorem dX1_separates_79 : decode cX1_separates 79 = .ok (.imul, 1) := by decide +kernel
theorem dX1_separates_80 : decode cX1_separates 80 = .ok (.iload 5, 2) := by decide +kernel
theorem dX1_separates_82 : decode cX1_separates 82 = .ok (.aload_n 0, 1) := by decide +kernel
theorem dX1_separates_83 : decode cX1_separates 83 = .ok (.getfield 13, 3) := by decide +kernel
theorem dX1_separates_86 : decode cX1_separates 86 = .ok (.iload 9, 2) := by decide +kernel
theorem dX1_separates_88 : decode cX1_separates 88 = .ok (.iaload, 1) := by decide +kernel
theorem dX1_separates_89 : decode cX1_separates 89 = .ok (.imul, 1) := by decide +kernel
theorem dX1_separates_90 : decode cX1_separates 90 = .ok (.isub, 1) := by decide +kernel
theorem dX1_separates_91 : decode cX1_separates 91 = .ok (.iload 6, 2) := by decide +kernel
theorem dX1_separates_93 : decode cX1_separates 93 = .ok (.isub, 1) := by decide +kernel
theorem dX1_separates_94 : decode cX1_separates 94 = .ok (.istore 10, 2) := by decide +kernel
theorem dX1_separates_96 : decode cX1_separates 96 = .ok (.iload 7, 2) := by decide +kernel
theorem dX1_separates_98 : decode cX1_separates 98 = .ok (.ifCond .ne 8, 3) := by decide +kernel
theorem dX1_separates_101 : decode cX1_separates 101 = .ok (.iload 10, 2) := by decide +kernel
theorem dX1_separates_103 : decode cX1_separates 103 = .ok (.ifCond .le 7, 3) := by decide +kernel
theorem dX1_separates_106 : decode cX1_separates 106 = .ok (.iconst 1, 1) := by decide +kernel
theorem dX1_separates_107 : decode cX1_separates 107 = .ok (.goto 4, 3) := by decide +kernel
theorem dX1_separates_110 : decode cX1_separates 110 = .ok (.iconst 0, 1) := by decide +kernel
theorem dX1_separates_111 : decode cX1_separates 111 = .ok (.istore 7, 2) := by decide +kernel
theorem dX1_separates_113 : decode cX1_separates 113 = .ok (.iload 8, 2) := by decide +kernel
theorem dX1_separates_115 : decode cX1_separates 115 = .ok (.ifCond .ne 8, 3) := by decide +kernel
theorem dX1_separates_118 : decode cX1_separates 118 = .ok (.iload 10, 2) := by decide +kernel
theorem dX1_separates_120 : decode cX1_separates 120 = .ok (.ifCond .ge 7, 3) := by decide +kernel
theorem dX1_separates_123 : decode cX1_separates 123 = .ok (.iconst 1, 1) := by decide +kernel
theorem dX1_separates_124 : decode cX1_separates 124 = .ok (.goto 4, 3) := by decide +kernel
theorem dX1_separates_127 : decode cX1_separates 127 = .ok (.iconst 0, 1) := by decide +kernel
theorem dX1_separates_128 : decode cX1_separates 128 = .ok (.istore 8, 2) := by decide +kernel
theorem dX1_separates_130 : decode cX1_separates 130 = .ok (.iinc 9 1, 3) := by decide +kernel
theorem dX1_separates_133 : decode cX1_separates 133 = .ok (.goto (-73), 3) := by decide +kernel
theorem dX1_separates_136 : decode cX1_separates 136 = .ok (.iload 7, 2) := by decide +kernel
theorem dX1_separates_138 : decode cX1_separates 138 = .ok (.ifCond .eq 10, 3) := by decide +kernel
theorem dX1_separates_141 : decode cX1_separates 141 = .ok (.iload 8, 2) := by decide +kernel
theorem dX1_separates_143 : decode cX1_separates 143 = .ok (.ifCond .eq 5, 3) := by decide +kernel
theorem dX1_separates_146 : decode cX1_separates 146 = .ok (.iconst 0, 1) := by decide +kernel
theorem dX1_separates_147 : decode cX1_separates 147 = .ok (.ireturn, 1) := by decide +kernel
theorem dX1_separates_148 : decode cX1_separates 148 = .ok (.iconst 0, 1) := by decide +kernel
theorem dX1_separates_149 : decode cX1_separates 149 = .ok (.istore 9, 2) := by decide +kernel
theorem dX1_separates_151 : decode cX1_separates 151 = .ok (.iload 9, 2) := by decide +kernel
theorem dX1_separates_153 : decode cX1_separates 153 = .ok (.aload_n 3, 1) := by decide +kernel
theorem dX1_separates_154 : decode cX1_separates 154 = .ok (.getfield 13, 3) := by decide +kernel
theorem dX1_separates_157 : decode cX1_separates 157 = .ok (.arraylength, 1) := by decide +kernel
theorem dX1_separates_158 : decode cX1_separates 158 = .ok (.if_icmp .ge 55, 3) := by decide +kernel
theorem dX1_separates_161 : decode cX1_separates 161 = .ok (.iload 4, 2) := by decide +kernel
theorem dX1_separates_163 : decode cX1_separates 163 = .ok (.aload_n 3, 1) := by decide +kernel
theorem dX1_separates_164 : decode cX1_separates 164 = .ok (.getfield 17, 3) := by decide +kernel
theorem dX1_separates_167 : decode cX1_separates 167 = .ok (.iload 9, 2) := by decide +kernel
theorem dX1_separates_169 : decode cX1_separates 169 = .ok (.iaload, 1) := by decide +kernel
theorem dX1_separates_170 : decode cX1_separates 170 = .ok (.imul, 1) := by decide +kernel
theorem dX1_separates_171 : decode cX1_separates 171 = .ok (.iload 5, 2) := by decide +kernel
theorem dX1_separates_173 : decode cX1_separates 173 = .ok (.aload_n 3, 1) := by decide +kernel
theorem dX1_separates_174 : decode cX1_separates 174 = .ok (.getfield 13, 3) := by decide +kernel
theorem dX1_separates_177 : decode cX1_separates 177 = .ok (.iload 9, 2) := by decide +kernel
theorem dX1_separates_179 : decode cX1_separates 179 = .ok (.iaload, 1) := by decide +kernel
theorem dX1_separates_180 : decode cX1_separates 180 = .ok (.imul, 1) := by decide +kernel
theorem dX1_separates_181 : decode cX1_separates 181 = .ok (.isub, 1) := by decide +kernel
theorem dX1_separates_182 : decode cX1_separates 182 = .ok (.iload 6, 2) := by decide +kernel
theorem dX1_separates_184 : decode cX1_separates 184 = .ok (.isub, 1) := by decide +kernel
theorem dX1_separates_185 : decode cX1_separates 185 = .ok (.istore 10, 2) := by decide +kernel
theorem dX1_separates_187 : decode cX1_separates 187 = .ok (.iload 7, 2) := by decide +kernel
theorem dX1_separates_189 : decode cX1_separates 189 = .ok (.ifCond .eq 11, 3) := by decide +kernel
theorem dX1_separates_192 : decode cX1_separates 192 = .ok (.iload 10, 2) := by decide +kernel
theorem dX1_separates_194 : decode cX1_separates 194 = .ok (.ifCond .lt 13, 3) := by decide +kernel
theorem dX1_separates_197 : decode cX1_separates 197 = .ok (.goto 8, 3) := by decide +kernel
theorem dX1_separates_200 : decode cX1_separates 200 = .ok (.iload 10, 2) := by decide +kernel
theorem dX1_separates_202 : decode cX1_separates 202 = .ok (.ifCond .gt 5, 3) := by decide +kernel
theorem dX1_separates_205 : decode cX1_separates 205 = .ok (.iconst 0, 1) := by decide +kernel
theorem dX1_separates_206 : decode cX1_separates 206 = .ok (.ireturn, 1) := by decide +kernel
theorem dX1_separates_207 : decode cX1_separates 207 = .ok (.iinc 9 1, 3) := by decide +kernel
theorem dX1_separates_210 : decode cX1_separates 210 = .ok (.goto (-59), 3) := by decide +kernel
theorem dX1_separates_213 : decode cX1_separates 213 = .ok (.iconst 1, 1) := by decide +kernel
theorem dX1_separates_214 : decode cX1_separates 214 = .ok (.ireturn, 1) := by decide +kernel
end
section
theorem dX2_init_0 : decode cX2_init 0 = .ok (.aload_n 0, 1) := by decide +kernel
theorem dX2_init_1 : decode cX2_init 1 = .ok (.invokespecial 3, 3) := by decide +kernel
theorem dX2_init_4 : decode cX2_init 4 = .ok (.aload_n 0, 1) := by decide +kernel
theorem dX2_init_5 : decode cX2_init 5 = .ok (.iload_n 1, 1) := by decide +kernel
theorem dX2_init_6 : decode cX2_init 6 = .ok (.putfield 9, 3) := by decide +kernel
theorem dX2_init_9 : decode cX2_init 9 = .ok (.aload_n 0, 1) := by decide +kernel
theorem dX2_init_10 : decode cX2_init 10 = .ok (.iload_n 2, 1) := by decide +kernel
theorem dX2_init_11 : decode cX2_init 11 = .ok (.putfield 15, 3) := by decide +kernel
theorem dX2_init_14 : decode cX2_init 14 = .ok (.aload_n 0, 1) := by decide +kernel
theorem dX2_init_15 : decode cX2_init 15 = .ok (.iload_n 3, 1) := by decide +kernel
theorem dX2_init_16 : decode cX2_init 16 = .ok (.putfield 18, 3) := by decide +kernel
theorem dX2_init_19 : decode cX2_init 19 = .ok (.aload_n 0, 1) := by decide +kernel
theorem dX2_init_20 : decode cX2_init 20 = .ok (.iload 4, 2) := by decide +kernel
theorem dX2_init_22 : decode cX2_init 22 = .ok (.putfield 21, 3) := by decide +kernel
theorem dX2_init_25 : decode cX2_init 25 = .ok (.aload_n 0, 1) := by decide +kernel
theorem dX2_init_26 : decode cX2_init 26 = .ok (.iload 5, 2) := by decide +kernel
theorem dX2_init_28 : decode cX2_init 28 = .ok (.putfield 24, 3) := by decide +kernel
theorem dX2_init_31 : decode cX2_init 31 = .ok (.return_, 1) := by decide +kernel
theorem dX2_isBefore_0 : decode cX2_isBefore 0 = .ok (.aload_n 0, 1) := by decide +kernel
theorem dX2_isBefore_1 : decode cX2_isBefore 1 = .ok (.getfield 15, 3) := by decide +kernel
theorem dX2_isBefore_4 : decode cX2_isBefore 4 = .ok (.aload_n 1, 1) := by decide +kernel
theorem dX2_isBefore_5 : decode cX2_isBefore 5 = .ok (.getfield 15, 3) := by decide +kernel
theorem dX2_isBefore_8 : decode cX2_isBefore 8 = .ok (.if_icmp .lt 25, 3) := by decide +kernel
theorem dX2_isBefore_11 : decode cX2_isBefore 11 = .ok (.aload_n 0, 1) := by decide +kernel
theorem dX2_isBefore_12 : decode cX2_isBefore 12 = .ok (.getfield 15, 3) := by decide +kernel
theorem dX2_isBefore_15 : decode cX2_isBefore 15 = .ok (.aload_n 1, 1) := by decide +kernel
theorem dX2_isBefore_16 : decode cX2_isBefore 16 = .ok (.getfield 15, 3) := by decide +kernel
theorem dX2_isBefore_19 : decode cX2_isBefore 19 = .ok (.if_icmp .ne 18, 3) := by decide +kernel
theorem dX2_isBefore_22 : decode cX2_isBefore 22 = .ok (.aload_n 0, 1) := by decide +kernel
theorem dX2_isBefore_23 : decode cX2_isBefore 23 = .ok (.getfield 18, 3) := by decide +kernel
theorem dX2_isBefore_26 : decode cX2_isBefore 26 = .ok (.aload_n 1, 1) := by decide +kernel
theorem dX2_isBefore_27 : decode cX2_isBefore 27 = .ok (.getfield 18, 3) := by decide +kernel
theorem dX2_isBefore_30 : decode cX2_isBefore 30 = .ok (.if_icmp .ge 7, 3) := by decide +kernel
theorem dX2_isBefore_33 : decode cX2_isBefore 33 = .ok (.iconst 1, 1) := by decide +kernel
theorem dX2_isBefore_34 : decode cX2_isBefore 34 = .ok (.goto 4, 3) := by decide +kernel
theorem dX2_isBefore_37 : decode cX2_isBefore 37 = .ok (.iconst 0, 1) := by decide +kernel
theorem dX2_isBefore_38 : decode cX2_isBefore 38 = .ok (.ireturn, 1) := by decide +kernel
theorem dX2_isInChordOf_0 : decode cX2_isInChordOf 0 = .ok (.aload_n 0, 1) := by decide +kernel
theorem dX2_isInChordOf_1 : decode cX2_isInChordOf 1 = .ok (.getfield 15, 3) := by decide +kernel
theorem dX2_isInChordOf_4 : decode cX2_isInChordOf 4 = .ok (.aload_n 1, 1) := by decide +kernel
theorem dX2_isInChordOf_5 : decode cX2_isInChordOf 5 = .ok (.getfield 15, 3) := by decide +kernel
theorem dX2_isInChordOf_8 : decode cX2_isInChordOf 8 = .ok (.if_icmp .ne 18, 3) := by decide +kernel
theorem dX2_isInChordOf_11 : decode cX2_isInChordOf 11 = .ok (.aload_n 0, 1) := by decide +kernel
theorem dX2_isInChordOf_12 : decode cX2_isInChordOf 12 = .ok (.getfield 18, 3) := by decide +kernel
theorem dX2_isInChordOf_15 : decode cX2_isInChordOf 15 = .ok (.aload_n 1, 1) := by decide +kernel
theorem dX2_isInChordOf_16 : decode cX2_isInChordOf 16 = .ok (.getfield 18, 3) := by decide +kernel
theorem dX2_isInChordOf_19 : decode cX2_isInChordOf 19 = .ok (.if_icmp .ne 7, 3) := by decide +kernel
theorem dX2_isInChordOf_22 : decode cX2_isInChordOf 22 = .ok (.iconst 1, 1) := by decide +kernel
theorem dX2_isInChordOf_23 : decode cX2_isInChordOf 23 = .ok (.goto 4, 3) := by decide +kernel
theorem dX2_isInChordOf_26 : decode cX2_isInChordOf 26 = .ok (.iconst 0, 1) := by decide +kernel
theorem dX2_isInChordOf_27 : decode cX2_isInChordOf 27 = .ok (.ireturn, 1) := by decide +kernel
theorem dX2_stemSide_0 : decode cX2_stemSide 0 = .ok (.aload_n 0, 1) := by decide +kernel
theorem dX2_stemSide_1 : decode cX2_stemSide 1 = .ok (.getfield 24, 3) := by decide +kernel
theorem dX2_stemSide_4 : decode cX2_stemSide 4 = .ok (.ifCond .eq 7, 3) := by decide +kernel
theorem dX2_stemSide_7 : decode cX2_stemSide 7 = .ok (.iconst 1, 1) := by decide +kernel
theorem dX2_stemSide_8 : decode cX2_stemSide 8 = .ok (.goto 4, 3) := by decide +kernel
theorem dX2_stemSide_11 : decode cX2_stemSide 11 = .ok (.iconst (-1), 1) := by decide +kernel
theorem dX2_stemSide_12 : decode cX2_stemSide 12 = .ok (.ireturn, 1) := by decide +kernel
end
section
theorem dX3_init_0 : decode cX3_init 0 = .ok (.aload_n 0, 1) := by decide +kernel
theorem dX3_init_1 : decode cX3_init 1 = .ok (.invokespecial 1, 3) := by decide +kernel
theorem dX3_init_4 : decode cX3_init 4 = .ok (.aload_n 0, 1) := by decide +kernel
theorem dX3_init_5 : decode cX3_init 5 = .ok (.iconst (-1), 1) := by decide +kernel
theorem dX3_init_6 : decode cX3_init 6 = .ok (.putfield 9, 3) := by decide +kernel
theorem dX3_init_9 : decode cX3_init 9 = .ok (.aload_n 0, 1) := by decide +kernel
theorem dX3_init_10 : decode cX3_init 10 = .ok (.aload_n 1, 1) := by decide +kernel
theorem dX3_init_11 : decode cX3_init 11 = .ok (.putfield 13, 3) := by decide +kernel
theorem dX3_init_14 : decode cX3_init 14 = .ok (.aload_n 0, 1) := by decide +kernel
theorem dX3_init_15 : decode cX3_init 15 = .ok (.iload_n 2, 1) := by decide +kernel
theorem dX3_init_16 : decode cX3_init 16 = .ok (.putfield 17, 3) := by decide +kernel
theorem dX3_init_19 : decode cX3_init 19 = .ok (.aload_n 0, 1) := by decide +kernel
theorem dX3_init_20 : decode cX3_init 20 = .ok (.iload_n 3, 1) := by decide +kernel
theorem dX3_init_21 : decode cX3_init 21 = .ok (.putfield 20, 3) := by decide +kernel
theorem dX3_init_24 : decode cX3_init 24 = .ok (.aload_n 0, 1) := by decide +kernel
theorem dX3_init_25 : decode cX3_init 25 = .ok (.iload 4, 2) := by decide +kernel
theorem dX3_init_27 : decode cX3_init 27 = .ok (.putfield 23, 3) := by decide +kernel
theorem dX3_init_30 : decode cX3_init 30 = .ok (.aload_n 0, 1) := by decide +kernel
theorem dX3_init_31 : decode cX3_init 31 = .ok (.iload 5, 2) := by decide +kernel
theorem dX3_init_33 : decode cX3_init 33 = .ok (.putfield 26, 3) := by decide +kernel
theorem dX3_init_36 : decode cX3_init 36 = .ok (.aload_n 0, 1) := by decide +kernel
theorem dX3_init_37 : decode cX3_init 37 = .ok (.iload 6, 2) := by decide +kernel
theorem dX3_init_39 : decode cX3_init 39 = .ok (.putfield 29, 3) := by decide +kernel
theorem dX3_init_42 : decode cX3_init 42 = .ok (.aload_n 0, 1) := by decide +kernel
theorem dX3_init_43 : decode cX3_init 43 = .ok (.bipush 20, 2) := by decide +kernel
theorem dX3_init_45 : decode cX3_init 45 = .ok (.iconst 4, 1) := by decide +kernel
theorem dX3_init_46 : decode cX3_init 46 = .ok (.iload 5, 2) := by decide +kernel
theorem dX3_init_48 : decode cX3_init 48 = .ok (.iload_n 3, 1) := by decide +kernel
theorem dX3_init_49 : decode cX3_init 49 = .ok (.isub, 1) := by decide +kernel
theorem dX3_init_50 : decode cX3_init 50 = .ok (.bipush 8, 2) := by decide +kernel
theorem dX3_init_52 : decode cX3_init 52 = .ok (.idiv, 1) := by decide +kernel
theorem dX3_init_53 : decode cX3_init 53 = .ok (.iadd, 1) := by decide +kernel
theorem dX3_init_54 : decode cX3_init 54 = .ok (.invokestatic 32, 3) := by decide +kernel
theorem dX3_init_57 : decode cX3_init 57 = .ok (.putfield 38, 3) := by decide +kernel
theorem dX3_init_60 : decode cX3_init 60 = .ok (.aload_n 0, 1) := by decide +kernel
theorem dX3_init_61 : decode cX3_init 61 = .ok (.iload_n 2, 1) := by decide +kernel
theorem dX3_init_62 : decode cX3_init 62 = .ok (.invokestatic 41, 3) := by decide +kernel
theorem dX3_init_65 : decode cX3_init 65 = .ok (.putfield 47, 3) := by decide +kernel
theorem dX3_init_68 : decode cX3_init 68 = .ok (.return_, 1) := by decide +kernel
theorem dX3_candidateCount_0 : decode cX3_candidateCount 0 = .ok (.aload_n 0, 1) := by decide +kernel
theorem dX3_candidateCount_1 : decode cX3_candidateCount 1 = .ok (.getfield 13, 3) := by decide +kernel
theorem dX3_candidateCount_4 : decode cX3_candidateCount 4 = .ok (.getfield 51, 3) := by decide +kernel
theorem dX3_candidateCount_7 : decode cX3_candidateCount 7 = .ok (.ifCond .eq 8, 3) := by decide +kernel
theorem dX3_candidateCount_10 : decode cX3_candidateCount 10 = .ok (.bipush 8, 2) := by decide +kernel
theorem dX3_candidateCount_12 : decode cX3_candidateCount 12 = .ok (.goto 5, 3) := by decide +kernel
theorem dX3_candidateCount_15 : decode cX3_candidateCount 15 = .ok (.bipush 24, 2) := by decide +kernel
theorem dX3_candidateCount_17 : decode cX3_candidateCount 17 = .ok (.ireturn, 1) := by decide +kernel
theorem dX3_badness_0 : decode cX3_badness 0 = .ok (.iconst 4, 1) := by decide +kernel
theorem dX3_badness_1 : decode cX3_badness 1 = .ok (.iload_n 1, 1) := by decide +kernel
theorem dX3_badness_2 : decode cX3_badness 2 = .ok (.bipush 8, 2) := by decide +kernel
theorem dX3_badness_4 : decode cX3_badness 4 = .ok (.irem, 1) := by decide +kernel
theorem dX3_badness_5 : decode cX3_badness 5 = .ok (.imul, 1) := by decide +kernel
theorem dX3_badness_6 : decode cX3_badness 6 = .ok (.istore_n 2, 1) := by decide +kernel
theorem dX3_badness_7 : decode cX3_badness 7 = .ok (.iload_n 1, 1) := by decide +kernel
theorem dX3_badness_8 : decode cX3_badness 8 = .ok (.bipush 8, 2) := by decide +kernel
theorem dX3_badness_10 : decode cX3_badness 10 = .ok (.idiv, 1) := by decide +kernel
theorem dX3_badness_11 : decode cX3_badness 11 = .ok (.istore_n 3, 1) := by decide +kernel
theorem dX3_badness_12 : decode cX3_badness 12 = .ok (.iload_n 2, 1) := by decide +kernel
theorem dX3_badness_13 : decode cX3_badness 13 = .ok (.iload_n 2, 1) := by decide +kernel
theorem dX3_badness_14 : decode cX3_badness 14 = .ok (.imul, 1) := by decide +kernel
theorem dX3_badness_15 : decode cX3_badness 15 = .ok (.bipush 48, 2) := by decide +kernel
theorem dX3_badness_17 : decode cX3_badness 17 = .ok (.iload_n 3, 1) := by decide +kernel
theorem dX3_badness_18 : decode cX3_badness 18 = .ok (.imul, 1) := by decide +kernel
theorem dX3_badness_19 : decode cX3_badness 19 = .ok (.iload_n 3, 1) := by decide +kernel
theorem dX3_badness_20 : decode cX3_badness 20 = .ok (.imul, 1) := by decide +kernel
theorem dX3_badness_21 : decode cX3_badness 21 = .ok (.iadd, 1) := by decide +kernel
theorem dX3_badness_22 : decode cX3_badness 22 = .ok (.ireturn, 1) := by decide +kernel
theorem dX3_liesWithin_0 : decode cX3_liesWithin 0 = .ok (.aload_n 0, 1) := by decide +kernel
theorem dX3_liesWithin_1 : decode cX3_liesWithin 1 = .ok (.getfield 17, 3) := by decide +kernel
theorem dX3_liesWithin_4 : decode cX3_liesWithin 4 = .ok (.aload_n 1, 1) := by decide +kernel
theorem dX3_liesWithin_5 : decode cX3_liesWithin 5 = .ok (.getfield 17, 3) := by decide +kernel
theorem dX3_liesWithin_8 : decode cX3_liesWithin 8 = .ok (.if_icmp .ne 63, 3) := by decide +kernel
theorem dX3_liesWithin_11 : decode cX3_liesWithin 11 = .ok (.aload_n 0, 1) := by decide +kernel
theorem dX3_liesWithin_12 : decode cX3_liesWithin 12 = .ok (.getfield 13, 3) := by decide +kernel
theorem dX3_liesWithin_15 : decode cX3_liesWithin 15 = .ok (.getfield 57, 3) := by decide +kernel
theorem dX3_liesWithin_18 : decode cX3_liesWithin 18 = .ok (.aload_n 1, 1) := by decide +kernel
theorem dX3_liesWithin_19 : decode cX3_liesWithin 19 = .ok (.getfield 13, 3) := by decide +kernel
theorem dX3_liesWithin_22 : decode cX3_liesWithin 22 = .ok (.getfield 57, 3) := by decide +kernel
theorem dX3_liesWithin_25 : decode cX3_liesWithin 25 = .ok (.if_icmp .ge 46, 3) := by decide +kernel
theorem dX3_liesWithin_28 : decode cX3_liesWithin 28 = .ok (.aload_n 0, 1) := by decide +kernel
theorem dX3_liesWithin_29 : decode cX3_liesWithin 29 = .ok (.getfield 13, 3) := by decide +kernel
theorem dX3_liesWithin_32 : decode cX3_liesWithin 32 = .ok (.getfield 60, 3) := by decide +kernel
theorem dX3_liesWithin_35 : decode cX3_liesWithin 35 = .ok (.aload_n 1, 1) := by decide +kernel
theorem dX3_liesWithin_36 : decode cX3_liesWithin 36 = .ok (.getfield 13, 3) := by decide +kernel
theorem dX3_liesWithin_39 : decode cX3_liesWithin 39 = .ok (.getfield 60, 3) := by decide +kernel
theorem dX3_liesWithin_42 : decode cX3_liesWithin 42 = .ok (.if_icmp .ne 29, 3) := by decide +kernel
theorem dX3_liesWithin_45 : decode cX3_liesWithin 45 = .ok (.aload_n 0, 1) := by decide +kernel
theorem dX3_liesWithin_46 : decode cX3_liesWithin 46 = .ok (.getfield 20, 3) := by decide +kernel
theorem dX3_liesWithin_49 : decode cX3_liesWithin 49 = .ok (.aload_n 1, 1) := by decide +kernel
theorem dX3_liesWithin_50 : decode cX3_liesWithin 50 = .ok (.getfield 20, 3) := by decide +kernel
theorem dX3_liesWithin_53 : decode cX3_liesWithin 53 = .ok (.if_icmp .lt 18, 3) := by decide +kernel
theorem dX3_liesWithin_56 : decode cX3_liesWithin 56 = .ok (.aload_n 0, 1) := by decide +kernel
theorem dX3_liesWithin_57 : decode cX3_liesWithin 57 = .ok (.getfield 26, 3) := by decide +kernel
theorem dX3_liesWithin_60 : decode cX3_liesWithin 60 = .ok (.aload_n 1, 1) := by decide +kernel
theorem dX3_liesWithin_61 : decode cX3_liesWithin 61 = .ok (.getfield 26, 3) := by decide +kernel
theorem dX3_liesWithin_64 : decode cX3_liesWithin 64 = .ok (.if_icmp .gt 7, 3) := by decide +kernel
theorem dX3_liesWithin_67 : decode cX3_liesWithin 67 = .ok (.iconst 1, 1) := by decide +kernel
theorem dX3_liesWithin_68 : decode cX3_liesWithin 68 = .ok (.goto 4, 3) := by decide +kernel
theorem dX3_liesWithin_71 : decode cX3_liesWithin 71 = .ok (.iconst 0, 1) := by decide +kernel
theorem dX3_liesWithin_72 : decode cX3_liesWithin 72 = .ok (.ireturn, 1) := by decide +kernel
theorem dX3_draw_0 : decode cX3_draw 0 = .ok (.aload_n 0, 1) := by decide +kernel
theorem dX3_draw_1 : decode cX3_draw 1 = .ok (.getfield 38, 3) := by decide +kernel
theorem dX3_draw_4 : decode cX3_draw 4 = .ok (.iconst 4, 1) := by decide +kernel
theorem dX3_draw_5 : decode cX3_draw 5 = .ok (.iload_n 1, 1) := by decide +kernel
theorem dX3_draw_6 : decode cX3_draw 6 = .ok (.bipush 8, 2) := by decide +kernel
theorem dX3_draw_8 : decode cX3_draw 8 = .ok (.irem, 1) := by decide +kernel
theorem dX3_draw_9 : decode cX3_draw 9 = .ok (.imul, 1) := by decide +kernel
theorem dX3_draw_10 : decode cX3_draw 10 = .ok (.iadd, 1) := by decide +kernel
theorem dX3_draw_11 : decode cX3_draw 11 = .ok (.aload_n 0, 1) := by decide +kernel
theorem dX3_draw_12 : decode cX3_draw 12 = .ok (.getfield 13, 3) := by decide +kernel
theorem dX3_draw_15 : decode cX3_draw 15 = .ok (.getfield 60, 3) := by decide +kernel
theorem dX3_draw_18 : decode cX3_draw 18 = .ok (.imul, 1) := by decide +kernel
theorem dX3_draw_19 : decode cX3_draw 19 = .ok (.istore_n 3, 1) := by decide +kernel
theorem dX3_draw_20 : decode cX3_draw 20 = .ok (.iconst 4, 1) := by decide +kernel
theorem dX3_draw_21 : decode cX3_draw 21 = .ok (.iload_n 1, 1) := by decide +kernel
theorem dX3_draw_22 : decode cX3_draw 22 = .ok (.bipush 8, 2) := by decide +kernel
theorem dX3_draw_24 : decode cX3_draw 24 = .ok (.idiv, 1) := by decide +kernel
theorem dX3_draw_25 : decode cX3_draw 25 = .ok (.imul, 1) := by decide +kernel
theorem dX3_draw_26 : decode cX3_draw 26 = .ok (.aload_n 0, 1) := by decide +kernel
theorem dX3_draw_27 : decode cX3_draw 27 = .ok (.getfield 13, 3) := by decide +kernel
theorem dX3_draw_30 : decode cX3_draw 30 = .ok (.getfield 60, 3) := by decide +kernel
theorem dX3_draw_33 : decode cX3_draw 33 = .ok (.imul, 1) := by decide +kernel
theorem dX3_draw_34 : decode cX3_draw 34 = .ok (.istore 4, 2) := by decide +kernel
theorem dX3_draw_36 : decode cX3_draw 36 = .ok (.aload_n 0, 1) := by decide +kernel
theorem dX3_draw_37 : decode cX3_draw 37 = .ok (.getfield 23, 3) := by decide +kernel
theorem dX3_draw_40 : decode cX3_draw 40 = .ok (.iload 4, 2) := by decide +kernel
theorem dX3_draw_42 : decode cX3_draw 42 = .ok (.iadd, 1) := by decide +kernel
theorem dX3_draw_43 : decode cX3_draw 43 = .ok (.istore 5, 2) := by decide +kernel
theorem dX3_draw_45 : decode cX3_draw 45 = .ok (.aload_n 0, 1) := by decide +kernel
theorem dX3_draw_46 : decode cX3_draw 46 = .ok (.getfield 29, 3) := by decide +kernel
theorem dX3_draw_49 : decode cX3_draw 49 = .ok (.iload 4, 2) := by decide +kernel
theorem dX3_draw_51 : decode cX3_draw 51 = .ok (.iadd, 1) := by decide +kernel
theorem dX3_draw_52 : decode cX3_draw 52 = .ok (.istore 6, 2) := by decide +kernel
theorem dX3_draw_54 : decode cX3_draw 54 = .ok (.aload_n 0, 1) := by decide +kernel
theorem dX3_draw_55 : decode cX3_draw 55 = .ok (.getfield 26, 3) := by decide +kernel
theorem dX3_draw_58 : decode cX3_draw 58 = .ok (.aload_n 0, 1) := by decide +kernel
theorem dX3_draw_59 : decode cX3_draw 59 = .ok (.getfield 20, 3) := by decide +kernel
theorem dX3_draw_62 : decode cX3_draw 62 = .ok (.isub, 1) := by decide +kernel
theorem dX3_draw_63 : decode cX3_draw 63 = .ok (.iconst 4, 1) := by decide +kernel
theorem dX3_draw_64 : decode cX3_draw 64 = .ok (.idiv, 1) := by decide +kernel
theorem dX3_draw_65 : decode cX3_draw 65 = .ok (.istore 7, 2) := by decide +kernel
theorem dX3_draw_67 : decode cX3_draw 67 = .ok (.aload_n 2, 1) := by decide +kernel
theorem dX3_draw_68 : decode cX3_draw 68 = .ok (.aload_n 0, 1) := by decide +kernel
theorem dX3_draw_69 : decode cX3_draw 69 = .ok (.getfield 17, 3) := by decide +kernel
theorem dX3_draw_72 : decode cX3_draw 72 = .ok (.putfield 63, 3) := by decide +kernel
theorem dX3_draw_75 : decode cX3_draw 75 = .ok (.aload_n 2, 1) := by decide +kernel
theorem dX3_draw_76 : decode cX3_draw 76 = .ok (.iconst 0, 1) := by decide +kernel
theorem dX3_draw_77 : decode cX3_draw 77 = .ok (.aload_n 0, 1) := by decide +kernel
theorem dX3_draw_78 : decode cX3_draw 78 = .ok (.getfield 20, 3) := by decide +kernel
theorem dX3_draw_81 : decode cX3_draw 81 = .ok (.iload 5, 2) := by decide +kernel
theorem dX3_draw_83 : decode cX3_draw 83 = .ok (.invokevirtual 64, 3) := by decide +kernel
theorem dX3_draw_86 : decode cX3_draw 86 = .ok (.aload_n 2, 1) := by decide +kernel
theorem dX3_draw_87 : decode cX3_draw 87 = .ok (.iconst 1, 1) := by decide +kernel
theorem dX3_draw_88 : decode cX3_draw 88 = .ok (.aload_n 0, 1) := by decide +kernel
theorem dX3_draw_89 : decode cX3_draw 89 = .ok (.getfield 20, 3) := by decide +kernel
theorem dX3_draw_92 : decode cX3_draw 92 = .ok (.iload 7, 2) := by decide +kernel
theorem dX3_draw_94 : decode cX3_draw 94 = .ok (.iadd, 1) := by decide +kernel
theorem dX3_draw_95 : decode cX3_draw 95 = .ok (.iload 5, 2) := by decide +kernel
theorem dX3_draw_97 : decode cX3_draw 97 = .ok (.iload 6, 2) := by decide +kernel
theorem dX3_draw_99 : decode cX3_draw 99 = .ok (.iload 5, 2) := by decide +kernel
theorem dX3_draw_101 : decode cX3_draw 101 = .ok (.isub, 1) := by decide +kernel
theorem dX3_draw_102 : decode cX3_draw 102 = .ok (.iconst 4, 1) := by decide +kernel
theorem dX3_draw_103 : decode cX3_draw 103 = .ok (.idiv, 1) := by decide +kernel
theorem dX3_draw_104 : decode cX3_draw 104 = .ok (.iadd, 1) := by decide +kernel
theorem dX3_draw_105 : decode cX3_draw 105 = .ok (.iload_n 3, 1) := by decide +kernel
theorem dX3_draw_106 : decode cX3_draw 106 = .ok (.iadd, 1) := by decide +kernel
theorem dX3_draw_107 : decode cX3_draw 107 = .ok (.invokevirtual 64, 3) := by decide +kernel
theorem dX3_draw_110 : decode cX3_draw 110 = .ok (.aload_n 2, 1) := by decide +kernel
theorem dX3_draw_111 : decode cX3_draw 111 = .ok (.iconst 2, 1) := by decide +kernel
theorem dX3_draw_112 : decode cX3_draw 112 = .ok (.aload_n 0, 1) := by decide +kernel
theorem dX3_draw_113 : decode cX3_draw 113 = .ok (.getfield 26, 3) := by decide +kernel
theorem dX3_draw_116 : decode cX3_draw 116 = .ok (.iload 7, 2) := by decide +kernel
theorem dX3_draw_118 : decode cX3_draw 118 = .ok (.isub, 1) := by decide +kernel
theorem dX3_draw_119 : decode cX3_draw 119 = .ok (.iload 6, 2) := by decide +kernel
theorem dX3_draw_121 : decode cX3_draw 121 = .ok (.iload 5, 2) := by decide +kernel
theorem dX3_draw_123 : decode cX3_draw 123 = .ok (.iload 6, 2) := by decide +kernel
theorem dX3_draw_125 : decode cX3_draw 125 = .ok (.isub, 1) := by decide +kernel
theorem dX3_draw_126 : decode cX3_draw 126 = .ok (.iconst 4, 1) := by decide +kernel
theorem dX3_draw_127 : decode cX3_draw 127 = .ok (.idiv, 1) := by decide +kernel
theorem dX3_draw_128 : decode cX3_draw 128 = .ok (.iadd, 1) := by decide +kernel
theorem dX3_draw_129 : decode cX3_draw 129 = .ok (.iload_n 3, 1) := by decide +kernel
theorem dX3_draw_130 : decode cX3_draw 130 = .ok (.iadd, 1) := by decide +kernel
theorem dX3_draw_131 : decode cX3_draw 131 = .ok (.invokevirtual 64, 3) := by decide +kernel
theorem dX3_draw_134 : decode cX3_draw 134 = .ok (.aload_n 2, 1) := by decide +kernel
theorem dX3_draw_135 : decode cX3_draw 135 = .ok (.iconst 3, 1) := by decide +kernel
theorem dX3_draw_136 : decode cX3_draw 136 = .ok (.aload_n 0, 1) := by decide +kernel
theorem dX3_draw_137 : decode cX3_draw 137 = .ok (.getfield 26, 3) := by decide +kernel
theorem dX3_draw_140 : decode cX3_draw 140 = .ok (.iload 6, 2) := by decide +kernel
theorem dX3_draw_142 : decode cX3_draw 142 = .ok (.invokevirtual 64, 3) := by decide +kernel
theorem dX3_draw_145 : decode cX3_draw 145 = .ok (.aload_n 2, 1) := by decide +kernel
theorem dX3_draw_146 : decode cX3_draw 146 = .ok (.invokevirtual 68, 3) := by decide +kernel
theorem dX3_draw_149 : decode cX3_draw 149 = .ok (.return_, 1) := by decide +kernel
end
section
theorem dX4_init_0 : decode cX4_init 0 = .ok (.aload_n 0, 1) := by decide +kernel
theorem dX4_init_1 : decode cX4_init 1 = .ok (.invokespecial 3, 3) := by decide +kernel
theorem dX4_init_4 : decode cX4_init 4 = .ok (.aload_n 0, 1) := by decide +kernel
theorem dX4_init_5 : decode cX4_init 5 = .ok (.iconst 4, 1) := by decide +kernel
theorem dX4_init_6 : decode cX4_init 6 = .ok (.newarray .int, 2) := by decide +kernel
theorem dX4_init_8 : decode cX4_init 8 = .ok (.putfield 9, 3) := by decide +kernel
theorem dX4_init_11 : decode cX4_init 11 = .ok (.aload_n 0, 1) := by decide +kernel
theorem dX4_init_12 : decode cX4_init 12 = .ok (.bipush 60, 2) := by decide +kernel
theorem dX4_init_14 : decode cX4_init 14 = .ok (.anewarray 13, 3) := by decide +kernel
theorem dX4_init_17 : decode cX4_init 17 = .ok (.putfield 15, 3) := by decide +kernel
theorem dX4_init_20 : decode cX4_init 20 = .ok (.aload_n 0, 1) := by decide +kernel
theorem dX4_init_21 : decode cX4_init 21 = .ok (.bipush 52, 2) := by decide +kernel
theorem dX4_init_23 : decode cX4_init 23 = .ok (.anewarray 19, 3) := by decide +kernel
theorem dX4_init_26 : decode cX4_init 26 = .ok (.putfield 21, 3) := by decide +kernel
theorem dX4_init_29 : decode cX4_init 29 = .ok (.aload_n 0, 1) := by decide +kernel
theorem dX4_init_30 : decode cX4_init 30 = .ok (.bipush 40, 2) := by decide +kernel
theorem dX4_init_32 : decode cX4_init 32 = .ok (.anewarray 25, 3) := by decide +kernel
theorem dX4_init_35 : decode cX4_init 35 = .ok (.putfield 27, 3) := by decide +kernel
theorem dX4_init_38 : decode cX4_init 38 = .ok (.aload_n 0, 1) := by decide +kernel
theorem dX4_init_39 : decode cX4_init 39 = .ok (.bipush 80, 2) := by decide +kernel
theorem dX4_init_41 : decode cX4_init 41 = .ok (.anewarray 31, 3) := by decide +kernel
theorem dX4_init_44 : decode cX4_init 44 = .ok (.putfield 33, 3) := by decide +kernel
theorem dX4_init_47 : decode cX4_init 47 = .ok (.aload_n 0, 1) := by decide +kernel
theorem dX4_init_48 : decode cX4_init 48 = .ok (.iconst 0, 1) := by decide +kernel
theorem dX4_init_49 : decode cX4_init 49 = .ok (.invokestatic 37, 3) := by decide +kernel
theorem dX4_init_52 : decode cX4_init 52 = .ok (.putfield 41, 3) := by decide +kernel
theorem dX4_init_55 : decode cX4_init 55 = .ok (.aload_n 0, 1) := by decide +kernel
theorem dX4_init_56 : decode cX4_init 56 = .ok (.invokevirtual 45, 3) := by decide +kernel
theorem dX4_init_59 : decode cX4_init 59 = .ok (.return_, 1) := by decide +kernel
theorem dX4_line_0 : decode cX4_line 0 = .ok (.bipush 100, 2) := by decide +kernel
theorem dX4_line_2 : decode cX4_line 2 = .ok (.iload_n 1, 1) := by decide +kernel
theorem dX4_line_3 : decode cX4_line 3 = .ok (.sipush 1000, 3) := by decide +kernel
theorem dX4_line_6 : decode cX4_line 6 = .ok (.invokestatic 48, 3) := by decide +kernel
theorem dX4_line_9 : decode cX4_line 9 = .ok (.ifCond .ne 7, 3) := by decide +kernel
theorem dX4_line_12 : decode cX4_line 12 = .ok (.sipush (-9002), 3) := by decide +kernel
theorem dX4_line_15 : decode cX4_line 15 = .ok (.ireturn, 1) := by decide +kernel
theorem dX4_line_16 : decode cX4_line 16 = .ok (.aload_n 0, 1) := by decide +kernel
theorem dX4_line_17 : decode cX4_line 17 = .ok (.getfield 52, 3) := by decide +kernel
theorem dX4_line_20 : decode cX4_line 20 = .ok (.iconst 4, 1) := by decide +kernel
theorem dX4_line_21 : decode cX4_line 21 = .ok (.if_icmp .lt 7, 3) := by decide +kernel
theorem dX4_line_24 : decode cX4_line 24 = .ok (.sipush (-9004), 3) := by decide +kernel
theorem dX4_line_27 : decode cX4_line 27 = .ok (.ireturn, 1) := by decide +kernel
theorem dX4_line_28 : decode cX4_line 28 = .ok (.aload_n 0, 1) := by decide +kernel
theorem dX4_line_29 : decode cX4_line 29 = .ok (.getfield 9, 3) := by decide +kernel
theorem dX4_line_32 : decode cX4_line 32 = .ok (.aload_n 0, 1) := by decide +kernel
theorem dX4_line_33 : decode cX4_line 33 = .ok (.getfield 52, 3) := by decide +kernel
theorem dX4_line_36 : decode cX4_line 36 = .ok (.iload_n 1, 1) := by decide +kernel
theorem dX4_line_37 : decode cX4_line 37 = .ok (.iastore, 1) := by decide +kernel
theorem dX4_line_38 : decode cX4_line 38 = .ok (.aload_n 0, 1) := by decide +kernel
theorem dX4_line_39 : decode cX4_line 39 = .ok (.dup, 1) := by decide +kernel
theorem dX4_line_40 : decode cX4_line 40 = .ok (.getfield 52, 3) := by decide +kernel
theorem dX4_line_43 : decode cX4_line 43 = .ok (.dup_x1, 1) := by decide +kernel
theorem dX4_line_44 : decode cX4_line 44 = .ok (.iconst 1, 1) := by decide +kernel
theorem dX4_line_45 : decode cX4_line 45 = .ok (.iadd, 1) := by decide +kernel
theorem dX4_line_46 : decode cX4_line 46 = .ok (.putfield 52, 3) := by decide +kernel
theorem dX4_line_49 : decode cX4_line 49 = .ok (.ireturn, 1) := by decide +kernel
theorem dX4_note_0 : decode cX4_note 0 = .ok (.aload_n 0, 1) := by decide +kernel
theorem dX4_note_1 : decode cX4_note 1 = .ok (.iload_n 1, 1) := by decide +kernel
theorem dX4_note_2 : decode cX4_note 2 = .ok (.invokevirtual 56, 3) := by decide +kernel
theorem dX4_note_5 : decode cX4_note 5 = .ok (.ifCond .ne 7, 3) := by decide +kernel
theorem dX4_note_8 : decode cX4_note 8 = .ok (.sipush (-9001), 3) := by decide +kernel
theorem dX4_note_11 : decode cX4_note 11 = .ok (.ireturn, 1) := by decide +kernel
theorem dX4_note_12 : decode cX4_note 12 = .ok (.iconst 0, 1) := by decide +kernel
theorem dX4_note_13 : decode cX4_note 13 = .ok (.iload_n 2, 1) := by decide +kernel
theorem dX4_note_14 : decode cX4_note 14 = .ok (.aload_n 0, 1) := by decide +kernel
theorem dX4_note_15 : decode cX4_note 15 = .ok (.getfield 9, 3) := by decide +kernel
theorem dX4_note_18 : decode cX4_note 18 = .ok (.iload_n 1, 1) := by decide +kernel
theorem dX4_note_19 : decode cX4_note 19 = .ok (.iaload, 1) := by decide +kernel
theorem dX4_note_20 : decode cX4_note 20 = .ok (.invokestatic 48, 3) := by decide +kernel
theorem dX4_note_23 : decode cX4_note 23 = .ok (.ifCond .eq 14, 3) := by decide +kernel
theorem dX4_note_26 : decode cX4_note 26 = .ok (.bipush (-100), 2) := by decide +kernel
theorem dX4_note_28 : decode cX4_note 28 = .ok (.iload_n 3, 1) := by decide +kernel
theorem dX4_note_29 : decode cX4_note 29 = .ok (.bipush 100, 2) := by decide +kernel
theorem dX4_note_31 : decode cX4_note 31 = .ok (.invokestatic 48, 3) := by decide +kernel
theorem dX4_note_34 : decode cX4_note 34 = .ok (.ifCond .ne 7, 3) := by decide +kernel
theorem dX4_note_37 : decode cX4_note 37 = .ok (.sipush (-9002), 3) := by decide +kernel
theorem dX4_note_40 : decode cX4_note 40 = .ok (.ireturn, 1) := by decide +kernel
theorem dX4_note_41 : decode cX4_note 41 = .ok (.aload_n 0, 1) := by decide +kernel
theorem dX4_note_42 : decode cX4_note 42 = .ok (.getfield 60, 3) := by decide +kernel
theorem dX4_note_45 : decode cX4_note 45 = .ok (.bipush 60, 2) := by decide +kernel
theorem dX4_note_47 : decode cX4_note 47 = .ok (.if_icmp .lt 7, 3) := by decide +kernel
theorem dX4_note_50 : decode cX4_note 50 = .ok (.sipush (-9004), 3) := by decide +kernel
theorem dX4_note_53 : decode cX4_note 53 = .ok (.ireturn, 1) := by decide +kernel
theorem dX4_note_54 : decode cX4_note 54 = .ok (.aload_n 0, 1) := by decide +kernel
theorem dX4_note_55 : decode cX4_note 55 = .ok (.getfield 15, 3) := by decide +kernel
theorem dX4_note_58 : decode cX4_note 58 = .ok (.aload_n 0, 1) := by decide +kernel
theorem dX4_note_59 : decode cX4_note 59 = .ok (.getfield 60, 3) := by decide +kernel
theorem dX4_note_62 : decode cX4_note 62 = .ok (.new 13, 3) := by decide +kernel
theorem dX4_note_65 : decode cX4_note 65 = .ok (.dup, 1) := by decide +kernel
theorem dX4_note_66 : decode cX4_note 66 = .ok (.aload_n 0, 1) := by decide +kernel
theorem dX4_note_67 : decode cX4_note 67 = .ok (.getfield 60, 3) := by decide +kernel
theorem dX4_note_70 : decode cX4_note 70 = .ok (.iload_n 1, 1) := by decide +kernel
theorem dX4_note_71 : decode cX4_note 71 = .ok (.iload_n 2, 1) := by decide +kernel
theorem dX4_note_72 : decode cX4_note 72 = .ok (.iload_n 3, 1) := by decide +kernel
theorem dX4_note_73 : decode cX4_note 73 = .ok (.iload 4, 2) := by decide +kernel
theorem dX4_note_75 : decode cX4_note 75 = .ok (.invokespecial 63, 3) := by decide +kernel
theorem dX4_note_78 : decode cX4_note 78 = .ok (.aastore, 1) := by decide +kernel
theorem dX4_note_79 : decode cX4_note 79 = .ok (.aload_n 0, 1) := by decide +kernel
theorem dX4_note_80 : decode cX4_note 80 = .ok (.dup, 1) := by decide +kernel
theorem dX4_note_81 : decode cX4_note 81 = .ok (.getfield 60, 3) := by decide +kernel
theorem dX4_note_84 : decode cX4_note 84 = .ok (.dup_x1, 1) := by decide +kernel
theorem dX4_note_85 : decode cX4_note 85 = .ok (.iconst 1, 1) := by decide +kernel
theorem dX4_note_86 : decode cX4_note 86 = .ok (.iadd, 1) := by decide +kernel
theorem dX4_note_87 : decode cX4_note 87 = .ok (.putfield 60, 3) := by decide +kernel
theorem dX4_note_90 : decode cX4_note 90 = .ok (.ireturn, 1) := by decide +kernel
theorem dX4_mark_0 : decode cX4_mark 0 = .ok (.aload_n 0, 1) := by decide +kernel
theorem dX4_mark_1 : decode cX4_mark 1 = .ok (.iload_n 1, 1) := by decide +kernel
theorem dX4_mark_2 : decode cX4_mark 2 = .ok (.invokevirtual 56, 3) := by decide +kernel
theorem dX4_mark_5 : decode cX4_mark 5 = .ok (.ifCond .ne 7, 3) := by decide +kernel
theorem dX4_mark_8 : decode cX4_mark 8 = .ok (.sipush (-9001), 3) := by decide +kernel
theorem dX4_mark_11 : decode cX4_mark 11 = .ok (.ireturn, 1) := by decide +kernel
theorem dX4_mark_12 : decode cX4_mark 12 = .ok (.aload_n 0, 1) := by decide +kernel
theorem dX4_mark_13 : decode cX4_mark 13 = .ok (.iload_n 1, 1) := by decide +kernel
theorem dX4_mark_14 : decode cX4_mark 14 = .ok (.iload_n 2, 1) := by decide +kernel
theorem dX4_mark_15 : decode cX4_mark 15 = .ok (.iload_n 3, 1) := by decide +kernel
theorem dX4_mark_16 : decode cX4_mark 16 = .ok (.invokevirtual 66, 3) := by decide +kernel
theorem dX4_mark_19 : decode cX4_mark 19 = .ok (.ifCond .eq 27, 3) := by decide +kernel
theorem dX4_mark_22 : decode cX4_mark 22 = .ok (.iconst 1, 1) := by decide +kernel
theorem dX4_mark_23 : decode cX4_mark 23 = .ok (.iload 4, 2) := by decide +kernel
theorem dX4_mark_25 : decode cX4_mark 25 = .ok (.sipush 200, 3) := by decide +kernel
theorem dX4_mark_28 : decode cX4_mark 28 = .ok (.invokestatic 48, 3) := by decide +kernel
theorem dX4_mark_31 : decode cX4_mark 31 = .ok (.ifCond .eq 15, 3) := by decide +kernel
theorem dX4_mark_34 : decode cX4_mark 34 = .ok (.iconst 1, 1) := by decide +kernel
theorem dX4_mark_35 : decode cX4_mark 35 = .ok (.iload 5, 2) := by decide +kernel
theorem dX4_mark_37 : decode cX4_mark 37 = .ok (.sipush 200, 3) := by decide +kernel
theorem dX4_mark_40 : decode cX4_mark 40 = .ok (.invokestatic 48, 3) := by decide +kernel
theorem dX4_mark_43 : decode cX4_mark 43 = .ok (.ifCond .ne 7, 3) := by decide +kernel
theorem dX4_mark_46 : decode cX4_mark 46 = .ok (.sipush (-9002), 3) := by decide +kernel
theorem dX4_mark_49 : decode cX4_mark 49 = .ok (.ireturn, 1) := by decide +kernel
theorem dX4_mark_50 : decode cX4_mark 50 = .ok (.aload_n 0, 1) := by decide +kernel
theorem dX4_mark_51 : decode cX4_mark 51 = .ok (.getfield 69, 3) := by decide +kernel
theorem dX4_mark_54 : decode cX4_mark 54 = .ok (.bipush 40, 2) := by decide +kernel
theorem dX4_mark_56 : decode cX4_mark 56 = .ok (.if_icmp .lt 7, 3) := by decide +kernel
theorem dX4_mark_59 : decode cX4_mark 59 = .ok (.sipush (-9004), 3) := by decide +kernel
theorem dX4_mark_62 : decode cX4_mark 62 = .ok (.ireturn, 1) := by decide +kernel
theorem dX4_mark_63 : decode cX4_mark 63 = .ok (.aload_n 0, 1) := by decide +kernel
theorem dX4_mark_64 : decode cX4_mark 64 = .ok (.getfield 21, 3) := by decide +kernel
theorem dX4_mark_67 : decode cX4_mark 67 = .ok (.aload_n 0, 1) := by decide +kernel
theorem dX4_mark_68 : decode cX4_mark 68 = .ok (.getfield 69, 3) := by decide +kernel
theorem dX4_mark_71 : decode cX4_mark 71 = .ok (.aload_n 0, 1) := by decide +kernel
theorem dX4_mark_72 : decode cX4_mark 72 = .ok (.getfield 72, 3) := by decide +kernel
theorem dX4_mark_75 : decode cX4_mark 75 = .ok (.iadd, 1) := by decide +kernel
theorem dX4_mark_76 : decode cX4_mark 76 = .ok (.iload_n 1, 1) := by decide +kernel
theorem dX4_mark_77 : decode cX4_mark 77 = .ok (.iload_n 2, 1) := by decide +kernel
theorem dX4_mark_78 : decode cX4_mark 78 = .ok (.iload_n 3, 1) := by decide +kernel
theorem dX4_mark_79 : decode cX4_mark 79 = .ok (.iload 4, 2) := by decide +kernel
theorem dX4_mark_81 : decode cX4_mark 81 = .ok (.iload 5, 2) := by decide +kernel
theorem dX4_mark_83 : decode cX4_mark 83 = .ok (.invokestatic 75, 3) := by decide +kernel
theorem dX4_mark_86 : decode cX4_mark 86 = .ok (.aastore, 1) := by decide +kernel
theorem dX4_mark_87 : decode cX4_mark 87 = .ok (.aload_n 0, 1) := by decide +kernel
theorem dX4_mark_88 : decode cX4_mark 88 = .ok (.dup, 1) := by decide +kernel
theorem dX4_mark_89 : decode cX4_mark 89 = .ok (.getfield 69, 3) := by decide +kernel
theorem dX4_mark_92 : decode cX4_mark 92 = .ok (.iconst 1, 1) := by decide +kernel
theorem dX4_mark_93 : decode cX4_mark 93 = .ok (.iadd, 1) := by decide +kernel
theorem dX4_mark_94 : decode cX4_mark 94 = .ok (.dup_x1, 1) := by decide +kernel
theorem dX4_mark_95 : decode cX4_mark 95 = .ok (.putfield 69, 3) := by decide +kernel
theorem dX4_mark_98 : decode cX4_mark 98 = .ok (.ireturn, 1) := by decide +kernel
theorem dX4_wedge_0 : decode cX4_wedge 0 = .ok (.aload_n 0, 1) := by decide +kernel
theorem dX4_wedge_1 : decode cX4_wedge 1 = .ok (.iload_n 1, 1) := by decide +kernel
theorem dX4_wedge_2 : decode cX4_wedge 2 = .ok (.invokevirtual 56, 3) := by decide +kernel
theorem dX4_wedge_5 : decode cX4_wedge 5 = .ok (.ifCond .ne 7, 3) := by decide +kernel
theorem dX4_wedge_8 : decode cX4_wedge 8 = .ok (.sipush (-9001), 3) := by decide +kernel
theorem dX4_wedge_11 : decode cX4_wedge 11 = .ok (.ireturn, 1) := by decide +kernel
theorem dX4_wedge_12 : decode cX4_wedge 12 = .ok (.aload_n 0, 1) := by decide +kernel
theorem dX4_wedge_13 : decode cX4_wedge 13 = .ok (.iload_n 1, 1) := by decide +kernel
theorem dX4_wedge_14 : decode cX4_wedge 14 = .ok (.iload_n 2, 1) := by decide +kernel
theorem dX4_wedge_15 : decode cX4_wedge 15 = .ok (.iload 4, 2) := by decide +kernel
theorem dX4_wedge_17 : decode cX4_wedge 17 = .ok (.invokevirtual 66, 3) := by decide +kernel
theorem dX4_wedge_20 : decode cX4_wedge 20 = .ok (.ifCond .eq 30, 3) := by decide +kernel
theorem dX4_wedge_23 : decode cX4_wedge 23 = .ok (.aload_n 0, 1) := by decide +kernel
theorem dX4_wedge_24 : decode cX4_wedge 24 = .ok (.iload_n 1, 1) := by decide +kernel
theorem dX4_wedge_25 : decode cX4_wedge 25 = .ok (.iload_n 3, 1) := by decide +kernel
theorem dX4_wedge_26 : decode cX4_wedge 26 = .ok (.iload 4, 2) := by decide +kernel
theorem dX4_wedge_28 : decode cX4_wedge 28 = .ok (.invokevirtual 66, 3) := by decide +kernel
theorem dX4_wedge_31 : decode cX4_wedge 31 = .ok (.ifCond .eq 19, 3) := by decide +kernel
theorem dX4_wedge_34 : decode cX4_wedge 34 = .ok (.iload_n 2, 1) := by decide +kernel
theorem dX4_wedge_35 : decode cX4_wedge 35 = .ok (.iload_n 3, 1) := by decide +kernel
theorem dX4_wedge_36 : decode cX4_wedge 36 = .ok (.if_icmp .eq 14, 3) := by decide +kernel
theorem dX4_wedge_39 : decode cX4_wedge 39 = .ok (.iconst 1, 1) := by decide +kernel
theorem dX4_wedge_40 : decode cX4_wedge 40 = .ok (.iload 5, 2) := by decide +kernel
theorem dX4_wedge_42 : decode cX4_wedge 42 = .ok (.bipush 40, 2) := by decide +kernel
theorem dX4_wedge_44 : decode cX4_wedge 44 = .ok (.invokestatic 48, 3) := by decide +kernel
theorem dX4_wedge_47 : decode cX4_wedge 47 = .ok (.ifCond .ne 7, 3) := by decide +kernel
theorem dX4_wedge_50 : decode cX4_wedge 50 = .ok (.sipush (-9002), 3) := by decide +kernel
theorem dX4_wedge_53 : decode cX4_wedge 53 = .ok (.ireturn, 1) := by decide +kernel
theorem dX4_wedge_54 : decode cX4_wedge 54 = .ok (.aload_n 0, 1) := by decide +kernel
theorem dX4_wedge_55 : decode cX4_wedge 55 = .ok (.getfield 72, 3) := by decide +kernel
theorem dX4_wedge_58 : decode cX4_wedge 58 = .ok (.bipush 12, 2) := by decide +kernel
theorem dX4_wedge_60 : decode cX4_wedge 60 = .ok (.if_icmp .lt 7, 3) := by decide +kernel
theorem dX4_wedge_63 : decode cX4_wedge 63 = .ok (.sipush (-9004), 3) := by decide +kernel
theorem dX4_wedge_66 : decode cX4_wedge 66 = .ok (.ireturn, 1) := by decide +kernel
theorem dX4_wedge_67 : decode cX4_wedge 67 = .ok (.aload_n 0, 1) := by decide +kernel
theorem dX4_wedge_68 : decode cX4_wedge 68 = .ok (.getfield 21, 3) := by decide +kernel
theorem dX4_wedge_71 : decode cX4_wedge 71 = .ok (.aload_n 0, 1) := by decide +kernel
theorem dX4_wedge_72 : decode cX4_wedge 72 = .ok (.getfield 69, 3) := by decide +kernel
theorem dX4_wedge_75 : decode cX4_wedge 75 = .ok (.aload_n 0, 1) := by decide +kernel
theorem dX4_wedge_76 : decode cX4_wedge 76 = .ok (.getfield 72, 3) := by decide +kernel
theorem dX4_wedge_79 : decode cX4_wedge 79 = .ok (.iadd, 1) := by decide +kernel
theorem dX4_wedge_80 : decode cX4_wedge 80 = .ok (.iload_n 1, 1) := by decide +kernel
theorem dX4_wedge_81 : decode cX4_wedge 81 = .ok (.iload_n 2, 1) := by decide +kernel
theorem dX4_wedge_82 : decode cX4_wedge 82 = .ok (.iload_n 3, 1) := by decide +kernel
theorem dX4_wedge_83 : decode cX4_wedge 83 = .ok (.iload 4, 2) := by decide +kernel
theorem dX4_wedge_85 : decode cX4_wedge 85 = .ok (.iload 5, 2) := by decide +kernel
theorem dX4_wedge_87 : decode cX4_wedge 87 = .ok (.invokestatic 79, 3) := by decide +kernel
theorem dX4_wedge_90 : decode cX4_wedge 90 = .ok (.aastore, 1) := by decide +kernel
theorem dX4_wedge_91 : decode cX4_wedge 91 = .ok (.aload_n 0, 1) := by decide +kernel
theorem dX4_wedge_92 : decode cX4_wedge 92 = .ok (.dup, 1) := by decide +kernel
theorem dX4_wedge_93 : decode cX4_wedge 93 = .ok (.getfield 72, 3) := by decide +kernel
theorem dX4_wedge_96 : decode cX4_wedge 96 = .ok (.iconst 1, 1) := by decide +kernel
theorem dX4_wedge_97 : decode cX4_wedge 97 = .ok (.iadd, 1) := by decide +kernel
theorem dX4_wedge_98 : decode cX4_wedge 98 = .ok (.dup_x1, 1) := by decide +kernel
theorem dX4_wedge_99 : decode cX4_wedge 99 = .ok (.putfield 72, 3) := by decide +kernel
theorem dX4_wedge_102 : decode cX4_wedge 102 = .ok (.ireturn, 1) := by decide +kernel
theorem dX4_tie_0 : decode cX4_tie 0 = .ok (.aload_n 0, 1) := by decide +kernel
theorem dX4_tie_1 : decode cX4_tie 1 = .ok (.iload_n 1, 1) := by decide +kernel
theorem dX4_tie_2 : decode cX4_tie 2 = .ok (.iload_n 2, 1) := by decide +kernel
theorem dX4_tie_3 : decode cX4_tie 3 = .ok (.iconst 1, 1) := by decide +kernel
theorem dX4_tie_4 : decode cX4_tie 4 = .ok (.invokevirtual 82, 3) := by decide +kernel
theorem dX4_tie_7 : decode cX4_tie 7 = .ok (.ireturn, 1) := by decide +kernel
theorem dX4_slur_0 : decode cX4_slur 0 = .ok (.aload_n 0, 1) := by decide +kernel
theorem dX4_slur_1 : decode cX4_slur 1 = .ok (.iload_n 1, 1) := by decide +kernel
theorem dX4_slur_2 : decode cX4_slur 2 = .ok (.iload_n 2, 1) := by decide +kernel
theorem dX4_slur_3 : decode cX4_slur 3 = .ok (.iconst 0, 1) := by decide +kernel
theorem dX4_slur_4 : decode cX4_slur 4 = .ok (.invokevirtual 82, 3) := by decide +kernel
theorem dX4_slur_7 : decode cX4_slur 7 = .ok (.ireturn, 1) := by decide +kernel
theorem dX4_again_0 : decode cX4_again 0 = .ok (.iconst 0, 1) := by decide +kernel
theorem dX4_again_1 : decode cX4_again 1 = .ok (.istore_n 1, 1) := by decide +kernel
theorem dX4_again_2 : decode cX4_again 2 = .ok (.iconst 0, 1) := by decide +kernel
theorem dX4_again_3 : decode cX4_again 3 = .ok (.istore_n 2, 1) := by decide +kernel
theorem dX4_again_4 : decode cX4_again 4 = .ok (.iload_n 2, 1) := by decide +kernel
theorem dX4_again_5 : decode cX4_again 5 = .ok (.aload_n 0, 1) := by decide +kernel
theorem dX4_again_6 : decode cX4_again 6 = .ok (.getfield 86, 3) := by decide +kernel
theorem dX4_again_9 : decode cX4_again 9 = .ok (.if_icmp .ge 45, 3) := by decide +kernel
theorem dX4_again_12 : decode cX4_again 12 = .ok (.aload_n 0, 1) := by decide +kernel
theorem dX4_again_13 : decode cX4_again 13 = .ok (.getfield 33, 3) := by decide +kernel
theorem dX4_again_16 : decode cX4_again 16 = .ok (.iload_n 2, 1) := by decide +kernel
theorem dX4_again_17 : decode cX4_again 17 = .ok (.aaload, 1) := by decide +kernel
theorem dX4_again_18 : decode cX4_again 18 = .ok (.getfield 89, 3) := by decide +kernel
theorem dX4_again_21 : decode cX4_again 21 = .ok (.istore_n 3, 1) := by decide +kernel
theorem dX4_again_22 : decode cX4_again 22 = .ok (.aload_n 0, 1) := by decide +kernel
theorem dX4_again_23 : decode cX4_again 23 = .ok (.aload_n 0, 1) := by decide +kernel
theorem dX4_again_24 : decode cX4_again 24 = .ok (.getfield 33, 3) := by decide +kernel
theorem dX4_again_27 : decode cX4_again 27 = .ok (.iload_n 2, 1) := by decide +kernel
theorem dX4_again_28 : decode cX4_again 28 = .ok (.aaload, 1) := by decide +kernel
theorem dX4_again_29 : decode cX4_again 29 = .ok (.invokevirtual 92, 3) := by decide +kernel
theorem dX4_again_32 : decode cX4_again 32 = .ok (.aload_n 0, 1) := by decide +kernel
theorem dX4_again_33 : decode cX4_again 33 = .ok (.getfield 33, 3) := by decide +kernel
theorem dX4_again_36 : decode cX4_again 36 = .ok (.iload_n 2, 1) := by decide +kernel
theorem dX4_again_37 : decode cX4_again 37 = .ok (.aaload, 1) := by decide +kernel
theorem dX4_again_38 : decode cX4_again 38 = .ok (.getfield 89, 3) := by decide +kernel
theorem dX4_again_41 : decode cX4_again 41 = .ok (.iload_n 3, 1) := by decide +kernel
theorem dX4_again_42 : decode cX4_again 42 = .ok (.if_icmp .eq 6, 3) := by decide +kernel
theorem dX4_again_45 : decode cX4_again 45 = .ok (.iinc 1 1, 3) := by decide +kernel
theorem dX4_again_48 : decode cX4_again 48 = .ok (.iinc 2 1, 3) := by decide +kernel
theorem dX4_again_51 : decode cX4_again 51 = .ok (.goto (-47), 3) := by decide +kernel
theorem dX4_again_54 : decode cX4_again 54 = .ok (.iload_n 1, 1) := by decide +kernel
theorem dX4_again_55 : decode cX4_again 55 = .ok (.ireturn, 1) := by decide +kernel
theorem dX4_curve_0 : decode cX4_curve 0 = .ok (.aload_n 0, 1) := by decide +kernel
theorem dX4_curve_1 : decode cX4_curve 1 = .ok (.iload_n 1, 1) := by decide +kernel
theorem dX4_curve_2 : decode cX4_curve 2 = .ok (.invokevirtual 96, 3) := by decide +kernel
theorem dX4_curve_5 : decode cX4_curve 5 = .ok (.ifCond .ne 7, 3) := by decide +kernel
theorem dX4_curve_8 : decode cX4_curve 8 = .ok (.sipush (-9001), 3) := by decide +kernel
theorem dX4_curve_11 : decode cX4_curve 11 = .ok (.ireturn, 1) := by decide +kernel
theorem dX4_curve_12 : decode cX4_curve 12 = .ok (.aload_n 0, 1) := by decide +kernel
theorem dX4_curve_13 : decode cX4_curve 13 = .ok (.getfield 27, 3) := by decide +kernel
theorem dX4_curve_16 : decode cX4_curve 16 = .ok (.iload_n 1, 1) := by decide +kernel
theorem dX4_curve_17 : decode cX4_curve 17 = .ok (.aaload, 1) := by decide +kernel
theorem dX4_curve_18 : decode cX4_curve 18 = .ok (.astore_n 3, 1) := by decide +kernel
theorem dX4_curve_19 : decode cX4_curve 19 = .ok (.iload_n 2, 1) := by decide +kernel
theorem dX4_curve_20 : decode cX4_curve 20 = .ok (.tableswitch 75 0 4 #[36, 44, 52, 57, 62], 36) := by decide +kernel
theorem dX4_curve_56 : decode cX4_curve 56 = .ok (.aload_n 3, 1) := by decide +kernel
theorem dX4_curve_57 : decode cX4_curve 57 = .ok (.getfield 99, 3) := by decide +kernel
theorem dX4_curve_60 : decode cX4_curve 60 = .ok (.getfield 103, 3) := by decide +kernel
theorem dX4_curve_63 : decode cX4_curve 63 = .ok (.ireturn, 1) := by decide +kernel
theorem dX4_curve_64 : decode cX4_curve 64 = .ok (.aload_n 3, 1) := by decide +kernel
theorem dX4_curve_65 : decode cX4_curve 65 = .ok (.getfield 106, 3) := by decide +kernel
theorem dX4_curve_68 : decode cX4_curve 68 = .ok (.getfield 103, 3) := by decide +kernel
theorem dX4_curve_71 : decode cX4_curve 71 = .ok (.ireturn, 1) := by decide +kernel
theorem dX4_curve_72 : decode cX4_curve 72 = .ok (.aload_n 3, 1) := by decide +kernel
theorem dX4_curve_73 : decode cX4_curve 73 = .ok (.getfield 109, 3) := by decide +kernel
theorem dX4_curve_76 : decode cX4_curve 76 = .ok (.ireturn, 1) := by decide +kernel
theorem dX4_curve_77 : decode cX4_curve 77 = .ok (.aload_n 3, 1) := by decide +kernel
theorem dX4_curve_78 : decode cX4_curve 78 = .ok (.invokevirtual 112, 3) := by decide +kernel
theorem dX4_curve_81 : decode cX4_curve 81 = .ok (.ireturn, 1) := by decide +kernel
theorem dX4_curve_82 : decode cX4_curve 82 = .ok (.aload_n 3, 1) := by decide +kernel
theorem dX4_curve_83 : decode cX4_curve 83 = .ok (.getfield 115, 3) := by decide +kernel
theorem dX4_curve_86 : decode cX4_curve 86 = .ok (.ifCond .eq 7, 3) := by decide +kernel
theorem dX4_curve_89 : decode cX4_curve 89 = .ok (.iconst 1, 1) := by decide +kernel
theorem dX4_curve_90 : decode cX4_curve 90 = .ok (.goto 4, 3) := by decide +kernel
theorem dX4_curve_93 : decode cX4_curve 93 = .ok (.iconst 0, 1) := by decide +kernel
theorem dX4_curve_94 : decode cX4_curve 94 = .ok (.ireturn, 1) := by decide +kernel
theorem dX4_curve_95 : decode cX4_curve 95 = .ok (.sipush (-9002), 3) := by decide +kernel
theorem dX4_curve_98 : decode cX4_curve 98 = .ok (.ireturn, 1) := by decide +kernel
theorem dX4_part_0 : decode cX4_part 0 = .ok (.aload_n 0, 1) := by decide +kernel
theorem dX4_part_1 : decode cX4_part 1 = .ok (.iload_n 1, 1) := by decide +kernel
theorem dX4_part_2 : decode cX4_part 2 = .ok (.iload_n 2, 1) := by decide +kernel
theorem dX4_part_3 : decode cX4_part 3 = .ok (.invokevirtual 119, 3) := by decide +kernel
theorem dX4_part_6 : decode cX4_part 6 = .ok (.astore 4, 2) := by decide +kernel
theorem dX4_part_8 : decode cX4_part 8 = .ok (.aload 4, 2) := by decide +kernel
theorem dX4_part_10 : decode cX4_part 10 = .ok (.ifnonnull 7, 3) := by decide +kernel
theorem dX4_part_13 : decode cX4_part 13 = .ok (.sipush (-9001), 3) := by decide +kernel
theorem dX4_part_16 : decode cX4_part 16 = .ok (.ireturn, 1) := by decide +kernel
theorem dX4_part_17 : decode cX4_part 17 = .ok (.iload_n 3, 1) := by decide +kernel
theorem dX4_part_18 : decode cX4_part 18 = .ok (.tableswitch 87 0 5 #[38, 44, 50, 61, 75, 81], 38) := by decide +kernel
theorem dX4_part_56 : decode cX4_part 56 = .ok (.aload 4, 2) := by decide +kernel
theorem dX4_part_58 : decode cX4_part 58 = .ok (.getfield 123, 3) := by decide +kernel
theorem dX4_part_61 : decode cX4_part 61 = .ok (.ireturn, 1) := by decide +kernel
theorem dX4_part_62 : decode cX4_part 62 = .ok (.aload 4, 2) := by decide +kernel
theorem dX4_part_64 : decode cX4_part 64 = .ok (.getfield 89, 3) := by decide +kernel
theorem dX4_part_67 : decode cX4_part 67 = .ok (.ireturn, 1) := by decide +kernel
theorem dX4_part_68 : decode cX4_part 68 = .ok (.aload 4, 2) := by decide +kernel
theorem dX4_part_70 : decode cX4_part 70 = .ok (.aload 4, 2) := by decide +kernel
theorem dX4_part_72 : decode cX4_part 72 = .ok (.getfield 89, 3) := by decide +kernel
theorem dX4_part_75 : decode cX4_part 75 = .ok (.invokevirtual 126, 3) := by decide +kernel
theorem dX4_part_78 : decode cX4_part 78 = .ok (.ireturn, 1) := by decide +kernel
theorem dX4_part_79 : decode cX4_part 79 = .ok (.aload 4, 2) := by decide +kernel
theorem dX4_part_81 : decode cX4_part 81 = .ok (.getfield 130, 3) := by decide +kernel
theorem dX4_part_84 : decode cX4_part 84 = .ok (.ifCond .eq 7, 3) := by decide +kernel
theorem dX4_part_87 : decode cX4_part 87 = .ok (.iconst 1, 1) := by decide +kernel
theorem dX4_part_88 : decode cX4_part 88 = .ok (.goto 4, 3) := by decide +kernel
theorem dX4_part_91 : decode cX4_part 91 = .ok (.iconst 0, 1) := by decide +kernel
theorem dX4_part_92 : decode cX4_part 92 = .ok (.ireturn, 1) := by decide +kernel
theorem dX4_part_93 : decode cX4_part 93 = .ok (.aload 4, 2) := by decide +kernel
theorem dX4_part_95 : decode cX4_part 95 = .ok (.getfield 133, 3) := by decide +kernel
theorem dX4_part_98 : decode cX4_part 98 = .ok (.ireturn, 1) := by decide +kernel
theorem dX4_part_99 : decode cX4_part 99 = .ok (.aload 4, 2) := by decide +kernel
theorem dX4_part_101 : decode cX4_part 101 = .ok (.invokevirtual 136, 3) := by decide +kernel
theorem dX4_part_104 : decode cX4_part 104 = .ok (.ireturn, 1) := by decide +kernel
theorem dX4_part_105 : decode cX4_part 105 = .ok (.sipush (-9002), 3) := by decide +kernel
theorem dX4_part_108 : decode cX4_part 108 = .ok (.ireturn, 1) := by decide +kernel
theorem dX4_point_0 : decode cX4_point 0 = .ok (.aload_n 0, 1) := by decide +kernel
theorem dX4_point_1 : decode cX4_point 1 = .ok (.iload_n 1, 1) := by decide +kernel
theorem dX4_point_2 : decode cX4_point 2 = .ok (.iload_n 2, 1) := by decide +kernel
theorem dX4_point_3 : decode cX4_point 3 = .ok (.invokevirtual 119, 3) := by decide +kernel
theorem dX4_point_6 : decode cX4_point 6 = .ok (.astore 5, 2) := by decide +kernel
theorem dX4_point_8 : decode cX4_point 8 = .ok (.aload 5, 2) := by decide +kernel
theorem dX4_point_10 : decode cX4_point 10 = .ok (.ifnonnull 7, 3) := by decide +kernel
theorem dX4_point_13 : decode cX4_point 13 = .ok (.sipush (-9001), 3) := by decide +kernel
theorem dX4_point_16 : decode cX4_point 16 = .ok (.ireturn, 1) := by decide +kernel
theorem dX4_point_17 : decode cX4_point 17 = .ok (.iconst 0, 1) := by decide +kernel
theorem dX4_point_18 : decode cX4_point 18 = .ok (.iload_n 3, 1) := by decide +kernel
theorem dX4_point_19 : decode cX4_point 19 = .ok (.iconst 3, 1) := by decide +kernel
theorem dX4_point_20 : decode cX4_point 20 = .ok (.invokestatic 48, 3) := by decide +kernel
theorem dX4_point_23 : decode cX4_point 23 = .ok (.ifCond .eq 13, 3) := by decide +kernel
theorem dX4_point_26 : decode cX4_point 26 = .ok (.iconst 0, 1) := by decide +kernel
theorem dX4_point_27 : decode cX4_point 27 = .ok (.iload 4, 2) := by decide +kernel
theorem dX4_point_29 : decode cX4_point 29 = .ok (.iconst 1, 1) := by decide +kernel
theorem dX4_point_30 : decode cX4_point 30 = .ok (.invokestatic 48, 3) := by decide +kernel
theorem dX4_point_33 : decode cX4_point 33 = .ok (.ifCond .ne 7, 3) := by decide +kernel
theorem dX4_point_36 : decode cX4_point 36 = .ok (.sipush (-9002), 3) := by decide +kernel
theorem dX4_point_39 : decode cX4_point 39 = .ok (.ireturn, 1) := by decide +kernel
theorem dX4_point_40 : decode cX4_point 40 = .ok (.aload 5, 2) := by decide +kernel
theorem dX4_point_42 : decode cX4_point 42 = .ok (.getfield 139, 3) := by decide +kernel
theorem dX4_point_45 : decode cX4_point 45 = .ok (.iload 4, 2) := by decide +kernel
theorem dX4_point_47 : decode cX4_point 47 = .ok (.invokevirtual 142, 3) := by decide +kernel
theorem dX4_point_50 : decode cX4_point 50 = .ok (.iload_n 3, 1) := by decide +kernel
theorem dX4_point_51 : decode cX4_point 51 = .ok (.iaload, 1) := by decide +kernel
theorem dX4_point_52 : decode cX4_point 52 = .ok (.ireturn, 1) := by decide +kernel
theorem dX4_candidate_0 : decode cX4_candidate 0 = .ok (.aload_n 0, 1) := by decide +kernel
theorem dX4_candidate_1 : decode cX4_candidate 1 = .ok (.iload_n 1, 1) := by decide +kernel
theorem dX4_candidate_2 : decode cX4_candidate 2 = .ok (.iload_n 2, 1) := by decide +kernel
theorem dX4_candidate_3 : decode cX4_candidate 3 = .ok (.invokevirtual 119, 3) := by decide +kernel
theorem dX4_candidate_6 : decode cX4_candidate 6 = .ok (.astore 5, 2) := by decide +kernel
theorem dX4_candidate_8 : decode cX4_candidate 8 = .ok (.aload 5, 2) := by decide +kernel
theorem dX4_candidate_10 : decode cX4_candidate 10 = .ok (.ifnonnull 7, 3) := by decide +kernel
theorem dX4_candidate_13 : decode cX4_candidate 13 = .ok (.sipush (-9001), 3) := by decide +kernel
theorem dX4_candidate_16 : decode cX4_candidate 16 = .ok (.ireturn, 1) := by decide +kernel
theorem dX4_candidate_17 : decode cX4_candidate 17 = .ok (.iconst 0, 1) := by decide +kernel
theorem dX4_candidate_18 : decode cX4_candidate 18 = .ok (.iload_n 3, 1) := by decide +kernel
theorem dX4_candidate_19 : decode cX4_candidate 19 = .ok (.aload 5, 2) := by decide +kernel
theorem dX4_candidate_21 : decode cX4_candidate 21 = .ok (.invokevirtual 136, 3) := by decide +kernel
theorem dX4_candidate_24 : decode cX4_candidate 24 = .ok (.iconst 1, 1) := by decide +kernel
theorem dX4_candidate_25 : decode cX4_candidate 25 = .ok (.isub, 1) := by decide +kernel
theorem dX4_candidate_26 : decode cX4_candidate 26 = .ok (.invokestatic 48, 3) := by decide +kernel
theorem dX4_candidate_29 : decode cX4_candidate 29 = .ok (.ifCond .ne 7, 3) := by decide +kernel
theorem dX4_candidate_32 : decode cX4_candidate 32 = .ok (.sipush (-9002), 3) := by decide +kernel
theorem dX4_candidate_35 : decode cX4_candidate 35 = .ok (.ireturn, 1) := by decide +kernel
theorem dX4_candidate_36 : decode cX4_candidate 36 = .ok (.aload 5, 2) := by decide +kernel
theorem dX4_candidate_38 : decode cX4_candidate 38 = .ok (.iload_n 3, 1) := by decide +kernel
theorem dX4_candidate_39 : decode cX4_candidate 39 = .ok (.aload_n 0, 1) := by decide +kernel
theorem dX4_candidate_40 : decode cX4_candidate 40 = .ok (.getfield 41, 3) := by decide +kernel
theorem dX4_candidate_43 : decode cX4_candidate 43 = .ok (.invokevirtual 146, 3) := by decide +kernel
theorem dX4_candidate_46 : decode cX4_candidate 46 = .ok (.iload 4, 2) := by decide +kernel
theorem dX4_candidate_48 : decode cX4_candidate 48 = .ok (.tableswitch 51 0 2 #[28, 35, 44], 28) := by decide +kernel
theorem dX4_candidate_76 : decode cX4_candidate 76 = .ok (.aload_n 0, 1) := by decide +kernel
theorem dX4_candidate_77 : decode cX4_candidate 77 = .ok (.bipush 52, 2) := by decide +kernel
theorem dX4_candidate_79 : decode cX4_candidate 79 = .ok (.invokevirtual 150, 3) := by decide +kernel
theorem dX4_candidate_82 : decode cX4_candidate 82 = .ok (.ireturn, 1) := by decide +kernel
theorem dX4_candidate_83 : decode cX4_candidate 83 = .ok (.aload_n 0, 1) := by decide +kernel
theorem dX4_candidate_84 : decode cX4_candidate 84 = .ok (.aload 5, 2) := by decide +kernel
theorem dX4_candidate_86 : decode cX4_candidate 86 = .ok (.bipush 80, 2) := by decide +kernel
theorem dX4_candidate_88 : decode cX4_candidate 88 = .ok (.invokevirtual 153, 3) := by decide +kernel
theorem dX4_candidate_91 : decode cX4_candidate 91 = .ok (.ireturn, 1) := by decide +kernel
theorem dX4_candidate_92 : decode cX4_candidate 92 = .ok (.aload 5, 2) := by decide +kernel
theorem dX4_candidate_94 : decode cX4_candidate 94 = .ok (.iload_n 3, 1) := by decide +kernel
theorem dX4_candidate_95 : decode cX4_candidate 95 = .ok (.invokevirtual 126, 3) := by decide +kernel
theorem dX4_candidate_98 : decode cX4_candidate 98 = .ok (.ireturn, 1) := by decide +kernel
theorem dX4_candidate_99 : decode cX4_candidate 99 = .ok (.sipush (-9002), 3) := by decide +kernel
theorem dX4_candidate_102 : decode cX4_candidate 102 = .ok (.ireturn, 1) := by decide +kernel
theorem dX4_along_0 : decode cX4_along 0 = .ok (.aload_n 0, 1) := by decide +kernel
theorem dX4_along_1 : decode cX4_along 1 = .ok (.iload_n 1, 1) := by decide +kernel
theorem dX4_along_2 : decode cX4_along 2 = .ok (.iload_n 2, 1) := by decide +kernel
theorem dX4_along_3 : decode cX4_along 3 = .ok (.invokevirtual 119, 3) := by decide +kernel
theorem dX4_along_6 : decode cX4_along 6 = .ok (.astore 5, 2) := by decide +kernel
theorem dX4_along_8 : decode cX4_along 8 = .ok (.aload 5, 2) := by decide +kernel
theorem dX4_along_10 : decode cX4_along 10 = .ok (.ifnonnull 7, 3) := by decide +kernel
theorem dX4_along_13 : decode cX4_along 13 = .ok (.ldc2_w 157, 3) := by decide +kernel
theorem dX4_along_16 : decode cX4_along 16 = .ok (.lreturn, 1) := by decide +kernel
theorem dX4_along_17 : decode cX4_along 17 = .ok (.iconst 0, 1) := by decide +kernel
theorem dX4_along_18 : decode cX4_along 18 = .ok (.iload_n 3, 1) := by decide +kernel
theorem dX4_along_19 : decode cX4_along 19 = .ok (.bipush 64, 2) := by decide +kernel
theorem dX4_along_21 : decode cX4_along 21 = .ok (.invokestatic 48, 3) := by decide +kernel
theorem dX4_along_24 : decode cX4_along 24 = .ok (.ifCond .eq 13, 3) := by decide +kernel
theorem dX4_along_27 : decode cX4_along 27 = .ok (.iconst 0, 1) := by decide +kernel
theorem dX4_along_28 : decode cX4_along 28 = .ok (.iload 4, 2) := by decide +kernel
theorem dX4_along_30 : decode cX4_along 30 = .ok (.iconst 1, 1) := by decide +kernel
theorem dX4_along_31 : decode cX4_along 31 = .ok (.invokestatic 48, 3) := by decide +kernel
theorem dX4_along_34 : decode cX4_along 34 = .ok (.ifCond .ne 7, 3) := by decide +kernel
theorem dX4_along_37 : decode cX4_along 37 = .ok (.ldc2_w 159, 3) := by decide +kernel
theorem dX4_along_40 : decode cX4_along 40 = .ok (.lreturn, 1) := by decide +kernel
theorem dX4_along_41 : decode cX4_along 41 = .ok (.aload 5, 2) := by decide +kernel
theorem dX4_along_43 : decode cX4_along 43 = .ok (.getfield 139, 3) := by decide +kernel
theorem dX4_along_46 : decode cX4_along 46 = .ok (.iload 4, 2) := by decide +kernel
theorem dX4_along_48 : decode cX4_along 48 = .ok (.invokevirtual 142, 3) := by decide +kernel
theorem dX4_along_51 : decode cX4_along 51 = .ok (.astore 6, 2) := by decide +kernel
theorem dX4_along_53 : decode cX4_along 53 = .ok (.iload_n 3, 1) := by decide +kernel
theorem dX4_along_54 : decode cX4_along 54 = .ok (.i2l, 1) := by decide +kernel
theorem dX4_along_55 : decode cX4_along 55 = .ok (.lstore 7, 2) := by decide +kernel
theorem dX4_along_57 : decode cX4_along 57 = .ok (.ldc2_w 161, 3) := by decide +kernel
theorem dX4_along_60 : decode cX4_along 60 = .ok (.lload 7, 2) := by decide +kernel
theorem dX4_along_62 : decode cX4_along 62 = .ok (.lsub, 1) := by decide +kernel
theorem dX4_along_63 : decode cX4_along 63 = .ok (.lstore 9, 2) := by decide +kernel
theorem dX4_along_65 : decode cX4_along 65 = .ok (.lload 9, 2) := by decide +kernel
theorem dX4_along_67 : decode cX4_along 67 = .ok (.lload 9, 2) := by decide +kernel
theorem dX4_along_69 : decode cX4_along 69 = .ok (.lmul, 1) := by decide +kernel
theorem dX4_along_70 : decode cX4_along 70 = .ok (.lload 9, 2) := by decide +kernel
theorem dX4_along_72 : decode cX4_along 72 = .ok (.lmul, 1) := by decide +kernel
theorem dX4_along_73 : decode cX4_along 73 = .ok (.aload 6, 2) := by decide +kernel
theorem dX4_along_75 : decode cX4_along 75 = .ok (.iconst 0, 1) := by decide +kernel
theorem dX4_along_76 : decode cX4_along 76 = .ok (.iaload, 1) := by decide +kernel
theorem dX4_along_77 : decode cX4_along 77 = .ok (.i2l, 1) := by decide +kernel
theorem dX4_along_78 : decode cX4_along 78 = .ok (.lmul, 1) := by decide +kernel
theorem dX4_along_79 : decode cX4_along 79 = .ok (.ldc2_w 163, 3) := by decide +kernel
theorem dX4_along_82 : decode cX4_along 82 = .ok (.lload 9, 2) := by decide +kernel
theorem dX4_along_84 : decode cX4_along 84 = .ok (.lmul, 1) := by decide +kernel
theorem dX4_along_85 : decode cX4_along 85 = .ok (.lload 9, 2) := by decide +kernel
theorem dX4_along_87 : decode cX4_along 87 = .ok (.lmul, 1) := by decide +kernel
theorem dX4_along_88 : decode cX4_along 88 = .ok (.lload 7, 2) := by decide +kernel
theorem dX4_along_90 : decode cX4_along 90 = .ok (.lmul, 1) := by decide +kernel
theorem dX4_along_91 : decode cX4_along 91 = .ok (.aload 6, 2) := by decide +kernel
theorem dX4_along_93 : decode cX4_along 93 = .ok (.iconst 1, 1) := by decide +kernel
theorem dX4_along_94 : decode cX4_along 94 = .ok (.iaload, 1) := by decide +kernel
theorem dX4_along_95 : decode cX4_along 95 = .ok (.i2l, 1) := by decide +kernel
theorem dX4_along_96 : decode cX4_along 96 = .ok (.lmul, 1) := by decide +kernel
theorem dX4_along_97 : decode cX4_along 97 = .ok (.ladd, 1) := by decide +kernel
theorem dX4_along_98 : decode cX4_along 98 = .ok (.ldc2_w 163, 3) := by decide +kernel
theorem dX4_along_101 : decode cX4_along 101 = .ok (.lload 9, 2) := by decide +kernel
theorem dX4_along_103 : decode cX4_along 103 = .ok (.lmul, 1) := by decide +kernel
theorem dX4_along_104 : decode cX4_along 104 = .ok (.lload 7, 2) := by decide +kernel
theorem dX4_along_106 : decode cX4_along 106 = .ok (.lmul, 1) := by decide +kernel
theorem dX4_along_107 : decode cX4_along 107 = .ok (.lload 7, 2) := by decide +kernel
theorem dX4_along_109 : decode cX4_along 109 = .ok (.lmul, 1) := by decide +kernel
theorem dX4_along_110 : decode cX4_along 110 = .ok (.aload 6, 2) := by decide +kernel
theorem dX4_along_112 : decode cX4_along 112 = .ok (.iconst 2, 1) := by decide +kernel
theorem dX4_along_113 : decode cX4_along 113 = .ok (.iaload, 1) := by decide +kernel
theorem dX4_along_114 : decode cX4_along 114 = .ok (.i2l, 1) := by decide +kernel
theorem dX4_along_115 : decode cX4_along 115 = .ok (.lmul, 1) := by decide +kernel
theorem dX4_along_116 : decode cX4_along 116 = .ok (.ladd, 1) := by decide +kernel
theorem dX4_along_117 : decode cX4_along 117 = .ok (.lload 7, 2) := by decide +kernel
theorem dX4_along_119 : decode cX4_along 119 = .ok (.lload 7, 2) := by decide +kernel
theorem dX4_along_121 : decode cX4_along 121 = .ok (.lmul, 1) := by decide +kernel
theorem dX4_along_122 : decode cX4_along 122 = .ok (.lload 7, 2) := by decide +kernel
theorem dX4_along_124 : decode cX4_along 124 = .ok (.lmul, 1) := by decide +kernel
theorem dX4_along_125 : decode cX4_along 125 = .ok (.aload 6, 2) := by decide +kernel
theorem dX4_along_127 : decode cX4_along 127 = .ok (.iconst 3, 1) := by decide +kernel
theorem dX4_along_128 : decode cX4_along 128 = .ok (.iaload, 1) := by decide +kernel
theorem dX4_along_129 : decode cX4_along 129 = .ok (.i2l, 1) := by decide +kernel
theorem dX4_along_130 : decode cX4_along 130 = .ok (.lmul, 1) := by decide +kernel
theorem dX4_along_131 : decode cX4_along 131 = .ok (.ladd, 1) := by decide +kernel
theorem dX4_along_132 : decode cX4_along 132 = .ok (.lreturn, 1) := by decide +kernel
theorem dX4_within_0 : decode cX4_within 0 = .ok (.aload_n 0, 1) := by decide +kernel
theorem dX4_within_1 : decode cX4_within 1 = .ok (.iload_n 1, 1) := by decide +kernel
theorem dX4_within_2 : decode cX4_within 2 = .ok (.iload_n 2, 1) := by decide +kernel
theorem dX4_within_3 : decode cX4_within 3 = .ok (.invokevirtual 119, 3) := by decide +kernel
theorem dX4_within_6 : decode cX4_within 6 = .ok (.astore 5, 2) := by decide +kernel
theorem dX4_within_8 : decode cX4_within 8 = .ok (.aload_n 0, 1) := by decide +kernel
theorem dX4_within_9 : decode cX4_within 9 = .ok (.iload_n 3, 1) := by decide +kernel
theorem dX4_within_10 : decode cX4_within 10 = .ok (.iload 4, 2) := by decide +kernel
theorem dX4_within_12 : decode cX4_within 12 = .ok (.invokevirtual 119, 3) := by decide +kernel
theorem dX4_within_15 : decode cX4_within 15 = .ok (.astore 6, 2) := by decide +kernel
theorem dX4_within_17 : decode cX4_within 17 = .ok (.aload 5, 2) := by decide +kernel
theorem dX4_within_19 : decode cX4_within 19 = .ok (.ifnull 8, 3) := by decide +kernel
theorem dX4_within_22 : decode cX4_within 22 = .ok (.aload 6, 2) := by decide +kernel
theorem dX4_within_24 : decode cX4_within 24 = .ok (.ifnonnull 7, 3) := by decide +kernel
theorem dX4_within_27 : decode cX4_within 27 = .ok (.sipush (-9001), 3) := by decide +kernel
theorem dX4_within_30 : decode cX4_within 30 = .ok (.ireturn, 1) := by decide +kernel
theorem dX4_within_31 : decode cX4_within 31 = .ok (.aload 5, 2) := by decide +kernel
theorem dX4_within_33 : decode cX4_within 33 = .ok (.aload 6, 2) := by decide +kernel
theorem dX4_within_35 : decode cX4_within 35 = .ok (.invokevirtual 165, 3) := by decide +kernel
theorem dX4_within_38 : decode cX4_within 38 = .ok (.ifCond .eq 7, 3) := by decide +kernel
theorem dX4_within_41 : decode cX4_within 41 = .ok (.iconst 1, 1) := by decide +kernel
theorem dX4_within_42 : decode cX4_within 42 = .ok (.goto 4, 3) := by decide +kernel
theorem dX4_within_45 : decode cX4_within 45 = .ok (.iconst 0, 1) := by decide +kernel
theorem dX4_within_46 : decode cX4_within 46 = .ok (.ireturn, 1) := by decide +kernel
theorem dX4_count_0 : decode cX4_count 0 = .ok (.iload_n 1, 1) := by decide +kernel
theorem dX4_count_1 : decode cX4_count 1 = .ok (.tableswitch 69 0 5 #[39, 44, 49, 54, 59, 64], 39) := by decide +kernel
theorem dX4_count_40 : decode cX4_count 40 = .ok (.aload_n 0, 1) := by decide +kernel
theorem dX4_count_41 : decode cX4_count 41 = .ok (.getfield 52, 3) := by decide +kernel
theorem dX4_count_44 : decode cX4_count 44 = .ok (.ireturn, 1) := by decide +kernel
theorem dX4_count_45 : decode cX4_count 45 = .ok (.aload_n 0, 1) := by decide +kernel
theorem dX4_count_46 : decode cX4_count 46 = .ok (.getfield 60, 3) := by decide +kernel
theorem dX4_count_49 : decode cX4_count 49 = .ok (.ireturn, 1) := by decide +kernel
theorem dX4_count_50 : decode cX4_count 50 = .ok (.aload_n 0, 1) := by decide +kernel
theorem dX4_count_51 : decode cX4_count 51 = .ok (.getfield 69, 3) := by decide +kernel
theorem dX4_count_54 : decode cX4_count 54 = .ok (.ireturn, 1) := by decide +kernel
theorem dX4_count_55 : decode cX4_count 55 = .ok (.aload_n 0, 1) := by decide +kernel
theorem dX4_count_56 : decode cX4_count 56 = .ok (.getfield 72, 3) := by decide +kernel
theorem dX4_count_59 : decode cX4_count 59 = .ok (.ireturn, 1) := by decide +kernel
theorem dX4_count_60 : decode cX4_count 60 = .ok (.aload_n 0, 1) := by decide +kernel
theorem dX4_count_61 : decode cX4_count 61 = .ok (.getfield 169, 3) := by decide +kernel
theorem dX4_count_64 : decode cX4_count 64 = .ok (.ireturn, 1) := by decide +kernel
theorem dX4_count_65 : decode cX4_count 65 = .ok (.aload_n 0, 1) := by decide +kernel
theorem dX4_count_66 : decode cX4_count 66 = .ok (.invokevirtual 172, 3) := by decide +kernel
theorem dX4_count_69 : decode cX4_count 69 = .ok (.ireturn, 1) := by decide +kernel
theorem dX4_count_70 : decode cX4_count 70 = .ok (.sipush (-9002), 3) := by decide +kernel
theorem dX4_count_73 : decode cX4_count 73 = .ok (.ireturn, 1) := by decide +kernel
theorem dX4_clear_0 : decode cX4_clear 0 = .ok (.aload_n 0, 1) := by decide +kernel
theorem dX4_clear_1 : decode cX4_clear 1 = .ok (.getfield 169, 3) := by decide +kernel
theorem dX4_clear_4 : decode cX4_clear 4 = .ok (.istore_n 1, 1) := by decide +kernel
theorem dX4_clear_5 : decode cX4_clear 5 = .ok (.aload_n 0, 1) := by decide +kernel
theorem dX4_clear_6 : decode cX4_clear 6 = .ok (.invokevirtual 45, 3) := by decide +kernel
theorem dX4_clear_9 : decode cX4_clear 9 = .ok (.iload_n 1, 1) := by decide +kernel
theorem dX4_clear_10 : decode cX4_clear 10 = .ok (.ireturn, 1) := by decide +kernel
theorem dX4_forgetAll_0 : decode cX4_forgetAll 0 = .ok (.aload_n 0, 1) := by decide +kernel
theorem dX4_forgetAll_1 : decode cX4_forgetAll 1 = .ok (.iconst 0, 1) := by decide +kernel
theorem dX4_forgetAll_2 : decode cX4_forgetAll 2 = .ok (.putfield 52, 3) := by decide +kernel
theorem dX4_forgetAll_5 : decode cX4_forgetAll 5 = .ok (.aload_n 0, 1) := by decide +kernel
theorem dX4_forgetAll_6 : decode cX4_forgetAll 6 = .ok (.iconst 0, 1) := by decide +kernel
theorem dX4_forgetAll_7 : decode cX4_forgetAll 7 = .ok (.putfield 60, 3) := by decide +kernel
theorem dX4_forgetAll_10 : decode cX4_forgetAll 10 = .ok (.aload_n 0, 1) := by decide +kernel
theorem dX4_forgetAll_11 : decode cX4_forgetAll 11 = .ok (.iconst 0, 1) := by decide +kernel
theorem dX4_forgetAll_12 : decode cX4_forgetAll 12 = .ok (.putfield 69, 3) := by decide +kernel
theorem dX4_forgetAll_15 : decode cX4_forgetAll 15 = .ok (.aload_n 0, 1) := by decide +kernel
theorem dX4_forgetAll_16 : decode cX4_forgetAll 16 = .ok (.iconst 0, 1) := by decide +kernel
theorem dX4_forgetAll_17 : decode cX4_forgetAll 17 = .ok (.putfield 72, 3) := by decide +kernel
theorem dX4_forgetAll_20 : decode cX4_forgetAll 20 = .ok (.aload_n 0, 1) := by decide +kernel
theorem dX4_forgetAll_21 : decode cX4_forgetAll 21 = .ok (.iconst 0, 1) := by decide +kernel
theorem dX4_forgetAll_22 : decode cX4_forgetAll 22 = .ok (.putfield 169, 3) := by decide +kernel
theorem dX4_forgetAll_25 : decode cX4_forgetAll 25 = .ok (.aload_n 0, 1) := by decide +kernel
theorem dX4_forgetAll_26 : decode cX4_forgetAll 26 = .ok (.iconst 0, 1) := by decide +kernel
theorem dX4_forgetAll_27 : decode cX4_forgetAll 27 = .ok (.putfield 86, 3) := by decide +kernel
theorem dX4_forgetAll_30 : decode cX4_forgetAll 30 = .ok (.return_, 1) := by decide +kernel
theorem dX4_isFrom_0 : decode cX4_isFrom 0 = .ok (.iload_n 0, 1) := by decide +kernel
theorem dX4_isFrom_1 : decode cX4_isFrom 1 = .ok (.iload_n 1, 1) := by decide +kernel
theorem dX4_isFrom_2 : decode cX4_isFrom 2 = .ok (.if_icmp .gt 12, 3) := by decide +kernel
theorem dX4_isFrom_5 : decode cX4_isFrom 5 = .ok (.iload_n 1, 1) := by decide +kernel
theorem dX4_isFrom_6 : decode cX4_isFrom 6 = .ok (.iload_n 2, 1) := by decide +kernel
theorem dX4_isFrom_7 : decode cX4_isFrom 7 = .ok (.if_icmp .gt 7, 3) := by decide +kernel
theorem dX4_isFrom_10 : decode cX4_isFrom 10 = .ok (.iconst 1, 1) := by decide +kernel
theorem dX4_isFrom_11 : decode cX4_isFrom 11 = .ok (.goto 4, 3) := by decide +kernel
theorem dX4_isFrom_14 : decode cX4_isFrom 14 = .ok (.iconst 0, 1) := by decide +kernel
theorem dX4_isFrom_15 : decode cX4_isFrom 15 = .ok (.ireturn, 1) := by decide +kernel
theorem dX4_isLine_0 : decode cX4_isLine 0 = .ok (.iconst 0, 1) := by decide +kernel
theorem dX4_isLine_1 : decode cX4_isLine 1 = .ok (.iload_n 1, 1) := by decide +kernel
theorem dX4_isLine_2 : decode cX4_isLine 2 = .ok (.aload_n 0, 1) := by decide +kernel
theorem dX4_isLine_3 : decode cX4_isLine 3 = .ok (.getfield 52, 3) := by decide +kernel
theorem dX4_isLine_6 : decode cX4_isLine 6 = .ok (.iconst 1, 1) := by decide +kernel
theorem dX4_isLine_7 : decode cX4_isLine 7 = .ok (.isub, 1) := by decide +kernel
theorem dX4_isLine_8 : decode cX4_isLine 8 = .ok (.invokestatic 48, 3) := by decide +kernel
theorem dX4_isLine_11 : decode cX4_isLine 11 = .ok (.ireturn, 1) := by decide +kernel
theorem dX4_isNote_0 : decode cX4_isNote 0 = .ok (.iconst 0, 1) := by decide +kernel
theorem dX4_isNote_1 : decode cX4_isNote 1 = .ok (.iload_n 1, 1) := by decide +kernel
theorem dX4_isNote_2 : decode cX4_isNote 2 = .ok (.aload_n 0, 1) := by decide +kernel
theorem dX4_isNote_3 : decode cX4_isNote 3 = .ok (.getfield 60, 3) := by decide +kernel
theorem dX4_isNote_6 : decode cX4_isNote 6 = .ok (.iconst 1, 1) := by decide +kernel
theorem dX4_isNote_7 : decode cX4_isNote 7 = .ok (.isub, 1) := by decide +kernel
theorem dX4_isNote_8 : decode cX4_isNote 8 = .ok (.invokestatic 48, 3) := by decide +kernel
theorem dX4_isNote_11 : decode cX4_isNote 11 = .ok (.ireturn, 1) := by decide +kernel
theorem dX4_isCurve_0 : decode cX4_isCurve 0 = .ok (.iconst 0, 1) := by decide +kernel
theorem dX4_isCurve_1 : decode cX4_isCurve 1 = .ok (.iload_n 1, 1) := by decide +kernel
theorem dX4_isCurve_2 : decode cX4_isCurve 2 = .ok (.aload_n 0, 1) := by decide +kernel
theorem dX4_isCurve_3 : decode cX4_isCurve 3 = .ok (.getfield 169, 3) := by decide +kernel
theorem dX4_isCurve_6 : decode cX4_isCurve 6 = .ok (.iconst 1, 1) := by decide +kernel
theorem dX4_isCurve_7 : decode cX4_isCurve 7 = .ok (.isub, 1) := by decide +kernel
theorem dX4_isCurve_8 : decode cX4_isCurve 8 = .ok (.invokestatic 48, 3) := by decide +kernel
theorem dX4_isCurve_11 : decode cX4_isCurve 11 = .ok (.ireturn, 1) := by decide +kernel
theorem dX4_isBarPlace_0 : decode cX4_isBarPlace 0 = .ok (.iconst 0, 1) := by decide +kernel
theorem dX4_isBarPlace_1 : decode cX4_isBarPlace 1 = .ok (.iload_n 2, 1) := by decide +kernel
theorem dX4_isBarPlace_2 : decode cX4_isBarPlace 2 = .ok (.aload_n 0, 1) := by decide +kernel
theorem dX4_isBarPlace_3 : decode cX4_isBarPlace 3 = .ok (.getfield 9, 3) := by decide +kernel
theorem dX4_isBarPlace_6 : decode cX4_isBarPlace 6 = .ok (.iload_n 1, 1) := by decide +kernel
theorem dX4_isBarPlace_7 : decode cX4_isBarPlace 7 = .ok (.iaload, 1) := by decide +kernel
theorem dX4_isBarPlace_8 : decode cX4_isBarPlace 8 = .ok (.invokestatic 48, 3) := by decide +kernel
theorem dX4_isBarPlace_11 : decode cX4_isBarPlace 11 = .ok (.ifCond .eq 20, 3) := by decide +kernel
theorem dX4_isBarPlace_14 : decode cX4_isBarPlace 14 = .ok (.sipush (-200), 3) := by decide +kernel
theorem dX4_isBarPlace_17 : decode cX4_isBarPlace 17 = .ok (.iload_n 3, 1) := by decide +kernel
theorem dX4_isBarPlace_18 : decode cX4_isBarPlace 18 = .ok (.sipush 200, 3) := by decide +kernel
theorem dX4_isBarPlace_21 : decode cX4_isBarPlace 21 = .ok (.invokestatic 48, 3) := by decide +kernel
theorem dX4_isBarPlace_24 : decode cX4_isBarPlace 24 = .ok (.ifCond .eq 7, 3) := by decide +kernel
theorem dX4_isBarPlace_27 : decode cX4_isBarPlace 27 = .ok (.iconst 1, 1) := by decide +kernel
theorem dX4_isBarPlace_28 : decode cX4_isBarPlace 28 = .ok (.goto 4, 3) := by decide +kernel
theorem dX4_isBarPlace_31 : decode cX4_isBarPlace 31 = .ok (.iconst 0, 1) := by decide +kernel
theorem dX4_isBarPlace_32 : decode cX4_isBarPlace 32 = .ok (.ireturn, 1) := by decide +kernel
theorem dX4_findPart_0 : decode cX4_findPart 0 = .ok (.aload_n 0, 1) := by decide +kernel
theorem dX4_findPart_1 : decode cX4_findPart 1 = .ok (.iload_n 1, 1) := by decide +kernel
theorem dX4_findPart_2 : decode cX4_findPart 2 = .ok (.invokevirtual 96, 3) := by decide +kernel
theorem dX4_findPart_5 : decode cX4_findPart 5 = .ok (.ifCond .eq 22, 3) := by decide +kernel
theorem dX4_findPart_8 : decode cX4_findPart 8 = .ok (.iconst 0, 1) := by decide +kernel
theorem dX4_findPart_9 : decode cX4_findPart 9 = .ok (.iload_n 2, 1) := by decide +kernel
theorem dX4_findPart_10 : decode cX4_findPart 10 = .ok (.aload_n 0, 1) := by decide +kernel
theorem dX4_findPart_11 : decode cX4_findPart 11 = .ok (.getfield 27, 3) := by decide +kernel
theorem dX4_findPart_14 : decode cX4_findPart 14 = .ok (.iload_n 1, 1) := by decide +kernel
theorem dX4_findPart_15 : decode cX4_findPart 15 = .ok (.aaload, 1) := by decide +kernel
theorem dX4_findPart_16 : decode cX4_findPart 16 = .ok (.invokevirtual 112, 3) := by decide +kernel
theorem dX4_findPart_19 : decode cX4_findPart 19 = .ok (.iconst 1, 1) := by decide +kernel
theorem dX4_findPart_20 : decode cX4_findPart 20 = .ok (.isub, 1) := by decide +kernel
theorem dX4_findPart_21 : decode cX4_findPart 21 = .ok (.invokestatic 48, 3) := by decide +kernel
theorem dX4_findPart_24 : decode cX4_findPart 24 = .ok (.ifCond .ne 5, 3) := by decide +kernel
theorem dX4_findPart_27 : decode cX4_findPart 27 = .ok (.aconst_null, 1) := by decide +kernel
theorem dX4_findPart_28 : decode cX4_findPart 28 = .ok (.areturn, 1) := by decide +kernel
theorem dX4_findPart_29 : decode cX4_findPart 29 = .ok (.aload_n 0, 1) := by decide +kernel
theorem dX4_findPart_30 : decode cX4_findPart 30 = .ok (.getfield 33, 3) := by decide +kernel
theorem dX4_findPart_33 : decode cX4_findPart 33 = .ok (.aload_n 0, 1) := by decide +kernel
theorem dX4_findPart_34 : decode cX4_findPart 34 = .ok (.getfield 27, 3) := by decide +kernel
theorem dX4_findPart_37 : decode cX4_findPart 37 = .ok (.iload_n 1, 1) := by decide +kernel
theorem dX4_findPart_38 : decode cX4_findPart 38 = .ok (.aaload, 1) := by decide +kernel
theorem dX4_findPart_39 : decode cX4_findPart 39 = .ok (.getfield 175, 3) := by decide +kernel
theorem dX4_findPart_42 : decode cX4_findPart 42 = .ok (.iload_n 2, 1) := by decide +kernel
theorem dX4_findPart_43 : decode cX4_findPart 43 = .ok (.iadd, 1) := by decide +kernel
theorem dX4_findPart_44 : decode cX4_findPart 44 = .ok (.aaload, 1) := by decide +kernel
theorem dX4_findPart_45 : decode cX4_findPart 45 = .ok (.areturn, 1) := by decide +kernel
theorem dX4_addCurve_0 : decode cX4_addCurve 0 = .ok (.aload_n 0, 1) := by decide +kernel
theorem dX4_addCurve_1 : decode cX4_addCurve 1 = .ok (.iload_n 1, 1) := by decide +kernel
theorem dX4_addCurve_2 : decode cX4_addCurve 2 = .ok (.invokevirtual 178, 3) := by decide +kernel
theorem dX4_addCurve_5 : decode cX4_addCurve 5 = .ok (.ifCond .eq 11, 3) := by decide +kernel
theorem dX4_addCurve_8 : decode cX4_addCurve 8 = .ok (.aload_n 0, 1) := by decide +kernel
theorem dX4_addCurve_9 : decode cX4_addCurve 9 = .ok (.iload_n 2, 1) := by decide +kernel
theorem dX4_addCurve_10 : decode cX4_addCurve 10 = .ok (.invokevirtual 178, 3) := by decide +kernel
theorem dX4_addCurve_13 : decode cX4_addCurve 13 = .ok (.ifCond .ne 7, 3) := by decide +kernel
theorem dX4_addCurve_16 : decode cX4_addCurve 16 = .ok (.sipush (-9001), 3) := by decide +kernel
theorem dX4_addCurve_19 : decode cX4_addCurve 19 = .ok (.ireturn, 1) := by decide +kernel
theorem dX4_addCurve_20 : decode cX4_addCurve 20 = .ok (.aload_n 0, 1) := by decide +kernel
theorem dX4_addCurve_21 : decode cX4_addCurve 21 = .ok (.getfield 15, 3) := by decide +kernel
theorem dX4_addCurve_24 : decode cX4_addCurve 24 = .ok (.iload_n 1, 1) := by decide +kernel
theorem dX4_addCurve_25 : decode cX4_addCurve 25 = .ok (.aaload, 1) := by decide +kernel
theorem dX4_addCurve_26 : decode cX4_addCurve 26 = .ok (.astore 4, 2) := by decide +kernel
theorem dX4_addCurve_28 : decode cX4_addCurve 28 = .ok (.aload_n 0, 1) := by decide +kernel
theorem dX4_addCurve_29 : decode cX4_addCurve 29 = .ok (.getfield 15, 3) := by decide +kernel
theorem dX4_addCurve_32 : decode cX4_addCurve 32 = .ok (.iload_n 2, 1) := by decide +kernel
theorem dX4_addCurve_33 : decode cX4_addCurve 33 = .ok (.aaload, 1) := by decide +kernel
theorem dX4_addCurve_34 : decode cX4_addCurve 34 = .ok (.astore 5, 2) := by decide +kernel
theorem dX4_addCurve_36 : decode cX4_addCurve 36 = .ok (.aload_n 0, 1) := by decide +kernel
theorem dX4_addCurve_37 : decode cX4_addCurve 37 = .ok (.aload 4, 2) := by decide +kernel
theorem dX4_addCurve_39 : decode cX4_addCurve 39 = .ok (.aload 5, 2) := by decide +kernel
theorem dX4_addCurve_41 : decode cX4_addCurve 41 = .ok (.invokevirtual 181, 3) := by decide +kernel
theorem dX4_addCurve_44 : decode cX4_addCurve 44 = .ok (.ifCond .eq 20, 3) := by decide +kernel
theorem dX4_addCurve_47 : decode cX4_addCurve 47 = .ok (.iload_n 3, 1) := by decide +kernel
theorem dX4_addCurve_48 : decode cX4_addCurve 48 = .ok (.ifCond .eq 20, 3) := by decide +kernel
theorem dX4_addCurve_51 : decode cX4_addCurve 51 = .ok (.aload 4, 2) := by decide +kernel
theorem dX4_addCurve_53 : decode cX4_addCurve 53 = .ok (.getfield 185, 3) := by decide +kernel
theorem dX4_addCurve_56 : decode cX4_addCurve 56 = .ok (.aload 5, 2) := by decide +kernel
theorem dX4_addCurve_58 : decode cX4_addCurve 58 = .ok (.getfield 185, 3) := by decide +kernel
theorem dX4_addCurve_61 : decode cX4_addCurve 61 = .ok (.if_icmp .eq 7, 3) := by decide +kernel
theorem dX4_addCurve_64 : decode cX4_addCurve 64 = .ok (.sipush (-9003), 3) := by decide +kernel
theorem dX4_addCurve_67 : decode cX4_addCurve 67 = .ok (.ireturn, 1) := by decide +kernel
theorem dX4_addCurve_68 : decode cX4_addCurve 68 = .ok (.aload_n 0, 1) := by decide +kernel
theorem dX4_addCurve_69 : decode cX4_addCurve 69 = .ok (.getfield 169, 3) := by decide +kernel
theorem dX4_addCurve_72 : decode cX4_addCurve 72 = .ok (.bipush 40, 2) := by decide +kernel
theorem dX4_addCurve_74 : decode cX4_addCurve 74 = .ok (.if_icmp .lt 7, 3) := by decide +kernel
theorem dX4_addCurve_77 : decode cX4_addCurve 77 = .ok (.sipush (-9004), 3) := by decide +kernel
theorem dX4_addCurve_80 : decode cX4_addCurve 80 = .ok (.ireturn, 1) := by decide +kernel
theorem dX4_addCurve_81 : decode cX4_addCurve 81 = .ok (.iload_n 3, 1) := by decide +kernel
theorem dX4_addCurve_82 : decode cX4_addCurve 82 = .ok (.ifCond .eq 12, 3) := by decide +kernel
theorem dX4_addCurve_85 : decode cX4_addCurve 85 = .ok (.aload_n 0, 1) := by decide +kernel
theorem dX4_addCurve_86 : decode cX4_addCurve 86 = .ok (.aload 4, 2) := by decide +kernel
theorem dX4_addCurve_88 : decode cX4_addCurve 88 = .ok (.invokevirtual 188, 3) := by decide +kernel
theorem dX4_addCurve_91 : decode cX4_addCurve 91 = .ok (.goto 11, 3) := by decide +kernel
theorem dX4_addCurve_94 : decode cX4_addCurve 94 = .ok (.aload_n 0, 1) := by decide +kernel
theorem dX4_addCurve_95 : decode cX4_addCurve 95 = .ok (.aload 4, 2) := by decide +kernel
theorem dX4_addCurve_97 : decode cX4_addCurve 97 = .ok (.aload 5, 2) := by decide +kernel
theorem dX4_addCurve_99 : decode cX4_addCurve 99 = .ok (.invokevirtual 192, 3) := by decide +kernel
theorem dX4_addCurve_102 : decode cX4_addCurve 102 = .ok (.istore 6, 2) := by decide +kernel
theorem dX4_addCurve_104 : decode cX4_addCurve 104 = .ok (.new 25, 3) := by decide +kernel
theorem dX4_addCurve_107 : decode cX4_addCurve 107 = .ok (.dup, 1) := by decide +kernel
theorem dX4_addCurve_108 : decode cX4_addCurve 108 = .ok (.aload_n 0, 1) := by decide +kernel
theorem dX4_addCurve_109 : decode cX4_addCurve 109 = .ok (.getfield 169, 3) := by decide +kernel
theorem dX4_addCurve_112 : decode cX4_addCurve 112 = .ok (.aload 4, 2) := by decide +kernel
theorem dX4_addCurve_114 : decode cX4_addCurve 114 = .ok (.aload 5, 2) := by decide +kernel
theorem dX4_addCurve_116 : decode cX4_addCurve 116 = .ok (.iload_n 3, 1) := by decide +kernel
theorem dX4_addCurve_117 : decode cX4_addCurve 117 = .ok (.iload 6, 2) := by decide +kernel
theorem dX4_addCurve_119 : decode cX4_addCurve 119 = .ok (.aload_n 0, 1) := by decide +kernel
theorem dX4_addCurve_120 : decode cX4_addCurve 120 = .ok (.getfield 86, 3) := by decide +kernel
theorem dX4_addCurve_123 : decode cX4_addCurve 123 = .ok (.invokespecial 196, 3) := by decide +kernel
theorem dX4_addCurve_126 : decode cX4_addCurve 126 = .ok (.astore 7, 2) := by decide +kernel
theorem dX4_addCurve_128 : decode cX4_addCurve 128 = .ok (.aload_n 0, 1) := by decide +kernel
theorem dX4_addCurve_129 : decode cX4_addCurve 129 = .ok (.getfield 27, 3) := by decide +kernel
theorem dX4_addCurve_132 : decode cX4_addCurve 132 = .ok (.aload_n 0, 1) := by decide +kernel
theorem dX4_addCurve_133 : decode cX4_addCurve 133 = .ok (.getfield 169, 3) := by decide +kernel
theorem dX4_addCurve_136 : decode cX4_addCurve 136 = .ok (.aload 7, 2) := by decide +kernel
theorem dX4_addCurve_138 : decode cX4_addCurve 138 = .ok (.aastore, 1) := by decide +kernel
theorem dX4_addCurve_139 : decode cX4_addCurve 139 = .ok (.aload_n 0, 1) := by decide +kernel
theorem dX4_addCurve_140 : decode cX4_addCurve 140 = .ok (.aload 7, 2) := by decide +kernel
theorem dX4_addCurve_142 : decode cX4_addCurve 142 = .ok (.invokevirtual 199, 3) := by decide +kernel
theorem dX4_addCurve_145 : decode cX4_addCurve 145 = .ok (.aload 7, 2) := by decide +kernel
theorem dX4_addCurve_147 : decode cX4_addCurve 147 = .ok (.getfield 175, 3) := by decide +kernel
theorem dX4_addCurve_150 : decode cX4_addCurve 150 = .ok (.istore 8, 2) := by decide +kernel
theorem dX4_addCurve_152 : decode cX4_addCurve 152 = .ok (.iload 8, 2) := by decide +kernel
theorem dX4_addCurve_154 : decode cX4_addCurve 154 = .ok (.aload_n 0, 1) := by decide +kernel
theorem dX4_addCurve_155 : decode cX4_addCurve 155 = .ok (.getfield 86, 3) := by decide +kernel
theorem dX4_addCurve_158 : decode cX4_addCurve 158 = .ok (.if_icmp .ge 20, 3) := by decide +kernel
theorem dX4_addCurve_161 : decode cX4_addCurve 161 = .ok (.aload_n 0, 1) := by decide +kernel
theorem dX4_addCurve_162 : decode cX4_addCurve 162 = .ok (.aload_n 0, 1) := by decide +kernel
theorem dX4_addCurve_163 : decode cX4_addCurve 163 = .ok (.getfield 33, 3) := by decide +kernel
theorem dX4_addCurve_166 : decode cX4_addCurve 166 = .ok (.iload 8, 2) := by decide +kernel
theorem dX4_addCurve_168 : decode cX4_addCurve 168 = .ok (.aaload, 1) := by decide +kernel
theorem dX4_addCurve_169 : decode cX4_addCurve 169 = .ok (.invokevirtual 92, 3) := by decide +kernel
theorem dX4_addCurve_172 : decode cX4_addCurve 172 = .ok (.iinc 8 1, 3) := by decide +kernel
theorem dX4_addCurve_175 : decode cX4_addCurve 175 = .ok (.goto (-23), 3) := by decide +kernel
theorem dX4_addCurve_178 : decode cX4_addCurve 178 = .ok (.aload_n 0, 1) := by decide +kernel
theorem dX4_addCurve_179 : decode cX4_addCurve 179 = .ok (.dup, 1) := by decide +kernel
theorem dX4_addCurve_180 : decode cX4_addCurve 180 = .ok (.getfield 169, 3) := by decide +kernel
theorem dX4_addCurve_183 : decode cX4_addCurve 183 = .ok (.dup_x1, 1) := by decide +kernel
theorem dX4_addCurve_184 : decode cX4_addCurve 184 = .ok (.iconst 1, 1) := by decide +kernel
theorem dX4_addCurve_185 : decode cX4_addCurve 185 = .ok (.iadd, 1) := by decide +kernel
theorem dX4_addCurve_186 : decode cX4_addCurve 186 = .ok (.putfield 169, 3) := by decide +kernel
theorem dX4_addCurve_189 : decode cX4_addCurve 189 = .ok (.ireturn, 1) := by decide +kernel
theorem dX4_canBeJoined_0 : decode cX4_canBeJoined 0 = .ok (.aload_n 1, 1) := by decide +kernel
theorem dX4_canBeJoined_1 : decode cX4_canBeJoined 1 = .ok (.aload_n 2, 1) := by decide +kernel
theorem dX4_canBeJoined_2 : decode cX4_canBeJoined 2 = .ok (.invokevirtual 203, 3) := by decide +kernel
theorem dX4_canBeJoined_5 : decode cX4_canBeJoined 5 = .ok (.ifCond .ne 5, 3) := by decide +kernel
theorem dX4_canBeJoined_8 : decode cX4_canBeJoined 8 = .ok (.iconst 0, 1) := by decide +kernel
theorem dX4_canBeJoined_9 : decode cX4_canBeJoined 9 = .ok (.ireturn, 1) := by decide +kernel
theorem dX4_canBeJoined_10 : decode cX4_canBeJoined 10 = .ok (.aload_n 1, 1) := by decide +kernel
theorem dX4_canBeJoined_11 : decode cX4_canBeJoined 11 = .ok (.getfield 207, 3) := by decide +kernel
theorem dX4_canBeJoined_14 : decode cX4_canBeJoined 14 = .ok (.aload_n 2, 1) := by decide +kernel
theorem dX4_canBeJoined_15 : decode cX4_canBeJoined 15 = .ok (.getfield 207, 3) := by decide +kernel
theorem dX4_canBeJoined_18 : decode cX4_canBeJoined 18 = .ok (.if_icmp .ne 23, 3) := by decide +kernel
theorem dX4_canBeJoined_21 : decode cX4_canBeJoined 21 = .ok (.aload_n 2, 1) := by decide +kernel
theorem dX4_canBeJoined_22 : decode cX4_canBeJoined 22 = .ok (.getfield 208, 3) := by decide +kernel
theorem dX4_canBeJoined_25 : decode cX4_canBeJoined 25 = .ok (.aload_n 1, 1) := by decide +kernel
theorem dX4_canBeJoined_26 : decode cX4_canBeJoined 26 = .ok (.getfield 208, 3) := by decide +kernel
theorem dX4_canBeJoined_29 : decode cX4_canBeJoined 29 = .ok (.isub, 1) := by decide +kernel
theorem dX4_canBeJoined_30 : decode cX4_canBeJoined 30 = .ok (.bipush 12, 2) := by decide +kernel
theorem dX4_canBeJoined_32 : decode cX4_canBeJoined 32 = .ok (.if_icmp .lt 7, 3) := by decide +kernel
theorem dX4_canBeJoined_35 : decode cX4_canBeJoined 35 = .ok (.iconst 1, 1) := by decide +kernel
theorem dX4_canBeJoined_36 : decode cX4_canBeJoined 36 = .ok (.goto 4, 3) := by decide +kernel
theorem dX4_canBeJoined_39 : decode cX4_canBeJoined 39 = .ok (.iconst 0, 1) := by decide +kernel
theorem dX4_canBeJoined_40 : decode cX4_canBeJoined 40 = .ok (.ireturn, 1) := by decide +kernel
theorem dX4_canBeJoined_41 : decode cX4_canBeJoined 41 = .ok (.aload_n 2, 1) := by decide +kernel
theorem dX4_canBeJoined_42 : decode cX4_canBeJoined 42 = .ok (.getfield 207, 3) := by decide +kernel
theorem dX4_canBeJoined_45 : decode cX4_canBeJoined 45 = .ok (.aload_n 1, 1) := by decide +kernel
theorem dX4_canBeJoined_46 : decode cX4_canBeJoined 46 = .ok (.getfield 207, 3) := by decide +kernel
theorem dX4_canBeJoined_49 : decode cX4_canBeJoined 49 = .ok (.isub, 1) := by decide +kernel
theorem dX4_canBeJoined_50 : decode cX4_canBeJoined 50 = .ok (.iconst 1, 1) := by decide +kernel
theorem dX4_canBeJoined_51 : decode cX4_canBeJoined 51 = .ok (.if_icmp .ne 35, 3) := by decide +kernel
theorem dX4_canBeJoined_54 : decode cX4_canBeJoined 54 = .ok (.aload_n 0, 1) := by decide +kernel
theorem dX4_canBeJoined_55 : decode cX4_canBeJoined 55 = .ok (.getfield 9, 3) := by decide +kernel
theorem dX4_canBeJoined_58 : decode cX4_canBeJoined 58 = .ok (.aload_n 1, 1) := by decide +kernel
theorem dX4_canBeJoined_59 : decode cX4_canBeJoined 59 = .ok (.getfield 207, 3) := by decide +kernel
theorem dX4_canBeJoined_62 : decode cX4_canBeJoined 62 = .ok (.iaload, 1) := by decide +kernel
theorem dX4_canBeJoined_63 : decode cX4_canBeJoined 63 = .ok (.aload_n 1, 1) := by decide +kernel
theorem dX4_canBeJoined_64 : decode cX4_canBeJoined 64 = .ok (.getfield 208, 3) := by decide +kernel
theorem dX4_canBeJoined_67 : decode cX4_canBeJoined 67 = .ok (.isub, 1) := by decide +kernel
theorem dX4_canBeJoined_68 : decode cX4_canBeJoined 68 = .ok (.bipush 12, 2) := by decide +kernel
theorem dX4_canBeJoined_70 : decode cX4_canBeJoined 70 = .ok (.if_icmp .lt 16, 3) := by decide +kernel
theorem dX4_canBeJoined_73 : decode cX4_canBeJoined 73 = .ok (.aload_n 2, 1) := by decide +kernel
theorem dX4_canBeJoined_74 : decode cX4_canBeJoined 74 = .ok (.getfield 208, 3) := by decide +kernel
theorem dX4_canBeJoined_77 : decode cX4_canBeJoined 77 = .ok (.bipush 12, 2) := by decide +kernel
theorem dX4_canBeJoined_79 : decode cX4_canBeJoined 79 = .ok (.if_icmp .lt 7, 3) := by decide +kernel
theorem dX4_canBeJoined_82 : decode cX4_canBeJoined 82 = .ok (.iconst 1, 1) := by decide +kernel
theorem dX4_canBeJoined_83 : decode cX4_canBeJoined 83 = .ok (.goto 4, 3) := by decide +kernel
theorem dX4_canBeJoined_86 : decode cX4_canBeJoined 86 = .ok (.iconst 0, 1) := by decide +kernel
theorem dX4_canBeJoined_87 : decode cX4_canBeJoined 87 = .ok (.ireturn, 1) := by decide +kernel
theorem dX4_tieSide_0 : decode cX4_tieSide 0 = .ok (.iconst 0, 1) := by decide +kernel
theorem dX4_tieSide_1 : decode cX4_tieSide 1 = .ok (.istore_n 2, 1) := by decide +kernel
theorem dX4_tieSide_2 : decode cX4_tieSide 2 = .ok (.iconst 0, 1) := by decide +kernel
theorem dX4_tieSide_3 : decode cX4_tieSide 3 = .ok (.istore_n 3, 1) := by decide +kernel
theorem dX4_tieSide_4 : decode cX4_tieSide 4 = .ok (.iconst 0, 1) := by decide +kernel
theorem dX4_tieSide_5 : decode cX4_tieSide 5 = .ok (.istore 4, 2) := by decide +kernel
theorem dX4_tieSide_7 : decode cX4_tieSide 7 = .ok (.iload 4, 2) := by decide +kernel
theorem dX4_tieSide_9 : decode cX4_tieSide 9 = .ok (.aload_n 0, 1) := by decide +kernel
theorem dX4_tieSide_10 : decode cX4_tieSide 10 = .ok (.getfield 60, 3) := by decide +kernel
theorem dX4_tieSide_13 : decode cX4_tieSide 13 = .ok (.if_icmp .ge 73, 3) := by decide +kernel
theorem dX4_tieSide_16 : decode cX4_tieSide 16 = .ok (.aload_n 0, 1) := by decide +kernel
theorem dX4_tieSide_17 : decode cX4_tieSide 17 = .ok (.getfield 15, 3) := by decide +kernel
theorem dX4_tieSide_20 : decode cX4_tieSide 20 = .ok (.iload 4, 2) := by decide +kernel
theorem dX4_tieSide_22 : decode cX4_tieSide 22 = .ok (.aaload, 1) := by decide +kernel
theorem dX4_tieSide_23 : decode cX4_tieSide 23 = .ok (.aload_n 1, 1) := by decide +kernel
theorem dX4_tieSide_24 : decode cX4_tieSide 24 = .ok (.invokevirtual 211, 3) := by decide +kernel
theorem dX4_tieSide_27 : decode cX4_tieSide 27 = .ok (.ifCond .eq 53, 3) := by decide +kernel
theorem dX4_tieSide_30 : decode cX4_tieSide 30 = .ok (.iload_n 2, 1) := by decide +kernel
theorem dX4_tieSide_31 : decode cX4_tieSide 31 = .ok (.aload_n 0, 1) := by decide +kernel
theorem dX4_tieSide_32 : decode cX4_tieSide 32 = .ok (.getfield 15, 3) := by decide +kernel
theorem dX4_tieSide_35 : decode cX4_tieSide 35 = .ok (.iload 4, 2) := by decide +kernel
theorem dX4_tieSide_37 : decode cX4_tieSide 37 = .ok (.aaload, 1) := by decide +kernel
theorem dX4_tieSide_38 : decode cX4_tieSide 38 = .ok (.getfield 185, 3) := by decide +kernel
theorem dX4_tieSide_41 : decode cX4_tieSide 41 = .ok (.aload_n 1, 1) := by decide +kernel
theorem dX4_tieSide_42 : decode cX4_tieSide 42 = .ok (.getfield 185, 3) := by decide +kernel
theorem dX4_tieSide_45 : decode cX4_tieSide 45 = .ok (.if_icmp .le 7, 3) := by decide +kernel
theorem dX4_tieSide_48 : decode cX4_tieSide 48 = .ok (.iconst 1, 1) := by decide +kernel
theorem dX4_tieSide_49 : decode cX4_tieSide 49 = .ok (.goto 4, 3) := by decide +kernel
theorem dX4_tieSide_52 : decode cX4_tieSide 52 = .ok (.iconst 0, 1) := by decide +kernel
theorem dX4_tieSide_53 : decode cX4_tieSide 53 = .ok (.iadd, 1) := by decide +kernel
theorem dX4_tieSide_54 : decode cX4_tieSide 54 = .ok (.istore_n 2, 1) := by decide +kernel
theorem dX4_tieSide_55 : decode cX4_tieSide 55 = .ok (.iload_n 3, 1) := by decide +kernel
theorem dX4_tieSide_56 : decode cX4_tieSide 56 = .ok (.aload_n 0, 1) := by decide +kernel
theorem dX4_tieSide_57 : decode cX4_tieSide 57 = .ok (.getfield 15, 3) := by decide +kernel
theorem dX4_tieSide_60 : decode cX4_tieSide 60 = .ok (.iload 4, 2) := by decide +kernel
theorem dX4_tieSide_62 : decode cX4_tieSide 62 = .ok (.aaload, 1) := by decide +kernel
theorem dX4_tieSide_63 : decode cX4_tieSide 63 = .ok (.getfield 185, 3) := by decide +kernel
theorem dX4_tieSide_66 : decode cX4_tieSide 66 = .ok (.aload_n 1, 1) := by decide +kernel
theorem dX4_tieSide_67 : decode cX4_tieSide 67 = .ok (.getfield 185, 3) := by decide +kernel
theorem dX4_tieSide_70 : decode cX4_tieSide 70 = .ok (.if_icmp .ge 7, 3) := by decide +kernel
theorem dX4_tieSide_73 : decode cX4_tieSide 73 = .ok (.iconst 1, 1) := by decide +kernel
theorem dX4_tieSide_74 : decode cX4_tieSide 74 = .ok (.goto 4, 3) := by decide +kernel
theorem dX4_tieSide_77 : decode cX4_tieSide 77 = .ok (.iconst 0, 1) := by decide +kernel
theorem dX4_tieSide_78 : decode cX4_tieSide 78 = .ok (.iadd, 1) := by decide +kernel
theorem dX4_tieSide_79 : decode cX4_tieSide 79 = .ok (.istore_n 3, 1) := by decide +kernel
theorem dX4_tieSide_80 : decode cX4_tieSide 80 = .ok (.iinc 4 1, 3) := by decide +kernel
theorem dX4_tieSide_83 : decode cX4_tieSide 83 = .ok (.goto (-76), 3) := by decide +kernel
theorem dX4_tieSide_86 : decode cX4_tieSide 86 = .ok (.iload_n 2, 1) := by decide +kernel
theorem dX4_tieSide_87 : decode cX4_tieSide 87 = .ok (.iload_n 3, 1) := by decide +kernel
theorem dX4_tieSide_88 : decode cX4_tieSide 88 = .ok (.if_icmp .eq 14, 3) := by decide +kernel
theorem dX4_tieSide_91 : decode cX4_tieSide 91 = .ok (.iload_n 2, 1) := by decide +kernel
theorem dX4_tieSide_92 : decode cX4_tieSide 92 = .ok (.iload_n 3, 1) := by decide +kernel
theorem dX4_tieSide_93 : decode cX4_tieSide 93 = .ok (.if_icmp .ge 7, 3) := by decide +kernel
theorem dX4_tieSide_96 : decode cX4_tieSide 96 = .ok (.iconst 1, 1) := by decide +kernel
theorem dX4_tieSide_97 : decode cX4_tieSide 97 = .ok (.goto 4, 3) := by decide +kernel
theorem dX4_tieSide_100 : decode cX4_tieSide 100 = .ok (.iconst (-1), 1) := by decide +kernel
theorem dX4_tieSide_101 : decode cX4_tieSide 101 = .ok (.ireturn, 1) := by decide +kernel
theorem dX4_tieSide_102 : decode cX4_tieSide 102 = .ok (.aload_n 1, 1) := by decide +kernel
theorem dX4_tieSide_103 : decode cX4_tieSide 103 = .ok (.invokevirtual 214, 3) := by decide +kernel
theorem dX4_tieSide_106 : decode cX4_tieSide 106 = .ok (.ineg, 1) := by decide +kernel
theorem dX4_tieSide_107 : decode cX4_tieSide 107 = .ok (.ireturn, 1) := by decide +kernel
theorem dX4_slurSide_0 : decode cX4_slurSide 0 = .ok (.aload_n 1, 1) := by decide +kernel
theorem dX4_slurSide_1 : decode cX4_slurSide 1 = .ok (.getfield 217, 3) := by decide +kernel
theorem dX4_slurSide_4 : decode cX4_slurSide 4 = .ok (.ifCond .eq 10, 3) := by decide +kernel
theorem dX4_slurSide_7 : decode cX4_slurSide 7 = .ok (.aload_n 2, 1) := by decide +kernel
theorem dX4_slurSide_8 : decode cX4_slurSide 8 = .ok (.getfield 217, 3) := by decide +kernel
theorem dX4_slurSide_11 : decode cX4_slurSide 11 = .ok (.ifCond .ne 7, 3) := by decide +kernel
theorem dX4_slurSide_14 : decode cX4_slurSide 14 = .ok (.iconst 1, 1) := by decide +kernel
theorem dX4_slurSide_15 : decode cX4_slurSide 15 = .ok (.goto 4, 3) := by decide +kernel
theorem dX4_slurSide_18 : decode cX4_slurSide 18 = .ok (.iconst 0, 1) := by decide +kernel
theorem dX4_slurSide_19 : decode cX4_slurSide 19 = .ok (.istore_n 3, 1) := by decide +kernel
theorem dX4_slurSide_20 : decode cX4_slurSide 20 = .ok (.iconst 0, 1) := by decide +kernel
theorem dX4_slurSide_21 : decode cX4_slurSide 21 = .ok (.istore 4, 2) := by decide +kernel
theorem dX4_slurSide_23 : decode cX4_slurSide 23 = .ok (.iload 4, 2) := by decide +kernel
theorem dX4_slurSide_25 : decode cX4_slurSide 25 = .ok (.aload_n 0, 1) := by decide +kernel
theorem dX4_slurSide_26 : decode cX4_slurSide 26 = .ok (.getfield 60, 3) := by decide +kernel
theorem dX4_slurSide_29 : decode cX4_slurSide 29 = .ok (.if_icmp .ge 60, 3) := by decide +kernel
theorem dX4_slurSide_32 : decode cX4_slurSide 32 = .ok (.iload_n 3, 1) := by decide +kernel
theorem dX4_slurSide_33 : decode cX4_slurSide 33 = .ok (.ifCond .ne 56, 3) := by decide +kernel
theorem dX4_slurSide_36 : decode cX4_slurSide 36 = .ok (.aload_n 0, 1) := by decide +kernel
theorem dX4_slurSide_37 : decode cX4_slurSide 37 = .ok (.getfield 15, 3) := by decide +kernel
theorem dX4_slurSide_40 : decode cX4_slurSide 40 = .ok (.iload 4, 2) := by decide +kernel
theorem dX4_slurSide_42 : decode cX4_slurSide 42 = .ok (.aaload, 1) := by decide +kernel
theorem dX4_slurSide_43 : decode cX4_slurSide 43 = .ok (.getfield 217, 3) := by decide +kernel
theorem dX4_slurSide_46 : decode cX4_slurSide 46 = .ok (.ifCond .ne 35, 3) := by decide +kernel
theorem dX4_slurSide_49 : decode cX4_slurSide 49 = .ok (.aload_n 1, 1) := by decide +kernel
theorem dX4_slurSide_50 : decode cX4_slurSide 50 = .ok (.aload_n 0, 1) := by decide +kernel
theorem dX4_slurSide_51 : decode cX4_slurSide 51 = .ok (.getfield 15, 3) := by decide +kernel
theorem dX4_slurSide_54 : decode cX4_slurSide 54 = .ok (.iload 4, 2) := by decide +kernel
theorem dX4_slurSide_56 : decode cX4_slurSide 56 = .ok (.aaload, 1) := by decide +kernel
theorem dX4_slurSide_57 : decode cX4_slurSide 57 = .ok (.invokevirtual 203, 3) := by decide +kernel
theorem dX4_slurSide_60 : decode cX4_slurSide 60 = .ok (.ifCond .eq 21, 3) := by decide +kernel
theorem dX4_slurSide_63 : decode cX4_slurSide 63 = .ok (.aload_n 0, 1) := by decide +kernel
theorem dX4_slurSide_64 : decode cX4_slurSide 64 = .ok (.getfield 15, 3) := by decide +kernel
theorem dX4_slurSide_67 : decode cX4_slurSide 67 = .ok (.iload 4, 2) := by decide +kernel
theorem dX4_slurSide_69 : decode cX4_slurSide 69 = .ok (.aaload, 1) := by decide +kernel
theorem dX4_slurSide_70 : decode cX4_slurSide 70 = .ok (.aload_n 2, 1) := by decide +kernel
theorem dX4_slurSide_71 : decode cX4_slurSide 71 = .ok (.invokevirtual 203, 3) := by decide +kernel
theorem dX4_slurSide_74 : decode cX4_slurSide 74 = .ok (.ifCond .eq 7, 3) := by decide +kernel
theorem dX4_slurSide_77 : decode cX4_slurSide 77 = .ok (.iconst 1, 1) := by decide +kernel
theorem dX4_slurSide_78 : decode cX4_slurSide 78 = .ok (.goto 4, 3) := by decide +kernel
theorem dX4_slurSide_81 : decode cX4_slurSide 81 = .ok (.iconst 0, 1) := by decide +kernel
theorem dX4_slurSide_82 : decode cX4_slurSide 82 = .ok (.istore_n 3, 1) := by decide +kernel
theorem dX4_slurSide_83 : decode cX4_slurSide 83 = .ok (.iinc 4 1, 3) := by decide +kernel
theorem dX4_slurSide_86 : decode cX4_slurSide 86 = .ok (.goto (-63), 3) := by decide +kernel
theorem dX4_slurSide_89 : decode cX4_slurSide 89 = .ok (.iload_n 3, 1) := by decide +kernel
theorem dX4_slurSide_90 : decode cX4_slurSide 90 = .ok (.ifCond .eq 7, 3) := by decide +kernel
theorem dX4_slurSide_93 : decode cX4_slurSide 93 = .ok (.iconst 1, 1) := by decide +kernel
theorem dX4_slurSide_94 : decode cX4_slurSide 94 = .ok (.goto 4, 3) := by decide +kernel
theorem dX4_slurSide_97 : decode cX4_slurSide 97 = .ok (.iconst (-1), 1) := by decide +kernel
theorem dX4_slurSide_98 : decode cX4_slurSide 98 = .ok (.ireturn, 1) := by decide +kernel
theorem dX4_addParts_0 : decode cX4_addParts 0 = .ok (.aload_n 1, 1) := by decide +kernel
theorem dX4_addParts_1 : decode cX4_addParts 1 = .ok (.invokevirtual 220, 3) := by decide +kernel
theorem dX4_addParts_4 : decode cX4_addParts 4 = .ok (.istore_n 2, 1) := by decide +kernel
theorem dX4_addParts_5 : decode cX4_addParts 5 = .ok (.aload_n 1, 1) := by decide +kernel
theorem dX4_addParts_6 : decode cX4_addParts 6 = .ok (.aload_n 1, 1) := by decide +kernel
theorem dX4_addParts_7 : decode cX4_addParts 7 = .ok (.getfield 99, 3) := by decide +kernel
theorem dX4_addParts_10 : decode cX4_addParts 10 = .ok (.invokevirtual 223, 3) := by decide +kernel
theorem dX4_addParts_13 : decode cX4_addParts 13 = .ok (.istore_n 3, 1) := by decide +kernel
theorem dX4_addParts_14 : decode cX4_addParts 14 = .ok (.aload_n 1, 1) := by decide +kernel
theorem dX4_addParts_15 : decode cX4_addParts 15 = .ok (.invokevirtual 226, 3) := by decide +kernel
theorem dX4_addParts_18 : decode cX4_addParts 18 = .ok (.istore 4, 2) := by decide +kernel
theorem dX4_addParts_20 : decode cX4_addParts 20 = .ok (.aload_n 1, 1) := by decide +kernel
theorem dX4_addParts_21 : decode cX4_addParts 21 = .ok (.aload_n 1, 1) := by decide +kernel
theorem dX4_addParts_22 : decode cX4_addParts 22 = .ok (.getfield 106, 3) := by decide +kernel
theorem dX4_addParts_25 : decode cX4_addParts 25 = .ok (.invokevirtual 223, 3) := by decide +kernel
theorem dX4_addParts_28 : decode cX4_addParts 28 = .ok (.istore 5, 2) := by decide +kernel
theorem dX4_addParts_30 : decode cX4_addParts 30 = .ok (.aload_n 1, 1) := by decide +kernel
theorem dX4_addParts_31 : decode cX4_addParts 31 = .ok (.invokevirtual 112, 3) := by decide +kernel
theorem dX4_addParts_34 : decode cX4_addParts 34 = .ok (.iconst 1, 1) := by decide +kernel
theorem dX4_addParts_35 : decode cX4_addParts 35 = .ok (.if_icmp .ne 31, 3) := by decide +kernel
theorem dX4_addParts_38 : decode cX4_addParts 38 = .ok (.aload_n 0, 1) := by decide +kernel
theorem dX4_addParts_39 : decode cX4_addParts 39 = .ok (.new 31, 3) := by decide +kernel
theorem dX4_addParts_42 : decode cX4_addParts 42 = .ok (.dup, 1) := by decide +kernel
theorem dX4_addParts_43 : decode cX4_addParts 43 = .ok (.aload_n 1, 1) := by decide +kernel
theorem dX4_addParts_44 : decode cX4_addParts 44 = .ok (.aload_n 1, 1) := by decide +kernel
theorem dX4_addParts_45 : decode cX4_addParts 45 = .ok (.getfield 99, 3) := by decide +kernel
theorem dX4_addParts_48 : decode cX4_addParts 48 = .ok (.getfield 207, 3) := by decide +kernel
theorem dX4_addParts_51 : decode cX4_addParts 51 = .ok (.iload_n 2, 1) := by decide +kernel
theorem dX4_addParts_52 : decode cX4_addParts 52 = .ok (.iload_n 3, 1) := by decide +kernel
theorem dX4_addParts_53 : decode cX4_addParts 53 = .ok (.iload 4, 2) := by decide +kernel
theorem dX4_addParts_55 : decode cX4_addParts 55 = .ok (.iload 5, 2) := by decide +kernel
theorem dX4_addParts_57 : decode cX4_addParts 57 = .ok (.invokespecial 229, 3) := by decide +kernel
theorem dX4_addParts_60 : decode cX4_addParts 60 = .ok (.invokevirtual 232, 3) := by decide +kernel
theorem dX4_addParts_63 : decode cX4_addParts 63 = .ok (.goto 63, 3) := by decide +kernel
theorem dX4_addParts_66 : decode cX4_addParts 66 = .ok (.aload_n 0, 1) := by decide +kernel
theorem dX4_addParts_67 : decode cX4_addParts 67 = .ok (.new 31, 3) := by decide +kernel
theorem dX4_addParts_70 : decode cX4_addParts 70 = .ok (.dup, 1) := by decide +kernel
theorem dX4_addParts_71 : decode cX4_addParts 71 = .ok (.aload_n 1, 1) := by decide +kernel
theorem dX4_addParts_72 : decode cX4_addParts 72 = .ok (.aload_n 1, 1) := by decide +kernel
theorem dX4_addParts_73 : decode cX4_addParts 73 = .ok (.getfield 99, 3) := by decide +kernel
theorem dX4_addParts_76 : decode cX4_addParts 76 = .ok (.getfield 207, 3) := by decide +kernel
theorem dX4_addParts_79 : decode cX4_addParts 79 = .ok (.iload_n 2, 1) := by decide +kernel
theorem dX4_addParts_80 : decode cX4_addParts 80 = .ok (.iload_n 3, 1) := by decide +kernel
theorem dX4_addParts_81 : decode cX4_addParts 81 = .ok (.aload_n 0, 1) := by decide +kernel
theorem dX4_addParts_82 : decode cX4_addParts 82 = .ok (.getfield 9, 3) := by decide +kernel
theorem dX4_addParts_85 : decode cX4_addParts 85 = .ok (.aload_n 1, 1) := by decide +kernel
theorem dX4_addParts_86 : decode cX4_addParts 86 = .ok (.getfield 99, 3) := by decide +kernel
theorem dX4_addParts_89 : decode cX4_addParts 89 = .ok (.getfield 207, 3) := by decide +kernel
theorem dX4_addParts_92 : decode cX4_addParts 92 = .ok (.iaload, 1) := by decide +kernel
theorem dX4_addParts_93 : decode cX4_addParts 93 = .ok (.iload_n 3, 1) := by decide +kernel
theorem dX4_addParts_94 : decode cX4_addParts 94 = .ok (.invokespecial 229, 3) := by decide +kernel
theorem dX4_addParts_97 : decode cX4_addParts 97 = .ok (.invokevirtual 232, 3) := by decide +kernel
theorem dX4_addParts_100 : decode cX4_addParts 100 = .ok (.aload_n 0, 1) := by decide +kernel
theorem dX4_addParts_101 : decode cX4_addParts 101 = .ok (.new 31, 3) := by decide +kernel
theorem dX4_addParts_104 : decode cX4_addParts 104 = .ok (.dup, 1) := by decide +kernel
theorem dX4_addParts_105 : decode cX4_addParts 105 = .ok (.aload_n 1, 1) := by decide +kernel
theorem dX4_addParts_106 : decode cX4_addParts 106 = .ok (.aload_n 1, 1) := by decide +kernel
theorem dX4_addParts_107 : decode cX4_addParts 107 = .ok (.getfield 106, 3) := by decide +kernel
theorem dX4_addParts_110 : decode cX4_addParts 110 = .ok (.getfield 207, 3) := by decide +kernel
theorem dX4_addParts_113 : decode cX4_addParts 113 = .ok (.iconst 0, 1) := by decide +kernel
theorem dX4_addParts_114 : decode cX4_addParts 114 = .ok (.iload 5, 2) := by decide +kernel
theorem dX4_addParts_116 : decode cX4_addParts 116 = .ok (.iload 4, 2) := by decide +kernel
theorem dX4_addParts_118 : decode cX4_addParts 118 = .ok (.iload 5, 2) := by decide +kernel
theorem dX4_addParts_120 : decode cX4_addParts 120 = .ok (.invokespecial 229, 3) := by decide +kernel
theorem dX4_addParts_123 : decode cX4_addParts 123 = .ok (.invokevirtual 232, 3) := by decide +kernel
theorem dX4_addParts_126 : decode cX4_addParts 126 = .ok (.return_, 1) := by decide +kernel
theorem dX4_addPart_0 : decode cX4_addPart 0 = .ok (.aload_n 0, 1) := by decide +kernel
theorem dX4_addPart_1 : decode cX4_addPart 1 = .ok (.getfield 86, 3) := by decide +kernel
theorem dX4_addPart_4 : decode cX4_addPart 4 = .ok (.bipush 80, 2) := by decide +kernel
theorem dX4_addPart_6 : decode cX4_addPart 6 = .ok (.if_icmp .ge 20, 3) := by decide +kernel
theorem dX4_addPart_9 : decode cX4_addPart 9 = .ok (.aload_n 0, 1) := by decide +kernel
theorem dX4_addPart_10 : decode cX4_addPart 10 = .ok (.getfield 33, 3) := by decide +kernel
theorem dX4_addPart_13 : decode cX4_addPart 13 = .ok (.aload_n 0, 1) := by decide +kernel
theorem dX4_addPart_14 : decode cX4_addPart 14 = .ok (.dup, 1) := by decide +kernel
theorem dX4_addPart_15 : decode cX4_addPart 15 = .ok (.getfield 86, 3) := by decide +kernel
theorem dX4_addPart_18 : decode cX4_addPart 18 = .ok (.dup_x1, 1) := by decide +kernel
theorem dX4_addPart_19 : decode cX4_addPart 19 = .ok (.iconst 1, 1) := by decide +kernel
theorem dX4_addPart_20 : decode cX4_addPart 20 = .ok (.iadd, 1) := by decide +kernel
theorem dX4_addPart_21 : decode cX4_addPart 21 = .ok (.putfield 86, 3) := by decide +kernel
theorem dX4_addPart_24 : decode cX4_addPart 24 = .ok (.aload_n 1, 1) := by decide +kernel
theorem dX4_addPart_25 : decode cX4_addPart 25 = .ok (.aastore, 1) := by decide +kernel
theorem dX4_addPart_26 : decode cX4_addPart 26 = .ok (.return_, 1) := by decide +kernel
theorem dX4_choose_0 : decode cX4_choose 0 = .ok (.iconst (-1), 1) := by decide +kernel
theorem dX4_choose_1 : decode cX4_choose 1 = .ok (.istore_n 2, 1) := by decide +kernel
theorem dX4_choose_2 : decode cX4_choose 2 = .ok (.iconst 0, 1) := by decide +kernel
theorem dX4_choose_3 : decode cX4_choose 3 = .ok (.istore_n 3, 1) := by decide +kernel
theorem dX4_choose_4 : decode cX4_choose 4 = .ok (.iload_n 3, 1) := by decide +kernel
theorem dX4_choose_5 : decode cX4_choose 5 = .ok (.aload_n 1, 1) := by decide +kernel
theorem dX4_choose_6 : decode cX4_choose 6 = .ok (.invokevirtual 136, 3) := by decide +kernel
theorem dX4_choose_9 : decode cX4_choose 9 = .ok (.if_icmp .ge 55, 3) := by decide +kernel
theorem dX4_choose_12 : decode cX4_choose 12 = .ok (.iload_n 2, 1) := by decide +kernel
theorem dX4_choose_13 : decode cX4_choose 13 = .ok (.iconst (-1), 1) := by decide +kernel
theorem dX4_choose_14 : decode cX4_choose 14 = .ok (.if_icmp .eq 16, 3) := by decide +kernel
theorem dX4_choose_17 : decode cX4_choose 17 = .ok (.aload_n 1, 1) := by decide +kernel
theorem dX4_choose_18 : decode cX4_choose 18 = .ok (.iload_n 3, 1) := by decide +kernel
theorem dX4_choose_19 : decode cX4_choose 19 = .ok (.invokevirtual 126, 3) := by decide +kernel
theorem dX4_choose_22 : decode cX4_choose 22 = .ok (.aload_n 1, 1) := by decide +kernel
theorem dX4_choose_23 : decode cX4_choose 23 = .ok (.iload_n 2, 1) := by decide +kernel
theorem dX4_choose_24 : decode cX4_choose 24 = .ok (.invokevirtual 126, 3) := by decide +kernel
theorem dX4_choose_27 : decode cX4_choose 27 = .ok (.if_icmp .ge 31, 3) := by decide +kernel
theorem dX4_choose_30 : decode cX4_choose 30 = .ok (.aload_n 1, 1) := by decide +kernel
theorem dX4_choose_31 : decode cX4_choose 31 = .ok (.iload_n 3, 1) := by decide +kernel
theorem dX4_choose_32 : decode cX4_choose 32 = .ok (.aload_n 0, 1) := by decide +kernel
theorem dX4_choose_33 : decode cX4_choose 33 = .ok (.getfield 41, 3) := by decide +kernel
theorem dX4_choose_36 : decode cX4_choose 36 = .ok (.invokevirtual 146, 3) := by decide +kernel
theorem dX4_choose_39 : decode cX4_choose 39 = .ok (.aload_n 0, 1) := by decide +kernel
theorem dX4_choose_40 : decode cX4_choose 40 = .ok (.iconst 1, 1) := by decide +kernel
theorem dX4_choose_41 : decode cX4_choose 41 = .ok (.invokevirtual 150, 3) := by decide +kernel
theorem dX4_choose_44 : decode cX4_choose 44 = .ok (.ifCond .ne 14, 3) := by decide +kernel
theorem dX4_choose_47 : decode cX4_choose 47 = .ok (.aload_n 0, 1) := by decide +kernel
theorem dX4_choose_48 : decode cX4_choose 48 = .ok (.aload_n 1, 1) := by decide +kernel
theorem dX4_choose_49 : decode cX4_choose 49 = .ok (.iconst 1, 1) := by decide +kernel
theorem dX4_choose_50 : decode cX4_choose 50 = .ok (.invokevirtual 153, 3) := by decide +kernel
theorem dX4_choose_53 : decode cX4_choose 53 = .ok (.ifCond .ne 5, 3) := by decide +kernel
theorem dX4_choose_56 : decode cX4_choose 56 = .ok (.iload_n 3, 1) := by decide +kernel
theorem dX4_choose_57 : decode cX4_choose 57 = .ok (.istore_n 2, 1) := by decide +kernel
theorem dX4_choose_58 : decode cX4_choose 58 = .ok (.iinc 3 1, 3) := by decide +kernel
theorem dX4_choose_61 : decode cX4_choose 61 = .ok (.goto (-57), 3) := by decide +kernel
theorem dX4_choose_64 : decode cX4_choose 64 = .ok (.aload_n 1, 1) := by decide +kernel
theorem dX4_choose_65 : decode cX4_choose 65 = .ok (.iload_n 2, 1) := by decide +kernel
theorem dX4_choose_66 : decode cX4_choose 66 = .ok (.iconst (-1), 1) := by decide +kernel
theorem dX4_choose_67 : decode cX4_choose 67 = .ok (.if_icmp .ne 7, 3) := by decide +kernel
theorem dX4_choose_70 : decode cX4_choose 70 = .ok (.iconst 1, 1) := by decide +kernel
theorem dX4_choose_71 : decode cX4_choose 71 = .ok (.goto 4, 3) := by decide +kernel
theorem dX4_choose_74 : decode cX4_choose 74 = .ok (.iconst 0, 1) := by decide +kernel
theorem dX4_choose_75 : decode cX4_choose 75 = .ok (.putfield 130, 3) := by decide +kernel
theorem dX4_choose_78 : decode cX4_choose 78 = .ok (.aload_n 1, 1) := by decide +kernel
theorem dX4_choose_79 : decode cX4_choose 79 = .ok (.aload_n 1, 1) := by decide +kernel
theorem dX4_choose_80 : decode cX4_choose 80 = .ok (.getfield 130, 3) := by decide +kernel
theorem dX4_choose_83 : decode cX4_choose 83 = .ok (.ifCond .eq 12, 3) := by decide +kernel
theorem dX4_choose_86 : decode cX4_choose 86 = .ok (.aload_n 1, 1) := by decide +kernel
theorem dX4_choose_87 : decode cX4_choose 87 = .ok (.invokevirtual 136, 3) := by decide +kernel
theorem dX4_choose_90 : decode cX4_choose 90 = .ok (.iconst 1, 1) := by decide +kernel
theorem dX4_choose_91 : decode cX4_choose 91 = .ok (.isub, 1) := by decide +kernel
theorem dX4_choose_92 : decode cX4_choose 92 = .ok (.goto 4, 3) := by decide +kernel
theorem dX4_choose_95 : decode cX4_choose 95 = .ok (.iload_n 2, 1) := by decide +kernel
theorem dX4_choose_96 : decode cX4_choose 96 = .ok (.putfield 89, 3) := by decide +kernel
theorem dX4_choose_99 : decode cX4_choose 99 = .ok (.aload_n 1, 1) := by decide +kernel
theorem dX4_choose_100 : decode cX4_choose 100 = .ok (.aload_n 1, 1) := by decide +kernel
theorem dX4_choose_101 : decode cX4_choose 101 = .ok (.getfield 89, 3) := by decide +kernel
theorem dX4_choose_104 : decode cX4_choose 104 = .ok (.aload_n 1, 1) := by decide +kernel
theorem dX4_choose_105 : decode cX4_choose 105 = .ok (.getfield 139, 3) := by decide +kernel
theorem dX4_choose_108 : decode cX4_choose 108 = .ok (.invokevirtual 146, 3) := by decide +kernel
theorem dX4_choose_111 : decode cX4_choose 111 = .ok (.return_, 1) := by decide +kernel
theorem dX4_barsMet_0 : decode cX4_barsMet 0 = .ok (.iconst 0, 1) := by decide +kernel
theorem dX4_barsMet_1 : decode cX4_barsMet 1 = .ok (.istore_n 2, 1) := by decide +kernel
theorem dX4_barsMet_2 : decode cX4_barsMet 2 = .ok (.iconst 0, 1) := by decide +kernel
theorem dX4_barsMet_3 : decode cX4_barsMet 3 = .ok (.istore_n 3, 1) := by decide +kernel
theorem dX4_barsMet_4 : decode cX4_barsMet 4 = .ok (.iload_n 3, 1) := by decide +kernel
theorem dX4_barsMet_5 : decode cX4_barsMet 5 = .ok (.aload_n 0, 1) := by decide +kernel
theorem dX4_barsMet_6 : decode cX4_barsMet 6 = .ok (.getfield 69, 3) := by decide +kernel
theorem dX4_barsMet_9 : decode cX4_barsMet 9 = .ok (.aload_n 0, 1) := by decide +kernel
theorem dX4_barsMet_10 : decode cX4_barsMet 10 = .ok (.getfield 72, 3) := by decide +kernel
theorem dX4_barsMet_13 : decode cX4_barsMet 13 = .ok (.iadd, 1) := by decide +kernel
theorem dX4_barsMet_14 : decode cX4_barsMet 14 = .ok (.if_icmp .ge 33, 3) := by decide +kernel
theorem dX4_barsMet_17 : decode cX4_barsMet 17 = .ok (.iload_n 2, 1) := by decide +kernel
theorem dX4_barsMet_18 : decode cX4_barsMet 18 = .ok (.iload_n 1, 1) := by decide +kernel
theorem dX4_barsMet_19 : decode cX4_barsMet 19 = .ok (.if_icmp .ge 28, 3) := by decide +kernel
theorem dX4_barsMet_22 : decode cX4_barsMet 22 = .ok (.aload_n 0, 1) := by decide +kernel
theorem dX4_barsMet_23 : decode cX4_barsMet 23 = .ok (.getfield 41, 3) := by decide +kernel
theorem dX4_barsMet_26 : decode cX4_barsMet 26 = .ok (.aload_n 0, 1) := by decide +kernel
theorem dX4_barsMet_27 : decode cX4_barsMet 27 = .ok (.getfield 21, 3) := by decide +kernel
theorem dX4_barsMet_30 : decode cX4_barsMet 30 = .ok (.iload_n 3, 1) := by decide +kernel
theorem dX4_barsMet_31 : decode cX4_barsMet 31 = .ok (.aaload, 1) := by decide +kernel
theorem dX4_barsMet_32 : decode cX4_barsMet 32 = .ok (.invokevirtual 235, 3) := by decide +kernel
theorem dX4_barsMet_35 : decode cX4_barsMet 35 = .ok (.ifCond .eq 6, 3) := by decide +kernel
theorem dX4_barsMet_38 : decode cX4_barsMet 38 = .ok (.iinc 2 1, 3) := by decide +kernel
theorem dX4_barsMet_41 : decode cX4_barsMet 41 = .ok (.iinc 3 1, 3) := by decide +kernel
theorem dX4_barsMet_44 : decode cX4_barsMet 44 = .ok (.goto (-40), 3) := by decide +kernel
theorem dX4_barsMet_47 : decode cX4_barsMet 47 = .ok (.iload_n 2, 1) := by decide +kernel
theorem dX4_barsMet_48 : decode cX4_barsMet 48 = .ok (.ireturn, 1) := by decide +kernel
theorem dX4_hullsMet_0 : decode cX4_hullsMet 0 = .ok (.iconst 0, 1) := by decide +kernel
theorem dX4_hullsMet_1 : decode cX4_hullsMet 1 = .ok (.istore_n 3, 1) := by decide +kernel
theorem dX4_hullsMet_2 : decode cX4_hullsMet 2 = .ok (.iconst 0, 1) := by decide +kernel
theorem dX4_hullsMet_3 : decode cX4_hullsMet 3 = .ok (.istore 4, 2) := by decide +kernel
theorem dX4_hullsMet_5 : decode cX4_hullsMet 5 = .ok (.iload 4, 2) := by decide +kernel
theorem dX4_hullsMet_7 : decode cX4_hullsMet 7 = .ok (.aload_n 0, 1) := by decide +kernel
theorem dX4_hullsMet_8 : decode cX4_hullsMet 8 = .ok (.getfield 86, 3) := by decide +kernel
theorem dX4_hullsMet_11 : decode cX4_hullsMet 11 = .ok (.if_icmp .ge 51, 3) := by decide +kernel
theorem dX4_hullsMet_14 : decode cX4_hullsMet 14 = .ok (.iload_n 3, 1) := by decide +kernel
theorem dX4_hullsMet_15 : decode cX4_hullsMet 15 = .ok (.iload_n 2, 1) := by decide +kernel
theorem dX4_hullsMet_16 : decode cX4_hullsMet 16 = .ok (.if_icmp .ge 46, 3) := by decide +kernel
theorem dX4_hullsMet_19 : decode cX4_hullsMet 19 = .ok (.aload_n 0, 1) := by decide +kernel
theorem dX4_hullsMet_20 : decode cX4_hullsMet 20 = .ok (.getfield 33, 3) := by decide +kernel
theorem dX4_hullsMet_23 : decode cX4_hullsMet 23 = .ok (.iload 4, 2) := by decide +kernel
theorem dX4_hullsMet_25 : decode cX4_hullsMet 25 = .ok (.aaload, 1) := by decide +kernel
theorem dX4_hullsMet_26 : decode cX4_hullsMet 26 = .ok (.aload_n 1, 1) := by decide +kernel
theorem dX4_hullsMet_27 : decode cX4_hullsMet 27 = .ok (.invokevirtual 165, 3) := by decide +kernel
theorem dX4_hullsMet_30 : decode cX4_hullsMet 30 = .ok (.ifCond .eq 26, 3) := by decide +kernel
theorem dX4_hullsMet_33 : decode cX4_hullsMet 33 = .ok (.aload_n 0, 1) := by decide +kernel
theorem dX4_hullsMet_34 : decode cX4_hullsMet 34 = .ok (.getfield 41, 3) := by decide +kernel
theorem dX4_hullsMet_37 : decode cX4_hullsMet 37 = .ok (.aload_n 0, 1) := by decide +kernel
theorem dX4_hullsMet_38 : decode cX4_hullsMet 38 = .ok (.getfield 33, 3) := by decide +kernel
theorem dX4_hullsMet_41 : decode cX4_hullsMet 41 = .ok (.iload 4, 2) := by decide +kernel
theorem dX4_hullsMet_43 : decode cX4_hullsMet 43 = .ok (.aaload, 1) := by decide +kernel
theorem dX4_hullsMet_44 : decode cX4_hullsMet 44 = .ok (.getfield 139, 3) := by decide +kernel
theorem dX4_hullsMet_47 : decode cX4_hullsMet 47 = .ok (.invokevirtual 235, 3) := by decide +kernel
theorem dX4_hullsMet_50 : decode cX4_hullsMet 50 = .ok (.ifCond .eq 6, 3) := by decide +kernel
theorem dX4_hullsMet_53 : decode cX4_hullsMet 53 = .ok (.iinc 3 1, 3) := by decide +kernel
theorem dX4_hullsMet_56 : decode cX4_hullsMet 56 = .ok (.iinc 4 1, 3) := by decide +kernel
theorem dX4_hullsMet_59 : decode cX4_hullsMet 59 = .ok (.goto (-54), 3) := by decide +kernel
theorem dX4_hullsMet_62 : decode cX4_hullsMet 62 = .ok (.iload_n 3, 1) := by decide +kernel
theorem dX4_hullsMet_63 : decode cX4_hullsMet 63 = .ok (.ireturn, 1) := by decide +kernel
theorem dX4_collidingParts_0 : decode cX4_collidingParts 0 = .ok (.iconst 0, 1) := by decide +kernel
theorem dX4_collidingParts_1 : decode cX4_collidingParts 1 = .ok (.istore_n 1, 1) := by decide +kernel
theorem dX4_collidingParts_2 : decode cX4_collidingParts 2 = .ok (.iconst 0, 1) := by decide +kernel
theorem dX4_collidingParts_3 : decode cX4_collidingParts 3 = .ok (.istore_n 2, 1) := by decide +kernel
theorem dX4_collidingParts_4 : decode cX4_collidingParts 4 = .ok (.iload_n 2, 1) := by decide +kernel
theorem dX4_collidingParts_5 : decode cX4_collidingParts 5 = .ok (.aload_n 0, 1) := by decide +kernel
theorem dX4_collidingParts_6 : decode cX4_collidingParts 6 = .ok (.getfield 86, 3) := by decide +kernel
theorem dX4_collidingParts_9 : decode cX4_collidingParts 9 = .ok (.if_icmp .ge 24, 3) := by decide +kernel
theorem dX4_collidingParts_12 : decode cX4_collidingParts 12 = .ok (.aload_n 0, 1) := by decide +kernel
theorem dX4_collidingParts_13 : decode cX4_collidingParts 13 = .ok (.getfield 33, 3) := by decide +kernel
theorem dX4_collidingParts_16 : decode cX4_collidingParts 16 = .ok (.iload_n 2, 1) := by decide +kernel
theorem dX4_collidingParts_17 : decode cX4_collidingParts 17 = .ok (.aaload, 1) := by decide +kernel
theorem dX4_collidingParts_18 : decode cX4_collidingParts 18 = .ok (.getfield 130, 3) := by decide +kernel
theorem dX4_collidingParts_21 : decode cX4_collidingParts 21 = .ok (.ifCond .eq 6, 3) := by decide +kernel
theorem dX4_collidingParts_24 : decode cX4_collidingParts 24 = .ok (.iinc 1 1, 3) := by decide +kernel
theorem dX4_collidingParts_27 : decode cX4_collidingParts 27 = .ok (.iinc 2 1, 3) := by decide +kernel
theorem dX4_collidingParts_30 : decode cX4_collidingParts 30 = .ok (.goto (-26), 3) := by decide +kernel
theorem dX4_collidingParts_33 : decode cX4_collidingParts 33 = .ok (.iload_n 1, 1) := by decide +kernel
theorem dX4_collidingParts_34 : decode cX4_collidingParts 34 = .ok (.ireturn, 1) := by decide +kernel
end
section
theorem dX5_init_0 : decode cX5_init 0 = .ok (.aload_n 0, 1) := by decide +kernel
theorem dX5_init_1 : decode cX5_init 1 = .ok (.invokespecial 1, 3) := by decide +kernel
theorem dX5_init_4 : decode cX5_init 4 = .ok (.aload_n 0, 1) := by decide +kernel
theorem dX5_init_5 : decode cX5_init 5 = .ok (.iconst 4, 1) := by decide +kernel
theorem dX5_init_6 : decode cX5_init 6 = .ok (.newarray .int, 2) := by decide +kernel
theorem dX5_init_8 : decode cX5_init 8 = .ok (.putfield 7, 3) := by decide +kernel
theorem dX5_init_11 : decode cX5_init 11 = .ok (.aload_n 0, 1) := by decide +kernel
theorem dX5_init_12 : decode cX5_init 12 = .ok (.bipush 60, 2) := by decide +kernel
theorem dX5_init_14 : decode cX5_init 14 = .ok (.newarray .int, 2) := by decide +kernel
theorem dX5_init_16 : decode cX5_init 16 = .ok (.putfield 13, 3) := by decide +kernel
theorem dX5_init_19 : decode cX5_init 19 = .ok (.aload_n 0, 1) := by decide +kernel
theorem dX5_init_20 : decode cX5_init 20 = .ok (.bipush 60, 2) := by decide +kernel
theorem dX5_init_22 : decode cX5_init 22 = .ok (.newarray .int, 2) := by decide +kernel
theorem dX5_init_24 : decode cX5_init 24 = .ok (.putfield 16, 3) := by decide +kernel
theorem dX5_init_27 : decode cX5_init 27 = .ok (.aload_n 0, 1) := by decide +kernel
theorem dX5_init_28 : decode cX5_init 28 = .ok (.bipush 60, 2) := by decide +kernel
theorem dX5_init_30 : decode cX5_init 30 = .ok (.newarray .int, 2) := by decide +kernel
theorem dX5_init_32 : decode cX5_init 32 = .ok (.putfield 19, 3) := by decide +kernel
theorem dX5_init_35 : decode cX5_init 35 = .ok (.aload_n 0, 1) := by decide +kernel
theorem dX5_init_36 : decode cX5_init 36 = .ok (.bipush 60, 2) := by decide +kernel
theorem dX5_init_38 : decode cX5_init 38 = .ok (.newarray .boolean, 2) := by decide +kernel
theorem dX5_init_40 : decode cX5_init 40 = .ok (.putfield 22, 3) := by decide +kernel
theorem dX5_init_43 : decode cX5_init 43 = .ok (.aload_n 0, 1) := by decide +kernel
theorem dX5_init_44 : decode cX5_init 44 = .ok (.bipush 40, 2) := by decide +kernel
theorem dX5_init_46 : decode cX5_init 46 = .ok (.newarray .int, 2) := by decide +kernel
theorem dX5_init_48 : decode cX5_init 48 = .ok (.putfield 26, 3) := by decide +kernel
theorem dX5_init_51 : decode cX5_init 51 = .ok (.aload_n 0, 1) := by decide +kernel
theorem dX5_init_52 : decode cX5_init 52 = .ok (.bipush 40, 2) := by decide +kernel
theorem dX5_init_54 : decode cX5_init 54 = .ok (.newarray .int, 2) := by decide +kernel
theorem dX5_init_56 : decode cX5_init 56 = .ok (.putfield 29, 3) := by decide +kernel
theorem dX5_init_59 : decode cX5_init 59 = .ok (.aload_n 0, 1) := by decide +kernel
theorem dX5_init_60 : decode cX5_init 60 = .ok (.bipush 40, 2) := by decide +kernel
theorem dX5_init_62 : decode cX5_init 62 = .ok (.newarray .int, 2) := by decide +kernel
theorem dX5_init_64 : decode cX5_init 64 = .ok (.putfield 32, 3) := by decide +kernel
theorem dX5_init_67 : decode cX5_init 67 = .ok (.aload_n 0, 1) := by decide +kernel
theorem dX5_init_68 : decode cX5_init 68 = .ok (.bipush 40, 2) := by decide +kernel
theorem dX5_init_70 : decode cX5_init 70 = .ok (.newarray .int, 2) := by decide +kernel
theorem dX5_init_72 : decode cX5_init 72 = .ok (.putfield 35, 3) := by decide +kernel
theorem dX5_init_75 : decode cX5_init 75 = .ok (.aload_n 0, 1) := by decide +kernel
theorem dX5_init_76 : decode cX5_init 76 = .ok (.bipush 40, 2) := by decide +kernel
theorem dX5_init_78 : decode cX5_init 78 = .ok (.newarray .int, 2) := by decide +kernel
theorem dX5_init_80 : decode cX5_init 80 = .ok (.putfield 38, 3) := by decide +kernel
theorem dX5_init_83 : decode cX5_init 83 = .ok (.aload_n 0, 1) := by decide +kernel
theorem dX5_init_84 : decode cX5_init 84 = .ok (.bipush 12, 2) := by decide +kernel
theorem dX5_init_86 : decode cX5_init 86 = .ok (.newarray .int, 2) := by decide +kernel
theorem dX5_init_88 : decode cX5_init 88 = .ok (.putfield 41, 3) := by decide +kernel
theorem dX5_init_91 : decode cX5_init 91 = .ok (.aload_n 0, 1) := by decide +kernel
theorem dX5_init_92 : decode cX5_init 92 = .ok (.bipush 12, 2) := by decide +kernel
theorem dX5_init_94 : decode cX5_init 94 = .ok (.newarray .int, 2) := by decide +kernel
theorem dX5_init_96 : decode cX5_init 96 = .ok (.putfield 44, 3) := by decide +kernel
theorem dX5_init_99 : decode cX5_init 99 = .ok (.aload_n 0, 1) := by decide +kernel
theorem dX5_init_100 : decode cX5_init 100 = .ok (.bipush 12, 2) := by decide +kernel
theorem dX5_init_102 : decode cX5_init 102 = .ok (.newarray .int, 2) := by decide +kernel
theorem dX5_init_104 : decode cX5_init 104 = .ok (.putfield 47, 3) := by decide +kernel
theorem dX5_init_107 : decode cX5_init 107 = .ok (.aload_n 0, 1) := by decide +kernel
theorem dX5_init_108 : decode cX5_init 108 = .ok (.bipush 12, 2) := by decide +kernel
theorem dX5_init_110 : decode cX5_init 110 = .ok (.newarray .int, 2) := by decide +kernel
theorem dX5_init_112 : decode cX5_init 112 = .ok (.putfield 50, 3) := by decide +kernel
theorem dX5_init_115 : decode cX5_init 115 = .ok (.aload_n 0, 1) := by decide +kernel
theorem dX5_init_116 : decode cX5_init 116 = .ok (.bipush 12, 2) := by decide +kernel
theorem dX5_init_118 : decode cX5_init 118 = .ok (.newarray .int, 2) := by decide +kernel
theorem dX5_init_120 : decode cX5_init 120 = .ok (.putfield 53, 3) := by decide +kernel
theorem dX5_init_123 : decode cX5_init 123 = .ok (.aload_n 0, 1) := by decide +kernel
theorem dX5_init_124 : decode cX5_init 124 = .ok (.bipush 40, 2) := by decide +kernel
theorem dX5_init_126 : decode cX5_init 126 = .ok (.newarray .int, 2) := by decide +kernel
theorem dX5_init_128 : decode cX5_init 128 = .ok (.putfield 56, 3) := by decide +kernel
theorem dX5_init_131 : decode cX5_init 131 = .ok (.aload_n 0, 1) := by decide +kernel
theorem dX5_init_132 : decode cX5_init 132 = .ok (.bipush 40, 2) := by decide +kernel
theorem dX5_init_134 : decode cX5_init 134 = .ok (.newarray .int, 2) := by decide +kernel
theorem dX5_init_136 : decode cX5_init 136 = .ok (.putfield 59, 3) := by decide +kernel
theorem dX5_init_139 : decode cX5_init 139 = .ok (.aload_n 0, 1) := by decide +kernel
theorem dX5_init_140 : decode cX5_init 140 = .ok (.bipush 40, 2) := by decide +kernel
theorem dX5_init_142 : decode cX5_init 142 = .ok (.newarray .boolean, 2) := by decide +kernel
theorem dX5_init_144 : decode cX5_init 144 = .ok (.putfield 62, 3) := by decide +kernel
theorem dX5_init_147 : decode cX5_init 147 = .ok (.aload_n 0, 1) := by decide +kernel
theorem dX5_init_148 : decode cX5_init 148 = .ok (.bipush 40, 2) := by decide +kernel
theorem dX5_init_150 : decode cX5_init 150 = .ok (.newarray .int, 2) := by decide +kernel
theorem dX5_init_152 : decode cX5_init 152 = .ok (.putfield 65, 3) := by decide +kernel
theorem dX5_init_155 : decode cX5_init 155 = .ok (.aload_n 0, 1) := by decide +kernel
theorem dX5_init_156 : decode cX5_init 156 = .ok (.bipush 40, 2) := by decide +kernel
theorem dX5_init_158 : decode cX5_init 158 = .ok (.newarray .int, 2) := by decide +kernel
theorem dX5_init_160 : decode cX5_init 160 = .ok (.putfield 68, 3) := by decide +kernel
theorem dX5_init_163 : decode cX5_init 163 = .ok (.aload_n 0, 1) := by decide +kernel
theorem dX5_init_164 : decode cX5_init 164 = .ok (.bipush 80, 2) := by decide +kernel
theorem dX5_init_166 : decode cX5_init 166 = .ok (.newarray .int, 2) := by decide +kernel
theorem dX5_init_168 : decode cX5_init 168 = .ok (.putfield 71, 3) := by decide +kernel
theorem dX5_init_171 : decode cX5_init 171 = .ok (.aload_n 0, 1) := by decide +kernel
theorem dX5_init_172 : decode cX5_init 172 = .ok (.bipush 80, 2) := by decide +kernel
theorem dX5_init_174 : decode cX5_init 174 = .ok (.newarray .int, 2) := by decide +kernel
theorem dX5_init_176 : decode cX5_init 176 = .ok (.putfield 74, 3) := by decide +kernel
theorem dX5_init_179 : decode cX5_init 179 = .ok (.aload_n 0, 1) := by decide +kernel
theorem dX5_init_180 : decode cX5_init 180 = .ok (.bipush 80, 2) := by decide +kernel
theorem dX5_init_182 : decode cX5_init 182 = .ok (.newarray .int, 2) := by decide +kernel
theorem dX5_init_184 : decode cX5_init 184 = .ok (.putfield 77, 3) := by decide +kernel
theorem dX5_init_187 : decode cX5_init 187 = .ok (.aload_n 0, 1) := by decide +kernel
theorem dX5_init_188 : decode cX5_init 188 = .ok (.bipush 80, 2) := by decide +kernel
theorem dX5_init_190 : decode cX5_init 190 = .ok (.newarray .int, 2) := by decide +kernel
theorem dX5_init_192 : decode cX5_init 192 = .ok (.putfield 80, 3) := by decide +kernel
theorem dX5_init_195 : decode cX5_init 195 = .ok (.aload_n 0, 1) := by decide +kernel
theorem dX5_init_196 : decode cX5_init 196 = .ok (.bipush 80, 2) := by decide +kernel
theorem dX5_init_198 : decode cX5_init 198 = .ok (.newarray .int, 2) := by decide +kernel
theorem dX5_init_200 : decode cX5_init 200 = .ok (.putfield 83, 3) := by decide +kernel
theorem dX5_init_203 : decode cX5_init 203 = .ok (.aload_n 0, 1) := by decide +kernel
theorem dX5_init_204 : decode cX5_init 204 = .ok (.bipush 80, 2) := by decide +kernel
theorem dX5_init_206 : decode cX5_init 206 = .ok (.newarray .int, 2) := by decide +kernel
theorem dX5_init_208 : decode cX5_init 208 = .ok (.putfield 86, 3) := by decide +kernel
theorem dX5_init_211 : decode cX5_init 211 = .ok (.aload_n 0, 1) := by decide +kernel
theorem dX5_init_212 : decode cX5_init 212 = .ok (.bipush 80, 2) := by decide +kernel
theorem dX5_init_214 : decode cX5_init 214 = .ok (.newarray .int, 2) := by decide +kernel
theorem dX5_init_216 : decode cX5_init 216 = .ok (.putfield 89, 3) := by decide +kernel
theorem dX5_init_219 : decode cX5_init 219 = .ok (.aload_n 0, 1) := by decide +kernel
theorem dX5_init_220 : decode cX5_init 220 = .ok (.iconst 4, 1) := by decide +kernel
theorem dX5_init_221 : decode cX5_init 221 = .ok (.newarray .long, 2) := by decide +kernel
theorem dX5_init_223 : decode cX5_init 223 = .ok (.putfield 92, 3) := by decide +kernel
theorem dX5_init_226 : decode cX5_init 226 = .ok (.aload_n 0, 1) := by decide +kernel
theorem dX5_init_227 : decode cX5_init 227 = .ok (.iconst 4, 1) := by decide +kernel
theorem dX5_init_228 : decode cX5_init 228 = .ok (.newarray .long, 2) := by decide +kernel
theorem dX5_init_230 : decode cX5_init 230 = .ok (.putfield 96, 3) := by decide +kernel
theorem dX5_init_233 : decode cX5_init 233 = .ok (.aload_n 0, 1) := by decide +kernel
theorem dX5_init_234 : decode cX5_init 234 = .ok (.iconst 4, 1) := by decide +kernel
theorem dX5_init_235 : decode cX5_init 235 = .ok (.newarray .long, 2) := by decide +kernel
theorem dX5_init_237 : decode cX5_init 237 = .ok (.putfield 99, 3) := by decide +kernel
theorem dX5_init_240 : decode cX5_init 240 = .ok (.aload_n 0, 1) := by decide +kernel
theorem dX5_init_241 : decode cX5_init 241 = .ok (.iconst 4, 1) := by decide +kernel
theorem dX5_init_242 : decode cX5_init 242 = .ok (.newarray .long, 2) := by decide +kernel
theorem dX5_init_244 : decode cX5_init 244 = .ok (.putfield 102, 3) := by decide +kernel
theorem dX5_init_247 : decode cX5_init 247 = .ok (.return_, 1) := by decide +kernel
theorem dX5_in_0 : decode cX5_in 0 = .ok (.iload_n 0, 1) := by decide +kernel
theorem dX5_in_1 : decode cX5_in 1 = .ok (.iload_n 1, 1) := by decide +kernel
theorem dX5_in_2 : decode cX5_in 2 = .ok (.if_icmp .lt 12, 3) := by decide +kernel
theorem dX5_in_5 : decode cX5_in 5 = .ok (.iload_n 0, 1) := by decide +kernel
theorem dX5_in_6 : decode cX5_in 6 = .ok (.iload_n 2, 1) := by decide +kernel
theorem dX5_in_7 : decode cX5_in 7 = .ok (.if_icmp .gt 7, 3) := by decide +kernel
theorem dX5_in_10 : decode cX5_in 10 = .ok (.iconst 1, 1) := by decide +kernel
theorem dX5_in_11 : decode cX5_in 11 = .ok (.goto 4, 3) := by decide +kernel
theorem dX5_in_14 : decode cX5_in 14 = .ok (.iconst 0, 1) := by decide +kernel
theorem dX5_in_15 : decode cX5_in 15 = .ok (.ireturn, 1) := by decide +kernel
theorem dX5_isLine_0 : decode cX5_isLine 0 = .ok (.iload_n 1, 1) := by decide +kernel
theorem dX5_isLine_1 : decode cX5_isLine 1 = .ok (.iconst 0, 1) := by decide +kernel
theorem dX5_isLine_2 : decode cX5_isLine 2 = .ok (.aload_n 0, 1) := by decide +kernel
theorem dX5_isLine_3 : decode cX5_isLine 3 = .ok (.getfield 105, 3) := by decide +kernel
theorem dX5_isLine_6 : decode cX5_isLine 6 = .ok (.iconst 1, 1) := by decide +kernel
theorem dX5_isLine_7 : decode cX5_isLine 7 = .ok (.isub, 1) := by decide +kernel
theorem dX5_isLine_8 : decode cX5_isLine 8 = .ok (.invokestatic 109, 3) := by decide +kernel
theorem dX5_isLine_11 : decode cX5_isLine 11 = .ok (.ireturn, 1) := by decide +kernel
theorem dX5_isNote_0 : decode cX5_isNote 0 = .ok (.iload_n 1, 1) := by decide +kernel
theorem dX5_isNote_1 : decode cX5_isNote 1 = .ok (.iconst 0, 1) := by decide +kernel
theorem dX5_isNote_2 : decode cX5_isNote 2 = .ok (.aload_n 0, 1) := by decide +kernel
theorem dX5_isNote_3 : decode cX5_isNote 3 = .ok (.getfield 113, 3) := by decide +kernel
theorem dX5_isNote_6 : decode cX5_isNote 6 = .ok (.iconst 1, 1) := by decide +kernel
theorem dX5_isNote_7 : decode cX5_isNote 7 = .ok (.isub, 1) := by decide +kernel
theorem dX5_isNote_8 : decode cX5_isNote 8 = .ok (.invokestatic 109, 3) := by decide +kernel
theorem dX5_isNote_11 : decode cX5_isNote 11 = .ok (.ireturn, 1) := by decide +kernel
theorem dX5_line_0 : decode cX5_line 0 = .ok (.iload_n 1, 1) := by decide +kernel
theorem dX5_line_1 : decode cX5_line 1 = .ok (.bipush 100, 2) := by decide +kernel
theorem dX5_line_3 : decode cX5_line 3 = .ok (.sipush 1000, 3) := by decide +kernel
theorem dX5_line_6 : decode cX5_line 6 = .ok (.invokestatic 109, 3) := by decide +kernel
theorem dX5_line_9 : decode cX5_line 9 = .ok (.ifCond .ne 7, 3) := by decide +kernel
theorem dX5_line_12 : decode cX5_line 12 = .ok (.sipush (-9002), 3) := by decide +kernel
theorem dX5_line_15 : decode cX5_line 15 = .ok (.ireturn, 1) := by decide +kernel
theorem dX5_line_16 : decode cX5_line 16 = .ok (.aload_n 0, 1) := by decide +kernel
theorem dX5_line_17 : decode cX5_line 17 = .ok (.getfield 105, 3) := by decide +kernel
theorem dX5_line_20 : decode cX5_line 20 = .ok (.iconst 4, 1) := by decide +kernel
theorem dX5_line_21 : decode cX5_line 21 = .ok (.if_icmp .ne 7, 3) := by decide +kernel
theorem dX5_line_24 : decode cX5_line 24 = .ok (.sipush (-9004), 3) := by decide +kernel
theorem dX5_line_27 : decode cX5_line 27 = .ok (.ireturn, 1) := by decide +kernel
theorem dX5_line_28 : decode cX5_line 28 = .ok (.aload_n 0, 1) := by decide +kernel
theorem dX5_line_29 : decode cX5_line 29 = .ok (.getfield 7, 3) := by decide +kernel
theorem dX5_line_32 : decode cX5_line 32 = .ok (.aload_n 0, 1) := by decide +kernel
theorem dX5_line_33 : decode cX5_line 33 = .ok (.getfield 105, 3) := by decide +kernel
theorem dX5_line_36 : decode cX5_line 36 = .ok (.iload_n 1, 1) := by decide +kernel
theorem dX5_line_37 : decode cX5_line 37 = .ok (.iastore, 1) := by decide +kernel
theorem dX5_line_38 : decode cX5_line 38 = .ok (.aload_n 0, 1) := by decide +kernel
theorem dX5_line_39 : decode cX5_line 39 = .ok (.dup, 1) := by decide +kernel
theorem dX5_line_40 : decode cX5_line 40 = .ok (.getfield 105, 3) := by decide +kernel
theorem dX5_line_43 : decode cX5_line 43 = .ok (.iconst 1, 1) := by decide +kernel
theorem dX5_line_44 : decode cX5_line 44 = .ok (.iadd, 1) := by decide +kernel
theorem dX5_line_45 : decode cX5_line 45 = .ok (.putfield 105, 3) := by decide +kernel
theorem dX5_line_48 : decode cX5_line 48 = .ok (.aload_n 0, 1) := by decide +kernel
theorem dX5_line_49 : decode cX5_line 49 = .ok (.getfield 105, 3) := by decide +kernel
theorem dX5_line_52 : decode cX5_line 52 = .ok (.iconst 1, 1) := by decide +kernel
theorem dX5_line_53 : decode cX5_line 53 = .ok (.isub, 1) := by decide +kernel
theorem dX5_line_54 : decode cX5_line 54 = .ok (.ireturn, 1) := by decide +kernel
theorem dX5_note_0 : decode cX5_note 0 = .ok (.aload_n 0, 1) := by decide +kernel
theorem dX5_note_1 : decode cX5_note 1 = .ok (.iload_n 1, 1) := by decide +kernel
theorem dX5_note_2 : decode cX5_note 2 = .ok (.invokevirtual 116, 3) := by decide +kernel
theorem dX5_note_5 : decode cX5_note 5 = .ok (.ifCond .ne 7, 3) := by decide +kernel
theorem dX5_note_8 : decode cX5_note 8 = .ok (.sipush (-9001), 3) := by decide +kernel
theorem dX5_note_11 : decode cX5_note 11 = .ok (.ireturn, 1) := by decide +kernel
theorem dX5_note_12 : decode cX5_note 12 = .ok (.iload_n 2, 1) := by decide +kernel
theorem dX5_note_13 : decode cX5_note 13 = .ok (.iconst 0, 1) := by decide +kernel
theorem dX5_note_14 : decode cX5_note 14 = .ok (.aload_n 0, 1) := by decide +kernel
theorem dX5_note_15 : decode cX5_note 15 = .ok (.getfield 7, 3) := by decide +kernel
theorem dX5_note_18 : decode cX5_note 18 = .ok (.iload_n 1, 1) := by decide +kernel
theorem dX5_note_19 : decode cX5_note 19 = .ok (.iaload, 1) := by decide +kernel
theorem dX5_note_20 : decode cX5_note 20 = .ok (.invokestatic 109, 3) := by decide +kernel
theorem dX5_note_23 : decode cX5_note 23 = .ok (.ifCond .eq 14, 3) := by decide +kernel
theorem dX5_note_26 : decode cX5_note 26 = .ok (.iload_n 3, 1) := by decide +kernel
theorem dX5_note_27 : decode cX5_note 27 = .ok (.bipush (-100), 2) := by decide +kernel
theorem dX5_note_29 : decode cX5_note 29 = .ok (.bipush 100, 2) := by decide +kernel
theorem dX5_note_31 : decode cX5_note 31 = .ok (.invokestatic 109, 3) := by decide +kernel
theorem dX5_note_34 : decode cX5_note 34 = .ok (.ifCond .ne 7, 3) := by decide +kernel
theorem dX5_note_37 : decode cX5_note 37 = .ok (.sipush (-9002), 3) := by decide +kernel
theorem dX5_note_40 : decode cX5_note 40 = .ok (.ireturn, 1) := by decide +kernel
theorem dX5_note_41 : decode cX5_note 41 = .ok (.aload_n 0, 1) := by decide +kernel
theorem dX5_note_42 : decode cX5_note 42 = .ok (.getfield 113, 3) := by decide +kernel
theorem dX5_note_45 : decode cX5_note 45 = .ok (.bipush 60, 2) := by decide +kernel
theorem dX5_note_47 : decode cX5_note 47 = .ok (.if_icmp .ne 7, 3) := by decide +kernel
theorem dX5_note_50 : decode cX5_note 50 = .ok (.sipush (-9004), 3) := by decide +kernel
theorem dX5_note_53 : decode cX5_note 53 = .ok (.ireturn, 1) := by decide +kernel
theorem dX5_note_54 : decode cX5_note 54 = .ok (.aload_n 0, 1) := by decide +kernel
theorem dX5_note_55 : decode cX5_note 55 = .ok (.getfield 13, 3) := by decide +kernel
theorem dX5_note_58 : decode cX5_note 58 = .ok (.aload_n 0, 1) := by decide +kernel
theorem dX5_note_59 : decode cX5_note 59 = .ok (.getfield 113, 3) := by decide +kernel
theorem dX5_note_62 : decode cX5_note 62 = .ok (.iload_n 1, 1) := by decide +kernel
theorem dX5_note_63 : decode cX5_note 63 = .ok (.iastore, 1) := by decide +kernel
theorem dX5_note_64 : decode cX5_note 64 = .ok (.aload_n 0, 1) := by decide +kernel
theorem dX5_note_65 : decode cX5_note 65 = .ok (.getfield 16, 3) := by decide +kernel
theorem dX5_note_68 : decode cX5_note 68 = .ok (.aload_n 0, 1) := by decide +kernel
theorem dX5_note_69 : decode cX5_note 69 = .ok (.getfield 113, 3) := by decide +kernel
theorem dX5_note_72 : decode cX5_note 72 = .ok (.iload_n 2, 1) := by decide +kernel
theorem dX5_note_73 : decode cX5_note 73 = .ok (.iastore, 1) := by decide +kernel
theorem dX5_note_74 : decode cX5_note 74 = .ok (.aload_n 0, 1) := by decide +kernel
theorem dX5_note_75 : decode cX5_note 75 = .ok (.getfield 19, 3) := by decide +kernel
theorem dX5_note_78 : decode cX5_note 78 = .ok (.aload_n 0, 1) := by decide +kernel
theorem dX5_note_79 : decode cX5_note 79 = .ok (.getfield 113, 3) := by decide +kernel
theorem dX5_note_82 : decode cX5_note 82 = .ok (.iload_n 3, 1) := by decide +kernel
theorem dX5_note_83 : decode cX5_note 83 = .ok (.iastore, 1) := by decide +kernel
theorem dX5_note_84 : decode cX5_note 84 = .ok (.aload_n 0, 1) := by decide +kernel
theorem dX5_note_85 : decode cX5_note 85 = .ok (.getfield 22, 3) := by decide +kernel
theorem dX5_note_88 : decode cX5_note 88 = .ok (.aload_n 0, 1) := by decide +kernel
theorem dX5_note_89 : decode cX5_note 89 = .ok (.getfield 113, 3) := by decide +kernel
theorem dX5_note_92 : decode cX5_note 92 = .ok (.iload 4, 2) := by decide +kernel
theorem dX5_note_94 : decode cX5_note 94 = .ok (.bastore, 1) := by decide +kernel
theorem dX5_note_95 : decode cX5_note 95 = .ok (.aload_n 0, 1) := by decide +kernel
theorem dX5_note_96 : decode cX5_note 96 = .ok (.dup, 1) := by decide +kernel
theorem dX5_note_97 : decode cX5_note 97 = .ok (.getfield 113, 3) := by decide +kernel
theorem dX5_note_100 : decode cX5_note 100 = .ok (.iconst 1, 1) := by decide +kernel
theorem dX5_note_101 : decode cX5_note 101 = .ok (.iadd, 1) := by decide +kernel
theorem dX5_note_102 : decode cX5_note 102 = .ok (.putfield 113, 3) := by decide +kernel
theorem dX5_note_105 : decode cX5_note 105 = .ok (.aload_n 0, 1) := by decide +kernel
theorem dX5_note_106 : decode cX5_note 106 = .ok (.getfield 113, 3) := by decide +kernel
theorem dX5_note_109 : decode cX5_note 109 = .ok (.iconst 1, 1) := by decide +kernel
theorem dX5_note_110 : decode cX5_note 110 = .ok (.isub, 1) := by decide +kernel
theorem dX5_note_111 : decode cX5_note 111 = .ok (.ireturn, 1) := by decide +kernel
theorem dX5_mark_0 : decode cX5_mark 0 = .ok (.aload_n 0, 1) := by decide +kernel
theorem dX5_mark_1 : decode cX5_mark 1 = .ok (.iload_n 1, 1) := by decide +kernel
theorem dX5_mark_2 : decode cX5_mark 2 = .ok (.invokevirtual 116, 3) := by decide +kernel
theorem dX5_mark_5 : decode cX5_mark 5 = .ok (.ifCond .ne 7, 3) := by decide +kernel
theorem dX5_mark_8 : decode cX5_mark 8 = .ok (.sipush (-9001), 3) := by decide +kernel
theorem dX5_mark_11 : decode cX5_mark 11 = .ok (.ireturn, 1) := by decide +kernel
theorem dX5_mark_12 : decode cX5_mark 12 = .ok (.iload_n 2, 1) := by decide +kernel
theorem dX5_mark_13 : decode cX5_mark 13 = .ok (.iconst 0, 1) := by decide +kernel
theorem dX5_mark_14 : decode cX5_mark 14 = .ok (.aload_n 0, 1) := by decide +kernel
theorem dX5_mark_15 : decode cX5_mark 15 = .ok (.getfield 7, 3) := by decide +kernel
theorem dX5_mark_18 : decode cX5_mark 18 = .ok (.iload_n 1, 1) := by decide +kernel
theorem dX5_mark_19 : decode cX5_mark 19 = .ok (.iaload, 1) := by decide +kernel
theorem dX5_mark_20 : decode cX5_mark 20 = .ok (.invokestatic 109, 3) := by decide +kernel
theorem dX5_mark_23 : decode cX5_mark 23 = .ok (.ifCond .eq 40, 3) := by decide +kernel
theorem dX5_mark_26 : decode cX5_mark 26 = .ok (.iload_n 3, 1) := by decide +kernel
theorem dX5_mark_27 : decode cX5_mark 27 = .ok (.sipush (-200), 3) := by decide +kernel
theorem dX5_mark_30 : decode cX5_mark 30 = .ok (.sipush 200, 3) := by decide +kernel
theorem dX5_mark_33 : decode cX5_mark 33 = .ok (.invokestatic 109, 3) := by decide +kernel
theorem dX5_mark_36 : decode cX5_mark 36 = .ok (.ifCond .eq 27, 3) := by decide +kernel
theorem dX5_mark_39 : decode cX5_mark 39 = .ok (.iload 4, 2) := by decide +kernel
theorem dX5_mark_41 : decode cX5_mark 41 = .ok (.iconst 1, 1) := by decide +kernel
theorem dX5_mark_42 : decode cX5_mark 42 = .ok (.sipush 200, 3) := by decide +kernel
theorem dX5_mark_45 : decode cX5_mark 45 = .ok (.invokestatic 109, 3) := by decide +kernel
theorem dX5_mark_48 : decode cX5_mark 48 = .ok (.ifCond .eq 15, 3) := by decide +kernel
theorem dX5_mark_51 : decode cX5_mark 51 = .ok (.iload 5, 2) := by decide +kernel
theorem dX5_mark_53 : decode cX5_mark 53 = .ok (.iconst 1, 1) := by decide +kernel
theorem dX5_mark_54 : decode cX5_mark 54 = .ok (.sipush 200, 3) := by decide +kernel
theorem dX5_mark_57 : decode cX5_mark 57 = .ok (.invokestatic 109, 3) := by decide +kernel
theorem dX5_mark_60 : decode cX5_mark 60 = .ok (.ifCond .ne 7, 3) := by decide +kernel
theorem dX5_mark_63 : decode cX5_mark 63 = .ok (.sipush (-9002), 3) := by decide +kernel
theorem dX5_mark_66 : decode cX5_mark 66 = .ok (.ireturn, 1) := by decide +kernel
theorem dX5_mark_67 : decode cX5_mark 67 = .ok (.aload_n 0, 1) := by decide +kernel
theorem dX5_mark_68 : decode cX5_mark 68 = .ok (.getfield 120, 3) := by decide +kernel
theorem dX5_mark_71 : decode cX5_mark 71 = .ok (.bipush 40, 2) := by decide +kernel
theorem dX5_mark_73 : decode cX5_mark 73 = .ok (.if_icmp .ne 7, 3) := by decide +kernel
theorem dX5_mark_76 : decode cX5_mark 76 = .ok (.sipush (-9004), 3) := by decide +kernel
theorem dX5_mark_79 : decode cX5_mark 79 = .ok (.ireturn, 1) := by decide +kernel
theorem dX5_mark_80 : decode cX5_mark 80 = .ok (.aload_n 0, 1) := by decide +kernel
theorem dX5_mark_81 : decode cX5_mark 81 = .ok (.getfield 26, 3) := by decide +kernel
theorem dX5_mark_84 : decode cX5_mark 84 = .ok (.aload_n 0, 1) := by decide +kernel
theorem dX5_mark_85 : decode cX5_mark 85 = .ok (.getfield 120, 3) := by decide +kernel
theorem dX5_mark_88 : decode cX5_mark 88 = .ok (.iload_n 1, 1) := by decide +kernel
theorem dX5_mark_89 : decode cX5_mark 89 = .ok (.iastore, 1) := by decide +kernel
theorem dX5_mark_90 : decode cX5_mark 90 = .ok (.aload_n 0, 1) := by decide +kernel
theorem dX5_mark_91 : decode cX5_mark 91 = .ok (.getfield 29, 3) := by decide +kernel
theorem dX5_mark_94 : decode cX5_mark 94 = .ok (.aload_n 0, 1) := by decide +kernel
theorem dX5_mark_95 : decode cX5_mark 95 = .ok (.getfield 120, 3) := by decide +kernel
theorem dX5_mark_98 : decode cX5_mark 98 = .ok (.iload_n 2, 1) := by decide +kernel
theorem dX5_mark_99 : decode cX5_mark 99 = .ok (.iastore, 1) := by decide +kernel
theorem dX5_mark_100 : decode cX5_mark 100 = .ok (.aload_n 0, 1) := by decide +kernel
theorem dX5_mark_101 : decode cX5_mark 101 = .ok (.getfield 32, 3) := by decide +kernel
theorem dX5_mark_104 : decode cX5_mark 104 = .ok (.aload_n 0, 1) := by decide +kernel
theorem dX5_mark_105 : decode cX5_mark 105 = .ok (.getfield 120, 3) := by decide +kernel
theorem dX5_mark_108 : decode cX5_mark 108 = .ok (.iload_n 3, 1) := by decide +kernel
theorem dX5_mark_109 : decode cX5_mark 109 = .ok (.iastore, 1) := by decide +kernel
theorem dX5_mark_110 : decode cX5_mark 110 = .ok (.aload_n 0, 1) := by decide +kernel
theorem dX5_mark_111 : decode cX5_mark 111 = .ok (.getfield 35, 3) := by decide +kernel
theorem dX5_mark_114 : decode cX5_mark 114 = .ok (.aload_n 0, 1) := by decide +kernel
theorem dX5_mark_115 : decode cX5_mark 115 = .ok (.getfield 120, 3) := by decide +kernel
theorem dX5_mark_118 : decode cX5_mark 118 = .ok (.iload 4, 2) := by decide +kernel
theorem dX5_mark_120 : decode cX5_mark 120 = .ok (.iastore, 1) := by decide +kernel
theorem dX5_mark_121 : decode cX5_mark 121 = .ok (.aload_n 0, 1) := by decide +kernel
theorem dX5_mark_122 : decode cX5_mark 122 = .ok (.getfield 38, 3) := by decide +kernel
theorem dX5_mark_125 : decode cX5_mark 125 = .ok (.aload_n 0, 1) := by decide +kernel
theorem dX5_mark_126 : decode cX5_mark 126 = .ok (.getfield 120, 3) := by decide +kernel
theorem dX5_mark_129 : decode cX5_mark 129 = .ok (.iload 5, 2) := by decide +kernel
theorem dX5_mark_131 : decode cX5_mark 131 = .ok (.iastore, 1) := by decide +kernel
theorem dX5_mark_132 : decode cX5_mark 132 = .ok (.aload_n 0, 1) := by decide +kernel
theorem dX5_mark_133 : decode cX5_mark 133 = .ok (.dup, 1) := by decide +kernel
theorem dX5_mark_134 : decode cX5_mark 134 = .ok (.getfield 120, 3) := by decide +kernel
theorem dX5_mark_137 : decode cX5_mark 137 = .ok (.iconst 1, 1) := by decide +kernel
theorem dX5_mark_138 : decode cX5_mark 138 = .ok (.iadd, 1) := by decide +kernel
theorem dX5_mark_139 : decode cX5_mark 139 = .ok (.putfield 120, 3) := by decide +kernel
theorem dX5_mark_142 : decode cX5_mark 142 = .ok (.aload_n 0, 1) := by decide +kernel
theorem dX5_mark_143 : decode cX5_mark 143 = .ok (.getfield 120, 3) := by decide +kernel
theorem dX5_mark_146 : decode cX5_mark 146 = .ok (.ireturn, 1) := by decide +kernel
theorem dX5_wedge_0 : decode cX5_wedge 0 = .ok (.aload_n 0, 1) := by decide +kernel
theorem dX5_wedge_1 : decode cX5_wedge 1 = .ok (.iload_n 1, 1) := by decide +kernel
theorem dX5_wedge_2 : decode cX5_wedge 2 = .ok (.invokevirtual 116, 3) := by decide +kernel
theorem dX5_wedge_5 : decode cX5_wedge 5 = .ok (.ifCond .ne 7, 3) := by decide +kernel
theorem dX5_wedge_8 : decode cX5_wedge 8 = .ok (.sipush (-9001), 3) := by decide +kernel
theorem dX5_wedge_11 : decode cX5_wedge 11 = .ok (.ireturn, 1) := by decide +kernel
theorem dX5_wedge_12 : decode cX5_wedge 12 = .ok (.iload_n 2, 1) := by decide +kernel
theorem dX5_wedge_13 : decode cX5_wedge 13 = .ok (.iconst 0, 1) := by decide +kernel
theorem dX5_wedge_14 : decode cX5_wedge 14 = .ok (.aload_n 0, 1) := by decide +kernel
theorem dX5_wedge_15 : decode cX5_wedge 15 = .ok (.getfield 7, 3) := by decide +kernel
theorem dX5_wedge_18 : decode cX5_wedge 18 = .ok (.iload_n 1, 1) := by decide +kernel
theorem dX5_wedge_19 : decode cX5_wedge 19 = .ok (.iaload, 1) := by decide +kernel
theorem dX5_wedge_20 : decode cX5_wedge 20 = .ok (.invokestatic 109, 3) := by decide +kernel
theorem dX5_wedge_23 : decode cX5_wedge 23 = .ok (.ifCond .eq 47, 3) := by decide +kernel
theorem dX5_wedge_26 : decode cX5_wedge 26 = .ok (.iload_n 3, 1) := by decide +kernel
theorem dX5_wedge_27 : decode cX5_wedge 27 = .ok (.iconst 0, 1) := by decide +kernel
theorem dX5_wedge_28 : decode cX5_wedge 28 = .ok (.aload_n 0, 1) := by decide +kernel
theorem dX5_wedge_29 : decode cX5_wedge 29 = .ok (.getfield 7, 3) := by decide +kernel
theorem dX5_wedge_32 : decode cX5_wedge 32 = .ok (.iload_n 1, 1) := by decide +kernel
theorem dX5_wedge_33 : decode cX5_wedge 33 = .ok (.iaload, 1) := by decide +kernel
theorem dX5_wedge_34 : decode cX5_wedge 34 = .ok (.invokestatic 109, 3) := by decide +kernel
theorem dX5_wedge_37 : decode cX5_wedge 37 = .ok (.ifCond .eq 33, 3) := by decide +kernel
theorem dX5_wedge_40 : decode cX5_wedge 40 = .ok (.iload_n 2, 1) := by decide +kernel
theorem dX5_wedge_41 : decode cX5_wedge 41 = .ok (.iload_n 3, 1) := by decide +kernel
theorem dX5_wedge_42 : decode cX5_wedge 42 = .ok (.if_icmp .eq 28, 3) := by decide +kernel
theorem dX5_wedge_45 : decode cX5_wedge 45 = .ok (.iload 4, 2) := by decide +kernel
theorem dX5_wedge_47 : decode cX5_wedge 47 = .ok (.sipush (-200), 3) := by decide +kernel
theorem dX5_wedge_50 : decode cX5_wedge 50 = .ok (.sipush 200, 3) := by decide +kernel
theorem dX5_wedge_53 : decode cX5_wedge 53 = .ok (.invokestatic 109, 3) := by decide +kernel
theorem dX5_wedge_56 : decode cX5_wedge 56 = .ok (.ifCond .eq 14, 3) := by decide +kernel
theorem dX5_wedge_59 : decode cX5_wedge 59 = .ok (.iload 5, 2) := by decide +kernel
theorem dX5_wedge_61 : decode cX5_wedge 61 = .ok (.iconst 1, 1) := by decide +kernel
theorem dX5_wedge_62 : decode cX5_wedge 62 = .ok (.bipush 40, 2) := by decide +kernel
theorem dX5_wedge_64 : decode cX5_wedge 64 = .ok (.invokestatic 109, 3) := by decide +kernel
theorem dX5_wedge_67 : decode cX5_wedge 67 = .ok (.ifCond .ne 7, 3) := by decide +kernel
theorem dX5_wedge_70 : decode cX5_wedge 70 = .ok (.sipush (-9002), 3) := by decide +kernel
theorem dX5_wedge_73 : decode cX5_wedge 73 = .ok (.ireturn, 1) := by decide +kernel
theorem dX5_wedge_74 : decode cX5_wedge 74 = .ok (.aload_n 0, 1) := by decide +kernel
theorem dX5_wedge_75 : decode cX5_wedge 75 = .ok (.getfield 123, 3) := by decide +kernel
theorem dX5_wedge_78 : decode cX5_wedge 78 = .ok (.bipush 12, 2) := by decide +kernel
theorem dX5_wedge_80 : decode cX5_wedge 80 = .ok (.if_icmp .ne 7, 3) := by decide +kernel
theorem dX5_wedge_83 : decode cX5_wedge 83 = .ok (.sipush (-9004), 3) := by decide +kernel
theorem dX5_wedge_86 : decode cX5_wedge 86 = .ok (.ireturn, 1) := by decide +kernel
theorem dX5_wedge_87 : decode cX5_wedge 87 = .ok (.aload_n 0, 1) := by decide +kernel
theorem dX5_wedge_88 : decode cX5_wedge 88 = .ok (.getfield 41, 3) := by decide +kernel
theorem dX5_wedge_91 : decode cX5_wedge 91 = .ok (.aload_n 0, 1) := by decide +kernel
theorem dX5_wedge_92 : decode cX5_wedge 92 = .ok (.getfield 123, 3) := by decide +kernel
theorem dX5_wedge_95 : decode cX5_wedge 95 = .ok (.iload_n 1, 1) := by decide +kernel
theorem dX5_wedge_96 : decode cX5_wedge 96 = .ok (.iastore, 1) := by decide +kernel
theorem dX5_wedge_97 : decode cX5_wedge 97 = .ok (.aload_n 0, 1) := by decide +kernel
theorem dX5_wedge_98 : decode cX5_wedge 98 = .ok (.getfield 44, 3) := by decide +kernel
theorem dX5_wedge_101 : decode cX5_wedge 101 = .ok (.aload_n 0, 1) := by decide +kernel
theorem dX5_wedge_102 : decode cX5_wedge 102 = .ok (.getfield 123, 3) := by decide +kernel
theorem dX5_wedge_105 : decode cX5_wedge 105 = .ok (.iload_n 2, 1) := by decide +kernel
theorem dX5_wedge_106 : decode cX5_wedge 106 = .ok (.iastore, 1) := by decide +kernel
theorem dX5_wedge_107 : decode cX5_wedge 107 = .ok (.aload_n 0, 1) := by decide +kernel
theorem dX5_wedge_108 : decode cX5_wedge 108 = .ok (.getfield 47, 3) := by decide +kernel
theorem dX5_wedge_111 : decode cX5_wedge 111 = .ok (.aload_n 0, 1) := by decide +kernel
theorem dX5_wedge_112 : decode cX5_wedge 112 = .ok (.getfield 123, 3) := by decide +kernel
theorem dX5_wedge_115 : decode cX5_wedge 115 = .ok (.iload_n 3, 1) := by decide +kernel
theorem dX5_wedge_116 : decode cX5_wedge 116 = .ok (.iastore, 1) := by decide +kernel
theorem dX5_wedge_117 : decode cX5_wedge 117 = .ok (.aload_n 0, 1) := by decide +kernel
theorem dX5_wedge_118 : decode cX5_wedge 118 = .ok (.getfield 50, 3) := by decide +kernel
theorem dX5_wedge_121 : decode cX5_wedge 121 = .ok (.aload_n 0, 1) := by decide +kernel
theorem dX5_wedge_122 : decode cX5_wedge 122 = .ok (.getfield 123, 3) := by decide +kernel
theorem dX5_wedge_125 : decode cX5_wedge 125 = .ok (.iload 4, 2) := by decide +kernel
theorem dX5_wedge_127 : decode cX5_wedge 127 = .ok (.iastore, 1) := by decide +kernel
theorem dX5_wedge_128 : decode cX5_wedge 128 = .ok (.aload_n 0, 1) := by decide +kernel
theorem dX5_wedge_129 : decode cX5_wedge 129 = .ok (.getfield 53, 3) := by decide +kernel
theorem dX5_wedge_132 : decode cX5_wedge 132 = .ok (.aload_n 0, 1) := by decide +kernel
theorem dX5_wedge_133 : decode cX5_wedge 133 = .ok (.getfield 123, 3) := by decide +kernel
theorem dX5_wedge_136 : decode cX5_wedge 136 = .ok (.iload 5, 2) := by decide +kernel
theorem dX5_wedge_138 : decode cX5_wedge 138 = .ok (.iastore, 1) := by decide +kernel
theorem dX5_wedge_139 : decode cX5_wedge 139 = .ok (.aload_n 0, 1) := by decide +kernel
theorem dX5_wedge_140 : decode cX5_wedge 140 = .ok (.dup, 1) := by decide +kernel
theorem dX5_wedge_141 : decode cX5_wedge 141 = .ok (.getfield 123, 3) := by decide +kernel
theorem dX5_wedge_144 : decode cX5_wedge 144 = .ok (.iconst 1, 1) := by decide +kernel
theorem dX5_wedge_145 : decode cX5_wedge 145 = .ok (.iadd, 1) := by decide +kernel
theorem dX5_wedge_146 : decode cX5_wedge 146 = .ok (.putfield 123, 3) := by decide +kernel
theorem dX5_wedge_149 : decode cX5_wedge 149 = .ok (.aload_n 0, 1) := by decide +kernel
theorem dX5_wedge_150 : decode cX5_wedge 150 = .ok (.getfield 123, 3) := by decide +kernel
theorem dX5_wedge_153 : decode cX5_wedge 153 = .ok (.ireturn, 1) := by decide +kernel
theorem dX5_isBefore_0 : decode cX5_isBefore 0 = .ok (.aload_n 0, 1) := by decide +kernel
theorem dX5_isBefore_1 : decode cX5_isBefore 1 = .ok (.getfield 13, 3) := by decide +kernel
theorem dX5_isBefore_4 : decode cX5_isBefore 4 = .ok (.iload_n 1, 1) := by decide +kernel
theorem dX5_isBefore_5 : decode cX5_isBefore 5 = .ok (.iaload, 1) := by decide +kernel
theorem dX5_isBefore_6 : decode cX5_isBefore 6 = .ok (.aload_n 0, 1) := by decide +kernel
theorem dX5_isBefore_7 : decode cX5_isBefore 7 = .ok (.getfield 13, 3) := by decide +kernel
theorem dX5_isBefore_10 : decode cX5_isBefore 10 = .ok (.iload_n 2, 1) := by decide +kernel
theorem dX5_isBefore_11 : decode cX5_isBefore 11 = .ok (.iaload, 1) := by decide +kernel
theorem dX5_isBefore_12 : decode cX5_isBefore 12 = .ok (.if_icmp .lt 33, 3) := by decide +kernel
theorem dX5_isBefore_15 : decode cX5_isBefore 15 = .ok (.aload_n 0, 1) := by decide +kernel
theorem dX5_isBefore_16 : decode cX5_isBefore 16 = .ok (.getfield 13, 3) := by decide +kernel
theorem dX5_isBefore_19 : decode cX5_isBefore 19 = .ok (.iload_n 1, 1) := by decide +kernel
theorem dX5_isBefore_20 : decode cX5_isBefore 20 = .ok (.iaload, 1) := by decide +kernel
theorem dX5_isBefore_21 : decode cX5_isBefore 21 = .ok (.aload_n 0, 1) := by decide +kernel
theorem dX5_isBefore_22 : decode cX5_isBefore 22 = .ok (.getfield 13, 3) := by decide +kernel
theorem dX5_isBefore_25 : decode cX5_isBefore 25 = .ok (.iload_n 2, 1) := by decide +kernel
theorem dX5_isBefore_26 : decode cX5_isBefore 26 = .ok (.iaload, 1) := by decide +kernel
theorem dX5_isBefore_27 : decode cX5_isBefore 27 = .ok (.if_icmp .ne 22, 3) := by decide +kernel
theorem dX5_isBefore_30 : decode cX5_isBefore 30 = .ok (.aload_n 0, 1) := by decide +kernel
theorem dX5_isBefore_31 : decode cX5_isBefore 31 = .ok (.getfield 16, 3) := by decide +kernel
theorem dX5_isBefore_34 : decode cX5_isBefore 34 = .ok (.iload_n 1, 1) := by decide +kernel
theorem dX5_isBefore_35 : decode cX5_isBefore 35 = .ok (.iaload, 1) := by decide +kernel
theorem dX5_isBefore_36 : decode cX5_isBefore 36 = .ok (.aload_n 0, 1) := by decide +kernel
theorem dX5_isBefore_37 : decode cX5_isBefore 37 = .ok (.getfield 16, 3) := by decide +kernel
theorem dX5_isBefore_40 : decode cX5_isBefore 40 = .ok (.iload_n 2, 1) := by decide +kernel
theorem dX5_isBefore_41 : decode cX5_isBefore 41 = .ok (.iaload, 1) := by decide +kernel
theorem dX5_isBefore_42 : decode cX5_isBefore 42 = .ok (.if_icmp .ge 7, 3) := by decide +kernel
theorem dX5_isBefore_45 : decode cX5_isBefore 45 = .ok (.iconst 1, 1) := by decide +kernel
theorem dX5_isBefore_46 : decode cX5_isBefore 46 = .ok (.goto 4, 3) := by decide +kernel
theorem dX5_isBefore_49 : decode cX5_isBefore 49 = .ok (.iconst 0, 1) := by decide +kernel
theorem dX5_isBefore_50 : decode cX5_isBefore 50 = .ok (.ireturn, 1) := by decide +kernel
theorem dX5_mayBe_0 : decode cX5_mayBe 0 = .ok (.aload_n 0, 1) := by decide +kernel
theorem dX5_mayBe_1 : decode cX5_mayBe 1 = .ok (.iload_n 1, 1) := by decide +kernel
theorem dX5_mayBe_2 : decode cX5_mayBe 2 = .ok (.iload_n 2, 1) := by decide +kernel
theorem dX5_mayBe_3 : decode cX5_mayBe 3 = .ok (.invokevirtual 126, 3) := by decide +kernel
theorem dX5_mayBe_6 : decode cX5_mayBe 6 = .ok (.ifCond .eq 20, 3) := by decide +kernel
theorem dX5_mayBe_9 : decode cX5_mayBe 9 = .ok (.aload_n 0, 1) := by decide +kernel
theorem dX5_mayBe_10 : decode cX5_mayBe 10 = .ok (.getfield 13, 3) := by decide +kernel
theorem dX5_mayBe_13 : decode cX5_mayBe 13 = .ok (.iload_n 2, 1) := by decide +kernel
theorem dX5_mayBe_14 : decode cX5_mayBe 14 = .ok (.iaload, 1) := by decide +kernel
theorem dX5_mayBe_15 : decode cX5_mayBe 15 = .ok (.aload_n 0, 1) := by decide +kernel
theorem dX5_mayBe_16 : decode cX5_mayBe 16 = .ok (.getfield 13, 3) := by decide +kernel
theorem dX5_mayBe_19 : decode cX5_mayBe 19 = .ok (.iload_n 1, 1) := by decide +kernel
theorem dX5_mayBe_20 : decode cX5_mayBe 20 = .ok (.iaload, 1) := by decide +kernel
theorem dX5_mayBe_21 : decode cX5_mayBe 21 = .ok (.isub, 1) := by decide +kernel
theorem dX5_mayBe_22 : decode cX5_mayBe 22 = .ok (.iconst 1, 1) := by decide +kernel
theorem dX5_mayBe_23 : decode cX5_mayBe 23 = .ok (.if_icmp .le 5, 3) := by decide +kernel
theorem dX5_mayBe_26 : decode cX5_mayBe 26 = .ok (.iconst 0, 1) := by decide +kernel
theorem dX5_mayBe_27 : decode cX5_mayBe 27 = .ok (.ireturn, 1) := by decide +kernel
theorem dX5_mayBe_28 : decode cX5_mayBe 28 = .ok (.aload_n 0, 1) := by decide +kernel
theorem dX5_mayBe_29 : decode cX5_mayBe 29 = .ok (.getfield 13, 3) := by decide +kernel
theorem dX5_mayBe_32 : decode cX5_mayBe 32 = .ok (.iload_n 1, 1) := by decide +kernel
theorem dX5_mayBe_33 : decode cX5_mayBe 33 = .ok (.iaload, 1) := by decide +kernel
theorem dX5_mayBe_34 : decode cX5_mayBe 34 = .ok (.aload_n 0, 1) := by decide +kernel
theorem dX5_mayBe_35 : decode cX5_mayBe 35 = .ok (.getfield 13, 3) := by decide +kernel
theorem dX5_mayBe_38 : decode cX5_mayBe 38 = .ok (.iload_n 2, 1) := by decide +kernel
theorem dX5_mayBe_39 : decode cX5_mayBe 39 = .ok (.iaload, 1) := by decide +kernel
theorem dX5_mayBe_40 : decode cX5_mayBe 40 = .ok (.if_icmp .ne 27, 3) := by decide +kernel
theorem dX5_mayBe_43 : decode cX5_mayBe 43 = .ok (.aload_n 0, 1) := by decide +kernel
theorem dX5_mayBe_44 : decode cX5_mayBe 44 = .ok (.getfield 16, 3) := by decide +kernel
theorem dX5_mayBe_47 : decode cX5_mayBe 47 = .ok (.iload_n 2, 1) := by decide +kernel
theorem dX5_mayBe_48 : decode cX5_mayBe 48 = .ok (.iaload, 1) := by decide +kernel
theorem dX5_mayBe_49 : decode cX5_mayBe 49 = .ok (.aload_n 0, 1) := by decide +kernel
theorem dX5_mayBe_50 : decode cX5_mayBe 50 = .ok (.getfield 16, 3) := by decide +kernel
theorem dX5_mayBe_53 : decode cX5_mayBe 53 = .ok (.iload_n 1, 1) := by decide +kernel
theorem dX5_mayBe_54 : decode cX5_mayBe 54 = .ok (.iaload, 1) := by decide +kernel
theorem dX5_mayBe_55 : decode cX5_mayBe 55 = .ok (.isub, 1) := by decide +kernel
theorem dX5_mayBe_56 : decode cX5_mayBe 56 = .ok (.bipush 12, 2) := by decide +kernel
theorem dX5_mayBe_58 : decode cX5_mayBe 58 = .ok (.if_icmp .lt 7, 3) := by decide +kernel
theorem dX5_mayBe_61 : decode cX5_mayBe 61 = .ok (.iconst 1, 1) := by decide +kernel
theorem dX5_mayBe_62 : decode cX5_mayBe 62 = .ok (.goto 4, 3) := by decide +kernel
theorem dX5_mayBe_65 : decode cX5_mayBe 65 = .ok (.iconst 0, 1) := by decide +kernel
theorem dX5_mayBe_66 : decode cX5_mayBe 66 = .ok (.ireturn, 1) := by decide +kernel
theorem dX5_mayBe_67 : decode cX5_mayBe 67 = .ok (.aload_n 0, 1) := by decide +kernel
theorem dX5_mayBe_68 : decode cX5_mayBe 68 = .ok (.getfield 7, 3) := by decide +kernel
theorem dX5_mayBe_71 : decode cX5_mayBe 71 = .ok (.aload_n 0, 1) := by decide +kernel
theorem dX5_mayBe_72 : decode cX5_mayBe 72 = .ok (.getfield 13, 3) := by decide +kernel
theorem dX5_mayBe_75 : decode cX5_mayBe 75 = .ok (.iload_n 1, 1) := by decide +kernel
theorem dX5_mayBe_76 : decode cX5_mayBe 76 = .ok (.iaload, 1) := by decide +kernel
theorem dX5_mayBe_77 : decode cX5_mayBe 77 = .ok (.iaload, 1) := by decide +kernel
theorem dX5_mayBe_78 : decode cX5_mayBe 78 = .ok (.aload_n 0, 1) := by decide +kernel
theorem dX5_mayBe_79 : decode cX5_mayBe 79 = .ok (.getfield 16, 3) := by decide +kernel
theorem dX5_mayBe_82 : decode cX5_mayBe 82 = .ok (.iload_n 1, 1) := by decide +kernel
theorem dX5_mayBe_83 : decode cX5_mayBe 83 = .ok (.iaload, 1) := by decide +kernel
theorem dX5_mayBe_84 : decode cX5_mayBe 84 = .ok (.isub, 1) := by decide +kernel
theorem dX5_mayBe_85 : decode cX5_mayBe 85 = .ok (.bipush 12, 2) := by decide +kernel
theorem dX5_mayBe_87 : decode cX5_mayBe 87 = .ok (.if_icmp .lt 18, 3) := by decide +kernel
theorem dX5_mayBe_90 : decode cX5_mayBe 90 = .ok (.aload_n 0, 1) := by decide +kernel
theorem dX5_mayBe_91 : decode cX5_mayBe 91 = .ok (.getfield 16, 3) := by decide +kernel
theorem dX5_mayBe_94 : decode cX5_mayBe 94 = .ok (.iload_n 2, 1) := by decide +kernel
theorem dX5_mayBe_95 : decode cX5_mayBe 95 = .ok (.iaload, 1) := by decide +kernel
theorem dX5_mayBe_96 : decode cX5_mayBe 96 = .ok (.bipush 12, 2) := by decide +kernel
theorem dX5_mayBe_98 : decode cX5_mayBe 98 = .ok (.if_icmp .lt 7, 3) := by decide +kernel
theorem dX5_mayBe_101 : decode cX5_mayBe 101 = .ok (.iconst 1, 1) := by decide +kernel
theorem dX5_mayBe_102 : decode cX5_mayBe 102 = .ok (.goto 4, 3) := by decide +kernel
theorem dX5_mayBe_105 : decode cX5_mayBe 105 = .ok (.iconst 0, 1) := by decide +kernel
theorem dX5_mayBe_106 : decode cX5_mayBe 106 = .ok (.ireturn, 1) := by decide +kernel
theorem dX5_comes_0 : decode cX5_comes 0 = .ok (.aload_n 0, 1) := by decide +kernel
theorem dX5_comes_1 : decode cX5_comes 1 = .ok (.iload_n 1, 1) := by decide +kernel
theorem dX5_comes_2 : decode cX5_comes 2 = .ok (.invokevirtual 130, 3) := by decide +kernel
theorem dX5_comes_5 : decode cX5_comes 5 = .ok (.ifCond .eq 11, 3) := by decide +kernel
theorem dX5_comes_8 : decode cX5_comes 8 = .ok (.aload_n 0, 1) := by decide +kernel
theorem dX5_comes_9 : decode cX5_comes 9 = .ok (.iload_n 2, 1) := by decide +kernel
theorem dX5_comes_10 : decode cX5_comes 10 = .ok (.invokevirtual 130, 3) := by decide +kernel
theorem dX5_comes_13 : decode cX5_comes 13 = .ok (.ifCond .ne 7, 3) := by decide +kernel
theorem dX5_comes_16 : decode cX5_comes 16 = .ok (.sipush (-9001), 3) := by decide +kernel
theorem dX5_comes_19 : decode cX5_comes 19 = .ok (.ireturn, 1) := by decide +kernel
theorem dX5_comes_20 : decode cX5_comes 20 = .ok (.aload_n 0, 1) := by decide +kernel
theorem dX5_comes_21 : decode cX5_comes 21 = .ok (.iload_n 1, 1) := by decide +kernel
theorem dX5_comes_22 : decode cX5_comes 22 = .ok (.iload_n 2, 1) := by decide +kernel
theorem dX5_comes_23 : decode cX5_comes 23 = .ok (.invokevirtual 133, 3) := by decide +kernel
theorem dX5_comes_26 : decode cX5_comes 26 = .ok (.ifCond .eq 22, 3) := by decide +kernel
theorem dX5_comes_29 : decode cX5_comes 29 = .ok (.iload_n 3, 1) := by decide +kernel
theorem dX5_comes_30 : decode cX5_comes 30 = .ok (.ifCond .eq 22, 3) := by decide +kernel
theorem dX5_comes_33 : decode cX5_comes 33 = .ok (.aload_n 0, 1) := by decide +kernel
theorem dX5_comes_34 : decode cX5_comes 34 = .ok (.getfield 19, 3) := by decide +kernel
theorem dX5_comes_37 : decode cX5_comes 37 = .ok (.iload_n 1, 1) := by decide +kernel
theorem dX5_comes_38 : decode cX5_comes 38 = .ok (.iaload, 1) := by decide +kernel
theorem dX5_comes_39 : decode cX5_comes 39 = .ok (.aload_n 0, 1) := by decide +kernel
theorem dX5_comes_40 : decode cX5_comes 40 = .ok (.getfield 19, 3) := by decide +kernel
theorem dX5_comes_43 : decode cX5_comes 43 = .ok (.iload_n 2, 1) := by decide +kernel
theorem dX5_comes_44 : decode cX5_comes 44 = .ok (.iaload, 1) := by decide +kernel
theorem dX5_comes_45 : decode cX5_comes 45 = .ok (.if_icmp .eq 7, 3) := by decide +kernel
theorem dX5_comes_48 : decode cX5_comes 48 = .ok (.sipush (-9003), 3) := by decide +kernel
theorem dX5_comes_51 : decode cX5_comes 51 = .ok (.ireturn, 1) := by decide +kernel
theorem dX5_comes_52 : decode cX5_comes 52 = .ok (.aload_n 0, 1) := by decide +kernel
theorem dX5_comes_53 : decode cX5_comes 53 = .ok (.getfield 136, 3) := by decide +kernel
theorem dX5_comes_56 : decode cX5_comes 56 = .ok (.bipush 40, 2) := by decide +kernel
theorem dX5_comes_58 : decode cX5_comes 58 = .ok (.if_icmp .ne 7, 3) := by decide +kernel
theorem dX5_comes_61 : decode cX5_comes 61 = .ok (.sipush (-9004), 3) := by decide +kernel
theorem dX5_comes_64 : decode cX5_comes 64 = .ok (.ireturn, 1) := by decide +kernel
theorem dX5_comes_65 : decode cX5_comes 65 = .ok (.aload_n 0, 1) := by decide +kernel
theorem dX5_comes_66 : decode cX5_comes 66 = .ok (.getfield 136, 3) := by decide +kernel
theorem dX5_comes_69 : decode cX5_comes 69 = .ok (.istore 4, 2) := by decide +kernel
theorem dX5_comes_71 : decode cX5_comes 71 = .ok (.aload_n 0, 1) := by decide +kernel
theorem dX5_comes_72 : decode cX5_comes 72 = .ok (.getfield 56, 3) := by decide +kernel
theorem dX5_comes_75 : decode cX5_comes 75 = .ok (.iload 4, 2) := by decide +kernel
theorem dX5_comes_77 : decode cX5_comes 77 = .ok (.iload_n 1, 1) := by decide +kernel
theorem dX5_comes_78 : decode cX5_comes 78 = .ok (.iastore, 1) := by decide +kernel
theorem dX5_comes_79 : decode cX5_comes 79 = .ok (.aload_n 0, 1) := by decide +kernel
theorem dX5_comes_80 : decode cX5_comes 80 = .ok (.getfield 59, 3) := by decide +kernel
theorem dX5_comes_83 : decode cX5_comes 83 = .ok (.iload 4, 2) := by decide +kernel
theorem dX5_comes_85 : decode cX5_comes 85 = .ok (.iload_n 2, 1) := by decide +kernel
theorem dX5_comes_86 : decode cX5_comes 86 = .ok (.iastore, 1) := by decide +kernel
theorem dX5_comes_87 : decode cX5_comes 87 = .ok (.aload_n 0, 1) := by decide +kernel
theorem dX5_comes_88 : decode cX5_comes 88 = .ok (.getfield 62, 3) := by decide +kernel
theorem dX5_comes_91 : decode cX5_comes 91 = .ok (.iload 4, 2) := by decide +kernel
theorem dX5_comes_93 : decode cX5_comes 93 = .ok (.iload_n 3, 1) := by decide +kernel
theorem dX5_comes_94 : decode cX5_comes 94 = .ok (.bastore, 1) := by decide +kernel
theorem dX5_comes_95 : decode cX5_comes 95 = .ok (.aload_n 0, 1) := by decide +kernel
theorem dX5_comes_96 : decode cX5_comes 96 = .ok (.dup, 1) := by decide +kernel
theorem dX5_comes_97 : decode cX5_comes 97 = .ok (.getfield 136, 3) := by decide +kernel
theorem dX5_comes_100 : decode cX5_comes 100 = .ok (.iconst 1, 1) := by decide +kernel
theorem dX5_comes_101 : decode cX5_comes 101 = .ok (.iadd, 1) := by decide +kernel
theorem dX5_comes_102 : decode cX5_comes 102 = .ok (.putfield 136, 3) := by decide +kernel
theorem dX5_comes_105 : decode cX5_comes 105 = .ok (.aload_n 0, 1) := by decide +kernel
theorem dX5_comes_106 : decode cX5_comes 106 = .ok (.iload 4, 2) := by decide +kernel
theorem dX5_comes_108 : decode cX5_comes 108 = .ok (.invokevirtual 139, 3) := by decide +kernel
theorem dX5_comes_111 : decode cX5_comes 111 = .ok (.iconst 0, 1) := by decide +kernel
theorem dX5_comes_112 : decode cX5_comes 112 = .ok (.istore 5, 2) := by decide +kernel
theorem dX5_comes_114 : decode cX5_comes 114 = .ok (.iload 5, 2) := by decide +kernel
theorem dX5_comes_116 : decode cX5_comes 116 = .ok (.aload_n 0, 1) := by decide +kernel
theorem dX5_comes_117 : decode cX5_comes 117 = .ok (.getfield 68, 3) := by decide +kernel
theorem dX5_comes_120 : decode cX5_comes 120 = .ok (.iload 4, 2) := by decide +kernel
theorem dX5_comes_122 : decode cX5_comes 122 = .ok (.iaload, 1) := by decide +kernel
theorem dX5_comes_123 : decode cX5_comes 123 = .ok (.if_icmp .ge 17, 3) := by decide +kernel
theorem dX5_comes_126 : decode cX5_comes 126 = .ok (.aload_n 0, 1) := by decide +kernel
theorem dX5_comes_127 : decode cX5_comes 127 = .ok (.iload 4, 2) := by decide +kernel
theorem dX5_comes_129 : decode cX5_comes 129 = .ok (.iload 5, 2) := by decide +kernel
theorem dX5_comes_131 : decode cX5_comes 131 = .ok (.invokevirtual 143, 3) := by decide +kernel
theorem dX5_comes_134 : decode cX5_comes 134 = .ok (.iinc 5 1, 3) := by decide +kernel
theorem dX5_comes_137 : decode cX5_comes 137 = .ok (.goto (-23), 3) := by decide +kernel
theorem dX5_comes_140 : decode cX5_comes 140 = .ok (.iload 4, 2) := by decide +kernel
theorem dX5_comes_142 : decode cX5_comes 142 = .ok (.ireturn, 1) := by decide +kernel
theorem dX5_tie_0 : decode cX5_tie 0 = .ok (.aload_n 0, 1) := by decide +kernel
theorem dX5_tie_1 : decode cX5_tie 1 = .ok (.iload_n 1, 1) := by decide +kernel
theorem dX5_tie_2 : decode cX5_tie 2 = .ok (.iload_n 2, 1) := by decide +kernel
theorem dX5_tie_3 : decode cX5_tie 3 = .ok (.iconst 1, 1) := by decide +kernel
theorem dX5_tie_4 : decode cX5_tie 4 = .ok (.invokevirtual 147, 3) := by decide +kernel
theorem dX5_tie_7 : decode cX5_tie 7 = .ok (.ireturn, 1) := by decide +kernel
theorem dX5_slur_0 : decode cX5_slur 0 = .ok (.aload_n 0, 1) := by decide +kernel
theorem dX5_slur_1 : decode cX5_slur 1 = .ok (.iload_n 1, 1) := by decide +kernel
theorem dX5_slur_2 : decode cX5_slur 2 = .ok (.iload_n 2, 1) := by decide +kernel
theorem dX5_slur_3 : decode cX5_slur 3 = .ok (.iconst 0, 1) := by decide +kernel
theorem dX5_slur_4 : decode cX5_slur 4 = .ok (.invokevirtual 147, 3) := by decide +kernel
theorem dX5_slur_7 : decode cX5_slur 7 = .ok (.ireturn, 1) := by decide +kernel
theorem dX5_sideOfTie_0 : decode cX5_sideOfTie 0 = .ok (.iconst 0, 1) := by decide +kernel
theorem dX5_sideOfTie_1 : decode cX5_sideOfTie 1 = .ok (.istore_n 2, 1) := by decide +kernel
theorem dX5_sideOfTie_2 : decode cX5_sideOfTie 2 = .ok (.iconst 0, 1) := by decide +kernel
theorem dX5_sideOfTie_3 : decode cX5_sideOfTie 3 = .ok (.istore_n 3, 1) := by decide +kernel
theorem dX5_sideOfTie_4 : decode cX5_sideOfTie 4 = .ok (.iconst 0, 1) := by decide +kernel
theorem dX5_sideOfTie_5 : decode cX5_sideOfTie 5 = .ok (.istore 4, 2) := by decide +kernel
theorem dX5_sideOfTie_7 : decode cX5_sideOfTie 7 = .ok (.iload 4, 2) := by decide +kernel
theorem dX5_sideOfTie_9 : decode cX5_sideOfTie 9 = .ok (.aload_n 0, 1) := by decide +kernel
theorem dX5_sideOfTie_10 : decode cX5_sideOfTie 10 = .ok (.getfield 113, 3) := by decide +kernel
theorem dX5_sideOfTie_13 : decode cX5_sideOfTie 13 = .ok (.if_icmp .ge 89, 3) := by decide +kernel
theorem dX5_sideOfTie_16 : decode cX5_sideOfTie 16 = .ok (.aload_n 0, 1) := by decide +kernel
theorem dX5_sideOfTie_17 : decode cX5_sideOfTie 17 = .ok (.getfield 13, 3) := by decide +kernel
theorem dX5_sideOfTie_20 : decode cX5_sideOfTie 20 = .ok (.iload 4, 2) := by decide +kernel
theorem dX5_sideOfTie_22 : decode cX5_sideOfTie 22 = .ok (.iaload, 1) := by decide +kernel
theorem dX5_sideOfTie_23 : decode cX5_sideOfTie 23 = .ok (.aload_n 0, 1) := by decide +kernel
theorem dX5_sideOfTie_24 : decode cX5_sideOfTie 24 = .ok (.getfield 13, 3) := by decide +kernel
theorem dX5_sideOfTie_27 : decode cX5_sideOfTie 27 = .ok (.iload_n 1, 1) := by decide +kernel
theorem dX5_sideOfTie_28 : decode cX5_sideOfTie 28 = .ok (.iaload, 1) := by decide +kernel
theorem dX5_sideOfTie_29 : decode cX5_sideOfTie 29 = .ok (.if_icmp .ne 67, 3) := by decide +kernel
theorem dX5_sideOfTie_32 : decode cX5_sideOfTie 32 = .ok (.aload_n 0, 1) := by decide +kernel
theorem dX5_sideOfTie_33 : decode cX5_sideOfTie 33 = .ok (.getfield 16, 3) := by decide +kernel
theorem dX5_sideOfTie_36 : decode cX5_sideOfTie 36 = .ok (.iload 4, 2) := by decide +kernel
theorem dX5_sideOfTie_38 : decode cX5_sideOfTie 38 = .ok (.iaload, 1) := by decide +kernel
theorem dX5_sideOfTie_39 : decode cX5_sideOfTie 39 = .ok (.aload_n 0, 1) := by decide +kernel
theorem dX5_sideOfTie_40 : decode cX5_sideOfTie 40 = .ok (.getfield 16, 3) := by decide +kernel
theorem dX5_sideOfTie_43 : decode cX5_sideOfTie 43 = .ok (.iload_n 1, 1) := by decide +kernel
theorem dX5_sideOfTie_44 : decode cX5_sideOfTie 44 = .ok (.iaload, 1) := by decide +kernel
theorem dX5_sideOfTie_45 : decode cX5_sideOfTie 45 = .ok (.if_icmp .ne 51, 3) := by decide +kernel
theorem dX5_sideOfTie_48 : decode cX5_sideOfTie 48 = .ok (.iload_n 2, 1) := by decide +kernel
theorem dX5_sideOfTie_49 : decode cX5_sideOfTie 49 = .ok (.aload_n 0, 1) := by decide +kernel
theorem dX5_sideOfTie_50 : decode cX5_sideOfTie 50 = .ok (.getfield 19, 3) := by decide +kernel
theorem dX5_sideOfTie_53 : decode cX5_sideOfTie 53 = .ok (.iload 4, 2) := by decide +kernel
theorem dX5_sideOfTie_55 : decode cX5_sideOfTie 55 = .ok (.iaload, 1) := by decide +kernel
theorem dX5_sideOfTie_56 : decode cX5_sideOfTie 56 = .ok (.aload_n 0, 1) := by decide +kernel
theorem dX5_sideOfTie_57 : decode cX5_sideOfTie 57 = .ok (.getfield 19, 3) := by decide +kernel
theorem dX5_sideOfTie_60 : decode cX5_sideOfTie 60 = .ok (.iload_n 1, 1) := by decide +kernel
theorem dX5_sideOfTie_61 : decode cX5_sideOfTie 61 = .ok (.iaload, 1) := by decide +kernel
theorem dX5_sideOfTie_62 : decode cX5_sideOfTie 62 = .ok (.if_icmp .le 7, 3) := by decide +kernel
theorem dX5_sideOfTie_65 : decode cX5_sideOfTie 65 = .ok (.iconst 1, 1) := by decide +kernel
theorem dX5_sideOfTie_66 : decode cX5_sideOfTie 66 = .ok (.goto 4, 3) := by decide +kernel
theorem dX5_sideOfTie_69 : decode cX5_sideOfTie 69 = .ok (.iconst 0, 1) := by decide +kernel
theorem dX5_sideOfTie_70 : decode cX5_sideOfTie 70 = .ok (.iadd, 1) := by decide +kernel
theorem dX5_sideOfTie_71 : decode cX5_sideOfTie 71 = .ok (.istore_n 2, 1) := by decide +kernel
theorem dX5_sideOfTie_72 : decode cX5_sideOfTie 72 = .ok (.iload_n 3, 1) := by decide +kernel
theorem dX5_sideOfTie_73 : decode cX5_sideOfTie 73 = .ok (.aload_n 0, 1) := by decide +kernel
theorem dX5_sideOfTie_74 : decode cX5_sideOfTie 74 = .ok (.getfield 19, 3) := by decide +kernel
theorem dX5_sideOfTie_77 : decode cX5_sideOfTie 77 = .ok (.iload 4, 2) := by decide +kernel
theorem dX5_sideOfTie_79 : decode cX5_sideOfTie 79 = .ok (.iaload, 1) := by decide +kernel
theorem dX5_sideOfTie_80 : decode cX5_sideOfTie 80 = .ok (.aload_n 0, 1) := by decide +kernel
theorem dX5_sideOfTie_81 : decode cX5_sideOfTie 81 = .ok (.getfield 19, 3) := by decide +kernel
theorem dX5_sideOfTie_84 : decode cX5_sideOfTie 84 = .ok (.iload_n 1, 1) := by decide +kernel
theorem dX5_sideOfTie_85 : decode cX5_sideOfTie 85 = .ok (.iaload, 1) := by decide +kernel
theorem dX5_sideOfTie_86 : decode cX5_sideOfTie 86 = .ok (.if_icmp .ge 7, 3) := by decide +kernel
theorem dX5_sideOfTie_89 : decode cX5_sideOfTie 89 = .ok (.iconst 1, 1) := by decide +kernel
theorem dX5_sideOfTie_90 : decode cX5_sideOfTie 90 = .ok (.goto 4, 3) := by decide +kernel
theorem dX5_sideOfTie_93 : decode cX5_sideOfTie 93 = .ok (.iconst 0, 1) := by decide +kernel
theorem dX5_sideOfTie_94 : decode cX5_sideOfTie 94 = .ok (.iadd, 1) := by decide +kernel
theorem dX5_sideOfTie_95 : decode cX5_sideOfTie 95 = .ok (.istore_n 3, 1) := by decide +kernel
theorem dX5_sideOfTie_96 : decode cX5_sideOfTie 96 = .ok (.iinc 4 1, 3) := by decide +kernel
theorem dX5_sideOfTie_99 : decode cX5_sideOfTie 99 = .ok (.goto (-92), 3) := by decide +kernel
theorem dX5_sideOfTie_102 : decode cX5_sideOfTie 102 = .ok (.iload_n 2, 1) := by decide +kernel
theorem dX5_sideOfTie_103 : decode cX5_sideOfTie 103 = .ok (.iload_n 3, 1) := by decide +kernel
theorem dX5_sideOfTie_104 : decode cX5_sideOfTie 104 = .ok (.if_icmp .ge 7, 3) := by decide +kernel
theorem dX5_sideOfTie_107 : decode cX5_sideOfTie 107 = .ok (.iconst 1, 1) := by decide +kernel
theorem dX5_sideOfTie_108 : decode cX5_sideOfTie 108 = .ok (.goto 26, 3) := by decide +kernel
theorem dX5_sideOfTie_111 : decode cX5_sideOfTie 111 = .ok (.iload_n 2, 1) := by decide +kernel
theorem dX5_sideOfTie_112 : decode cX5_sideOfTie 112 = .ok (.iload_n 3, 1) := by decide +kernel
theorem dX5_sideOfTie_113 : decode cX5_sideOfTie 113 = .ok (.if_icmp .le 7, 3) := by decide +kernel
theorem dX5_sideOfTie_116 : decode cX5_sideOfTie 116 = .ok (.iconst (-1), 1) := by decide +kernel
theorem dX5_sideOfTie_117 : decode cX5_sideOfTie 117 = .ok (.goto 17, 3) := by decide +kernel
theorem dX5_sideOfTie_120 : decode cX5_sideOfTie 120 = .ok (.aload_n 0, 1) := by decide +kernel
theorem dX5_sideOfTie_121 : decode cX5_sideOfTie 121 = .ok (.getfield 22, 3) := by decide +kernel
theorem dX5_sideOfTie_124 : decode cX5_sideOfTie 124 = .ok (.iload_n 1, 1) := by decide +kernel
theorem dX5_sideOfTie_125 : decode cX5_sideOfTie 125 = .ok (.baload, 1) := by decide +kernel
theorem dX5_sideOfTie_126 : decode cX5_sideOfTie 126 = .ok (.ifCond .eq 7, 3) := by decide +kernel
theorem dX5_sideOfTie_129 : decode cX5_sideOfTie 129 = .ok (.iconst (-1), 1) := by decide +kernel
theorem dX5_sideOfTie_130 : decode cX5_sideOfTie 130 = .ok (.goto 4, 3) := by decide +kernel
theorem dX5_sideOfTie_133 : decode cX5_sideOfTie 133 = .ok (.iconst 1, 1) := by decide +kernel
theorem dX5_sideOfTie_134 : decode cX5_sideOfTie 134 = .ok (.ireturn, 1) := by decide +kernel
theorem dX5_sideOfSlur_0 : decode cX5_sideOfSlur 0 = .ok (.iconst 0, 1) := by decide +kernel
theorem dX5_sideOfSlur_1 : decode cX5_sideOfSlur 1 = .ok (.istore_n 3, 1) := by decide +kernel
theorem dX5_sideOfSlur_2 : decode cX5_sideOfSlur 2 = .ok (.iconst 0, 1) := by decide +kernel
theorem dX5_sideOfSlur_3 : decode cX5_sideOfSlur 3 = .ok (.istore 4, 2) := by decide +kernel
theorem dX5_sideOfSlur_5 : decode cX5_sideOfSlur 5 = .ok (.iload 4, 2) := by decide +kernel
theorem dX5_sideOfSlur_7 : decode cX5_sideOfSlur 7 = .ok (.aload_n 0, 1) := by decide +kernel
theorem dX5_sideOfSlur_8 : decode cX5_sideOfSlur 8 = .ok (.getfield 113, 3) := by decide +kernel
theorem dX5_sideOfSlur_11 : decode cX5_sideOfSlur 11 = .ok (.if_icmp .ge 73, 3) := by decide +kernel
theorem dX5_sideOfSlur_14 : decode cX5_sideOfSlur 14 = .ok (.iload 4, 2) := by decide +kernel
theorem dX5_sideOfSlur_16 : decode cX5_sideOfSlur 16 = .ok (.iload_n 1, 1) := by decide +kernel
theorem dX5_sideOfSlur_17 : decode cX5_sideOfSlur 17 = .ok (.if_icmp .eq 29, 3) := by decide +kernel
theorem dX5_sideOfSlur_20 : decode cX5_sideOfSlur 20 = .ok (.iload 4, 2) := by decide +kernel
theorem dX5_sideOfSlur_22 : decode cX5_sideOfSlur 22 = .ok (.iload_n 2, 1) := by decide +kernel
theorem dX5_sideOfSlur_23 : decode cX5_sideOfSlur 23 = .ok (.if_icmp .eq 23, 3) := by decide +kernel
theorem dX5_sideOfSlur_26 : decode cX5_sideOfSlur 26 = .ok (.aload_n 0, 1) := by decide +kernel
theorem dX5_sideOfSlur_27 : decode cX5_sideOfSlur 27 = .ok (.iload_n 1, 1) := by decide +kernel
theorem dX5_sideOfSlur_28 : decode cX5_sideOfSlur 28 = .ok (.iload 4, 2) := by decide +kernel
theorem dX5_sideOfSlur_30 : decode cX5_sideOfSlur 30 = .ok (.invokevirtual 126, 3) := by decide +kernel
theorem dX5_sideOfSlur_33 : decode cX5_sideOfSlur 33 = .ok (.ifCond .eq 17, 3) := by decide +kernel
theorem dX5_sideOfSlur_36 : decode cX5_sideOfSlur 36 = .ok (.aload_n 0, 1) := by decide +kernel
theorem dX5_sideOfSlur_37 : decode cX5_sideOfSlur 37 = .ok (.iload 4, 2) := by decide +kernel
theorem dX5_sideOfSlur_39 : decode cX5_sideOfSlur 39 = .ok (.iload_n 2, 1) := by decide +kernel
theorem dX5_sideOfSlur_40 : decode cX5_sideOfSlur 40 = .ok (.invokevirtual 126, 3) := by decide +kernel
theorem dX5_sideOfSlur_43 : decode cX5_sideOfSlur 43 = .ok (.ifCond .eq 7, 3) := by decide +kernel
theorem dX5_sideOfSlur_46 : decode cX5_sideOfSlur 46 = .ok (.iconst 1, 1) := by decide +kernel
theorem dX5_sideOfSlur_47 : decode cX5_sideOfSlur 47 = .ok (.goto 4, 3) := by decide +kernel
theorem dX5_sideOfSlur_50 : decode cX5_sideOfSlur 50 = .ok (.iconst 0, 1) := by decide +kernel
theorem dX5_sideOfSlur_51 : decode cX5_sideOfSlur 51 = .ok (.istore 5, 2) := by decide +kernel
theorem dX5_sideOfSlur_53 : decode cX5_sideOfSlur 53 = .ok (.iload_n 3, 1) := by decide +kernel
theorem dX5_sideOfSlur_54 : decode cX5_sideOfSlur 54 = .ok (.ifCond .ne 18, 3) := by decide +kernel
theorem dX5_sideOfSlur_57 : decode cX5_sideOfSlur 57 = .ok (.iload 5, 2) := by decide +kernel
theorem dX5_sideOfSlur_59 : decode cX5_sideOfSlur 59 = .ok (.ifCond .eq 17, 3) := by decide +kernel
theorem dX5_sideOfSlur_62 : decode cX5_sideOfSlur 62 = .ok (.aload_n 0, 1) := by decide +kernel
theorem dX5_sideOfSlur_63 : decode cX5_sideOfSlur 63 = .ok (.getfield 22, 3) := by decide +kernel
theorem dX5_sideOfSlur_66 : decode cX5_sideOfSlur 66 = .ok (.iload 4, 2) := by decide +kernel
theorem dX5_sideOfSlur_68 : decode cX5_sideOfSlur 68 = .ok (.baload, 1) := by decide +kernel
theorem dX5_sideOfSlur_69 : decode cX5_sideOfSlur 69 = .ok (.ifCond .ne 7, 3) := by decide +kernel
theorem dX5_sideOfSlur_72 : decode cX5_sideOfSlur 72 = .ok (.iconst 1, 1) := by decide +kernel
theorem dX5_sideOfSlur_73 : decode cX5_sideOfSlur 73 = .ok (.goto 4, 3) := by decide +kernel
theorem dX5_sideOfSlur_76 : decode cX5_sideOfSlur 76 = .ok (.iconst 0, 1) := by decide +kernel
theorem dX5_sideOfSlur_77 : decode cX5_sideOfSlur 77 = .ok (.istore_n 3, 1) := by decide +kernel
theorem dX5_sideOfSlur_78 : decode cX5_sideOfSlur 78 = .ok (.iinc 4 1, 3) := by decide +kernel
theorem dX5_sideOfSlur_81 : decode cX5_sideOfSlur 81 = .ok (.goto (-76), 3) := by decide +kernel
theorem dX5_sideOfSlur_84 : decode cX5_sideOfSlur 84 = .ok (.iload_n 3, 1) := by decide +kernel
theorem dX5_sideOfSlur_85 : decode cX5_sideOfSlur 85 = .ok (.ifCond .eq 7, 3) := by decide +kernel
theorem dX5_sideOfSlur_88 : decode cX5_sideOfSlur 88 = .ok (.iconst 1, 1) := by decide +kernel
theorem dX5_sideOfSlur_89 : decode cX5_sideOfSlur 89 = .ok (.goto 4, 3) := by decide +kernel
theorem dX5_sideOfSlur_92 : decode cX5_sideOfSlur 92 = .ok (.iconst (-1), 1) := by decide +kernel
theorem dX5_sideOfSlur_93 : decode cX5_sideOfSlur 93 = .ok (.ireturn, 1) := by decide +kernel
theorem dX5_layOut_0 : decode cX5_layOut 0 = .ok (.aload_n 0, 1) := by decide +kernel
theorem dX5_layOut_1 : decode cX5_layOut 1 = .ok (.getfield 56, 3) := by decide +kernel
theorem dX5_layOut_4 : decode cX5_layOut 4 = .ok (.iload_n 1, 1) := by decide +kernel
theorem dX5_layOut_5 : decode cX5_layOut 5 = .ok (.iaload, 1) := by decide +kernel
theorem dX5_layOut_6 : decode cX5_layOut 6 = .ok (.istore_n 2, 1) := by decide +kernel
theorem dX5_layOut_7 : decode cX5_layOut 7 = .ok (.aload_n 0, 1) := by decide +kernel
theorem dX5_layOut_8 : decode cX5_layOut 8 = .ok (.getfield 59, 3) := by decide +kernel
theorem dX5_layOut_11 : decode cX5_layOut 11 = .ok (.iload_n 1, 1) := by decide +kernel
theorem dX5_layOut_12 : decode cX5_layOut 12 = .ok (.iaload, 1) := by decide +kernel
theorem dX5_layOut_13 : decode cX5_layOut 13 = .ok (.istore_n 3, 1) := by decide +kernel
theorem dX5_layOut_14 : decode cX5_layOut 14 = .ok (.aload_n 0, 1) := by decide +kernel
theorem dX5_layOut_15 : decode cX5_layOut 15 = .ok (.getfield 65, 3) := by decide +kernel
theorem dX5_layOut_18 : decode cX5_layOut 18 = .ok (.iload_n 1, 1) := by decide +kernel
theorem dX5_layOut_19 : decode cX5_layOut 19 = .ok (.aload_n 0, 1) := by decide +kernel
theorem dX5_layOut_20 : decode cX5_layOut 20 = .ok (.getfield 62, 3) := by decide +kernel
theorem dX5_layOut_23 : decode cX5_layOut 23 = .ok (.iload_n 1, 1) := by decide +kernel
theorem dX5_layOut_24 : decode cX5_layOut 24 = .ok (.baload, 1) := by decide +kernel
theorem dX5_layOut_25 : decode cX5_layOut 25 = .ok (.ifCond .eq 11, 3) := by decide +kernel
theorem dX5_layOut_28 : decode cX5_layOut 28 = .ok (.aload_n 0, 1) := by decide +kernel
theorem dX5_layOut_29 : decode cX5_layOut 29 = .ok (.iload_n 2, 1) := by decide +kernel
theorem dX5_layOut_30 : decode cX5_layOut 30 = .ok (.invokevirtual 151, 3) := by decide +kernel
theorem dX5_layOut_33 : decode cX5_layOut 33 = .ok (.goto 9, 3) := by decide +kernel
theorem dX5_layOut_36 : decode cX5_layOut 36 = .ok (.aload_n 0, 1) := by decide +kernel
theorem dX5_layOut_37 : decode cX5_layOut 37 = .ok (.iload_n 2, 1) := by decide +kernel
theorem dX5_layOut_38 : decode cX5_layOut 38 = .ok (.iload_n 3, 1) := by decide +kernel
theorem dX5_layOut_39 : decode cX5_layOut 39 = .ok (.invokevirtual 155, 3) := by decide +kernel
theorem dX5_layOut_42 : decode cX5_layOut 42 = .ok (.iastore, 1) := by decide +kernel
theorem dX5_layOut_43 : decode cX5_layOut 43 = .ok (.aload_n 0, 1) := by decide +kernel
theorem dX5_layOut_44 : decode cX5_layOut 44 = .ok (.getfield 16, 3) := by decide +kernel
theorem dX5_layOut_47 : decode cX5_layOut 47 = .ok (.iload_n 2, 1) := by decide +kernel
theorem dX5_layOut_48 : decode cX5_layOut 48 = .ok (.iaload, 1) := by decide +kernel
theorem dX5_layOut_49 : decode cX5_layOut 49 = .ok (.aload_n 0, 1) := by decide +kernel
theorem dX5_layOut_50 : decode cX5_layOut 50 = .ok (.getfield 62, 3) := by decide +kernel
theorem dX5_layOut_53 : decode cX5_layOut 53 = .ok (.iload_n 1, 1) := by decide +kernel
theorem dX5_layOut_54 : decode cX5_layOut 54 = .ok (.baload, 1) := by decide +kernel
theorem dX5_layOut_55 : decode cX5_layOut 55 = .ok (.ifCond .eq 7, 3) := by decide +kernel
theorem dX5_layOut_58 : decode cX5_layOut 58 = .ok (.iconst 3, 1) := by decide +kernel
theorem dX5_layOut_59 : decode cX5_layOut 59 = .ok (.goto 4, 3) := by decide +kernel
theorem dX5_layOut_62 : decode cX5_layOut 62 = .ok (.iconst 0, 1) := by decide +kernel
theorem dX5_layOut_63 : decode cX5_layOut 63 = .ok (.iadd, 1) := by decide +kernel
theorem dX5_layOut_64 : decode cX5_layOut 64 = .ok (.istore 4, 2) := by decide +kernel
theorem dX5_layOut_66 : decode cX5_layOut 66 = .ok (.aload_n 0, 1) := by decide +kernel
theorem dX5_layOut_67 : decode cX5_layOut 67 = .ok (.getfield 16, 3) := by decide +kernel
theorem dX5_layOut_70 : decode cX5_layOut 70 = .ok (.iload_n 3, 1) := by decide +kernel
theorem dX5_layOut_71 : decode cX5_layOut 71 = .ok (.iaload, 1) := by decide +kernel
theorem dX5_layOut_72 : decode cX5_layOut 72 = .ok (.aload_n 0, 1) := by decide +kernel
theorem dX5_layOut_73 : decode cX5_layOut 73 = .ok (.getfield 62, 3) := by decide +kernel
theorem dX5_layOut_76 : decode cX5_layOut 76 = .ok (.iload_n 1, 1) := by decide +kernel
theorem dX5_layOut_77 : decode cX5_layOut 77 = .ok (.baload, 1) := by decide +kernel
theorem dX5_layOut_78 : decode cX5_layOut 78 = .ok (.ifCond .eq 7, 3) := by decide +kernel
theorem dX5_layOut_81 : decode cX5_layOut 81 = .ok (.iconst 3, 1) := by decide +kernel
theorem dX5_layOut_82 : decode cX5_layOut 82 = .ok (.goto 4, 3) := by decide +kernel
theorem dX5_layOut_85 : decode cX5_layOut 85 = .ok (.iconst 0, 1) := by decide +kernel
theorem dX5_layOut_86 : decode cX5_layOut 86 = .ok (.isub, 1) := by decide +kernel
theorem dX5_layOut_87 : decode cX5_layOut 87 = .ok (.istore 5, 2) := by decide +kernel
theorem dX5_layOut_89 : decode cX5_layOut 89 = .ok (.aload_n 0, 1) := by decide +kernel
theorem dX5_layOut_90 : decode cX5_layOut 90 = .ok (.getfield 19, 3) := by decide +kernel
theorem dX5_layOut_93 : decode cX5_layOut 93 = .ok (.iload_n 2, 1) := by decide +kernel
theorem dX5_layOut_94 : decode cX5_layOut 94 = .ok (.iaload, 1) := by decide +kernel
theorem dX5_layOut_95 : decode cX5_layOut 95 = .ok (.aload_n 0, 1) := by decide +kernel
theorem dX5_layOut_96 : decode cX5_layOut 96 = .ok (.iload_n 1, 1) := by decide +kernel
theorem dX5_layOut_97 : decode cX5_layOut 97 = .ok (.iload_n 2, 1) := by decide +kernel
theorem dX5_layOut_98 : decode cX5_layOut 98 = .ok (.invokevirtual 159, 3) := by decide +kernel
theorem dX5_layOut_101 : decode cX5_layOut 101 = .ok (.iadd, 1) := by decide +kernel
theorem dX5_layOut_102 : decode cX5_layOut 102 = .ok (.istore 6, 2) := by decide +kernel
theorem dX5_layOut_104 : decode cX5_layOut 104 = .ok (.aload_n 0, 1) := by decide +kernel
theorem dX5_layOut_105 : decode cX5_layOut 105 = .ok (.getfield 19, 3) := by decide +kernel
theorem dX5_layOut_108 : decode cX5_layOut 108 = .ok (.iload_n 3, 1) := by decide +kernel
theorem dX5_layOut_109 : decode cX5_layOut 109 = .ok (.iaload, 1) := by decide +kernel
theorem dX5_layOut_110 : decode cX5_layOut 110 = .ok (.aload_n 0, 1) := by decide +kernel
theorem dX5_layOut_111 : decode cX5_layOut 111 = .ok (.iload_n 1, 1) := by decide +kernel
theorem dX5_layOut_112 : decode cX5_layOut 112 = .ok (.iload_n 3, 1) := by decide +kernel
theorem dX5_layOut_113 : decode cX5_layOut 113 = .ok (.invokevirtual 159, 3) := by decide +kernel
theorem dX5_layOut_116 : decode cX5_layOut 116 = .ok (.iadd, 1) := by decide +kernel
theorem dX5_layOut_117 : decode cX5_layOut 117 = .ok (.istore 7, 2) := by decide +kernel
theorem dX5_layOut_119 : decode cX5_layOut 119 = .ok (.aload_n 0, 1) := by decide +kernel
theorem dX5_layOut_120 : decode cX5_layOut 120 = .ok (.getfield 68, 3) := by decide +kernel
theorem dX5_layOut_123 : decode cX5_layOut 123 = .ok (.iload_n 1, 1) := by decide +kernel
theorem dX5_layOut_124 : decode cX5_layOut 124 = .ok (.aload_n 0, 1) := by decide +kernel
theorem dX5_layOut_125 : decode cX5_layOut 125 = .ok (.getfield 13, 3) := by decide +kernel
theorem dX5_layOut_128 : decode cX5_layOut 128 = .ok (.iload_n 2, 1) := by decide +kernel
theorem dX5_layOut_129 : decode cX5_layOut 129 = .ok (.iaload, 1) := by decide +kernel
theorem dX5_layOut_130 : decode cX5_layOut 130 = .ok (.aload_n 0, 1) := by decide +kernel
theorem dX5_layOut_131 : decode cX5_layOut 131 = .ok (.getfield 13, 3) := by decide +kernel
theorem dX5_layOut_134 : decode cX5_layOut 134 = .ok (.iload_n 3, 1) := by decide +kernel
theorem dX5_layOut_135 : decode cX5_layOut 135 = .ok (.iaload, 1) := by decide +kernel
theorem dX5_layOut_136 : decode cX5_layOut 136 = .ok (.if_icmp .ne 7, 3) := by decide +kernel
theorem dX5_layOut_139 : decode cX5_layOut 139 = .ok (.iconst 1, 1) := by decide +kernel
theorem dX5_layOut_140 : decode cX5_layOut 140 = .ok (.goto 4, 3) := by decide +kernel
theorem dX5_layOut_143 : decode cX5_layOut 143 = .ok (.iconst 2, 1) := by decide +kernel
theorem dX5_layOut_144 : decode cX5_layOut 144 = .ok (.iastore, 1) := by decide +kernel
theorem dX5_layOut_145 : decode cX5_layOut 145 = .ok (.aload_n 0, 1) := by decide +kernel
theorem dX5_layOut_146 : decode cX5_layOut 146 = .ok (.getfield 68, 3) := by decide +kernel
theorem dX5_layOut_149 : decode cX5_layOut 149 = .ok (.iload_n 1, 1) := by decide +kernel
theorem dX5_layOut_150 : decode cX5_layOut 150 = .ok (.iaload, 1) := by decide +kernel
theorem dX5_layOut_151 : decode cX5_layOut 151 = .ok (.iconst 1, 1) := by decide +kernel
theorem dX5_layOut_152 : decode cX5_layOut 152 = .ok (.if_icmp .ne 27, 3) := by decide +kernel
theorem dX5_layOut_155 : decode cX5_layOut 155 = .ok (.aload_n 0, 1) := by decide +kernel
theorem dX5_layOut_156 : decode cX5_layOut 156 = .ok (.iconst 2, 1) := by decide +kernel
theorem dX5_layOut_157 : decode cX5_layOut 157 = .ok (.iload_n 1, 1) := by decide +kernel
theorem dX5_layOut_158 : decode cX5_layOut 158 = .ok (.imul, 1) := by decide +kernel
theorem dX5_layOut_159 : decode cX5_layOut 159 = .ok (.aload_n 0, 1) := by decide +kernel
theorem dX5_layOut_160 : decode cX5_layOut 160 = .ok (.getfield 13, 3) := by decide +kernel
theorem dX5_layOut_163 : decode cX5_layOut 163 = .ok (.iload_n 2, 1) := by decide +kernel
theorem dX5_layOut_164 : decode cX5_layOut 164 = .ok (.iaload, 1) := by decide +kernel
theorem dX5_layOut_165 : decode cX5_layOut 165 = .ok (.iload 4, 2) := by decide +kernel
theorem dX5_layOut_167 : decode cX5_layOut 167 = .ok (.iload 6, 2) := by decide +kernel
theorem dX5_layOut_169 : decode cX5_layOut 169 = .ok (.iload 5, 2) := by decide +kernel
theorem dX5_layOut_171 : decode cX5_layOut 171 = .ok (.iload 7, 2) := by decide +kernel
theorem dX5_layOut_173 : decode cX5_layOut 173 = .ok (.invokevirtual 162, 3) := by decide +kernel
theorem dX5_layOut_176 : decode cX5_layOut 176 = .ok (.goto 55, 3) := by decide +kernel
theorem dX5_layOut_179 : decode cX5_layOut 179 = .ok (.aload_n 0, 1) := by decide +kernel
theorem dX5_layOut_180 : decode cX5_layOut 180 = .ok (.iconst 2, 1) := by decide +kernel
theorem dX5_layOut_181 : decode cX5_layOut 181 = .ok (.iload_n 1, 1) := by decide +kernel
theorem dX5_layOut_182 : decode cX5_layOut 182 = .ok (.imul, 1) := by decide +kernel
theorem dX5_layOut_183 : decode cX5_layOut 183 = .ok (.aload_n 0, 1) := by decide +kernel
theorem dX5_layOut_184 : decode cX5_layOut 184 = .ok (.getfield 13, 3) := by decide +kernel
theorem dX5_layOut_187 : decode cX5_layOut 187 = .ok (.iload_n 2, 1) := by decide +kernel
theorem dX5_layOut_188 : decode cX5_layOut 188 = .ok (.iaload, 1) := by decide +kernel
theorem dX5_layOut_189 : decode cX5_layOut 189 = .ok (.iload 4, 2) := by decide +kernel
theorem dX5_layOut_191 : decode cX5_layOut 191 = .ok (.iload 6, 2) := by decide +kernel
theorem dX5_layOut_193 : decode cX5_layOut 193 = .ok (.aload_n 0, 1) := by decide +kernel
theorem dX5_layOut_194 : decode cX5_layOut 194 = .ok (.getfield 7, 3) := by decide +kernel
theorem dX5_layOut_197 : decode cX5_layOut 197 = .ok (.aload_n 0, 1) := by decide +kernel
theorem dX5_layOut_198 : decode cX5_layOut 198 = .ok (.getfield 13, 3) := by decide +kernel
theorem dX5_layOut_201 : decode cX5_layOut 201 = .ok (.iload_n 2, 1) := by decide +kernel
theorem dX5_layOut_202 : decode cX5_layOut 202 = .ok (.iaload, 1) := by decide +kernel
theorem dX5_layOut_203 : decode cX5_layOut 203 = .ok (.iaload, 1) := by decide +kernel
theorem dX5_layOut_204 : decode cX5_layOut 204 = .ok (.iload 6, 2) := by decide +kernel
theorem dX5_layOut_206 : decode cX5_layOut 206 = .ok (.invokevirtual 162, 3) := by decide +kernel
theorem dX5_layOut_209 : decode cX5_layOut 209 = .ok (.aload_n 0, 1) := by decide +kernel
theorem dX5_layOut_210 : decode cX5_layOut 210 = .ok (.iconst 2, 1) := by decide +kernel
theorem dX5_layOut_211 : decode cX5_layOut 211 = .ok (.iload_n 1, 1) := by decide +kernel
theorem dX5_layOut_212 : decode cX5_layOut 212 = .ok (.imul, 1) := by decide +kernel
theorem dX5_layOut_213 : decode cX5_layOut 213 = .ok (.iconst 1, 1) := by decide +kernel
theorem dX5_layOut_214 : decode cX5_layOut 214 = .ok (.iadd, 1) := by decide +kernel
theorem dX5_layOut_215 : decode cX5_layOut 215 = .ok (.aload_n 0, 1) := by decide +kernel
theorem dX5_layOut_216 : decode cX5_layOut 216 = .ok (.getfield 13, 3) := by decide +kernel
theorem dX5_layOut_219 : decode cX5_layOut 219 = .ok (.iload_n 3, 1) := by decide +kernel
theorem dX5_layOut_220 : decode cX5_layOut 220 = .ok (.iaload, 1) := by decide +kernel
theorem dX5_layOut_221 : decode cX5_layOut 221 = .ok (.iconst 0, 1) := by decide +kernel
theorem dX5_layOut_222 : decode cX5_layOut 222 = .ok (.iload 7, 2) := by decide +kernel
theorem dX5_layOut_224 : decode cX5_layOut 224 = .ok (.iload 5, 2) := by decide +kernel
theorem dX5_layOut_226 : decode cX5_layOut 226 = .ok (.iload 7, 2) := by decide +kernel
theorem dX5_layOut_228 : decode cX5_layOut 228 = .ok (.invokevirtual 162, 3) := by decide +kernel
theorem dX5_layOut_231 : decode cX5_layOut 231 = .ok (.return_, 1) := by decide +kernel
theorem dX5_endOf_0 : decode cX5_endOf 0 = .ok (.aload_n 0, 1) := by decide +kernel
theorem dX5_endOf_1 : decode cX5_endOf 1 = .ok (.getfield 62, 3) := by decide +kernel
theorem dX5_endOf_4 : decode cX5_endOf 4 = .ok (.iload_n 1, 1) := by decide +kernel
theorem dX5_endOf_5 : decode cX5_endOf 5 = .ok (.baload, 1) := by decide +kernel
theorem dX5_endOf_6 : decode cX5_endOf 6 = .ok (.ifCond .eq 12, 3) := by decide +kernel
theorem dX5_endOf_9 : decode cX5_endOf 9 = .ok (.iconst 2, 1) := by decide +kernel
theorem dX5_endOf_10 : decode cX5_endOf 10 = .ok (.aload_n 0, 1) := by decide +kernel
theorem dX5_endOf_11 : decode cX5_endOf 11 = .ok (.getfield 65, 3) := by decide +kernel
theorem dX5_endOf_14 : decode cX5_endOf 14 = .ok (.iload_n 1, 1) := by decide +kernel
theorem dX5_endOf_15 : decode cX5_endOf 15 = .ok (.iaload, 1) := by decide +kernel
theorem dX5_endOf_16 : decode cX5_endOf 16 = .ok (.imul, 1) := by decide +kernel
theorem dX5_endOf_17 : decode cX5_endOf 17 = .ok (.ireturn, 1) := by decide +kernel
theorem dX5_endOf_18 : decode cX5_endOf 18 = .ok (.iconst 4, 1) := by decide +kernel
theorem dX5_endOf_19 : decode cX5_endOf 19 = .ok (.aload_n 0, 1) := by decide +kernel
theorem dX5_endOf_20 : decode cX5_endOf 20 = .ok (.getfield 65, 3) := by decide +kernel
theorem dX5_endOf_23 : decode cX5_endOf 23 = .ok (.iload_n 1, 1) := by decide +kernel
theorem dX5_endOf_24 : decode cX5_endOf 24 = .ok (.iaload, 1) := by decide +kernel
theorem dX5_endOf_25 : decode cX5_endOf 25 = .ok (.imul, 1) := by decide +kernel
theorem dX5_endOf_26 : decode cX5_endOf 26 = .ok (.aload_n 0, 1) := by decide +kernel
theorem dX5_endOf_27 : decode cX5_endOf 27 = .ok (.getfield 22, 3) := by decide +kernel
theorem dX5_endOf_30 : decode cX5_endOf 30 = .ok (.iload_n 2, 1) := by decide +kernel
theorem dX5_endOf_31 : decode cX5_endOf 31 = .ok (.baload, 1) := by decide +kernel
theorem dX5_endOf_32 : decode cX5_endOf 32 = .ok (.aload_n 0, 1) := by decide +kernel
theorem dX5_endOf_33 : decode cX5_endOf 33 = .ok (.getfield 65, 3) := by decide +kernel
theorem dX5_endOf_36 : decode cX5_endOf 36 = .ok (.iload_n 1, 1) := by decide +kernel
theorem dX5_endOf_37 : decode cX5_endOf 37 = .ok (.iaload, 1) := by decide +kernel
theorem dX5_endOf_38 : decode cX5_endOf 38 = .ok (.iconst 1, 1) := by decide +kernel
theorem dX5_endOf_39 : decode cX5_endOf 39 = .ok (.if_icmp .ne 7, 3) := by decide +kernel
theorem dX5_endOf_42 : decode cX5_endOf 42 = .ok (.iconst 1, 1) := by decide +kernel
theorem dX5_endOf_43 : decode cX5_endOf 43 = .ok (.goto 4, 3) := by decide +kernel
theorem dX5_endOf_46 : decode cX5_endOf 46 = .ok (.iconst 0, 1) := by decide +kernel
theorem dX5_endOf_47 : decode cX5_endOf 47 = .ok (.if_icmp .ne 15, 3) := by decide +kernel
theorem dX5_endOf_50 : decode cX5_endOf 50 = .ok (.bipush 24, 2) := by decide +kernel
theorem dX5_endOf_52 : decode cX5_endOf 52 = .ok (.aload_n 0, 1) := by decide +kernel
theorem dX5_endOf_53 : decode cX5_endOf 53 = .ok (.getfield 65, 3) := by decide +kernel
theorem dX5_endOf_56 : decode cX5_endOf 56 = .ok (.iload_n 1, 1) := by decide +kernel
theorem dX5_endOf_57 : decode cX5_endOf 57 = .ok (.iaload, 1) := by decide +kernel
theorem dX5_endOf_58 : decode cX5_endOf 58 = .ok (.imul, 1) := by decide +kernel
theorem dX5_endOf_59 : decode cX5_endOf 59 = .ok (.goto 4, 3) := by decide +kernel
theorem dX5_endOf_62 : decode cX5_endOf 62 = .ok (.iconst 0, 1) := by decide +kernel
theorem dX5_endOf_63 : decode cX5_endOf 63 = .ok (.iadd, 1) := by decide +kernel
theorem dX5_endOf_64 : decode cX5_endOf 64 = .ok (.ireturn, 1) := by decide +kernel
theorem dX5_lay_0 : decode cX5_lay 0 = .ok (.aload_n 0, 1) := by decide +kernel
theorem dX5_lay_1 : decode cX5_lay 1 = .ok (.getfield 71, 3) := by decide +kernel
theorem dX5_lay_4 : decode cX5_lay 4 = .ok (.iload_n 1, 1) := by decide +kernel
theorem dX5_lay_5 : decode cX5_lay 5 = .ok (.iload_n 2, 1) := by decide +kernel
theorem dX5_lay_6 : decode cX5_lay 6 = .ok (.iastore, 1) := by decide +kernel
theorem dX5_lay_7 : decode cX5_lay 7 = .ok (.aload_n 0, 1) := by decide +kernel
theorem dX5_lay_8 : decode cX5_lay 8 = .ok (.getfield 74, 3) := by decide +kernel
theorem dX5_lay_11 : decode cX5_lay 11 = .ok (.iload_n 1, 1) := by decide +kernel
theorem dX5_lay_12 : decode cX5_lay 12 = .ok (.iload_n 3, 1) := by decide +kernel
theorem dX5_lay_13 : decode cX5_lay 13 = .ok (.iastore, 1) := by decide +kernel
theorem dX5_lay_14 : decode cX5_lay 14 = .ok (.aload_n 0, 1) := by decide +kernel
theorem dX5_lay_15 : decode cX5_lay 15 = .ok (.getfield 77, 3) := by decide +kernel
theorem dX5_lay_18 : decode cX5_lay 18 = .ok (.iload_n 1, 1) := by decide +kernel
theorem dX5_lay_19 : decode cX5_lay 19 = .ok (.iload 4, 2) := by decide +kernel
theorem dX5_lay_21 : decode cX5_lay 21 = .ok (.iastore, 1) := by decide +kernel
theorem dX5_lay_22 : decode cX5_lay 22 = .ok (.aload_n 0, 1) := by decide +kernel
theorem dX5_lay_23 : decode cX5_lay 23 = .ok (.getfield 80, 3) := by decide +kernel
theorem dX5_lay_26 : decode cX5_lay 26 = .ok (.iload_n 1, 1) := by decide +kernel
theorem dX5_lay_27 : decode cX5_lay 27 = .ok (.iload 5, 2) := by decide +kernel
theorem dX5_lay_29 : decode cX5_lay 29 = .ok (.iastore, 1) := by decide +kernel
theorem dX5_lay_30 : decode cX5_lay 30 = .ok (.aload_n 0, 1) := by decide +kernel
theorem dX5_lay_31 : decode cX5_lay 31 = .ok (.getfield 83, 3) := by decide +kernel
theorem dX5_lay_34 : decode cX5_lay 34 = .ok (.iload_n 1, 1) := by decide +kernel
theorem dX5_lay_35 : decode cX5_lay 35 = .ok (.iload 6, 2) := by decide +kernel
theorem dX5_lay_37 : decode cX5_lay 37 = .ok (.iastore, 1) := by decide +kernel
theorem dX5_lay_38 : decode cX5_lay 38 = .ok (.return_, 1) := by decide +kernel
theorem dX5_arch_0 : decode cX5_arch 0 = .ok (.iconst 4, 1) := by decide +kernel
theorem dX5_arch_1 : decode cX5_arch 1 = .ok (.aload_n 0, 1) := by decide +kernel
theorem dX5_arch_2 : decode cX5_arch 2 = .ok (.getfield 80, 3) := by decide +kernel
theorem dX5_arch_5 : decode cX5_arch 5 = .ok (.iload_n 1, 1) := by decide +kernel
theorem dX5_arch_6 : decode cX5_arch 6 = .ok (.iaload, 1) := by decide +kernel
theorem dX5_arch_7 : decode cX5_arch 7 = .ok (.aload_n 0, 1) := by decide +kernel
theorem dX5_arch_8 : decode cX5_arch 8 = .ok (.getfield 74, 3) := by decide +kernel
theorem dX5_arch_11 : decode cX5_arch 11 = .ok (.iload_n 1, 1) := by decide +kernel
theorem dX5_arch_12 : decode cX5_arch 12 = .ok (.iaload, 1) := by decide +kernel
theorem dX5_arch_13 : decode cX5_arch 13 = .ok (.isub, 1) := by decide +kernel
theorem dX5_arch_14 : decode cX5_arch 14 = .ok (.bipush 8, 2) := by decide +kernel
theorem dX5_arch_16 : decode cX5_arch 16 = .ok (.idiv, 1) := by decide +kernel
theorem dX5_arch_17 : decode cX5_arch 17 = .ok (.iadd, 1) := by decide +kernel
theorem dX5_arch_18 : decode cX5_arch 18 = .ok (.istore_n 2, 1) := by decide +kernel
theorem dX5_arch_19 : decode cX5_arch 19 = .ok (.iload_n 2, 1) := by decide +kernel
theorem dX5_arch_20 : decode cX5_arch 20 = .ok (.bipush 20, 2) := by decide +kernel
theorem dX5_arch_22 : decode cX5_arch 22 = .ok (.if_icmp .ge 7, 3) := by decide +kernel
theorem dX5_arch_25 : decode cX5_arch 25 = .ok (.iload_n 2, 1) := by decide +kernel
theorem dX5_arch_26 : decode cX5_arch 26 = .ok (.goto 5, 3) := by decide +kernel
theorem dX5_arch_29 : decode cX5_arch 29 = .ok (.bipush 20, 2) := by decide +kernel
theorem dX5_arch_31 : decode cX5_arch 31 = .ok (.ireturn, 1) := by decide +kernel
theorem dX5_candidates_0 : decode cX5_candidates 0 = .ok (.aload_n 0, 1) := by decide +kernel
theorem dX5_candidates_1 : decode cX5_candidates 1 = .ok (.getfield 62, 3) := by decide +kernel
theorem dX5_candidates_4 : decode cX5_candidates 4 = .ok (.iload_n 1, 1) := by decide +kernel
theorem dX5_candidates_5 : decode cX5_candidates 5 = .ok (.iconst 2, 1) := by decide +kernel
theorem dX5_candidates_6 : decode cX5_candidates 6 = .ok (.idiv, 1) := by decide +kernel
theorem dX5_candidates_7 : decode cX5_candidates 7 = .ok (.baload, 1) := by decide +kernel
theorem dX5_candidates_8 : decode cX5_candidates 8 = .ok (.ifCond .eq 8, 3) := by decide +kernel
theorem dX5_candidates_11 : decode cX5_candidates 11 = .ok (.bipush 8, 2) := by decide +kernel
theorem dX5_candidates_13 : decode cX5_candidates 13 = .ok (.goto 5, 3) := by decide +kernel
theorem dX5_candidates_16 : decode cX5_candidates 16 = .ok (.bipush 24, 2) := by decide +kernel
theorem dX5_candidates_18 : decode cX5_candidates 18 = .ok (.ireturn, 1) := by decide +kernel
theorem dX5_badnessOf_0 : decode cX5_badnessOf 0 = .ok (.iload_n 0, 1) := by decide +kernel
theorem dX5_badnessOf_1 : decode cX5_badnessOf 1 = .ok (.bipush 8, 2) := by decide +kernel
theorem dX5_badnessOf_3 : decode cX5_badnessOf 3 = .ok (.irem, 1) := by decide +kernel
theorem dX5_badnessOf_4 : decode cX5_badnessOf 4 = .ok (.istore_n 1, 1) := by decide +kernel
theorem dX5_badnessOf_5 : decode cX5_badnessOf 5 = .ok (.iload_n 0, 1) := by decide +kernel
theorem dX5_badnessOf_6 : decode cX5_badnessOf 6 = .ok (.bipush 8, 2) := by decide +kernel
theorem dX5_badnessOf_8 : decode cX5_badnessOf 8 = .ok (.idiv, 1) := by decide +kernel
theorem dX5_badnessOf_9 : decode cX5_badnessOf 9 = .ok (.istore_n 2, 1) := by decide +kernel
theorem dX5_badnessOf_10 : decode cX5_badnessOf 10 = .ok (.bipush 16, 2) := by decide +kernel
theorem dX5_badnessOf_12 : decode cX5_badnessOf 12 = .ok (.iload_n 1, 1) := by decide +kernel
theorem dX5_badnessOf_13 : decode cX5_badnessOf 13 = .ok (.imul, 1) := by decide +kernel
theorem dX5_badnessOf_14 : decode cX5_badnessOf 14 = .ok (.iload_n 1, 1) := by decide +kernel
theorem dX5_badnessOf_15 : decode cX5_badnessOf 15 = .ok (.imul, 1) := by decide +kernel
theorem dX5_badnessOf_16 : decode cX5_badnessOf 16 = .ok (.bipush 48, 2) := by decide +kernel
theorem dX5_badnessOf_18 : decode cX5_badnessOf 18 = .ok (.iload_n 2, 1) := by decide +kernel
theorem dX5_badnessOf_19 : decode cX5_badnessOf 19 = .ok (.imul, 1) := by decide +kernel
theorem dX5_badnessOf_20 : decode cX5_badnessOf 20 = .ok (.iload_n 2, 1) := by decide +kernel
theorem dX5_badnessOf_21 : decode cX5_badnessOf 21 = .ok (.imul, 1) := by decide +kernel
theorem dX5_badnessOf_22 : decode cX5_badnessOf 22 = .ok (.iadd, 1) := by decide +kernel
theorem dX5_badnessOf_23 : decode cX5_badnessOf 23 = .ok (.ireturn, 1) := by decide +kernel
theorem dX5_px_0 : decode cX5_px 0 = .ok (.aload_n 0, 1) := by decide +kernel
theorem dX5_px_1 : decode cX5_px 1 = .ok (.getfield 80, 3) := by decide +kernel
theorem dX5_px_4 : decode cX5_px 4 = .ok (.iload_n 1, 1) := by decide +kernel
theorem dX5_px_5 : decode cX5_px 5 = .ok (.iaload, 1) := by decide +kernel
theorem dX5_px_6 : decode cX5_px 6 = .ok (.aload_n 0, 1) := by decide +kernel
theorem dX5_px_7 : decode cX5_px 7 = .ok (.getfield 74, 3) := by decide +kernel
theorem dX5_px_10 : decode cX5_px 10 = .ok (.iload_n 1, 1) := by decide +kernel
theorem dX5_px_11 : decode cX5_px 11 = .ok (.iaload, 1) := by decide +kernel
theorem dX5_px_12 : decode cX5_px 12 = .ok (.isub, 1) := by decide +kernel
theorem dX5_px_13 : decode cX5_px 13 = .ok (.iconst 4, 1) := by decide +kernel
theorem dX5_px_14 : decode cX5_px 14 = .ok (.idiv, 1) := by decide +kernel
theorem dX5_px_15 : decode cX5_px 15 = .ok (.istore_n 3, 1) := by decide +kernel
theorem dX5_px_16 : decode cX5_px 16 = .ok (.iload_n 2, 1) := by decide +kernel
theorem dX5_px_17 : decode cX5_px 17 = .ok (.ifCond .ne 12, 3) := by decide +kernel
theorem dX5_px_20 : decode cX5_px 20 = .ok (.aload_n 0, 1) := by decide +kernel
theorem dX5_px_21 : decode cX5_px 21 = .ok (.getfield 74, 3) := by decide +kernel
theorem dX5_px_24 : decode cX5_px 24 = .ok (.iload_n 1, 1) := by decide +kernel
theorem dX5_px_25 : decode cX5_px 25 = .ok (.iaload, 1) := by decide +kernel
theorem dX5_px_26 : decode cX5_px 26 = .ok (.goto 41, 3) := by decide +kernel
theorem dX5_px_29 : decode cX5_px 29 = .ok (.iload_n 2, 1) := by decide +kernel
theorem dX5_px_30 : decode cX5_px 30 = .ok (.iconst 1, 1) := by decide +kernel
theorem dX5_px_31 : decode cX5_px 31 = .ok (.if_icmp .ne 14, 3) := by decide +kernel
theorem dX5_px_34 : decode cX5_px 34 = .ok (.aload_n 0, 1) := by decide +kernel
theorem dX5_px_35 : decode cX5_px 35 = .ok (.getfield 74, 3) := by decide +kernel
theorem dX5_px_38 : decode cX5_px 38 = .ok (.iload_n 1, 1) := by decide +kernel
theorem dX5_px_39 : decode cX5_px 39 = .ok (.iaload, 1) := by decide +kernel
theorem dX5_px_40 : decode cX5_px 40 = .ok (.iload_n 3, 1) := by decide +kernel
theorem dX5_px_41 : decode cX5_px 41 = .ok (.iadd, 1) := by decide +kernel
theorem dX5_px_42 : decode cX5_px 42 = .ok (.goto 25, 3) := by decide +kernel
theorem dX5_px_45 : decode cX5_px 45 = .ok (.iload_n 2, 1) := by decide +kernel
theorem dX5_px_46 : decode cX5_px 46 = .ok (.iconst 2, 1) := by decide +kernel
theorem dX5_px_47 : decode cX5_px 47 = .ok (.if_icmp .ne 14, 3) := by decide +kernel
theorem dX5_px_50 : decode cX5_px 50 = .ok (.aload_n 0, 1) := by decide +kernel
theorem dX5_px_51 : decode cX5_px 51 = .ok (.getfield 80, 3) := by decide +kernel
theorem dX5_px_54 : decode cX5_px 54 = .ok (.iload_n 1, 1) := by decide +kernel
theorem dX5_px_55 : decode cX5_px 55 = .ok (.iaload, 1) := by decide +kernel
theorem dX5_px_56 : decode cX5_px 56 = .ok (.iload_n 3, 1) := by decide +kernel
theorem dX5_px_57 : decode cX5_px 57 = .ok (.isub, 1) := by decide +kernel
theorem dX5_px_58 : decode cX5_px 58 = .ok (.goto 9, 3) := by decide +kernel
theorem dX5_px_61 : decode cX5_px 61 = .ok (.aload_n 0, 1) := by decide +kernel
theorem dX5_px_62 : decode cX5_px 62 = .ok (.getfield 80, 3) := by decide +kernel
theorem dX5_px_65 : decode cX5_px 65 = .ok (.iload_n 1, 1) := by decide +kernel
theorem dX5_px_66 : decode cX5_px 66 = .ok (.iaload, 1) := by decide +kernel
theorem dX5_px_67 : decode cX5_px 67 = .ok (.ireturn, 1) := by decide +kernel
theorem dX5_py_0 : decode cX5_py 0 = .ok (.aload_n 0, 1) := by decide +kernel
theorem dX5_py_1 : decode cX5_py 1 = .ok (.getfield 65, 3) := by decide +kernel
theorem dX5_py_4 : decode cX5_py 4 = .ok (.iload_n 1, 1) := by decide +kernel
theorem dX5_py_5 : decode cX5_py 5 = .ok (.iconst 2, 1) := by decide +kernel
theorem dX5_py_6 : decode cX5_py 6 = .ok (.idiv, 1) := by decide +kernel
theorem dX5_py_7 : decode cX5_py 7 = .ok (.iaload, 1) := by decide +kernel
theorem dX5_py_8 : decode cX5_py 8 = .ok (.istore 4, 2) := by decide +kernel
theorem dX5_py_10 : decode cX5_py 10 = .ok (.iconst 4, 1) := by decide +kernel
theorem dX5_py_11 : decode cX5_py 11 = .ok (.iload_n 2, 1) := by decide +kernel
theorem dX5_py_12 : decode cX5_py 12 = .ok (.bipush 8, 2) := by decide +kernel
theorem dX5_py_14 : decode cX5_py 14 = .ok (.idiv, 1) := by decide +kernel
theorem dX5_py_15 : decode cX5_py 15 = .ok (.imul, 1) := by decide +kernel
theorem dX5_py_16 : decode cX5_py 16 = .ok (.iload 4, 2) := by decide +kernel
theorem dX5_py_18 : decode cX5_py 18 = .ok (.imul, 1) := by decide +kernel
theorem dX5_py_19 : decode cX5_py 19 = .ok (.istore 5, 2) := by decide +kernel
theorem dX5_py_21 : decode cX5_py 21 = .ok (.aload_n 0, 1) := by decide +kernel
theorem dX5_py_22 : decode cX5_py 22 = .ok (.iload_n 1, 1) := by decide +kernel
theorem dX5_py_23 : decode cX5_py 23 = .ok (.invokevirtual 166, 3) := by decide +kernel
theorem dX5_py_26 : decode cX5_py 26 = .ok (.iconst 4, 1) := by decide +kernel
theorem dX5_py_27 : decode cX5_py 27 = .ok (.iload_n 2, 1) := by decide +kernel
theorem dX5_py_28 : decode cX5_py 28 = .ok (.bipush 8, 2) := by decide +kernel
theorem dX5_py_30 : decode cX5_py 30 = .ok (.irem, 1) := by decide +kernel
theorem dX5_py_31 : decode cX5_py 31 = .ok (.imul, 1) := by decide +kernel
theorem dX5_py_32 : decode cX5_py 32 = .ok (.iadd, 1) := by decide +kernel
theorem dX5_py_33 : decode cX5_py 33 = .ok (.iload 4, 2) := by decide +kernel
theorem dX5_py_35 : decode cX5_py 35 = .ok (.imul, 1) := by decide +kernel
theorem dX5_py_36 : decode cX5_py 36 = .ok (.istore 6, 2) := by decide +kernel
theorem dX5_py_38 : decode cX5_py 38 = .ok (.aload_n 0, 1) := by decide +kernel
theorem dX5_py_39 : decode cX5_py 39 = .ok (.getfield 77, 3) := by decide +kernel
theorem dX5_py_42 : decode cX5_py 42 = .ok (.iload_n 1, 1) := by decide +kernel
theorem dX5_py_43 : decode cX5_py 43 = .ok (.iaload, 1) := by decide +kernel
theorem dX5_py_44 : decode cX5_py 44 = .ok (.iload 5, 2) := by decide +kernel
theorem dX5_py_46 : decode cX5_py 46 = .ok (.iadd, 1) := by decide +kernel
theorem dX5_py_47 : decode cX5_py 47 = .ok (.istore 7, 2) := by decide +kernel
theorem dX5_py_49 : decode cX5_py 49 = .ok (.aload_n 0, 1) := by decide +kernel
theorem dX5_py_50 : decode cX5_py 50 = .ok (.getfield 83, 3) := by decide +kernel
theorem dX5_py_53 : decode cX5_py 53 = .ok (.iload_n 1, 1) := by decide +kernel
theorem dX5_py_54 : decode cX5_py 54 = .ok (.iaload, 1) := by decide +kernel
theorem dX5_py_55 : decode cX5_py 55 = .ok (.iload 5, 2) := by decide +kernel
theorem dX5_py_57 : decode cX5_py 57 = .ok (.iadd, 1) := by decide +kernel
theorem dX5_py_58 : decode cX5_py 58 = .ok (.istore 8, 2) := by decide +kernel
theorem dX5_py_60 : decode cX5_py 60 = .ok (.iload_n 3, 1) := by decide +kernel
theorem dX5_py_61 : decode cX5_py 61 = .ok (.ifCond .ne 8, 3) := by decide +kernel
theorem dX5_py_64 : decode cX5_py 64 = .ok (.iload 7, 2) := by decide +kernel
theorem dX5_py_66 : decode cX5_py 66 = .ok (.goto 47, 3) := by decide +kernel
theorem dX5_py_69 : decode cX5_py 69 = .ok (.iload_n 3, 1) := by decide +kernel
theorem dX5_py_70 : decode cX5_py 70 = .ok (.iconst 1, 1) := by decide +kernel
theorem dX5_py_71 : decode cX5_py 71 = .ok (.if_icmp .ne 19, 3) := by decide +kernel
theorem dX5_py_74 : decode cX5_py 74 = .ok (.iload 7, 2) := by decide +kernel
theorem dX5_py_76 : decode cX5_py 76 = .ok (.iload 8, 2) := by decide +kernel
theorem dX5_py_78 : decode cX5_py 78 = .ok (.iload 7, 2) := by decide +kernel
theorem dX5_py_80 : decode cX5_py 80 = .ok (.isub, 1) := by decide +kernel
theorem dX5_py_81 : decode cX5_py 81 = .ok (.iconst 4, 1) := by decide +kernel
theorem dX5_py_82 : decode cX5_py 82 = .ok (.idiv, 1) := by decide +kernel
theorem dX5_py_83 : decode cX5_py 83 = .ok (.iadd, 1) := by decide +kernel
theorem dX5_py_84 : decode cX5_py 84 = .ok (.iload 6, 2) := by decide +kernel
theorem dX5_py_86 : decode cX5_py 86 = .ok (.iadd, 1) := by decide +kernel
theorem dX5_py_87 : decode cX5_py 87 = .ok (.goto 26, 3) := by decide +kernel
theorem dX5_py_90 : decode cX5_py 90 = .ok (.iload_n 3, 1) := by decide +kernel
theorem dX5_py_91 : decode cX5_py 91 = .ok (.iconst 2, 1) := by decide +kernel
theorem dX5_py_92 : decode cX5_py 92 = .ok (.if_icmp .ne 19, 3) := by decide +kernel
theorem dX5_py_95 : decode cX5_py 95 = .ok (.iload 8, 2) := by decide +kernel
theorem dX5_py_97 : decode cX5_py 97 = .ok (.iload 7, 2) := by decide +kernel
theorem dX5_py_99 : decode cX5_py 99 = .ok (.iload 8, 2) := by decide +kernel
theorem dX5_py_101 : decode cX5_py 101 = .ok (.isub, 1) := by decide +kernel
theorem dX5_py_102 : decode cX5_py 102 = .ok (.iconst 4, 1) := by decide +kernel
theorem dX5_py_103 : decode cX5_py 103 = .ok (.idiv, 1) := by decide +kernel
theorem dX5_py_104 : decode cX5_py 104 = .ok (.iadd, 1) := by decide +kernel
theorem dX5_py_105 : decode cX5_py 105 = .ok (.iload 6, 2) := by decide +kernel
theorem dX5_py_107 : decode cX5_py 107 = .ok (.iadd, 1) := by decide +kernel
theorem dX5_py_108 : decode cX5_py 108 = .ok (.goto 5, 3) := by decide +kernel
theorem dX5_py_111 : decode cX5_py 111 = .ok (.iload 8, 2) := by decide +kernel
theorem dX5_py_113 : decode cX5_py 113 = .ok (.ireturn, 1) := by decide +kernel
theorem dX5_turn_0 : decode cX5_turn 0 = .ok (.lload 4, 2) := by decide +kernel
theorem dX5_turn_2 : decode cX5_turn 2 = .ok (.lload_n 0, 1) := by decide +kernel
theorem dX5_turn_3 : decode cX5_turn 3 = .ok (.lsub, 1) := by decide +kernel
theorem dX5_turn_4 : decode cX5_turn 4 = .ok (.lload 10, 2) := by decide +kernel
theorem dX5_turn_6 : decode cX5_turn 6 = .ok (.lload_n 2, 1) := by decide +kernel
theorem dX5_turn_7 : decode cX5_turn 7 = .ok (.lsub, 1) := by decide +kernel
theorem dX5_turn_8 : decode cX5_turn 8 = .ok (.lmul, 1) := by decide +kernel
theorem dX5_turn_9 : decode cX5_turn 9 = .ok (.lload 6, 2) := by decide +kernel
theorem dX5_turn_11 : decode cX5_turn 11 = .ok (.lload_n 2, 1) := by decide +kernel
theorem dX5_turn_12 : decode cX5_turn 12 = .ok (.lsub, 1) := by decide +kernel
theorem dX5_turn_13 : decode cX5_turn 13 = .ok (.lload 8, 2) := by decide +kernel
theorem dX5_turn_15 : decode cX5_turn 15 = .ok (.lload_n 0, 1) := by decide +kernel
theorem dX5_turn_16 : decode cX5_turn 16 = .ok (.lsub, 1) := by decide +kernel
theorem dX5_turn_17 : decode cX5_turn 17 = .ok (.lmul, 1) := by decide +kernel
theorem dX5_turn_18 : decode cX5_turn 18 = .ok (.lsub, 1) := by decide +kernel
theorem dX5_turn_19 : decode cX5_turn 19 = .ok (.lstore 12, 2) := by decide +kernel
theorem dX5_turn_21 : decode cX5_turn 21 = .ok (.lload 12, 2) := by decide +kernel
theorem dX5_turn_23 : decode cX5_turn 23 = .ok (.lconst 0, 1) := by decide +kernel
theorem dX5_turn_24 : decode cX5_turn 24 = .ok (.lcmp, 1) := by decide +kernel
theorem dX5_turn_25 : decode cX5_turn 25 = .ok (.ifCond .le 7, 3) := by decide +kernel
theorem dX5_turn_28 : decode cX5_turn 28 = .ok (.lconst 1, 1) := by decide +kernel
theorem dX5_turn_29 : decode cX5_turn 29 = .ok (.goto 17, 3) := by decide +kernel
theorem dX5_turn_32 : decode cX5_turn 32 = .ok (.lload 12, 2) := by decide +kernel
theorem dX5_turn_34 : decode cX5_turn 34 = .ok (.lconst 0, 1) := by decide +kernel
theorem dX5_turn_35 : decode cX5_turn 35 = .ok (.lcmp, 1) := by decide +kernel
theorem dX5_turn_36 : decode cX5_turn 36 = .ok (.ifCond .ge 9, 3) := by decide +kernel
theorem dX5_turn_39 : decode cX5_turn 39 = .ok (.ldc2_w 169, 3) := by decide +kernel
theorem dX5_turn_42 : decode cX5_turn 42 = .ok (.goto 4, 3) := by decide +kernel
theorem dX5_turn_45 : decode cX5_turn 45 = .ok (.lconst 0, 1) := by decide +kernel
theorem dX5_turn_46 : decode cX5_turn 46 = .ok (.lreturn, 1) := by decide +kernel
theorem dX5_between_0 : decode cX5_between 0 = .ok (.lload_n 0, 1) := by decide +kernel
theorem dX5_between_1 : decode cX5_between 1 = .ok (.lload_n 2, 1) := by decide +kernel
theorem dX5_between_2 : decode cX5_between 2 = .ok (.lcmp, 1) := by decide +kernel
theorem dX5_between_3 : decode cX5_between 3 = .ok (.ifCond .gt 10, 3) := by decide +kernel
theorem dX5_between_6 : decode cX5_between 6 = .ok (.lload_n 2, 1) := by decide +kernel
theorem dX5_between_7 : decode cX5_between 7 = .ok (.lload 4, 2) := by decide +kernel
theorem dX5_between_9 : decode cX5_between 9 = .ok (.lcmp, 1) := by decide +kernel
theorem dX5_between_10 : decode cX5_between 10 = .ok (.ifCond .le 16, 3) := by decide +kernel
theorem dX5_between_13 : decode cX5_between 13 = .ok (.lload 4, 2) := by decide +kernel
theorem dX5_between_15 : decode cX5_between 15 = .ok (.lload_n 2, 1) := by decide +kernel
theorem dX5_between_16 : decode cX5_between 16 = .ok (.lcmp, 1) := by decide +kernel
theorem dX5_between_17 : decode cX5_between 17 = .ok (.ifCond .gt 13, 3) := by decide +kernel
theorem dX5_between_20 : decode cX5_between 20 = .ok (.lload_n 2, 1) := by decide +kernel
theorem dX5_between_21 : decode cX5_between 21 = .ok (.lload_n 0, 1) := by decide +kernel
theorem dX5_between_22 : decode cX5_between 22 = .ok (.lcmp, 1) := by decide +kernel
theorem dX5_between_23 : decode cX5_between 23 = .ok (.ifCond .gt 7, 3) := by decide +kernel
theorem dX5_between_26 : decode cX5_between 26 = .ok (.iconst 1, 1) := by decide +kernel
theorem dX5_between_27 : decode cX5_between 27 = .ok (.goto 4, 3) := by decide +kernel
theorem dX5_between_30 : decode cX5_between 30 = .ok (.iconst 0, 1) := by decide +kernel
theorem dX5_between_31 : decode cX5_between 31 = .ok (.ireturn, 1) := by decide +kernel
theorem dX5_isOn_0 : decode cX5_isOn 0 = .ok (.lload_n 0, 1) := by decide +kernel
theorem dX5_isOn_1 : decode cX5_isOn 1 = .ok (.lload 8, 2) := by decide +kernel
theorem dX5_isOn_3 : decode cX5_isOn 3 = .ok (.lload 4, 2) := by decide +kernel
theorem dX5_isOn_5 : decode cX5_isOn 5 = .ok (.invokestatic 171, 3) := by decide +kernel
theorem dX5_isOn_8 : decode cX5_isOn 8 = .ok (.ifCond .eq 18, 3) := by decide +kernel
theorem dX5_isOn_11 : decode cX5_isOn 11 = .ok (.lload_n 2, 1) := by decide +kernel
theorem dX5_isOn_12 : decode cX5_isOn 12 = .ok (.lload 10, 2) := by decide +kernel
theorem dX5_isOn_14 : decode cX5_isOn 14 = .ok (.lload 6, 2) := by decide +kernel
theorem dX5_isOn_16 : decode cX5_isOn 16 = .ok (.invokestatic 171, 3) := by decide +kernel
theorem dX5_isOn_19 : decode cX5_isOn 19 = .ok (.ifCond .eq 7, 3) := by decide +kernel
theorem dX5_isOn_22 : decode cX5_isOn 22 = .ok (.iconst 1, 1) := by decide +kernel
theorem dX5_isOn_23 : decode cX5_isOn 23 = .ok (.goto 4, 3) := by decide +kernel
theorem dX5_isOn_26 : decode cX5_isOn 26 = .ok (.iconst 0, 1) := by decide +kernel
theorem dX5_isOn_27 : decode cX5_isOn 27 = .ok (.ireturn, 1) := by decide +kernel
theorem dX5_cross_0 : decode cX5_cross 0 = .ok (.aload_n 0, 1) := by decide +kernel
theorem dX5_cross_1 : decode cX5_cross 1 = .ok (.getfield 92, 3) := by decide +kernel
theorem dX5_cross_4 : decode cX5_cross 4 = .ok (.iload_n 1, 1) := by decide +kernel
theorem dX5_cross_5 : decode cX5_cross 5 = .ok (.laload, 1) := by decide +kernel
theorem dX5_cross_6 : decode cX5_cross 6 = .ok (.aload_n 0, 1) := by decide +kernel
theorem dX5_cross_7 : decode cX5_cross 7 = .ok (.getfield 96, 3) := by decide +kernel
theorem dX5_cross_10 : decode cX5_cross 10 = .ok (.iload_n 1, 1) := by decide +kernel
theorem dX5_cross_11 : decode cX5_cross 11 = .ok (.laload, 1) := by decide +kernel
theorem dX5_cross_12 : decode cX5_cross 12 = .ok (.aload_n 0, 1) := by decide +kernel
theorem dX5_cross_13 : decode cX5_cross 13 = .ok (.getfield 92, 3) := by decide +kernel
theorem dX5_cross_16 : decode cX5_cross 16 = .ok (.iload_n 2, 1) := by decide +kernel
theorem dX5_cross_17 : decode cX5_cross 17 = .ok (.laload, 1) := by decide +kernel
theorem dX5_cross_18 : decode cX5_cross 18 = .ok (.aload_n 0, 1) := by decide +kernel
theorem dX5_cross_19 : decode cX5_cross 19 = .ok (.getfield 96, 3) := by decide +kernel
theorem dX5_cross_22 : decode cX5_cross 22 = .ok (.iload_n 2, 1) := by decide +kernel
theorem dX5_cross_23 : decode cX5_cross 23 = .ok (.laload, 1) := by decide +kernel
theorem dX5_cross_24 : decode cX5_cross 24 = .ok (.aload_n 0, 1) := by decide +kernel
theorem dX5_cross_25 : decode cX5_cross 25 = .ok (.getfield 99, 3) := by decide +kernel
theorem dX5_cross_28 : decode cX5_cross 28 = .ok (.iload_n 3, 1) := by decide +kernel
theorem dX5_cross_29 : decode cX5_cross 29 = .ok (.laload, 1) := by decide +kernel
theorem dX5_cross_30 : decode cX5_cross 30 = .ok (.aload_n 0, 1) := by decide +kernel
theorem dX5_cross_31 : decode cX5_cross 31 = .ok (.getfield 102, 3) := by decide +kernel
theorem dX5_cross_34 : decode cX5_cross 34 = .ok (.iload_n 3, 1) := by decide +kernel
theorem dX5_cross_35 : decode cX5_cross 35 = .ok (.laload, 1) := by decide +kernel
theorem dX5_cross_36 : decode cX5_cross 36 = .ok (.invokestatic 175, 3) := by decide +kernel
theorem dX5_cross_39 : decode cX5_cross 39 = .ok (.lstore 5, 2) := by decide +kernel
theorem dX5_cross_41 : decode cX5_cross 41 = .ok (.aload_n 0, 1) := by decide +kernel
theorem dX5_cross_42 : decode cX5_cross 42 = .ok (.getfield 92, 3) := by decide +kernel
theorem dX5_cross_45 : decode cX5_cross 45 = .ok (.iload_n 1, 1) := by decide +kernel
theorem dX5_cross_46 : decode cX5_cross 46 = .ok (.laload, 1) := by decide +kernel
theorem dX5_cross_47 : decode cX5_cross 47 = .ok (.aload_n 0, 1) := by decide +kernel
theorem dX5_cross_48 : decode cX5_cross 48 = .ok (.getfield 96, 3) := by decide +kernel
theorem dX5_cross_51 : decode cX5_cross 51 = .ok (.iload_n 1, 1) := by decide +kernel
theorem dX5_cross_52 : decode cX5_cross 52 = .ok (.laload, 1) := by decide +kernel
theorem dX5_cross_53 : decode cX5_cross 53 = .ok (.aload_n 0, 1) := by decide +kernel
theorem dX5_cross_54 : decode cX5_cross 54 = .ok (.getfield 92, 3) := by decide +kernel
theorem dX5_cross_57 : decode cX5_cross 57 = .ok (.iload_n 2, 1) := by decide +kernel
theorem dX5_cross_58 : decode cX5_cross 58 = .ok (.laload, 1) := by decide +kernel
theorem dX5_cross_59 : decode cX5_cross 59 = .ok (.aload_n 0, 1) := by decide +kernel
theorem dX5_cross_60 : decode cX5_cross 60 = .ok (.getfield 96, 3) := by decide +kernel
theorem dX5_cross_63 : decode cX5_cross 63 = .ok (.iload_n 2, 1) := by decide +kernel
theorem dX5_cross_64 : decode cX5_cross 64 = .ok (.laload, 1) := by decide +kernel
theorem dX5_cross_65 : decode cX5_cross 65 = .ok (.aload_n 0, 1) := by decide +kernel
theorem dX5_cross_66 : decode cX5_cross 66 = .ok (.getfield 99, 3) := by decide +kernel
theorem dX5_cross_69 : decode cX5_cross 69 = .ok (.iload 4, 2) := by decide +kernel
theorem dX5_cross_71 : decode cX5_cross 71 = .ok (.laload, 1) := by decide +kernel
theorem dX5_cross_72 : decode cX5_cross 72 = .ok (.aload_n 0, 1) := by decide +kernel
theorem dX5_cross_73 : decode cX5_cross 73 = .ok (.getfield 102, 3) := by decide +kernel
theorem dX5_cross_76 : decode cX5_cross 76 = .ok (.iload 4, 2) := by decide +kernel
theorem dX5_cross_78 : decode cX5_cross 78 = .ok (.laload, 1) := by decide +kernel
theorem dX5_cross_79 : decode cX5_cross 79 = .ok (.invokestatic 175, 3) := by decide +kernel
theorem dX5_cross_82 : decode cX5_cross 82 = .ok (.lstore 7, 2) := by decide +kernel
theorem dX5_cross_84 : decode cX5_cross 84 = .ok (.aload_n 0, 1) := by decide +kernel
theorem dX5_cross_85 : decode cX5_cross 85 = .ok (.getfield 99, 3) := by decide +kernel
theorem dX5_cross_88 : decode cX5_cross 88 = .ok (.iload_n 3, 1) := by decide +kernel
theorem dX5_cross_89 : decode cX5_cross 89 = .ok (.laload, 1) := by decide +kernel
theorem dX5_cross_90 : decode cX5_cross 90 = .ok (.aload_n 0, 1) := by decide +kernel
theorem dX5_cross_91 : decode cX5_cross 91 = .ok (.getfield 102, 3) := by decide +kernel
theorem dX5_cross_94 : decode cX5_cross 94 = .ok (.iload_n 3, 1) := by decide +kernel
theorem dX5_cross_95 : decode cX5_cross 95 = .ok (.laload, 1) := by decide +kernel
theorem dX5_cross_96 : decode cX5_cross 96 = .ok (.aload_n 0, 1) := by decide +kernel
theorem dX5_cross_97 : decode cX5_cross 97 = .ok (.getfield 99, 3) := by decide +kernel
theorem dX5_cross_100 : decode cX5_cross 100 = .ok (.iload 4, 2) := by decide +kernel
theorem dX5_cross_102 : decode cX5_cross 102 = .ok (.laload, 1) := by decide +kernel
theorem dX5_cross_103 : decode cX5_cross 103 = .ok (.aload_n 0, 1) := by decide +kernel
theorem dX5_cross_104 : decode cX5_cross 104 = .ok (.getfield 102, 3) := by decide +kernel
theorem dX5_cross_107 : decode cX5_cross 107 = .ok (.iload 4, 2) := by decide +kernel
theorem dX5_cross_109 : decode cX5_cross 109 = .ok (.laload, 1) := by decide +kernel
theorem dX5_cross_110 : decode cX5_cross 110 = .ok (.aload_n 0, 1) := by decide +kernel
theorem dX5_cross_111 : decode cX5_cross 111 = .ok (.getfield 92, 3) := by decide +kernel
theorem dX5_cross_114 : decode cX5_cross 114 = .ok (.iload_n 1, 1) := by decide +kernel
theorem dX5_cross_115 : decode cX5_cross 115 = .ok (.laload, 1) := by decide +kernel
theorem dX5_cross_116 : decode cX5_cross 116 = .ok (.aload_n 0, 1) := by decide +kernel
theorem dX5_cross_117 : decode cX5_cross 117 = .ok (.getfield 96, 3) := by decide +kernel
theorem dX5_cross_120 : decode cX5_cross 120 = .ok (.iload_n 1, 1) := by decide +kernel
theorem dX5_cross_121 : decode cX5_cross 121 = .ok (.laload, 1) := by decide +kernel
theorem dX5_cross_122 : decode cX5_cross 122 = .ok (.invokestatic 175, 3) := by decide +kernel
theorem dX5_cross_125 : decode cX5_cross 125 = .ok (.lstore 9, 2) := by decide +kernel
theorem dX5_cross_127 : decode cX5_cross 127 = .ok (.aload_n 0, 1) := by decide +kernel
theorem dX5_cross_128 : decode cX5_cross 128 = .ok (.getfield 99, 3) := by decide +kernel
theorem dX5_cross_131 : decode cX5_cross 131 = .ok (.iload_n 3, 1) := by decide +kernel
theorem dX5_cross_132 : decode cX5_cross 132 = .ok (.laload, 1) := by decide +kernel
theorem dX5_cross_133 : decode cX5_cross 133 = .ok (.aload_n 0, 1) := by decide +kernel
theorem dX5_cross_134 : decode cX5_cross 134 = .ok (.getfield 102, 3) := by decide +kernel
theorem dX5_cross_137 : decode cX5_cross 137 = .ok (.iload_n 3, 1) := by decide +kernel
theorem dX5_cross_138 : decode cX5_cross 138 = .ok (.laload, 1) := by decide +kernel
theorem dX5_cross_139 : decode cX5_cross 139 = .ok (.aload_n 0, 1) := by decide +kernel
theorem dX5_cross_140 : decode cX5_cross 140 = .ok (.getfield 99, 3) := by decide +kernel
theorem dX5_cross_143 : decode cX5_cross 143 = .ok (.iload 4, 2) := by decide +kernel
theorem dX5_cross_145 : decode cX5_cross 145 = .ok (.laload, 1) := by decide +kernel
theorem dX5_cross_146 : decode cX5_cross 146 = .ok (.aload_n 0, 1) := by decide +kernel
theorem dX5_cross_147 : decode cX5_cross 147 = .ok (.getfield 102, 3) := by decide +kernel
theorem dX5_cross_150 : decode cX5_cross 150 = .ok (.iload 4, 2) := by decide +kernel
theorem dX5_cross_152 : decode cX5_cross 152 = .ok (.laload, 1) := by decide +kernel
theorem dX5_cross_153 : decode cX5_cross 153 = .ok (.aload_n 0, 1) := by decide +kernel
theorem dX5_cross_154 : decode cX5_cross 154 = .ok (.getfield 92, 3) := by decide +kernel
theorem dX5_cross_157 : decode cX5_cross 157 = .ok (.iload_n 2, 1) := by decide +kernel
theorem dX5_cross_158 : decode cX5_cross 158 = .ok (.laload, 1) := by decide +kernel
theorem dX5_cross_159 : decode cX5_cross 159 = .ok (.aload_n 0, 1) := by decide +kernel
theorem dX5_cross_160 : decode cX5_cross 160 = .ok (.getfield 96, 3) := by decide +kernel
theorem dX5_cross_163 : decode cX5_cross 163 = .ok (.iload_n 2, 1) := by decide +kernel
theorem dX5_cross_164 : decode cX5_cross 164 = .ok (.laload, 1) := by decide +kernel
theorem dX5_cross_165 : decode cX5_cross 165 = .ok (.invokestatic 175, 3) := by decide +kernel
theorem dX5_cross_168 : decode cX5_cross 168 = .ok (.lstore 11, 2) := by decide +kernel
theorem dX5_cross_170 : decode cX5_cross 170 = .ok (.lload 5, 2) := by decide +kernel
theorem dX5_cross_172 : decode cX5_cross 172 = .ok (.lload 7, 2) := by decide +kernel
theorem dX5_cross_174 : decode cX5_cross 174 = .ok (.lmul, 1) := by decide +kernel
theorem dX5_cross_175 : decode cX5_cross 175 = .ok (.lconst 0, 1) := by decide +kernel
theorem dX5_cross_176 : decode cX5_cross 176 = .ok (.lcmp, 1) := by decide +kernel
theorem dX5_cross_177 : decode cX5_cross 177 = .ok (.ifCond .ge 15, 3) := by decide +kernel
theorem dX5_cross_180 : decode cX5_cross 180 = .ok (.lload 9, 2) := by decide +kernel
theorem dX5_cross_182 : decode cX5_cross 182 = .ok (.lload 11, 2) := by decide +kernel
theorem dX5_cross_184 : decode cX5_cross 184 = .ok (.lmul, 1) := by decide +kernel
theorem dX5_cross_185 : decode cX5_cross 185 = .ok (.lconst 0, 1) := by decide +kernel
theorem dX5_cross_186 : decode cX5_cross 186 = .ok (.lcmp, 1) := by decide +kernel
theorem dX5_cross_187 : decode cX5_cross 187 = .ok (.ifCond .ge 5, 3) := by decide +kernel
theorem dX5_cross_190 : decode cX5_cross 190 = .ok (.iconst 1, 1) := by decide +kernel
theorem dX5_cross_191 : decode cX5_cross 191 = .ok (.ireturn, 1) := by decide +kernel
theorem dX5_cross_192 : decode cX5_cross 192 = .ok (.lload 5, 2) := by decide +kernel
theorem dX5_cross_194 : decode cX5_cross 194 = .ok (.lconst 0, 1) := by decide +kernel
theorem dX5_cross_195 : decode cX5_cross 195 = .ok (.lcmp, 1) := by decide +kernel
theorem dX5_cross_196 : decode cX5_cross 196 = .ok (.ifCond .ne 45, 3) := by decide +kernel
theorem dX5_cross_199 : decode cX5_cross 199 = .ok (.aload_n 0, 1) := by decide +kernel
theorem dX5_cross_200 : decode cX5_cross 200 = .ok (.getfield 92, 3) := by decide +kernel
theorem dX5_cross_203 : decode cX5_cross 203 = .ok (.iload_n 1, 1) := by decide +kernel
theorem dX5_cross_204 : decode cX5_cross 204 = .ok (.laload, 1) := by decide +kernel
theorem dX5_cross_205 : decode cX5_cross 205 = .ok (.aload_n 0, 1) := by decide +kernel
theorem dX5_cross_206 : decode cX5_cross 206 = .ok (.getfield 96, 3) := by decide +kernel
theorem dX5_cross_209 : decode cX5_cross 209 = .ok (.iload_n 1, 1) := by decide +kernel
theorem dX5_cross_210 : decode cX5_cross 210 = .ok (.laload, 1) := by decide +kernel
theorem dX5_cross_211 : decode cX5_cross 211 = .ok (.aload_n 0, 1) := by decide +kernel
theorem dX5_cross_212 : decode cX5_cross 212 = .ok (.getfield 92, 3) := by decide +kernel
theorem dX5_cross_215 : decode cX5_cross 215 = .ok (.iload_n 2, 1) := by decide +kernel
theorem dX5_cross_216 : decode cX5_cross 216 = .ok (.laload, 1) := by decide +kernel
theorem dX5_cross_217 : decode cX5_cross 217 = .ok (.aload_n 0, 1) := by decide +kernel
theorem dX5_cross_218 : decode cX5_cross 218 = .ok (.getfield 96, 3) := by decide +kernel
theorem dX5_cross_221 : decode cX5_cross 221 = .ok (.iload_n 2, 1) := by decide +kernel
theorem dX5_cross_222 : decode cX5_cross 222 = .ok (.laload, 1) := by decide +kernel
theorem dX5_cross_223 : decode cX5_cross 223 = .ok (.aload_n 0, 1) := by decide +kernel
theorem dX5_cross_224 : decode cX5_cross 224 = .ok (.getfield 99, 3) := by decide +kernel
theorem dX5_cross_227 : decode cX5_cross 227 = .ok (.iload_n 3, 1) := by decide +kernel
theorem dX5_cross_228 : decode cX5_cross 228 = .ok (.laload, 1) := by decide +kernel
theorem dX5_cross_229 : decode cX5_cross 229 = .ok (.aload_n 0, 1) := by decide +kernel
theorem dX5_cross_230 : decode cX5_cross 230 = .ok (.getfield 102, 3) := by decide +kernel
theorem dX5_cross_233 : decode cX5_cross 233 = .ok (.iload_n 3, 1) := by decide +kernel
theorem dX5_cross_234 : decode cX5_cross 234 = .ok (.laload, 1) := by decide +kernel
theorem dX5_cross_235 : decode cX5_cross 235 = .ok (.invokestatic 179, 3) := by decide +kernel
theorem dX5_cross_238 : decode cX5_cross 238 = .ok (.ifCond .ne 156, 3) := by decide +kernel
theorem dX5_cross_241 : decode cX5_cross 241 = .ok (.lload 7, 2) := by decide +kernel
theorem dX5_cross_243 : decode cX5_cross 243 = .ok (.lconst 0, 1) := by decide +kernel
theorem dX5_cross_244 : decode cX5_cross 244 = .ok (.lcmp, 1) := by decide +kernel
theorem dX5_cross_245 : decode cX5_cross 245 = .ok (.ifCond .ne 47, 3) := by decide +kernel
theorem dX5_cross_248 : decode cX5_cross 248 = .ok (.aload_n 0, 1) := by decide +kernel
theorem dX5_cross_249 : decode cX5_cross 249 = .ok (.getfield 92, 3) := by decide +kernel
theorem dX5_cross_252 : decode cX5_cross 252 = .ok (.iload_n 1, 1) := by decide +kernel
theorem dX5_cross_253 : decode cX5_cross 253 = .ok (.laload, 1) := by decide +kernel
theorem dX5_cross_254 : decode cX5_cross 254 = .ok (.aload_n 0, 1) := by decide +kernel
theorem dX5_cross_255 : decode cX5_cross 255 = .ok (.getfield 96, 3) := by decide +kernel
theorem dX5_cross_258 : decode cX5_cross 258 = .ok (.iload_n 1, 1) := by decide +kernel
theorem dX5_cross_259 : decode cX5_cross 259 = .ok (.laload, 1) := by decide +kernel
theorem dX5_cross_260 : decode cX5_cross 260 = .ok (.aload_n 0, 1) := by decide +kernel
theorem dX5_cross_261 : decode cX5_cross 261 = .ok (.getfield 92, 3) := by decide +kernel
theorem dX5_cross_264 : decode cX5_cross 264 = .ok (.iload_n 2, 1) := by decide +kernel
theorem dX5_cross_265 : decode cX5_cross 265 = .ok (.laload, 1) := by decide +kernel
theorem dX5_cross_266 : decode cX5_cross 266 = .ok (.aload_n 0, 1) := by decide +kernel
theorem dX5_cross_267 : decode cX5_cross 267 = .ok (.getfield 96, 3) := by decide +kernel
theorem dX5_cross_270 : decode cX5_cross 270 = .ok (.iload_n 2, 1) := by decide +kernel
theorem dX5_cross_271 : decode cX5_cross 271 = .ok (.laload, 1) := by decide +kernel
theorem dX5_cross_272 : decode cX5_cross 272 = .ok (.aload_n 0, 1) := by decide +kernel
theorem dX5_cross_273 : decode cX5_cross 273 = .ok (.getfield 99, 3) := by decide +kernel
theorem dX5_cross_276 : decode cX5_cross 276 = .ok (.iload 4, 2) := by decide +kernel
theorem dX5_cross_278 : decode cX5_cross 278 = .ok (.laload, 1) := by decide +kernel
theorem dX5_cross_279 : decode cX5_cross 279 = .ok (.aload_n 0, 1) := by decide +kernel
theorem dX5_cross_280 : decode cX5_cross 280 = .ok (.getfield 102, 3) := by decide +kernel
theorem dX5_cross_283 : decode cX5_cross 283 = .ok (.iload 4, 2) := by decide +kernel
theorem dX5_cross_285 : decode cX5_cross 285 = .ok (.laload, 1) := by decide +kernel
theorem dX5_cross_286 : decode cX5_cross 286 = .ok (.invokestatic 179, 3) := by decide +kernel
theorem dX5_cross_289 : decode cX5_cross 289 = .ok (.ifCond .ne 105, 3) := by decide +kernel
theorem dX5_cross_292 : decode cX5_cross 292 = .ok (.lload 9, 2) := by decide +kernel
theorem dX5_cross_294 : decode cX5_cross 294 = .ok (.lconst 0, 1) := by decide +kernel
theorem dX5_cross_295 : decode cX5_cross 295 = .ok (.lcmp, 1) := by decide +kernel
theorem dX5_cross_296 : decode cX5_cross 296 = .ok (.ifCond .ne 47, 3) := by decide +kernel
theorem dX5_cross_299 : decode cX5_cross 299 = .ok (.aload_n 0, 1) := by decide +kernel
theorem dX5_cross_300 : decode cX5_cross 300 = .ok (.getfield 99, 3) := by decide +kernel
theorem dX5_cross_303 : decode cX5_cross 303 = .ok (.iload_n 3, 1) := by decide +kernel
theorem dX5_cross_304 : decode cX5_cross 304 = .ok (.laload, 1) := by decide +kernel
theorem dX5_cross_305 : decode cX5_cross 305 = .ok (.aload_n 0, 1) := by decide +kernel
theorem dX5_cross_306 : decode cX5_cross 306 = .ok (.getfield 102, 3) := by decide +kernel
theorem dX5_cross_309 : decode cX5_cross 309 = .ok (.iload_n 3, 1) := by decide +kernel
theorem dX5_cross_310 : decode cX5_cross 310 = .ok (.laload, 1) := by decide +kernel
theorem dX5_cross_311 : decode cX5_cross 311 = .ok (.aload_n 0, 1) := by decide +kernel
theorem dX5_cross_312 : decode cX5_cross 312 = .ok (.getfield 99, 3) := by decide +kernel
theorem dX5_cross_315 : decode cX5_cross 315 = .ok (.iload 4, 2) := by decide +kernel
theorem dX5_cross_317 : decode cX5_cross 317 = .ok (.laload, 1) := by decide +kernel
theorem dX5_cross_318 : decode cX5_cross 318 = .ok (.aload_n 0, 1) := by decide +kernel
theorem dX5_cross_319 : decode cX5_cross 319 = .ok (.getfield 102, 3) := by decide +kernel
theorem dX5_cross_322 : decode cX5_cross 322 = .ok (.iload 4, 2) := by decide +kernel
theorem dX5_cross_324 : decode cX5_cross 324 = .ok (.laload, 1) := by decide +kernel
theorem dX5_cross_325 : decode cX5_cross 325 = .ok (.aload_n 0, 1) := by decide +kernel
theorem dX5_cross_326 : decode cX5_cross 326 = .ok (.getfield 92, 3) := by decide +kernel
theorem dX5_cross_329 : decode cX5_cross 329 = .ok (.iload_n 1, 1) := by decide +kernel
theorem dX5_cross_330 : decode cX5_cross 330 = .ok (.laload, 1) := by decide +kernel
theorem dX5_cross_331 : decode cX5_cross 331 = .ok (.aload_n 0, 1) := by decide +kernel
theorem dX5_cross_332 : decode cX5_cross 332 = .ok (.getfield 96, 3) := by decide +kernel
theorem dX5_cross_335 : decode cX5_cross 335 = .ok (.iload_n 1, 1) := by decide +kernel
theorem dX5_cross_336 : decode cX5_cross 336 = .ok (.laload, 1) := by decide +kernel
theorem dX5_cross_337 : decode cX5_cross 337 = .ok (.invokestatic 179, 3) := by decide +kernel
theorem dX5_cross_340 : decode cX5_cross 340 = .ok (.ifCond .ne 54, 3) := by decide +kernel
theorem dX5_cross_343 : decode cX5_cross 343 = .ok (.lload 11, 2) := by decide +kernel
theorem dX5_cross_345 : decode cX5_cross 345 = .ok (.lconst 0, 1) := by decide +kernel
theorem dX5_cross_346 : decode cX5_cross 346 = .ok (.lcmp, 1) := by decide +kernel
theorem dX5_cross_347 : decode cX5_cross 347 = .ok (.ifCond .ne 51, 3) := by decide +kernel
theorem dX5_cross_350 : decode cX5_cross 350 = .ok (.aload_n 0, 1) := by decide +kernel
theorem dX5_cross_351 : decode cX5_cross 351 = .ok (.getfield 99, 3) := by decide +kernel
theorem dX5_cross_354 : decode cX5_cross 354 = .ok (.iload_n 3, 1) := by decide +kernel
theorem dX5_cross_355 : decode cX5_cross 355 = .ok (.laload, 1) := by decide +kernel
theorem dX5_cross_356 : decode cX5_cross 356 = .ok (.aload_n 0, 1) := by decide +kernel
theorem dX5_cross_357 : decode cX5_cross 357 = .ok (.getfield 102, 3) := by decide +kernel
theorem dX5_cross_360 : decode cX5_cross 360 = .ok (.iload_n 3, 1) := by decide +kernel
theorem dX5_cross_361 : decode cX5_cross 361 = .ok (.laload, 1) := by decide +kernel
theorem dX5_cross_362 : decode cX5_cross 362 = .ok (.aload_n 0, 1) := by decide +kernel
theorem dX5_cross_363 : decode cX5_cross 363 = .ok (.getfield 99, 3) := by decide +kernel
theorem dX5_cross_366 : decode cX5_cross 366 = .ok (.iload 4, 2) := by decide +kernel
theorem dX5_cross_368 : decode cX5_cross 368 = .ok (.laload, 1) := by decide +kernel
theorem dX5_cross_369 : decode cX5_cross 369 = .ok (.aload_n 0, 1) := by decide +kernel
theorem dX5_cross_370 : decode cX5_cross 370 = .ok (.getfield 102, 3) := by decide +kernel
theorem dX5_cross_373 : decode cX5_cross 373 = .ok (.iload 4, 2) := by decide +kernel
theorem dX5_cross_375 : decode cX5_cross 375 = .ok (.laload, 1) := by decide +kernel
theorem dX5_cross_376 : decode cX5_cross 376 = .ok (.aload_n 0, 1) := by decide +kernel
theorem dX5_cross_377 : decode cX5_cross 377 = .ok (.getfield 92, 3) := by decide +kernel
theorem dX5_cross_380 : decode cX5_cross 380 = .ok (.iload_n 2, 1) := by decide +kernel
theorem dX5_cross_381 : decode cX5_cross 381 = .ok (.laload, 1) := by decide +kernel
theorem dX5_cross_382 : decode cX5_cross 382 = .ok (.aload_n 0, 1) := by decide +kernel
theorem dX5_cross_383 : decode cX5_cross 383 = .ok (.getfield 96, 3) := by decide +kernel
theorem dX5_cross_386 : decode cX5_cross 386 = .ok (.iload_n 2, 1) := by decide +kernel
theorem dX5_cross_387 : decode cX5_cross 387 = .ok (.laload, 1) := by decide +kernel
theorem dX5_cross_388 : decode cX5_cross 388 = .ok (.invokestatic 179, 3) := by decide +kernel
theorem dX5_cross_391 : decode cX5_cross 391 = .ok (.ifCond .eq 7, 3) := by decide +kernel
theorem dX5_cross_394 : decode cX5_cross 394 = .ok (.iconst 1, 1) := by decide +kernel
theorem dX5_cross_395 : decode cX5_cross 395 = .ok (.goto 4, 3) := by decide +kernel
theorem dX5_cross_398 : decode cX5_cross 398 = .ok (.iconst 0, 1) := by decide +kernel
theorem dX5_cross_399 : decode cX5_cross 399 = .ok (.ireturn, 1) := by decide +kernel
theorem dX5_isWithin_0 : decode cX5_isWithin 0 = .ok (.iconst 0, 1) := by decide +kernel
theorem dX5_isWithin_1 : decode cX5_isWithin 1 = .ok (.istore 6, 2) := by decide +kernel
theorem dX5_isWithin_3 : decode cX5_isWithin 3 = .ok (.iconst 0, 1) := by decide +kernel
theorem dX5_isWithin_4 : decode cX5_isWithin 4 = .ok (.istore 7, 2) := by decide +kernel
theorem dX5_isWithin_6 : decode cX5_isWithin 6 = .ok (.iload 7, 2) := by decide +kernel
theorem dX5_isWithin_8 : decode cX5_isWithin 8 = .ok (.iconst 4, 1) := by decide +kernel
theorem dX5_isWithin_9 : decode cX5_isWithin 9 = .ok (.if_icmp .ge 217, 3) := by decide +kernel
theorem dX5_isWithin_12 : decode cX5_isWithin 12 = .ok (.iload 7, 2) := by decide +kernel
theorem dX5_isWithin_14 : decode cX5_isWithin 14 = .ok (.ifCond .ne 7, 3) := by decide +kernel
theorem dX5_isWithin_17 : decode cX5_isWithin 17 = .ok (.iconst 1, 1) := by decide +kernel
theorem dX5_isWithin_18 : decode cX5_isWithin 18 = .ok (.goto 4, 3) := by decide +kernel
theorem dX5_isWithin_21 : decode cX5_isWithin 21 = .ok (.iconst 0, 1) := by decide +kernel
theorem dX5_isWithin_22 : decode cX5_isWithin 22 = .ok (.istore 8, 2) := by decide +kernel
theorem dX5_isWithin_24 : decode cX5_isWithin 24 = .ok (.iload 7, 2) := by decide +kernel
theorem dX5_isWithin_26 : decode cX5_isWithin 26 = .ok (.iconst 2, 1) := by decide +kernel
theorem dX5_isWithin_27 : decode cX5_isWithin 27 = .ok (.if_icmp .ge 7, 3) := by decide +kernel
theorem dX5_isWithin_30 : decode cX5_isWithin 30 = .ok (.iconst 2, 1) := by decide +kernel
theorem dX5_isWithin_31 : decode cX5_isWithin 31 = .ok (.goto 4, 3) := by decide +kernel
theorem dX5_isWithin_34 : decode cX5_isWithin 34 = .ok (.iconst 1, 1) := by decide +kernel
theorem dX5_isWithin_35 : decode cX5_isWithin 35 = .ok (.istore 9, 2) := by decide +kernel
theorem dX5_isWithin_37 : decode cX5_isWithin 37 = .ok (.iload 7, 2) := by decide +kernel
theorem dX5_isWithin_39 : decode cX5_isWithin 39 = .ok (.iconst 3, 1) := by decide +kernel
theorem dX5_isWithin_40 : decode cX5_isWithin 40 = .ok (.if_icmp .ge 7, 3) := by decide +kernel
theorem dX5_isWithin_43 : decode cX5_isWithin 43 = .ok (.iconst 3, 1) := by decide +kernel
theorem dX5_isWithin_44 : decode cX5_isWithin 44 = .ok (.goto 4, 3) := by decide +kernel
theorem dX5_isWithin_47 : decode cX5_isWithin 47 = .ok (.iconst 2, 1) := by decide +kernel
theorem dX5_isWithin_48 : decode cX5_isWithin 48 = .ok (.istore 10, 2) := by decide +kernel
theorem dX5_isWithin_50 : decode cX5_isWithin 50 = .ok (.aload_n 0, 1) := by decide +kernel
theorem dX5_isWithin_51 : decode cX5_isWithin 51 = .ok (.iload 8, 2) := by decide +kernel
theorem dX5_isWithin_53 : decode cX5_isWithin 53 = .ok (.laload, 1) := by decide +kernel
theorem dX5_isWithin_54 : decode cX5_isWithin 54 = .ok (.aload_n 1, 1) := by decide +kernel
theorem dX5_isWithin_55 : decode cX5_isWithin 55 = .ok (.iload 8, 2) := by decide +kernel
theorem dX5_isWithin_57 : decode cX5_isWithin 57 = .ok (.laload, 1) := by decide +kernel
theorem dX5_isWithin_58 : decode cX5_isWithin 58 = .ok (.aload_n 0, 1) := by decide +kernel
theorem dX5_isWithin_59 : decode cX5_isWithin 59 = .ok (.iload 9, 2) := by decide +kernel
theorem dX5_isWithin_61 : decode cX5_isWithin 61 = .ok (.laload, 1) := by decide +kernel
theorem dX5_isWithin_62 : decode cX5_isWithin 62 = .ok (.aload_n 1, 1) := by decide +kernel
theorem dX5_isWithin_63 : decode cX5_isWithin 63 = .ok (.iload 9, 2) := by decide +kernel
theorem dX5_isWithin_65 : decode cX5_isWithin 65 = .ok (.laload, 1) := by decide +kernel
theorem dX5_isWithin_66 : decode cX5_isWithin 66 = .ok (.lload_n 2, 1) := by decide +kernel
theorem dX5_isWithin_67 : decode cX5_isWithin 67 = .ok (.lload 4, 2) := by decide +kernel
theorem dX5_isWithin_69 : decode cX5_isWithin 69 = .ok (.invokestatic 175, 3) := by decide +kernel
theorem dX5_isWithin_72 : decode cX5_isWithin 72 = .ok (.lstore 11, 2) := by decide +kernel
theorem dX5_isWithin_74 : decode cX5_isWithin 74 = .ok (.aload_n 0, 1) := by decide +kernel
theorem dX5_isWithin_75 : decode cX5_isWithin 75 = .ok (.iload 9, 2) := by decide +kernel
theorem dX5_isWithin_77 : decode cX5_isWithin 77 = .ok (.laload, 1) := by decide +kernel
theorem dX5_isWithin_78 : decode cX5_isWithin 78 = .ok (.aload_n 1, 1) := by decide +kernel
theorem dX5_isWithin_79 : decode cX5_isWithin 79 = .ok (.iload 9, 2) := by decide +kernel
theorem dX5_isWithin_81 : decode cX5_isWithin 81 = .ok (.laload, 1) := by decide +kernel
theorem dX5_isWithin_82 : decode cX5_isWithin 82 = .ok (.aload_n 0, 1) := by decide +kernel
theorem dX5_isWithin_83 : decode cX5_isWithin 83 = .ok (.iload 10, 2) := by decide +kernel
theorem dX5_isWithin_85 : decode cX5_isWithin 85 = .ok (.laload, 1) := by decide +kernel
theorem dX5_isWithin_86 : decode cX5_isWithin 86 = .ok (.aload_n 1, 1) := by decide +kernel
theorem dX5_isWithin_87 : decode cX5_isWithin 87 = .ok (.iload 10, 2) := by decide +kernel
theorem dX5_isWithin_89 : decode cX5_isWithin 89 = .ok (.laload, 1) := by decide +kernel
theorem dX5_isWithin_90 : decode cX5_isWithin 90 = .ok (.lload_n 2, 1) := by decide +kernel
theorem dX5_isWithin_91 : decode cX5_isWithin 91 = .ok (.lload 4, 2) := by decide +kernel
theorem dX5_isWithin_93 : decode cX5_isWithin 93 = .ok (.invokestatic 175, 3) := by decide +kernel
theorem dX5_isWithin_96 : decode cX5_isWithin 96 = .ok (.lstore 13, 2) := by decide +kernel
theorem dX5_isWithin_98 : decode cX5_isWithin 98 = .ok (.aload_n 0, 1) := by decide +kernel
theorem dX5_isWithin_99 : decode cX5_isWithin 99 = .ok (.iload 10, 2) := by decide +kernel
theorem dX5_isWithin_101 : decode cX5_isWithin 101 = .ok (.laload, 1) := by decide +kernel
theorem dX5_isWithin_102 : decode cX5_isWithin 102 = .ok (.aload_n 1, 1) := by decide +kernel
theorem dX5_isWithin_103 : decode cX5_isWithin 103 = .ok (.iload 10, 2) := by decide +kernel
theorem dX5_isWithin_105 : decode cX5_isWithin 105 = .ok (.laload, 1) := by decide +kernel
theorem dX5_isWithin_106 : decode cX5_isWithin 106 = .ok (.aload_n 0, 1) := by decide +kernel
theorem dX5_isWithin_107 : decode cX5_isWithin 107 = .ok (.iload 8, 2) := by decide +kernel
theorem dX5_isWithin_109 : decode cX5_isWithin 109 = .ok (.laload, 1) := by decide +kernel
theorem dX5_isWithin_110 : decode cX5_isWithin 110 = .ok (.aload_n 1, 1) := by decide +kernel
theorem dX5_isWithin_111 : decode cX5_isWithin 111 = .ok (.iload 8, 2) := by decide +kernel
theorem dX5_isWithin_113 : decode cX5_isWithin 113 = .ok (.laload, 1) := by decide +kernel
theorem dX5_isWithin_114 : decode cX5_isWithin 114 = .ok (.lload_n 2, 1) := by decide +kernel
theorem dX5_isWithin_115 : decode cX5_isWithin 115 = .ok (.lload 4, 2) := by decide +kernel
theorem dX5_isWithin_117 : decode cX5_isWithin 117 = .ok (.invokestatic 175, 3) := by decide +kernel
theorem dX5_isWithin_120 : decode cX5_isWithin 120 = .ok (.lstore 15, 2) := by decide +kernel
theorem dX5_isWithin_122 : decode cX5_isWithin 122 = .ok (.aload_n 0, 1) := by decide +kernel
theorem dX5_isWithin_123 : decode cX5_isWithin 123 = .ok (.iload 8, 2) := by decide +kernel
theorem dX5_isWithin_125 : decode cX5_isWithin 125 = .ok (.laload, 1) := by decide +kernel
theorem dX5_isWithin_126 : decode cX5_isWithin 126 = .ok (.aload_n 1, 1) := by decide +kernel
theorem dX5_isWithin_127 : decode cX5_isWithin 127 = .ok (.iload 8, 2) := by decide +kernel
theorem dX5_isWithin_129 : decode cX5_isWithin 129 = .ok (.laload, 1) := by decide +kernel
theorem dX5_isWithin_130 : decode cX5_isWithin 130 = .ok (.aload_n 0, 1) := by decide +kernel
theorem dX5_isWithin_131 : decode cX5_isWithin 131 = .ok (.iload 9, 2) := by decide +kernel
theorem dX5_isWithin_133 : decode cX5_isWithin 133 = .ok (.laload, 1) := by decide +kernel
theorem dX5_isWithin_134 : decode cX5_isWithin 134 = .ok (.aload_n 1, 1) := by decide +kernel
theorem dX5_isWithin_135 : decode cX5_isWithin 135 = .ok (.iload 9, 2) := by decide +kernel
theorem dX5_isWithin_137 : decode cX5_isWithin 137 = .ok (.laload, 1) := by decide +kernel
theorem dX5_isWithin_138 : decode cX5_isWithin 138 = .ok (.aload_n 0, 1) := by decide +kernel
theorem dX5_isWithin_139 : decode cX5_isWithin 139 = .ok (.iload 10, 2) := by decide +kernel
theorem dX5_isWithin_141 : decode cX5_isWithin 141 = .ok (.laload, 1) := by decide +kernel
theorem dX5_isWithin_142 : decode cX5_isWithin 142 = .ok (.aload_n 1, 1) := by decide +kernel
theorem dX5_isWithin_143 : decode cX5_isWithin 143 = .ok (.iload 10, 2) := by decide +kernel
theorem dX5_isWithin_145 : decode cX5_isWithin 145 = .ok (.laload, 1) := by decide +kernel
theorem dX5_isWithin_146 : decode cX5_isWithin 146 = .ok (.invokestatic 175, 3) := by decide +kernel
theorem dX5_isWithin_149 : decode cX5_isWithin 149 = .ok (.lconst 0, 1) := by decide +kernel
theorem dX5_isWithin_150 : decode cX5_isWithin 150 = .ok (.lcmp, 1) := by decide +kernel
theorem dX5_isWithin_151 : decode cX5_isWithin 151 = .ok (.ifCond .ne 7, 3) := by decide +kernel
theorem dX5_isWithin_154 : decode cX5_isWithin 154 = .ok (.iconst 1, 1) := by decide +kernel
theorem dX5_isWithin_155 : decode cX5_isWithin 155 = .ok (.goto 4, 3) := by decide +kernel
theorem dX5_isWithin_158 : decode cX5_isWithin 158 = .ok (.iconst 0, 1) := by decide +kernel
theorem dX5_isWithin_159 : decode cX5_isWithin 159 = .ok (.istore 17, 2) := by decide +kernel
theorem dX5_isWithin_161 : decode cX5_isWithin 161 = .ok (.iload 6, 2) := by decide +kernel
theorem dX5_isWithin_163 : decode cX5_isWithin 163 = .ok (.ifCond .ne 50, 3) := by decide +kernel
theorem dX5_isWithin_166 : decode cX5_isWithin 166 = .ok (.iload 17, 2) := by decide +kernel
theorem dX5_isWithin_168 : decode cX5_isWithin 168 = .ok (.ifCond .ne 49, 3) := by decide +kernel
theorem dX5_isWithin_171 : decode cX5_isWithin 171 = .ok (.lload 11, 2) := by decide +kernel
theorem dX5_isWithin_173 : decode cX5_isWithin 173 = .ok (.lconst 0, 1) := by decide +kernel
theorem dX5_isWithin_174 : decode cX5_isWithin 174 = .ok (.lcmp, 1) := by decide +kernel
theorem dX5_isWithin_175 : decode cX5_isWithin 175 = .ok (.ifCond .lt 17, 3) := by decide +kernel
theorem dX5_isWithin_178 : decode cX5_isWithin 178 = .ok (.lload 13, 2) := by decide +kernel
theorem dX5_isWithin_180 : decode cX5_isWithin 180 = .ok (.lconst 0, 1) := by decide +kernel
theorem dX5_isWithin_181 : decode cX5_isWithin 181 = .ok (.lcmp, 1) := by decide +kernel
theorem dX5_isWithin_182 : decode cX5_isWithin 182 = .ok (.ifCond .lt 10, 3) := by decide +kernel
theorem dX5_isWithin_185 : decode cX5_isWithin 185 = .ok (.lload 15, 2) := by decide +kernel
theorem dX5_isWithin_187 : decode cX5_isWithin 187 = .ok (.lconst 0, 1) := by decide +kernel
theorem dX5_isWithin_188 : decode cX5_isWithin 188 = .ok (.lcmp, 1) := by decide +kernel
theorem dX5_isWithin_189 : decode cX5_isWithin 189 = .ok (.ifCond .ge 24, 3) := by decide +kernel
theorem dX5_isWithin_192 : decode cX5_isWithin 192 = .ok (.lload 11, 2) := by decide +kernel
theorem dX5_isWithin_194 : decode cX5_isWithin 194 = .ok (.lconst 0, 1) := by decide +kernel
theorem dX5_isWithin_195 : decode cX5_isWithin 195 = .ok (.lcmp, 1) := by decide +kernel
theorem dX5_isWithin_196 : decode cX5_isWithin 196 = .ok (.ifCond .gt 21, 3) := by decide +kernel
theorem dX5_isWithin_199 : decode cX5_isWithin 199 = .ok (.lload 13, 2) := by decide +kernel
theorem dX5_isWithin_201 : decode cX5_isWithin 201 = .ok (.lconst 0, 1) := by decide +kernel
theorem dX5_isWithin_202 : decode cX5_isWithin 202 = .ok (.lcmp, 1) := by decide +kernel
theorem dX5_isWithin_203 : decode cX5_isWithin 203 = .ok (.ifCond .gt 14, 3) := by decide +kernel
theorem dX5_isWithin_206 : decode cX5_isWithin 206 = .ok (.lload 15, 2) := by decide +kernel
theorem dX5_isWithin_208 : decode cX5_isWithin 208 = .ok (.lconst 0, 1) := by decide +kernel
theorem dX5_isWithin_209 : decode cX5_isWithin 209 = .ok (.lcmp, 1) := by decide +kernel
theorem dX5_isWithin_210 : decode cX5_isWithin 210 = .ok (.ifCond .gt 7, 3) := by decide +kernel
theorem dX5_isWithin_213 : decode cX5_isWithin 213 = .ok (.iconst 1, 1) := by decide +kernel
theorem dX5_isWithin_214 : decode cX5_isWithin 214 = .ok (.goto 4, 3) := by decide +kernel
theorem dX5_isWithin_217 : decode cX5_isWithin 217 = .ok (.iconst 0, 1) := by decide +kernel
theorem dX5_isWithin_218 : decode cX5_isWithin 218 = .ok (.istore 6, 2) := by decide +kernel
theorem dX5_isWithin_220 : decode cX5_isWithin 220 = .ok (.iinc 7 1, 3) := by decide +kernel
theorem dX5_isWithin_223 : decode cX5_isWithin 223 = .ok (.goto (-217), 3) := by decide +kernel
theorem dX5_isWithin_226 : decode cX5_isWithin 226 = .ok (.iload 6, 2) := by decide +kernel
theorem dX5_isWithin_228 : decode cX5_isWithin 228 = .ok (.ireturn, 1) := by decide +kernel
theorem dX5_meets_0 : decode cX5_meets 0 = .ok (.aload_n 0, 1) := by decide +kernel
theorem dX5_meets_1 : decode cX5_meets 1 = .ok (.getfield 92, 3) := by decide +kernel
theorem dX5_meets_4 : decode cX5_meets 4 = .ok (.aload_n 0, 1) := by decide +kernel
theorem dX5_meets_5 : decode cX5_meets 5 = .ok (.getfield 96, 3) := by decide +kernel
theorem dX5_meets_8 : decode cX5_meets 8 = .ok (.aload_n 0, 1) := by decide +kernel
theorem dX5_meets_9 : decode cX5_meets 9 = .ok (.getfield 99, 3) := by decide +kernel
theorem dX5_meets_12 : decode cX5_meets 12 = .ok (.iconst 0, 1) := by decide +kernel
theorem dX5_meets_13 : decode cX5_meets 13 = .ok (.laload, 1) := by decide +kernel
theorem dX5_meets_14 : decode cX5_meets 14 = .ok (.aload_n 0, 1) := by decide +kernel
theorem dX5_meets_15 : decode cX5_meets 15 = .ok (.getfield 102, 3) := by decide +kernel
theorem dX5_meets_18 : decode cX5_meets 18 = .ok (.iconst 0, 1) := by decide +kernel
theorem dX5_meets_19 : decode cX5_meets 19 = .ok (.laload, 1) := by decide +kernel
theorem dX5_meets_20 : decode cX5_meets 20 = .ok (.invokestatic 183, 3) := by decide +kernel
theorem dX5_meets_23 : decode cX5_meets 23 = .ok (.ifCond .ne 29, 3) := by decide +kernel
theorem dX5_meets_26 : decode cX5_meets 26 = .ok (.aload_n 0, 1) := by decide +kernel
theorem dX5_meets_27 : decode cX5_meets 27 = .ok (.getfield 99, 3) := by decide +kernel
theorem dX5_meets_30 : decode cX5_meets 30 = .ok (.aload_n 0, 1) := by decide +kernel
theorem dX5_meets_31 : decode cX5_meets 31 = .ok (.getfield 102, 3) := by decide +kernel
theorem dX5_meets_34 : decode cX5_meets 34 = .ok (.aload_n 0, 1) := by decide +kernel
theorem dX5_meets_35 : decode cX5_meets 35 = .ok (.getfield 92, 3) := by decide +kernel
theorem dX5_meets_38 : decode cX5_meets 38 = .ok (.iconst 0, 1) := by decide +kernel
theorem dX5_meets_39 : decode cX5_meets 39 = .ok (.laload, 1) := by decide +kernel
theorem dX5_meets_40 : decode cX5_meets 40 = .ok (.aload_n 0, 1) := by decide +kernel
theorem dX5_meets_41 : decode cX5_meets 41 = .ok (.getfield 96, 3) := by decide +kernel
theorem dX5_meets_44 : decode cX5_meets 44 = .ok (.iconst 0, 1) := by decide +kernel
theorem dX5_meets_45 : decode cX5_meets 45 = .ok (.laload, 1) := by decide +kernel
theorem dX5_meets_46 : decode cX5_meets 46 = .ok (.invokestatic 183, 3) := by decide +kernel
theorem dX5_meets_49 : decode cX5_meets 49 = .ok (.ifCond .eq 7, 3) := by decide +kernel
theorem dX5_meets_52 : decode cX5_meets 52 = .ok (.iconst 1, 1) := by decide +kernel
theorem dX5_meets_53 : decode cX5_meets 53 = .ok (.goto 4, 3) := by decide +kernel
theorem dX5_meets_56 : decode cX5_meets 56 = .ok (.iconst 0, 1) := by decide +kernel
theorem dX5_meets_57 : decode cX5_meets 57 = .ok (.istore_n 1, 1) := by decide +kernel
theorem dX5_meets_58 : decode cX5_meets 58 = .ok (.iconst 0, 1) := by decide +kernel
theorem dX5_meets_59 : decode cX5_meets 59 = .ok (.istore_n 2, 1) := by decide +kernel
theorem dX5_meets_60 : decode cX5_meets 60 = .ok (.iload_n 2, 1) := by decide +kernel
theorem dX5_meets_61 : decode cX5_meets 61 = .ok (.iconst 4, 1) := by decide +kernel
theorem dX5_meets_62 : decode cX5_meets 62 = .ok (.if_icmp .ge 84, 3) := by decide +kernel
theorem dX5_meets_65 : decode cX5_meets 65 = .ok (.iload_n 1, 1) := by decide +kernel
theorem dX5_meets_66 : decode cX5_meets 66 = .ok (.ifCond .ne 80, 3) := by decide +kernel
theorem dX5_meets_69 : decode cX5_meets 69 = .ok (.iload_n 2, 1) := by decide +kernel
theorem dX5_meets_70 : decode cX5_meets 70 = .ok (.iconst 1, 1) := by decide +kernel
theorem dX5_meets_71 : decode cX5_meets 71 = .ok (.iadd, 1) := by decide +kernel
theorem dX5_meets_72 : decode cX5_meets 72 = .ok (.istore_n 3, 1) := by decide +kernel
theorem dX5_meets_73 : decode cX5_meets 73 = .ok (.iload_n 3, 1) := by decide +kernel
theorem dX5_meets_74 : decode cX5_meets 74 = .ok (.iconst 4, 1) := by decide +kernel
theorem dX5_meets_75 : decode cX5_meets 75 = .ok (.if_icmp .ge 65, 3) := by decide +kernel
theorem dX5_meets_78 : decode cX5_meets 78 = .ok (.iload_n 1, 1) := by decide +kernel
theorem dX5_meets_79 : decode cX5_meets 79 = .ok (.ifCond .ne 61, 3) := by decide +kernel
theorem dX5_meets_82 : decode cX5_meets 82 = .ok (.iconst 0, 1) := by decide +kernel
theorem dX5_meets_83 : decode cX5_meets 83 = .ok (.istore 4, 2) := by decide +kernel
theorem dX5_meets_85 : decode cX5_meets 85 = .ok (.iload 4, 2) := by decide +kernel
theorem dX5_meets_87 : decode cX5_meets 87 = .ok (.iconst 4, 1) := by decide +kernel
theorem dX5_meets_88 : decode cX5_meets 88 = .ok (.if_icmp .ge 46, 3) := by decide +kernel
theorem dX5_meets_91 : decode cX5_meets 91 = .ok (.iload_n 1, 1) := by decide +kernel
theorem dX5_meets_92 : decode cX5_meets 92 = .ok (.ifCond .ne 42, 3) := by decide +kernel
theorem dX5_meets_95 : decode cX5_meets 95 = .ok (.iload 4, 2) := by decide +kernel
theorem dX5_meets_97 : decode cX5_meets 97 = .ok (.iconst 1, 1) := by decide +kernel
theorem dX5_meets_98 : decode cX5_meets 98 = .ok (.iadd, 1) := by decide +kernel
theorem dX5_meets_99 : decode cX5_meets 99 = .ok (.istore 5, 2) := by decide +kernel
theorem dX5_meets_101 : decode cX5_meets 101 = .ok (.iload 5, 2) := by decide +kernel
theorem dX5_meets_103 : decode cX5_meets 103 = .ok (.iconst 4, 1) := by decide +kernel
theorem dX5_meets_104 : decode cX5_meets 104 = .ok (.if_icmp .ge 24, 3) := by decide +kernel
theorem dX5_meets_107 : decode cX5_meets 107 = .ok (.iload_n 1, 1) := by decide +kernel
theorem dX5_meets_108 : decode cX5_meets 108 = .ok (.ifCond .ne 20, 3) := by decide +kernel
theorem dX5_meets_111 : decode cX5_meets 111 = .ok (.aload_n 0, 1) := by decide +kernel
theorem dX5_meets_112 : decode cX5_meets 112 = .ok (.iload_n 2, 1) := by decide +kernel
theorem dX5_meets_113 : decode cX5_meets 113 = .ok (.iload_n 3, 1) := by decide +kernel
theorem dX5_meets_114 : decode cX5_meets 114 = .ok (.iload 4, 2) := by decide +kernel
theorem dX5_meets_116 : decode cX5_meets 116 = .ok (.iload 5, 2) := by decide +kernel
theorem dX5_meets_118 : decode cX5_meets 118 = .ok (.invokevirtual 187, 3) := by decide +kernel
theorem dX5_meets_121 : decode cX5_meets 121 = .ok (.istore_n 1, 1) := by decide +kernel
theorem dX5_meets_122 : decode cX5_meets 122 = .ok (.iinc 5 1, 3) := by decide +kernel
theorem dX5_meets_125 : decode cX5_meets 125 = .ok (.goto (-24), 3) := by decide +kernel
theorem dX5_meets_128 : decode cX5_meets 128 = .ok (.iinc 4 1, 3) := by decide +kernel
theorem dX5_meets_131 : decode cX5_meets 131 = .ok (.goto (-46), 3) := by decide +kernel
theorem dX5_meets_134 : decode cX5_meets 134 = .ok (.iinc 3 1, 3) := by decide +kernel
theorem dX5_meets_137 : decode cX5_meets 137 = .ok (.goto (-64), 3) := by decide +kernel
theorem dX5_meets_140 : decode cX5_meets 140 = .ok (.iinc 2 1, 3) := by decide +kernel
theorem dX5_meets_143 : decode cX5_meets 143 = .ok (.goto (-83), 3) := by decide +kernel
theorem dX5_meets_146 : decode cX5_meets 146 = .ok (.iload_n 1, 1) := by decide +kernel
theorem dX5_meets_147 : decode cX5_meets 147 = .ok (.ireturn, 1) := by decide +kernel
theorem dX5_other_0 : decode cX5_other 0 = .ok (.aload_n 0, 1) := by decide +kernel
theorem dX5_other_1 : decode cX5_other 1 = .ok (.getfield 99, 3) := by decide +kernel
theorem dX5_other_4 : decode cX5_other 4 = .ok (.iload_n 1, 1) := by decide +kernel
theorem dX5_other_5 : decode cX5_other 5 = .ok (.lload_n 2, 1) := by decide +kernel
theorem dX5_other_6 : decode cX5_other 6 = .ok (.lastore, 1) := by decide +kernel
theorem dX5_other_7 : decode cX5_other 7 = .ok (.aload_n 0, 1) := by decide +kernel
theorem dX5_other_8 : decode cX5_other 8 = .ok (.getfield 102, 3) := by decide +kernel
theorem dX5_other_11 : decode cX5_other 11 = .ok (.iload_n 1, 1) := by decide +kernel
theorem dX5_other_12 : decode cX5_other 12 = .ok (.lload 4, 2) := by decide +kernel
theorem dX5_other_14 : decode cX5_other 14 = .ok (.lastore, 1) := by decide +kernel
theorem dX5_other_15 : decode cX5_other 15 = .ok (.return_, 1) := by decide +kernel
theorem dX5_ask_0 : decode cX5_ask 0 = .ok (.iconst 0, 1) := by decide +kernel
theorem dX5_ask_1 : decode cX5_ask 1 = .ok (.istore_n 3, 1) := by decide +kernel
theorem dX5_ask_2 : decode cX5_ask 2 = .ok (.iload_n 3, 1) := by decide +kernel
theorem dX5_ask_3 : decode cX5_ask 3 = .ok (.iconst 4, 1) := by decide +kernel
theorem dX5_ask_4 : decode cX5_ask 4 = .ok (.if_icmp .ge 36, 3) := by decide +kernel
theorem dX5_ask_7 : decode cX5_ask 7 = .ok (.aload_n 0, 1) := by decide +kernel
theorem dX5_ask_8 : decode cX5_ask 8 = .ok (.getfield 92, 3) := by decide +kernel
theorem dX5_ask_11 : decode cX5_ask 11 = .ok (.iload_n 3, 1) := by decide +kernel
theorem dX5_ask_12 : decode cX5_ask 12 = .ok (.aload_n 0, 1) := by decide +kernel
theorem dX5_ask_13 : decode cX5_ask 13 = .ok (.iload_n 1, 1) := by decide +kernel
theorem dX5_ask_14 : decode cX5_ask 14 = .ok (.iload_n 3, 1) := by decide +kernel
theorem dX5_ask_15 : decode cX5_ask 15 = .ok (.invokevirtual 191, 3) := by decide +kernel
theorem dX5_ask_18 : decode cX5_ask 18 = .ok (.i2l, 1) := by decide +kernel
theorem dX5_ask_19 : decode cX5_ask 19 = .ok (.lastore, 1) := by decide +kernel
theorem dX5_ask_20 : decode cX5_ask 20 = .ok (.aload_n 0, 1) := by decide +kernel
theorem dX5_ask_21 : decode cX5_ask 21 = .ok (.getfield 96, 3) := by decide +kernel
theorem dX5_ask_24 : decode cX5_ask 24 = .ok (.iload_n 3, 1) := by decide +kernel
theorem dX5_ask_25 : decode cX5_ask 25 = .ok (.aload_n 0, 1) := by decide +kernel
theorem dX5_ask_26 : decode cX5_ask 26 = .ok (.iload_n 1, 1) := by decide +kernel
theorem dX5_ask_27 : decode cX5_ask 27 = .ok (.iload_n 2, 1) := by decide +kernel
theorem dX5_ask_28 : decode cX5_ask 28 = .ok (.iload_n 3, 1) := by decide +kernel
theorem dX5_ask_29 : decode cX5_ask 29 = .ok (.invokevirtual 194, 3) := by decide +kernel
theorem dX5_ask_32 : decode cX5_ask 32 = .ok (.i2l, 1) := by decide +kernel
theorem dX5_ask_33 : decode cX5_ask 33 = .ok (.lastore, 1) := by decide +kernel
theorem dX5_ask_34 : decode cX5_ask 34 = .ok (.iinc 3 1, 3) := by decide +kernel
theorem dX5_ask_37 : decode cX5_ask 37 = .ok (.goto (-35), 3) := by decide +kernel
theorem dX5_ask_40 : decode cX5_ask 40 = .ok (.return_, 1) := by decide +kernel
theorem dX5_bars_0 : decode cX5_bars 0 = .ok (.aload_n 0, 1) := by decide +kernel
theorem dX5_bars_1 : decode cX5_bars 1 = .ok (.iload_n 1, 1) := by decide +kernel
theorem dX5_bars_2 : decode cX5_bars 2 = .ok (.iload_n 2, 1) := by decide +kernel
theorem dX5_bars_3 : decode cX5_bars 3 = .ok (.invokevirtual 198, 3) := by decide +kernel
theorem dX5_bars_6 : decode cX5_bars 6 = .ok (.iconst 0, 1) := by decide +kernel
theorem dX5_bars_7 : decode cX5_bars 7 = .ok (.istore_n 3, 1) := by decide +kernel
theorem dX5_bars_8 : decode cX5_bars 8 = .ok (.iconst 0, 1) := by decide +kernel
theorem dX5_bars_9 : decode cX5_bars 9 = .ok (.istore 4, 2) := by decide +kernel
theorem dX5_bars_11 : decode cX5_bars 11 = .ok (.iload 4, 2) := by decide +kernel
theorem dX5_bars_13 : decode cX5_bars 13 = .ok (.aload_n 0, 1) := by decide +kernel
theorem dX5_bars_14 : decode cX5_bars 14 = .ok (.getfield 120, 3) := by decide +kernel
theorem dX5_bars_17 : decode cX5_bars 17 = .ok (.if_icmp .ge 156, 3) := by decide +kernel
theorem dX5_bars_20 : decode cX5_bars 20 = .ok (.aload_n 0, 1) := by decide +kernel
theorem dX5_bars_21 : decode cX5_bars 21 = .ok (.getfield 26, 3) := by decide +kernel
theorem dX5_bars_24 : decode cX5_bars 24 = .ok (.iload 4, 2) := by decide +kernel
theorem dX5_bars_26 : decode cX5_bars 26 = .ok (.iaload, 1) := by decide +kernel
theorem dX5_bars_27 : decode cX5_bars 27 = .ok (.aload_n 0, 1) := by decide +kernel
theorem dX5_bars_28 : decode cX5_bars 28 = .ok (.getfield 71, 3) := by decide +kernel
theorem dX5_bars_31 : decode cX5_bars 31 = .ok (.iload_n 1, 1) := by decide +kernel
theorem dX5_bars_32 : decode cX5_bars 32 = .ok (.iaload, 1) := by decide +kernel
theorem dX5_bars_33 : decode cX5_bars 33 = .ok (.if_icmp .ne 134, 3) := by decide +kernel
theorem dX5_bars_36 : decode cX5_bars 36 = .ok (.aload_n 0, 1) := by decide +kernel
theorem dX5_bars_37 : decode cX5_bars 37 = .ok (.iconst 0, 1) := by decide +kernel
theorem dX5_bars_38 : decode cX5_bars 38 = .ok (.aload_n 0, 1) := by decide +kernel
theorem dX5_bars_39 : decode cX5_bars 39 = .ok (.getfield 29, 3) := by decide +kernel
theorem dX5_bars_42 : decode cX5_bars 42 = .ok (.iload 4, 2) := by decide +kernel
theorem dX5_bars_44 : decode cX5_bars 44 = .ok (.iaload, 1) := by decide +kernel
theorem dX5_bars_45 : decode cX5_bars 45 = .ok (.i2l, 1) := by decide +kernel
theorem dX5_bars_46 : decode cX5_bars 46 = .ok (.aload_n 0, 1) := by decide +kernel
theorem dX5_bars_47 : decode cX5_bars 47 = .ok (.getfield 32, 3) := by decide +kernel
theorem dX5_bars_50 : decode cX5_bars 50 = .ok (.iload 4, 2) := by decide +kernel
theorem dX5_bars_52 : decode cX5_bars 52 = .ok (.iaload, 1) := by decide +kernel
theorem dX5_bars_53 : decode cX5_bars 53 = .ok (.i2l, 1) := by decide +kernel
theorem dX5_bars_54 : decode cX5_bars 54 = .ok (.invokevirtual 201, 3) := by decide +kernel
theorem dX5_bars_57 : decode cX5_bars 57 = .ok (.aload_n 0, 1) := by decide +kernel
theorem dX5_bars_58 : decode cX5_bars 58 = .ok (.iconst 1, 1) := by decide +kernel
theorem dX5_bars_59 : decode cX5_bars 59 = .ok (.aload_n 0, 1) := by decide +kernel
theorem dX5_bars_60 : decode cX5_bars 60 = .ok (.getfield 29, 3) := by decide +kernel
theorem dX5_bars_63 : decode cX5_bars 63 = .ok (.iload 4, 2) := by decide +kernel
theorem dX5_bars_65 : decode cX5_bars 65 = .ok (.iaload, 1) := by decide +kernel
theorem dX5_bars_66 : decode cX5_bars 66 = .ok (.aload_n 0, 1) := by decide +kernel
theorem dX5_bars_67 : decode cX5_bars 67 = .ok (.getfield 35, 3) := by decide +kernel
theorem dX5_bars_70 : decode cX5_bars 70 = .ok (.iload 4, 2) := by decide +kernel
theorem dX5_bars_72 : decode cX5_bars 72 = .ok (.iaload, 1) := by decide +kernel
theorem dX5_bars_73 : decode cX5_bars 73 = .ok (.iadd, 1) := by decide +kernel
theorem dX5_bars_74 : decode cX5_bars 74 = .ok (.i2l, 1) := by decide +kernel
theorem dX5_bars_75 : decode cX5_bars 75 = .ok (.aload_n 0, 1) := by decide +kernel
theorem dX5_bars_76 : decode cX5_bars 76 = .ok (.getfield 32, 3) := by decide +kernel
theorem dX5_bars_79 : decode cX5_bars 79 = .ok (.iload 4, 2) := by decide +kernel
theorem dX5_bars_81 : decode cX5_bars 81 = .ok (.iaload, 1) := by decide +kernel
theorem dX5_bars_82 : decode cX5_bars 82 = .ok (.i2l, 1) := by decide +kernel
theorem dX5_bars_83 : decode cX5_bars 83 = .ok (.invokevirtual 201, 3) := by decide +kernel
theorem dX5_bars_86 : decode cX5_bars 86 = .ok (.aload_n 0, 1) := by decide +kernel
theorem dX5_bars_87 : decode cX5_bars 87 = .ok (.iconst 2, 1) := by decide +kernel
theorem dX5_bars_88 : decode cX5_bars 88 = .ok (.aload_n 0, 1) := by decide +kernel
theorem dX5_bars_89 : decode cX5_bars 89 = .ok (.getfield 29, 3) := by decide +kernel
theorem dX5_bars_92 : decode cX5_bars 92 = .ok (.iload 4, 2) := by decide +kernel
theorem dX5_bars_94 : decode cX5_bars 94 = .ok (.iaload, 1) := by decide +kernel
theorem dX5_bars_95 : decode cX5_bars 95 = .ok (.aload_n 0, 1) := by decide +kernel
theorem dX5_bars_96 : decode cX5_bars 96 = .ok (.getfield 35, 3) := by decide +kernel
theorem dX5_bars_99 : decode cX5_bars 99 = .ok (.iload 4, 2) := by decide +kernel
theorem dX5_bars_101 : decode cX5_bars 101 = .ok (.iaload, 1) := by decide +kernel
theorem dX5_bars_102 : decode cX5_bars 102 = .ok (.iadd, 1) := by decide +kernel
theorem dX5_bars_103 : decode cX5_bars 103 = .ok (.i2l, 1) := by decide +kernel
theorem dX5_bars_104 : decode cX5_bars 104 = .ok (.aload_n 0, 1) := by decide +kernel
theorem dX5_bars_105 : decode cX5_bars 105 = .ok (.getfield 32, 3) := by decide +kernel
theorem dX5_bars_108 : decode cX5_bars 108 = .ok (.iload 4, 2) := by decide +kernel
theorem dX5_bars_110 : decode cX5_bars 110 = .ok (.iaload, 1) := by decide +kernel
theorem dX5_bars_111 : decode cX5_bars 111 = .ok (.aload_n 0, 1) := by decide +kernel
theorem dX5_bars_112 : decode cX5_bars 112 = .ok (.getfield 38, 3) := by decide +kernel
theorem dX5_bars_115 : decode cX5_bars 115 = .ok (.iload 4, 2) := by decide +kernel
theorem dX5_bars_117 : decode cX5_bars 117 = .ok (.iaload, 1) := by decide +kernel
theorem dX5_bars_118 : decode cX5_bars 118 = .ok (.iadd, 1) := by decide +kernel
theorem dX5_bars_119 : decode cX5_bars 119 = .ok (.i2l, 1) := by decide +kernel
theorem dX5_bars_120 : decode cX5_bars 120 = .ok (.invokevirtual 201, 3) := by decide +kernel
theorem dX5_bars_123 : decode cX5_bars 123 = .ok (.aload_n 0, 1) := by decide +kernel
theorem dX5_bars_124 : decode cX5_bars 124 = .ok (.iconst 3, 1) := by decide +kernel
theorem dX5_bars_125 : decode cX5_bars 125 = .ok (.aload_n 0, 1) := by decide +kernel
theorem dX5_bars_126 : decode cX5_bars 126 = .ok (.getfield 29, 3) := by decide +kernel
theorem dX5_bars_129 : decode cX5_bars 129 = .ok (.iload 4, 2) := by decide +kernel
theorem dX5_bars_131 : decode cX5_bars 131 = .ok (.iaload, 1) := by decide +kernel
theorem dX5_bars_132 : decode cX5_bars 132 = .ok (.i2l, 1) := by decide +kernel
theorem dX5_bars_133 : decode cX5_bars 133 = .ok (.aload_n 0, 1) := by decide +kernel
theorem dX5_bars_134 : decode cX5_bars 134 = .ok (.getfield 32, 3) := by decide +kernel
theorem dX5_bars_137 : decode cX5_bars 137 = .ok (.iload 4, 2) := by decide +kernel
theorem dX5_bars_139 : decode cX5_bars 139 = .ok (.iaload, 1) := by decide +kernel
theorem dX5_bars_140 : decode cX5_bars 140 = .ok (.aload_n 0, 1) := by decide +kernel
theorem dX5_bars_141 : decode cX5_bars 141 = .ok (.getfield 38, 3) := by decide +kernel
theorem dX5_bars_144 : decode cX5_bars 144 = .ok (.iload 4, 2) := by decide +kernel
theorem dX5_bars_146 : decode cX5_bars 146 = .ok (.iaload, 1) := by decide +kernel
theorem dX5_bars_147 : decode cX5_bars 147 = .ok (.iadd, 1) := by decide +kernel
theorem dX5_bars_148 : decode cX5_bars 148 = .ok (.i2l, 1) := by decide +kernel
theorem dX5_bars_149 : decode cX5_bars 149 = .ok (.invokevirtual 201, 3) := by decide +kernel
theorem dX5_bars_152 : decode cX5_bars 152 = .ok (.iload_n 3, 1) := by decide +kernel
theorem dX5_bars_153 : decode cX5_bars 153 = .ok (.aload_n 0, 1) := by decide +kernel
theorem dX5_bars_154 : decode cX5_bars 154 = .ok (.invokevirtual 205, 3) := by decide +kernel
theorem dX5_bars_157 : decode cX5_bars 157 = .ok (.ifCond .eq 7, 3) := by decide +kernel
theorem dX5_bars_160 : decode cX5_bars 160 = .ok (.iconst 1, 1) := by decide +kernel
theorem dX5_bars_161 : decode cX5_bars 161 = .ok (.goto 4, 3) := by decide +kernel
theorem dX5_bars_164 : decode cX5_bars 164 = .ok (.iconst 0, 1) := by decide +kernel
theorem dX5_bars_165 : decode cX5_bars 165 = .ok (.iadd, 1) := by decide +kernel
theorem dX5_bars_166 : decode cX5_bars 166 = .ok (.istore_n 3, 1) := by decide +kernel
theorem dX5_bars_167 : decode cX5_bars 167 = .ok (.iinc 4 1, 3) := by decide +kernel
theorem dX5_bars_170 : decode cX5_bars 170 = .ok (.goto (-159), 3) := by decide +kernel
theorem dX5_bars_173 : decode cX5_bars 173 = .ok (.iconst 0, 1) := by decide +kernel
theorem dX5_bars_174 : decode cX5_bars 174 = .ok (.istore 4, 2) := by decide +kernel
theorem dX5_bars_176 : decode cX5_bars 176 = .ok (.iload 4, 2) := by decide +kernel
theorem dX5_bars_178 : decode cX5_bars 178 = .ok (.aload_n 0, 1) := by decide +kernel
theorem dX5_bars_179 : decode cX5_bars 179 = .ok (.getfield 123, 3) := by decide +kernel
theorem dX5_bars_182 : decode cX5_bars 182 = .ok (.if_icmp .ge 140, 3) := by decide +kernel
theorem dX5_bars_185 : decode cX5_bars 185 = .ok (.aload_n 0, 1) := by decide +kernel
theorem dX5_bars_186 : decode cX5_bars 186 = .ok (.getfield 41, 3) := by decide +kernel
theorem dX5_bars_189 : decode cX5_bars 189 = .ok (.iload 4, 2) := by decide +kernel
theorem dX5_bars_191 : decode cX5_bars 191 = .ok (.iaload, 1) := by decide +kernel
theorem dX5_bars_192 : decode cX5_bars 192 = .ok (.aload_n 0, 1) := by decide +kernel
theorem dX5_bars_193 : decode cX5_bars 193 = .ok (.getfield 71, 3) := by decide +kernel
theorem dX5_bars_196 : decode cX5_bars 196 = .ok (.iload_n 1, 1) := by decide +kernel
theorem dX5_bars_197 : decode cX5_bars 197 = .ok (.iaload, 1) := by decide +kernel
theorem dX5_bars_198 : decode cX5_bars 198 = .ok (.if_icmp .ne 118, 3) := by decide +kernel
theorem dX5_bars_201 : decode cX5_bars 201 = .ok (.aload_n 0, 1) := by decide +kernel
theorem dX5_bars_202 : decode cX5_bars 202 = .ok (.iconst 0, 1) := by decide +kernel
theorem dX5_bars_203 : decode cX5_bars 203 = .ok (.aload_n 0, 1) := by decide +kernel
theorem dX5_bars_204 : decode cX5_bars 204 = .ok (.getfield 44, 3) := by decide +kernel
theorem dX5_bars_207 : decode cX5_bars 207 = .ok (.iload 4, 2) := by decide +kernel
theorem dX5_bars_209 : decode cX5_bars 209 = .ok (.iaload, 1) := by decide +kernel
theorem dX5_bars_210 : decode cX5_bars 210 = .ok (.i2l, 1) := by decide +kernel
theorem dX5_bars_211 : decode cX5_bars 211 = .ok (.aload_n 0, 1) := by decide +kernel
theorem dX5_bars_212 : decode cX5_bars 212 = .ok (.getfield 50, 3) := by decide +kernel
theorem dX5_bars_215 : decode cX5_bars 215 = .ok (.iload 4, 2) := by decide +kernel
theorem dX5_bars_217 : decode cX5_bars 217 = .ok (.iaload, 1) := by decide +kernel
theorem dX5_bars_218 : decode cX5_bars 218 = .ok (.i2l, 1) := by decide +kernel
theorem dX5_bars_219 : decode cX5_bars 219 = .ok (.invokevirtual 201, 3) := by decide +kernel
theorem dX5_bars_222 : decode cX5_bars 222 = .ok (.aload_n 0, 1) := by decide +kernel
theorem dX5_bars_223 : decode cX5_bars 223 = .ok (.iconst 1, 1) := by decide +kernel
theorem dX5_bars_224 : decode cX5_bars 224 = .ok (.aload_n 0, 1) := by decide +kernel
theorem dX5_bars_225 : decode cX5_bars 225 = .ok (.getfield 47, 3) := by decide +kernel
theorem dX5_bars_228 : decode cX5_bars 228 = .ok (.iload 4, 2) := by decide +kernel
theorem dX5_bars_230 : decode cX5_bars 230 = .ok (.iaload, 1) := by decide +kernel
theorem dX5_bars_231 : decode cX5_bars 231 = .ok (.i2l, 1) := by decide +kernel
theorem dX5_bars_232 : decode cX5_bars 232 = .ok (.aload_n 0, 1) := by decide +kernel
theorem dX5_bars_233 : decode cX5_bars 233 = .ok (.getfield 50, 3) := by decide +kernel
theorem dX5_bars_236 : decode cX5_bars 236 = .ok (.iload 4, 2) := by decide +kernel
theorem dX5_bars_238 : decode cX5_bars 238 = .ok (.iaload, 1) := by decide +kernel
theorem dX5_bars_239 : decode cX5_bars 239 = .ok (.aload_n 0, 1) := by decide +kernel
theorem dX5_bars_240 : decode cX5_bars 240 = .ok (.getfield 53, 3) := by decide +kernel
theorem dX5_bars_243 : decode cX5_bars 243 = .ok (.iload 4, 2) := by decide +kernel
theorem dX5_bars_245 : decode cX5_bars 245 = .ok (.iaload, 1) := by decide +kernel
theorem dX5_bars_246 : decode cX5_bars 246 = .ok (.isub, 1) := by decide +kernel
theorem dX5_bars_247 : decode cX5_bars 247 = .ok (.i2l, 1) := by decide +kernel
theorem dX5_bars_248 : decode cX5_bars 248 = .ok (.invokevirtual 201, 3) := by decide +kernel
theorem dX5_bars_251 : decode cX5_bars 251 = .ok (.aload_n 0, 1) := by decide +kernel
theorem dX5_bars_252 : decode cX5_bars 252 = .ok (.iconst 2, 1) := by decide +kernel
theorem dX5_bars_253 : decode cX5_bars 253 = .ok (.aload_n 0, 1) := by decide +kernel
theorem dX5_bars_254 : decode cX5_bars 254 = .ok (.getfield 47, 3) := by decide +kernel
theorem dX5_bars_257 : decode cX5_bars 257 = .ok (.iload 4, 2) := by decide +kernel
theorem dX5_bars_259 : decode cX5_bars 259 = .ok (.iaload, 1) := by decide +kernel
theorem dX5_bars_260 : decode cX5_bars 260 = .ok (.i2l, 1) := by decide +kernel
theorem dX5_bars_261 : decode cX5_bars 261 = .ok (.aload_n 0, 1) := by decide +kernel
theorem dX5_bars_262 : decode cX5_bars 262 = .ok (.getfield 50, 3) := by decide +kernel
theorem dX5_bars_265 : decode cX5_bars 265 = .ok (.iload 4, 2) := by decide +kernel
theorem dX5_bars_267 : decode cX5_bars 267 = .ok (.iaload, 1) := by decide +kernel
theorem dX5_bars_268 : decode cX5_bars 268 = .ok (.aload_n 0, 1) := by decide +kernel
theorem dX5_bars_269 : decode cX5_bars 269 = .ok (.getfield 53, 3) := by decide +kernel
theorem dX5_bars_272 : decode cX5_bars 272 = .ok (.iload 4, 2) := by decide +kernel
theorem dX5_bars_274 : decode cX5_bars 274 = .ok (.iaload, 1) := by decide +kernel
theorem dX5_bars_275 : decode cX5_bars 275 = .ok (.iadd, 1) := by decide +kernel
theorem dX5_bars_276 : decode cX5_bars 276 = .ok (.i2l, 1) := by decide +kernel
theorem dX5_bars_277 : decode cX5_bars 277 = .ok (.invokevirtual 201, 3) := by decide +kernel
theorem dX5_bars_280 : decode cX5_bars 280 = .ok (.aload_n 0, 1) := by decide +kernel
theorem dX5_bars_281 : decode cX5_bars 281 = .ok (.iconst 3, 1) := by decide +kernel
theorem dX5_bars_282 : decode cX5_bars 282 = .ok (.aload_n 0, 1) := by decide +kernel
theorem dX5_bars_283 : decode cX5_bars 283 = .ok (.getfield 44, 3) := by decide +kernel
theorem dX5_bars_286 : decode cX5_bars 286 = .ok (.iload 4, 2) := by decide +kernel
theorem dX5_bars_288 : decode cX5_bars 288 = .ok (.iaload, 1) := by decide +kernel
theorem dX5_bars_289 : decode cX5_bars 289 = .ok (.i2l, 1) := by decide +kernel
theorem dX5_bars_290 : decode cX5_bars 290 = .ok (.aload_n 0, 1) := by decide +kernel
theorem dX5_bars_291 : decode cX5_bars 291 = .ok (.getfield 50, 3) := by decide +kernel
theorem dX5_bars_294 : decode cX5_bars 294 = .ok (.iload 4, 2) := by decide +kernel
theorem dX5_bars_296 : decode cX5_bars 296 = .ok (.iaload, 1) := by decide +kernel
theorem dX5_bars_297 : decode cX5_bars 297 = .ok (.i2l, 1) := by decide +kernel
theorem dX5_bars_298 : decode cX5_bars 298 = .ok (.invokevirtual 201, 3) := by decide +kernel
theorem dX5_bars_301 : decode cX5_bars 301 = .ok (.iload_n 3, 1) := by decide +kernel
theorem dX5_bars_302 : decode cX5_bars 302 = .ok (.aload_n 0, 1) := by decide +kernel
theorem dX5_bars_303 : decode cX5_bars 303 = .ok (.invokevirtual 205, 3) := by decide +kernel
theorem dX5_bars_306 : decode cX5_bars 306 = .ok (.ifCond .eq 7, 3) := by decide +kernel
theorem dX5_bars_309 : decode cX5_bars 309 = .ok (.iconst 1, 1) := by decide +kernel
theorem dX5_bars_310 : decode cX5_bars 310 = .ok (.goto 4, 3) := by decide +kernel
theorem dX5_bars_313 : decode cX5_bars 313 = .ok (.iconst 0, 1) := by decide +kernel
theorem dX5_bars_314 : decode cX5_bars 314 = .ok (.iadd, 1) := by decide +kernel
theorem dX5_bars_315 : decode cX5_bars 315 = .ok (.istore_n 3, 1) := by decide +kernel
theorem dX5_bars_316 : decode cX5_bars 316 = .ok (.iinc 4 1, 3) := by decide +kernel
theorem dX5_bars_319 : decode cX5_bars 319 = .ok (.goto (-143), 3) := by decide +kernel
theorem dX5_bars_322 : decode cX5_bars 322 = .ok (.iload_n 3, 1) := by decide +kernel
theorem dX5_bars_323 : decode cX5_bars 323 = .ok (.ireturn, 1) := by decide +kernel
theorem dX5_isIn_0 : decode cX5_isIn 0 = .ok (.iload_n 1, 1) := by decide +kernel
theorem dX5_isIn_1 : decode cX5_isIn 1 = .ok (.iconst 2, 1) := by decide +kernel
theorem dX5_isIn_2 : decode cX5_isIn 2 = .ok (.idiv, 1) := by decide +kernel
theorem dX5_isIn_3 : decode cX5_isIn 3 = .ok (.iload_n 2, 1) := by decide +kernel
theorem dX5_isIn_4 : decode cX5_isIn 4 = .ok (.iconst 2, 1) := by decide +kernel
theorem dX5_isIn_5 : decode cX5_isIn 5 = .ok (.idiv, 1) := by decide +kernel
theorem dX5_isIn_6 : decode cX5_isIn 6 = .ok (.if_icmp .ge 71, 3) := by decide +kernel
theorem dX5_isIn_9 : decode cX5_isIn 9 = .ok (.aload_n 0, 1) := by decide +kernel
theorem dX5_isIn_10 : decode cX5_isIn 10 = .ok (.getfield 71, 3) := by decide +kernel
theorem dX5_isIn_13 : decode cX5_isIn 13 = .ok (.iload_n 1, 1) := by decide +kernel
theorem dX5_isIn_14 : decode cX5_isIn 14 = .ok (.iaload, 1) := by decide +kernel
theorem dX5_isIn_15 : decode cX5_isIn 15 = .ok (.aload_n 0, 1) := by decide +kernel
theorem dX5_isIn_16 : decode cX5_isIn 16 = .ok (.getfield 71, 3) := by decide +kernel
theorem dX5_isIn_19 : decode cX5_isIn 19 = .ok (.iload_n 2, 1) := by decide +kernel
theorem dX5_isIn_20 : decode cX5_isIn 20 = .ok (.iaload, 1) := by decide +kernel
theorem dX5_isIn_21 : decode cX5_isIn 21 = .ok (.if_icmp .ne 56, 3) := by decide +kernel
theorem dX5_isIn_24 : decode cX5_isIn 24 = .ok (.aload_n 0, 1) := by decide +kernel
theorem dX5_isIn_25 : decode cX5_isIn 25 = .ok (.getfield 65, 3) := by decide +kernel
theorem dX5_isIn_28 : decode cX5_isIn 28 = .ok (.iload_n 1, 1) := by decide +kernel
theorem dX5_isIn_29 : decode cX5_isIn 29 = .ok (.iconst 2, 1) := by decide +kernel
theorem dX5_isIn_30 : decode cX5_isIn 30 = .ok (.idiv, 1) := by decide +kernel
theorem dX5_isIn_31 : decode cX5_isIn 31 = .ok (.iaload, 1) := by decide +kernel
theorem dX5_isIn_32 : decode cX5_isIn 32 = .ok (.aload_n 0, 1) := by decide +kernel
theorem dX5_isIn_33 : decode cX5_isIn 33 = .ok (.getfield 65, 3) := by decide +kernel
theorem dX5_isIn_36 : decode cX5_isIn 36 = .ok (.iload_n 2, 1) := by decide +kernel
theorem dX5_isIn_37 : decode cX5_isIn 37 = .ok (.iconst 2, 1) := by decide +kernel
theorem dX5_isIn_38 : decode cX5_isIn 38 = .ok (.idiv, 1) := by decide +kernel
theorem dX5_isIn_39 : decode cX5_isIn 39 = .ok (.iaload, 1) := by decide +kernel
theorem dX5_isIn_40 : decode cX5_isIn 40 = .ok (.if_icmp .ne 37, 3) := by decide +kernel
theorem dX5_isIn_43 : decode cX5_isIn 43 = .ok (.aload_n 0, 1) := by decide +kernel
theorem dX5_isIn_44 : decode cX5_isIn 44 = .ok (.getfield 74, 3) := by decide +kernel
theorem dX5_isIn_47 : decode cX5_isIn 47 = .ok (.iload_n 1, 1) := by decide +kernel
theorem dX5_isIn_48 : decode cX5_isIn 48 = .ok (.iaload, 1) := by decide +kernel
theorem dX5_isIn_49 : decode cX5_isIn 49 = .ok (.aload_n 0, 1) := by decide +kernel
theorem dX5_isIn_50 : decode cX5_isIn 50 = .ok (.getfield 74, 3) := by decide +kernel
theorem dX5_isIn_53 : decode cX5_isIn 53 = .ok (.iload_n 2, 1) := by decide +kernel
theorem dX5_isIn_54 : decode cX5_isIn 54 = .ok (.iaload, 1) := by decide +kernel
theorem dX5_isIn_55 : decode cX5_isIn 55 = .ok (.if_icmp .lt 22, 3) := by decide +kernel
theorem dX5_isIn_58 : decode cX5_isIn 58 = .ok (.aload_n 0, 1) := by decide +kernel
theorem dX5_isIn_59 : decode cX5_isIn 59 = .ok (.getfield 80, 3) := by decide +kernel
theorem dX5_isIn_62 : decode cX5_isIn 62 = .ok (.iload_n 1, 1) := by decide +kernel
theorem dX5_isIn_63 : decode cX5_isIn 63 = .ok (.iaload, 1) := by decide +kernel
theorem dX5_isIn_64 : decode cX5_isIn 64 = .ok (.aload_n 0, 1) := by decide +kernel
theorem dX5_isIn_65 : decode cX5_isIn 65 = .ok (.getfield 80, 3) := by decide +kernel
theorem dX5_isIn_68 : decode cX5_isIn 68 = .ok (.iload_n 2, 1) := by decide +kernel
theorem dX5_isIn_69 : decode cX5_isIn 69 = .ok (.iaload, 1) := by decide +kernel
theorem dX5_isIn_70 : decode cX5_isIn 70 = .ok (.if_icmp .gt 7, 3) := by decide +kernel
theorem dX5_isIn_73 : decode cX5_isIn 73 = .ok (.iconst 1, 1) := by decide +kernel
theorem dX5_isIn_74 : decode cX5_isIn 74 = .ok (.goto 4, 3) := by decide +kernel
theorem dX5_isIn_77 : decode cX5_isIn 77 = .ok (.iconst 0, 1) := by decide +kernel
theorem dX5_isIn_78 : decode cX5_isIn 78 = .ok (.ireturn, 1) := by decide +kernel
theorem dX5_hulls_0 : decode cX5_hulls 0 = .ok (.aload_n 0, 1) := by decide +kernel
theorem dX5_hulls_1 : decode cX5_hulls 1 = .ok (.iload_n 1, 1) := by decide +kernel
theorem dX5_hulls_2 : decode cX5_hulls 2 = .ok (.iload_n 2, 1) := by decide +kernel
theorem dX5_hulls_3 : decode cX5_hulls 3 = .ok (.invokevirtual 198, 3) := by decide +kernel
theorem dX5_hulls_6 : decode cX5_hulls 6 = .ok (.iconst 0, 1) := by decide +kernel
theorem dX5_hulls_7 : decode cX5_hulls 7 = .ok (.istore_n 3, 1) := by decide +kernel
theorem dX5_hulls_8 : decode cX5_hulls 8 = .ok (.iconst 0, 1) := by decide +kernel
theorem dX5_hulls_9 : decode cX5_hulls 9 = .ok (.istore 4, 2) := by decide +kernel
theorem dX5_hulls_11 : decode cX5_hulls 11 = .ok (.iload 4, 2) := by decide +kernel
theorem dX5_hulls_13 : decode cX5_hulls 13 = .ok (.iconst 2, 1) := by decide +kernel
theorem dX5_hulls_14 : decode cX5_hulls 14 = .ok (.aload_n 0, 1) := by decide +kernel
theorem dX5_hulls_15 : decode cX5_hulls 15 = .ok (.getfield 136, 3) := by decide +kernel
theorem dX5_hulls_18 : decode cX5_hulls 18 = .ok (.imul, 1) := by decide +kernel
theorem dX5_hulls_19 : decode cX5_hulls 19 = .ok (.if_icmp .ge 96, 3) := by decide +kernel
theorem dX5_hulls_22 : decode cX5_hulls 22 = .ok (.iload 4, 2) := by decide +kernel
theorem dX5_hulls_24 : decode cX5_hulls 24 = .ok (.iconst 2, 1) := by decide +kernel
theorem dX5_hulls_25 : decode cX5_hulls 25 = .ok (.irem, 1) := by decide +kernel
theorem dX5_hulls_26 : decode cX5_hulls 26 = .ok (.aload_n 0, 1) := by decide +kernel
theorem dX5_hulls_27 : decode cX5_hulls 27 = .ok (.getfield 68, 3) := by decide +kernel
theorem dX5_hulls_30 : decode cX5_hulls 30 = .ok (.iload 4, 2) := by decide +kernel
theorem dX5_hulls_32 : decode cX5_hulls 32 = .ok (.iconst 2, 1) := by decide +kernel
theorem dX5_hulls_33 : decode cX5_hulls 33 = .ok (.idiv, 1) := by decide +kernel
theorem dX5_hulls_34 : decode cX5_hulls 34 = .ok (.iaload, 1) := by decide +kernel
theorem dX5_hulls_35 : decode cX5_hulls 35 = .ok (.if_icmp .ge 74, 3) := by decide +kernel
theorem dX5_hulls_38 : decode cX5_hulls 38 = .ok (.aload_n 0, 1) := by decide +kernel
theorem dX5_hulls_39 : decode cX5_hulls 39 = .ok (.iload 4, 2) := by decide +kernel
theorem dX5_hulls_41 : decode cX5_hulls 41 = .ok (.iload_n 1, 1) := by decide +kernel
theorem dX5_hulls_42 : decode cX5_hulls 42 = .ok (.invokevirtual 209, 3) := by decide +kernel
theorem dX5_hulls_45 : decode cX5_hulls 45 = .ok (.ifCond .eq 64, 3) := by decide +kernel
theorem dX5_hulls_48 : decode cX5_hulls 48 = .ok (.iconst 0, 1) := by decide +kernel
theorem dX5_hulls_49 : decode cX5_hulls 49 = .ok (.istore 5, 2) := by decide +kernel
theorem dX5_hulls_51 : decode cX5_hulls 51 = .ok (.iload 5, 2) := by decide +kernel
theorem dX5_hulls_53 : decode cX5_hulls 53 = .ok (.iconst 4, 1) := by decide +kernel
theorem dX5_hulls_54 : decode cX5_hulls 54 = .ok (.if_icmp .ge 40, 3) := by decide +kernel
theorem dX5_hulls_57 : decode cX5_hulls 57 = .ok (.aload_n 0, 1) := by decide +kernel
theorem dX5_hulls_58 : decode cX5_hulls 58 = .ok (.iload 5, 2) := by decide +kernel
theorem dX5_hulls_60 : decode cX5_hulls 60 = .ok (.aload_n 0, 1) := by decide +kernel
theorem dX5_hulls_61 : decode cX5_hulls 61 = .ok (.iload 4, 2) := by decide +kernel
theorem dX5_hulls_63 : decode cX5_hulls 63 = .ok (.iload 5, 2) := by decide +kernel
theorem dX5_hulls_65 : decode cX5_hulls 65 = .ok (.invokevirtual 191, 3) := by decide +kernel
theorem dX5_hulls_68 : decode cX5_hulls 68 = .ok (.i2l, 1) := by decide +kernel
theorem dX5_hulls_69 : decode cX5_hulls 69 = .ok (.aload_n 0, 1) := by decide +kernel
theorem dX5_hulls_70 : decode cX5_hulls 70 = .ok (.iload 4, 2) := by decide +kernel
theorem dX5_hulls_72 : decode cX5_hulls 72 = .ok (.aload_n 0, 1) := by decide +kernel
theorem dX5_hulls_73 : decode cX5_hulls 73 = .ok (.getfield 86, 3) := by decide +kernel
theorem dX5_hulls_76 : decode cX5_hulls 76 = .ok (.iload 4, 2) := by decide +kernel
theorem dX5_hulls_78 : decode cX5_hulls 78 = .ok (.iaload, 1) := by decide +kernel
theorem dX5_hulls_79 : decode cX5_hulls 79 = .ok (.iload 5, 2) := by decide +kernel
theorem dX5_hulls_81 : decode cX5_hulls 81 = .ok (.invokevirtual 194, 3) := by decide +kernel
theorem dX5_hulls_84 : decode cX5_hulls 84 = .ok (.i2l, 1) := by decide +kernel
theorem dX5_hulls_85 : decode cX5_hulls 85 = .ok (.invokevirtual 201, 3) := by decide +kernel
theorem dX5_hulls_88 : decode cX5_hulls 88 = .ok (.iinc 5 1, 3) := by decide +kernel
theorem dX5_hulls_91 : decode cX5_hulls 91 = .ok (.goto (-40), 3) := by decide +kernel
theorem dX5_hulls_94 : decode cX5_hulls 94 = .ok (.iload_n 3, 1) := by decide +kernel
theorem dX5_hulls_95 : decode cX5_hulls 95 = .ok (.aload_n 0, 1) := by decide +kernel
theorem dX5_hulls_96 : decode cX5_hulls 96 = .ok (.invokevirtual 205, 3) := by decide +kernel
theorem dX5_hulls_99 : decode cX5_hulls 99 = .ok (.ifCond .eq 7, 3) := by decide +kernel
theorem dX5_hulls_102 : decode cX5_hulls 102 = .ok (.iconst 1, 1) := by decide +kernel
theorem dX5_hulls_103 : decode cX5_hulls 103 = .ok (.goto 4, 3) := by decide +kernel
theorem dX5_hulls_106 : decode cX5_hulls 106 = .ok (.iconst 0, 1) := by decide +kernel
theorem dX5_hulls_107 : decode cX5_hulls 107 = .ok (.iadd, 1) := by decide +kernel
theorem dX5_hulls_108 : decode cX5_hulls 108 = .ok (.istore_n 3, 1) := by decide +kernel
theorem dX5_hulls_109 : decode cX5_hulls 109 = .ok (.iinc 4 1, 3) := by decide +kernel
theorem dX5_hulls_112 : decode cX5_hulls 112 = .ok (.goto (-101), 3) := by decide +kernel
theorem dX5_hulls_115 : decode cX5_hulls 115 = .ok (.iload_n 3, 1) := by decide +kernel
theorem dX5_hulls_116 : decode cX5_hulls 116 = .ok (.ireturn, 1) := by decide +kernel
theorem dX5_choose_0 : decode cX5_choose 0 = .ok (.iconst 2, 1) := by decide +kernel
theorem dX5_choose_1 : decode cX5_choose 1 = .ok (.iload_n 1, 1) := by decide +kernel
theorem dX5_choose_2 : decode cX5_choose 2 = .ok (.imul, 1) := by decide +kernel
theorem dX5_choose_3 : decode cX5_choose 3 = .ok (.iload_n 2, 1) := by decide +kernel
theorem dX5_choose_4 : decode cX5_choose 4 = .ok (.iadd, 1) := by decide +kernel
theorem dX5_choose_5 : decode cX5_choose 5 = .ok (.istore_n 3, 1) := by decide +kernel
theorem dX5_choose_6 : decode cX5_choose 6 = .ok (.sipush (-9005), 3) := by decide +kernel
theorem dX5_choose_9 : decode cX5_choose 9 = .ok (.istore 4, 2) := by decide +kernel
theorem dX5_choose_11 : decode cX5_choose 11 = .ok (.iconst 0, 1) := by decide +kernel
theorem dX5_choose_12 : decode cX5_choose 12 = .ok (.istore 5, 2) := by decide +kernel
theorem dX5_choose_14 : decode cX5_choose 14 = .ok (.iload 5, 2) := by decide +kernel
theorem dX5_choose_16 : decode cX5_choose 16 = .ok (.aload_n 0, 1) := by decide +kernel
theorem dX5_choose_17 : decode cX5_choose 17 = .ok (.iload_n 3, 1) := by decide +kernel
theorem dX5_choose_18 : decode cX5_choose 18 = .ok (.invokevirtual 212, 3) := by decide +kernel
theorem dX5_choose_21 : decode cX5_choose 21 = .ok (.if_icmp .ge 66, 3) := by decide +kernel
theorem dX5_choose_24 : decode cX5_choose 24 = .ok (.iload 4, 2) := by decide +kernel
theorem dX5_choose_26 : decode cX5_choose 26 = .ok (.sipush (-9005), 3) := by decide +kernel
theorem dX5_choose_29 : decode cX5_choose 29 = .ok (.if_icmp .eq 16, 3) := by decide +kernel
theorem dX5_choose_32 : decode cX5_choose 32 = .ok (.iload 5, 2) := by decide +kernel
theorem dX5_choose_34 : decode cX5_choose 34 = .ok (.invokestatic 215, 3) := by decide +kernel
theorem dX5_choose_37 : decode cX5_choose 37 = .ok (.iload 4, 2) := by decide +kernel
theorem dX5_choose_39 : decode cX5_choose 39 = .ok (.invokestatic 215, 3) := by decide +kernel
theorem dX5_choose_42 : decode cX5_choose 42 = .ok (.if_icmp .ge 7, 3) := by decide +kernel
theorem dX5_choose_45 : decode cX5_choose 45 = .ok (.iconst 1, 1) := by decide +kernel
theorem dX5_choose_46 : decode cX5_choose 46 = .ok (.goto 4, 3) := by decide +kernel
theorem dX5_choose_49 : decode cX5_choose 49 = .ok (.iconst 0, 1) := by decide +kernel
theorem dX5_choose_50 : decode cX5_choose 50 = .ok (.istore 6, 2) := by decide +kernel
theorem dX5_choose_52 : decode cX5_choose 52 = .ok (.iload 6, 2) := by decide +kernel
theorem dX5_choose_54 : decode cX5_choose 54 = .ok (.ifCond .eq 27, 3) := by decide +kernel
theorem dX5_choose_57 : decode cX5_choose 57 = .ok (.aload_n 0, 1) := by decide +kernel
theorem dX5_choose_58 : decode cX5_choose 58 = .ok (.iload_n 3, 1) := by decide +kernel
theorem dX5_choose_59 : decode cX5_choose 59 = .ok (.iload 5, 2) := by decide +kernel
theorem dX5_choose_61 : decode cX5_choose 61 = .ok (.invokevirtual 218, 3) := by decide +kernel
theorem dX5_choose_64 : decode cX5_choose 64 = .ok (.ifCond .ne 17, 3) := by decide +kernel
theorem dX5_choose_67 : decode cX5_choose 67 = .ok (.aload_n 0, 1) := by decide +kernel
theorem dX5_choose_68 : decode cX5_choose 68 = .ok (.iload_n 3, 1) := by decide +kernel
theorem dX5_choose_69 : decode cX5_choose 69 = .ok (.iload 5, 2) := by decide +kernel
theorem dX5_choose_71 : decode cX5_choose 71 = .ok (.invokevirtual 221, 3) := by decide +kernel
theorem dX5_choose_74 : decode cX5_choose 74 = .ok (.ifCond .ne 7, 3) := by decide +kernel
theorem dX5_choose_77 : decode cX5_choose 77 = .ok (.iload 5, 2) := by decide +kernel
theorem dX5_choose_79 : decode cX5_choose 79 = .ok (.istore 4, 2) := by decide +kernel
theorem dX5_choose_81 : decode cX5_choose 81 = .ok (.iinc 5 1, 3) := by decide +kernel
theorem dX5_choose_84 : decode cX5_choose 84 = .ok (.goto (-70), 3) := by decide +kernel
theorem dX5_choose_87 : decode cX5_choose 87 = .ok (.aload_n 0, 1) := by decide +kernel
theorem dX5_choose_88 : decode cX5_choose 88 = .ok (.getfield 89, 3) := by decide +kernel
theorem dX5_choose_91 : decode cX5_choose 91 = .ok (.iload_n 3, 1) := by decide +kernel
theorem dX5_choose_92 : decode cX5_choose 92 = .ok (.iload 4, 2) := by decide +kernel
theorem dX5_choose_94 : decode cX5_choose 94 = .ok (.sipush (-9005), 3) := by decide +kernel
theorem dX5_choose_97 : decode cX5_choose 97 = .ok (.if_icmp .ne 7, 3) := by decide +kernel
theorem dX5_choose_100 : decode cX5_choose 100 = .ok (.iconst 1, 1) := by decide +kernel
theorem dX5_choose_101 : decode cX5_choose 101 = .ok (.goto 4, 3) := by decide +kernel
theorem dX5_choose_104 : decode cX5_choose 104 = .ok (.iconst 0, 1) := by decide +kernel
theorem dX5_choose_105 : decode cX5_choose 105 = .ok (.iastore, 1) := by decide +kernel
theorem dX5_choose_106 : decode cX5_choose 106 = .ok (.aload_n 0, 1) := by decide +kernel
theorem dX5_choose_107 : decode cX5_choose 107 = .ok (.getfield 86, 3) := by decide +kernel
theorem dX5_choose_110 : decode cX5_choose 110 = .ok (.iload_n 3, 1) := by decide +kernel
theorem dX5_choose_111 : decode cX5_choose 111 = .ok (.iload 4, 2) := by decide +kernel
theorem dX5_choose_113 : decode cX5_choose 113 = .ok (.sipush (-9005), 3) := by decide +kernel
theorem dX5_choose_116 : decode cX5_choose 116 = .ok (.if_icmp .ne 13, 3) := by decide +kernel
theorem dX5_choose_119 : decode cX5_choose 119 = .ok (.aload_n 0, 1) := by decide +kernel
theorem dX5_choose_120 : decode cX5_choose 120 = .ok (.iload_n 3, 1) := by decide +kernel
theorem dX5_choose_121 : decode cX5_choose 121 = .ok (.invokevirtual 212, 3) := by decide +kernel
theorem dX5_choose_124 : decode cX5_choose 124 = .ok (.iconst 1, 1) := by decide +kernel
theorem dX5_choose_125 : decode cX5_choose 125 = .ok (.isub, 1) := by decide +kernel
theorem dX5_choose_126 : decode cX5_choose 126 = .ok (.goto 5, 3) := by decide +kernel
theorem dX5_choose_129 : decode cX5_choose 129 = .ok (.iload 4, 2) := by decide +kernel
theorem dX5_choose_131 : decode cX5_choose 131 = .ok (.iastore, 1) := by decide +kernel
theorem dX5_choose_132 : decode cX5_choose 132 = .ok (.return_, 1) := by decide +kernel
theorem dX5_again_0 : decode cX5_again 0 = .ok (.iconst 0, 1) := by decide +kernel
theorem dX5_again_1 : decode cX5_again 1 = .ok (.istore_n 1, 1) := by decide +kernel
theorem dX5_again_2 : decode cX5_again 2 = .ok (.iconst 0, 1) := by decide +kernel
theorem dX5_again_3 : decode cX5_again 3 = .ok (.istore_n 2, 1) := by decide +kernel
theorem dX5_again_4 : decode cX5_again 4 = .ok (.iload_n 2, 1) := by decide +kernel
theorem dX5_again_5 : decode cX5_again 5 = .ok (.aload_n 0, 1) := by decide +kernel
theorem dX5_again_6 : decode cX5_again 6 = .ok (.getfield 136, 3) := by decide +kernel
theorem dX5_again_9 : decode cX5_again 9 = .ok (.if_icmp .ge 68, 3) := by decide +kernel
theorem dX5_again_12 : decode cX5_again 12 = .ok (.iconst 0, 1) := by decide +kernel
theorem dX5_again_13 : decode cX5_again 13 = .ok (.istore_n 3, 1) := by decide +kernel
theorem dX5_again_14 : decode cX5_again 14 = .ok (.iload_n 3, 1) := by decide +kernel
theorem dX5_again_15 : decode cX5_again 15 = .ok (.aload_n 0, 1) := by decide +kernel
theorem dX5_again_16 : decode cX5_again 16 = .ok (.getfield 68, 3) := by decide +kernel
theorem dX5_again_19 : decode cX5_again 19 = .ok (.iload_n 2, 1) := by decide +kernel
theorem dX5_again_20 : decode cX5_again 20 = .ok (.iaload, 1) := by decide +kernel
theorem dX5_again_21 : decode cX5_again 21 = .ok (.if_icmp .ge 50, 3) := by decide +kernel
theorem dX5_again_24 : decode cX5_again 24 = .ok (.aload_n 0, 1) := by decide +kernel
theorem dX5_again_25 : decode cX5_again 25 = .ok (.getfield 86, 3) := by decide +kernel
theorem dX5_again_28 : decode cX5_again 28 = .ok (.iconst 2, 1) := by decide +kernel
theorem dX5_again_29 : decode cX5_again 29 = .ok (.iload_n 2, 1) := by decide +kernel
theorem dX5_again_30 : decode cX5_again 30 = .ok (.imul, 1) := by decide +kernel
theorem dX5_again_31 : decode cX5_again 31 = .ok (.iload_n 3, 1) := by decide +kernel
theorem dX5_again_32 : decode cX5_again 32 = .ok (.iadd, 1) := by decide +kernel
theorem dX5_again_33 : decode cX5_again 33 = .ok (.iaload, 1) := by decide +kernel
theorem dX5_again_34 : decode cX5_again 34 = .ok (.istore 4, 2) := by decide +kernel
theorem dX5_again_36 : decode cX5_again 36 = .ok (.aload_n 0, 1) := by decide +kernel
theorem dX5_again_37 : decode cX5_again 37 = .ok (.iload_n 2, 1) := by decide +kernel
theorem dX5_again_38 : decode cX5_again 38 = .ok (.iload_n 3, 1) := by decide +kernel
theorem dX5_again_39 : decode cX5_again 39 = .ok (.invokevirtual 143, 3) := by decide +kernel
theorem dX5_again_42 : decode cX5_again 42 = .ok (.iload_n 1, 1) := by decide +kernel
theorem dX5_again_43 : decode cX5_again 43 = .ok (.aload_n 0, 1) := by decide +kernel
theorem dX5_again_44 : decode cX5_again 44 = .ok (.getfield 86, 3) := by decide +kernel
theorem dX5_again_47 : decode cX5_again 47 = .ok (.iconst 2, 1) := by decide +kernel
theorem dX5_again_48 : decode cX5_again 48 = .ok (.iload_n 2, 1) := by decide +kernel
theorem dX5_again_49 : decode cX5_again 49 = .ok (.imul, 1) := by decide +kernel
theorem dX5_again_50 : decode cX5_again 50 = .ok (.iload_n 3, 1) := by decide +kernel
theorem dX5_again_51 : decode cX5_again 51 = .ok (.iadd, 1) := by decide +kernel
theorem dX5_again_52 : decode cX5_again 52 = .ok (.iaload, 1) := by decide +kernel
theorem dX5_again_53 : decode cX5_again 53 = .ok (.iload 4, 2) := by decide +kernel
theorem dX5_again_55 : decode cX5_again 55 = .ok (.if_icmp .ne 7, 3) := by decide +kernel
theorem dX5_again_58 : decode cX5_again 58 = .ok (.iconst 0, 1) := by decide +kernel
theorem dX5_again_59 : decode cX5_again 59 = .ok (.goto 4, 3) := by decide +kernel
theorem dX5_again_62 : decode cX5_again 62 = .ok (.iconst 1, 1) := by decide +kernel
theorem dX5_again_63 : decode cX5_again 63 = .ok (.iadd, 1) := by decide +kernel
theorem dX5_again_64 : decode cX5_again 64 = .ok (.istore_n 1, 1) := by decide +kernel
theorem dX5_again_65 : decode cX5_again 65 = .ok (.iinc 3 1, 3) := by decide +kernel
theorem dX5_again_68 : decode cX5_again 68 = .ok (.goto (-54), 3) := by decide +kernel
theorem dX5_again_71 : decode cX5_again 71 = .ok (.iinc 2 1, 3) := by decide +kernel
theorem dX5_again_74 : decode cX5_again 74 = .ok (.goto (-70), 3) := by decide +kernel
theorem dX5_again_77 : decode cX5_again 77 = .ok (.iload_n 1, 1) := by decide +kernel
theorem dX5_again_78 : decode cX5_again 78 = .ok (.ireturn, 1) := by decide +kernel
theorem dX5_isCurve_0 : decode cX5_isCurve 0 = .ok (.iload_n 1, 1) := by decide +kernel
theorem dX5_isCurve_1 : decode cX5_isCurve 1 = .ok (.iconst 0, 1) := by decide +kernel
theorem dX5_isCurve_2 : decode cX5_isCurve 2 = .ok (.aload_n 0, 1) := by decide +kernel
theorem dX5_isCurve_3 : decode cX5_isCurve 3 = .ok (.getfield 136, 3) := by decide +kernel
theorem dX5_isCurve_6 : decode cX5_isCurve 6 = .ok (.iconst 1, 1) := by decide +kernel
theorem dX5_isCurve_7 : decode cX5_isCurve 7 = .ok (.isub, 1) := by decide +kernel
theorem dX5_isCurve_8 : decode cX5_isCurve 8 = .ok (.invokestatic 109, 3) := by decide +kernel
theorem dX5_isCurve_11 : decode cX5_isCurve 11 = .ok (.ireturn, 1) := by decide +kernel
theorem dX5_isPart_0 : decode cX5_isPart 0 = .ok (.aload_n 0, 1) := by decide +kernel
theorem dX5_isPart_1 : decode cX5_isPart 1 = .ok (.iload_n 1, 1) := by decide +kernel
theorem dX5_isPart_2 : decode cX5_isPart 2 = .ok (.invokevirtual 224, 3) := by decide +kernel
theorem dX5_isPart_5 : decode cX5_isPart 5 = .ok (.ifCond .eq 23, 3) := by decide +kernel
theorem dX5_isPart_8 : decode cX5_isPart 8 = .ok (.iload_n 2, 1) := by decide +kernel
theorem dX5_isPart_9 : decode cX5_isPart 9 = .ok (.iconst 0, 1) := by decide +kernel
theorem dX5_isPart_10 : decode cX5_isPart 10 = .ok (.aload_n 0, 1) := by decide +kernel
theorem dX5_isPart_11 : decode cX5_isPart 11 = .ok (.getfield 68, 3) := by decide +kernel
theorem dX5_isPart_14 : decode cX5_isPart 14 = .ok (.iload_n 1, 1) := by decide +kernel
theorem dX5_isPart_15 : decode cX5_isPart 15 = .ok (.iaload, 1) := by decide +kernel
theorem dX5_isPart_16 : decode cX5_isPart 16 = .ok (.iconst 1, 1) := by decide +kernel
theorem dX5_isPart_17 : decode cX5_isPart 17 = .ok (.isub, 1) := by decide +kernel
theorem dX5_isPart_18 : decode cX5_isPart 18 = .ok (.invokestatic 109, 3) := by decide +kernel
theorem dX5_isPart_21 : decode cX5_isPart 21 = .ok (.ifCond .eq 7, 3) := by decide +kernel
theorem dX5_isPart_24 : decode cX5_isPart 24 = .ok (.iconst 1, 1) := by decide +kernel
theorem dX5_isPart_25 : decode cX5_isPart 25 = .ok (.goto 4, 3) := by decide +kernel
theorem dX5_isPart_28 : decode cX5_isPart 28 = .ok (.iconst 0, 1) := by decide +kernel
theorem dX5_isPart_29 : decode cX5_isPart 29 = .ok (.ireturn, 1) := by decide +kernel
theorem dX5_curve_0 : decode cX5_curve 0 = .ok (.aload_n 0, 1) := by decide +kernel
theorem dX5_curve_1 : decode cX5_curve 1 = .ok (.iload_n 1, 1) := by decide +kernel
theorem dX5_curve_2 : decode cX5_curve 2 = .ok (.invokevirtual 224, 3) := by decide +kernel
theorem dX5_curve_5 : decode cX5_curve 5 = .ok (.ifCond .ne 7, 3) := by decide +kernel
theorem dX5_curve_8 : decode cX5_curve 8 = .ok (.sipush (-9001), 3) := by decide +kernel
theorem dX5_curve_11 : decode cX5_curve 11 = .ok (.ireturn, 1) := by decide +kernel
theorem dX5_curve_12 : decode cX5_curve 12 = .ok (.iload_n 2, 1) := by decide +kernel
theorem dX5_curve_13 : decode cX5_curve 13 = .ok (.tableswitch 78 0 4 #[35, 42, 49, 56, 63], 35) := by decide +kernel
theorem dX5_curve_48 : decode cX5_curve 48 = .ok (.aload_n 0, 1) := by decide +kernel
theorem dX5_curve_49 : decode cX5_curve 49 = .ok (.getfield 56, 3) := by decide +kernel
theorem dX5_curve_52 : decode cX5_curve 52 = .ok (.iload_n 1, 1) := by decide +kernel
theorem dX5_curve_53 : decode cX5_curve 53 = .ok (.iaload, 1) := by decide +kernel
theorem dX5_curve_54 : decode cX5_curve 54 = .ok (.ireturn, 1) := by decide +kernel
theorem dX5_curve_55 : decode cX5_curve 55 = .ok (.aload_n 0, 1) := by decide +kernel
theorem dX5_curve_56 : decode cX5_curve 56 = .ok (.getfield 59, 3) := by decide +kernel
theorem dX5_curve_59 : decode cX5_curve 59 = .ok (.iload_n 1, 1) := by decide +kernel
theorem dX5_curve_60 : decode cX5_curve 60 = .ok (.iaload, 1) := by decide +kernel
theorem dX5_curve_61 : decode cX5_curve 61 = .ok (.ireturn, 1) := by decide +kernel
theorem dX5_curve_62 : decode cX5_curve 62 = .ok (.aload_n 0, 1) := by decide +kernel
theorem dX5_curve_63 : decode cX5_curve 63 = .ok (.getfield 65, 3) := by decide +kernel
theorem dX5_curve_66 : decode cX5_curve 66 = .ok (.iload_n 1, 1) := by decide +kernel
theorem dX5_curve_67 : decode cX5_curve 67 = .ok (.iaload, 1) := by decide +kernel
theorem dX5_curve_68 : decode cX5_curve 68 = .ok (.ireturn, 1) := by decide +kernel
theorem dX5_curve_69 : decode cX5_curve 69 = .ok (.aload_n 0, 1) := by decide +kernel
theorem dX5_curve_70 : decode cX5_curve 70 = .ok (.getfield 68, 3) := by decide +kernel
theorem dX5_curve_73 : decode cX5_curve 73 = .ok (.iload_n 1, 1) := by decide +kernel
theorem dX5_curve_74 : decode cX5_curve 74 = .ok (.iaload, 1) := by decide +kernel
theorem dX5_curve_75 : decode cX5_curve 75 = .ok (.ireturn, 1) := by decide +kernel
theorem dX5_curve_76 : decode cX5_curve 76 = .ok (.aload_n 0, 1) := by decide +kernel
theorem dX5_curve_77 : decode cX5_curve 77 = .ok (.getfield 62, 3) := by decide +kernel
theorem dX5_curve_80 : decode cX5_curve 80 = .ok (.iload_n 1, 1) := by decide +kernel
theorem dX5_curve_81 : decode cX5_curve 81 = .ok (.baload, 1) := by decide +kernel
theorem dX5_curve_82 : decode cX5_curve 82 = .ok (.ifCond .eq 7, 3) := by decide +kernel
theorem dX5_curve_85 : decode cX5_curve 85 = .ok (.iconst 1, 1) := by decide +kernel
theorem dX5_curve_86 : decode cX5_curve 86 = .ok (.goto 4, 3) := by decide +kernel
theorem dX5_curve_89 : decode cX5_curve 89 = .ok (.iconst 0, 1) := by decide +kernel
theorem dX5_curve_90 : decode cX5_curve 90 = .ok (.ireturn, 1) := by decide +kernel
theorem dX5_curve_91 : decode cX5_curve 91 = .ok (.sipush (-9002), 3) := by decide +kernel
theorem dX5_curve_94 : decode cX5_curve 94 = .ok (.ireturn, 1) := by decide +kernel
theorem dX5_part_0 : decode cX5_part 0 = .ok (.aload_n 0, 1) := by decide +kernel
theorem dX5_part_1 : decode cX5_part 1 = .ok (.iload_n 1, 1) := by decide +kernel
theorem dX5_part_2 : decode cX5_part 2 = .ok (.iload_n 2, 1) := by decide +kernel
theorem dX5_part_3 : decode cX5_part 3 = .ok (.invokevirtual 227, 3) := by decide +kernel
theorem dX5_part_6 : decode cX5_part 6 = .ok (.ifCond .ne 7, 3) := by decide +kernel
theorem dX5_part_9 : decode cX5_part 9 = .ok (.sipush (-9001), 3) := by decide +kernel
theorem dX5_part_12 : decode cX5_part 12 = .ok (.ireturn, 1) := by decide +kernel
theorem dX5_part_13 : decode cX5_part 13 = .ok (.iconst 2, 1) := by decide +kernel
theorem dX5_part_14 : decode cX5_part 14 = .ok (.iload_n 1, 1) := by decide +kernel
theorem dX5_part_15 : decode cX5_part 15 = .ok (.imul, 1) := by decide +kernel
theorem dX5_part_16 : decode cX5_part 16 = .ok (.iload_n 2, 1) := by decide +kernel
theorem dX5_part_17 : decode cX5_part 17 = .ok (.iadd, 1) := by decide +kernel
theorem dX5_part_18 : decode cX5_part 18 = .ok (.istore 4, 2) := by decide +kernel
theorem dX5_part_20 : decode cX5_part 20 = .ok (.iload_n 3, 1) := by decide +kernel
theorem dX5_part_21 : decode cX5_part 21 = .ok (.tableswitch 88 0 5 #[39, 47, 55, 66, 74, 81], 39) := by decide +kernel
theorem dX5_part_60 : decode cX5_part 60 = .ok (.aload_n 0, 1) := by decide +kernel
theorem dX5_part_61 : decode cX5_part 61 = .ok (.getfield 71, 3) := by decide +kernel
theorem dX5_part_64 : decode cX5_part 64 = .ok (.iload 4, 2) := by decide +kernel
theorem dX5_part_66 : decode cX5_part 66 = .ok (.iaload, 1) := by decide +kernel
theorem dX5_part_67 : decode cX5_part 67 = .ok (.ireturn, 1) := by decide +kernel
theorem dX5_part_68 : decode cX5_part 68 = .ok (.aload_n 0, 1) := by decide +kernel
theorem dX5_part_69 : decode cX5_part 69 = .ok (.getfield 86, 3) := by decide +kernel
theorem dX5_part_72 : decode cX5_part 72 = .ok (.iload 4, 2) := by decide +kernel
theorem dX5_part_74 : decode cX5_part 74 = .ok (.iaload, 1) := by decide +kernel
theorem dX5_part_75 : decode cX5_part 75 = .ok (.ireturn, 1) := by decide +kernel
theorem dX5_part_76 : decode cX5_part 76 = .ok (.aload_n 0, 1) := by decide +kernel
theorem dX5_part_77 : decode cX5_part 77 = .ok (.getfield 86, 3) := by decide +kernel
theorem dX5_part_80 : decode cX5_part 80 = .ok (.iload 4, 2) := by decide +kernel
theorem dX5_part_82 : decode cX5_part 82 = .ok (.iaload, 1) := by decide +kernel
theorem dX5_part_83 : decode cX5_part 83 = .ok (.invokestatic 215, 3) := by decide +kernel
theorem dX5_part_86 : decode cX5_part 86 = .ok (.ireturn, 1) := by decide +kernel
theorem dX5_part_87 : decode cX5_part 87 = .ok (.aload_n 0, 1) := by decide +kernel
theorem dX5_part_88 : decode cX5_part 88 = .ok (.getfield 89, 3) := by decide +kernel
theorem dX5_part_91 : decode cX5_part 91 = .ok (.iload 4, 2) := by decide +kernel
theorem dX5_part_93 : decode cX5_part 93 = .ok (.iaload, 1) := by decide +kernel
theorem dX5_part_94 : decode cX5_part 94 = .ok (.ireturn, 1) := by decide +kernel
theorem dX5_part_95 : decode cX5_part 95 = .ok (.aload_n 0, 1) := by decide +kernel
theorem dX5_part_96 : decode cX5_part 96 = .ok (.iload 4, 2) := by decide +kernel
theorem dX5_part_98 : decode cX5_part 98 = .ok (.invokevirtual 166, 3) := by decide +kernel
theorem dX5_part_101 : decode cX5_part 101 = .ok (.ireturn, 1) := by decide +kernel
theorem dX5_part_102 : decode cX5_part 102 = .ok (.aload_n 0, 1) := by decide +kernel
theorem dX5_part_103 : decode cX5_part 103 = .ok (.iload 4, 2) := by decide +kernel
theorem dX5_part_105 : decode cX5_part 105 = .ok (.invokevirtual 212, 3) := by decide +kernel
theorem dX5_part_108 : decode cX5_part 108 = .ok (.ireturn, 1) := by decide +kernel
theorem dX5_part_109 : decode cX5_part 109 = .ok (.sipush (-9002), 3) := by decide +kernel
theorem dX5_part_112 : decode cX5_part 112 = .ok (.ireturn, 1) := by decide +kernel
theorem dX5_point_0 : decode cX5_point 0 = .ok (.aload_n 0, 1) := by decide +kernel
theorem dX5_point_1 : decode cX5_point 1 = .ok (.iload_n 1, 1) := by decide +kernel
theorem dX5_point_2 : decode cX5_point 2 = .ok (.iload_n 2, 1) := by decide +kernel
theorem dX5_point_3 : decode cX5_point 3 = .ok (.invokevirtual 227, 3) := by decide +kernel
theorem dX5_point_6 : decode cX5_point 6 = .ok (.ifCond .ne 7, 3) := by decide +kernel
theorem dX5_point_9 : decode cX5_point 9 = .ok (.sipush (-9001), 3) := by decide +kernel
theorem dX5_point_12 : decode cX5_point 12 = .ok (.ireturn, 1) := by decide +kernel
theorem dX5_point_13 : decode cX5_point 13 = .ok (.iload_n 3, 1) := by decide +kernel
theorem dX5_point_14 : decode cX5_point 14 = .ok (.iconst 0, 1) := by decide +kernel
theorem dX5_point_15 : decode cX5_point 15 = .ok (.iconst 3, 1) := by decide +kernel
theorem dX5_point_16 : decode cX5_point 16 = .ok (.invokestatic 109, 3) := by decide +kernel
theorem dX5_point_19 : decode cX5_point 19 = .ok (.ifCond .eq 13, 3) := by decide +kernel
theorem dX5_point_22 : decode cX5_point 22 = .ok (.iload 4, 2) := by decide +kernel
theorem dX5_point_24 : decode cX5_point 24 = .ok (.iconst 0, 1) := by decide +kernel
theorem dX5_point_25 : decode cX5_point 25 = .ok (.iconst 1, 1) := by decide +kernel
theorem dX5_point_26 : decode cX5_point 26 = .ok (.invokestatic 109, 3) := by decide +kernel
theorem dX5_point_29 : decode cX5_point 29 = .ok (.ifCond .ne 7, 3) := by decide +kernel
theorem dX5_point_32 : decode cX5_point 32 = .ok (.sipush (-9002), 3) := by decide +kernel
theorem dX5_point_35 : decode cX5_point 35 = .ok (.ireturn, 1) := by decide +kernel
theorem dX5_point_36 : decode cX5_point 36 = .ok (.iconst 2, 1) := by decide +kernel
theorem dX5_point_37 : decode cX5_point 37 = .ok (.iload_n 1, 1) := by decide +kernel
theorem dX5_point_38 : decode cX5_point 38 = .ok (.imul, 1) := by decide +kernel
theorem dX5_point_39 : decode cX5_point 39 = .ok (.iload_n 2, 1) := by decide +kernel
theorem dX5_point_40 : decode cX5_point 40 = .ok (.iadd, 1) := by decide +kernel
theorem dX5_point_41 : decode cX5_point 41 = .ok (.istore 5, 2) := by decide +kernel
theorem dX5_point_43 : decode cX5_point 43 = .ok (.iload 4, 2) := by decide +kernel
theorem dX5_point_45 : decode cX5_point 45 = .ok (.ifCond .ne 13, 3) := by decide +kernel
theorem dX5_point_48 : decode cX5_point 48 = .ok (.aload_n 0, 1) := by decide +kernel
theorem dX5_point_49 : decode cX5_point 49 = .ok (.iload 5, 2) := by decide +kernel
theorem dX5_point_51 : decode cX5_point 51 = .ok (.iload_n 3, 1) := by decide +kernel
theorem dX5_point_52 : decode cX5_point 52 = .ok (.invokevirtual 191, 3) := by decide +kernel
theorem dX5_point_55 : decode cX5_point 55 = .ok (.goto 17, 3) := by decide +kernel
theorem dX5_point_58 : decode cX5_point 58 = .ok (.aload_n 0, 1) := by decide +kernel
theorem dX5_point_59 : decode cX5_point 59 = .ok (.iload 5, 2) := by decide +kernel
theorem dX5_point_61 : decode cX5_point 61 = .ok (.aload_n 0, 1) := by decide +kernel
theorem dX5_point_62 : decode cX5_point 62 = .ok (.getfield 86, 3) := by decide +kernel
theorem dX5_point_65 : decode cX5_point 65 = .ok (.iload 5, 2) := by decide +kernel
theorem dX5_point_67 : decode cX5_point 67 = .ok (.iaload, 1) := by decide +kernel
theorem dX5_point_68 : decode cX5_point 68 = .ok (.iload_n 3, 1) := by decide +kernel
theorem dX5_point_69 : decode cX5_point 69 = .ok (.invokevirtual 194, 3) := by decide +kernel
theorem dX5_point_72 : decode cX5_point 72 = .ok (.ireturn, 1) := by decide +kernel
theorem dX5_candidate_0 : decode cX5_candidate 0 = .ok (.aload_n 0, 1) := by decide +kernel
theorem dX5_candidate_1 : decode cX5_candidate 1 = .ok (.iload_n 1, 1) := by decide +kernel
theorem dX5_candidate_2 : decode cX5_candidate 2 = .ok (.iload_n 2, 1) := by decide +kernel
theorem dX5_candidate_3 : decode cX5_candidate 3 = .ok (.invokevirtual 227, 3) := by decide +kernel
theorem dX5_candidate_6 : decode cX5_candidate 6 = .ok (.ifCond .ne 7, 3) := by decide +kernel
theorem dX5_candidate_9 : decode cX5_candidate 9 = .ok (.sipush (-9001), 3) := by decide +kernel
theorem dX5_candidate_12 : decode cX5_candidate 12 = .ok (.ireturn, 1) := by decide +kernel
theorem dX5_candidate_13 : decode cX5_candidate 13 = .ok (.iconst 2, 1) := by decide +kernel
theorem dX5_candidate_14 : decode cX5_candidate 14 = .ok (.iload_n 1, 1) := by decide +kernel
theorem dX5_candidate_15 : decode cX5_candidate 15 = .ok (.imul, 1) := by decide +kernel
theorem dX5_candidate_16 : decode cX5_candidate 16 = .ok (.iload_n 2, 1) := by decide +kernel
theorem dX5_candidate_17 : decode cX5_candidate 17 = .ok (.iadd, 1) := by decide +kernel
theorem dX5_candidate_18 : decode cX5_candidate 18 = .ok (.istore 5, 2) := by decide +kernel
theorem dX5_candidate_20 : decode cX5_candidate 20 = .ok (.iload_n 3, 1) := by decide +kernel
theorem dX5_candidate_21 : decode cX5_candidate 21 = .ok (.iconst 0, 1) := by decide +kernel
theorem dX5_candidate_22 : decode cX5_candidate 22 = .ok (.aload_n 0, 1) := by decide +kernel
theorem dX5_candidate_23 : decode cX5_candidate 23 = .ok (.iload 5, 2) := by decide +kernel
theorem dX5_candidate_25 : decode cX5_candidate 25 = .ok (.invokevirtual 212, 3) := by decide +kernel
theorem dX5_candidate_28 : decode cX5_candidate 28 = .ok (.iconst 1, 1) := by decide +kernel
theorem dX5_candidate_29 : decode cX5_candidate 29 = .ok (.isub, 1) := by decide +kernel
theorem dX5_candidate_30 : decode cX5_candidate 30 = .ok (.invokestatic 109, 3) := by decide +kernel
theorem dX5_candidate_33 : decode cX5_candidate 33 = .ok (.ifCond .eq 13, 3) := by decide +kernel
theorem dX5_candidate_36 : decode cX5_candidate 36 = .ok (.iload 4, 2) := by decide +kernel
theorem dX5_candidate_38 : decode cX5_candidate 38 = .ok (.iconst 0, 1) := by decide +kernel
theorem dX5_candidate_39 : decode cX5_candidate 39 = .ok (.iconst 2, 1) := by decide +kernel
theorem dX5_candidate_40 : decode cX5_candidate 40 = .ok (.invokestatic 109, 3) := by decide +kernel
theorem dX5_candidate_43 : decode cX5_candidate 43 = .ok (.ifCond .ne 7, 3) := by decide +kernel
theorem dX5_candidate_46 : decode cX5_candidate 46 = .ok (.sipush (-9002), 3) := by decide +kernel
theorem dX5_candidate_49 : decode cX5_candidate 49 = .ok (.ireturn, 1) := by decide +kernel
theorem dX5_candidate_50 : decode cX5_candidate 50 = .ok (.iload 4, 2) := by decide +kernel
theorem dX5_candidate_52 : decode cX5_candidate 52 = .ok (.ifCond .ne 13, 3) := by decide +kernel
theorem dX5_candidate_55 : decode cX5_candidate 55 = .ok (.aload_n 0, 1) := by decide +kernel
theorem dX5_candidate_56 : decode cX5_candidate 56 = .ok (.iload 5, 2) := by decide +kernel
theorem dX5_candidate_58 : decode cX5_candidate 58 = .ok (.iload_n 3, 1) := by decide +kernel
theorem dX5_candidate_59 : decode cX5_candidate 59 = .ok (.invokevirtual 218, 3) := by decide +kernel
theorem dX5_candidate_62 : decode cX5_candidate 62 = .ok (.goto 23, 3) := by decide +kernel
theorem dX5_candidate_65 : decode cX5_candidate 65 = .ok (.iload 4, 2) := by decide +kernel
theorem dX5_candidate_67 : decode cX5_candidate 67 = .ok (.iconst 1, 1) := by decide +kernel
theorem dX5_candidate_68 : decode cX5_candidate 68 = .ok (.if_icmp .ne 13, 3) := by decide +kernel
theorem dX5_candidate_71 : decode cX5_candidate 71 = .ok (.aload_n 0, 1) := by decide +kernel
theorem dX5_candidate_72 : decode cX5_candidate 72 = .ok (.iload 5, 2) := by decide +kernel
theorem dX5_candidate_74 : decode cX5_candidate 74 = .ok (.iload_n 3, 1) := by decide +kernel
theorem dX5_candidate_75 : decode cX5_candidate 75 = .ok (.invokevirtual 221, 3) := by decide +kernel
theorem dX5_candidate_78 : decode cX5_candidate 78 = .ok (.goto 7, 3) := by decide +kernel
theorem dX5_candidate_81 : decode cX5_candidate 81 = .ok (.iload_n 3, 1) := by decide +kernel
theorem dX5_candidate_82 : decode cX5_candidate 82 = .ok (.invokestatic 215, 3) := by decide +kernel
theorem dX5_candidate_85 : decode cX5_candidate 85 = .ok (.ireturn, 1) := by decide +kernel
theorem dX5_along_0 : decode cX5_along 0 = .ok (.aload_n 0, 1) := by decide +kernel
theorem dX5_along_1 : decode cX5_along 1 = .ok (.iload_n 1, 1) := by decide +kernel
theorem dX5_along_2 : decode cX5_along 2 = .ok (.iload_n 2, 1) := by decide +kernel
theorem dX5_along_3 : decode cX5_along 3 = .ok (.invokevirtual 227, 3) := by decide +kernel
theorem dX5_along_6 : decode cX5_along 6 = .ok (.ifCond .ne 7, 3) := by decide +kernel
theorem dX5_along_9 : decode cX5_along 9 = .ok (.ldc2_w 230, 3) := by decide +kernel
theorem dX5_along_12 : decode cX5_along 12 = .ok (.lreturn, 1) := by decide +kernel
theorem dX5_along_13 : decode cX5_along 13 = .ok (.iload_n 3, 1) := by decide +kernel
theorem dX5_along_14 : decode cX5_along 14 = .ok (.iconst 0, 1) := by decide +kernel
theorem dX5_along_15 : decode cX5_along 15 = .ok (.bipush 64, 2) := by decide +kernel
theorem dX5_along_17 : decode cX5_along 17 = .ok (.invokestatic 109, 3) := by decide +kernel
theorem dX5_along_20 : decode cX5_along 20 = .ok (.ifCond .eq 13, 3) := by decide +kernel
theorem dX5_along_23 : decode cX5_along 23 = .ok (.iload 4, 2) := by decide +kernel
theorem dX5_along_25 : decode cX5_along 25 = .ok (.iconst 0, 1) := by decide +kernel
theorem dX5_along_26 : decode cX5_along 26 = .ok (.iconst 1, 1) := by decide +kernel
theorem dX5_along_27 : decode cX5_along 27 = .ok (.invokestatic 109, 3) := by decide +kernel
theorem dX5_along_30 : decode cX5_along 30 = .ok (.ifCond .ne 7, 3) := by decide +kernel
theorem dX5_along_33 : decode cX5_along 33 = .ok (.ldc2_w 232, 3) := by decide +kernel
theorem dX5_along_36 : decode cX5_along 36 = .ok (.lreturn, 1) := by decide +kernel
theorem dX5_along_37 : decode cX5_along 37 = .ok (.iconst 2, 1) := by decide +kernel
theorem dX5_along_38 : decode cX5_along 38 = .ok (.iload_n 1, 1) := by decide +kernel
theorem dX5_along_39 : decode cX5_along 39 = .ok (.imul, 1) := by decide +kernel
theorem dX5_along_40 : decode cX5_along 40 = .ok (.iload_n 2, 1) := by decide +kernel
theorem dX5_along_41 : decode cX5_along 41 = .ok (.iadd, 1) := by decide +kernel
theorem dX5_along_42 : decode cX5_along 42 = .ok (.istore 5, 2) := by decide +kernel
theorem dX5_along_44 : decode cX5_along 44 = .ok (.bipush 64, 2) := by decide +kernel
theorem dX5_along_46 : decode cX5_along 46 = .ok (.iload_n 3, 1) := by decide +kernel
theorem dX5_along_47 : decode cX5_along 47 = .ok (.isub, 1) := by decide +kernel
theorem dX5_along_48 : decode cX5_along 48 = .ok (.i2l, 1) := by decide +kernel
theorem dX5_along_49 : decode cX5_along 49 = .ok (.lstore 6, 2) := by decide +kernel
theorem dX5_along_51 : decode cX5_along 51 = .ok (.lconst 0, 1) := by decide +kernel
theorem dX5_along_52 : decode cX5_along 52 = .ok (.lstore 8, 2) := by decide +kernel
theorem dX5_along_54 : decode cX5_along 54 = .ok (.iconst 0, 1) := by decide +kernel
theorem dX5_along_55 : decode cX5_along 55 = .ok (.istore 10, 2) := by decide +kernel
theorem dX5_along_57 : decode cX5_along 57 = .ok (.iload 10, 2) := by decide +kernel
theorem dX5_along_59 : decode cX5_along 59 = .ok (.iconst 4, 1) := by decide +kernel
theorem dX5_along_60 : decode cX5_along 60 = .ok (.if_icmp .ge 117, 3) := by decide +kernel
theorem dX5_along_63 : decode cX5_along 63 = .ok (.iload 10, 2) := by decide +kernel
theorem dX5_along_65 : decode cX5_along 65 = .ok (.ifCond .ne 14, 3) := by decide +kernel
theorem dX5_along_68 : decode cX5_along 68 = .ok (.lload 6, 2) := by decide +kernel
theorem dX5_along_70 : decode cX5_along 70 = .ok (.lload 6, 2) := by decide +kernel
theorem dX5_along_72 : decode cX5_along 72 = .ok (.lmul, 1) := by decide +kernel
theorem dX5_along_73 : decode cX5_along 73 = .ok (.lload 6, 2) := by decide +kernel
theorem dX5_along_75 : decode cX5_along 75 = .ok (.lmul, 1) := by decide +kernel
theorem dX5_along_76 : decode cX5_along 76 = .ok (.goto 53, 3) := by decide +kernel
theorem dX5_along_79 : decode cX5_along 79 = .ok (.iload 10, 2) := by decide +kernel
theorem dX5_along_81 : decode cX5_along 81 = .ok (.iconst 1, 1) := by decide +kernel
theorem dX5_along_82 : decode cX5_along 82 = .ok (.if_icmp .ne 18, 3) := by decide +kernel
theorem dX5_along_85 : decode cX5_along 85 = .ok (.ldc2_w 234, 3) := by decide +kernel
theorem dX5_along_88 : decode cX5_along 88 = .ok (.lload 6, 2) := by decide +kernel
theorem dX5_along_90 : decode cX5_along 90 = .ok (.lmul, 1) := by decide +kernel
theorem dX5_along_91 : decode cX5_along 91 = .ok (.lload 6, 2) := by decide +kernel
theorem dX5_along_93 : decode cX5_along 93 = .ok (.lmul, 1) := by decide +kernel
theorem dX5_along_94 : decode cX5_along 94 = .ok (.iload_n 3, 1) := by decide +kernel
theorem dX5_along_95 : decode cX5_along 95 = .ok (.i2l, 1) := by decide +kernel
theorem dX5_along_96 : decode cX5_along 96 = .ok (.lmul, 1) := by decide +kernel
theorem dX5_along_97 : decode cX5_along 97 = .ok (.goto 32, 3) := by decide +kernel
theorem dX5_along_100 : decode cX5_along 100 = .ok (.iload 10, 2) := by decide +kernel
theorem dX5_along_102 : decode cX5_along 102 = .ok (.iconst 2, 1) := by decide +kernel
theorem dX5_along_103 : decode cX5_along 103 = .ok (.if_icmp .ne 18, 3) := by decide +kernel
theorem dX5_along_106 : decode cX5_along 106 = .ok (.ldc2_w 234, 3) := by decide +kernel
theorem dX5_along_109 : decode cX5_along 109 = .ok (.lload 6, 2) := by decide +kernel
theorem dX5_along_111 : decode cX5_along 111 = .ok (.lmul, 1) := by decide +kernel
theorem dX5_along_112 : decode cX5_along 112 = .ok (.iload_n 3, 1) := by decide +kernel
theorem dX5_along_113 : decode cX5_along 113 = .ok (.i2l, 1) := by decide +kernel
theorem dX5_along_114 : decode cX5_along 114 = .ok (.lmul, 1) := by decide +kernel
theorem dX5_along_115 : decode cX5_along 115 = .ok (.iload_n 3, 1) := by decide +kernel
theorem dX5_along_116 : decode cX5_along 116 = .ok (.i2l, 1) := by decide +kernel
theorem dX5_along_117 : decode cX5_along 117 = .ok (.lmul, 1) := by decide +kernel
theorem dX5_along_118 : decode cX5_along 118 = .ok (.goto 11, 3) := by decide +kernel
theorem dX5_along_121 : decode cX5_along 121 = .ok (.iload_n 3, 1) := by decide +kernel
theorem dX5_along_122 : decode cX5_along 122 = .ok (.i2l, 1) := by decide +kernel
theorem dX5_along_123 : decode cX5_along 123 = .ok (.iload_n 3, 1) := by decide +kernel
theorem dX5_along_124 : decode cX5_along 124 = .ok (.i2l, 1) := by decide +kernel
theorem dX5_along_125 : decode cX5_along 125 = .ok (.lmul, 1) := by decide +kernel
theorem dX5_along_126 : decode cX5_along 126 = .ok (.iload_n 3, 1) := by decide +kernel
theorem dX5_along_127 : decode cX5_along 127 = .ok (.i2l, 1) := by decide +kernel
theorem dX5_along_128 : decode cX5_along 128 = .ok (.lmul, 1) := by decide +kernel
theorem dX5_along_129 : decode cX5_along 129 = .ok (.lstore 11, 2) := by decide +kernel
theorem dX5_along_131 : decode cX5_along 131 = .ok (.lload 8, 2) := by decide +kernel
theorem dX5_along_133 : decode cX5_along 133 = .ok (.lload 11, 2) := by decide +kernel
theorem dX5_along_135 : decode cX5_along 135 = .ok (.iload 4, 2) := by decide +kernel
theorem dX5_along_137 : decode cX5_along 137 = .ok (.ifCond .ne 14, 3) := by decide +kernel
theorem dX5_along_140 : decode cX5_along 140 = .ok (.aload_n 0, 1) := by decide +kernel
theorem dX5_along_141 : decode cX5_along 141 = .ok (.iload 5, 2) := by decide +kernel
theorem dX5_along_143 : decode cX5_along 143 = .ok (.iload 10, 2) := by decide +kernel
theorem dX5_along_145 : decode cX5_along 145 = .ok (.invokevirtual 191, 3) := by decide +kernel
theorem dX5_along_148 : decode cX5_along 148 = .ok (.goto 18, 3) := by decide +kernel
theorem dX5_along_151 : decode cX5_along 151 = .ok (.aload_n 0, 1) := by decide +kernel
theorem dX5_along_152 : decode cX5_along 152 = .ok (.iload 5, 2) := by decide +kernel
theorem dX5_along_154 : decode cX5_along 154 = .ok (.aload_n 0, 1) := by decide +kernel
theorem dX5_along_155 : decode cX5_along 155 = .ok (.getfield 86, 3) := by decide +kernel
theorem dX5_along_158 : decode cX5_along 158 = .ok (.iload 5, 2) := by decide +kernel
theorem dX5_along_160 : decode cX5_along 160 = .ok (.iaload, 1) := by decide +kernel
theorem dX5_along_161 : decode cX5_along 161 = .ok (.iload 10, 2) := by decide +kernel
theorem dX5_along_163 : decode cX5_along 163 = .ok (.invokevirtual 194, 3) := by decide +kernel
theorem dX5_along_166 : decode cX5_along 166 = .ok (.i2l, 1) := by decide +kernel
theorem dX5_along_167 : decode cX5_along 167 = .ok (.lmul, 1) := by decide +kernel
theorem dX5_along_168 : decode cX5_along 168 = .ok (.ladd, 1) := by decide +kernel
theorem dX5_along_169 : decode cX5_along 169 = .ok (.lstore 8, 2) := by decide +kernel
theorem dX5_along_171 : decode cX5_along 171 = .ok (.iinc 10 1, 3) := by decide +kernel
theorem dX5_along_174 : decode cX5_along 174 = .ok (.goto (-117), 3) := by decide +kernel
theorem dX5_along_177 : decode cX5_along 177 = .ok (.lload 8, 2) := by decide +kernel
theorem dX5_along_179 : decode cX5_along 179 = .ok (.lreturn, 1) := by decide +kernel
theorem dX5_within_0 : decode cX5_within 0 = .ok (.aload_n 0, 1) := by decide +kernel
theorem dX5_within_1 : decode cX5_within 1 = .ok (.iload_n 1, 1) := by decide +kernel
theorem dX5_within_2 : decode cX5_within 2 = .ok (.iload_n 2, 1) := by decide +kernel
theorem dX5_within_3 : decode cX5_within 3 = .ok (.invokevirtual 227, 3) := by decide +kernel
theorem dX5_within_6 : decode cX5_within 6 = .ok (.ifCond .eq 13, 3) := by decide +kernel
theorem dX5_within_9 : decode cX5_within 9 = .ok (.aload_n 0, 1) := by decide +kernel
theorem dX5_within_10 : decode cX5_within 10 = .ok (.iload_n 3, 1) := by decide +kernel
theorem dX5_within_11 : decode cX5_within 11 = .ok (.iload 4, 2) := by decide +kernel
theorem dX5_within_13 : decode cX5_within 13 = .ok (.invokevirtual 227, 3) := by decide +kernel
theorem dX5_within_16 : decode cX5_within 16 = .ok (.ifCond .ne 7, 3) := by decide +kernel
theorem dX5_within_19 : decode cX5_within 19 = .ok (.sipush (-9001), 3) := by decide +kernel
theorem dX5_within_22 : decode cX5_within 22 = .ok (.ireturn, 1) := by decide +kernel
theorem dX5_within_23 : decode cX5_within 23 = .ok (.aload_n 0, 1) := by decide +kernel
theorem dX5_within_24 : decode cX5_within 24 = .ok (.iconst 2, 1) := by decide +kernel
theorem dX5_within_25 : decode cX5_within 25 = .ok (.iload_n 1, 1) := by decide +kernel
theorem dX5_within_26 : decode cX5_within 26 = .ok (.imul, 1) := by decide +kernel
theorem dX5_within_27 : decode cX5_within 27 = .ok (.iload_n 2, 1) := by decide +kernel
theorem dX5_within_28 : decode cX5_within 28 = .ok (.iadd, 1) := by decide +kernel
theorem dX5_within_29 : decode cX5_within 29 = .ok (.iconst 2, 1) := by decide +kernel
theorem dX5_within_30 : decode cX5_within 30 = .ok (.iload_n 3, 1) := by decide +kernel
theorem dX5_within_31 : decode cX5_within 31 = .ok (.imul, 1) := by decide +kernel
theorem dX5_within_32 : decode cX5_within 32 = .ok (.iload 4, 2) := by decide +kernel
theorem dX5_within_34 : decode cX5_within 34 = .ok (.iadd, 1) := by decide +kernel
theorem dX5_within_35 : decode cX5_within 35 = .ok (.invokevirtual 209, 3) := by decide +kernel
theorem dX5_within_38 : decode cX5_within 38 = .ok (.ifCond .eq 7, 3) := by decide +kernel
theorem dX5_within_41 : decode cX5_within 41 = .ok (.iconst 1, 1) := by decide +kernel
theorem dX5_within_42 : decode cX5_within 42 = .ok (.goto 4, 3) := by decide +kernel
theorem dX5_within_45 : decode cX5_within 45 = .ok (.iconst 0, 1) := by decide +kernel
theorem dX5_within_46 : decode cX5_within 46 = .ok (.ireturn, 1) := by decide +kernel
theorem dX5_count_0 : decode cX5_count 0 = .ok (.iconst 0, 1) := by decide +kernel
theorem dX5_count_1 : decode cX5_count 1 = .ok (.istore_n 2, 1) := by decide +kernel
theorem dX5_count_2 : decode cX5_count 2 = .ok (.iconst 0, 1) := by decide +kernel
theorem dX5_count_3 : decode cX5_count 3 = .ok (.istore_n 3, 1) := by decide +kernel
theorem dX5_count_4 : decode cX5_count 4 = .ok (.iload_n 3, 1) := by decide +kernel
theorem dX5_count_5 : decode cX5_count 5 = .ok (.iconst 2, 1) := by decide +kernel
theorem dX5_count_6 : decode cX5_count 6 = .ok (.aload_n 0, 1) := by decide +kernel
theorem dX5_count_7 : decode cX5_count 7 = .ok (.getfield 136, 3) := by decide +kernel
theorem dX5_count_10 : decode cX5_count 10 = .ok (.imul, 1) := by decide +kernel
theorem dX5_count_11 : decode cX5_count 11 = .ok (.if_icmp .ge 36, 3) := by decide +kernel
theorem dX5_count_14 : decode cX5_count 14 = .ok (.iload_n 2, 1) := by decide +kernel
theorem dX5_count_15 : decode cX5_count 15 = .ok (.iload_n 3, 1) := by decide +kernel
theorem dX5_count_16 : decode cX5_count 16 = .ok (.iconst 2, 1) := by decide +kernel
theorem dX5_count_17 : decode cX5_count 17 = .ok (.irem, 1) := by decide +kernel
theorem dX5_count_18 : decode cX5_count 18 = .ok (.aload_n 0, 1) := by decide +kernel
theorem dX5_count_19 : decode cX5_count 19 = .ok (.getfield 68, 3) := by decide +kernel
theorem dX5_count_22 : decode cX5_count 22 = .ok (.iload_n 3, 1) := by decide +kernel
theorem dX5_count_23 : decode cX5_count 23 = .ok (.iconst 2, 1) := by decide +kernel
theorem dX5_count_24 : decode cX5_count 24 = .ok (.idiv, 1) := by decide +kernel
theorem dX5_count_25 : decode cX5_count 25 = .ok (.iaload, 1) := by decide +kernel
theorem dX5_count_26 : decode cX5_count 26 = .ok (.if_icmp .ge 12, 3) := by decide +kernel
theorem dX5_count_29 : decode cX5_count 29 = .ok (.aload_n 0, 1) := by decide +kernel
theorem dX5_count_30 : decode cX5_count 30 = .ok (.getfield 89, 3) := by decide +kernel
theorem dX5_count_33 : decode cX5_count 33 = .ok (.iload_n 3, 1) := by decide +kernel
theorem dX5_count_34 : decode cX5_count 34 = .ok (.iaload, 1) := by decide +kernel
theorem dX5_count_35 : decode cX5_count 35 = .ok (.goto 4, 3) := by decide +kernel
theorem dX5_count_38 : decode cX5_count 38 = .ok (.iconst 0, 1) := by decide +kernel
theorem dX5_count_39 : decode cX5_count 39 = .ok (.iadd, 1) := by decide +kernel
theorem dX5_count_40 : decode cX5_count 40 = .ok (.istore_n 2, 1) := by decide +kernel
theorem dX5_count_41 : decode cX5_count 41 = .ok (.iinc 3 1, 3) := by decide +kernel
theorem dX5_count_44 : decode cX5_count 44 = .ok (.goto (-40), 3) := by decide +kernel
theorem dX5_count_47 : decode cX5_count 47 = .ok (.iload_n 1, 1) := by decide +kernel
theorem dX5_count_48 : decode cX5_count 48 = .ok (.tableswitch 67 0 5 #[40, 45, 50, 55, 60, 65], 40) := by decide +kernel
theorem dX5_count_88 : decode cX5_count 88 = .ok (.aload_n 0, 1) := by decide +kernel
theorem dX5_count_89 : decode cX5_count 89 = .ok (.getfield 105, 3) := by decide +kernel
theorem dX5_count_92 : decode cX5_count 92 = .ok (.ireturn, 1) := by decide +kernel
theorem dX5_count_93 : decode cX5_count 93 = .ok (.aload_n 0, 1) := by decide +kernel
theorem dX5_count_94 : decode cX5_count 94 = .ok (.getfield 113, 3) := by decide +kernel
theorem dX5_count_97 : decode cX5_count 97 = .ok (.ireturn, 1) := by decide +kernel
theorem dX5_count_98 : decode cX5_count 98 = .ok (.aload_n 0, 1) := by decide +kernel
theorem dX5_count_99 : decode cX5_count 99 = .ok (.getfield 120, 3) := by decide +kernel
theorem dX5_count_102 : decode cX5_count 102 = .ok (.ireturn, 1) := by decide +kernel
theorem dX5_count_103 : decode cX5_count 103 = .ok (.aload_n 0, 1) := by decide +kernel
theorem dX5_count_104 : decode cX5_count 104 = .ok (.getfield 123, 3) := by decide +kernel
theorem dX5_count_107 : decode cX5_count 107 = .ok (.ireturn, 1) := by decide +kernel
theorem dX5_count_108 : decode cX5_count 108 = .ok (.aload_n 0, 1) := by decide +kernel
theorem dX5_count_109 : decode cX5_count 109 = .ok (.getfield 136, 3) := by decide +kernel
theorem dX5_count_112 : decode cX5_count 112 = .ok (.ireturn, 1) := by decide +kernel
theorem dX5_count_113 : decode cX5_count 113 = .ok (.iload_n 2, 1) := by decide +kernel
theorem dX5_count_114 : decode cX5_count 114 = .ok (.ireturn, 1) := by decide +kernel
theorem dX5_count_115 : decode cX5_count 115 = .ok (.sipush (-9002), 3) := by decide +kernel
theorem dX5_count_118 : decode cX5_count 118 = .ok (.ireturn, 1) := by decide +kernel
theorem dX5_clear_0 : decode cX5_clear 0 = .ok (.aload_n 0, 1) := by decide +kernel
theorem dX5_clear_1 : decode cX5_clear 1 = .ok (.getfield 136, 3) := by decide +kernel
theorem dX5_clear_4 : decode cX5_clear 4 = .ok (.istore_n 1, 1) := by decide +kernel
theorem dX5_clear_5 : decode cX5_clear 5 = .ok (.aload_n 0, 1) := by decide +kernel
theorem dX5_clear_6 : decode cX5_clear 6 = .ok (.iconst 0, 1) := by decide +kernel
theorem dX5_clear_7 : decode cX5_clear 7 = .ok (.putfield 105, 3) := by decide +kernel
theorem dX5_clear_10 : decode cX5_clear 10 = .ok (.aload_n 0, 1) := by decide +kernel
theorem dX5_clear_11 : decode cX5_clear 11 = .ok (.iconst 0, 1) := by decide +kernel
theorem dX5_clear_12 : decode cX5_clear 12 = .ok (.putfield 113, 3) := by decide +kernel
theorem dX5_clear_15 : decode cX5_clear 15 = .ok (.aload_n 0, 1) := by decide +kernel
theorem dX5_clear_16 : decode cX5_clear 16 = .ok (.iconst 0, 1) := by decide +kernel
theorem dX5_clear_17 : decode cX5_clear 17 = .ok (.putfield 120, 3) := by decide +kernel
theorem dX5_clear_20 : decode cX5_clear 20 = .ok (.aload_n 0, 1) := by decide +kernel
theorem dX5_clear_21 : decode cX5_clear 21 = .ok (.iconst 0, 1) := by decide +kernel
theorem dX5_clear_22 : decode cX5_clear 22 = .ok (.putfield 123, 3) := by decide +kernel
theorem dX5_clear_25 : decode cX5_clear 25 = .ok (.aload_n 0, 1) := by decide +kernel
theorem dX5_clear_26 : decode cX5_clear 26 = .ok (.iconst 0, 1) := by decide +kernel
theorem dX5_clear_27 : decode cX5_clear 27 = .ok (.putfield 136, 3) := by decide +kernel
theorem dX5_clear_30 : decode cX5_clear 30 = .ok (.iload_n 1, 1) := by decide +kernel
theorem dX5_clear_31 : decode cX5_clear 31 = .ok (.ireturn, 1) := by decide +kernel
end
section
/-- the array kinds of this system -/
def tyl (cs : Nat → ClassId) : List (ClassId × FieldType) := [(cs 0, .int), (cs 1, .long), (cs 2, .boolean), (cs 3, .object RX0), (cs 4, .object RX1), (cs 5, .object RX2), (cs 6, .object RX3)]
abbrev wM : Type := Nat → Option va_E
/-- the cells that M tells are in the heap -/
def rd (D : va_G) (M : wM) (H : Heap) : Prop := ∀ (a : Nat) (e : va_E), M a = some e → va_at D vwCl (a, e) H
/-- the world of a method that writes: M's cells, all of kind A; since H0 nothing outside A has changed -/
def wd (D : va_G) (A : Nat → Prop) (M : wM) (H0 H : Heap) (locs : List Loc) : Prop := (∀ q, H0.size ≤ q → A q) ∧ va_S A H0 H locs ∧ ∃ (L : List Nat) (f : Nat → va_E), (∀ a e, M a = some e ↔ (a ∈ L ∧ f a = e)) ∧ va_P D vwCl (va_pl L f) H ∧ va_D A (va_pl L f)
theorem rd.one {D : va_G} {M : wM} {H : Heap} (h : rd D M H) {a : Nat} {e : va_E} (hM : M a = some e) : va_P D vwCl [(a, e)] H := fun k q hk => by
  cases k with
  | zero => cases hk; exact h a e hM
  | succ n => cases hk
theorem wd.rd {D : va_G} {A : Nat → Prop} {M : wM} {H0 H : Heap} {locs : List Loc} (h : wd D A M H0 H locs) : rd D M H := by
  obtain ⟨-, -, L, f, hM, hP, -⟩ := h
  intro a e hae
  obtain ⟨h1, h2⟩ := (hM a e).mp hae
  obtain ⟨k, hk⟩ := va_pl_get (X := []) (f := f) h1
  rw [List.nil_append, h2] at hk
  exact hP k _ hk
theorem wd.inA {D : va_G} {A : Nat → Prop} {M : wM} {H0 H : Heap} {locs : List Loc} (h : wd D A M H0 H locs) {a : Nat} {e : va_E} (hae : M a = some e) : A a := by
  obtain ⟨-, -, L, f, hM, -, hD⟩ := h
  obtain ⟨h1, h2⟩ := (hM a e).mp hae
  obtain ⟨k, hk⟩ := va_pl_get (X := []) (f := f) h1
  rw [List.nil_append] at hk
  exact hD.2 k _ hk
theorem wd.enter {D : va_G} {A : Nat → Prop} {M : wM} {H0 H : Heap} {locs : List Loc} (h : wd D A M H0 H locs) : wd D A M H H [] := by
  obtain ⟨hA, hS, h⟩ := h
  exact ⟨fun q hq => hA q (Nat.le_trans hS.1 hq), va_S.rf, h⟩
theorem up_iff {M : wM} {L : List Nat} {f : Nat → va_E} (h : ∀ a e, M a = some e ↔ (a ∈ L ∧ f a = e)) {a0 : Nat} (h0 : a0 ∈ L) (e0 : va_E) : ∀ a e, va_up M a0 (some e0) a = some e ↔ (a ∈ L ∧ va_up f a0 e0 a = e) := by
  intro a e
  by_cases hq : a = a0
  · subst hq
    simp [va_up, h0]
  · simp only [va_up, hq, if_false]
    exact h a e
theorem new_iff {M : wM} {L : List Nat} {f : Nat → va_E} (h : ∀ a e, M a = some e ↔ (a ∈ L ∧ f a = e)) {a0 : Nat} (e0 : va_E) : ∀ a e, va_up M a0 (some e0) a = some e ↔ (a ∈ L ++ [a0] ∧ va_up f a0 e0 a = e) := by
  intro a e
  by_cases hq : a = a0
  · subst hq
    simp [va_up]
  · simp only [va_up, hq, if_false]
    rw [h a e]
    simp [hq]
/-- what a method's rows stand on -/
def kx (D : va_G) (cs : Nat → ClassId) (p : Program) (m : MethodId) (c : Code) (cc : ByteArray) (nL : Nat) (s : State) (args : Array Value) (own : String) : Prop := CallFix p m c cc nL s args tt own ∧ va_K D vwCl (tyl cs) s
section RD
variable {p : Program} {l : Launch} {e : Env} {R : Room} {s : State} {m : MethodId} {args : Array Value} {below : List Frame} {meth : Method} {c : Code} {H : Heap} {locs : List Loc} {cells slots : Nat} {Q : State → Prop}
variable {cc : ByteArray} {pc nL : Nat} {ls : Array Slot} {rest : List Value} {D : va_G} {cs : Nat → ClassId} {A : Nat → Prop} {a : Nat} {H0 : Heap} {M : wM} {own : String}
theorem r_get (C : kx D cs p m c cc nL s args own) (hR : rd D M H) {Cn ref : String} {T : u_T} {N ci index : Nat} {fs : List Value} (hM : M a = some (.inr (ci, fs))) (hc : vwCl[ci]? = some (Cn, T, N)) (hin : ∀ w ∈ u_ws Cn T N, w ∈ tt) (k : Nat) (hk : k < N) (hlk : Cond.fieldLink own index ref (T k).2.1 (T k).2.2.1 ∈ tt) (href : ref = (T k).1) {v : Value} (hv : fs[k]? = some v) (hdg : decode cc pc = .ok (.getfield index, 3)) (kk : W p l e R s m args below meth c H locs cells slots Q (F0 m (pc + 3) ls (v :: rest))) : W p l e R s m args below meth c H locs cells slots Q (F0 m pc ls (.ref a :: rest)) := by
  obtain ⟨⟨hx, hb, hml, hown, hts⟩, hK⟩ := C
  exact va_get hx hb hts hin hown hK (hR.one hM) 0 rfl hc k hk (hts _ hlk) (fun x h => by rw [href]; exact h) hv hdg kk
theorem r_iald (C : kx D cs p m c cc nL s args own) (hR : rd D M H) {n : Nat} {f : Nat → Int32} (hM : M a = some (.inl (cs 0, n, .inl f))) {i : Int32} (hin : vp_in i n) (hdg : decode cc pc = .ok (.iaload, 1)) (kk : W p l e R s m args below meth c H locs cells slots Q (F0 m (pc + 1) ls (.int (f i.toNatClampNeg) :: rest))) : W p l e R s m args below meth c H locs cells slots Q (F0 m pc ls (.int i :: .ref a :: rest)) :=
  va_iald C.1.1 C.1.2.1 C.2 (hR.one hM) 0 0 rfl rfl hin hdg kk
theorem r_lald (C : kx D cs p m c cc nL s args own) (hR : rd D M H) {n : Nat} {f : Nat → Int64} (hM : M a = some (.inl (cs 1, n, .inr (.inl f)))) {i : Int32} (hin : vp_in i n) (hdg : decode cc pc = .ok (.laload, 1)) (kk : W p l e R s m args below meth c H locs cells slots Q (F0 m (pc + 1) ls (.long (f i.toNatClampNeg) :: rest))) : W p l e R s m args below meth c H locs cells slots Q (F0 m pc ls (.int i :: .ref a :: rest)) :=
  va_lald C.1.1 C.1.2.1 C.2 (hR.one hM) 0 1 rfl rfl hin hdg kk
theorem r_zald (C : kx D cs p m c cc nL s args own) (hR : rd D M H) {n : Nat} {f : Nat → Int32} (hM : M a = some (.inl (cs 2, n, .inl f))) {i : Int32} (hin : vp_in i n) (hdg : decode cc pc = .ok (.baload, 1)) (kk : W p l e R s m args below meth c H locs cells slots Q (F0 m (pc + 1) ls (.int (f i.toNatClampNeg) :: rest))) : W p l e R s m args below meth c H locs cells slots Q (F0 m pc ls (.int i :: .ref a :: rest)) :=
  va_zald C.1.1 C.1.2.1 C.2 (hR.one hM) 0 2 rfl rfl hin hdg kk
theorem r_aald (C : kx D cs p m c cc nL s args own) (hR : rd D M H) (t0 : Nat) {cA : ClassId} {Cn : String} {n : Nat} {f : Nat → Option Nat} (hM : M a = some (.inl (cA, n, .inr (.inr (.inr (.inr f)))))) (ht : (tyl cs)[t0]? = some (cA, .object Cn)) {i : Int32} (hin : vp_in i n) (hdg : decode cc pc = .ok (.aaload, 1)) (kk : W p l e R s m args below meth c H locs cells slots Q (F0 m (pc + 1) ls (va_rf (f i.toNatClampNeg) :: rest))) : W p l e R s m args below meth c H locs cells slots Q (F0 m pc ls (.int i :: .ref a :: rest)) :=
  va_aldq C.1.1 C.1.2.1 C.2 (hR.one hM) 0 t0 rfl ht hin hdg kk
theorem r_alen (C : kx D cs p m c cc nL s args own) (hR : rd D M H) (t0 : Nat) {cA : ClassId} {x : vp_A} (hM : M a = some (.inl (cA, x))) {ty : FieldType} (ht : (tyl cs)[t0]? = some (cA, ty)) {v : Int32} (hv : Int32.ofNat x.1 = v) (hdg : decode cc pc = .ok (.arraylength, 1)) (kk : W p l e R s m args below meth c H locs cells slots Q (F0 m (pc + 1) ls (.int v :: rest))) : W p l e R s m args below meth c H locs cells slots Q (F0 m pc ls (.ref a :: rest)) :=
  va_alen C.1.1 C.1.2.1 C.2 (hR.one hM) 0 t0 rfl ht hv hdg kk
/-- the list behind a world, with the place of a cell -/
theorem wd.at {D : va_G} {A : Nat → Prop} {M : wM} {H0 H : Heap} {locs : List Loc} (h : wd D A M H0 H locs) {a : Nat} {e : va_E} (hM : M a = some e) : ∃ (L : List Nat) (f : Nat → va_E) (k : Nat), (∀ a e, M a = some e ↔ (a ∈ L ∧ f a = e)) ∧ va_P D vwCl (va_pl L f) H ∧ va_D A (va_pl L f) ∧ (va_pl L f)[k]? = some (a, e) ∧ ∀ e', (va_pl L f).set k (a, e') = va_pl L (va_up f a e') ∧ ∀ a1 e1, va_up M a (some e') a1 = some e1 ↔ (a1 ∈ L ∧ va_up f a e' a1 = e1) := by
  obtain ⟨-, -, L, f, hf, hP, hD⟩ := h
  obtain ⟨h1, h2⟩ := (hf a e).mp hM
  obtain ⟨k, hk⟩ := va_pl_get (X := []) (f := f) h1
  refine ⟨L, f, k, hf, hP, hD, ?_, fun e' => ⟨?_, up_iff hf h1 e'⟩⟩
  · rw [List.nil_append, h2] at hk
    exact hk
  · have := va_pl_set (X := []) (e := e') hD h1 hk
    rwa [List.nil_append, List.nil_append] at this
theorem w_put (C : kx D cs p m c cc nL s args own) (hW : wd D A M H0 H locs) {Cn ref : String} {T : u_T} {N ci index : Nat} {fs : List Value} (hM : M a = some (.inr (ci, fs))) (hc : vwCl[ci]? = some (Cn, T, N)) (hin : ∀ w ∈ u_ws Cn T N, w ∈ tt) (ty0 : Nat → FieldType) (hty : ∀ k, k < N → parseFieldDescriptor (T k).2.2.1 = some (ty0 k)) (hnm : ∀ a, a < N → ∀ b, b < N → a ≠ b → (T a).2.1 ≠ (T b).2.1) (k : Nat) (hk : k < N) (hlk : Cond.fieldLink own index ref (T k).2.1 (T k).2.2.1 ∈ tt) (href : ref = (T k).1) (hfin : (T k).2.2.2 = false) {v : Value} (hn : narrow (ty0 k) v = v) (hfit : fits (ty0 k) v = true) (hl : k < fs.length) (hdg : decode cc pc = .ok (.putfield index, 3)) (kk : ∀ (H1 : Heap) (locs1 : List Loc), wd D A (va_up M a (some (.inr (ci, fs.set k v)))) H0 H1 locs1 → W p l e R s m args below meth c H1 locs1 cells slots Q (F0 m (pc + 3) ls rest)) : W p l e R s m args below meth c H locs cells slots Q (F0 m pc ls (v :: .ref a :: rest)) := by
  obtain ⟨⟨hx, hb, hml, hown, hts⟩, hK⟩ := C
  obtain ⟨L, f, q0, hf, hP, hD, hq, hset⟩ := hW.at hM
  refine va_put hx hb hts hin ty0 hty hnm hown hK hP hD hW.2.1 q0 hq hc k hk (hts _ hlk) (fun x h => by rw [href]; exact h) hfin (hty k hk) hn hfit hl hdg (fun H1 locs1 h1 h2 h3 => kk H1 locs1 ⟨hW.1, h3, L, _, (hset _).2, ?_, ?_⟩)
  · rw [← (hset _).1]; exact h1
  · rw [← (hset _).1]; exact h2
theorem w_putF (C : kx D cs p m c cc nL s args own) (hW : wd D A M H0 H locs) {Cn ref : String} {T : u_T} {N ci index : Nat} {fs : List Value} (hM : M a = some (.inr (ci, fs))) (hc : vwCl[ci]? = some (Cn, T, N)) (hin : ∀ w ∈ u_ws Cn T N, w ∈ tt) (ty0 : Nat → FieldType) (hty : ∀ k, k < N → parseFieldDescriptor (T k).2.2.1 = some (ty0 k)) (hnm : ∀ a, a < N → ∀ b, b < N → a ≠ b → (T a).2.1 ≠ (T b).2.1) (k : Nat) (hk : k < N) (hlk : Cond.fieldLink own index ref (T k).2.1 (T k).2.2.1 ∈ tt) (href : ref = (T k).1) (hfin : (T k).2.2.2 = true) (hini : meth.name = "<init>") (hdecl : (T k).1 = own) {v : Value} (hn : narrow (ty0 k) v = v) (hfit : fits (ty0 k) v = true) (hl : k < fs.length) (hdg : decode cc pc = .ok (.putfield index, 3)) (kk : ∀ (H1 : Heap) (locs1 : List Loc), wd D A (va_up M a (some (.inr (ci, fs.set k v)))) H0 H1 locs1 → W p l e R s m args below meth c H1 locs1 cells slots Q (F0 m (pc + 3) ls rest)) : W p l e R s m args below meth c H locs cells slots Q (F0 m pc ls (v :: .ref a :: rest)) := by
  obtain ⟨⟨hx, hb, hml, hown, hts⟩, hK⟩ := C
  obtain ⟨L, f, q0, hf, hP, hD, hq, hset⟩ := hW.at hM
  refine va_putF hx hb hts hin ty0 hty hnm hown hK hP hD hW.2.1 q0 hq hc k hk (hts _ hlk) (fun x h => by rw [href]; exact h) hfin hini hdecl (hty k hk) hn hfit hl hdg (fun H1 locs1 h1 h2 h3 => kk H1 locs1 ⟨hW.1, h3, L, _, (hset _).2, ?_, ?_⟩)
  · rw [← (hset _).1]; exact h1
  · rw [← (hset _).1]; exact h2
theorem w_iast (C : kx D cs p m c cc nL s args own) (hW : wd D A M H0 H locs) {n : Nat} {f : Nat → Int32} (hM : M a = some (.inl (cs 0, n, .inl f))) {i x : Int32} (hin : vp_in i n) (hdg : decode cc pc = .ok (.iastore, 1)) (kk : ∀ (H1 : Heap) (locs1 : List Loc), wd D A (va_up M a (some (.inl (cs 0, n, .inl (upd f i.toNatClampNeg x))))) H0 H1 locs1 → W p l e R s m args below meth c H1 locs1 cells slots Q (F0 m (pc + 1) ls rest)) : W p l e R s m args below meth c H locs cells slots Q (F0 m pc ls (.int x :: .int i :: .ref a :: rest)) := by
  obtain ⟨L, f, q0, hf, hP, hD, hq, hset⟩ := hW.at hM
  refine va_iast C.1.1 C.1.2.1 C.2 hP hD hW.2.1 q0 0 hq rfl hin hdg (fun H1 locs1 h1 h2 h3 => kk H1 locs1 ⟨hW.1, h3, L, _, (hset _).2, ?_, ?_⟩)
  · rw [← (hset _).1]; exact h1
  · rw [← (hset _).1]; exact h2
theorem w_last (C : kx D cs p m c cc nL s args own) (hW : wd D A M H0 H locs) {n : Nat} {f : Nat → Int64} (hM : M a = some (.inl (cs 1, n, .inr (.inl f)))) {i : Int32} {x : Int64} (hin : vp_in i n) (hdg : decode cc pc = .ok (.lastore, 1)) (kk : ∀ (H1 : Heap) (locs1 : List Loc), wd D A (va_up M a (some (.inl (cs 1, n, .inr (.inl (vp_updL f i.toNatClampNeg x)))))) H0 H1 locs1 → W p l e R s m args below meth c H1 locs1 cells slots Q (F0 m (pc + 1) ls rest)) : W p l e R s m args below meth c H locs cells slots Q (F0 m pc ls (.long x :: .int i :: .ref a :: rest)) := by
  obtain ⟨L, f, q0, hf, hP, hD, hq, hset⟩ := hW.at hM
  refine va_last C.1.1 C.1.2.1 C.2 hP hD hW.2.1 q0 1 hq rfl hin hdg (fun H1 locs1 h1 h2 h3 => kk H1 locs1 ⟨hW.1, h3, L, _, (hset _).2, ?_, ?_⟩)
  · rw [← (hset _).1]; exact h1
  · rw [← (hset _).1]; exact h2
theorem w_zast (C : kx D cs p m c cc nL s args own) (hW : wd D A M H0 H locs) {n : Nat} {f : Nat → Int32} (hM : M a = some (.inl (cs 2, n, .inl f))) {i x : Int32} (hx : vp_nar .boolean x = x) (hin : vp_in i n) (hdg : decode cc pc = .ok (.bastore, 1)) (kk : ∀ (H1 : Heap) (locs1 : List Loc), wd D A (va_up M a (some (.inl (cs 2, n, .inl (upd f i.toNatClampNeg x))))) H0 H1 locs1 → W p l e R s m args below meth c H1 locs1 cells slots Q (F0 m (pc + 1) ls rest)) : W p l e R s m args below meth c H locs cells slots Q (F0 m pc ls (.int x :: .int i :: .ref a :: rest)) := by
  obtain ⟨L, f, q0, hf, hP, hD, hq, hset⟩ := hW.at hM
  refine va_zast C.1.1 C.1.2.1 C.2 hP hD hW.2.1 q0 2 hq rfl hin hdg (fun H1 locs1 h1 h2 h3 => ?_)
  rw [hx] at h1 h2
  refine kk H1 locs1 ⟨hW.1, h3, L, _, (hset _).2, ?_, ?_⟩
  · rw [← (hset _).1]; exact h1
  · rw [← (hset _).1]; exact h2
theorem w_aast (C : kx D cs p m c cc nL s args own) (hW : wd D A M H0 H locs) (t0 ci : Nat) {cA : ClassId} {r : vw_C} {n v : Nat} {vs : List Value} {f : Nat → Option Nat} (hM : M a = some (.inl (cA, n, .inr (.inr (.inr (.inr f)))))) (ht : (tyl cs)[t0]? = some (cA, .object r.1)) (hv : M v = some (.inr (ci, vs))) (hc : vwCl[ci]? = some r) {i : Int32} (hin : vp_in i n) (hdg : decode cc pc = .ok (.aastore, 1)) (kk : ∀ (H1 : Heap) (locs1 : List Loc), wd D A (va_up M a (some (.inl (cA, n, .inr (.inr (.inr (.inr (va_up f i.toNatClampNeg (some v))))))))) H0 H1 locs1 → W p l e R s m args below meth c H1 locs1 cells slots Q (F0 m (pc + 1) ls rest)) : W p l e R s m args below meth c H locs cells slots Q (F0 m pc ls (.ref v :: .int i :: .ref a :: rest)) := by
  obtain ⟨L, f', q0, hf, hP, hD, hq, hset⟩ := hW.at hM
  obtain ⟨h1, h2⟩ := (hf v _).mp hv
  obtain ⟨qk, hqk⟩ := va_pl_get (X := []) (f := f') h1
  rw [List.nil_append, h2] at hqk
  refine va_astq C.1.1 C.1.2.1 C.2 hP hD hW.2.1 q0 t0 qk ci hq ht hqk hc hin hdg (fun H1 locs1 h1 h2 h3 => kk H1 locs1 ⟨hW.1, h3, L, _, (hset _).2, ?_, ?_⟩)
  · rw [← (hset _).1]; exact h1
  · rw [← (hset _).1]; exact h2
/-- a new cell comes to a world -/
theorem wd.add {D : va_G} {A : Nat → Prop} {M : wM} {H0 H H1 : Heap} {locs locs1 : List Loc} (hW : wd D A M H0 H locs) {L : List Nat} {f : Nat → va_E} (hf : ∀ a e, M a = some e ↔ (a ∈ L ∧ f a = e)) {q : Nat} {e : va_E} (h1 : va_P D vwCl (va_pl L f ++ [(q, e)]) H1) (h2 : va_D A (va_pl L f ++ [(q, e)])) (h3 : va_S A H0 H1 locs1) : M q = none ∧ wd D A (va_up M q (some e)) H0 H1 locs1 := by
  have hq : q ∉ L := fun h => by
    obtain ⟨k, hk⟩ := va_pl_get (X := []) (f := f) h
    rw [List.nil_append] at hk
    have hl := (List.getElem?_eq_some_iff.mp hk).1
    have := h2.1 k (va_pl L f).length (q, f q) (q, e) (by rw [List.getElem?_append_left hl]; exact hk) (by rw [List.getElem?_append_right (Nat.le_refl _), Nat.sub_self]; rfl) rfl
    omega
  refine ⟨?_, hW.1, h3, L ++ [q], va_up f q e, new_iff hf e, ?_, ?_⟩
  · cases hm : M q with
    | none => rfl
    | some x => exact absurd ((hf q x).mp hm).1 hq
  · rw [← va_pl_push hq]; exact h1
  · rw [← va_pl_push hq]; exact h2
theorem w_new (C : kx D cs p m c cc nL s args own) (hW : wd D A M H0 H locs) {Cn : String} {T : u_T} {N ci index : Nat} (hc : vwCl[ci]? = some (Cn, T, N)) (hin : ∀ w ∈ u_ws Cn T N, w ∈ tt) (ty : Nat → FieldType) (hty : ∀ k, k < N → parseFieldDescriptor (T k).2.2.1 = some (ty k)) (hcl : Cond.classLink own index Cn ∈ tt) (hinst : Cond.instantiable Cn N ∈ tt) (hini : Cond.initialized Cn ∈ tt) {fs : List Value} (hfs : ∀ j, j < N → defaultValue (ty j) = vp_V fs j) (hcells : cells + 1 ≤ R.cells) (hslots : slots + N ≤ R.slots) (hdg : decode cc pc = .ok (.new index, 3)) (kk : ∀ (q : Nat) (H1 : Heap), M q = none → wd D A (va_up M q (some (.inr (ci, fs)))) H0 H1 locs → W p l e R s m args below meth c H1 locs (cells + 1) (slots + N) Q (F0 m (pc + 3) ls (.ref q :: rest))) : W p l e R s m args below meth c H locs cells slots Q (F0 m pc ls rest) := by
  obtain ⟨⟨hx, hb, hml, hown, hts⟩, hK⟩ := C
  obtain ⟨L, f, hf, hP, hD⟩ := hW.2.2
  refine va_new hx hb hts hin ty hty hown (hts _ hcl) (hts _ hinst) (hts _ hini) hK hP hD hW.2.1 hW.1 hc hfs hcells hslots hdg (fun q H1 h1 h2 h3 => ?_)
  obtain ⟨h4, h5⟩ := hW.add hf h1 h2 h3
  exact kk q H1 h4 h5
theorem w_newa (C : kx D cs p m c cc nL s args own) (hW : wd D A M H0 H locs) {atype : ArrayType} {ty : FieldType} (t0 : Nat) (ht : (tyl cs)[t0]? = some (cs t0, ty)) (hra : ∀ (U : State) (cA : ClassId), va_RA U cA ty → U.vm.findClass ("[" ++ ty.toString) = some cA) (harr : Cond.arrayClass (newarray.typeOf atype) ∈ tt) (hty : newarray.typeOf atype = ty) {n : Int32} {N' : Nat} {a0 : vp_A} (ha : ∀ cA : ClassId, vp_cell cA a0 = arrV cA N' (fun _ => defaultValue ty)) (hn : ¬ n < 0) (hN : n.toNatClampNeg = N') (hbytes : N' * componentBytes ty ≤ 536870912) (hcells : cells + 1 ≤ R.cells) (hslots : slots + N' ≤ R.slots) (hdg : decode cc pc = .ok (.newarray atype, 2)) (kk : ∀ (q : Nat) (H1 : Heap), M q = none → wd D A (va_up M q (some (.inl (cs t0, a0)))) H0 H1 locs → W p l e R s m args below meth c H1 locs (cells + 1) (slots + N') Q (F0 m (pc + 2) ls (.ref q :: rest))) : W p l e R s m args below meth c H locs cells slots Q (F0 m pc ls (.int n :: rest)) := by
  obtain ⟨⟨hx, hb, hml, hown, hts⟩, hK⟩ := C
  obtain ⟨L, f, hf, hP, hD⟩ := hW.2.2
  refine va_newa hx hb (hts _ harr) hty hK hP hD hW.2.1 hW.1 ha hn hN hbytes hcells hslots hdg (fun q cA H1 h0 h1 h2 h3 => ?_)
  have e1 := hra s cA (h0.2 (tyl cs).length (cA, ty) (by rw [List.getElem?_append_right (Nat.le_refl _), Nat.sub_self]; rfl)).2
  have e2 := hra s (cs t0) (hK.2 t0 _ ht).2
  have e3 : cA = cs t0 := Option.some.inj (e1.symm.trans e2)
  subst e3
  obtain ⟨h4, h5⟩ := hW.add hf h1 h2 h3
  exact kk q H1 h4 h5
theorem w_newq (C : kx D cs p m c cc nL s args own) (hW : wd D A M H0 H locs) {Cn : String} {index : Nat} (t0 : Nat) (ht : (tyl cs)[t0]? = some (cs t0, .object Cn)) (hclink : Cond.classLink own index Cn ∈ tt) (hover : va_AO Cn s) {n : Int32} {N' : Nat} (hn : ¬ n < 0) (hN : n.toNatClampNeg = N') (hbytes : N' * 4 ≤ 536870912) (hcells : cells + 1 ≤ R.cells) (hslots : slots + N' ≤ R.slots) (hdg : decode cc pc = .ok (.anewarray index, 3)) (kk : ∀ (q : Nat) (H1 : Heap), M q = none → wd D A (va_up M q (some (.inl (cs t0, N', .inr (.inr (.inr (.inr (fun _ => none)))))))) H0 H1 locs → W p l e R s m args below meth c H1 locs (cells + 1) (slots + N') Q (F0 m (pc + 3) ls (.ref q :: rest))) : W p l e R s m args below meth c H locs cells slots Q (F0 m pc ls (.int n :: rest)) := by
  obtain ⟨⟨hx, hb, hml, hown, hts⟩, hK⟩ := C
  obtain ⟨L, f, hf, hP, hD⟩ := hW.2.2
  refine va_newq hx hb hown (hts _ hclink) hover hK hP hD hW.2.1 hW.1 hn hN hbytes hcells hslots hdg (fun q cA H1 h0 h1 h2 h3 => ?_)
  obtain ⟨-, -, -, -, -, e1⟩ := (h0.2 (tyl cs).length (cA, .object Cn) (by rw [List.getElem?_append_right (Nat.le_refl _), Nat.sub_self]; rfl)).2
  obtain ⟨-, -, -, -, -, e2⟩ := (hK.2 t0 _ ht).2
  have e3 : cA = cs t0 := Option.some.inj (e1.symm.trans e2)
  subst e3
  obtain ⟨h4, h5⟩ := hW.add hf h1 h2 h3
  exact kk q H1 h4 h5
end RD
/-- a method that writes nothing: its start -/
def roP (D : va_G) (cs : Nat → ClassId) (M : wM) (av : List Value) : Array Value → State → Prop := va_Pc av (fun U => va_K D vwCl (tyl cs) U ∧ rd D M U.heap)
/-- a method that writes: its start -/
def wrP (D : va_G) (cs : Nat → ClassId) (A : Nat → Prop) (M : wM) (av : List Value) : Array Value → State → Prop := va_Pc av (fun U => va_K D vwCl (tyl cs) U ∧ wd D A M U.heap U.heap [])
/-- the world behind it -/
def wrB (D : va_G) (A : Nat → Prop) (M : wM) (t : State) : Prop := wd D A M t.heap t.heap []
def noA : Nat → Prop := fun _ => False
/-- an answer that is a reference or null, nothing written -/
def roQ (post : Option Nat → Prop) : Array Value → State → Outcome → State → Prop := va_Sq post
/-- a method's words -/
abbrev mw (y : MethodName) (bytes : ByteArray) (maxL : Nat) (ret : Option FieldType) : List Cond := .code y bytes maxL ret :: tt
theorem ro_met {l : Launch} {D : va_G} {cs : Nat → ClassId} {M : wM} {y : MethodName} {cc : ByteArray} {nL : Nat} {ret : Option FieldType} {rm : Room} {av : List Value} {Qc : Array Value → State → Outcome → State → Prop} (hy : plainName y.cls = true) (hlen : (lg_sl av).length ≤ nL)
    (body : ∀ (p : Program) (e : Env) (s : State) (m : MethodId) (below : List Frame) (meth : Method) (c : Code) (ls : Array Slot), kx D cs p m c cc nL s av.toArray y.cls → rd D M s.heap → meth.sig.returnType = ret → meth.locks = false → lv_has ls nL (lv_args 0 av) → W p l e rm s m av.toArray below meth c s.heap [] 0 0 (MQ below Qc av.toArray s 0 0 noA) (F0 m 0 ls [])) : Met l y (mw y cc nL ret) rm (roP D cs M av) Qc 0 0 noA := by
  refine Met.ofW (cc := cc) (maxL := nL) (ret := ret) hy rfl ?_
  intro p e s m args below meth c s₁ B hml hv
  obtain ⟨rfl, hK, hR⟩ := hv
  have hts := atoms_spec (ws := mw y cc nL ret) B.pre
  have hown : s.vm.findClass y.cls = some m.cls := findClass_of_methodNamed B.named
  have hl := lv_entry av (n := nL) hlen
  rw [lg_entry_eq]
  exact body p e s m below meth c _ ⟨⟨B.exec, B.bytes, hml, hown, fun w hw => hts w (List.mem_cons_of_mem _ hw)⟩, hK⟩ hR B.returns B.notSynchronized hl
theorem wr_met {l : Launch} {D : va_G} {cs : Nat → ClassId} {A : Nat → Prop} {M : wM} {y : MethodName} {cc : ByteArray} {nL mc ms : Nat} {ret : Option FieldType} {rm : Room} {av : List Value} {Qc : Array Value → State → Outcome → State → Prop} (hy : plainName y.cls = true) (hlen : (lg_sl av).length ≤ nL)
    (body : ∀ (p : Program) (e : Env) (s : State) (m : MethodId) (below : List Frame) (meth : Method) (c : Code) (ls : Array Slot), kx D cs p m c cc nL s av.toArray y.cls → wd D A M s.heap s.heap [] → meth.sig.returnType = ret → meth.locks = false → meth.name = y.name → lv_has ls nL (lv_args 0 av) → W p l e rm s m av.toArray below meth c s.heap [] 0 0 (MQ below Qc av.toArray s mc ms A) (F0 m 0 ls [])) : Met l y (mw y cc nL ret) rm (wrP D cs A M av) Qc mc ms A := by
  refine Met.ofW (cc := cc) (maxL := nL) (ret := ret) hy rfl ?_
  intro p e s m args below meth c s₁ B hml hv
  obtain ⟨rfl, hK, hR⟩ := hv
  have hts := atoms_spec (ws := mw y cc nL ret) B.pre
  have hown : s.vm.findClass y.cls = some m.cls := findClass_of_methodNamed B.named
  have hl := lv_entry av (n := nL) hlen
  rw [lg_entry_eq]
  exact body p e s m below meth c _ ⟨⟨B.exec, B.bytes, hml, hown, fun w hw => hts w (List.mem_cons_of_mem _ hw)⟩, hK⟩ hR B.returns B.notSynchronized (name_of_methodNamed B.named B.method).1 hl
/-- what a call's place needs: its words -/
def mG (own : String) (index : Nat) (y : MethodName) (bytes : ByteArray) (maxL : Nat) (ret : Option FieldType) (n : Nat) : Prop := (Cond.methodLink own index y ∈ tt ∧ Cond.initialized y.cls ∈ tt ∧ Cond.code y bytes maxL ret ∈ tt) ∧ (y.cls ≠ "java/lang/invoke/MethodHandle" ∧ y.cls ≠ "java/lang/invoke/VarHandle" ∧ (parseMethodDescriptor y.desc).map (fun d => d.parameters.length) = some n)
def mGV (own : String) (index : Nat) (y : MethodName) (bytes : ByteArray) (maxL : Nat) (ret : Option FieldType) (n : Nat) : Prop := mG own index y bytes maxL ret n ∧ Cond.instanceMethod y ∈ tt ∧ Cond.selects y.cls y y ∈ tt
def mGS (own : String) (index : Nat) (y : MethodName) (bytes : ByteArray) (maxL : Nat) (ret : Option FieldType) (n : Nat) : Prop := mG own index y bytes maxL ret n ∧ Cond.static y ∈ tt
def mGI (own : String) (index : Nat) (y : MethodName) (bytes : ByteArray) (maxL : Nat) (n : Nat) : Prop := mG own index y bytes maxL none n ∧ y.name = "<init>" ∧ Cond.instanceMethod y ∈ tt
/-- the room that a call needs -/
def mR (R rm : Room) (maxL mc ms : Nat) : Prop := rm.cells = mc ∧ rm.slots = ms ∧ rm.frames + 1 ≤ R.frames ∧ 8 + (maxL + 11) + rm.locals ≤ R.locals
theorem gi_mw {y : MethodName} {bytes : ByteArray} {maxL : Nat} {ret : Option FieldType} (h : Cond.code y bytes maxL ret ∈ tt) : GoodIn tt (mw y bytes maxL ret) := fun w hw => by
  have hm : w ∈ tt := (List.mem_cons.mp hw).elim (fun e => by rw [e]; exact h) id
  exact ⟨hm, (tt_good w hm).2⟩
theorem cb_of {R : Room} {s : State} {args : Array Value} {own : String} {index maxL mc ms n : Nat} {y : MethodName} {bytes : ByteArray} {ret : Option FieldType} {rm : Room} (ht : ∀ w ∈ tt, w.before args s = true) (g : mG own index y bytes maxL ret n) (hR : mR R rm maxL mc ms) : CallB R s args own index y bytes maxL ret (mw y bytes maxL ret) rm mc ms n :=
  callB_of n ht (gi_mw g.1.2.2) rfl hR.1 hR.2.1 (ht _ g.1.2.1) (ht _ g.1.1) g.2 hR.2.2
theorem ro_blind {D : va_G} {cs : Nat → ClassId} {M : wM} {av : List Value} : FrameBlind (roP D cs M av) := fun a U g mk q => by
  obtain ⟨q0, q1, q2⟩ := q
  exact ⟨q0, va_K.moved (u := U) (U := U.calling g mk a) (Vm.Alike.refl U.vm) q1, q2⟩
theorem wr_blind {D : va_G} {cs : Nat → ClassId} {A : Nat → Prop} {M : wM} {av : List Value} : FrameBlind (wrP D cs A M av) := fun a U g mk q => by
  obtain ⟨q0, q1, q2⟩ := q
  exact ⟨q0, va_K.moved (u := U) (U := U.calling g mk a) (Vm.Alike.refl U.vm) q1, q2⟩
section CALLS
variable {p : Program} {l : Launch} {e : Env} {R : Room} {s : State} {m : MethodId} {args : Array Value} {below : List Frame} {meth : Method} {c : Code} {H : Heap} {locs : List Loc} {cells slots : Nat} {Q : State → Prop}
variable {cc : ByteArray} {pc nL : Nat} {ls : Array Slot} {rest st0 : List Value} {D : va_G} {cs : Nat → ClassId} {A : Nat → Prop} {M : wM} {own : String}
variable {y : MethodName} {bytes : ByteArray} {maxL n index mc ms : Nat} {ret : Option FieldType} {rm : Room} {Qc : Array Value → State → Outcome → State → Prop} {As : List Value} {b ci : Nat} {fs : List Value} {rc : vw_C}
theorem ro_goI {a : Array Value} {post : Int32 → Prop} (hr : va_Run p l e R s m args below meth c H locs cells slots 0 0 (F0 m pc ls st0) rest (vp_Si post a) noA) (kk : ∀ r : Int32, post r → W p l e R s m args below meth c H locs cells slots Q (F0 m (pc + 3) ls (.int r :: rest))) : W p l e R s m args below meth c H locs cells slots Q (F0 m pc ls st0) := by
  intro T hT X
  obtain ⟨v, st₀, t, T', L, h0, X', hL, e1, e2, ⟨r, hv, hp, hh⟩, st⟩ := hr T hT X
  cases hv
  have hLn : L = [] := by
    cases L with
    | nil => rfl
    | cons x xs => exact absurd (hL x List.mem_cons_self) id
  subst hLn
  rw [List.append_nil, Nat.add_zero, Nat.add_zero] at X'
  obtain ⟨t2, a1, b1⟩ := kk r hp T' (by rw [e1, hh, h0]) X'
  exact ⟨t2, st t2 a1, b1⟩
theorem ro_goL {a : Array Value} {post : Int64 → Prop} (hr : va_Run p l e R s m args below meth c H locs cells slots 0 0 (F0 m pc ls st0) rest (vp_Sl post a) noA) (kk : ∀ r : Int64, post r → W p l e R s m args below meth c H locs cells slots Q (F0 m (pc + 3) ls (.long r :: rest))) : W p l e R s m args below meth c H locs cells slots Q (F0 m pc ls st0) := by
  intro T hT X
  obtain ⟨v, st₀, t, T', L, h0, X', hL, e1, e2, ⟨r, hv, hp, hh⟩, st⟩ := hr T hT X
  cases hv
  have hLn : L = [] := by
    cases L with
    | nil => rfl
    | cons x xs => exact absurd (hL x List.mem_cons_self) id
  subst hLn
  rw [List.append_nil, Nat.add_zero, Nat.add_zero] at X'
  obtain ⟨t2, a1, b1⟩ := kk r hp T' (by rw [e1, hh, h0]) X'
  exact ⟨t2, st t2 a1, b1⟩
theorem ro_goQ {a : Array Value} {post : Option Nat → Prop} (hr : va_Run p l e R s m args below meth c H locs cells slots 0 0 (F0 m pc ls st0) rest (va_Sq post a) noA) (kk : ∀ r : Option Nat, post r → W p l e R s m args below meth c H locs cells slots Q (F0 m (pc + 3) ls (va_rf r :: rest))) : W p l e R s m args below meth c H locs cells slots Q (F0 m pc ls st0) := by
  intro T hT X
  obtain ⟨v, st₀, t, T', L, h0, X', hL, e1, e2, ⟨r, hv, hp, hh⟩, st⟩ := hr T hT X
  cases hv
  have hLn : L = [] := by
    cases L with
    | nil => rfl
    | cons x xs => exact absurd (hL x List.mem_cons_self) id
  subst hLn
  rw [List.append_nil, Nat.add_zero, Nat.add_zero] at X'
  obtain ⟨t2, a1, b1⟩ := kk r hp T' (by rw [e1, hh, h0]) X'
  exact ⟨t2, st t2 a1, b1⟩
/-- a call of an instance method that writes nothing -/
theorem ro_V (C : kx D cs p m c cc nL s args own) (hR : rd D M H) (g : mGV own index y bytes maxL ret n) (hM : Met l y (mw y bytes maxL ret) rm (roP D cs M (.ref b :: As)) Qc 0 0 noA) (hb : M b = some (.inr (ci, fs))) (hc : vwCl[ci]? = some rc) (hcn : rc.1 = y.cls) (hr : mR R rm maxL 0 0) (hn : As.length = n) (hsz : ls.size = nL) (hst : st0 = As.reverse ++ .ref b :: rest) (hcat : (rest.map fun v => v.category).sum ≤ 8) (hdg : decode cc pc = .ok (.invokevirtual index, 3)) (hf : cells + 0 ≤ R.cells ∧ slots + 0 ≤ R.slots) : va_Run p l e R s m args below meth c H locs cells slots 0 0 (F0 m pc ls st0) rest (Qc (Value.ref b :: As).toArray) noA := by
  obtain ⟨cell, h1, h2, h3⟩ := va_recv (q0 := 0) C.2 (hR.one hb) hc rfl
  exact va_runV (C := y.cls) C.1 hM ⟨cb_of C.1.2.2.2.2 g.1 hr, C.1.2.2.2.2 _ g.2.1, C.1.2.2.2.2 _ g.2.2⟩ ⟨ro_blind, ⟨cell, h1, h2, by rw [← hcn]; exact h3⟩, fun U hU hW => ⟨rfl, va_K.moved hW.alike C.2, by rw [hU]; exact hR⟩⟩ rfl hn hsz hst (lv_room hcat) hdg hf
/-- a call of a static method that writes nothing -/
theorem ro_S (C : kx D cs p m c cc nL s args own) (hR : rd D M H) (g : mGS own index y bytes maxL ret n) (hM : Met l y (mw y bytes maxL ret) rm (roP D cs M As) Qc 0 0 noA) (hr : mR R rm maxL 0 0) (hn : As.length = n) (hsz : ls.size = nL) (hst : st0 = As.reverse ++ rest) (hcat : (rest.map fun v => v.category).sum ≤ 8) (hdg : decode cc pc = .ok (.invokestatic index, 3)) (hf : cells + 0 ≤ R.cells ∧ slots + 0 ≤ R.slots) : va_Run p l e R s m args below meth c H locs cells slots 0 0 (F0 m pc ls st0) rest (Qc As.toArray) noA :=
  va_runS C.1 hM ⟨cb_of C.1.2.2.2.2 g.1 hr, C.1.2.2.2.2 _ g.2⟩ ⟨ro_blind, fun U hU hW => ⟨rfl, va_K.moved hW.alike C.2, by rw [hU]; exact hR⟩⟩ rfl hn hsz hst (lv_room hcat) hdg hf
/-- calls of methods that write -/
theorem wr_V (C : kx D cs p m c cc nL s args own) (hW : wd D A M s.heap H locs) (g : mGV own index y bytes maxL ret n) (hM : Met l y (mw y bytes maxL ret) rm (wrP D cs A M (.ref b :: As)) Qc mc ms A) (hb : M b = some (.inr (ci, fs))) (hc : vwCl[ci]? = some rc) (hcn : rc.1 = y.cls) (hr : mR R rm maxL mc ms) (hn : As.length = n) (hsz : ls.size = nL) (hst : st0 = As.reverse ++ .ref b :: rest) (hcat : (rest.map fun v => v.category).sum ≤ 8) (hdg : decode cc pc = .ok (.invokevirtual index, 3)) (hf : cells + mc ≤ R.cells ∧ slots + ms ≤ R.slots) : va_Run p l e R s m args below meth c H locs cells slots mc ms (F0 m pc ls st0) rest (Qc (Value.ref b :: As).toArray) A := by
  obtain ⟨cell, h1, h2, h3⟩ := va_recv (q0 := 0) C.2 (hW.rd.one hb) hc rfl
  exact va_runV (C := y.cls) C.1 hM ⟨cb_of C.1.2.2.2.2 g.1 hr, C.1.2.2.2.2 _ g.2.1, C.1.2.2.2.2 _ g.2.2⟩ ⟨wr_blind, ⟨cell, h1, h2, by rw [← hcn]; exact h3⟩, fun U hU hW1 => ⟨rfl, va_K.moved hW1.alike C.2, by rw [hU]; exact hW.enter⟩⟩ rfl hn hsz hst (lv_room hcat) hdg hf
theorem wr_S (C : kx D cs p m c cc nL s args own) (hW : wd D A M s.heap H locs) (g : mGS own index y bytes maxL ret n) (hM : Met l y (mw y bytes maxL ret) rm (wrP D cs A M As) Qc mc ms A) (hr : mR R rm maxL mc ms) (hn : As.length = n) (hsz : ls.size = nL) (hst : st0 = As.reverse ++ rest) (hcat : (rest.map fun v => v.category).sum ≤ 8) (hdg : decode cc pc = .ok (.invokestatic index, 3)) (hf : cells + mc ≤ R.cells ∧ slots + ms ≤ R.slots) : va_Run p l e R s m args below meth c H locs cells slots mc ms (F0 m pc ls st0) rest (Qc As.toArray) A :=
  va_runS C.1 hM ⟨cb_of C.1.2.2.2.2 g.1 hr, C.1.2.2.2.2 _ g.2⟩ ⟨wr_blind, fun U hU hW1 => ⟨rfl, va_K.moved hW1.alike C.2, by rw [hU]; exact hW.enter⟩⟩ rfl hn hsz hst (lv_room hcat) hdg hf
theorem wr_I (C : kx D cs p m c cc nL s args own) (hW : wd D A M s.heap H locs) (g : mGI own index y bytes maxL n) (hM : Met l y (mw y bytes maxL none) rm (wrP D cs A M (.ref b :: As)) Qc mc ms A) (hr : mR R rm maxL mc ms) (hn : As.length = n) (hsz : ls.size = nL) (hst : st0 = As.reverse ++ .ref b :: rest) (hcat : (rest.map fun v => v.category).sum ≤ 8) (hdg : decode cc pc = .ok (.invokespecial index, 3)) (hf : cells + mc ≤ R.cells ∧ slots + ms ≤ R.slots) : va_Run p l e R s m args below meth c H locs cells slots mc ms (F0 m pc ls st0) rest (Qc (Value.ref b :: As).toArray) A :=
  va_runI C.1 hM ⟨cb_of C.1.2.2.2.2 g.1 hr, g.2.1, C.1.2.2.2.2 _ g.2.2⟩ ⟨wr_blind, fun U hU hW1 => ⟨rfl, va_K.moved hW1.alike C.2, by rw [hU]; exact hW.enter⟩⟩ rfl hn hsz hst (lv_room hcat) hdg hf
theorem wd.back {D : va_G} {A : Nat → Prop} {M M' : wM} {H0 H H1 : Heap} {locs locs1 : List Loc} (h : wd D A M H0 H locs) {t : State} (ht : t.heap = H1) (hB : wrB D A M' t) (hS : va_S A H0 H1 locs1) : wd D A M' H0 H1 locs1 := by
  obtain ⟨-, -, h2⟩ := hB
  rw [ht] at h2
  exact ⟨h.1, hS, h2⟩
theorem wr_goV {a : Array Value} {post : wM → Prop} (hW : wd D A M s.heap H locs) (hr : va_Run p l e R s m args below meth c H locs cells slots mc ms (F0 m pc ls st0) rest (va_Qv post (wrB D A) A a) A) (kk : ∀ (M' : wM) (H1 : Heap) (locs1 : List Loc), post M' → wd D A M' s.heap H1 locs1 → W p l e R s m args below meth c H1 locs1 (cells + mc) (slots + ms) Q (F0 m (pc + 3) ls rest)) : W p l e R s m args below meth c H locs cells slots Q (F0 m pc ls st0) :=
  va_callv hr hW.2.1 (fun _ _ h => h) (fun _ h => h) (fun u t H1 locs1 ht hvm hp hB hz hk hS => kk u H1 locs1 hp (hW.back ht hB hS))
theorem wr_goI {a : Array Value} {post : Int32 → wM → Prop} (hW : wd D A M s.heap H locs) (hr : va_Run p l e R s m args below meth c H locs cells slots mc ms (F0 m pc ls st0) rest (va_Qi post (wrB D A) A a) A) (kk : ∀ (r : Int32) (M' : wM) (H1 : Heap) (locs1 : List Loc), post r M' → wd D A M' s.heap H1 locs1 → W p l e R s m args below meth c H1 locs1 (cells + mc) (slots + ms) Q (F0 m (pc + 3) ls (.int r :: rest))) : W p l e R s m args below meth c H locs cells slots Q (F0 m pc ls st0) :=
  va_calli hr hW.2.1 (fun _ _ h => h) (fun _ h => h) (fun r u t H1 locs1 ht hvm hp hB hz hk hS => kk r u H1 locs1 hp (hW.back ht hB hS))
/-- a reference comes back: post speaks of its address and of the world -/
def wrQr (D : va_G) (A : Nat → Prop) (post : Nat → wM → Prop) : Array Value → State → Outcome → State → Prop := va_Qr (S := wM) (fun _ => True) (fun M' ra t => post ra M' ∧ wrB D A M' t) A
theorem wr_goR {a : Array Value} {post : Nat → wM → Prop} (hW : wd D A M s.heap H locs) (hr : va_Run p l e R s m args below meth c H locs cells slots mc ms (F0 m pc ls st0) rest (wrQr D A post a) A) (kk : ∀ (ra : Nat) (M' : wM) (H1 : Heap) (locs1 : List Loc), post ra M' → wd D A M' s.heap H1 locs1 → W p l e R s m args below meth c H1 locs1 (cells + mc) (slots + ms) Q (F0 m (pc + 3) ls (.ref ra :: rest))) : W p l e R s m args below meth c H locs cells slots Q (F0 m pc ls st0) :=
  va_callr hr hW.2.1 (fun _ _ h => h) (fun _ h => h) (fun u ra t H1 locs1 ht hvm hp hB hz hk hS => kk ra u H1 locs1 hB.1 (hW.back ht hB.2 hS))
/-- ends of methods that write nothing -/
theorem ro_iret (C : kx D cs p m c cc nL s args own) (hr : meth.sig.returnType = some .int) (hlk : meth.locks = false) {post : Int32 → Prop} {v : Int32} (hp : post v) (hdg : decode cc pc = .ok (.ireturn, 1)) : W p l e R s m args below meth c s.heap [] 0 0 (MQ below (vp_Si post) args s 0 0 noA) (F0 m pc ls [.int v]) :=
  W.iret C.1.1 C.1.2.1 hr (fun t ht _ => ⟨v, rfl, hp, ht⟩) (fun q h => by cases h) hdg hlk
theorem ro_zret (C : kx D cs p m c cc nL s args own) (hr : meth.sig.returnType = some .boolean) (hlk : meth.locks = false) {post : Int32 → Prop} {v : Int32} (hz : narrow .boolean (.int v) = .int v) (hp : post v) (hdg : decode cc pc = .ok (.ireturn, 1)) : W p l e R s m args below meth c s.heap [] 0 0 (MQ below (vp_Si post) args s 0 0 noA) (F0 m pc ls [.int v]) :=
  W.zret C.1.1 C.1.2.1 hr hz (fun t ht _ => ⟨v, rfl, hp, ht⟩) (fun q h => by cases h) hdg hlk
theorem ro_lret (C : kx D cs p m c cc nL s args own) (hr : meth.sig.returnType = some .long) (hlk : meth.locks = false) {post : Int64 → Prop} {v : Int64} (hp : post v) (hdg : decode cc pc = .ok (.lreturn, 1)) : W p l e R s m args below meth c s.heap [] 0 0 (MQ below (vp_Sl post) args s 0 0 noA) (F0 m pc ls [.long v]) :=
  W.lret C.1.1 C.1.2.1 hr (fun t ht _ => ⟨v, rfl, hp, ht⟩) (fun q h => by cases h) hdg hlk
theorem ro_aret (C : kx D cs p m c cc nL s args own) {rt : FieldType} (hr : meth.sig.returnType = some rt) (hrt : (∃ n, rt = .object n) ∨ ∃ t, rt = .array t) (hlk : meth.locks = false) {post : Option Nat → Prop} (v : Option Nat) {w : Value} (hw : w = va_rf v) (hp : post v) (hdg : decode cc pc = .ok (.areturn, 1)) : W p l e R s m args below meth c s.heap [] 0 0 (MQ below (va_Sq post) args s 0 0 noA) (F0 m pc ls [w]) :=
  W.aret C.1.1 C.1.2.1 hr hrt (by rw [hw]; exact va_rf_or v) (fun t ht _ => ⟨v, by rw [hw], hp, ht⟩) (fun q h => by cases h) hdg hlk
/-- ends of methods that write -/
theorem wr_vret (C : kx D cs p m c cc nL s args own) (hW : wd D A M s.heap H locs) (hr : meth.sig.returnType = none) (hlk : meth.locks = false) {post : wM → Prop} (hp : post M) (hdg : decode cc pc = .ok (.return_, 1)) : W p l e R s m args below meth c H locs cells slots (MQ below (va_Qv post (wrB D A) A) args s cells slots A) (F0 m pc ls []) :=
  W.vret C.1.1 C.1.2.1 hr (fun t ht _ => ⟨⟨M, rfl, hp, by unfold wrB; rw [ht]; exact hW.enter⟩, hW.2.1.F ht⟩) hW.2.1.2.2 hdg hlk
theorem wr_iret (C : kx D cs p m c cc nL s args own) (hW : wd D A M s.heap H locs) (hr : meth.sig.returnType = some .int) (hlk : meth.locks = false) {post : Int32 → wM → Prop} {v : Int32} (hp : post v M) (hdg : decode cc pc = .ok (.ireturn, 1)) : W p l e R s m args below meth c H locs cells slots (MQ below (va_Qi post (wrB D A) A) args s cells slots A) (F0 m pc ls [.int v]) :=
  W.iret C.1.1 C.1.2.1 hr (fun t ht _ => ⟨⟨v, M, rfl, hp, by unfold wrB; rw [ht]; exact hW.enter⟩, hW.2.1.F ht⟩) hW.2.1.2.2 hdg hlk
theorem wr_aret (C : kx D cs p m c cc nL s args own) (hW : wd D A M s.heap H locs) {rt : FieldType} (hr : meth.sig.returnType = some rt) (hrt : (∃ n, rt = .object n) ∨ ∃ t, rt = .array t) (hlk : meth.locks = false) {post : Nat → wM → Prop} {v : Nat} (hp : post v M) (hdg : decode cc pc = .ok (.areturn, 1)) : W p l e R s m args below meth c H locs cells slots (MQ below (wrQr D A post) args s cells slots A) (F0 m pc ls [.ref v]) :=
  W.aret C.1.1 C.1.2.1 hr hrt (Or.inr ⟨v, rfl⟩) (fun t ht _ => ⟨⟨M, v, rfl, trivial, hp, by unfold wrB; rw [ht]; exact hW.enter⟩, hW.2.1.F ht⟩) hW.2.1.2.2 hdg hlk
end CALLS
end
section
section SITES
variable {p : Program} {l : Launch} {e : Env} {R : Room} {s : State} {m : MethodId} {args : Array Value} {below : List Frame} {meth : Method} {c : Code} {H : Heap} {locs : List Loc} {cells slots : Nat} {Q : State → Prop}
variable {cc : ByteArray} {pc nL : Nat} {ls : Array Slot} {rest : List Value} {D : va_G} {cs : Nat → ClassId} {A : Nat → Prop} {a : Nat} {H0 : Heap} {M : wM}
theorem gf_X0_13 (C : kx D cs p m c cc nL s args RX0) (hR : rd D M H) {fs : List Value} (hM : M a = some (.inr (0, fs))) {v : Value} (hv : fs[1]? = some v) (hdg : decode cc pc = .ok (.getfield 13, 3)) (kk : W p l e R s m args below meth c H locs cells slots Q (F0 m (pc + 3) ls (v :: rest))) : W p l e R s m args below meth c H locs cells slots Q (F0 m pc ls (.ref a :: rest)) := r_get C hR hM rfl inX0 1 (by decide) wm_221 rfl hv hdg kk
theorem gf_X0_17 (C : kx D cs p m c cc nL s args RX0) (hR : rd D M H) {fs : List Value} (hM : M a = some (.inr (0, fs))) {v : Value} (hv : fs[2]? = some v) (hdg : decode cc pc = .ok (.getfield 17, 3)) (kk : W p l e R s m args below meth c H locs cells slots Q (F0 m (pc + 3) ls (v :: rest))) : W p l e R s m args below meth c H locs cells slots Q (F0 m pc ls (.ref a :: rest)) := r_get C hR hM rfl inX0 2 (by decide) wm_222 rfl hv hdg kk
theorem gf_X0_20 (C : kx D cs p m c cc nL s args RX0) (hR : rd D M H) {fs : List Value} (hM : M a = some (.inr (0, fs))) {v : Value} (hv : fs[3]? = some v) (hdg : decode cc pc = .ok (.getfield 20, 3)) (kk : W p l e R s m args below meth c H locs cells slots Q (F0 m (pc + 3) ls (v :: rest))) : W p l e R s m args below meth c H locs cells slots Q (F0 m pc ls (.ref a :: rest)) := r_get C hR hM rfl inX0 3 (by decide) wm_223 rfl hv hdg kk
theorem gf_X0_24 (C : kx D cs p m c cc nL s args RX0) (hR : rd D M H) {fs : List Value} (hM : M a = some (.inr (0, fs))) {v : Value} (hv : fs[4]? = some v) (hdg : decode cc pc = .ok (.getfield 24, 3)) (kk : W p l e R s m args below meth c H locs cells slots Q (F0 m (pc + 3) ls (v :: rest))) : W p l e R s m args below meth c H locs cells slots Q (F0 m pc ls (.ref a :: rest)) := r_get C hR hM rfl inX0 4 (by decide) wm_224 rfl hv hdg kk
theorem gf_X0_30 (C : kx D cs p m c cc nL s args RX0) (hR : rd D M H) {fs : List Value} (hM : M a = some (.inr (2, fs))) {v : Value} (hv : fs[1]? = some v) (hdg : decode cc pc = .ok (.getfield 30, 3)) (kk : W p l e R s m args below meth c H locs cells slots Q (F0 m (pc + 3) ls (v :: rest))) : W p l e R s m args below meth c H locs cells slots Q (F0 m pc ls (.ref a :: rest)) := r_get C hR hM rfl inX2 1 (by decide) wm_253 rfl hv hdg kk
theorem gf_X0_35 (C : kx D cs p m c cc nL s args RX0) (hR : rd D M H) {fs : List Value} (hM : M a = some (.inr (2, fs))) {v : Value} (hv : fs[2]? = some v) (hdg : decode cc pc = .ok (.getfield 35, 3)) (kk : W p l e R s m args below meth c H locs cells slots Q (F0 m (pc + 3) ls (v :: rest))) : W p l e R s m args below meth c H locs cells slots Q (F0 m pc ls (.ref a :: rest)) := r_get C hR hM rfl inX2 2 (by decide) wm_238 rfl hv hdg kk
theorem gf_X0_38 (C : kx D cs p m c cc nL s args RX0) (hR : rd D M H) {fs : List Value} (hM : M a = some (.inr (2, fs))) {v : Value} (hv : fs[3]? = some v) (hdg : decode cc pc = .ok (.getfield 38, 3)) (kk : W p l e R s m args below meth c H locs cells slots Q (F0 m (pc + 3) ls (v :: rest))) : W p l e R s m args below meth c H locs cells slots Q (F0 m pc ls (.ref a :: rest)) := r_get C hR hM rfl inX2 3 (by decide) wm_243 rfl hv hdg kk
theorem gf_X1_7 (C : kx D cs p m c cc nL s args RX1) (hR : rd D M H) {fs : List Value} (hM : M a = some (.inr (1, fs))) {v : Value} (hv : fs[0]? = some v) (hdg : decode cc pc = .ok (.getfield 7, 3)) (kk : W p l e R s m args below meth c H locs cells slots Q (F0 m (pc + 3) ls (v :: rest))) : W p l e R s m args below meth c H locs cells slots Q (F0 m pc ls (.ref a :: rest)) := r_get C hR hM rfl inX1 0 (by decide) wm_33 rfl hv hdg kk
theorem gf_X1_13 (C : kx D cs p m c cc nL s args RX1) (hR : rd D M H) {fs : List Value} (hM : M a = some (.inr (1, fs))) {v : Value} (hv : fs[1]? = some v) (hdg : decode cc pc = .ok (.getfield 13, 3)) (kk : W p l e R s m args below meth c H locs cells slots Q (F0 m (pc + 3) ls (v :: rest))) : W p l e R s m args below meth c H locs cells slots Q (F0 m pc ls (.ref a :: rest)) := r_get C hR hM rfl inX1 1 (by decide) wm_34 rfl hv hdg kk
theorem gf_X1_17 (C : kx D cs p m c cc nL s args RX1) (hR : rd D M H) {fs : List Value} (hM : M a = some (.inr (1, fs))) {v : Value} (hv : fs[2]? = some v) (hdg : decode cc pc = .ok (.getfield 17, 3)) (kk : W p l e R s m args below meth c H locs cells slots Q (F0 m (pc + 3) ls (v :: rest))) : W p l e R s m args below meth c H locs cells slots Q (F0 m pc ls (.ref a :: rest)) := r_get C hR hM rfl inX1 2 (by decide) wm_35 rfl hv hdg kk
theorem gf_X1_30 (C : kx D cs p m c cc nL s args RX1) (hR : rd D M H) {fs : List Value} (hM : M a = some (.inr (1, fs))) {v : Value} (hv : fs[3]? = some v) (hdg : decode cc pc = .ok (.getfield 30, 3)) (kk : W p l e R s m args below meth c H locs cells slots Q (F0 m (pc + 3) ls (v :: rest))) : W p l e R s m args below meth c H locs cells slots Q (F0 m pc ls (.ref a :: rest)) := r_get C hR hM rfl inX1 3 (by decide) wm_145 rfl hv hdg kk
theorem gf_X1_33 (C : kx D cs p m c cc nL s args RX1) (hR : rd D M H) {fs : List Value} (hM : M a = some (.inr (1, fs))) {v : Value} (hv : fs[4]? = some v) (hdg : decode cc pc = .ok (.getfield 33, 3)) (kk : W p l e R s m args below meth c H locs cells slots Q (F0 m (pc + 3) ls (v :: rest))) : W p l e R s m args below meth c H locs cells slots Q (F0 m pc ls (.ref a :: rest)) := r_get C hR hM rfl inX1 4 (by decide) wm_146 rfl hv hdg kk
theorem gf_X1_36 (C : kx D cs p m c cc nL s args RX1) (hR : rd D M H) {fs : List Value} (hM : M a = some (.inr (1, fs))) {v : Value} (hv : fs[5]? = some v) (hdg : decode cc pc = .ok (.getfield 36, 3)) (kk : W p l e R s m args below meth c H locs cells slots Q (F0 m (pc + 3) ls (v :: rest))) : W p l e R s m args below meth c H locs cells slots Q (F0 m pc ls (.ref a :: rest)) := r_get C hR hM rfl inX1 5 (by decide) wm_147 rfl hv hdg kk
theorem gf_X1_39 (C : kx D cs p m c cc nL s args RX1) (hR : rd D M H) {fs : List Value} (hM : M a = some (.inr (1, fs))) {v : Value} (hv : fs[6]? = some v) (hdg : decode cc pc = .ok (.getfield 39, 3)) (kk : W p l e R s m args below meth c H locs cells slots Q (F0 m (pc + 3) ls (v :: rest))) : W p l e R s m args below meth c H locs cells slots Q (F0 m pc ls (.ref a :: rest)) := r_get C hR hM rfl inX1 6 (by decide) wm_148 rfl hv hdg kk
theorem gf_X2_15 (C : kx D cs p m c cc nL s args RX2) (hR : rd D M H) {fs : List Value} (hM : M a = some (.inr (2, fs))) {v : Value} (hv : fs[1]? = some v) (hdg : decode cc pc = .ok (.getfield 15, 3)) (kk : W p l e R s m args below meth c H locs cells slots Q (F0 m (pc + 3) ls (v :: rest))) : W p l e R s m args below meth c H locs cells slots Q (F0 m pc ls (.ref a :: rest)) := r_get C hR hM rfl inX2 1 (by decide) wm_113 rfl hv hdg kk
theorem gf_X2_18 (C : kx D cs p m c cc nL s args RX2) (hR : rd D M H) {fs : List Value} (hM : M a = some (.inr (2, fs))) {v : Value} (hv : fs[2]? = some v) (hdg : decode cc pc = .ok (.getfield 18, 3)) (kk : W p l e R s m args below meth c H locs cells slots Q (F0 m (pc + 3) ls (v :: rest))) : W p l e R s m args below meth c H locs cells slots Q (F0 m pc ls (.ref a :: rest)) := r_get C hR hM rfl inX2 2 (by decide) wm_114 rfl hv hdg kk
theorem gf_X2_24 (C : kx D cs p m c cc nL s args RX2) (hR : rd D M H) {fs : List Value} (hM : M a = some (.inr (2, fs))) {v : Value} (hv : fs[4]? = some v) (hdg : decode cc pc = .ok (.getfield 24, 3)) (kk : W p l e R s m args below meth c H locs cells slots Q (F0 m (pc + 3) ls (v :: rest))) : W p l e R s m args below meth c H locs cells slots Q (F0 m pc ls (.ref a :: rest)) := r_get C hR hM rfl inX2 4 (by decide) wm_116 rfl hv hdg kk
theorem gf_X3_13 (C : kx D cs p m c cc nL s args RX3) (hR : rd D M H) {fs : List Value} (hM : M a = some (.inr (3, fs))) {v : Value} (hv : fs[0]? = some v) (hdg : decode cc pc = .ok (.getfield 13, 3)) (kk : W p l e R s m args below meth c H locs cells slots Q (F0 m (pc + 3) ls (v :: rest))) : W p l e R s m args below meth c H locs cells slots Q (F0 m pc ls (.ref a :: rest)) := r_get C hR hM rfl inX3 0 (by decide) wm_259 rfl hv hdg kk
theorem gf_X3_17 (C : kx D cs p m c cc nL s args RX3) (hR : rd D M H) {fs : List Value} (hM : M a = some (.inr (3, fs))) {v : Value} (hv : fs[1]? = some v) (hdg : decode cc pc = .ok (.getfield 17, 3)) (kk : W p l e R s m args below meth c H locs cells slots Q (F0 m (pc + 3) ls (v :: rest))) : W p l e R s m args below meth c H locs cells slots Q (F0 m pc ls (.ref a :: rest)) := r_get C hR hM rfl inX3 1 (by decide) wm_260 rfl hv hdg kk
theorem gf_X3_20 (C : kx D cs p m c cc nL s args RX3) (hR : rd D M H) {fs : List Value} (hM : M a = some (.inr (3, fs))) {v : Value} (hv : fs[2]? = some v) (hdg : decode cc pc = .ok (.getfield 20, 3)) (kk : W p l e R s m args below meth c H locs cells slots Q (F0 m (pc + 3) ls (v :: rest))) : W p l e R s m args below meth c H locs cells slots Q (F0 m pc ls (.ref a :: rest)) := r_get C hR hM rfl inX3 2 (by decide) wm_261 rfl hv hdg kk
theorem gf_X3_23 (C : kx D cs p m c cc nL s args RX3) (hR : rd D M H) {fs : List Value} (hM : M a = some (.inr (3, fs))) {v : Value} (hv : fs[3]? = some v) (hdg : decode cc pc = .ok (.getfield 23, 3)) (kk : W p l e R s m args below meth c H locs cells slots Q (F0 m (pc + 3) ls (v :: rest))) : W p l e R s m args below meth c H locs cells slots Q (F0 m pc ls (.ref a :: rest)) := r_get C hR hM rfl inX3 3 (by decide) wm_262 rfl hv hdg kk
theorem gf_X3_26 (C : kx D cs p m c cc nL s args RX3) (hR : rd D M H) {fs : List Value} (hM : M a = some (.inr (3, fs))) {v : Value} (hv : fs[4]? = some v) (hdg : decode cc pc = .ok (.getfield 26, 3)) (kk : W p l e R s m args below meth c H locs cells slots Q (F0 m (pc + 3) ls (v :: rest))) : W p l e R s m args below meth c H locs cells slots Q (F0 m pc ls (.ref a :: rest)) := r_get C hR hM rfl inX3 4 (by decide) wm_263 rfl hv hdg kk
theorem gf_X3_29 (C : kx D cs p m c cc nL s args RX3) (hR : rd D M H) {fs : List Value} (hM : M a = some (.inr (3, fs))) {v : Value} (hv : fs[5]? = some v) (hdg : decode cc pc = .ok (.getfield 29, 3)) (kk : W p l e R s m args below meth c H locs cells slots Q (F0 m (pc + 3) ls (v :: rest))) : W p l e R s m args below meth c H locs cells slots Q (F0 m pc ls (.ref a :: rest)) := r_get C hR hM rfl inX3 5 (by decide) wm_264 rfl hv hdg kk
theorem gf_X3_38 (C : kx D cs p m c cc nL s args RX3) (hR : rd D M H) {fs : List Value} (hM : M a = some (.inr (3, fs))) {v : Value} (hv : fs[6]? = some v) (hdg : decode cc pc = .ok (.getfield 38, 3)) (kk : W p l e R s m args below meth c H locs cells slots Q (F0 m (pc + 3) ls (v :: rest))) : W p l e R s m args below meth c H locs cells slots Q (F0 m pc ls (.ref a :: rest)) := r_get C hR hM rfl inX3 6 (by decide) wm_266 rfl hv hdg kk
theorem gf_X3_51 (C : kx D cs p m c cc nL s args RX3) (hR : rd D M H) {fs : List Value} (hM : M a = some (.inr (0, fs))) {v : Value} (hv : fs[3]? = some v) (hdg : decode cc pc = .ok (.getfield 51, 3)) (kk : W p l e R s m args below meth c H locs cells slots Q (F0 m (pc + 3) ls (v :: rest))) : W p l e R s m args below meth c H locs cells slots Q (F0 m pc ls (.ref a :: rest)) := r_get C hR hM rfl inX0 3 (by decide) wm_284 rfl hv hdg kk
theorem gf_X3_57 (C : kx D cs p m c cc nL s args RX3) (hR : rd D M H) {fs : List Value} (hM : M a = some (.inr (0, fs))) {v : Value} (hv : fs[0]? = some v) (hdg : decode cc pc = .ok (.getfield 57, 3)) (kk : W p l e R s m args below meth c H locs cells slots Q (F0 m (pc + 3) ls (v :: rest))) : W p l e R s m args below meth c H locs cells slots Q (F0 m pc ls (.ref a :: rest)) := r_get C hR hM rfl inX0 0 (by decide) wm_321 rfl hv hdg kk
theorem gf_X3_60 (C : kx D cs p m c cc nL s args RX3) (hR : rd D M H) {fs : List Value} (hM : M a = some (.inr (0, fs))) {v : Value} (hv : fs[4]? = some v) (hdg : decode cc pc = .ok (.getfield 60, 3)) (kk : W p l e R s m args below meth c H locs cells slots Q (F0 m (pc + 3) ls (v :: rest))) : W p l e R s m args below meth c H locs cells slots Q (F0 m pc ls (.ref a :: rest)) := r_get C hR hM rfl inX0 4 (by decide) wm_293 rfl hv hdg kk
theorem gf_X4_9 (C : kx D cs p m c cc nL s args RX4) (hR : rd D M H) {fs : List Value} (hM : M a = some (.inr (4, fs))) {v : Value} (hv : fs[0]? = some v) (hdg : decode cc pc = .ok (.getfield 9, 3)) (kk : W p l e R s m args below meth c H locs cells slots Q (F0 m (pc + 3) ls (v :: rest))) : W p l e R s m args below meth c H locs cells slots Q (F0 m pc ls (.ref a :: rest)) := r_get C hR hM rfl inX4 0 (by decide) wm_13 rfl hv hdg kk
theorem gf_X4_15 (C : kx D cs p m c cc nL s args RX4) (hR : rd D M H) {fs : List Value} (hM : M a = some (.inr (4, fs))) {v : Value} (hv : fs[1]? = some v) (hdg : decode cc pc = .ok (.getfield 15, 3)) (kk : W p l e R s m args below meth c H locs cells slots Q (F0 m (pc + 3) ls (v :: rest))) : W p l e R s m args below meth c H locs cells slots Q (F0 m pc ls (.ref a :: rest)) := r_get C hR hM rfl inX4 1 (by decide) wm_15 rfl hv hdg kk
theorem gf_X4_21 (C : kx D cs p m c cc nL s args RX4) (hR : rd D M H) {fs : List Value} (hM : M a = some (.inr (4, fs))) {v : Value} (hv : fs[2]? = some v) (hdg : decode cc pc = .ok (.getfield 21, 3)) (kk : W p l e R s m args below meth c H locs cells slots Q (F0 m (pc + 3) ls (v :: rest))) : W p l e R s m args below meth c H locs cells slots Q (F0 m pc ls (.ref a :: rest)) := r_get C hR hM rfl inX4 2 (by decide) wm_17 rfl hv hdg kk
theorem gf_X4_27 (C : kx D cs p m c cc nL s args RX4) (hR : rd D M H) {fs : List Value} (hM : M a = some (.inr (4, fs))) {v : Value} (hv : fs[3]? = some v) (hdg : decode cc pc = .ok (.getfield 27, 3)) (kk : W p l e R s m args below meth c H locs cells slots Q (F0 m (pc + 3) ls (v :: rest))) : W p l e R s m args below meth c H locs cells slots Q (F0 m pc ls (.ref a :: rest)) := r_get C hR hM rfl inX4 3 (by decide) wm_19 rfl hv hdg kk
theorem gf_X4_33 (C : kx D cs p m c cc nL s args RX4) (hR : rd D M H) {fs : List Value} (hM : M a = some (.inr (4, fs))) {v : Value} (hv : fs[4]? = some v) (hdg : decode cc pc = .ok (.getfield 33, 3)) (kk : W p l e R s m args below meth c H locs cells slots Q (F0 m (pc + 3) ls (v :: rest))) : W p l e R s m args below meth c H locs cells slots Q (F0 m pc ls (.ref a :: rest)) := r_get C hR hM rfl inX4 4 (by decide) wm_21 rfl hv hdg kk
theorem gf_X4_41 (C : kx D cs p m c cc nL s args RX4) (hR : rd D M H) {fs : List Value} (hM : M a = some (.inr (4, fs))) {v : Value} (hv : fs[5]? = some v) (hdg : decode cc pc = .ok (.getfield 41, 3)) (kk : W p l e R s m args below meth c H locs cells slots Q (F0 m (pc + 3) ls (v :: rest))) : W p l e R s m args below meth c H locs cells slots Q (F0 m pc ls (.ref a :: rest)) := r_get C hR hM rfl inX4 5 (by decide) wm_22 rfl hv hdg kk
theorem gf_X4_52 (C : kx D cs p m c cc nL s args RX4) (hR : rd D M H) {fs : List Value} (hM : M a = some (.inr (4, fs))) {v : Value} (hv : fs[6]? = some v) (hdg : decode cc pc = .ok (.getfield 52, 3)) (kk : W p l e R s m args below meth c H locs cells slots Q (F0 m (pc + 3) ls (v :: rest))) : W p l e R s m args below meth c H locs cells slots Q (F0 m pc ls (.ref a :: rest)) := r_get C hR hM rfl inX4 6 (by decide) wm_40 rfl hv hdg kk
theorem gf_X4_60 (C : kx D cs p m c cc nL s args RX4) (hR : rd D M H) {fs : List Value} (hM : M a = some (.inr (4, fs))) {v : Value} (hv : fs[7]? = some v) (hdg : decode cc pc = .ok (.getfield 60, 3)) (kk : W p l e R s m args below meth c H locs cells slots Q (F0 m (pc + 3) ls (v :: rest))) : W p l e R s m args below meth c H locs cells slots Q (F0 m pc ls (.ref a :: rest)) := r_get C hR hM rfl inX4 7 (by decide) wm_41 rfl hv hdg kk
theorem gf_X4_69 (C : kx D cs p m c cc nL s args RX4) (hR : rd D M H) {fs : List Value} (hM : M a = some (.inr (4, fs))) {v : Value} (hv : fs[8]? = some v) (hdg : decode cc pc = .ok (.getfield 69, 3)) (kk : W p l e R s m args below meth c H locs cells slots Q (F0 m (pc + 3) ls (v :: rest))) : W p l e R s m args below meth c H locs cells slots Q (F0 m pc ls (.ref a :: rest)) := r_get C hR hM rfl inX4 8 (by decide) wm_42 rfl hv hdg kk
theorem gf_X4_72 (C : kx D cs p m c cc nL s args RX4) (hR : rd D M H) {fs : List Value} (hM : M a = some (.inr (4, fs))) {v : Value} (hv : fs[9]? = some v) (hdg : decode cc pc = .ok (.getfield 72, 3)) (kk : W p l e R s m args below meth c H locs cells slots Q (F0 m (pc + 3) ls (v :: rest))) : W p l e R s m args below meth c H locs cells slots Q (F0 m pc ls (.ref a :: rest)) := r_get C hR hM rfl inX4 9 (by decide) wm_43 rfl hv hdg kk
theorem gf_X4_86 (C : kx D cs p m c cc nL s args RX4) (hR : rd D M H) {fs : List Value} (hM : M a = some (.inr (4, fs))) {v : Value} (hv : fs[11]? = some v) (hdg : decode cc pc = .ok (.getfield 86, 3)) (kk : W p l e R s m args below meth c H locs cells slots Q (F0 m (pc + 3) ls (v :: rest))) : W p l e R s m args below meth c H locs cells slots Q (F0 m pc ls (.ref a :: rest)) := r_get C hR hM rfl inX4 11 (by decide) wm_45 rfl hv hdg kk
theorem gf_X4_89 (C : kx D cs p m c cc nL s args RX4) (hR : rd D M H) {fs : List Value} (hM : M a = some (.inr (3, fs))) {v : Value} (hv : fs[8]? = some v) (hdg : decode cc pc = .ok (.getfield 89, 3)) (kk : W p l e R s m args below meth c H locs cells slots Q (F0 m (pc + 3) ls (v :: rest))) : W p l e R s m args below meth c H locs cells slots Q (F0 m pc ls (.ref a :: rest)) := r_get C hR hM rfl inX3 8 (by decide) wm_278 rfl hv hdg kk
theorem gf_X4_99 (C : kx D cs p m c cc nL s args RX4) (hR : rd D M H) {fs : List Value} (hM : M a = some (.inr (0, fs))) {v : Value} (hv : fs[1]? = some v) (hdg : decode cc pc = .ok (.getfield 99, 3)) (kk : W p l e R s m args below meth c H locs cells slots Q (F0 m (pc + 3) ls (v :: rest))) : W p l e R s m args below meth c H locs cells slots Q (F0 m pc ls (.ref a :: rest)) := r_get C hR hM rfl inX0 1 (by decide) wm_230 rfl hv hdg kk
theorem gf_X4_103 (C : kx D cs p m c cc nL s args RX4) (hR : rd D M H) {fs : List Value} (hM : M a = some (.inr (2, fs))) {v : Value} (hv : fs[0]? = some v) (hdg : decode cc pc = .ok (.getfield 103, 3)) (kk : W p l e R s m args below meth c H locs cells slots Q (F0 m (pc + 3) ls (v :: rest))) : W p l e R s m args below meth c H locs cells slots Q (F0 m pc ls (.ref a :: rest)) := r_get C hR hM rfl inX2 0 (by decide) wm_447 rfl hv hdg kk
theorem gf_X4_106 (C : kx D cs p m c cc nL s args RX4) (hR : rd D M H) {fs : List Value} (hM : M a = some (.inr (0, fs))) {v : Value} (hv : fs[2]? = some v) (hdg : decode cc pc = .ok (.getfield 106, 3)) (kk : W p l e R s m args below meth c H locs cells slots Q (F0 m (pc + 3) ls (v :: rest))) : W p l e R s m args below meth c H locs cells slots Q (F0 m pc ls (.ref a :: rest)) := r_get C hR hM rfl inX0 2 (by decide) wm_231 rfl hv hdg kk
theorem gf_X4_109 (C : kx D cs p m c cc nL s args RX4) (hR : rd D M H) {fs : List Value} (hM : M a = some (.inr (0, fs))) {v : Value} (hv : fs[4]? = some v) (hdg : decode cc pc = .ok (.getfield 109, 3)) (kk : W p l e R s m args below meth c H locs cells slots Q (F0 m (pc + 3) ls (v :: rest))) : W p l e R s m args below meth c H locs cells slots Q (F0 m pc ls (.ref a :: rest)) := r_get C hR hM rfl inX0 4 (by decide) wm_448 rfl hv hdg kk
theorem gf_X4_115 (C : kx D cs p m c cc nL s args RX4) (hR : rd D M H) {fs : List Value} (hM : M a = some (.inr (0, fs))) {v : Value} (hv : fs[3]? = some v) (hdg : decode cc pc = .ok (.getfield 115, 3)) (kk : W p l e R s m args below meth c H locs cells slots Q (F0 m (pc + 3) ls (v :: rest))) : W p l e R s m args below meth c H locs cells slots Q (F0 m pc ls (.ref a :: rest)) := r_get C hR hM rfl inX0 3 (by decide) wm_449 rfl hv hdg kk
theorem gf_X4_123 (C : kx D cs p m c cc nL s args RX4) (hR : rd D M H) {fs : List Value} (hM : M a = some (.inr (3, fs))) {v : Value} (hv : fs[1]? = some v) (hdg : decode cc pc = .ok (.getfield 123, 3)) (kk : W p l e R s m args below meth c H locs cells slots Q (F0 m (pc + 3) ls (v :: rest))) : W p l e R s m args below meth c H locs cells slots Q (F0 m pc ls (.ref a :: rest)) := r_get C hR hM rfl inX3 1 (by decide) wm_466 rfl hv hdg kk
theorem gf_X4_130 (C : kx D cs p m c cc nL s args RX4) (hR : rd D M H) {fs : List Value} (hM : M a = some (.inr (3, fs))) {v : Value} (hv : fs[9]? = some v) (hdg : decode cc pc = .ok (.getfield 130, 3)) (kk : W p l e R s m args below meth c H locs cells slots Q (F0 m (pc + 3) ls (v :: rest))) : W p l e R s m args below meth c H locs cells slots Q (F0 m pc ls (.ref a :: rest)) := r_get C hR hM rfl inX3 9 (by decide) wm_277 rfl hv hdg kk
theorem gf_X4_133 (C : kx D cs p m c cc nL s args RX4) (hR : rd D M H) {fs : List Value} (hM : M a = some (.inr (3, fs))) {v : Value} (hv : fs[6]? = some v) (hdg : decode cc pc = .ok (.getfield 133, 3)) (kk : W p l e R s m args below meth c H locs cells slots Q (F0 m (pc + 3) ls (v :: rest))) : W p l e R s m args below meth c H locs cells slots Q (F0 m pc ls (.ref a :: rest)) := r_get C hR hM rfl inX3 6 (by decide) wm_467 rfl hv hdg kk
theorem gf_X4_139 (C : kx D cs p m c cc nL s args RX4) (hR : rd D M H) {fs : List Value} (hM : M a = some (.inr (3, fs))) {v : Value} (hv : fs[7]? = some v) (hdg : decode cc pc = .ok (.getfield 139, 3)) (kk : W p l e R s m args below meth c H locs cells slots Q (F0 m (pc + 3) ls (v :: rest))) : W p l e R s m args below meth c H locs cells slots Q (F0 m pc ls (.ref a :: rest)) := r_get C hR hM rfl inX3 7 (by decide) wm_279 rfl hv hdg kk
theorem gf_X4_169 (C : kx D cs p m c cc nL s args RX4) (hR : rd D M H) {fs : List Value} (hM : M a = some (.inr (4, fs))) {v : Value} (hv : fs[10]? = some v) (hdg : decode cc pc = .ok (.getfield 169, 3)) (kk : W p l e R s m args below meth c H locs cells slots Q (F0 m (pc + 3) ls (v :: rest))) : W p l e R s m args below meth c H locs cells slots Q (F0 m pc ls (.ref a :: rest)) := r_get C hR hM rfl inX4 10 (by decide) wm_44 rfl hv hdg kk
theorem gf_X4_175 (C : kx D cs p m c cc nL s args RX4) (hR : rd D M H) {fs : List Value} (hM : M a = some (.inr (0, fs))) {v : Value} (hv : fs[5]? = some v) (hdg : decode cc pc = .ok (.getfield 175, 3)) (kk : W p l e R s m args below meth c H locs cells slots Q (F0 m (pc + 3) ls (v :: rest))) : W p l e R s m args below meth c H locs cells slots Q (F0 m pc ls (.ref a :: rest)) := r_get C hR hM rfl inX0 5 (by decide) wm_184 rfl hv hdg kk
theorem gf_X4_185 (C : kx D cs p m c cc nL s args RX4) (hR : rd D M H) {fs : List Value} (hM : M a = some (.inr (2, fs))) {v : Value} (hv : fs[3]? = some v) (hdg : decode cc pc = .ok (.getfield 185, 3)) (kk : W p l e R s m args below meth c H locs cells slots Q (F0 m (pc + 3) ls (v :: rest))) : W p l e R s m args below meth c H locs cells slots Q (F0 m pc ls (.ref a :: rest)) := r_get C hR hM rfl inX2 3 (by decide) wm_181 rfl hv hdg kk
theorem gf_X4_207 (C : kx D cs p m c cc nL s args RX4) (hR : rd D M H) {fs : List Value} (hM : M a = some (.inr (2, fs))) {v : Value} (hv : fs[1]? = some v) (hdg : decode cc pc = .ok (.getfield 207, 3)) (kk : W p l e R s m args below meth c H locs cells slots Q (F0 m (pc + 3) ls (v :: rest))) : W p l e R s m args below meth c H locs cells slots Q (F0 m pc ls (.ref a :: rest)) := r_get C hR hM rfl inX2 1 (by decide) wm_193 rfl hv hdg kk
theorem gf_X4_208 (C : kx D cs p m c cc nL s args RX4) (hR : rd D M H) {fs : List Value} (hM : M a = some (.inr (2, fs))) {v : Value} (hv : fs[2]? = some v) (hdg : decode cc pc = .ok (.getfield 208, 3)) (kk : W p l e R s m args below meth c H locs cells slots Q (F0 m (pc + 3) ls (v :: rest))) : W p l e R s m args below meth c H locs cells slots Q (F0 m pc ls (.ref a :: rest)) := r_get C hR hM rfl inX2 2 (by decide) wm_194 rfl hv hdg kk
theorem gf_X4_217 (C : kx D cs p m c cc nL s args RX4) (hR : rd D M H) {fs : List Value} (hM : M a = some (.inr (2, fs))) {v : Value} (hv : fs[4]? = some v) (hdg : decode cc pc = .ok (.getfield 217, 3)) (kk : W p l e R s m args below meth c H locs cells slots Q (F0 m (pc + 3) ls (v :: rest))) : W p l e R s m args below meth c H locs cells slots Q (F0 m pc ls (.ref a :: rest)) := r_get C hR hM rfl inX2 4 (by decide) wm_215 rfl hv hdg kk
theorem gf_X5_7 (C : kx D cs p m c cc nL s args RX5) (hR : rd D M H) {fs : List Value} (hM : M a = some (.inr (5, fs))) {v : Value} (hv : fs[1]? = some v) (hdg : decode cc pc = .ok (.getfield 7, 3)) (kk : W p l e R s m args below meth c H locs cells slots Q (F0 m (pc + 3) ls (v :: rest))) : W p l e R s m args below meth c H locs cells slots Q (F0 m pc ls (.ref a :: rest)) := r_get C hR hM rfl inX5 1 (by decide) wm_50 rfl hv hdg kk
theorem gf_X5_13 (C : kx D cs p m c cc nL s args RX5) (hR : rd D M H) {fs : List Value} (hM : M a = some (.inr (5, fs))) {v : Value} (hv : fs[3]? = some v) (hdg : decode cc pc = .ok (.getfield 13, 3)) (kk : W p l e R s m args below meth c H locs cells slots Q (F0 m (pc + 3) ls (v :: rest))) : W p l e R s m args below meth c H locs cells slots Q (F0 m pc ls (.ref a :: rest)) := r_get C hR hM rfl inX5 3 (by decide) wm_51 rfl hv hdg kk
theorem gf_X5_16 (C : kx D cs p m c cc nL s args RX5) (hR : rd D M H) {fs : List Value} (hM : M a = some (.inr (5, fs))) {v : Value} (hv : fs[4]? = some v) (hdg : decode cc pc = .ok (.getfield 16, 3)) (kk : W p l e R s m args below meth c H locs cells slots Q (F0 m (pc + 3) ls (v :: rest))) : W p l e R s m args below meth c H locs cells slots Q (F0 m pc ls (.ref a :: rest)) := r_get C hR hM rfl inX5 4 (by decide) wm_52 rfl hv hdg kk
theorem gf_X5_19 (C : kx D cs p m c cc nL s args RX5) (hR : rd D M H) {fs : List Value} (hM : M a = some (.inr (5, fs))) {v : Value} (hv : fs[5]? = some v) (hdg : decode cc pc = .ok (.getfield 19, 3)) (kk : W p l e R s m args below meth c H locs cells slots Q (F0 m (pc + 3) ls (v :: rest))) : W p l e R s m args below meth c H locs cells slots Q (F0 m pc ls (.ref a :: rest)) := r_get C hR hM rfl inX5 5 (by decide) wm_53 rfl hv hdg kk
theorem gf_X5_22 (C : kx D cs p m c cc nL s args RX5) (hR : rd D M H) {fs : List Value} (hM : M a = some (.inr (5, fs))) {v : Value} (hv : fs[6]? = some v) (hdg : decode cc pc = .ok (.getfield 22, 3)) (kk : W p l e R s m args below meth c H locs cells slots Q (F0 m (pc + 3) ls (v :: rest))) : W p l e R s m args below meth c H locs cells slots Q (F0 m pc ls (.ref a :: rest)) := r_get C hR hM rfl inX5 6 (by decide) wm_55 rfl hv hdg kk
theorem gf_X5_26 (C : kx D cs p m c cc nL s args RX5) (hR : rd D M H) {fs : List Value} (hM : M a = some (.inr (5, fs))) {v : Value} (hv : fs[8]? = some v) (hdg : decode cc pc = .ok (.getfield 26, 3)) (kk : W p l e R s m args below meth c H locs cells slots Q (F0 m (pc + 3) ls (v :: rest))) : W p l e R s m args below meth c H locs cells slots Q (F0 m pc ls (.ref a :: rest)) := r_get C hR hM rfl inX5 8 (by decide) wm_56 rfl hv hdg kk
theorem gf_X5_29 (C : kx D cs p m c cc nL s args RX5) (hR : rd D M H) {fs : List Value} (hM : M a = some (.inr (5, fs))) {v : Value} (hv : fs[9]? = some v) (hdg : decode cc pc = .ok (.getfield 29, 3)) (kk : W p l e R s m args below meth c H locs cells slots Q (F0 m (pc + 3) ls (v :: rest))) : W p l e R s m args below meth c H locs cells slots Q (F0 m pc ls (.ref a :: rest)) := r_get C hR hM rfl inX5 9 (by decide) wm_57 rfl hv hdg kk
theorem gf_X5_32 (C : kx D cs p m c cc nL s args RX5) (hR : rd D M H) {fs : List Value} (hM : M a = some (.inr (5, fs))) {v : Value} (hv : fs[10]? = some v) (hdg : decode cc pc = .ok (.getfield 32, 3)) (kk : W p l e R s m args below meth c H locs cells slots Q (F0 m (pc + 3) ls (v :: rest))) : W p l e R s m args below meth c H locs cells slots Q (F0 m pc ls (.ref a :: rest)) := r_get C hR hM rfl inX5 10 (by decide) wm_58 rfl hv hdg kk
theorem gf_X5_35 (C : kx D cs p m c cc nL s args RX5) (hR : rd D M H) {fs : List Value} (hM : M a = some (.inr (5, fs))) {v : Value} (hv : fs[11]? = some v) (hdg : decode cc pc = .ok (.getfield 35, 3)) (kk : W p l e R s m args below meth c H locs cells slots Q (F0 m (pc + 3) ls (v :: rest))) : W p l e R s m args below meth c H locs cells slots Q (F0 m pc ls (.ref a :: rest)) := r_get C hR hM rfl inX5 11 (by decide) wm_59 rfl hv hdg kk
theorem gf_X5_38 (C : kx D cs p m c cc nL s args RX5) (hR : rd D M H) {fs : List Value} (hM : M a = some (.inr (5, fs))) {v : Value} (hv : fs[12]? = some v) (hdg : decode cc pc = .ok (.getfield 38, 3)) (kk : W p l e R s m args below meth c H locs cells slots Q (F0 m (pc + 3) ls (v :: rest))) : W p l e R s m args below meth c H locs cells slots Q (F0 m pc ls (.ref a :: rest)) := r_get C hR hM rfl inX5 12 (by decide) wm_60 rfl hv hdg kk
theorem gf_X5_41 (C : kx D cs p m c cc nL s args RX5) (hR : rd D M H) {fs : List Value} (hM : M a = some (.inr (5, fs))) {v : Value} (hv : fs[14]? = some v) (hdg : decode cc pc = .ok (.getfield 41, 3)) (kk : W p l e R s m args below meth c H locs cells slots Q (F0 m (pc + 3) ls (v :: rest))) : W p l e R s m args below meth c H locs cells slots Q (F0 m pc ls (.ref a :: rest)) := r_get C hR hM rfl inX5 14 (by decide) wm_61 rfl hv hdg kk
theorem gf_X5_44 (C : kx D cs p m c cc nL s args RX5) (hR : rd D M H) {fs : List Value} (hM : M a = some (.inr (5, fs))) {v : Value} (hv : fs[15]? = some v) (hdg : decode cc pc = .ok (.getfield 44, 3)) (kk : W p l e R s m args below meth c H locs cells slots Q (F0 m (pc + 3) ls (v :: rest))) : W p l e R s m args below meth c H locs cells slots Q (F0 m pc ls (.ref a :: rest)) := r_get C hR hM rfl inX5 15 (by decide) wm_62 rfl hv hdg kk
theorem gf_X5_47 (C : kx D cs p m c cc nL s args RX5) (hR : rd D M H) {fs : List Value} (hM : M a = some (.inr (5, fs))) {v : Value} (hv : fs[16]? = some v) (hdg : decode cc pc = .ok (.getfield 47, 3)) (kk : W p l e R s m args below meth c H locs cells slots Q (F0 m (pc + 3) ls (v :: rest))) : W p l e R s m args below meth c H locs cells slots Q (F0 m pc ls (.ref a :: rest)) := r_get C hR hM rfl inX5 16 (by decide) wm_63 rfl hv hdg kk
theorem gf_X5_50 (C : kx D cs p m c cc nL s args RX5) (hR : rd D M H) {fs : List Value} (hM : M a = some (.inr (5, fs))) {v : Value} (hv : fs[17]? = some v) (hdg : decode cc pc = .ok (.getfield 50, 3)) (kk : W p l e R s m args below meth c H locs cells slots Q (F0 m (pc + 3) ls (v :: rest))) : W p l e R s m args below meth c H locs cells slots Q (F0 m pc ls (.ref a :: rest)) := r_get C hR hM rfl inX5 17 (by decide) wm_64 rfl hv hdg kk
theorem gf_X5_53 (C : kx D cs p m c cc nL s args RX5) (hR : rd D M H) {fs : List Value} (hM : M a = some (.inr (5, fs))) {v : Value} (hv : fs[18]? = some v) (hdg : decode cc pc = .ok (.getfield 53, 3)) (kk : W p l e R s m args below meth c H locs cells slots Q (F0 m (pc + 3) ls (v :: rest))) : W p l e R s m args below meth c H locs cells slots Q (F0 m pc ls (.ref a :: rest)) := r_get C hR hM rfl inX5 18 (by decide) wm_65 rfl hv hdg kk
theorem gf_X5_56 (C : kx D cs p m c cc nL s args RX5) (hR : rd D M H) {fs : List Value} (hM : M a = some (.inr (5, fs))) {v : Value} (hv : fs[20]? = some v) (hdg : decode cc pc = .ok (.getfield 56, 3)) (kk : W p l e R s m args below meth c H locs cells slots Q (F0 m (pc + 3) ls (v :: rest))) : W p l e R s m args below meth c H locs cells slots Q (F0 m pc ls (.ref a :: rest)) := r_get C hR hM rfl inX5 20 (by decide) wm_66 rfl hv hdg kk
theorem gf_X5_59 (C : kx D cs p m c cc nL s args RX5) (hR : rd D M H) {fs : List Value} (hM : M a = some (.inr (5, fs))) {v : Value} (hv : fs[21]? = some v) (hdg : decode cc pc = .ok (.getfield 59, 3)) (kk : W p l e R s m args below meth c H locs cells slots Q (F0 m (pc + 3) ls (v :: rest))) : W p l e R s m args below meth c H locs cells slots Q (F0 m pc ls (.ref a :: rest)) := r_get C hR hM rfl inX5 21 (by decide) wm_67 rfl hv hdg kk
theorem gf_X5_62 (C : kx D cs p m c cc nL s args RX5) (hR : rd D M H) {fs : List Value} (hM : M a = some (.inr (5, fs))) {v : Value} (hv : fs[22]? = some v) (hdg : decode cc pc = .ok (.getfield 62, 3)) (kk : W p l e R s m args below meth c H locs cells slots Q (F0 m (pc + 3) ls (v :: rest))) : W p l e R s m args below meth c H locs cells slots Q (F0 m pc ls (.ref a :: rest)) := r_get C hR hM rfl inX5 22 (by decide) wm_68 rfl hv hdg kk
theorem gf_X5_65 (C : kx D cs p m c cc nL s args RX5) (hR : rd D M H) {fs : List Value} (hM : M a = some (.inr (5, fs))) {v : Value} (hv : fs[23]? = some v) (hdg : decode cc pc = .ok (.getfield 65, 3)) (kk : W p l e R s m args below meth c H locs cells slots Q (F0 m (pc + 3) ls (v :: rest))) : W p l e R s m args below meth c H locs cells slots Q (F0 m pc ls (.ref a :: rest)) := r_get C hR hM rfl inX5 23 (by decide) wm_69 rfl hv hdg kk
theorem gf_X5_68 (C : kx D cs p m c cc nL s args RX5) (hR : rd D M H) {fs : List Value} (hM : M a = some (.inr (5, fs))) {v : Value} (hv : fs[24]? = some v) (hdg : decode cc pc = .ok (.getfield 68, 3)) (kk : W p l e R s m args below meth c H locs cells slots Q (F0 m (pc + 3) ls (v :: rest))) : W p l e R s m args below meth c H locs cells slots Q (F0 m pc ls (.ref a :: rest)) := r_get C hR hM rfl inX5 24 (by decide) wm_70 rfl hv hdg kk
theorem gf_X5_71 (C : kx D cs p m c cc nL s args RX5) (hR : rd D M H) {fs : List Value} (hM : M a = some (.inr (5, fs))) {v : Value} (hv : fs[25]? = some v) (hdg : decode cc pc = .ok (.getfield 71, 3)) (kk : W p l e R s m args below meth c H locs cells slots Q (F0 m (pc + 3) ls (v :: rest))) : W p l e R s m args below meth c H locs cells slots Q (F0 m pc ls (.ref a :: rest)) := r_get C hR hM rfl inX5 25 (by decide) wm_71 rfl hv hdg kk
theorem gf_X5_74 (C : kx D cs p m c cc nL s args RX5) (hR : rd D M H) {fs : List Value} (hM : M a = some (.inr (5, fs))) {v : Value} (hv : fs[26]? = some v) (hdg : decode cc pc = .ok (.getfield 74, 3)) (kk : W p l e R s m args below meth c H locs cells slots Q (F0 m (pc + 3) ls (v :: rest))) : W p l e R s m args below meth c H locs cells slots Q (F0 m pc ls (.ref a :: rest)) := r_get C hR hM rfl inX5 26 (by decide) wm_72 rfl hv hdg kk
theorem gf_X5_77 (C : kx D cs p m c cc nL s args RX5) (hR : rd D M H) {fs : List Value} (hM : M a = some (.inr (5, fs))) {v : Value} (hv : fs[27]? = some v) (hdg : decode cc pc = .ok (.getfield 77, 3)) (kk : W p l e R s m args below meth c H locs cells slots Q (F0 m (pc + 3) ls (v :: rest))) : W p l e R s m args below meth c H locs cells slots Q (F0 m pc ls (.ref a :: rest)) := r_get C hR hM rfl inX5 27 (by decide) wm_73 rfl hv hdg kk
theorem gf_X5_80 (C : kx D cs p m c cc nL s args RX5) (hR : rd D M H) {fs : List Value} (hM : M a = some (.inr (5, fs))) {v : Value} (hv : fs[28]? = some v) (hdg : decode cc pc = .ok (.getfield 80, 3)) (kk : W p l e R s m args below meth c H locs cells slots Q (F0 m (pc + 3) ls (v :: rest))) : W p l e R s m args below meth c H locs cells slots Q (F0 m pc ls (.ref a :: rest)) := r_get C hR hM rfl inX5 28 (by decide) wm_74 rfl hv hdg kk
theorem gf_X5_83 (C : kx D cs p m c cc nL s args RX5) (hR : rd D M H) {fs : List Value} (hM : M a = some (.inr (5, fs))) {v : Value} (hv : fs[29]? = some v) (hdg : decode cc pc = .ok (.getfield 83, 3)) (kk : W p l e R s m args below meth c H locs cells slots Q (F0 m (pc + 3) ls (v :: rest))) : W p l e R s m args below meth c H locs cells slots Q (F0 m pc ls (.ref a :: rest)) := r_get C hR hM rfl inX5 29 (by decide) wm_75 rfl hv hdg kk
theorem gf_X5_86 (C : kx D cs p m c cc nL s args RX5) (hR : rd D M H) {fs : List Value} (hM : M a = some (.inr (5, fs))) {v : Value} (hv : fs[30]? = some v) (hdg : decode cc pc = .ok (.getfield 86, 3)) (kk : W p l e R s m args below meth c H locs cells slots Q (F0 m (pc + 3) ls (v :: rest))) : W p l e R s m args below meth c H locs cells slots Q (F0 m pc ls (.ref a :: rest)) := r_get C hR hM rfl inX5 30 (by decide) wm_76 rfl hv hdg kk
theorem gf_X5_89 (C : kx D cs p m c cc nL s args RX5) (hR : rd D M H) {fs : List Value} (hM : M a = some (.inr (5, fs))) {v : Value} (hv : fs[31]? = some v) (hdg : decode cc pc = .ok (.getfield 89, 3)) (kk : W p l e R s m args below meth c H locs cells slots Q (F0 m (pc + 3) ls (v :: rest))) : W p l e R s m args below meth c H locs cells slots Q (F0 m pc ls (.ref a :: rest)) := r_get C hR hM rfl inX5 31 (by decide) wm_77 rfl hv hdg kk
theorem gf_X5_92 (C : kx D cs p m c cc nL s args RX5) (hR : rd D M H) {fs : List Value} (hM : M a = some (.inr (5, fs))) {v : Value} (hv : fs[32]? = some v) (hdg : decode cc pc = .ok (.getfield 92, 3)) (kk : W p l e R s m args below meth c H locs cells slots Q (F0 m (pc + 3) ls (v :: rest))) : W p l e R s m args below meth c H locs cells slots Q (F0 m pc ls (.ref a :: rest)) := r_get C hR hM rfl inX5 32 (by decide) wm_79 rfl hv hdg kk
theorem gf_X5_96 (C : kx D cs p m c cc nL s args RX5) (hR : rd D M H) {fs : List Value} (hM : M a = some (.inr (5, fs))) {v : Value} (hv : fs[33]? = some v) (hdg : decode cc pc = .ok (.getfield 96, 3)) (kk : W p l e R s m args below meth c H locs cells slots Q (F0 m (pc + 3) ls (v :: rest))) : W p l e R s m args below meth c H locs cells slots Q (F0 m pc ls (.ref a :: rest)) := r_get C hR hM rfl inX5 33 (by decide) wm_80 rfl hv hdg kk
theorem gf_X5_99 (C : kx D cs p m c cc nL s args RX5) (hR : rd D M H) {fs : List Value} (hM : M a = some (.inr (5, fs))) {v : Value} (hv : fs[34]? = some v) (hdg : decode cc pc = .ok (.getfield 99, 3)) (kk : W p l e R s m args below meth c H locs cells slots Q (F0 m (pc + 3) ls (v :: rest))) : W p l e R s m args below meth c H locs cells slots Q (F0 m pc ls (.ref a :: rest)) := r_get C hR hM rfl inX5 34 (by decide) wm_81 rfl hv hdg kk
theorem gf_X5_102 (C : kx D cs p m c cc nL s args RX5) (hR : rd D M H) {fs : List Value} (hM : M a = some (.inr (5, fs))) {v : Value} (hv : fs[35]? = some v) (hdg : decode cc pc = .ok (.getfield 102, 3)) (kk : W p l e R s m args below meth c H locs cells slots Q (F0 m (pc + 3) ls (v :: rest))) : W p l e R s m args below meth c H locs cells slots Q (F0 m pc ls (.ref a :: rest)) := r_get C hR hM rfl inX5 35 (by decide) wm_82 rfl hv hdg kk
theorem gf_X5_105 (C : kx D cs p m c cc nL s args RX5) (hR : rd D M H) {fs : List Value} (hM : M a = some (.inr (5, fs))) {v : Value} (hv : fs[0]? = some v) (hdg : decode cc pc = .ok (.getfield 105, 3)) (kk : W p l e R s m args below meth c H locs cells slots Q (F0 m (pc + 3) ls (v :: rest))) : W p l e R s m args below meth c H locs cells slots Q (F0 m pc ls (.ref a :: rest)) := r_get C hR hM rfl inX5 0 (by decide) wm_94 rfl hv hdg kk
theorem gf_X5_113 (C : kx D cs p m c cc nL s args RX5) (hR : rd D M H) {fs : List Value} (hM : M a = some (.inr (5, fs))) {v : Value} (hv : fs[2]? = some v) (hdg : decode cc pc = .ok (.getfield 113, 3)) (kk : W p l e R s m args below meth c H locs cells slots Q (F0 m (pc + 3) ls (v :: rest))) : W p l e R s m args below meth c H locs cells slots Q (F0 m pc ls (.ref a :: rest)) := r_get C hR hM rfl inX5 2 (by decide) wm_121 rfl hv hdg kk
theorem gf_X5_120 (C : kx D cs p m c cc nL s args RX5) (hR : rd D M H) {fs : List Value} (hM : M a = some (.inr (5, fs))) {v : Value} (hv : fs[7]? = some v) (hdg : decode cc pc = .ok (.getfield 120, 3)) (kk : W p l e R s m args below meth c H locs cells slots Q (F0 m (pc + 3) ls (v :: rest))) : W p l e R s m args below meth c H locs cells slots Q (F0 m pc ls (.ref a :: rest)) := r_get C hR hM rfl inX5 7 (by decide) wm_160 rfl hv hdg kk
theorem gf_X5_123 (C : kx D cs p m c cc nL s args RX5) (hR : rd D M H) {fs : List Value} (hM : M a = some (.inr (5, fs))) {v : Value} (hv : fs[13]? = some v) (hdg : decode cc pc = .ok (.getfield 123, 3)) (kk : W p l e R s m args below meth c H locs cells slots Q (F0 m (pc + 3) ls (v :: rest))) : W p l e R s m args below meth c H locs cells slots Q (F0 m pc ls (.ref a :: rest)) := r_get C hR hM rfl inX5 13 (by decide) wm_172 rfl hv hdg kk
theorem gf_X5_136 (C : kx D cs p m c cc nL s args RX5) (hR : rd D M H) {fs : List Value} (hM : M a = some (.inr (5, fs))) {v : Value} (hv : fs[19]? = some v) (hdg : decode cc pc = .ok (.getfield 136, 3)) (kk : W p l e R s m args below meth c H locs cells slots Q (F0 m (pc + 3) ls (v :: rest))) : W p l e R s m args below meth c H locs cells slots Q (F0 m pc ls (.ref a :: rest)) := r_get C hR hM rfl inX5 19 (by decide) wm_330 rfl hv hdg kk
theorem pf_X0_7 (C : kx D cs p m c cc nL s args RX0) (hW : wd D A M H0 H locs) (hini : meth.name = "<init>") {fs fs2 : List Value} (hM : M a = some (.inr (0, fs))) {v : Int32} (hl : 0 < fs.length) (hs : fs.set 0 (.int v) = fs2) (hdg : decode cc pc = .ok (.putfield 7, 3)) (kk : ∀ (H1 : Heap) (locs1 : List Loc), wd D A (va_up M a (some (.inr (0, fs2)))) H0 H1 locs1 → W p l e R s m args below meth c H1 locs1 cells slots Q (F0 m (pc + 3) ls rest)) : W p l e R s m args below meth c H locs cells slots Q (F0 m pc ls ((.int v) :: .ref a :: rest)) := w_putF C hW hM rfl inX0 tyX0 tyX0_ok nmX0 0 (by decide) wm_220 rfl rfl hini rfl rfl rfl hl hdg (fun H1 locs1 h => kk H1 locs1 (hs ▸ h))
theorem pf_X0_13 (C : kx D cs p m c cc nL s args RX0) (hW : wd D A M H0 H locs) (hini : meth.name = "<init>") {fs fs2 : List Value} (hM : M a = some (.inr (0, fs))) {v : Nat} (hl : 1 < fs.length) (hs : fs.set 1 (.ref v) = fs2) (hdg : decode cc pc = .ok (.putfield 13, 3)) (kk : ∀ (H1 : Heap) (locs1 : List Loc), wd D A (va_up M a (some (.inr (0, fs2)))) H0 H1 locs1 → W p l e R s m args below meth c H1 locs1 cells slots Q (F0 m (pc + 3) ls rest)) : W p l e R s m args below meth c H locs cells slots Q (F0 m pc ls ((.ref v) :: .ref a :: rest)) := w_putF C hW hM rfl inX0 tyX0 tyX0_ok nmX0 1 (by decide) wm_221 rfl rfl hini rfl rfl rfl hl hdg (fun H1 locs1 h => kk H1 locs1 (hs ▸ h))
theorem pf_X0_17 (C : kx D cs p m c cc nL s args RX0) (hW : wd D A M H0 H locs) (hini : meth.name = "<init>") {fs fs2 : List Value} (hM : M a = some (.inr (0, fs))) {v : Nat} (hl : 2 < fs.length) (hs : fs.set 2 (.ref v) = fs2) (hdg : decode cc pc = .ok (.putfield 17, 3)) (kk : ∀ (H1 : Heap) (locs1 : List Loc), wd D A (va_up M a (some (.inr (0, fs2)))) H0 H1 locs1 → W p l e R s m args below meth c H1 locs1 cells slots Q (F0 m (pc + 3) ls rest)) : W p l e R s m args below meth c H locs cells slots Q (F0 m pc ls ((.ref v) :: .ref a :: rest)) := w_putF C hW hM rfl inX0 tyX0 tyX0_ok nmX0 2 (by decide) wm_222 rfl rfl hini rfl rfl rfl hl hdg (fun H1 locs1 h => kk H1 locs1 (hs ▸ h))
theorem pf_X0_20 (C : kx D cs p m c cc nL s args RX0) (hW : wd D A M H0 H locs) (hini : meth.name = "<init>") {fs fs2 : List Value} (hM : M a = some (.inr (0, fs))) {v : Int32} (hz : v = 0 ∨ v = 1) (hl : 3 < fs.length) (hs : fs.set 3 (.int v) = fs2) (hdg : decode cc pc = .ok (.putfield 20, 3)) (kk : ∀ (H1 : Heap) (locs1 : List Loc), wd D A (va_up M a (some (.inr (0, fs2)))) H0 H1 locs1 → W p l e R s m args below meth c H1 locs1 cells slots Q (F0 m (pc + 3) ls rest)) : W p l e R s m args below meth c H locs cells slots Q (F0 m pc ls ((.int v) :: .ref a :: rest)) := w_putF C hW hM rfl inX0 tyX0 tyX0_ok nmX0 3 (by decide) wm_223 rfl rfl hini rfl (by rcases hz with rfl | rfl <;> rfl) (by rcases hz with rfl | rfl <;> rfl) hl hdg (fun H1 locs1 h => kk H1 locs1 (hs ▸ h))
theorem pf_X0_24 (C : kx D cs p m c cc nL s args RX0) (hW : wd D A M H0 H locs) (hini : meth.name = "<init>") {fs fs2 : List Value} (hM : M a = some (.inr (0, fs))) {v : Int32} (hl : 4 < fs.length) (hs : fs.set 4 (.int v) = fs2) (hdg : decode cc pc = .ok (.putfield 24, 3)) (kk : ∀ (H1 : Heap) (locs1 : List Loc), wd D A (va_up M a (some (.inr (0, fs2)))) H0 H1 locs1 → W p l e R s m args below meth c H1 locs1 cells slots Q (F0 m (pc + 3) ls rest)) : W p l e R s m args below meth c H locs cells slots Q (F0 m pc ls ((.int v) :: .ref a :: rest)) := w_putF C hW hM rfl inX0 tyX0 tyX0_ok nmX0 4 (by decide) wm_224 rfl rfl hini rfl rfl rfl hl hdg (fun H1 locs1 h => kk H1 locs1 (hs ▸ h))
theorem pf_X0_27 (C : kx D cs p m c cc nL s args RX0) (hW : wd D A M H0 H locs) (hini : meth.name = "<init>") {fs fs2 : List Value} (hM : M a = some (.inr (0, fs))) {v : Int32} (hl : 5 < fs.length) (hs : fs.set 5 (.int v) = fs2) (hdg : decode cc pc = .ok (.putfield 27, 3)) (kk : ∀ (H1 : Heap) (locs1 : List Loc), wd D A (va_up M a (some (.inr (0, fs2)))) H0 H1 locs1 → W p l e R s m args below meth c H1 locs1 cells slots Q (F0 m (pc + 3) ls rest)) : W p l e R s m args below meth c H locs cells slots Q (F0 m pc ls ((.int v) :: .ref a :: rest)) := w_putF C hW hM rfl inX0 tyX0 tyX0_ok nmX0 5 (by decide) wm_225 rfl rfl hini rfl rfl rfl hl hdg (fun H1 locs1 h => kk H1 locs1 (hs ▸ h))
theorem pf_X1_7 (C : kx D cs p m c cc nL s args RX1) (hW : wd D A M H0 H locs) {fs fs2 : List Value} (hM : M a = some (.inr (1, fs))) {v : Int32} (hl : 0 < fs.length) (hs : fs.set 0 (.int v) = fs2) (hdg : decode cc pc = .ok (.putfield 7, 3)) (kk : ∀ (H1 : Heap) (locs1 : List Loc), wd D A (va_up M a (some (.inr (1, fs2)))) H0 H1 locs1 → W p l e R s m args below meth c H1 locs1 cells slots Q (F0 m (pc + 3) ls rest)) : W p l e R s m args below meth c H locs cells slots Q (F0 m pc ls ((.int v) :: .ref a :: rest)) := w_put C hW hM rfl inX1 tyX1 tyX1_ok nmX1 0 (by decide) wm_33 rfl rfl rfl rfl hl hdg (fun H1 locs1 h => kk H1 locs1 (hs ▸ h))
theorem pf_X1_13 (C : kx D cs p m c cc nL s args RX1) (hW : wd D A M H0 H locs) (hini : meth.name = "<init>") {fs fs2 : List Value} (hM : M a = some (.inr (1, fs))) {v : Nat} (hl : 1 < fs.length) (hs : fs.set 1 (.ref v) = fs2) (hdg : decode cc pc = .ok (.putfield 13, 3)) (kk : ∀ (H1 : Heap) (locs1 : List Loc), wd D A (va_up M a (some (.inr (1, fs2)))) H0 H1 locs1 → W p l e R s m args below meth c H1 locs1 cells slots Q (F0 m (pc + 3) ls rest)) : W p l e R s m args below meth c H locs cells slots Q (F0 m pc ls ((.ref v) :: .ref a :: rest)) := w_putF C hW hM rfl inX1 tyX1 tyX1_ok nmX1 1 (by decide) wm_34 rfl rfl hini rfl rfl rfl hl hdg (fun H1 locs1 h => kk H1 locs1 (hs ▸ h))
theorem pf_X1_17 (C : kx D cs p m c cc nL s args RX1) (hW : wd D A M H0 H locs) (hini : meth.name = "<init>") {fs fs2 : List Value} (hM : M a = some (.inr (1, fs))) {v : Nat} (hl : 2 < fs.length) (hs : fs.set 2 (.ref v) = fs2) (hdg : decode cc pc = .ok (.putfield 17, 3)) (kk : ∀ (H1 : Heap) (locs1 : List Loc), wd D A (va_up M a (some (.inr (1, fs2)))) H0 H1 locs1 → W p l e R s m args below meth c H1 locs1 cells slots Q (F0 m (pc + 3) ls rest)) : W p l e R s m args below meth c H locs cells slots Q (F0 m pc ls ((.ref v) :: .ref a :: rest)) := w_putF C hW hM rfl inX1 tyX1 tyX1_ok nmX1 2 (by decide) wm_35 rfl rfl hini rfl rfl rfl hl hdg (fun H1 locs1 h => kk H1 locs1 (hs ▸ h))
theorem pf_X1_30 (C : kx D cs p m c cc nL s args RX1) (hW : wd D A M H0 H locs) {fs fs2 : List Value} (hM : M a = some (.inr (1, fs))) {v : Int32} (hl : 3 < fs.length) (hs : fs.set 3 (.int v) = fs2) (hdg : decode cc pc = .ok (.putfield 30, 3)) (kk : ∀ (H1 : Heap) (locs1 : List Loc), wd D A (va_up M a (some (.inr (1, fs2)))) H0 H1 locs1 → W p l e R s m args below meth c H1 locs1 cells slots Q (F0 m (pc + 3) ls rest)) : W p l e R s m args below meth c H locs cells slots Q (F0 m pc ls ((.int v) :: .ref a :: rest)) := w_put C hW hM rfl inX1 tyX1 tyX1_ok nmX1 3 (by decide) wm_145 rfl rfl rfl rfl hl hdg (fun H1 locs1 h => kk H1 locs1 (hs ▸ h))
theorem pf_X1_33 (C : kx D cs p m c cc nL s args RX1) (hW : wd D A M H0 H locs) {fs fs2 : List Value} (hM : M a = some (.inr (1, fs))) {v : Int32} (hl : 4 < fs.length) (hs : fs.set 4 (.int v) = fs2) (hdg : decode cc pc = .ok (.putfield 33, 3)) (kk : ∀ (H1 : Heap) (locs1 : List Loc), wd D A (va_up M a (some (.inr (1, fs2)))) H0 H1 locs1 → W p l e R s m args below meth c H1 locs1 cells slots Q (F0 m (pc + 3) ls rest)) : W p l e R s m args below meth c H locs cells slots Q (F0 m pc ls ((.int v) :: .ref a :: rest)) := w_put C hW hM rfl inX1 tyX1 tyX1_ok nmX1 4 (by decide) wm_146 rfl rfl rfl rfl hl hdg (fun H1 locs1 h => kk H1 locs1 (hs ▸ h))
theorem pf_X1_36 (C : kx D cs p m c cc nL s args RX1) (hW : wd D A M H0 H locs) {fs fs2 : List Value} (hM : M a = some (.inr (1, fs))) {v : Int32} (hl : 5 < fs.length) (hs : fs.set 5 (.int v) = fs2) (hdg : decode cc pc = .ok (.putfield 36, 3)) (kk : ∀ (H1 : Heap) (locs1 : List Loc), wd D A (va_up M a (some (.inr (1, fs2)))) H0 H1 locs1 → W p l e R s m args below meth c H1 locs1 cells slots Q (F0 m (pc + 3) ls rest)) : W p l e R s m args below meth c H locs cells slots Q (F0 m pc ls ((.int v) :: .ref a :: rest)) := w_put C hW hM rfl inX1 tyX1 tyX1_ok nmX1 5 (by decide) wm_147 rfl rfl rfl rfl hl hdg (fun H1 locs1 h => kk H1 locs1 (hs ▸ h))
theorem pf_X1_39 (C : kx D cs p m c cc nL s args RX1) (hW : wd D A M H0 H locs) {fs fs2 : List Value} (hM : M a = some (.inr (1, fs))) {v : Int32} (hl : 6 < fs.length) (hs : fs.set 6 (.int v) = fs2) (hdg : decode cc pc = .ok (.putfield 39, 3)) (kk : ∀ (H1 : Heap) (locs1 : List Loc), wd D A (va_up M a (some (.inr (1, fs2)))) H0 H1 locs1 → W p l e R s m args below meth c H1 locs1 cells slots Q (F0 m (pc + 3) ls rest)) : W p l e R s m args below meth c H locs cells slots Q (F0 m pc ls ((.int v) :: .ref a :: rest)) := w_put C hW hM rfl inX1 tyX1 tyX1_ok nmX1 6 (by decide) wm_148 rfl rfl rfl rfl hl hdg (fun H1 locs1 h => kk H1 locs1 (hs ▸ h))
theorem pf_X2_9 (C : kx D cs p m c cc nL s args RX2) (hW : wd D A M H0 H locs) (hini : meth.name = "<init>") {fs fs2 : List Value} (hM : M a = some (.inr (2, fs))) {v : Int32} (hl : 0 < fs.length) (hs : fs.set 0 (.int v) = fs2) (hdg : decode cc pc = .ok (.putfield 9, 3)) (kk : ∀ (H1 : Heap) (locs1 : List Loc), wd D A (va_up M a (some (.inr (2, fs2)))) H0 H1 locs1 → W p l e R s m args below meth c H1 locs1 cells slots Q (F0 m (pc + 3) ls rest)) : W p l e R s m args below meth c H locs cells slots Q (F0 m pc ls ((.int v) :: .ref a :: rest)) := w_putF C hW hM rfl inX2 tyX2 tyX2_ok nmX2 0 (by decide) wm_112 rfl rfl hini rfl rfl rfl hl hdg (fun H1 locs1 h => kk H1 locs1 (hs ▸ h))
theorem pf_X2_15 (C : kx D cs p m c cc nL s args RX2) (hW : wd D A M H0 H locs) (hini : meth.name = "<init>") {fs fs2 : List Value} (hM : M a = some (.inr (2, fs))) {v : Int32} (hl : 1 < fs.length) (hs : fs.set 1 (.int v) = fs2) (hdg : decode cc pc = .ok (.putfield 15, 3)) (kk : ∀ (H1 : Heap) (locs1 : List Loc), wd D A (va_up M a (some (.inr (2, fs2)))) H0 H1 locs1 → W p l e R s m args below meth c H1 locs1 cells slots Q (F0 m (pc + 3) ls rest)) : W p l e R s m args below meth c H locs cells slots Q (F0 m pc ls ((.int v) :: .ref a :: rest)) := w_putF C hW hM rfl inX2 tyX2 tyX2_ok nmX2 1 (by decide) wm_113 rfl rfl hini rfl rfl rfl hl hdg (fun H1 locs1 h => kk H1 locs1 (hs ▸ h))
theorem pf_X2_18 (C : kx D cs p m c cc nL s args RX2) (hW : wd D A M H0 H locs) (hini : meth.name = "<init>") {fs fs2 : List Value} (hM : M a = some (.inr (2, fs))) {v : Int32} (hl : 2 < fs.length) (hs : fs.set 2 (.int v) = fs2) (hdg : decode cc pc = .ok (.putfield 18, 3)) (kk : ∀ (H1 : Heap) (locs1 : List Loc), wd D A (va_up M a (some (.inr (2, fs2)))) H0 H1 locs1 → W p l e R s m args below meth c H1 locs1 cells slots Q (F0 m (pc + 3) ls rest)) : W p l e R s m args below meth c H locs cells slots Q (F0 m pc ls ((.int v) :: .ref a :: rest)) := w_putF C hW hM rfl inX2 tyX2 tyX2_ok nmX2 2 (by decide) wm_114 rfl rfl hini rfl rfl rfl hl hdg (fun H1 locs1 h => kk H1 locs1 (hs ▸ h))
theorem pf_X2_21 (C : kx D cs p m c cc nL s args RX2) (hW : wd D A M H0 H locs) (hini : meth.name = "<init>") {fs fs2 : List Value} (hM : M a = some (.inr (2, fs))) {v : Int32} (hl : 3 < fs.length) (hs : fs.set 3 (.int v) = fs2) (hdg : decode cc pc = .ok (.putfield 21, 3)) (kk : ∀ (H1 : Heap) (locs1 : List Loc), wd D A (va_up M a (some (.inr (2, fs2)))) H0 H1 locs1 → W p l e R s m args below meth c H1 locs1 cells slots Q (F0 m (pc + 3) ls rest)) : W p l e R s m args below meth c H locs cells slots Q (F0 m pc ls ((.int v) :: .ref a :: rest)) := w_putF C hW hM rfl inX2 tyX2 tyX2_ok nmX2 3 (by decide) wm_115 rfl rfl hini rfl rfl rfl hl hdg (fun H1 locs1 h => kk H1 locs1 (hs ▸ h))
theorem pf_X2_24 (C : kx D cs p m c cc nL s args RX2) (hW : wd D A M H0 H locs) (hini : meth.name = "<init>") {fs fs2 : List Value} (hM : M a = some (.inr (2, fs))) {v : Int32} (hz : v = 0 ∨ v = 1) (hl : 4 < fs.length) (hs : fs.set 4 (.int v) = fs2) (hdg : decode cc pc = .ok (.putfield 24, 3)) (kk : ∀ (H1 : Heap) (locs1 : List Loc), wd D A (va_up M a (some (.inr (2, fs2)))) H0 H1 locs1 → W p l e R s m args below meth c H1 locs1 cells slots Q (F0 m (pc + 3) ls rest)) : W p l e R s m args below meth c H locs cells slots Q (F0 m pc ls ((.int v) :: .ref a :: rest)) := w_putF C hW hM rfl inX2 tyX2 tyX2_ok nmX2 4 (by decide) wm_116 rfl rfl hini rfl (by rcases hz with rfl | rfl <;> rfl) (by rcases hz with rfl | rfl <;> rfl) hl hdg (fun H1 locs1 h => kk H1 locs1 (hs ▸ h))
theorem pf_X3_9 (C : kx D cs p m c cc nL s args RX3) (hW : wd D A M H0 H locs) {fs fs2 : List Value} (hM : M a = some (.inr (3, fs))) {v : Int32} (hl : 8 < fs.length) (hs : fs.set 8 (.int v) = fs2) (hdg : decode cc pc = .ok (.putfield 9, 3)) (kk : ∀ (H1 : Heap) (locs1 : List Loc), wd D A (va_up M a (some (.inr (3, fs2)))) H0 H1 locs1 → W p l e R s m args below meth c H1 locs1 cells slots Q (F0 m (pc + 3) ls rest)) : W p l e R s m args below meth c H locs cells slots Q (F0 m pc ls ((.int v) :: .ref a :: rest)) := w_put C hW hM rfl inX3 tyX3 tyX3_ok nmX3 8 (by decide) wm_258 rfl rfl rfl rfl hl hdg (fun H1 locs1 h => kk H1 locs1 (hs ▸ h))
theorem pf_X3_13 (C : kx D cs p m c cc nL s args RX3) (hW : wd D A M H0 H locs) (hini : meth.name = "<init>") {fs fs2 : List Value} (hM : M a = some (.inr (3, fs))) {v : Nat} (hl : 0 < fs.length) (hs : fs.set 0 (.ref v) = fs2) (hdg : decode cc pc = .ok (.putfield 13, 3)) (kk : ∀ (H1 : Heap) (locs1 : List Loc), wd D A (va_up M a (some (.inr (3, fs2)))) H0 H1 locs1 → W p l e R s m args below meth c H1 locs1 cells slots Q (F0 m (pc + 3) ls rest)) : W p l e R s m args below meth c H locs cells slots Q (F0 m pc ls ((.ref v) :: .ref a :: rest)) := w_putF C hW hM rfl inX3 tyX3 tyX3_ok nmX3 0 (by decide) wm_259 rfl rfl hini rfl rfl rfl hl hdg (fun H1 locs1 h => kk H1 locs1 (hs ▸ h))
theorem pf_X3_17 (C : kx D cs p m c cc nL s args RX3) (hW : wd D A M H0 H locs) (hini : meth.name = "<init>") {fs fs2 : List Value} (hM : M a = some (.inr (3, fs))) {v : Int32} (hl : 1 < fs.length) (hs : fs.set 1 (.int v) = fs2) (hdg : decode cc pc = .ok (.putfield 17, 3)) (kk : ∀ (H1 : Heap) (locs1 : List Loc), wd D A (va_up M a (some (.inr (3, fs2)))) H0 H1 locs1 → W p l e R s m args below meth c H1 locs1 cells slots Q (F0 m (pc + 3) ls rest)) : W p l e R s m args below meth c H locs cells slots Q (F0 m pc ls ((.int v) :: .ref a :: rest)) := w_putF C hW hM rfl inX3 tyX3 tyX3_ok nmX3 1 (by decide) wm_260 rfl rfl hini rfl rfl rfl hl hdg (fun H1 locs1 h => kk H1 locs1 (hs ▸ h))
theorem pf_X3_20 (C : kx D cs p m c cc nL s args RX3) (hW : wd D A M H0 H locs) (hini : meth.name = "<init>") {fs fs2 : List Value} (hM : M a = some (.inr (3, fs))) {v : Int32} (hl : 2 < fs.length) (hs : fs.set 2 (.int v) = fs2) (hdg : decode cc pc = .ok (.putfield 20, 3)) (kk : ∀ (H1 : Heap) (locs1 : List Loc), wd D A (va_up M a (some (.inr (3, fs2)))) H0 H1 locs1 → W p l e R s m args below meth c H1 locs1 cells slots Q (F0 m (pc + 3) ls rest)) : W p l e R s m args below meth c H locs cells slots Q (F0 m pc ls ((.int v) :: .ref a :: rest)) := w_putF C hW hM rfl inX3 tyX3 tyX3_ok nmX3 2 (by decide) wm_261 rfl rfl hini rfl rfl rfl hl hdg (fun H1 locs1 h => kk H1 locs1 (hs ▸ h))
theorem pf_X3_23 (C : kx D cs p m c cc nL s args RX3) (hW : wd D A M H0 H locs) (hini : meth.name = "<init>") {fs fs2 : List Value} (hM : M a = some (.inr (3, fs))) {v : Int32} (hl : 3 < fs.length) (hs : fs.set 3 (.int v) = fs2) (hdg : decode cc pc = .ok (.putfield 23, 3)) (kk : ∀ (H1 : Heap) (locs1 : List Loc), wd D A (va_up M a (some (.inr (3, fs2)))) H0 H1 locs1 → W p l e R s m args below meth c H1 locs1 cells slots Q (F0 m (pc + 3) ls rest)) : W p l e R s m args below meth c H locs cells slots Q (F0 m pc ls ((.int v) :: .ref a :: rest)) := w_putF C hW hM rfl inX3 tyX3 tyX3_ok nmX3 3 (by decide) wm_262 rfl rfl hini rfl rfl rfl hl hdg (fun H1 locs1 h => kk H1 locs1 (hs ▸ h))
theorem pf_X3_26 (C : kx D cs p m c cc nL s args RX3) (hW : wd D A M H0 H locs) (hini : meth.name = "<init>") {fs fs2 : List Value} (hM : M a = some (.inr (3, fs))) {v : Int32} (hl : 4 < fs.length) (hs : fs.set 4 (.int v) = fs2) (hdg : decode cc pc = .ok (.putfield 26, 3)) (kk : ∀ (H1 : Heap) (locs1 : List Loc), wd D A (va_up M a (some (.inr (3, fs2)))) H0 H1 locs1 → W p l e R s m args below meth c H1 locs1 cells slots Q (F0 m (pc + 3) ls rest)) : W p l e R s m args below meth c H locs cells slots Q (F0 m pc ls ((.int v) :: .ref a :: rest)) := w_putF C hW hM rfl inX3 tyX3 tyX3_ok nmX3 4 (by decide) wm_263 rfl rfl hini rfl rfl rfl hl hdg (fun H1 locs1 h => kk H1 locs1 (hs ▸ h))
theorem pf_X3_29 (C : kx D cs p m c cc nL s args RX3) (hW : wd D A M H0 H locs) (hini : meth.name = "<init>") {fs fs2 : List Value} (hM : M a = some (.inr (3, fs))) {v : Int32} (hl : 5 < fs.length) (hs : fs.set 5 (.int v) = fs2) (hdg : decode cc pc = .ok (.putfield 29, 3)) (kk : ∀ (H1 : Heap) (locs1 : List Loc), wd D A (va_up M a (some (.inr (3, fs2)))) H0 H1 locs1 → W p l e R s m args below meth c H1 locs1 cells slots Q (F0 m (pc + 3) ls rest)) : W p l e R s m args below meth c H locs cells slots Q (F0 m pc ls ((.int v) :: .ref a :: rest)) := w_putF C hW hM rfl inX3 tyX3 tyX3_ok nmX3 5 (by decide) wm_264 rfl rfl hini rfl rfl rfl hl hdg (fun H1 locs1 h => kk H1 locs1 (hs ▸ h))
theorem pf_X3_38 (C : kx D cs p m c cc nL s args RX3) (hW : wd D A M H0 H locs) (hini : meth.name = "<init>") {fs fs2 : List Value} (hM : M a = some (.inr (3, fs))) {v : Int32} (hl : 6 < fs.length) (hs : fs.set 6 (.int v) = fs2) (hdg : decode cc pc = .ok (.putfield 38, 3)) (kk : ∀ (H1 : Heap) (locs1 : List Loc), wd D A (va_up M a (some (.inr (3, fs2)))) H0 H1 locs1 → W p l e R s m args below meth c H1 locs1 cells slots Q (F0 m (pc + 3) ls rest)) : W p l e R s m args below meth c H locs cells slots Q (F0 m pc ls ((.int v) :: .ref a :: rest)) := w_putF C hW hM rfl inX3 tyX3 tyX3_ok nmX3 6 (by decide) wm_266 rfl rfl hini rfl rfl rfl hl hdg (fun H1 locs1 h => kk H1 locs1 (hs ▸ h))
theorem pf_X3_47 (C : kx D cs p m c cc nL s args RX3) (hW : wd D A M H0 H locs) (hini : meth.name = "<init>") {fs fs2 : List Value} (hM : M a = some (.inr (3, fs))) {v : Nat} (hl : 7 < fs.length) (hs : fs.set 7 (.ref v) = fs2) (hdg : decode cc pc = .ok (.putfield 47, 3)) (kk : ∀ (H1 : Heap) (locs1 : List Loc), wd D A (va_up M a (some (.inr (3, fs2)))) H0 H1 locs1 → W p l e R s m args below meth c H1 locs1 cells slots Q (F0 m (pc + 3) ls rest)) : W p l e R s m args below meth c H locs cells slots Q (F0 m pc ls ((.ref v) :: .ref a :: rest)) := w_putF C hW hM rfl inX3 tyX3 tyX3_ok nmX3 7 (by decide) wm_267 rfl rfl hini rfl rfl rfl hl hdg (fun H1 locs1 h => kk H1 locs1 (hs ▸ h))
theorem pf_X3_63 (C : kx D cs p m c cc nL s args RX3) (hW : wd D A M H0 H locs) {fs fs2 : List Value} (hM : M a = some (.inr (1, fs))) {v : Int32} (hl : 0 < fs.length) (hs : fs.set 0 (.int v) = fs2) (hdg : decode cc pc = .ok (.putfield 63, 3)) (kk : ∀ (H1 : Heap) (locs1 : List Loc), wd D A (va_up M a (some (.inr (1, fs2)))) H0 H1 locs1 → W p l e R s m args below meth c H1 locs1 cells slots Q (F0 m (pc + 3) ls rest)) : W p l e R s m args below meth c H locs cells slots Q (F0 m pc ls ((.int v) :: .ref a :: rest)) := w_put C hW hM rfl inX1 tyX1 tyX1_ok nmX1 0 (by decide) wm_294 rfl rfl rfl rfl hl hdg (fun H1 locs1 h => kk H1 locs1 (hs ▸ h))
theorem pf_X4_9 (C : kx D cs p m c cc nL s args RX4) (hW : wd D A M H0 H locs) (hini : meth.name = "<init>") {fs fs2 : List Value} (hM : M a = some (.inr (4, fs))) {v : Nat} (hl : 0 < fs.length) (hs : fs.set 0 (.ref v) = fs2) (hdg : decode cc pc = .ok (.putfield 9, 3)) (kk : ∀ (H1 : Heap) (locs1 : List Loc), wd D A (va_up M a (some (.inr (4, fs2)))) H0 H1 locs1 → W p l e R s m args below meth c H1 locs1 cells slots Q (F0 m (pc + 3) ls rest)) : W p l e R s m args below meth c H locs cells slots Q (F0 m pc ls ((.ref v) :: .ref a :: rest)) := w_putF C hW hM rfl inX4 tyX4 tyX4_ok nmX4 0 (by decide) wm_13 rfl rfl hini rfl rfl rfl hl hdg (fun H1 locs1 h => kk H1 locs1 (hs ▸ h))
theorem pf_X4_15 (C : kx D cs p m c cc nL s args RX4) (hW : wd D A M H0 H locs) (hini : meth.name = "<init>") {fs fs2 : List Value} (hM : M a = some (.inr (4, fs))) {v : Nat} (hl : 1 < fs.length) (hs : fs.set 1 (.ref v) = fs2) (hdg : decode cc pc = .ok (.putfield 15, 3)) (kk : ∀ (H1 : Heap) (locs1 : List Loc), wd D A (va_up M a (some (.inr (4, fs2)))) H0 H1 locs1 → W p l e R s m args below meth c H1 locs1 cells slots Q (F0 m (pc + 3) ls rest)) : W p l e R s m args below meth c H locs cells slots Q (F0 m pc ls ((.ref v) :: .ref a :: rest)) := w_putF C hW hM rfl inX4 tyX4 tyX4_ok nmX4 1 (by decide) wm_15 rfl rfl hini rfl rfl rfl hl hdg (fun H1 locs1 h => kk H1 locs1 (hs ▸ h))
theorem pf_X4_21 (C : kx D cs p m c cc nL s args RX4) (hW : wd D A M H0 H locs) (hini : meth.name = "<init>") {fs fs2 : List Value} (hM : M a = some (.inr (4, fs))) {v : Nat} (hl : 2 < fs.length) (hs : fs.set 2 (.ref v) = fs2) (hdg : decode cc pc = .ok (.putfield 21, 3)) (kk : ∀ (H1 : Heap) (locs1 : List Loc), wd D A (va_up M a (some (.inr (4, fs2)))) H0 H1 locs1 → W p l e R s m args below meth c H1 locs1 cells slots Q (F0 m (pc + 3) ls rest)) : W p l e R s m args below meth c H locs cells slots Q (F0 m pc ls ((.ref v) :: .ref a :: rest)) := w_putF C hW hM rfl inX4 tyX4 tyX4_ok nmX4 2 (by decide) wm_17 rfl rfl hini rfl rfl rfl hl hdg (fun H1 locs1 h => kk H1 locs1 (hs ▸ h))
theorem pf_X4_27 (C : kx D cs p m c cc nL s args RX4) (hW : wd D A M H0 H locs) (hini : meth.name = "<init>") {fs fs2 : List Value} (hM : M a = some (.inr (4, fs))) {v : Nat} (hl : 3 < fs.length) (hs : fs.set 3 (.ref v) = fs2) (hdg : decode cc pc = .ok (.putfield 27, 3)) (kk : ∀ (H1 : Heap) (locs1 : List Loc), wd D A (va_up M a (some (.inr (4, fs2)))) H0 H1 locs1 → W p l e R s m args below meth c H1 locs1 cells slots Q (F0 m (pc + 3) ls rest)) : W p l e R s m args below meth c H locs cells slots Q (F0 m pc ls ((.ref v) :: .ref a :: rest)) := w_putF C hW hM rfl inX4 tyX4 tyX4_ok nmX4 3 (by decide) wm_19 rfl rfl hini rfl rfl rfl hl hdg (fun H1 locs1 h => kk H1 locs1 (hs ▸ h))
theorem pf_X4_33 (C : kx D cs p m c cc nL s args RX4) (hW : wd D A M H0 H locs) (hini : meth.name = "<init>") {fs fs2 : List Value} (hM : M a = some (.inr (4, fs))) {v : Nat} (hl : 4 < fs.length) (hs : fs.set 4 (.ref v) = fs2) (hdg : decode cc pc = .ok (.putfield 33, 3)) (kk : ∀ (H1 : Heap) (locs1 : List Loc), wd D A (va_up M a (some (.inr (4, fs2)))) H0 H1 locs1 → W p l e R s m args below meth c H1 locs1 cells slots Q (F0 m (pc + 3) ls rest)) : W p l e R s m args below meth c H locs cells slots Q (F0 m pc ls ((.ref v) :: .ref a :: rest)) := w_putF C hW hM rfl inX4 tyX4 tyX4_ok nmX4 4 (by decide) wm_21 rfl rfl hini rfl rfl rfl hl hdg (fun H1 locs1 h => kk H1 locs1 (hs ▸ h))
theorem pf_X4_41 (C : kx D cs p m c cc nL s args RX4) (hW : wd D A M H0 H locs) (hini : meth.name = "<init>") {fs fs2 : List Value} (hM : M a = some (.inr (4, fs))) {v : Nat} (hl : 5 < fs.length) (hs : fs.set 5 (.ref v) = fs2) (hdg : decode cc pc = .ok (.putfield 41, 3)) (kk : ∀ (H1 : Heap) (locs1 : List Loc), wd D A (va_up M a (some (.inr (4, fs2)))) H0 H1 locs1 → W p l e R s m args below meth c H1 locs1 cells slots Q (F0 m (pc + 3) ls rest)) : W p l e R s m args below meth c H locs cells slots Q (F0 m pc ls ((.ref v) :: .ref a :: rest)) := w_putF C hW hM rfl inX4 tyX4 tyX4_ok nmX4 5 (by decide) wm_22 rfl rfl hini rfl rfl rfl hl hdg (fun H1 locs1 h => kk H1 locs1 (hs ▸ h))
theorem pf_X4_52 (C : kx D cs p m c cc nL s args RX4) (hW : wd D A M H0 H locs) {fs fs2 : List Value} (hM : M a = some (.inr (4, fs))) {v : Int32} (hl : 6 < fs.length) (hs : fs.set 6 (.int v) = fs2) (hdg : decode cc pc = .ok (.putfield 52, 3)) (kk : ∀ (H1 : Heap) (locs1 : List Loc), wd D A (va_up M a (some (.inr (4, fs2)))) H0 H1 locs1 → W p l e R s m args below meth c H1 locs1 cells slots Q (F0 m (pc + 3) ls rest)) : W p l e R s m args below meth c H locs cells slots Q (F0 m pc ls ((.int v) :: .ref a :: rest)) := w_put C hW hM rfl inX4 tyX4 tyX4_ok nmX4 6 (by decide) wm_40 rfl rfl rfl rfl hl hdg (fun H1 locs1 h => kk H1 locs1 (hs ▸ h))
theorem pf_X4_60 (C : kx D cs p m c cc nL s args RX4) (hW : wd D A M H0 H locs) {fs fs2 : List Value} (hM : M a = some (.inr (4, fs))) {v : Int32} (hl : 7 < fs.length) (hs : fs.set 7 (.int v) = fs2) (hdg : decode cc pc = .ok (.putfield 60, 3)) (kk : ∀ (H1 : Heap) (locs1 : List Loc), wd D A (va_up M a (some (.inr (4, fs2)))) H0 H1 locs1 → W p l e R s m args below meth c H1 locs1 cells slots Q (F0 m (pc + 3) ls rest)) : W p l e R s m args below meth c H locs cells slots Q (F0 m pc ls ((.int v) :: .ref a :: rest)) := w_put C hW hM rfl inX4 tyX4 tyX4_ok nmX4 7 (by decide) wm_41 rfl rfl rfl rfl hl hdg (fun H1 locs1 h => kk H1 locs1 (hs ▸ h))
theorem pf_X4_69 (C : kx D cs p m c cc nL s args RX4) (hW : wd D A M H0 H locs) {fs fs2 : List Value} (hM : M a = some (.inr (4, fs))) {v : Int32} (hl : 8 < fs.length) (hs : fs.set 8 (.int v) = fs2) (hdg : decode cc pc = .ok (.putfield 69, 3)) (kk : ∀ (H1 : Heap) (locs1 : List Loc), wd D A (va_up M a (some (.inr (4, fs2)))) H0 H1 locs1 → W p l e R s m args below meth c H1 locs1 cells slots Q (F0 m (pc + 3) ls rest)) : W p l e R s m args below meth c H locs cells slots Q (F0 m pc ls ((.int v) :: .ref a :: rest)) := w_put C hW hM rfl inX4 tyX4 tyX4_ok nmX4 8 (by decide) wm_42 rfl rfl rfl rfl hl hdg (fun H1 locs1 h => kk H1 locs1 (hs ▸ h))
theorem pf_X4_72 (C : kx D cs p m c cc nL s args RX4) (hW : wd D A M H0 H locs) {fs fs2 : List Value} (hM : M a = some (.inr (4, fs))) {v : Int32} (hl : 9 < fs.length) (hs : fs.set 9 (.int v) = fs2) (hdg : decode cc pc = .ok (.putfield 72, 3)) (kk : ∀ (H1 : Heap) (locs1 : List Loc), wd D A (va_up M a (some (.inr (4, fs2)))) H0 H1 locs1 → W p l e R s m args below meth c H1 locs1 cells slots Q (F0 m (pc + 3) ls rest)) : W p l e R s m args below meth c H locs cells slots Q (F0 m pc ls ((.int v) :: .ref a :: rest)) := w_put C hW hM rfl inX4 tyX4 tyX4_ok nmX4 9 (by decide) wm_43 rfl rfl rfl rfl hl hdg (fun H1 locs1 h => kk H1 locs1 (hs ▸ h))
theorem pf_X4_86 (C : kx D cs p m c cc nL s args RX4) (hW : wd D A M H0 H locs) {fs fs2 : List Value} (hM : M a = some (.inr (4, fs))) {v : Int32} (hl : 11 < fs.length) (hs : fs.set 11 (.int v) = fs2) (hdg : decode cc pc = .ok (.putfield 86, 3)) (kk : ∀ (H1 : Heap) (locs1 : List Loc), wd D A (va_up M a (some (.inr (4, fs2)))) H0 H1 locs1 → W p l e R s m args below meth c H1 locs1 cells slots Q (F0 m (pc + 3) ls rest)) : W p l e R s m args below meth c H locs cells slots Q (F0 m pc ls ((.int v) :: .ref a :: rest)) := w_put C hW hM rfl inX4 tyX4 tyX4_ok nmX4 11 (by decide) wm_45 rfl rfl rfl rfl hl hdg (fun H1 locs1 h => kk H1 locs1 (hs ▸ h))
theorem pf_X4_89 (C : kx D cs p m c cc nL s args RX4) (hW : wd D A M H0 H locs) {fs fs2 : List Value} (hM : M a = some (.inr (3, fs))) {v : Int32} (hl : 8 < fs.length) (hs : fs.set 8 (.int v) = fs2) (hdg : decode cc pc = .ok (.putfield 89, 3)) (kk : ∀ (H1 : Heap) (locs1 : List Loc), wd D A (va_up M a (some (.inr (3, fs2)))) H0 H1 locs1 → W p l e R s m args below meth c H1 locs1 cells slots Q (F0 m (pc + 3) ls rest)) : W p l e R s m args below meth c H locs cells slots Q (F0 m pc ls ((.int v) :: .ref a :: rest)) := w_put C hW hM rfl inX3 tyX3 tyX3_ok nmX3 8 (by decide) wm_278 rfl rfl rfl rfl hl hdg (fun H1 locs1 h => kk H1 locs1 (hs ▸ h))
theorem pf_X4_130 (C : kx D cs p m c cc nL s args RX4) (hW : wd D A M H0 H locs) {fs fs2 : List Value} (hM : M a = some (.inr (3, fs))) {v : Int32} (hz : v = 0 ∨ v = 1) (hl : 9 < fs.length) (hs : fs.set 9 (.int v) = fs2) (hdg : decode cc pc = .ok (.putfield 130, 3)) (kk : ∀ (H1 : Heap) (locs1 : List Loc), wd D A (va_up M a (some (.inr (3, fs2)))) H0 H1 locs1 → W p l e R s m args below meth c H1 locs1 cells slots Q (F0 m (pc + 3) ls rest)) : W p l e R s m args below meth c H locs cells slots Q (F0 m pc ls ((.int v) :: .ref a :: rest)) := w_put C hW hM rfl inX3 tyX3 tyX3_ok nmX3 9 (by decide) wm_277 rfl rfl (by rcases hz with rfl | rfl <;> rfl) (by rcases hz with rfl | rfl <;> rfl) hl hdg (fun H1 locs1 h => kk H1 locs1 (hs ▸ h))
theorem pf_X4_169 (C : kx D cs p m c cc nL s args RX4) (hW : wd D A M H0 H locs) {fs fs2 : List Value} (hM : M a = some (.inr (4, fs))) {v : Int32} (hl : 10 < fs.length) (hs : fs.set 10 (.int v) = fs2) (hdg : decode cc pc = .ok (.putfield 169, 3)) (kk : ∀ (H1 : Heap) (locs1 : List Loc), wd D A (va_up M a (some (.inr (4, fs2)))) H0 H1 locs1 → W p l e R s m args below meth c H1 locs1 cells slots Q (F0 m (pc + 3) ls rest)) : W p l e R s m args below meth c H locs cells slots Q (F0 m pc ls ((.int v) :: .ref a :: rest)) := w_put C hW hM rfl inX4 tyX4 tyX4_ok nmX4 10 (by decide) wm_44 rfl rfl rfl rfl hl hdg (fun H1 locs1 h => kk H1 locs1 (hs ▸ h))
theorem pf_X5_7 (C : kx D cs p m c cc nL s args RX5) (hW : wd D A M H0 H locs) (hini : meth.name = "<init>") {fs fs2 : List Value} (hM : M a = some (.inr (5, fs))) {v : Nat} (hl : 1 < fs.length) (hs : fs.set 1 (.ref v) = fs2) (hdg : decode cc pc = .ok (.putfield 7, 3)) (kk : ∀ (H1 : Heap) (locs1 : List Loc), wd D A (va_up M a (some (.inr (5, fs2)))) H0 H1 locs1 → W p l e R s m args below meth c H1 locs1 cells slots Q (F0 m (pc + 3) ls rest)) : W p l e R s m args below meth c H locs cells slots Q (F0 m pc ls ((.ref v) :: .ref a :: rest)) := w_putF C hW hM rfl inX5 tyX5 tyX5_ok nmX5 1 (by decide) wm_50 rfl rfl hini rfl rfl rfl hl hdg (fun H1 locs1 h => kk H1 locs1 (hs ▸ h))
theorem pf_X5_13 (C : kx D cs p m c cc nL s args RX5) (hW : wd D A M H0 H locs) (hini : meth.name = "<init>") {fs fs2 : List Value} (hM : M a = some (.inr (5, fs))) {v : Nat} (hl : 3 < fs.length) (hs : fs.set 3 (.ref v) = fs2) (hdg : decode cc pc = .ok (.putfield 13, 3)) (kk : ∀ (H1 : Heap) (locs1 : List Loc), wd D A (va_up M a (some (.inr (5, fs2)))) H0 H1 locs1 → W p l e R s m args below meth c H1 locs1 cells slots Q (F0 m (pc + 3) ls rest)) : W p l e R s m args below meth c H locs cells slots Q (F0 m pc ls ((.ref v) :: .ref a :: rest)) := w_putF C hW hM rfl inX5 tyX5 tyX5_ok nmX5 3 (by decide) wm_51 rfl rfl hini rfl rfl rfl hl hdg (fun H1 locs1 h => kk H1 locs1 (hs ▸ h))
theorem pf_X5_16 (C : kx D cs p m c cc nL s args RX5) (hW : wd D A M H0 H locs) (hini : meth.name = "<init>") {fs fs2 : List Value} (hM : M a = some (.inr (5, fs))) {v : Nat} (hl : 4 < fs.length) (hs : fs.set 4 (.ref v) = fs2) (hdg : decode cc pc = .ok (.putfield 16, 3)) (kk : ∀ (H1 : Heap) (locs1 : List Loc), wd D A (va_up M a (some (.inr (5, fs2)))) H0 H1 locs1 → W p l e R s m args below meth c H1 locs1 cells slots Q (F0 m (pc + 3) ls rest)) : W p l e R s m args below meth c H locs cells slots Q (F0 m pc ls ((.ref v) :: .ref a :: rest)) := w_putF C hW hM rfl inX5 tyX5 tyX5_ok nmX5 4 (by decide) wm_52 rfl rfl hini rfl rfl rfl hl hdg (fun H1 locs1 h => kk H1 locs1 (hs ▸ h))
theorem pf_X5_19 (C : kx D cs p m c cc nL s args RX5) (hW : wd D A M H0 H locs) (hini : meth.name = "<init>") {fs fs2 : List Value} (hM : M a = some (.inr (5, fs))) {v : Nat} (hl : 5 < fs.length) (hs : fs.set 5 (.ref v) = fs2) (hdg : decode cc pc = .ok (.putfield 19, 3)) (kk : ∀ (H1 : Heap) (locs1 : List Loc), wd D A (va_up M a (some (.inr (5, fs2)))) H0 H1 locs1 → W p l e R s m args below meth c H1 locs1 cells slots Q (F0 m (pc + 3) ls rest)) : W p l e R s m args below meth c H locs cells slots Q (F0 m pc ls ((.ref v) :: .ref a :: rest)) := w_putF C hW hM rfl inX5 tyX5 tyX5_ok nmX5 5 (by decide) wm_53 rfl rfl hini rfl rfl rfl hl hdg (fun H1 locs1 h => kk H1 locs1 (hs ▸ h))
theorem pf_X5_22 (C : kx D cs p m c cc nL s args RX5) (hW : wd D A M H0 H locs) (hini : meth.name = "<init>") {fs fs2 : List Value} (hM : M a = some (.inr (5, fs))) {v : Nat} (hl : 6 < fs.length) (hs : fs.set 6 (.ref v) = fs2) (hdg : decode cc pc = .ok (.putfield 22, 3)) (kk : ∀ (H1 : Heap) (locs1 : List Loc), wd D A (va_up M a (some (.inr (5, fs2)))) H0 H1 locs1 → W p l e R s m args below meth c H1 locs1 cells slots Q (F0 m (pc + 3) ls rest)) : W p l e R s m args below meth c H locs cells slots Q (F0 m pc ls ((.ref v) :: .ref a :: rest)) := w_putF C hW hM rfl inX5 tyX5 tyX5_ok nmX5 6 (by decide) wm_55 rfl rfl hini rfl rfl rfl hl hdg (fun H1 locs1 h => kk H1 locs1 (hs ▸ h))
theorem pf_X5_26 (C : kx D cs p m c cc nL s args RX5) (hW : wd D A M H0 H locs) (hini : meth.name = "<init>") {fs fs2 : List Value} (hM : M a = some (.inr (5, fs))) {v : Nat} (hl : 8 < fs.length) (hs : fs.set 8 (.ref v) = fs2) (hdg : decode cc pc = .ok (.putfield 26, 3)) (kk : ∀ (H1 : Heap) (locs1 : List Loc), wd D A (va_up M a (some (.inr (5, fs2)))) H0 H1 locs1 → W p l e R s m args below meth c H1 locs1 cells slots Q (F0 m (pc + 3) ls rest)) : W p l e R s m args below meth c H locs cells slots Q (F0 m pc ls ((.ref v) :: .ref a :: rest)) := w_putF C hW hM rfl inX5 tyX5 tyX5_ok nmX5 8 (by decide) wm_56 rfl rfl hini rfl rfl rfl hl hdg (fun H1 locs1 h => kk H1 locs1 (hs ▸ h))
theorem pf_X5_29 (C : kx D cs p m c cc nL s args RX5) (hW : wd D A M H0 H locs) (hini : meth.name = "<init>") {fs fs2 : List Value} (hM : M a = some (.inr (5, fs))) {v : Nat} (hl : 9 < fs.length) (hs : fs.set 9 (.ref v) = fs2) (hdg : decode cc pc = .ok (.putfield 29, 3)) (kk : ∀ (H1 : Heap) (locs1 : List Loc), wd D A (va_up M a (some (.inr (5, fs2)))) H0 H1 locs1 → W p l e R s m args below meth c H1 locs1 cells slots Q (F0 m (pc + 3) ls rest)) : W p l e R s m args below meth c H locs cells slots Q (F0 m pc ls ((.ref v) :: .ref a :: rest)) := w_putF C hW hM rfl inX5 tyX5 tyX5_ok nmX5 9 (by decide) wm_57 rfl rfl hini rfl rfl rfl hl hdg (fun H1 locs1 h => kk H1 locs1 (hs ▸ h))
theorem pf_X5_32 (C : kx D cs p m c cc nL s args RX5) (hW : wd D A M H0 H locs) (hini : meth.name = "<init>") {fs fs2 : List Value} (hM : M a = some (.inr (5, fs))) {v : Nat} (hl : 10 < fs.length) (hs : fs.set 10 (.ref v) = fs2) (hdg : decode cc pc = .ok (.putfield 32, 3)) (kk : ∀ (H1 : Heap) (locs1 : List Loc), wd D A (va_up M a (some (.inr (5, fs2)))) H0 H1 locs1 → W p l e R s m args below meth c H1 locs1 cells slots Q (F0 m (pc + 3) ls rest)) : W p l e R s m args below meth c H locs cells slots Q (F0 m pc ls ((.ref v) :: .ref a :: rest)) := w_putF C hW hM rfl inX5 tyX5 tyX5_ok nmX5 10 (by decide) wm_58 rfl rfl hini rfl rfl rfl hl hdg (fun H1 locs1 h => kk H1 locs1 (hs ▸ h))
theorem pf_X5_35 (C : kx D cs p m c cc nL s args RX5) (hW : wd D A M H0 H locs) (hini : meth.name = "<init>") {fs fs2 : List Value} (hM : M a = some (.inr (5, fs))) {v : Nat} (hl : 11 < fs.length) (hs : fs.set 11 (.ref v) = fs2) (hdg : decode cc pc = .ok (.putfield 35, 3)) (kk : ∀ (H1 : Heap) (locs1 : List Loc), wd D A (va_up M a (some (.inr (5, fs2)))) H0 H1 locs1 → W p l e R s m args below meth c H1 locs1 cells slots Q (F0 m (pc + 3) ls rest)) : W p l e R s m args below meth c H locs cells slots Q (F0 m pc ls ((.ref v) :: .ref a :: rest)) := w_putF C hW hM rfl inX5 tyX5 tyX5_ok nmX5 11 (by decide) wm_59 rfl rfl hini rfl rfl rfl hl hdg (fun H1 locs1 h => kk H1 locs1 (hs ▸ h))
theorem pf_X5_38 (C : kx D cs p m c cc nL s args RX5) (hW : wd D A M H0 H locs) (hini : meth.name = "<init>") {fs fs2 : List Value} (hM : M a = some (.inr (5, fs))) {v : Nat} (hl : 12 < fs.length) (hs : fs.set 12 (.ref v) = fs2) (hdg : decode cc pc = .ok (.putfield 38, 3)) (kk : ∀ (H1 : Heap) (locs1 : List Loc), wd D A (va_up M a (some (.inr (5, fs2)))) H0 H1 locs1 → W p l e R s m args below meth c H1 locs1 cells slots Q (F0 m (pc + 3) ls rest)) : W p l e R s m args below meth c H locs cells slots Q (F0 m pc ls ((.ref v) :: .ref a :: rest)) := w_putF C hW hM rfl inX5 tyX5 tyX5_ok nmX5 12 (by decide) wm_60 rfl rfl hini rfl rfl rfl hl hdg (fun H1 locs1 h => kk H1 locs1 (hs ▸ h))
theorem pf_X5_41 (C : kx D cs p m c cc nL s args RX5) (hW : wd D A M H0 H locs) (hini : meth.name = "<init>") {fs fs2 : List Value} (hM : M a = some (.inr (5, fs))) {v : Nat} (hl : 14 < fs.length) (hs : fs.set 14 (.ref v) = fs2) (hdg : decode cc pc = .ok (.putfield 41, 3)) (kk : ∀ (H1 : Heap) (locs1 : List Loc), wd D A (va_up M a (some (.inr (5, fs2)))) H0 H1 locs1 → W p l e R s m args below meth c H1 locs1 cells slots Q (F0 m (pc + 3) ls rest)) : W p l e R s m args below meth c H locs cells slots Q (F0 m pc ls ((.ref v) :: .ref a :: rest)) := w_putF C hW hM rfl inX5 tyX5 tyX5_ok nmX5 14 (by decide) wm_61 rfl rfl hini rfl rfl rfl hl hdg (fun H1 locs1 h => kk H1 locs1 (hs ▸ h))
theorem pf_X5_44 (C : kx D cs p m c cc nL s args RX5) (hW : wd D A M H0 H locs) (hini : meth.name = "<init>") {fs fs2 : List Value} (hM : M a = some (.inr (5, fs))) {v : Nat} (hl : 15 < fs.length) (hs : fs.set 15 (.ref v) = fs2) (hdg : decode cc pc = .ok (.putfield 44, 3)) (kk : ∀ (H1 : Heap) (locs1 : List Loc), wd D A (va_up M a (some (.inr (5, fs2)))) H0 H1 locs1 → W p l e R s m args below meth c H1 locs1 cells slots Q (F0 m (pc + 3) ls rest)) : W p l e R s m args below meth c H locs cells slots Q (F0 m pc ls ((.ref v) :: .ref a :: rest)) := w_putF C hW hM rfl inX5 tyX5 tyX5_ok nmX5 15 (by decide) wm_62 rfl rfl hini rfl rfl rfl hl hdg (fun H1 locs1 h => kk H1 locs1 (hs ▸ h))
theorem pf_X5_47 (C : kx D cs p m c cc nL s args RX5) (hW : wd D A M H0 H locs) (hini : meth.name = "<init>") {fs fs2 : List Value} (hM : M a = some (.inr (5, fs))) {v : Nat} (hl : 16 < fs.length) (hs : fs.set 16 (.ref v) = fs2) (hdg : decode cc pc = .ok (.putfield 47, 3)) (kk : ∀ (H1 : Heap) (locs1 : List Loc), wd D A (va_up M a (some (.inr (5, fs2)))) H0 H1 locs1 → W p l e R s m args below meth c H1 locs1 cells slots Q (F0 m (pc + 3) ls rest)) : W p l e R s m args below meth c H locs cells slots Q (F0 m pc ls ((.ref v) :: .ref a :: rest)) := w_putF C hW hM rfl inX5 tyX5 tyX5_ok nmX5 16 (by decide) wm_63 rfl rfl hini rfl rfl rfl hl hdg (fun H1 locs1 h => kk H1 locs1 (hs ▸ h))
theorem pf_X5_50 (C : kx D cs p m c cc nL s args RX5) (hW : wd D A M H0 H locs) (hini : meth.name = "<init>") {fs fs2 : List Value} (hM : M a = some (.inr (5, fs))) {v : Nat} (hl : 17 < fs.length) (hs : fs.set 17 (.ref v) = fs2) (hdg : decode cc pc = .ok (.putfield 50, 3)) (kk : ∀ (H1 : Heap) (locs1 : List Loc), wd D A (va_up M a (some (.inr (5, fs2)))) H0 H1 locs1 → W p l e R s m args below meth c H1 locs1 cells slots Q (F0 m (pc + 3) ls rest)) : W p l e R s m args below meth c H locs cells slots Q (F0 m pc ls ((.ref v) :: .ref a :: rest)) := w_putF C hW hM rfl inX5 tyX5 tyX5_ok nmX5 17 (by decide) wm_64 rfl rfl hini rfl rfl rfl hl hdg (fun H1 locs1 h => kk H1 locs1 (hs ▸ h))
theorem pf_X5_53 (C : kx D cs p m c cc nL s args RX5) (hW : wd D A M H0 H locs) (hini : meth.name = "<init>") {fs fs2 : List Value} (hM : M a = some (.inr (5, fs))) {v : Nat} (hl : 18 < fs.length) (hs : fs.set 18 (.ref v) = fs2) (hdg : decode cc pc = .ok (.putfield 53, 3)) (kk : ∀ (H1 : Heap) (locs1 : List Loc), wd D A (va_up M a (some (.inr (5, fs2)))) H0 H1 locs1 → W p l e R s m args below meth c H1 locs1 cells slots Q (F0 m (pc + 3) ls rest)) : W p l e R s m args below meth c H locs cells slots Q (F0 m pc ls ((.ref v) :: .ref a :: rest)) := w_putF C hW hM rfl inX5 tyX5 tyX5_ok nmX5 18 (by decide) wm_65 rfl rfl hini rfl rfl rfl hl hdg (fun H1 locs1 h => kk H1 locs1 (hs ▸ h))
theorem pf_X5_56 (C : kx D cs p m c cc nL s args RX5) (hW : wd D A M H0 H locs) (hini : meth.name = "<init>") {fs fs2 : List Value} (hM : M a = some (.inr (5, fs))) {v : Nat} (hl : 20 < fs.length) (hs : fs.set 20 (.ref v) = fs2) (hdg : decode cc pc = .ok (.putfield 56, 3)) (kk : ∀ (H1 : Heap) (locs1 : List Loc), wd D A (va_up M a (some (.inr (5, fs2)))) H0 H1 locs1 → W p l e R s m args below meth c H1 locs1 cells slots Q (F0 m (pc + 3) ls rest)) : W p l e R s m args below meth c H locs cells slots Q (F0 m pc ls ((.ref v) :: .ref a :: rest)) := w_putF C hW hM rfl inX5 tyX5 tyX5_ok nmX5 20 (by decide) wm_66 rfl rfl hini rfl rfl rfl hl hdg (fun H1 locs1 h => kk H1 locs1 (hs ▸ h))
theorem pf_X5_59 (C : kx D cs p m c cc nL s args RX5) (hW : wd D A M H0 H locs) (hini : meth.name = "<init>") {fs fs2 : List Value} (hM : M a = some (.inr (5, fs))) {v : Nat} (hl : 21 < fs.length) (hs : fs.set 21 (.ref v) = fs2) (hdg : decode cc pc = .ok (.putfield 59, 3)) (kk : ∀ (H1 : Heap) (locs1 : List Loc), wd D A (va_up M a (some (.inr (5, fs2)))) H0 H1 locs1 → W p l e R s m args below meth c H1 locs1 cells slots Q (F0 m (pc + 3) ls rest)) : W p l e R s m args below meth c H locs cells slots Q (F0 m pc ls ((.ref v) :: .ref a :: rest)) := w_putF C hW hM rfl inX5 tyX5 tyX5_ok nmX5 21 (by decide) wm_67 rfl rfl hini rfl rfl rfl hl hdg (fun H1 locs1 h => kk H1 locs1 (hs ▸ h))
theorem pf_X5_62 (C : kx D cs p m c cc nL s args RX5) (hW : wd D A M H0 H locs) (hini : meth.name = "<init>") {fs fs2 : List Value} (hM : M a = some (.inr (5, fs))) {v : Nat} (hl : 22 < fs.length) (hs : fs.set 22 (.ref v) = fs2) (hdg : decode cc pc = .ok (.putfield 62, 3)) (kk : ∀ (H1 : Heap) (locs1 : List Loc), wd D A (va_up M a (some (.inr (5, fs2)))) H0 H1 locs1 → W p l e R s m args below meth c H1 locs1 cells slots Q (F0 m (pc + 3) ls rest)) : W p l e R s m args below meth c H locs cells slots Q (F0 m pc ls ((.ref v) :: .ref a :: rest)) := w_putF C hW hM rfl inX5 tyX5 tyX5_ok nmX5 22 (by decide) wm_68 rfl rfl hini rfl rfl rfl hl hdg (fun H1 locs1 h => kk H1 locs1 (hs ▸ h))
theorem pf_X5_65 (C : kx D cs p m c cc nL s args RX5) (hW : wd D A M H0 H locs) (hini : meth.name = "<init>") {fs fs2 : List Value} (hM : M a = some (.inr (5, fs))) {v : Nat} (hl : 23 < fs.length) (hs : fs.set 23 (.ref v) = fs2) (hdg : decode cc pc = .ok (.putfield 65, 3)) (kk : ∀ (H1 : Heap) (locs1 : List Loc), wd D A (va_up M a (some (.inr (5, fs2)))) H0 H1 locs1 → W p l e R s m args below meth c H1 locs1 cells slots Q (F0 m (pc + 3) ls rest)) : W p l e R s m args below meth c H locs cells slots Q (F0 m pc ls ((.ref v) :: .ref a :: rest)) := w_putF C hW hM rfl inX5 tyX5 tyX5_ok nmX5 23 (by decide) wm_69 rfl rfl hini rfl rfl rfl hl hdg (fun H1 locs1 h => kk H1 locs1 (hs ▸ h))
theorem pf_X5_68 (C : kx D cs p m c cc nL s args RX5) (hW : wd D A M H0 H locs) (hini : meth.name = "<init>") {fs fs2 : List Value} (hM : M a = some (.inr (5, fs))) {v : Nat} (hl : 24 < fs.length) (hs : fs.set 24 (.ref v) = fs2) (hdg : decode cc pc = .ok (.putfield 68, 3)) (kk : ∀ (H1 : Heap) (locs1 : List Loc), wd D A (va_up M a (some (.inr (5, fs2)))) H0 H1 locs1 → W p l e R s m args below meth c H1 locs1 cells slots Q (F0 m (pc + 3) ls rest)) : W p l e R s m args below meth c H locs cells slots Q (F0 m pc ls ((.ref v) :: .ref a :: rest)) := w_putF C hW hM rfl inX5 tyX5 tyX5_ok nmX5 24 (by decide) wm_70 rfl rfl hini rfl rfl rfl hl hdg (fun H1 locs1 h => kk H1 locs1 (hs ▸ h))
theorem pf_X5_71 (C : kx D cs p m c cc nL s args RX5) (hW : wd D A M H0 H locs) (hini : meth.name = "<init>") {fs fs2 : List Value} (hM : M a = some (.inr (5, fs))) {v : Nat} (hl : 25 < fs.length) (hs : fs.set 25 (.ref v) = fs2) (hdg : decode cc pc = .ok (.putfield 71, 3)) (kk : ∀ (H1 : Heap) (locs1 : List Loc), wd D A (va_up M a (some (.inr (5, fs2)))) H0 H1 locs1 → W p l e R s m args below meth c H1 locs1 cells slots Q (F0 m (pc + 3) ls rest)) : W p l e R s m args below meth c H locs cells slots Q (F0 m pc ls ((.ref v) :: .ref a :: rest)) := w_putF C hW hM rfl inX5 tyX5 tyX5_ok nmX5 25 (by decide) wm_71 rfl rfl hini rfl rfl rfl hl hdg (fun H1 locs1 h => kk H1 locs1 (hs ▸ h))
theorem pf_X5_74 (C : kx D cs p m c cc nL s args RX5) (hW : wd D A M H0 H locs) (hini : meth.name = "<init>") {fs fs2 : List Value} (hM : M a = some (.inr (5, fs))) {v : Nat} (hl : 26 < fs.length) (hs : fs.set 26 (.ref v) = fs2) (hdg : decode cc pc = .ok (.putfield 74, 3)) (kk : ∀ (H1 : Heap) (locs1 : List Loc), wd D A (va_up M a (some (.inr (5, fs2)))) H0 H1 locs1 → W p l e R s m args below meth c H1 locs1 cells slots Q (F0 m (pc + 3) ls rest)) : W p l e R s m args below meth c H locs cells slots Q (F0 m pc ls ((.ref v) :: .ref a :: rest)) := w_putF C hW hM rfl inX5 tyX5 tyX5_ok nmX5 26 (by decide) wm_72 rfl rfl hini rfl rfl rfl hl hdg (fun H1 locs1 h => kk H1 locs1 (hs ▸ h))
theorem pf_X5_77 (C : kx D cs p m c cc nL s args RX5) (hW : wd D A M H0 H locs) (hini : meth.name = "<init>") {fs fs2 : List Value} (hM : M a = some (.inr (5, fs))) {v : Nat} (hl : 27 < fs.length) (hs : fs.set 27 (.ref v) = fs2) (hdg : decode cc pc = .ok (.putfield 77, 3)) (kk : ∀ (H1 : Heap) (locs1 : List Loc), wd D A (va_up M a (some (.inr (5, fs2)))) H0 H1 locs1 → W p l e R s m args below meth c H1 locs1 cells slots Q (F0 m (pc + 3) ls rest)) : W p l e R s m args below meth c H locs cells slots Q (F0 m pc ls ((.ref v) :: .ref a :: rest)) := w_putF C hW hM rfl inX5 tyX5 tyX5_ok nmX5 27 (by decide) wm_73 rfl rfl hini rfl rfl rfl hl hdg (fun H1 locs1 h => kk H1 locs1 (hs ▸ h))
theorem pf_X5_80 (C : kx D cs p m c cc nL s args RX5) (hW : wd D A M H0 H locs) (hini : meth.name = "<init>") {fs fs2 : List Value} (hM : M a = some (.inr (5, fs))) {v : Nat} (hl : 28 < fs.length) (hs : fs.set 28 (.ref v) = fs2) (hdg : decode cc pc = .ok (.putfield 80, 3)) (kk : ∀ (H1 : Heap) (locs1 : List Loc), wd D A (va_up M a (some (.inr (5, fs2)))) H0 H1 locs1 → W p l e R s m args below meth c H1 locs1 cells slots Q (F0 m (pc + 3) ls rest)) : W p l e R s m args below meth c H locs cells slots Q (F0 m pc ls ((.ref v) :: .ref a :: rest)) := w_putF C hW hM rfl inX5 tyX5 tyX5_ok nmX5 28 (by decide) wm_74 rfl rfl hini rfl rfl rfl hl hdg (fun H1 locs1 h => kk H1 locs1 (hs ▸ h))
theorem pf_X5_83 (C : kx D cs p m c cc nL s args RX5) (hW : wd D A M H0 H locs) (hini : meth.name = "<init>") {fs fs2 : List Value} (hM : M a = some (.inr (5, fs))) {v : Nat} (hl : 29 < fs.length) (hs : fs.set 29 (.ref v) = fs2) (hdg : decode cc pc = .ok (.putfield 83, 3)) (kk : ∀ (H1 : Heap) (locs1 : List Loc), wd D A (va_up M a (some (.inr (5, fs2)))) H0 H1 locs1 → W p l e R s m args below meth c H1 locs1 cells slots Q (F0 m (pc + 3) ls rest)) : W p l e R s m args below meth c H locs cells slots Q (F0 m pc ls ((.ref v) :: .ref a :: rest)) := w_putF C hW hM rfl inX5 tyX5 tyX5_ok nmX5 29 (by decide) wm_75 rfl rfl hini rfl rfl rfl hl hdg (fun H1 locs1 h => kk H1 locs1 (hs ▸ h))
theorem pf_X5_86 (C : kx D cs p m c cc nL s args RX5) (hW : wd D A M H0 H locs) (hini : meth.name = "<init>") {fs fs2 : List Value} (hM : M a = some (.inr (5, fs))) {v : Nat} (hl : 30 < fs.length) (hs : fs.set 30 (.ref v) = fs2) (hdg : decode cc pc = .ok (.putfield 86, 3)) (kk : ∀ (H1 : Heap) (locs1 : List Loc), wd D A (va_up M a (some (.inr (5, fs2)))) H0 H1 locs1 → W p l e R s m args below meth c H1 locs1 cells slots Q (F0 m (pc + 3) ls rest)) : W p l e R s m args below meth c H locs cells slots Q (F0 m pc ls ((.ref v) :: .ref a :: rest)) := w_putF C hW hM rfl inX5 tyX5 tyX5_ok nmX5 30 (by decide) wm_76 rfl rfl hini rfl rfl rfl hl hdg (fun H1 locs1 h => kk H1 locs1 (hs ▸ h))
theorem pf_X5_89 (C : kx D cs p m c cc nL s args RX5) (hW : wd D A M H0 H locs) (hini : meth.name = "<init>") {fs fs2 : List Value} (hM : M a = some (.inr (5, fs))) {v : Nat} (hl : 31 < fs.length) (hs : fs.set 31 (.ref v) = fs2) (hdg : decode cc pc = .ok (.putfield 89, 3)) (kk : ∀ (H1 : Heap) (locs1 : List Loc), wd D A (va_up M a (some (.inr (5, fs2)))) H0 H1 locs1 → W p l e R s m args below meth c H1 locs1 cells slots Q (F0 m (pc + 3) ls rest)) : W p l e R s m args below meth c H locs cells slots Q (F0 m pc ls ((.ref v) :: .ref a :: rest)) := w_putF C hW hM rfl inX5 tyX5 tyX5_ok nmX5 31 (by decide) wm_77 rfl rfl hini rfl rfl rfl hl hdg (fun H1 locs1 h => kk H1 locs1 (hs ▸ h))
theorem pf_X5_92 (C : kx D cs p m c cc nL s args RX5) (hW : wd D A M H0 H locs) (hini : meth.name = "<init>") {fs fs2 : List Value} (hM : M a = some (.inr (5, fs))) {v : Nat} (hl : 32 < fs.length) (hs : fs.set 32 (.ref v) = fs2) (hdg : decode cc pc = .ok (.putfield 92, 3)) (kk : ∀ (H1 : Heap) (locs1 : List Loc), wd D A (va_up M a (some (.inr (5, fs2)))) H0 H1 locs1 → W p l e R s m args below meth c H1 locs1 cells slots Q (F0 m (pc + 3) ls rest)) : W p l e R s m args below meth c H locs cells slots Q (F0 m pc ls ((.ref v) :: .ref a :: rest)) := w_putF C hW hM rfl inX5 tyX5 tyX5_ok nmX5 32 (by decide) wm_79 rfl rfl hini rfl rfl rfl hl hdg (fun H1 locs1 h => kk H1 locs1 (hs ▸ h))
theorem pf_X5_96 (C : kx D cs p m c cc nL s args RX5) (hW : wd D A M H0 H locs) (hini : meth.name = "<init>") {fs fs2 : List Value} (hM : M a = some (.inr (5, fs))) {v : Nat} (hl : 33 < fs.length) (hs : fs.set 33 (.ref v) = fs2) (hdg : decode cc pc = .ok (.putfield 96, 3)) (kk : ∀ (H1 : Heap) (locs1 : List Loc), wd D A (va_up M a (some (.inr (5, fs2)))) H0 H1 locs1 → W p l e R s m args below meth c H1 locs1 cells slots Q (F0 m (pc + 3) ls rest)) : W p l e R s m args below meth c H locs cells slots Q (F0 m pc ls ((.ref v) :: .ref a :: rest)) := w_putF C hW hM rfl inX5 tyX5 tyX5_ok nmX5 33 (by decide) wm_80 rfl rfl hini rfl rfl rfl hl hdg (fun H1 locs1 h => kk H1 locs1 (hs ▸ h))
theorem pf_X5_99 (C : kx D cs p m c cc nL s args RX5) (hW : wd D A M H0 H locs) (hini : meth.name = "<init>") {fs fs2 : List Value} (hM : M a = some (.inr (5, fs))) {v : Nat} (hl : 34 < fs.length) (hs : fs.set 34 (.ref v) = fs2) (hdg : decode cc pc = .ok (.putfield 99, 3)) (kk : ∀ (H1 : Heap) (locs1 : List Loc), wd D A (va_up M a (some (.inr (5, fs2)))) H0 H1 locs1 → W p l e R s m args below meth c H1 locs1 cells slots Q (F0 m (pc + 3) ls rest)) : W p l e R s m args below meth c H locs cells slots Q (F0 m pc ls ((.ref v) :: .ref a :: rest)) := w_putF C hW hM rfl inX5 tyX5 tyX5_ok nmX5 34 (by decide) wm_81 rfl rfl hini rfl rfl rfl hl hdg (fun H1 locs1 h => kk H1 locs1 (hs ▸ h))
theorem pf_X5_102 (C : kx D cs p m c cc nL s args RX5) (hW : wd D A M H0 H locs) (hini : meth.name = "<init>") {fs fs2 : List Value} (hM : M a = some (.inr (5, fs))) {v : Nat} (hl : 35 < fs.length) (hs : fs.set 35 (.ref v) = fs2) (hdg : decode cc pc = .ok (.putfield 102, 3)) (kk : ∀ (H1 : Heap) (locs1 : List Loc), wd D A (va_up M a (some (.inr (5, fs2)))) H0 H1 locs1 → W p l e R s m args below meth c H1 locs1 cells slots Q (F0 m (pc + 3) ls rest)) : W p l e R s m args below meth c H locs cells slots Q (F0 m pc ls ((.ref v) :: .ref a :: rest)) := w_putF C hW hM rfl inX5 tyX5 tyX5_ok nmX5 35 (by decide) wm_82 rfl rfl hini rfl rfl rfl hl hdg (fun H1 locs1 h => kk H1 locs1 (hs ▸ h))
theorem pf_X5_105 (C : kx D cs p m c cc nL s args RX5) (hW : wd D A M H0 H locs) {fs fs2 : List Value} (hM : M a = some (.inr (5, fs))) {v : Int32} (hl : 0 < fs.length) (hs : fs.set 0 (.int v) = fs2) (hdg : decode cc pc = .ok (.putfield 105, 3)) (kk : ∀ (H1 : Heap) (locs1 : List Loc), wd D A (va_up M a (some (.inr (5, fs2)))) H0 H1 locs1 → W p l e R s m args below meth c H1 locs1 cells slots Q (F0 m (pc + 3) ls rest)) : W p l e R s m args below meth c H locs cells slots Q (F0 m pc ls ((.int v) :: .ref a :: rest)) := w_put C hW hM rfl inX5 tyX5 tyX5_ok nmX5 0 (by decide) wm_94 rfl rfl rfl rfl hl hdg (fun H1 locs1 h => kk H1 locs1 (hs ▸ h))
theorem pf_X5_113 (C : kx D cs p m c cc nL s args RX5) (hW : wd D A M H0 H locs) {fs fs2 : List Value} (hM : M a = some (.inr (5, fs))) {v : Int32} (hl : 2 < fs.length) (hs : fs.set 2 (.int v) = fs2) (hdg : decode cc pc = .ok (.putfield 113, 3)) (kk : ∀ (H1 : Heap) (locs1 : List Loc), wd D A (va_up M a (some (.inr (5, fs2)))) H0 H1 locs1 → W p l e R s m args below meth c H1 locs1 cells slots Q (F0 m (pc + 3) ls rest)) : W p l e R s m args below meth c H locs cells slots Q (F0 m pc ls ((.int v) :: .ref a :: rest)) := w_put C hW hM rfl inX5 tyX5 tyX5_ok nmX5 2 (by decide) wm_121 rfl rfl rfl rfl hl hdg (fun H1 locs1 h => kk H1 locs1 (hs ▸ h))
theorem pf_X5_120 (C : kx D cs p m c cc nL s args RX5) (hW : wd D A M H0 H locs) {fs fs2 : List Value} (hM : M a = some (.inr (5, fs))) {v : Int32} (hl : 7 < fs.length) (hs : fs.set 7 (.int v) = fs2) (hdg : decode cc pc = .ok (.putfield 120, 3)) (kk : ∀ (H1 : Heap) (locs1 : List Loc), wd D A (va_up M a (some (.inr (5, fs2)))) H0 H1 locs1 → W p l e R s m args below meth c H1 locs1 cells slots Q (F0 m (pc + 3) ls rest)) : W p l e R s m args below meth c H locs cells slots Q (F0 m pc ls ((.int v) :: .ref a :: rest)) := w_put C hW hM rfl inX5 tyX5 tyX5_ok nmX5 7 (by decide) wm_160 rfl rfl rfl rfl hl hdg (fun H1 locs1 h => kk H1 locs1 (hs ▸ h))
theorem pf_X5_123 (C : kx D cs p m c cc nL s args RX5) (hW : wd D A M H0 H locs) {fs fs2 : List Value} (hM : M a = some (.inr (5, fs))) {v : Int32} (hl : 13 < fs.length) (hs : fs.set 13 (.int v) = fs2) (hdg : decode cc pc = .ok (.putfield 123, 3)) (kk : ∀ (H1 : Heap) (locs1 : List Loc), wd D A (va_up M a (some (.inr (5, fs2)))) H0 H1 locs1 → W p l e R s m args below meth c H1 locs1 cells slots Q (F0 m (pc + 3) ls rest)) : W p l e R s m args below meth c H locs cells slots Q (F0 m pc ls ((.int v) :: .ref a :: rest)) := w_put C hW hM rfl inX5 tyX5 tyX5_ok nmX5 13 (by decide) wm_172 rfl rfl rfl rfl hl hdg (fun H1 locs1 h => kk H1 locs1 (hs ▸ h))
theorem pf_X5_136 (C : kx D cs p m c cc nL s args RX5) (hW : wd D A M H0 H locs) {fs fs2 : List Value} (hM : M a = some (.inr (5, fs))) {v : Int32} (hl : 19 < fs.length) (hs : fs.set 19 (.int v) = fs2) (hdg : decode cc pc = .ok (.putfield 136, 3)) (kk : ∀ (H1 : Heap) (locs1 : List Loc), wd D A (va_up M a (some (.inr (5, fs2)))) H0 H1 locs1 → W p l e R s m args below meth c H1 locs1 cells slots Q (F0 m (pc + 3) ls rest)) : W p l e R s m args below meth c H locs cells slots Q (F0 m pc ls ((.int v) :: .ref a :: rest)) := w_put C hW hM rfl inX5 tyX5 tyX5_ok nmX5 19 (by decide) wm_330 rfl rfl rfl rfl hl hdg (fun H1 locs1 h => kk H1 locs1 (hs ▸ h))
end SITES
theorem st_L_9 : mGI RL 9 yX4_init cX4_init 1 0 := ⟨⟨⟨wm_6, wm_2, wm_8⟩, by decide +kernel⟩, rfl, wm_7⟩
theorem st_L_12 : mGI RL 12 yX5_init cX5_init 1 0 := ⟨⟨⟨wm_46, wm_5, wm_48⟩, by decide +kernel⟩, rfl, wm_47⟩
theorem st_L_13 : mGV RL 13 yX4_line cX4_line 2 (some .int) 1 := ⟨⟨⟨wm_83, wm_2, wm_86⟩, by decide +kernel⟩, wm_84, wm_85⟩
theorem st_L_17 : mGV RL 17 yX5_line cX5_line 2 (some .int) 1 := ⟨⟨⟨wm_90, wm_5, wm_93⟩, by decide +kernel⟩, wm_91, wm_92⟩
theorem st_L_18 : mGV RL 18 yX4_note cX4_note 5 (some .int) 4 := ⟨⟨⟨wm_98, wm_2, wm_101⟩, by decide +kernel⟩, wm_99, wm_100⟩
theorem st_L_22 : mGV RL 22 yX5_note cX5_note 5 (some .int) 4 := ⟨⟨⟨wm_117, wm_5, wm_120⟩, by decide +kernel⟩, wm_118, wm_119⟩
theorem st_L_23 : mGV RL 23 yX4_mark cX4_mark 6 (some .int) 5 := ⟨⟨⟨wm_126, wm_2, wm_129⟩, by decide +kernel⟩, wm_127, wm_128⟩
theorem st_L_27 : mGV RL 27 yX5_mark cX5_mark 6 (some .int) 5 := ⟨⟨⟨wm_156, wm_5, wm_159⟩, by decide +kernel⟩, wm_157, wm_158⟩
theorem st_L_28 : mGV RL 28 yX4_wedge cX4_wedge 6 (some .int) 5 := ⟨⟨⟨wm_161, wm_2, wm_164⟩, by decide +kernel⟩, wm_162, wm_163⟩
theorem st_L_31 : mGV RL 31 yX5_wedge cX5_wedge 6 (some .int) 5 := ⟨⟨⟨wm_168, wm_5, wm_171⟩, by decide +kernel⟩, wm_169, wm_170⟩
theorem st_L_32 : mGV RL 32 yX4_tie cX4_tie 3 (some .int) 2 := ⟨⟨⟨wm_173, wm_2, wm_176⟩, by decide +kernel⟩, wm_174, wm_175⟩
theorem st_L_36 : mGV RL 36 yX5_tie cX5_tie 3 (some .int) 2 := ⟨⟨⟨wm_322, wm_5, wm_325⟩, by decide +kernel⟩, wm_323, wm_324⟩
theorem st_L_37 : mGV RL 37 yX4_slur cX4_slur 3 (some .int) 2 := ⟨⟨⟨wm_427, wm_2, wm_430⟩, by decide +kernel⟩, wm_428, wm_429⟩
theorem st_L_40 : mGV RL 40 yX5_slur cX5_slur 3 (some .int) 2 := ⟨⟨⟨wm_431, wm_5, wm_434⟩, by decide +kernel⟩, wm_432, wm_433⟩
theorem st_L_41 : mGV RL 41 yX4_again cX4_again 4 (some .int) 0 := ⟨⟨⟨wm_435, wm_2, wm_438⟩, by decide +kernel⟩, wm_436, wm_437⟩
theorem st_L_45 : mGV RL 45 yX5_again cX5_again 5 (some .int) 0 := ⟨⟨⟨wm_439, wm_5, wm_442⟩, by decide +kernel⟩, wm_440, wm_441⟩
theorem st_L_46 : mGV RL 46 yX4_curve cX4_curve 4 (some .int) 2 := ⟨⟨⟨wm_443, wm_2, wm_446⟩, by decide +kernel⟩, wm_444, wm_445⟩
theorem st_L_49 : mGV RL 49 yX5_curve cX5_curve 3 (some .int) 2 := ⟨⟨⟨wm_454, wm_5, wm_457⟩, by decide +kernel⟩, wm_455, wm_456⟩
theorem st_L_50 : mGV RL 50 yX4_part cX4_part 5 (some .int) 3 := ⟨⟨⟨wm_462, wm_2, wm_465⟩, by decide +kernel⟩, wm_463, wm_464⟩
theorem st_L_54 : mGV RL 54 yX5_part cX5_part 5 (some .int) 3 := ⟨⟨⟨wm_472, wm_5, wm_475⟩, by decide +kernel⟩, wm_473, wm_474⟩
theorem st_L_55 : mGV RL 55 yX4_point cX4_point 6 (some .int) 4 := ⟨⟨⟨wm_480, wm_2, wm_483⟩, by decide +kernel⟩, wm_481, wm_482⟩
theorem st_L_59 : mGV RL 59 yX5_point cX5_point 6 (some .int) 4 := ⟨⟨⟨wm_488, wm_5, wm_491⟩, by decide +kernel⟩, wm_489, wm_490⟩
theorem st_L_60 : mGV RL 60 yX4_candidate cX4_candidate 6 (some .int) 4 := ⟨⟨⟨wm_492, wm_2, wm_495⟩, by decide +kernel⟩, wm_493, wm_494⟩
theorem st_L_63 : mGV RL 63 yX5_candidate cX5_candidate 6 (some .int) 4 := ⟨⟨⟨wm_496, wm_5, wm_499⟩, by decide +kernel⟩, wm_497, wm_498⟩
theorem st_L_64 : mGV RL 64 yX4_along cX4_along 11 (some .long) 4 := ⟨⟨⟨wm_500, wm_2, wm_503⟩, by decide +kernel⟩, wm_501, wm_502⟩
theorem st_L_68 : mGV RL 68 yX5_along cX5_along 13 (some .long) 4 := ⟨⟨⟨wm_508, wm_5, wm_511⟩, by decide +kernel⟩, wm_509, wm_510⟩
theorem st_L_69 : mGV RL 69 yX4_within cX4_within 7 (some .int) 4 := ⟨⟨⟨wm_515, wm_2, wm_518⟩, by decide +kernel⟩, wm_516, wm_517⟩
theorem st_L_72 : mGV RL 72 yX5_within cX5_within 5 (some .int) 4 := ⟨⟨⟨wm_519, wm_5, wm_522⟩, by decide +kernel⟩, wm_520, wm_521⟩
theorem st_L_73 : mGV RL 73 yX4_count cX4_count 2 (some .int) 1 := ⟨⟨⟨wm_523, wm_2, wm_526⟩, by decide +kernel⟩, wm_524, wm_525⟩
theorem st_L_76 : mGV RL 76 yX5_count cX5_count 4 (some .int) 1 := ⟨⟨⟨wm_531, wm_5, wm_534⟩, by decide +kernel⟩, wm_532, wm_533⟩
theorem st_L_77 : mGV RL 77 yX4_clear cX4_clear 2 (some .int) 0 := ⟨⟨⟨wm_535, wm_2, wm_538⟩, by decide +kernel⟩, wm_536, wm_537⟩
theorem st_L_80 : mGV RL 80 yX5_clear cX5_clear 2 (some .int) 0 := ⟨⟨⟨wm_539, wm_5, wm_542⟩, by decide +kernel⟩, wm_540, wm_541⟩
theorem st_X0_41 : mGV RX0 41 yX2_stemSide cX2_stemSide 1 (some .int) 0 := ⟨⟨⟨wm_244, wm_103, wm_210⟩, by decide +kernel⟩, wm_208, wm_209⟩
theorem st_X1_20 : mGI RX1 20 yX1_init cX1_init 3 2 := ⟨⟨⟨wm_29, wm_25, wm_31⟩, by decide +kernel⟩, rfl, wm_30⟩
theorem st_X1_23 : mGV RX1 23 yX1_setCorner cX1_setCorner 4 none 3 := ⟨⟨⟨wm_137, wm_25, wm_140⟩, by decide +kernel⟩, wm_138, wm_139⟩
theorem st_X1_27 : mGV RX1 27 yX1_setFrame cX1_setFrame 2 none 0 := ⟨⟨⟨wm_141, wm_25, wm_144⟩, by decide +kernel⟩, wm_142, wm_143⟩
theorem st_X1_51 : mGV RX1 51 yX1_hasEdgeBefore cX1_hasEdgeBefore 4 (some .boolean) 1 := ⟨⟨⟨wm_305, wm_25, wm_308⟩, by decide +kernel⟩, wm_306, wm_307⟩
theorem st_X1_55 : mGV RX1 55 yX1_separates cX1_separates 11 (some .boolean) 3 := ⟨⟨⟨wm_309, wm_25, wm_312⟩, by decide +kernel⟩, wm_310, wm_311⟩
theorem st_X3_41 : mGS RX3 41 yX1_hullOn cX1_hullOn 1 (some (.object "CurveTies$Figure")) 1 := ⟨⟨⟨wm_268, wm_25, wm_26⟩, by decide +kernel⟩, wm_24⟩
theorem st_X3_64 : mGV RX3 64 yX1_setCorner cX1_setCorner 4 none 3 := ⟨⟨⟨wm_295, wm_25, wm_140⟩, by decide +kernel⟩, wm_138, wm_139⟩
theorem st_X3_68 : mGV RX3 68 yX1_setFrame cX1_setFrame 2 none 0 := ⟨⟨⟨wm_296, wm_25, wm_144⟩, by decide +kernel⟩, wm_142, wm_143⟩
theorem st_X4_37 : mGS RX4 37 yX1_hullOn cX1_hullOn 1 (some (.object "CurveTies$Figure")) 1 := ⟨⟨⟨wm_23, wm_25, wm_26⟩, by decide +kernel⟩, wm_24⟩
theorem st_X4_45 : mGV RX4 45 yX4_forgetAll cX4_forgetAll 1 none 0 := ⟨⟨⟨wm_36, wm_2, wm_39⟩, by decide +kernel⟩, wm_37, wm_38⟩
theorem st_X4_48 : mGS RX4 48 yX4_isFrom cX4_isFrom 3 (some .boolean) 3 := ⟨⟨⟨wm_87, wm_2, wm_89⟩, by decide +kernel⟩, wm_88⟩
theorem st_X4_56 : mGV RX4 56 yX4_isLine cX4_isLine 2 (some .boolean) 1 := ⟨⟨⟨wm_104, wm_2, wm_107⟩, by decide +kernel⟩, wm_105, wm_106⟩
theorem st_X4_63 : mGI RX4 63 yX2_init cX2_init 6 5 := ⟨⟨⟨wm_108, wm_103, wm_110⟩, by decide +kernel⟩, rfl, wm_109⟩
theorem st_X4_66 : mGV RX4 66 yX4_isBarPlace cX4_isBarPlace 4 (some .boolean) 3 := ⟨⟨⟨wm_130, wm_2, wm_133⟩, by decide +kernel⟩, wm_131, wm_132⟩
theorem st_X4_75 : mGS RX4 75 yX1_rectangle cX1_rectangle 6 (some (.object "CurveTies$Figure")) 5 := ⟨⟨⟨wm_134, wm_25, wm_136⟩, by decide +kernel⟩, wm_135⟩
theorem st_X4_79 : mGS RX4 79 yX1_triangle cX1_triangle 6 (some (.object "CurveTies$Figure")) 5 := ⟨⟨⟨wm_165, wm_25, wm_167⟩, by decide +kernel⟩, wm_166⟩
theorem st_X4_82 : mGV RX4 82 yX4_addCurve cX4_addCurve 9 (some .int) 3 := ⟨⟨⟨wm_177, wm_2, wm_180⟩, by decide +kernel⟩, wm_178, wm_179⟩
theorem st_X4_92 : mGV RX4 92 yX4_choose cX4_choose 4 none 1 := ⟨⟨⟨wm_273, wm_2, wm_276⟩, by decide +kernel⟩, wm_274, wm_275⟩
theorem st_X4_96 : mGV RX4 96 yX4_isCurve cX4_isCurve 2 (some .boolean) 1 := ⟨⟨⟨wm_450, wm_2, wm_453⟩, by decide +kernel⟩, wm_451, wm_452⟩
theorem st_X4_112 : mGV RX4 112 yX0_partCount cX0_partCount 1 (some .int) 0 := ⟨⟨⟨wm_249, wm_183, wm_252⟩, by decide +kernel⟩, wm_250, wm_251⟩
theorem st_X4_119 : mGV RX4 119 yX4_findPart cX4_findPart 3 (some (.object "CurveTies$Part")) 2 := ⟨⟨⟨wm_468, wm_2, wm_471⟩, by decide +kernel⟩, wm_469, wm_470⟩
theorem st_X4_126 : mGV RX4 126 yX3_badness cX3_badness 4 (some .int) 1 := ⟨⟨⟨wm_285, wm_233, wm_288⟩, by decide +kernel⟩, wm_286, wm_287⟩
theorem st_X4_136 : mGV RX4 136 yX3_candidateCount cX3_candidateCount 1 (some .int) 0 := ⟨⟨⟨wm_280, wm_233, wm_283⟩, by decide +kernel⟩, wm_281, wm_282⟩
theorem st_X4_142 : mGV RX4 142 yX1_row cX1_row 2 (some (.array .int)) 1 := ⟨⟨⟨wm_484, wm_25, wm_487⟩, by decide +kernel⟩, wm_485, wm_486⟩
theorem st_X4_146 : mGV RX4 146 yX3_draw cX3_draw 8 none 2 := ⟨⟨⟨wm_289, wm_233, wm_292⟩, by decide +kernel⟩, wm_290, wm_291⟩
theorem st_X4_150 : mGV RX4 150 yX4_barsMet cX4_barsMet 4 (some .int) 1 := ⟨⟨⟨wm_297, wm_2, wm_300⟩, by decide +kernel⟩, wm_298, wm_299⟩
theorem st_X4_153 : mGV RX4 153 yX4_hullsMet cX4_hullsMet 5 (some .int) 2 := ⟨⟨⟨wm_313, wm_2, wm_316⟩, by decide +kernel⟩, wm_314, wm_315⟩
theorem st_X4_165 : mGV RX4 165 yX3_liesWithin cX3_liesWithin 2 (some .boolean) 1 := ⟨⟨⟨wm_317, wm_233, wm_320⟩, by decide +kernel⟩, wm_318, wm_319⟩
theorem st_X4_172 : mGV RX4 172 yX4_collidingParts cX4_collidingParts 3 (some .int) 0 := ⟨⟨⟨wm_527, wm_2, wm_530⟩, by decide +kernel⟩, wm_528, wm_529⟩
theorem st_X4_178 : mGV RX4 178 yX4_isNote cX4_isNote 2 (some .boolean) 1 := ⟨⟨⟨wm_185, wm_2, wm_188⟩, by decide +kernel⟩, wm_186, wm_187⟩
theorem st_X4_181 : mGV RX4 181 yX4_canBeJoined cX4_canBeJoined 3 (some .boolean) 2 := ⟨⟨⟨wm_189, wm_2, wm_192⟩, by decide +kernel⟩, wm_190, wm_191⟩
theorem st_X4_188 : mGV RX4 188 yX4_tieSide cX4_tieSide 5 (some .int) 1 := ⟨⟨⟨wm_199, wm_2, wm_202⟩, by decide +kernel⟩, wm_200, wm_201⟩
theorem st_X4_192 : mGV RX4 192 yX4_slurSide cX4_slurSide 5 (some .int) 2 := ⟨⟨⟨wm_211, wm_2, wm_214⟩, by decide +kernel⟩, wm_212, wm_213⟩
theorem st_X4_196 : mGI RX4 196 yX0_init cX0_init 7 6 := ⟨⟨⟨wm_216, wm_183, wm_218⟩, by decide +kernel⟩, rfl, wm_217⟩
theorem st_X4_199 : mGV RX4 199 yX4_addParts cX4_addParts 6 none 1 := ⟨⟨⟨wm_226, wm_2, wm_229⟩, by decide +kernel⟩, wm_227, wm_228⟩
theorem st_X4_203 : mGV RX4 203 yX2_isBefore cX2_isBefore 2 (some .boolean) 1 := ⟨⟨⟨wm_195, wm_103, wm_198⟩, by decide +kernel⟩, wm_196, wm_197⟩
theorem st_X4_211 : mGV RX4 211 yX2_isInChordOf cX2_isInChordOf 2 (some .boolean) 1 := ⟨⟨⟨wm_203, wm_103, wm_206⟩, by decide +kernel⟩, wm_204, wm_205⟩
theorem st_X4_214 : mGV RX4 214 yX2_stemSide cX2_stemSide 1 (some .int) 0 := ⟨⟨⟨wm_207, wm_103, wm_210⟩, by decide +kernel⟩, wm_208, wm_209⟩
theorem st_X4_220 : mGV RX4 220 yX0_firstX cX0_firstX 1 (some .int) 0 := ⟨⟨⟨wm_234, wm_183, wm_237⟩, by decide +kernel⟩, wm_235, wm_236⟩
theorem st_X4_223 : mGV RX4 223 yX0_endHeight cX0_endHeight 3 (some .int) 1 := ⟨⟨⟨wm_239, wm_183, wm_242⟩, by decide +kernel⟩, wm_240, wm_241⟩
theorem st_X4_226 : mGV RX4 226 yX0_secondX cX0_secondX 1 (some .int) 0 := ⟨⟨⟨wm_245, wm_183, wm_248⟩, by decide +kernel⟩, wm_246, wm_247⟩
theorem st_X4_229 : mGI RX4 229 yX3_init cX3_init 7 6 := ⟨⟨⟨wm_254, wm_233, wm_256⟩, by decide +kernel⟩, rfl, wm_255⟩
theorem st_X4_232 : mGV RX4 232 yX4_addPart cX4_addPart 2 none 1 := ⟨⟨⟨wm_269, wm_2, wm_272⟩, by decide +kernel⟩, wm_270, wm_271⟩
theorem st_X4_235 : mGV RX4 235 yX1_meets cX1_meets 2 (some .boolean) 1 := ⟨⟨⟨wm_301, wm_25, wm_304⟩, by decide +kernel⟩, wm_302, wm_303⟩
theorem st_X5_109 : mGS RX5 109 yX5_in cX5_in 3 (some .boolean) 3 := ⟨⟨⟨wm_95, wm_5, wm_97⟩, by decide +kernel⟩, wm_96⟩
theorem st_X5_116 : mGV RX5 116 yX5_isLine cX5_isLine 2 (some .boolean) 1 := ⟨⟨⟨wm_122, wm_5, wm_125⟩, by decide +kernel⟩, wm_123, wm_124⟩
theorem st_X5_126 : mGV RX5 126 yX5_isBefore cX5_isBefore 3 (some .boolean) 2 := ⟨⟨⟨wm_339, wm_5, wm_342⟩, by decide +kernel⟩, wm_340, wm_341⟩
theorem st_X5_130 : mGV RX5 130 yX5_isNote cX5_isNote 2 (some .boolean) 1 := ⟨⟨⟨wm_331, wm_5, wm_334⟩, by decide +kernel⟩, wm_332, wm_333⟩
theorem st_X5_133 : mGV RX5 133 yX5_mayBe cX5_mayBe 3 (some .boolean) 2 := ⟨⟨⟨wm_335, wm_5, wm_338⟩, by decide +kernel⟩, wm_336, wm_337⟩
theorem st_X5_139 : mGV RX5 139 yX5_layOut cX5_layOut 8 none 1 := ⟨⟨⟨wm_343, wm_5, wm_346⟩, by decide +kernel⟩, wm_344, wm_345⟩
theorem st_X5_143 : mGV RX5 143 yX5_choose cX5_choose 7 none 2 := ⟨⟨⟨wm_363, wm_5, wm_366⟩, by decide +kernel⟩, wm_364, wm_365⟩
theorem st_X5_147 : mGV RX5 147 yX5_comes cX5_comes 6 (some .int) 3 := ⟨⟨⟨wm_326, wm_5, wm_329⟩, by decide +kernel⟩, wm_327, wm_328⟩
theorem st_X5_151 : mGV RX5 151 yX5_sideOfTie cX5_sideOfTie 5 (some .int) 1 := ⟨⟨⟨wm_347, wm_5, wm_350⟩, by decide +kernel⟩, wm_348, wm_349⟩
theorem st_X5_155 : mGV RX5 155 yX5_sideOfSlur cX5_sideOfSlur 6 (some .int) 2 := ⟨⟨⟨wm_351, wm_5, wm_354⟩, by decide +kernel⟩, wm_352, wm_353⟩
theorem st_X5_159 : mGV RX5 159 yX5_endOf cX5_endOf 3 (some .int) 2 := ⟨⟨⟨wm_355, wm_5, wm_358⟩, by decide +kernel⟩, wm_356, wm_357⟩
theorem st_X5_162 : mGV RX5 162 yX5_lay cX5_lay 7 none 6 := ⟨⟨⟨wm_359, wm_5, wm_362⟩, by decide +kernel⟩, wm_360, wm_361⟩
theorem st_X5_166 : mGV RX5 166 yX5_arch cX5_arch 3 (some .int) 1 := ⟨⟨⟨wm_390, wm_5, wm_393⟩, by decide +kernel⟩, wm_391, wm_392⟩
theorem st_X5_171 : mGS RX5 171 yX5_between cX5_between 6 (some .boolean) 3 := ⟨⟨⟨wm_416, wm_5, wm_418⟩, by decide +kernel⟩, wm_417⟩
theorem st_X5_175 : mGS RX5 175 yX5_turn cX5_turn 14 (some .long) 6 := ⟨⟨⟨wm_405, wm_5, wm_407⟩, by decide +kernel⟩, wm_406⟩
theorem st_X5_179 : mGS RX5 179 yX5_isOn cX5_isOn 12 (some .boolean) 6 := ⟨⟨⟨wm_413, wm_5, wm_415⟩, by decide +kernel⟩, wm_414⟩
theorem st_X5_183 : mGS RX5 183 yX5_isWithin cX5_isWithin 18 (some .boolean) 4 := ⟨⟨⟨wm_402, wm_5, wm_404⟩, by decide +kernel⟩, wm_403⟩
theorem st_X5_187 : mGV RX5 187 yX5_cross cX5_cross 13 (some .boolean) 4 := ⟨⟨⟨wm_409, wm_5, wm_412⟩, by decide +kernel⟩, wm_410, wm_411⟩
theorem st_X5_191 : mGV RX5 191 yX5_px cX5_px 4 (some .int) 2 := ⟨⟨⟨wm_382, wm_5, wm_385⟩, by decide +kernel⟩, wm_383, wm_384⟩
theorem st_X5_194 : mGV RX5 194 yX5_py cX5_py 9 (some .int) 3 := ⟨⟨⟨wm_386, wm_5, wm_389⟩, by decide +kernel⟩, wm_387, wm_388⟩
theorem st_X5_198 : mGV RX5 198 yX5_ask cX5_ask 4 none 2 := ⟨⟨⟨wm_378, wm_5, wm_381⟩, by decide +kernel⟩, wm_379, wm_380⟩
theorem st_X5_201 : mGV RX5 201 yX5_other cX5_other 6 none 3 := ⟨⟨⟨wm_394, wm_5, wm_397⟩, by decide +kernel⟩, wm_395, wm_396⟩
theorem st_X5_205 : mGV RX5 205 yX5_meets cX5_meets 6 (some .boolean) 0 := ⟨⟨⟨wm_398, wm_5, wm_401⟩, by decide +kernel⟩, wm_399, wm_400⟩
theorem st_X5_209 : mGV RX5 209 yX5_isIn cX5_isIn 3 (some .boolean) 2 := ⟨⟨⟨wm_423, wm_5, wm_426⟩, by decide +kernel⟩, wm_424, wm_425⟩
theorem st_X5_212 : mGV RX5 212 yX5_candidates cX5_candidates 2 (some .int) 1 := ⟨⟨⟨wm_367, wm_5, wm_370⟩, by decide +kernel⟩, wm_368, wm_369⟩
theorem st_X5_215 : mGS RX5 215 yX5_badnessOf cX5_badnessOf 3 (some .int) 1 := ⟨⟨⟨wm_371, wm_5, wm_373⟩, by decide +kernel⟩, wm_372⟩
theorem st_X5_218 : mGV RX5 218 yX5_bars cX5_bars 5 (some .int) 2 := ⟨⟨⟨wm_374, wm_5, wm_377⟩, by decide +kernel⟩, wm_375, wm_376⟩
theorem st_X5_221 : mGV RX5 221 yX5_hulls cX5_hulls 6 (some .int) 2 := ⟨⟨⟨wm_419, wm_5, wm_422⟩, by decide +kernel⟩, wm_420, wm_421⟩
theorem st_X5_224 : mGV RX5 224 yX5_isCurve cX5_isCurve 2 (some .boolean) 1 := ⟨⟨⟨wm_458, wm_5, wm_461⟩, by decide +kernel⟩, wm_459, wm_460⟩
theorem st_X5_227 : mGV RX5 227 yX5_isPart cX5_isPart 3 (some .boolean) 2 := ⟨⟨⟨wm_476, wm_5, wm_479⟩, by decide +kernel⟩, wm_477, wm_478⟩
end
section
/-- a boolean as the machine holds it -/
def bI (P : Prop) [Decidable P] : Int32 := if P then 1 else 0
theorem bI_t {P : Prop} [Decidable P] (h : P) : (1 : Int32) = bI P := by simp [bI, h]
theorem bI_f {P : Prop} [Decidable P] (h : ¬ P) : (0 : Int32) = bI P := by simp [bI, h]
theorem bz0 {P : Prop} [Decidable P] {r : Int32} (h : r = bI P) (c : r = 0) : ¬ P := fun q => by
  rw [h] at c
  simp [bI, q] at c
theorem bz1 {P : Prop} [Decidable P] {r : Int32} (h : r = bI P) (c : ¬ r = 0) : P := by
  by_cases q : P
  · exact q
  · exact absurd (by rw [h]; simp [bI, q]) c
theorem bI_01 {P : Prop} [Decidable P] {r : Int32} (h : r = bI P) : r = 0 ∨ r = 1 := by
  by_cases q : P <;> simp [h, bI, q]
theorem z_nar {v : Int32} (h : v = 0 ∨ v = 1) : narrow .boolean (.int v) = .int v := by rcases h with rfl | rfl <;> rfl
theorem z_vp {v : Int32} (h : v = 0 ∨ v = 1) : vp_nar .boolean v = v := by rcases h with rfl | rfl <;> rfl
theorem tn_add {x y : Int32} {a b : Nat} (h : x = nI a) (k : y = nI b) : x + y = nI (a + b) := by rw [h, k, nI_add]
theorem tn_mul {x y : Int32} {a b : Nat} (h : x = nI a) (k : y = nI b) : x * y = nI (a * b) := by rw [h, k, pk_mul]
theorem tn_sub {x y : Int32} {a b : Nat} (h : x = nI a) (k : y = nI b) (q : b ≤ a) : x - y = nI (a - b) := by rw [h, k, pk_sub q]
theorem tn_div {x y : Int32} {a b : Nat} (h : x = nI a) (k : y = nI b) (ha : a < 2147483648) (hb : 0 < b) (hb2 : b < 2147483648) : x / y = nI (a / b) := by rw [h, k, pk_div ha hb hb2]
theorem tn_rem {x y : Int32} {a b : Nat} (h : x = nI a) (k : y = nI b) (ha : a < 2147483648) (hb : 0 < b) (hb2 : b < 2147483648) : x - x / y * y = nI (a % b) := by rw [h, k, pk_rem ha hb hb2]
theorem cle_t {a b : Nat} (c : nI a ≤ nI b) (ha : a < 2147483648) (hb : b < 2147483648) : a ≤ b := (nI_leI ha hb).mp c
theorem cle_f {a b : Nat} (c : ¬ nI a ≤ nI b) (ha : a < 2147483648) (hb : b < 2147483648) : b < a := Nat.not_le.mp fun h => c ((nI_leI ha hb).mpr h)
theorem clt_t {a b : Nat} (c : nI a < nI b) (ha : a < 2147483648) (hb : b < 2147483648) : a < b := (nI_ltI ha hb).mp c
theorem clt_f {a b : Nat} (c : ¬ nI a < nI b) (ha : a < 2147483648) (hb : b < 2147483648) : b ≤ a := Nat.not_lt.mp fun h => c ((nI_ltI ha hb).mpr h)
theorem ceq_t {a b : Nat} (c : nI a = nI b) (ha : a < 2147483648) (hb : b < 2147483648) : a = b := (nI_eq ha hb).mp c
theorem ceq_f {a b : Nat} (c : ¬ nI a = nI b) (ha : a < 2147483648) (hb : b < 2147483648) : ¬ a = b := fun h => c ((nI_eq ha hb).mpr h)
section MORE
variable {p : Program} {l : Launch} {e : Env} {R : Room} {s : State} {m : MethodId} {args : Array Value} {below : List Frame} {meth : Method} {c : Code} {H : Heap} {locs : List Loc} {cells slots : Nat} {Q : State → Prop}
variable {cc : ByteArray} {pc nL : Nat} {ls : Array Slot} {rest : List Value} {D : va_G} {cs : Nat → ClassId} {A : Nat → Prop} {a : Nat} {H0 : Heap} {M : wM} {own : String}
theorem top_eq {x y : Int32} (h : x = y) (kk : W p l e R s m args below meth c H locs cells slots Q (F0 m pc ls (.int y :: rest))) : W p l e R s m args below meth c H locs cells slots Q (F0 m pc ls (.int x :: rest)) := h ▸ kk
theorem top_eqL {x y : Int64} (h : x = y) (kk : W p l e R s m args below meth c H locs cells slots Q (F0 m pc ls (.long y :: rest))) : W p l e R s m args below meth c H locs cells slots Q (F0 m pc ls (.long x :: rest)) := h ▸ kk
theorem top_rf {o : Option Nat} {b : Nat} (h : o = some b) (kk : W p l e R s m args below meth c H locs cells slots Q (F0 m pc ls (.ref b :: rest))) : W p l e R s m args below meth c H locs cells slots Q (F0 m pc ls (va_rf o :: rest)) := by
  subst h
  exact kk
theorem r_ialdN (C : kx D cs p m c cc nL s args own) (hR : rd D M H) {n : Nat} {f : Nat → Int32} (hM : M a = some (.inl (cs 0, n, .inl f))) {k : Nat} (hk : k < n) (hn : n < 2147483648) {i : Int32} (hi : i = nI k) (hdg : decode cc pc = .ok (.iaload, 1)) (kk : W p l e R s m args below meth c H locs cells slots Q (F0 m (pc + 1) ls (.int (f k) :: rest))) : W p l e R s m args below meth c H locs cells slots Q (F0 m pc ls (.int i :: .ref a :: rest)) := by
  subst hi
  refine r_iald C hR hM (vp_in_nI hk hn) hdg ?_
  rw [nI_clamp (by omega)]
  exact kk
theorem r_laldN (C : kx D cs p m c cc nL s args own) (hR : rd D M H) {n : Nat} {f : Nat → Int64} (hM : M a = some (.inl (cs 1, n, .inr (.inl f)))) {k : Nat} (hk : k < n) (hn : n < 2147483648) {i : Int32} (hi : i = nI k) (hdg : decode cc pc = .ok (.laload, 1)) (kk : W p l e R s m args below meth c H locs cells slots Q (F0 m (pc + 1) ls (.long (f k) :: rest))) : W p l e R s m args below meth c H locs cells slots Q (F0 m pc ls (.int i :: .ref a :: rest)) := by
  subst hi
  refine r_lald C hR hM (vp_in_nI hk hn) hdg ?_
  rw [nI_clamp (by omega)]
  exact kk
theorem r_zaldN (C : kx D cs p m c cc nL s args own) (hR : rd D M H) {n : Nat} {f : Nat → Int32} (hM : M a = some (.inl (cs 2, n, .inl f))) {k : Nat} (hk : k < n) (hn : n < 2147483648) {i : Int32} (hi : i = nI k) (hdg : decode cc pc = .ok (.baload, 1)) (kk : W p l e R s m args below meth c H locs cells slots Q (F0 m (pc + 1) ls (.int (f k) :: rest))) : W p l e R s m args below meth c H locs cells slots Q (F0 m pc ls (.int i :: .ref a :: rest)) := by
  subst hi
  refine r_zald C hR hM (vp_in_nI hk hn) hdg ?_
  rw [nI_clamp (by omega)]
  exact kk
theorem r_aaldN (C : kx D cs p m c cc nL s args own) (hR : rd D M H) (t0 : Nat) {cA : ClassId} {Cn : String} {n : Nat} {f : Nat → Option Nat} (hM : M a = some (.inl (cA, n, .inr (.inr (.inr (.inr f)))))) (ht : (tyl cs)[t0]? = some (cA, .object Cn)) {k b : Nat} (hk : k < n) (hn : n < 2147483648) {i : Int32} (hi : i = nI k) (hfb : f k = some b) (hdg : decode cc pc = .ok (.aaload, 1)) (kk : W p l e R s m args below meth c H locs cells slots Q (F0 m (pc + 1) ls (.ref b :: rest))) : W p l e R s m args below meth c H locs cells slots Q (F0 m pc ls (.int i :: .ref a :: rest)) := by
  subst hi
  refine r_aald C hR t0 hM ht (vp_in_nI hk hn) hdg ?_
  rw [nI_clamp (by omega)]
  exact top_rf hfb kk
theorem w_iastN (C : kx D cs p m c cc nL s args own) (hW : wd D A M H0 H locs) {n : Nat} {f : Nat → Int32} (hM : M a = some (.inl (cs 0, n, .inl f))) {k : Nat} (hk : k < n) (hn : n < 2147483648) {i x : Int32} (hi : i = nI k) (hdg : decode cc pc = .ok (.iastore, 1)) (kk : ∀ (H1 : Heap) (locs1 : List Loc), wd D A (va_up M a (some (.inl (cs 0, n, .inl (upd f k x))))) H0 H1 locs1 → W p l e R s m args below meth c H1 locs1 cells slots Q (F0 m (pc + 1) ls rest)) : W p l e R s m args below meth c H locs cells slots Q (F0 m pc ls (.int x :: .int i :: .ref a :: rest)) := by
  subst hi
  refine w_iast C hW hM (vp_in_nI hk hn) hdg ?_
  rw [nI_clamp (by omega)]
  exact kk
theorem w_lastN (C : kx D cs p m c cc nL s args own) (hW : wd D A M H0 H locs) {n : Nat} {f : Nat → Int64} (hM : M a = some (.inl (cs 1, n, .inr (.inl f)))) {k : Nat} (hk : k < n) (hn : n < 2147483648) {i : Int32} {x : Int64} (hi : i = nI k) (hdg : decode cc pc = .ok (.lastore, 1)) (kk : ∀ (H1 : Heap) (locs1 : List Loc), wd D A (va_up M a (some (.inl (cs 1, n, .inr (.inl (vp_updL f k x)))))) H0 H1 locs1 → W p l e R s m args below meth c H1 locs1 cells slots Q (F0 m (pc + 1) ls rest)) : W p l e R s m args below meth c H locs cells slots Q (F0 m pc ls (.long x :: .int i :: .ref a :: rest)) := by
  subst hi
  refine w_last C hW hM (vp_in_nI hk hn) hdg ?_
  rw [nI_clamp (by omega)]
  exact kk
theorem w_zastN (C : kx D cs p m c cc nL s args own) (hW : wd D A M H0 H locs) {n : Nat} {f : Nat → Int32} (hM : M a = some (.inl (cs 2, n, .inl f))) {k : Nat} (hk : k < n) (hn : n < 2147483648) {i x : Int32} (hz : x = 0 ∨ x = 1) (hi : i = nI k) (hdg : decode cc pc = .ok (.bastore, 1)) (kk : ∀ (H1 : Heap) (locs1 : List Loc), wd D A (va_up M a (some (.inl (cs 2, n, .inl (upd f k x))))) H0 H1 locs1 → W p l e R s m args below meth c H1 locs1 cells slots Q (F0 m (pc + 1) ls rest)) : W p l e R s m args below meth c H locs cells slots Q (F0 m pc ls (.int x :: .int i :: .ref a :: rest)) := by
  subst hi
  refine w_zast C hW hM (z_vp hz) (vp_in_nI hk hn) hdg ?_
  rw [nI_clamp (by omega)]
  exact kk
theorem w_aastN (C : kx D cs p m c cc nL s args own) (hW : wd D A M H0 H locs) (t0 ci : Nat) {cA : ClassId} {r : vw_C} {n v : Nat} {vs : List Value} {f : Nat → Option Nat} (hM : M a = some (.inl (cA, n, .inr (.inr (.inr (.inr f)))))) (ht : (tyl cs)[t0]? = some (cA, .object r.1)) (hv : M v = some (.inr (ci, vs))) (hc : vwCl[ci]? = some r) {k : Nat} (hk : k < n) (hn : n < 2147483648) {i : Int32} (hi : i = nI k) (hdg : decode cc pc = .ok (.aastore, 1)) (kk : ∀ (H1 : Heap) (locs1 : List Loc), wd D A (va_up M a (some (.inl (cA, n, .inr (.inr (.inr (.inr (va_up f k (some v))))))))) H0 H1 locs1 → W p l e R s m args below meth c H1 locs1 cells slots Q (F0 m (pc + 1) ls rest)) : W p l e R s m args below meth c H locs cells slots Q (F0 m pc ls (.ref v :: .int i :: .ref a :: rest)) := by
  subst hi
  refine w_aast C hW t0 ci hM ht hv hc (vp_in_nI hk hn) hdg ?_
  rw [nI_clamp (by omega)]
  exact kk
/-- a switch by numbers 0 to n -/
theorem sw_in (C : kx D cs p m c cc nL s args own) {dflt hi : Int} {offs : Array Int} {len : Nat} {x : Int32} {off : Int} {tgt : Nat} (k : Nat) (hx : x = nI k) (hk : k < 2147483648) (hkh : (k : Int) ≤ hi) (hdg : decode cc pc = .ok (.tableswitch dflt 0 hi offs, len)) (ho : offs[k]? = some off) (ht : (pc : Int) + off = (tgt : Int)) (kk : W p l e R s m args below meth c H locs cells slots Q (F0 m tgt ls rest)) : W p l e R s m args below meth c H locs cells slots Q (F0 m pc ls (.int x :: rest)) := by
  subst hx
  have e1 := nI_toInt hk
  refine lv_tableIn C.1.1 C.1.2.1 hdg (by omega) (by omega) ?_ ht kk
  rw [e1, Int.sub_zero, Int.toNat_natCast]
  exact ho
theorem sw_out (C : kx D cs p m c cc nL s args own) {dflt hi : Int} {offs : Array Int} {len : Nat} {x : Int32} {tgt : Nat} (hx : x.toInt < 0 ∨ hi < x.toInt) (hdg : decode cc pc = .ok (.tableswitch dflt 0 hi offs, len)) (ht : (pc : Int) + dflt = (tgt : Int)) (kk : W p l e R s m args below meth c H locs cells slots Q (F0 m tgt ls rest)) : W p l e R s m args below meth c H locs cells slots Q (F0 m pc ls (.int x :: rest)) :=
  lv_tableOut C.1.1 C.1.2.1 hdg hx ht kk
end MORE
/-- a number is one of 0 to n - 1, or it is outside -/
theorem sw_cases (x : Int32) (n : Nat) : (x.toInt < 0 ∨ (n : Int) < x.toInt) ∨ ∃ k, k ≤ n ∧ x = nI k := by
  by_cases h : x.toInt < 0 ∨ (n : Int) < x.toInt
  · exact Or.inl h
  · refine Or.inr ⟨x.toInt.toNat, by omega, ?_⟩
    have h1 : ¬ x < 0 := fun q => h (Or.inl (by simpa [Int32.lt_iff_toInt_lt] using q))
    obtain ⟨j, hj, e⟩ := nI_of h1
    subst e
    rw [nI_toInt hj, Int.toNat_natCast]
section CUTS
variable {p : Program} {l : Launch} {e : Env} {R : Room} {s : State} {m : MethodId} {args : Array Value} {below : List Frame} {meth : Method} {c : Code} {H : Heap} {locs : List Loc} {cells slots : Nat} {Q : State → Prop}
/-- where two ways come together with a number on the stack -/
theorem W.cut {g : JFrame} (P : Int32 → Prop) (g2 : Int32 → JFrame) (h2 : ∀ z, P z → W p l e R s m args below meth c H locs cells slots Q (g2 z)) (h1 : (∀ z, P z → W p l e R s m args below meth c H locs cells slots Q (g2 z)) → W p l e R s m args below meth c H locs cells slots Q g) : W p l e R s m args below meth c H locs cells slots Q g := h1 h2
theorem W.cutL {g : JFrame} (P : Int64 → Prop) (g2 : Int64 → JFrame) (h2 : ∀ z, P z → W p l e R s m args below meth c H locs cells slots Q (g2 z)) (h1 : (∀ z, P z → W p l e R s m args below meth c H locs cells slots Q (g2 z)) → W p l e R s m args below meth c H locs cells slots Q g) : W p l e R s m args below meth c H locs cells slots Q g := h1 h2
/-- where ways come together, nothing on the stack -/
theorem W.cutP {g : JFrame} (P : Prop) (g2 : JFrame) (h2 : P → W p l e R s m args below meth c H locs cells slots Q g2) (h1 : (P → W p l e R s m args below meth c H locs cells slots Q g2) → W p l e R s m args below meth c H locs cells slots Q g) : W p l e R s m args below meth c H locs cells slots Q g := h1 h2
/-- a loop that writes nothing -/
theorem W.loop {σ : Type} {g0 : JFrame} (G : σ → JFrame) (I : σ → Prop) (μ : σ → Nat) (step : ∀ x, I x → (∀ y, I y → μ y < μ x → W p l e R s m args below meth c H locs cells slots Q (G y)) → W p l e R s m args below meth c H locs cells slots Q (G x)) (x0 : σ) (h0 : I x0) (hg : g0 = G x0) : W p l e R s m args below meth c H locs cells slots Q g0 := by
  have key : ∀ (n : Nat) (x : σ), μ x < n → I x → W p l e R s m args below meth c H locs cells slots Q (G x) := by
    intro n
    induction n with
    | zero => intro x h; exact absurd h (Nat.not_lt_zero _)
    | succ n ih => intro x hx hI; exact step x hI (fun y hy hlt => ih y (by omega) hy)
  rw [hg]
  exact key (μ x0 + 1) x0 (Nat.lt_succ_self _) h0
/-- a loop that writes -/
theorem W.loopW {σ : Type} {g0 : JFrame} {H0 : Heap} {locs0 : List Loc} (G : σ → JFrame) (Hf : σ → Heap) (Lf : σ → List Loc) (I : σ → Prop) (μ : σ → Nat) (step : ∀ x, I x → (∀ y, I y → μ y < μ x → W p l e R s m args below meth c (Hf y) (Lf y) cells slots Q (G y)) → W p l e R s m args below meth c (Hf x) (Lf x) cells slots Q (G x)) (x0 : σ) (h0 : I x0) (hg : g0 = G x0) (hh : H0 = Hf x0) (hlo : locs0 = Lf x0) : W p l e R s m args below meth c H0 locs0 cells slots Q g0 := by
  have key : ∀ (n : Nat) (x : σ), μ x < n → I x → W p l e R s m args below meth c (Hf x) (Lf x) cells slots Q (G x) := by
    intro n
    induction n with
    | zero => intro x h; exact absurd h (Nat.not_lt_zero _)
    | succ n ih => intro x hx hI; exact step x hI (fun y hy hlt => ih y (by omega) hy)
  rw [hg, hh, hlo]
  exact key (μ x0 + 1) x0 (Nat.lt_succ_self _) h0
end CUTS
end
section
/-- the reference's fields: numbers v, arrays at ad -/
def rFl (ad : Nat → Nat) (v : Nat → Int32) : List Value := [.int (v 0), .ref (ad 1), .int (v 2), .ref (ad 3), .ref (ad 4), .ref (ad 5), .ref (ad 6), .int (v 7), .ref (ad 8), .ref (ad 9), .ref (ad 10), .ref (ad 11), .ref (ad 12), .int (v 13), .ref (ad 14), .ref (ad 15), .ref (ad 16), .ref (ad 17), .ref (ad 18), .int (v 19), .ref (ad 20), .ref (ad 21), .ref (ad 22), .ref (ad 23), .ref (ad 24), .ref (ad 25), .ref (ad 26), .ref (ad 27), .ref (ad 28), .ref (ad 29), .ref (ad 30), .ref (ad 31), .ref (ad 32), .ref (ad 33), .ref (ad 34), .ref (ad 35)]
def rlen : Nat → Nat := fun k => match k with
  | 1 => 4
  | 3 => 60
  | 4 => 60
  | 5 => 60
  | 6 => 60
  | 8 => 40
  | 9 => 40
  | 10 => 40
  | 11 => 40
  | 12 => 40
  | 14 => 12
  | 15 => 12
  | 16 => 12
  | 17 => 12
  | 18 => 12
  | 20 => 40
  | 21 => 40
  | 22 => 40
  | 23 => 40
  | 24 => 40
  | 25 => 80
  | 26 => 80
  | 27 => 80
  | 28 => 80
  | 29 => 80
  | 30 => 80
  | 31 => 80
  | 32 => 4
  | 33 => 4
  | 34 => 4
  | 35 => 4
  | _ => 0
/-- what stands at a field: 0 ints, 1 longs, 2 booleans, 9 a number -/
def rK : Nat → Nat := fun k => match k with
  | 1 => 0
  | 3 => 0
  | 4 => 0
  | 5 => 0
  | 6 => 2
  | 8 => 0
  | 9 => 0
  | 10 => 0
  | 11 => 0
  | 12 => 0
  | 14 => 0
  | 15 => 0
  | 16 => 0
  | 17 => 0
  | 18 => 0
  | 20 => 0
  | 21 => 0
  | 22 => 2
  | 23 => 0
  | 24 => 0
  | 25 => 0
  | 26 => 0
  | 27 => 0
  | 28 => 0
  | 29 => 0
  | 30 => 0
  | 31 => 0
  | 32 => 1
  | 33 => 1
  | 34 => 1
  | 35 => 1
  | _ => 9
/-- the reference at X holds the numbers v, the rows F and G -/
def RS (cs : Nat → ClassId) (M : wM) (X : Nat) (ad : Nat → Nat) (v : Nat → Int32) (F : Nat → Nat → Int32) (G : Nat → Nat → Int64) : Prop :=
  M X = some (.inr (5, rFl ad v)) ∧ (∀ k, rK k = 0 → M (ad k) = some (.inl (cs 0, rlen k, .inl (F k)))) ∧ (∀ k, rK k = 2 → M (ad k) = some (.inl (cs 2, rlen k, .inl (F k)))) ∧ (∀ k, rK k = 1 → M (ad k) = some (.inl (cs 1, rlen k, .inr (.inl (G k))))) ∧ (∀ i j, ad i = ad j → rK i ≠ 9 → rK j ≠ 9 → i = j)
theorem RS.setI {cs : Nat → ClassId} {M : wM} {X : Nat} {ad : Nat → Nat} {v : Nat → Int32} {F : Nat → Nat → Int32} {G : Nat → Nat → Int64} (h : RS cs M X ad v F G) (k : Nat) (hk : rK k = 0) (i : Nat) (x : Int32) : RS cs (va_up M (ad k) (some (.inl (cs 0, rlen k, .inl (upd (F k) i x))))) X ad v (va_up F k (upd (F k) i x)) G := by
  obtain ⟨h1, h2, h3, h4, h5⟩ := h
  refine ⟨?_, fun j hj => ?_, fun j hj => ?_, fun j hj => ?_, h5⟩
  · rw [va_up_ne _ _ (fun q => by rw [q, h2 k hk] at h1; cases h1)]; exact h1
  · by_cases q : j = k
    · subst q; rw [va_up_self, va_up_self]
    · rw [va_up_ne _ _ (fun z => q (h5 _ _ z (by rw [hj]; decide) (by rw [hk]; decide))), va_up_ne _ _ q]; exact h2 j hj
  · have q : j ≠ k := fun z => by rw [z, hk] at hj; cases hj
    rw [va_up_ne _ _ (fun z => q (h5 _ _ z (by rw [hj]; decide) (by rw [hk]; decide))), va_up_ne _ _ q]; exact h3 j hj
  · have q : j ≠ k := fun z => by rw [z, hk] at hj; cases hj
    rw [va_up_ne _ _ (fun z => q (h5 _ _ z (by rw [hj]; decide) (by rw [hk]; decide)))]; exact h4 j hj
theorem RS.setZ {cs : Nat → ClassId} {M : wM} {X : Nat} {ad : Nat → Nat} {v : Nat → Int32} {F : Nat → Nat → Int32} {G : Nat → Nat → Int64} (h : RS cs M X ad v F G) (k : Nat) (hk : rK k = 2) (i : Nat) (x : Int32) : RS cs (va_up M (ad k) (some (.inl (cs 2, rlen k, .inl (upd (F k) i x))))) X ad v (va_up F k (upd (F k) i x)) G := by
  obtain ⟨h1, h2, h3, h4, h5⟩ := h
  refine ⟨?_, fun j hj => ?_, fun j hj => ?_, fun j hj => ?_, h5⟩
  · rw [va_up_ne _ _ (fun q => by rw [q, h3 k hk] at h1; cases h1)]; exact h1
  · have q : j ≠ k := fun z => by rw [z, hk] at hj; cases hj
    rw [va_up_ne _ _ (fun z => q (h5 _ _ z (by rw [hj]; decide) (by rw [hk]; decide))), va_up_ne _ _ q]; exact h2 j hj
  · by_cases q : j = k
    · subst q; rw [va_up_self, va_up_self]
    · rw [va_up_ne _ _ (fun z => q (h5 _ _ z (by rw [hj]; decide) (by rw [hk]; decide))), va_up_ne _ _ q]; exact h3 j hj
  · have q : j ≠ k := fun z => by rw [z, hk] at hj; cases hj
    rw [va_up_ne _ _ (fun z => q (h5 _ _ z (by rw [hj]; decide) (by rw [hk]; decide)))]; exact h4 j hj
theorem RS.setJ {cs : Nat → ClassId} {M : wM} {X : Nat} {ad : Nat → Nat} {v : Nat → Int32} {F : Nat → Nat → Int32} {G : Nat → Nat → Int64} (h : RS cs M X ad v F G) (k : Nat) (hk : rK k = 1) (i : Nat) (x : Int64) : RS cs (va_up M (ad k) (some (.inl (cs 1, rlen k, .inr (.inl (vp_updL (G k) i x)))))) X ad v F (va_up G k (vp_updL (G k) i x)) := by
  obtain ⟨h1, h2, h3, h4, h5⟩ := h
  refine ⟨?_, fun j hj => ?_, fun j hj => ?_, fun j hj => ?_, h5⟩
  · rw [va_up_ne _ _ (fun q => by rw [q, h4 k hk] at h1; cases h1)]; exact h1
  · have q : j ≠ k := fun z => by rw [z, hk] at hj; cases hj
    rw [va_up_ne _ _ (fun z => q (h5 _ _ z (by rw [hj]; decide) (by rw [hk]; decide)))]; exact h2 j hj
  · have q : j ≠ k := fun z => by rw [z, hk] at hj; cases hj
    rw [va_up_ne _ _ (fun z => q (h5 _ _ z (by rw [hj]; decide) (by rw [hk]; decide)))]; exact h3 j hj
  · by_cases q : j = k
    · subst q; rw [va_up_self, va_up_self]
    · rw [va_up_ne _ _ (fun z => q (h5 _ _ z (by rw [hj]; decide) (by rw [hk]; decide))), va_up_ne _ _ q]; exact h4 j hj
/-- a number is set -/
theorem RS.setV {cs : Nat → ClassId} {M : wM} {X : Nat} {ad : Nat → Nat} {v : Nat → Int32} {F : Nat → Nat → Int32} {G : Nat → Nat → Int64} (h : RS cs M X ad v F G) (k : Nat) (hk : rK k = 9) (x : Int32) : RS cs (va_up M X (some (.inr (5, rFl ad (va_up v k x))))) X ad (va_up v k x) F G := by
  obtain ⟨h1, h2, h3, h4, h5⟩ := h
  refine ⟨va_up_self _ _ _, fun j hj => ?_, fun j hj => ?_, fun j hj => ?_, h5⟩
  · rw [va_up_ne _ _ (fun q => by rw [← q, h2 j hj] at h1; cases h1)]; exact h2 j hj
  · rw [va_up_ne _ _ (fun q => by rw [← q, h3 j hj] at h1; cases h1)]; exact h3 j hj
  · rw [va_up_ne _ _ (fun q => by rw [← q, h4 j hj] at h1; cases h1)]; exact h4 j hj
theorem RS.i {cs : Nat → ClassId} {M : wM} {X : Nat} {ad : Nat → Nat} {v : Nat → Int32} {F : Nat → Nat → Int32} {G : Nat → Nat → Int64} (h : RS cs M X ad v F G) (k n : Nat) (hk : rK k = 0) (hn : rlen k = n) : M (ad k) = some (.inl (cs 0, n, .inl (F k))) := hn ▸ h.2.1 k hk
theorem RS.z {cs : Nat → ClassId} {M : wM} {X : Nat} {ad : Nat → Nat} {v : Nat → Int32} {F : Nat → Nat → Int32} {G : Nat → Nat → Int64} (h : RS cs M X ad v F G) (k n : Nat) (hk : rK k = 2) (hn : rlen k = n) : M (ad k) = some (.inl (cs 2, n, .inl (F k))) := hn ▸ h.2.2.1 k hk
theorem RS.j {cs : Nat → ClassId} {M : wM} {X : Nat} {ad : Nat → Nat} {v : Nat → Int32} {F : Nat → Nat → Int32} {G : Nat → Nat → Int64} (h : RS cs M X ad v F G) (k n : Nat) (hk : rK k = 1) (hn : rlen k = n) : M (ad k) = some (.inl (cs 1, n, .inr (.inl (G k)))) := hn ▸ h.2.2.2.1 k hk
def sF (F : Nat → Nat → Int32) (k i : Nat) (x : Int32) : Nat → Nat → Int32 := va_up F k (upd (F k) i x)
def sG (G : Nat → Nat → Int64) (k i : Nat) (x : Int64) : Nat → Nat → Int64 := va_up G k (vp_updL (G k) i x)
def inB (x lo hi : Int32) : Bool := decide (¬ x < lo ∧ ¬ hi < x)
def rArch (F : Nat → Nat → Int32) (k : Nat) : Int32 := if 20 ≤ 4 + (F 28 k - F 26 k) / 8 then 20 else 4 + (F 28 k - F 26 k) / 8
def rBad (q : Int32) : Int32 := 16 * (q - q / 8 * 8) * (q - q / 8 * 8) + 48 * (q / 8) * (q / 8)
def rPx (F : Nat → Nat → Int32) (k : Nat) (i : Int32) : Int32 := if i = 0 then F 26 k else if i = 1 then F 26 k + (F 28 k - F 26 k) / 4 else if i = 2 then F 28 k - (F 28 k - F 26 k) / 4 else F 28 k
def rPy (F : Nat → Nat → Int32) (k : Nat) (q i : Int32) : Int32 := if i = 0 then F 27 k + 4 * (q / 8) * F 23 (k / 2) else if i = 1 then F 27 k + 4 * (q / 8) * F 23 (k / 2) + (F 29 k + 4 * (q / 8) * F 23 (k / 2) - (F 27 k + 4 * (q / 8) * F 23 (k / 2))) / 4 + (rArch F k + 4 * (q - q / 8 * 8)) * F 23 (k / 2) else if i = 2 then F 29 k + 4 * (q / 8) * F 23 (k / 2) + (F 27 k + 4 * (q / 8) * F 23 (k / 2) - (F 29 k + 4 * (q / 8) * F 23 (k / 2))) / 4 + (rArch F k + 4 * (q - q / 8 * 8)) * F 23 (k / 2) else F 29 k + 4 * (q / 8) * F 23 (k / 2)
def rIn (F : Nat → Nat → Int32) (j k : Nat) : Bool := decide (j / 2 < k / 2 ∧ F 25 j = F 25 k ∧ F 23 (j / 2) = F 23 (k / 2) ∧ ¬ F 26 j < F 26 k ∧ ¬ F 28 k < F 28 j)
def rBefore (F : Nat → Nat → Int32) (a b : Nat) : Bool := decide (F 3 a < F 3 b ∨ (F 3 a = F 3 b ∧ ¬ F 4 b ≤ F 4 a))
set_option maxHeartbeats 4000000 in
set_option maxRecDepth 100000 in
theorem c_X5_in (l : Launch) (D : va_G) (cs : Nat → ClassId) (M : wM) (p0 p1 p2 : Int32) : Met l yX5_in (mw yX5_in cX5_in 3 (some .boolean)) { frames := 0, cells := 0, slots := 0, locals := 0 } (roP D cs M [.int p0, .int p1, .int p2]) (vp_Si (fun r => r = bI (inB p0 p1 p2 = true))) 0 0 noA := by
  refine ro_met rfl (Nat.le_of_ble_eq_true rfl) ?_
  intro p e s m below meth c ls C hR hr hlk hl
  have C : kx D cs p m c cX5_in 3 s _ RX5 := C
  have hx := C.1.1
  have hb := C.1.2.1
  have hl : lv_has ls 3 [(0, .int p0), (1, .int p1), (2, .int p2)] := hl
  refine lv_iload_n hx hb dX5_in_0 rfl (lv_at hl 0 rfl) ?_
  refine lv_iload_n hx hb dX5_in_1 rfl (lv_at hl 1 rfl) ?_
  refine lv_icmp_lt (tgt := 14) hx hb dX5_in_2 (by decide) (fun c_2 => ?_) (fun c_2 => ?_)
  · refine lv_iconst (v := 0) hx hb dX5_in_14 (by decide) ?_
    exact ro_zret C hr hlk rfl (bI_f (by simp [inB, c_2])) dX5_in_15
  · refine lv_iload_n hx hb dX5_in_5 rfl (lv_at hl 0 rfl) ?_
    refine lv_iload_n hx hb dX5_in_6 rfl (lv_at hl 2 rfl) ?_
    refine lv_icmp_gt (tgt := 14) hx hb dX5_in_7 (by decide) (fun c_7 => ?_) (fun c_7 => ?_)
    · refine lv_iconst (v := 0) hx hb dX5_in_14 (by decide) ?_
      exact ro_zret C hr hlk rfl (bI_f (by simp [inB, c_2, c_7])) dX5_in_15
    · refine lv_iconst (v := 1) hx hb dX5_in_10 (by decide) ?_
      refine lv_goto (tgt := 15) hx hb dX5_in_11 (by decide) ?_
      exact ro_zret C hr hlk rfl (bI_t (by simp [inB, c_2, c_7])) dX5_in_15

set_option maxHeartbeats 4000000 in
set_option maxRecDepth 100000 in
theorem c_X5_isLine (l : Launch) (D : va_G) (cs : Nat → ClassId) (M : wM) (X : Nat) (ad : Nat → Nat) (v : Nat → Int32) (F : Nat → Nat → Int32) (G : Nat → Nat → Int64) (hS : RS cs M X ad v F G) (p1 : Int32) : Met l yX5_isLine (mw yX5_isLine cX5_isLine 2 (some .boolean)) { frames := 1, cells := 0, slots := 0, locals := 22 } (roP D cs M [.ref X, .int p1]) (vp_Si (fun r => r = bI (inB p1 0 (v 0 - 1) = true))) 0 0 noA := by
  refine ro_met rfl (Nat.le_of_ble_eq_true rfl) ?_
  intro p e s m below meth c ls C hR hr hlk hl
  have C : kx D cs p m c cX5_isLine 2 s _ RX5 := C
  have hx := C.1.1
  have hb := C.1.2.1
  have hl : lv_has ls 2 [(0, .ref X), (1, .int p1)] := hl
  refine lv_iload_n hx hb dX5_isLine_0 rfl (lv_at hl 1 rfl) ?_
  refine lv_iconst (v := 0) hx hb dX5_isLine_1 (by decide) ?_
  refine lv_aload_n hx hb dX5_isLine_2 rfl (lv_at hl 0 rfl) ?_
  refine gf_X5_105 C hR hS.1 rfl dX5_isLine_3 ?_
  refine lv_iconst (v := 1) hx hb dX5_isLine_6 (by decide) ?_
  refine lv_isub hx hb dX5_isLine_7 ?_
  refine ro_goI (ro_S (As := [.int p1, .int 0, .int ((v 0) - 1)]) (rest := []) C hR st_X5_109 (c_X5_in l D cs _ p1 0 ((v 0) - 1)) ⟨rfl, rfl, Nat.le_of_ble_eq_true rfl, Nat.le_of_ble_eq_true rfl⟩ rfl hl.1 rfl (Nat.le_of_ble_eq_true rfl) dX5_isLine_8 ⟨Nat.le_of_ble_eq_true rfl, Nat.le_of_ble_eq_true rfl⟩) (fun r_8 h_8 => ?_)
  exact ro_zret C hr hlk (z_nar (bI_01 h_8)) h_8 dX5_isLine_11

set_option maxHeartbeats 4000000 in
set_option maxRecDepth 100000 in
theorem c_X5_isNote (l : Launch) (D : va_G) (cs : Nat → ClassId) (M : wM) (X : Nat) (ad : Nat → Nat) (v : Nat → Int32) (F : Nat → Nat → Int32) (G : Nat → Nat → Int64) (hS : RS cs M X ad v F G) (p1 : Int32) : Met l yX5_isNote (mw yX5_isNote cX5_isNote 2 (some .boolean)) { frames := 1, cells := 0, slots := 0, locals := 22 } (roP D cs M [.ref X, .int p1]) (vp_Si (fun r => r = bI (inB p1 0 (v 2 - 1) = true))) 0 0 noA := by
  refine ro_met rfl (Nat.le_of_ble_eq_true rfl) ?_
  intro p e s m below meth c ls C hR hr hlk hl
  have C : kx D cs p m c cX5_isNote 2 s _ RX5 := C
  have hx := C.1.1
  have hb := C.1.2.1
  have hl : lv_has ls 2 [(0, .ref X), (1, .int p1)] := hl
  refine lv_iload_n hx hb dX5_isNote_0 rfl (lv_at hl 1 rfl) ?_
  refine lv_iconst (v := 0) hx hb dX5_isNote_1 (by decide) ?_
  refine lv_aload_n hx hb dX5_isNote_2 rfl (lv_at hl 0 rfl) ?_
  refine gf_X5_113 C hR hS.1 rfl dX5_isNote_3 ?_
  refine lv_iconst (v := 1) hx hb dX5_isNote_6 (by decide) ?_
  refine lv_isub hx hb dX5_isNote_7 ?_
  refine ro_goI (ro_S (As := [.int p1, .int 0, .int ((v 2) - 1)]) (rest := []) C hR st_X5_109 (c_X5_in l D cs _ p1 0 ((v 2) - 1)) ⟨rfl, rfl, Nat.le_of_ble_eq_true rfl, Nat.le_of_ble_eq_true rfl⟩ rfl hl.1 rfl (Nat.le_of_ble_eq_true rfl) dX5_isNote_8 ⟨Nat.le_of_ble_eq_true rfl, Nat.le_of_ble_eq_true rfl⟩) (fun r_8 h_8 => ?_)
  exact ro_zret C hr hlk (z_nar (bI_01 h_8)) h_8 dX5_isNote_11

set_option maxHeartbeats 4000000 in
set_option maxRecDepth 100000 in
theorem c_X5_isCurve (l : Launch) (D : va_G) (cs : Nat → ClassId) (M : wM) (X : Nat) (ad : Nat → Nat) (v : Nat → Int32) (F : Nat → Nat → Int32) (G : Nat → Nat → Int64) (hS : RS cs M X ad v F G) (p1 : Int32) : Met l yX5_isCurve (mw yX5_isCurve cX5_isCurve 2 (some .boolean)) { frames := 1, cells := 0, slots := 0, locals := 22 } (roP D cs M [.ref X, .int p1]) (vp_Si (fun r => r = bI (inB p1 0 (v 19 - 1) = true))) 0 0 noA := by
  refine ro_met rfl (Nat.le_of_ble_eq_true rfl) ?_
  intro p e s m below meth c ls C hR hr hlk hl
  have C : kx D cs p m c cX5_isCurve 2 s _ RX5 := C
  have hx := C.1.1
  have hb := C.1.2.1
  have hl : lv_has ls 2 [(0, .ref X), (1, .int p1)] := hl
  refine lv_iload_n hx hb dX5_isCurve_0 rfl (lv_at hl 1 rfl) ?_
  refine lv_iconst (v := 0) hx hb dX5_isCurve_1 (by decide) ?_
  refine lv_aload_n hx hb dX5_isCurve_2 rfl (lv_at hl 0 rfl) ?_
  refine gf_X5_136 C hR hS.1 rfl dX5_isCurve_3 ?_
  refine lv_iconst (v := 1) hx hb dX5_isCurve_6 (by decide) ?_
  refine lv_isub hx hb dX5_isCurve_7 ?_
  refine ro_goI (ro_S (As := [.int p1, .int 0, .int ((v 19) - 1)]) (rest := []) C hR st_X5_109 (c_X5_in l D cs _ p1 0 ((v 19) - 1)) ⟨rfl, rfl, Nat.le_of_ble_eq_true rfl, Nat.le_of_ble_eq_true rfl⟩ rfl hl.1 rfl (Nat.le_of_ble_eq_true rfl) dX5_isCurve_8 ⟨Nat.le_of_ble_eq_true rfl, Nat.le_of_ble_eq_true rfl⟩) (fun r_8 h_8 => ?_)
  exact ro_zret C hr hlk (z_nar (bI_01 h_8)) h_8 dX5_isCurve_11

set_option maxHeartbeats 4000000 in
set_option maxRecDepth 100000 in
theorem c_X5_arch (l : Launch) (D : va_G) (cs : Nat → ClassId) (M : wM) (X : Nat) (ad : Nat → Nat) (v : Nat → Int32) (F : Nat → Nat → Int32) (G : Nat → Nat → Int64) (hS : RS cs M X ad v F G) (k : Nat) (hk : k < 80) : Met l yX5_arch (mw yX5_arch cX5_arch 3 (some .int)) { frames := 0, cells := 0, slots := 0, locals := 0 } (roP D cs M [.ref X, .int (nI k)]) (vp_Si (fun r => r = rArch F k)) 0 0 noA := by
  refine ro_met rfl (Nat.le_of_ble_eq_true rfl) ?_
  intro p e s m below meth c ls C hR hr hlk hl
  have C : kx D cs p m c cX5_arch 3 s _ RX5 := C
  have hx := C.1.1
  have hb := C.1.2.1
  have hl : lv_has ls 3 [(0, .ref X), (1, .int (nI k))] := hl
  refine lv_iconst (v := 4) hx hb dX5_arch_0 (by decide) ?_
  refine lv_aload_n hx hb dX5_arch_1 rfl (lv_at hl 0 rfl) ?_
  refine gf_X5_80 C hR hS.1 rfl dX5_arch_2 ?_
  refine lv_iload_n hx hb dX5_arch_5 rfl (lv_at hl 1 rfl) ?_
  refine r_ialdN (k := k) C hR (RS.i hS 28 80 rfl rfl) (by omega) (by decide) rfl dX5_arch_6 ?_
  refine lv_aload_n hx hb dX5_arch_7 rfl (lv_at hl 0 rfl) ?_
  refine gf_X5_74 C hR hS.1 rfl dX5_arch_8 ?_
  refine lv_iload_n hx hb dX5_arch_11 rfl (lv_at hl 1 rfl) ?_
  refine r_ialdN (k := k) C hR (RS.i hS 26 80 rfl rfl) (by omega) (by decide) rfl dX5_arch_12 ?_
  refine lv_isub hx hb dX5_arch_13 ?_
  refine lv_bipush (v := 8) hx hb dX5_arch_14 (by decide) ?_
  refine lv_idiv hx hb dX5_arch_16 (by decide) ?_
  refine lv_iadd hx hb dX5_arch_17 ?_
  refine lv_topi (fun x_18 ex_18 => ?_)
  refine lv_istore_n (lv' := [(2, .int x_18), (0, .ref X), (1, .int (nI k))]) hx hb dX5_arch_18 rfl hl (by decide) rfl (fun ls hl => ?_)
  refine lv_iload_n hx hb dX5_arch_19 rfl (lv_at hl 0 rfl) ?_
  refine lv_bipush (v := 20) hx hb dX5_arch_20 (by decide) ?_
  refine lv_icmp_ge (tgt := 29) hx hb dX5_arch_22 (by decide) (fun c_22 => ?_) (fun c_22 => ?_)
  · refine lv_bipush (v := 20) hx hb dX5_arch_29 (by decide) ?_
    exact ro_iret C hr hlk (by subst ex_18; simp [rArch, c_22]) dX5_arch_31
  · refine lv_iload_n hx hb dX5_arch_25 rfl (lv_at hl 0 rfl) ?_
    refine lv_goto (tgt := 31) hx hb dX5_arch_26 (by decide) ?_
    exact ro_iret C hr hlk (by subst ex_18; simp [rArch, c_22]) dX5_arch_31

set_option maxHeartbeats 4000000 in
set_option maxRecDepth 100000 in
theorem c_X5_candidates (l : Launch) (D : va_G) (cs : Nat → ClassId) (M : wM) (X : Nat) (ad : Nat → Nat) (v : Nat → Int32) (F : Nat → Nat → Int32) (G : Nat → Nat → Int64) (hS : RS cs M X ad v F G) (k : Nat) (hk : k < 80) : Met l yX5_candidates (mw yX5_candidates cX5_candidates 2 (some .int)) { frames := 0, cells := 0, slots := 0, locals := 0 } (roP D cs M [.ref X, .int (nI k)]) (vp_Si (fun r => r = if F 22 (k / 2) = 0 then 24 else 8)) 0 0 noA := by
  refine ro_met rfl (Nat.le_of_ble_eq_true rfl) ?_
  intro p e s m below meth c ls C hR hr hlk hl
  have C : kx D cs p m c cX5_candidates 2 s _ RX5 := C
  have hx := C.1.1
  have hb := C.1.2.1
  have hl : lv_has ls 2 [(0, .ref X), (1, .int (nI k))] := hl
  refine lv_aload_n hx hb dX5_candidates_0 rfl (lv_at hl 0 rfl) ?_
  refine gf_X5_62 C hR hS.1 rfl dX5_candidates_1 ?_
  refine lv_iload_n hx hb dX5_candidates_4 rfl (lv_at hl 1 rfl) ?_
  refine lv_iconst (v := 2) hx hb dX5_candidates_5 (by decide) ?_
  refine lv_idiv hx hb dX5_candidates_6 (by decide) ?_
  refine top_eq (y := nI (k / 2)) (tn_div rfl rfl (by omega) (by decide) (by decide)) ?_
  refine r_zaldN (k := (k / 2)) C hR (RS.z hS 22 40 rfl rfl) (by omega) (by decide) rfl dX5_candidates_7 ?_
  refine lv_if_eq (tgt := 16) hx hb dX5_candidates_8 (by decide) (fun c_8 => ?_) (fun c_8 => ?_)
  · refine lv_bipush (v := 24) hx hb dX5_candidates_16 (by decide) ?_
    exact ro_iret C hr hlk (by simp [c_8]) dX5_candidates_18
  · refine lv_bipush (v := 8) hx hb dX5_candidates_11 (by decide) ?_
    refine lv_goto (tgt := 18) hx hb dX5_candidates_13 (by decide) ?_
    exact ro_iret C hr hlk (by simp [c_8]) dX5_candidates_18

set_option maxHeartbeats 4000000 in
set_option maxRecDepth 100000 in
theorem c_X5_badnessOf (l : Launch) (D : va_G) (cs : Nat → ClassId) (M : wM) (q : Int32) : Met l yX5_badnessOf (mw yX5_badnessOf cX5_badnessOf 3 (some .int)) { frames := 0, cells := 0, slots := 0, locals := 0 } (roP D cs M [.int q]) (vp_Si (fun r => r = rBad q)) 0 0 noA := by
  refine ro_met rfl (Nat.le_of_ble_eq_true rfl) ?_
  intro p e s m below meth c ls C hR hr hlk hl
  have C : kx D cs p m c cX5_badnessOf 3 s _ RX5 := C
  have hx := C.1.1
  have hb := C.1.2.1
  have hl : lv_has ls 3 [(0, .int q)] := hl
  refine lv_iload_n hx hb dX5_badnessOf_0 rfl (lv_at hl 0 rfl) ?_
  refine lv_bipush (v := 8) hx hb dX5_badnessOf_1 (by decide) ?_
  refine lv_irem hx hb dX5_badnessOf_3 (by decide) ?_
  refine lv_istore_n (lv' := [(1, .int (q - q / 8 * 8)), (0, .int q)]) hx hb dX5_badnessOf_4 rfl hl (by decide) rfl (fun ls hl => ?_)
  refine lv_iload_n hx hb dX5_badnessOf_5 rfl (lv_at hl 1 rfl) ?_
  refine lv_bipush (v := 8) hx hb dX5_badnessOf_6 (by decide) ?_
  refine lv_idiv hx hb dX5_badnessOf_8 (by decide) ?_
  refine lv_istore_n (lv' := [(2, .int (q / 8)), (1, .int (q - q / 8 * 8)), (0, .int q)]) hx hb dX5_badnessOf_9 rfl hl (by decide) rfl (fun ls hl => ?_)
  refine lv_bipush (v := 16) hx hb dX5_badnessOf_10 (by decide) ?_
  refine lv_iload_n hx hb dX5_badnessOf_12 rfl (lv_at hl 1 rfl) ?_
  refine lv_imul hx hb dX5_badnessOf_13 ?_
  refine lv_iload_n hx hb dX5_badnessOf_14 rfl (lv_at hl 1 rfl) ?_
  refine lv_imul hx hb dX5_badnessOf_15 ?_
  refine lv_bipush (v := 48) hx hb dX5_badnessOf_16 (by decide) ?_
  refine lv_iload_n hx hb dX5_badnessOf_18 rfl (lv_at hl 0 rfl) ?_
  refine lv_imul hx hb dX5_badnessOf_19 ?_
  refine lv_iload_n hx hb dX5_badnessOf_20 rfl (lv_at hl 0 rfl) ?_
  refine lv_imul hx hb dX5_badnessOf_21 ?_
  refine lv_iadd hx hb dX5_badnessOf_22 ?_
  exact ro_iret C hr hlk (by simp [rBad]) dX5_badnessOf_23

set_option maxHeartbeats 4000000 in
set_option maxRecDepth 100000 in
theorem c_X5_px (l : Launch) (D : va_G) (cs : Nat → ClassId) (M : wM) (X : Nat) (ad : Nat → Nat) (v : Nat → Int32) (F : Nat → Nat → Int32) (G : Nat → Nat → Int64) (hS : RS cs M X ad v F G) (k : Nat) (hk : k < 80) (i : Int32) : Met l yX5_px (mw yX5_px cX5_px 4 (some .int)) { frames := 0, cells := 0, slots := 0, locals := 0 } (roP D cs M [.ref X, .int (nI k), .int i]) (vp_Si (fun r => r = rPx F k i)) 0 0 noA := by
  refine ro_met rfl (Nat.le_of_ble_eq_true rfl) ?_
  intro p e s m below meth c ls C hR hr hlk hl
  have C : kx D cs p m c cX5_px 4 s _ RX5 := C
  have hx := C.1.1
  have hb := C.1.2.1
  have hl : lv_has ls 4 [(0, .ref X), (1, .int (nI k)), (2, .int i)] := hl
  refine lv_aload_n hx hb dX5_px_0 rfl (lv_at hl 0 rfl) ?_
  refine gf_X5_80 C hR hS.1 rfl dX5_px_1 ?_
  refine lv_iload_n hx hb dX5_px_4 rfl (lv_at hl 1 rfl) ?_
  refine r_ialdN (k := k) C hR (RS.i hS 28 80 rfl rfl) (by omega) (by decide) rfl dX5_px_5 ?_
  refine lv_aload_n hx hb dX5_px_6 rfl (lv_at hl 0 rfl) ?_
  refine gf_X5_74 C hR hS.1 rfl dX5_px_7 ?_
  refine lv_iload_n hx hb dX5_px_10 rfl (lv_at hl 1 rfl) ?_
  refine r_ialdN (k := k) C hR (RS.i hS 26 80 rfl rfl) (by omega) (by decide) rfl dX5_px_11 ?_
  refine lv_isub hx hb dX5_px_12 ?_
  refine lv_iconst (v := 4) hx hb dX5_px_13 (by decide) ?_
  refine lv_idiv hx hb dX5_px_14 (by decide) ?_
  refine lv_topi (fun x_15 ex_15 => ?_)
  refine lv_istore_n (lv' := [(3, .int x_15), (0, .ref X), (1, .int (nI k)), (2, .int i)]) hx hb dX5_px_15 rfl hl (by decide) rfl (fun ls hl => ?_)
  refine lv_iload_n hx hb dX5_px_16 rfl (lv_at hl 3 rfl) ?_
  refine lv_if_ne (tgt := 29) hx hb dX5_px_17 (by decide) (fun c_17 => ?_) (fun c_17 => ?_)
  · refine lv_iload_n hx hb dX5_px_29 rfl (lv_at hl 3 rfl) ?_
    refine lv_iconst (v := 1) hx hb dX5_px_30 (by decide) ?_
    refine lv_icmp_ne (tgt := 45) hx hb dX5_px_31 (by decide) (fun c_31 => ?_) (fun c_31 => ?_)
    · refine lv_iload_n hx hb dX5_px_45 rfl (lv_at hl 3 rfl) ?_
      refine lv_iconst (v := 2) hx hb dX5_px_46 (by decide) ?_
      refine lv_icmp_ne (tgt := 61) hx hb dX5_px_47 (by decide) (fun c_47 => ?_) (fun c_47 => ?_)
      · refine lv_aload_n hx hb dX5_px_61 rfl (lv_at hl 1 rfl) ?_
        refine gf_X5_80 C hR hS.1 rfl dX5_px_62 ?_
        refine lv_iload_n hx hb dX5_px_65 rfl (lv_at hl 2 rfl) ?_
        refine r_ialdN (k := k) C hR (RS.i hS 28 80 rfl rfl) (by omega) (by decide) rfl dX5_px_66 ?_
        exact ro_iret C hr hlk (by subst ex_15; simp [rPx, c_17, c_31, c_47]) dX5_px_67
      · refine lv_aload_n hx hb dX5_px_50 rfl (lv_at hl 1 rfl) ?_
        refine gf_X5_80 C hR hS.1 rfl dX5_px_51 ?_
        refine lv_iload_n hx hb dX5_px_54 rfl (lv_at hl 2 rfl) ?_
        refine r_ialdN (k := k) C hR (RS.i hS 28 80 rfl rfl) (by omega) (by decide) rfl dX5_px_55 ?_
        refine lv_iload_n hx hb dX5_px_56 rfl (lv_at hl 0 rfl) ?_
        refine lv_isub hx hb dX5_px_57 ?_
        refine lv_goto (tgt := 67) hx hb dX5_px_58 (by decide) ?_
        exact ro_iret C hr hlk (by subst ex_15; simp [rPx, c_17, c_31, c_47]) dX5_px_67
    · refine lv_aload_n hx hb dX5_px_34 rfl (lv_at hl 1 rfl) ?_
      refine gf_X5_74 C hR hS.1 rfl dX5_px_35 ?_
      refine lv_iload_n hx hb dX5_px_38 rfl (lv_at hl 2 rfl) ?_
      refine r_ialdN (k := k) C hR (RS.i hS 26 80 rfl rfl) (by omega) (by decide) rfl dX5_px_39 ?_
      refine lv_iload_n hx hb dX5_px_40 rfl (lv_at hl 0 rfl) ?_
      refine lv_iadd hx hb dX5_px_41 ?_
      refine lv_goto (tgt := 67) hx hb dX5_px_42 (by decide) ?_
      exact ro_iret C hr hlk (by subst ex_15; simp [rPx, c_17, c_31]) dX5_px_67
  · refine lv_aload_n hx hb dX5_px_20 rfl (lv_at hl 1 rfl) ?_
    refine gf_X5_74 C hR hS.1 rfl dX5_px_21 ?_
    refine lv_iload_n hx hb dX5_px_24 rfl (lv_at hl 2 rfl) ?_
    refine r_ialdN (k := k) C hR (RS.i hS 26 80 rfl rfl) (by omega) (by decide) rfl dX5_px_25 ?_
    refine lv_goto (tgt := 67) hx hb dX5_px_26 (by decide) ?_
    exact ro_iret C hr hlk (by subst ex_15; simp [rPx, c_17]) dX5_px_67

set_option maxHeartbeats 4000000 in
set_option maxRecDepth 100000 in
theorem c_X5_py (l : Launch) (D : va_G) (cs : Nat → ClassId) (M : wM) (X : Nat) (ad : Nat → Nat) (v : Nat → Int32) (F : Nat → Nat → Int32) (G : Nat → Nat → Int64) (hS : RS cs M X ad v F G) (k : Nat) (hk : k < 80) (q i : Int32) : Met l yX5_py (mw yX5_py cX5_py 9 (some .int)) { frames := 1, cells := 0, slots := 0, locals := 22 } (roP D cs M [.ref X, .int (nI k), .int q, .int i]) (vp_Si (fun r => r = rPy F k q i)) 0 0 noA := by
  refine ro_met rfl (Nat.le_of_ble_eq_true rfl) ?_
  intro p e s m below meth c ls C hR hr hlk hl
  have C : kx D cs p m c cX5_py 9 s _ RX5 := C
  have hx := C.1.1
  have hb := C.1.2.1
  have hl : lv_has ls 9 [(0, .ref X), (1, .int (nI k)), (2, .int q), (3, .int i)] := hl
  refine lv_aload_n hx hb dX5_py_0 rfl (lv_at hl 0 rfl) ?_
  refine gf_X5_65 C hR hS.1 rfl dX5_py_1 ?_
  refine lv_iload_n hx hb dX5_py_4 rfl (lv_at hl 1 rfl) ?_
  refine lv_iconst (v := 2) hx hb dX5_py_5 (by decide) ?_
  refine lv_idiv hx hb dX5_py_6 (by decide) ?_
  refine top_eq (y := nI (k / 2)) (tn_div rfl rfl (by omega) (by decide) (by decide)) ?_
  refine r_ialdN (k := (k / 2)) C hR (RS.i hS 23 40 rfl rfl) (by omega) (by decide) rfl dX5_py_7 ?_
  refine lv_istore (lv' := [(4, .int (F 23 (k / 2))), (0, .ref X), (1, .int (nI k)), (2, .int q), (3, .int i)]) hx hb dX5_py_8 hl (by decide) rfl (fun ls hl => ?_)
  refine lv_iconst (v := 4) hx hb dX5_py_10 (by decide) ?_
  refine lv_iload_n hx hb dX5_py_11 rfl (lv_at hl 3 rfl) ?_
  refine lv_bipush (v := 8) hx hb dX5_py_12 (by decide) ?_
  refine lv_idiv hx hb dX5_py_14 (by decide) ?_
  refine lv_imul hx hb dX5_py_15 ?_
  refine lv_iload hx hb dX5_py_16 (lv_at hl 0 rfl) ?_
  refine lv_imul hx hb dX5_py_18 ?_
  refine lv_topi (fun x_19 ex_19 => ?_)
  refine lv_istore (lv' := [(5, .int x_19), (4, .int (F 23 (k / 2))), (0, .ref X), (1, .int (nI k)), (2, .int q), (3, .int i)]) hx hb dX5_py_19 hl (by decide) rfl (fun ls hl => ?_)
  refine lv_aload_n hx hb dX5_py_21 rfl (lv_at hl 2 rfl) ?_
  refine lv_iload_n hx hb dX5_py_22 rfl (lv_at hl 3 rfl) ?_
  refine ro_goI (ro_V (As := [.int (nI k)]) (rest := []) C hR st_X5_166 (c_X5_arch l D cs _ X ad v F G hS k (by omega)) hS.1 rfl rfl ⟨rfl, rfl, Nat.le_of_ble_eq_true rfl, Nat.le_of_ble_eq_true rfl⟩ rfl hl.1 rfl (Nat.le_of_ble_eq_true rfl) dX5_py_23 ⟨Nat.le_of_ble_eq_true rfl, Nat.le_of_ble_eq_true rfl⟩) (fun r_23 h_23 => ?_)
  refine lv_iconst (v := 4) hx hb dX5_py_26 (by decide) ?_
  refine lv_iload_n hx hb dX5_py_27 rfl (lv_at hl 4 rfl) ?_
  refine lv_bipush (v := 8) hx hb dX5_py_28 (by decide) ?_
  refine lv_irem hx hb dX5_py_30 (by decide) ?_
  refine lv_imul hx hb dX5_py_31 ?_
  refine lv_iadd hx hb dX5_py_32 ?_
  refine lv_iload hx hb dX5_py_33 (lv_at hl 1 rfl) ?_
  refine lv_imul hx hb dX5_py_35 ?_
  refine lv_topi (fun x_36 ex_36 => ?_)
  refine lv_istore (lv' := [(6, .int x_36), (5, .int x_19), (4, .int (F 23 (k / 2))), (0, .ref X), (1, .int (nI k)), (2, .int q), (3, .int i)]) hx hb dX5_py_36 hl (by decide) rfl (fun ls hl => ?_)
  refine lv_aload_n hx hb dX5_py_38 rfl (lv_at hl 3 rfl) ?_
  refine gf_X5_77 C hR hS.1 rfl dX5_py_39 ?_
  refine lv_iload_n hx hb dX5_py_42 rfl (lv_at hl 4 rfl) ?_
  refine r_ialdN (k := k) C hR (RS.i hS 27 80 rfl rfl) (by omega) (by decide) rfl dX5_py_43 ?_
  refine lv_iload hx hb dX5_py_44 (lv_at hl 1 rfl) ?_
  refine lv_iadd hx hb dX5_py_46 ?_
  refine lv_istore (lv' := [(7, .int ((F 27 k) + x_19)), (6, .int x_36), (5, .int x_19), (4, .int (F 23 (k / 2))), (0, .ref X), (1, .int (nI k)), (2, .int q), (3, .int i)]) hx hb dX5_py_47 hl (by decide) rfl (fun ls hl => ?_)
  refine lv_aload_n hx hb dX5_py_49 rfl (lv_at hl 4 rfl) ?_
  refine gf_X5_83 C hR hS.1 rfl dX5_py_50 ?_
  refine lv_iload_n hx hb dX5_py_53 rfl (lv_at hl 5 rfl) ?_
  refine r_ialdN (k := k) C hR (RS.i hS 29 80 rfl rfl) (by omega) (by decide) rfl dX5_py_54 ?_
  refine lv_iload hx hb dX5_py_55 (lv_at hl 2 rfl) ?_
  refine lv_iadd hx hb dX5_py_57 ?_
  refine lv_istore (lv' := [(8, .int ((F 29 k) + x_19)), (7, .int ((F 27 k) + x_19)), (6, .int x_36), (5, .int x_19), (4, .int (F 23 (k / 2))), (0, .ref X), (1, .int (nI k)), (2, .int q), (3, .int i)]) hx hb dX5_py_58 hl (by decide) rfl (fun ls hl => ?_)
  refine lv_iload_n hx hb dX5_py_60 rfl (lv_at hl 8 rfl) ?_
  refine lv_if_ne (tgt := 69) hx hb dX5_py_61 (by decide) (fun c_61 => ?_) (fun c_61 => ?_)
  · refine lv_iload_n hx hb dX5_py_69 rfl (lv_at hl 8 rfl) ?_
    refine lv_iconst (v := 1) hx hb dX5_py_70 (by decide) ?_
    refine lv_icmp_ne (tgt := 90) hx hb dX5_py_71 (by decide) (fun c_71 => ?_) (fun c_71 => ?_)
    · refine lv_iload_n hx hb dX5_py_90 rfl (lv_at hl 8 rfl) ?_
      refine lv_iconst (v := 2) hx hb dX5_py_91 (by decide) ?_
      refine lv_icmp_ne (tgt := 111) hx hb dX5_py_92 (by decide) (fun c_92 => ?_) (fun c_92 => ?_)
      · refine lv_iload hx hb dX5_py_111 (lv_at hl 0 rfl) ?_
        exact ro_iret C hr hlk (by simp [rPy, c_61, c_71, c_92, ex_19, ex_36, h_23]) dX5_py_113
      · refine lv_iload hx hb dX5_py_95 (lv_at hl 0 rfl) ?_
        refine lv_iload hx hb dX5_py_97 (lv_at hl 1 rfl) ?_
        refine lv_iload hx hb dX5_py_99 (lv_at hl 0 rfl) ?_
        refine lv_isub hx hb dX5_py_101 ?_
        refine lv_iconst (v := 4) hx hb dX5_py_102 (by decide) ?_
        refine lv_idiv hx hb dX5_py_103 (by decide) ?_
        refine lv_iadd hx hb dX5_py_104 ?_
        refine lv_iload hx hb dX5_py_105 (lv_at hl 2 rfl) ?_
        refine lv_iadd hx hb dX5_py_107 ?_
        refine lv_goto (tgt := 113) hx hb dX5_py_108 (by decide) ?_
        exact ro_iret C hr hlk (by simp [rPy, c_61, c_71, c_92, ex_19, ex_36, h_23]) dX5_py_113
    · refine lv_iload hx hb dX5_py_74 (lv_at hl 1 rfl) ?_
      refine lv_iload hx hb dX5_py_76 (lv_at hl 0 rfl) ?_
      refine lv_iload hx hb dX5_py_78 (lv_at hl 1 rfl) ?_
      refine lv_isub hx hb dX5_py_80 ?_
      refine lv_iconst (v := 4) hx hb dX5_py_81 (by decide) ?_
      refine lv_idiv hx hb dX5_py_82 (by decide) ?_
      refine lv_iadd hx hb dX5_py_83 ?_
      refine lv_iload hx hb dX5_py_84 (lv_at hl 2 rfl) ?_
      refine lv_iadd hx hb dX5_py_86 ?_
      refine lv_goto (tgt := 113) hx hb dX5_py_87 (by decide) ?_
      exact ro_iret C hr hlk (by simp [rPy, c_61, c_71, ex_19, ex_36, h_23]) dX5_py_113
  · refine lv_iload hx hb dX5_py_64 (lv_at hl 1 rfl) ?_
    refine lv_goto (tgt := 113) hx hb dX5_py_66 (by decide) ?_
    exact ro_iret C hr hlk (by simp [rPy, c_61, ex_19, ex_36, h_23]) dX5_py_113

set_option maxHeartbeats 4000000 in
set_option maxRecDepth 100000 in
theorem c_X5_isIn (l : Launch) (D : va_G) (cs : Nat → ClassId) (M : wM) (X : Nat) (ad : Nat → Nat) (v : Nat → Int32) (F : Nat → Nat → Int32) (G : Nat → Nat → Int64) (hS : RS cs M X ad v F G) (j k : Nat) (hj : j < 80) (hk : k < 80) : Met l yX5_isIn (mw yX5_isIn cX5_isIn 3 (some .boolean)) { frames := 0, cells := 0, slots := 0, locals := 0 } (roP D cs M [.ref X, .int (nI j), .int (nI k)]) (vp_Si (fun r => r = bI (rIn F j k = true))) 0 0 noA := by
  refine ro_met rfl (Nat.le_of_ble_eq_true rfl) ?_
  intro p e s m below meth c ls C hR hr hlk hl
  have C : kx D cs p m c cX5_isIn 3 s _ RX5 := C
  have hx := C.1.1
  have hb := C.1.2.1
  have hl : lv_has ls 3 [(0, .ref X), (1, .int (nI j)), (2, .int (nI k))] := hl
  refine lv_iload_n hx hb dX5_isIn_0 rfl (lv_at hl 1 rfl) ?_
  refine lv_iconst (v := 2) hx hb dX5_isIn_1 (by decide) ?_
  refine lv_idiv hx hb dX5_isIn_2 (by decide) ?_
  refine top_eq (y := nI (j / 2)) (tn_div rfl rfl (by omega) (by decide) (by decide)) ?_
  refine lv_iload_n hx hb dX5_isIn_3 rfl (lv_at hl 2 rfl) ?_
  refine lv_iconst (v := 2) hx hb dX5_isIn_4 (by decide) ?_
  refine lv_idiv hx hb dX5_isIn_5 (by decide) ?_
  refine top_eq (y := nI (k / 2)) (tn_div rfl rfl (by omega) (by decide) (by decide)) ?_
  refine lv_icmp_ge (tgt := 77) hx hb dX5_isIn_6 (by decide) (fun c_6 => ?_) (fun c_6 => ?_)
  · have c_6 := cle_t (a := (k / 2)) (b := (j / 2)) c_6 (by omega) (by omega)
    refine lv_iconst (v := 0) hx hb dX5_isIn_77 (by decide) ?_
    exact ro_zret C hr hlk rfl (bI_f (fun h => absurd (of_decide_eq_true h).1 (by omega))) dX5_isIn_78
  · have c_6 := cle_f (a := (k / 2)) (b := (j / 2)) c_6 (by omega) (by omega)
    refine lv_aload_n hx hb dX5_isIn_9 rfl (lv_at hl 0 rfl) ?_
    refine gf_X5_71 C hR hS.1 rfl dX5_isIn_10 ?_
    refine lv_iload_n hx hb dX5_isIn_13 rfl (lv_at hl 1 rfl) ?_
    refine r_ialdN (k := j) C hR (RS.i hS 25 80 rfl rfl) (by omega) (by decide) rfl dX5_isIn_14 ?_
    refine lv_aload_n hx hb dX5_isIn_15 rfl (lv_at hl 0 rfl) ?_
    refine gf_X5_71 C hR hS.1 rfl dX5_isIn_16 ?_
    refine lv_iload_n hx hb dX5_isIn_19 rfl (lv_at hl 2 rfl) ?_
    refine r_ialdN (k := k) C hR (RS.i hS 25 80 rfl rfl) (by omega) (by decide) rfl dX5_isIn_20 ?_
    refine lv_icmp_ne (tgt := 77) hx hb dX5_isIn_21 (by decide) (fun c_21 => ?_) (fun c_21 => ?_)
    · refine lv_iconst (v := 0) hx hb dX5_isIn_77 (by decide) ?_
      exact ro_zret C hr hlk rfl (bI_f (fun h => by simp [rIn, c_6, c_21] at h)) dX5_isIn_78
    · refine lv_aload_n hx hb dX5_isIn_24 rfl (lv_at hl 0 rfl) ?_
      refine gf_X5_65 C hR hS.1 rfl dX5_isIn_25 ?_
      refine lv_iload_n hx hb dX5_isIn_28 rfl (lv_at hl 1 rfl) ?_
      refine lv_iconst (v := 2) hx hb dX5_isIn_29 (by decide) ?_
      refine lv_idiv hx hb dX5_isIn_30 (by decide) ?_
      refine top_eq (y := nI (j / 2)) (tn_div rfl rfl (by omega) (by decide) (by decide)) ?_
      refine r_ialdN (k := (j / 2)) C hR (RS.i hS 23 40 rfl rfl) (by omega) (by decide) rfl dX5_isIn_31 ?_
      refine lv_aload_n hx hb dX5_isIn_32 rfl (lv_at hl 0 rfl) ?_
      refine gf_X5_65 C hR hS.1 rfl dX5_isIn_33 ?_
      refine lv_iload_n hx hb dX5_isIn_36 rfl (lv_at hl 2 rfl) ?_
      refine lv_iconst (v := 2) hx hb dX5_isIn_37 (by decide) ?_
      refine lv_idiv hx hb dX5_isIn_38 (by decide) ?_
      refine top_eq (y := nI (k / 2)) (tn_div rfl rfl (by omega) (by decide) (by decide)) ?_
      refine r_ialdN (k := (k / 2)) C hR (RS.i hS 23 40 rfl rfl) (by omega) (by decide) rfl dX5_isIn_39 ?_
      refine lv_icmp_ne (tgt := 77) hx hb dX5_isIn_40 (by decide) (fun c_40 => ?_) (fun c_40 => ?_)
      · refine lv_iconst (v := 0) hx hb dX5_isIn_77 (by decide) ?_
        exact ro_zret C hr hlk rfl (bI_f (fun h => by simp [rIn, c_6, c_21, c_40] at h)) dX5_isIn_78
      · refine lv_aload_n hx hb dX5_isIn_43 rfl (lv_at hl 0 rfl) ?_
        refine gf_X5_74 C hR hS.1 rfl dX5_isIn_44 ?_
        refine lv_iload_n hx hb dX5_isIn_47 rfl (lv_at hl 1 rfl) ?_
        refine r_ialdN (k := j) C hR (RS.i hS 26 80 rfl rfl) (by omega) (by decide) rfl dX5_isIn_48 ?_
        refine lv_aload_n hx hb dX5_isIn_49 rfl (lv_at hl 0 rfl) ?_
        refine gf_X5_74 C hR hS.1 rfl dX5_isIn_50 ?_
        refine lv_iload_n hx hb dX5_isIn_53 rfl (lv_at hl 2 rfl) ?_
        refine r_ialdN (k := k) C hR (RS.i hS 26 80 rfl rfl) (by omega) (by decide) rfl dX5_isIn_54 ?_
        refine lv_icmp_lt (tgt := 77) hx hb dX5_isIn_55 (by decide) (fun c_55 => ?_) (fun c_55 => ?_)
        · refine lv_iconst (v := 0) hx hb dX5_isIn_77 (by decide) ?_
          exact ro_zret C hr hlk rfl (bI_f (fun h => by simp [rIn, c_6, c_21, c_40, c_55] at h)) dX5_isIn_78
        · refine lv_aload_n hx hb dX5_isIn_58 rfl (lv_at hl 0 rfl) ?_
          refine gf_X5_80 C hR hS.1 rfl dX5_isIn_59 ?_
          refine lv_iload_n hx hb dX5_isIn_62 rfl (lv_at hl 1 rfl) ?_
          refine r_ialdN (k := j) C hR (RS.i hS 28 80 rfl rfl) (by omega) (by decide) rfl dX5_isIn_63 ?_
          refine lv_aload_n hx hb dX5_isIn_64 rfl (lv_at hl 0 rfl) ?_
          refine gf_X5_80 C hR hS.1 rfl dX5_isIn_65 ?_
          refine lv_iload_n hx hb dX5_isIn_68 rfl (lv_at hl 2 rfl) ?_
          refine r_ialdN (k := k) C hR (RS.i hS 28 80 rfl rfl) (by omega) (by decide) rfl dX5_isIn_69 ?_
          refine lv_icmp_gt (tgt := 77) hx hb dX5_isIn_70 (by decide) (fun c_70 => ?_) (fun c_70 => ?_)
          · refine lv_iconst (v := 0) hx hb dX5_isIn_77 (by decide) ?_
            exact ro_zret C hr hlk rfl (bI_f (fun h => by simp [rIn, c_6, c_21, c_40, c_55, c_70] at h)) dX5_isIn_78
          · refine lv_iconst (v := 1) hx hb dX5_isIn_73 (by decide) ?_
            refine lv_goto (tgt := 78) hx hb dX5_isIn_74 (by decide) ?_
            exact ro_zret C hr hlk rfl (bI_t (by simp [rIn, c_6, c_21, c_40, c_55, c_70])) dX5_isIn_78

set_option maxHeartbeats 4000000 in
set_option maxRecDepth 100000 in
theorem c_X5_isBefore (l : Launch) (D : va_G) (cs : Nat → ClassId) (M : wM) (X : Nat) (ad : Nat → Nat) (v : Nat → Int32) (F : Nat → Nat → Int32) (G : Nat → Nat → Int64) (hS : RS cs M X ad v F G) (a b : Nat) (ha : a < 60) (hb0 : b < 60) : Met l yX5_isBefore (mw yX5_isBefore cX5_isBefore 3 (some .boolean)) { frames := 0, cells := 0, slots := 0, locals := 0 } (roP D cs M [.ref X, .int (nI a), .int (nI b)]) (vp_Si (fun r => r = bI (rBefore F a b = true))) 0 0 noA := by
  refine ro_met rfl (Nat.le_of_ble_eq_true rfl) ?_
  intro p e s m below meth c ls C hR hr hlk hl
  have C : kx D cs p m c cX5_isBefore 3 s _ RX5 := C
  have hx := C.1.1
  have hb := C.1.2.1
  have hl : lv_has ls 3 [(0, .ref X), (1, .int (nI a)), (2, .int (nI b))] := hl
  refine lv_aload_n hx hb dX5_isBefore_0 rfl (lv_at hl 0 rfl) ?_
  refine gf_X5_13 C hR hS.1 rfl dX5_isBefore_1 ?_
  refine lv_iload_n hx hb dX5_isBefore_4 rfl (lv_at hl 1 rfl) ?_
  refine r_ialdN (k := a) C hR (RS.i hS 3 60 rfl rfl) (by omega) (by decide) rfl dX5_isBefore_5 ?_
  refine lv_aload_n hx hb dX5_isBefore_6 rfl (lv_at hl 0 rfl) ?_
  refine gf_X5_13 C hR hS.1 rfl dX5_isBefore_7 ?_
  refine lv_iload_n hx hb dX5_isBefore_10 rfl (lv_at hl 2 rfl) ?_
  refine r_ialdN (k := b) C hR (RS.i hS 3 60 rfl rfl) (by omega) (by decide) rfl dX5_isBefore_11 ?_
  refine lv_icmp_lt (tgt := 45) hx hb dX5_isBefore_12 (by decide) (fun c_12 => ?_) (fun c_12 => ?_)
  · refine lv_iconst (v := 1) hx hb dX5_isBefore_45 (by decide) ?_
    refine lv_goto (tgt := 50) hx hb dX5_isBefore_46 (by decide) ?_
    exact ro_zret C hr hlk rfl (bI_t (by simp [rBefore, c_12])) dX5_isBefore_50
  · refine lv_aload_n hx hb dX5_isBefore_15 rfl (lv_at hl 0 rfl) ?_
    refine gf_X5_13 C hR hS.1 rfl dX5_isBefore_16 ?_
    refine lv_iload_n hx hb dX5_isBefore_19 rfl (lv_at hl 1 rfl) ?_
    refine r_ialdN (k := a) C hR (RS.i hS 3 60 rfl rfl) (by omega) (by decide) rfl dX5_isBefore_20 ?_
    refine lv_aload_n hx hb dX5_isBefore_21 rfl (lv_at hl 0 rfl) ?_
    refine gf_X5_13 C hR hS.1 rfl dX5_isBefore_22 ?_
    refine lv_iload_n hx hb dX5_isBefore_25 rfl (lv_at hl 2 rfl) ?_
    refine r_ialdN (k := b) C hR (RS.i hS 3 60 rfl rfl) (by omega) (by decide) rfl dX5_isBefore_26 ?_
    refine lv_icmp_ne (tgt := 49) hx hb dX5_isBefore_27 (by decide) (fun c_27 => ?_) (fun c_27 => ?_)
    · refine lv_iconst (v := 0) hx hb dX5_isBefore_49 (by decide) ?_
      exact ro_zret C hr hlk rfl (bI_f (by simp [rBefore, c_12, c_27])) dX5_isBefore_50
    · refine lv_aload_n hx hb dX5_isBefore_30 rfl (lv_at hl 0 rfl) ?_
      refine gf_X5_16 C hR hS.1 rfl dX5_isBefore_31 ?_
      refine lv_iload_n hx hb dX5_isBefore_34 rfl (lv_at hl 1 rfl) ?_
      refine r_ialdN (k := a) C hR (RS.i hS 4 60 rfl rfl) (by omega) (by decide) rfl dX5_isBefore_35 ?_
      refine lv_aload_n hx hb dX5_isBefore_36 rfl (lv_at hl 0 rfl) ?_
      refine gf_X5_16 C hR hS.1 rfl dX5_isBefore_37 ?_
      refine lv_iload_n hx hb dX5_isBefore_40 rfl (lv_at hl 2 rfl) ?_
      refine r_ialdN (k := b) C hR (RS.i hS 4 60 rfl rfl) (by omega) (by decide) rfl dX5_isBefore_41 ?_
      refine lv_icmp_ge (tgt := 49) hx hb dX5_isBefore_42 (by decide) (fun c_42 => ?_) (fun c_42 => ?_)
      · refine lv_iconst (v := 0) hx hb dX5_isBefore_49 (by decide) ?_
        exact ro_zret C hr hlk rfl (bI_f (by simp [rBefore, c_12, c_27, c_42])) dX5_isBefore_50
      · refine lv_iconst (v := 1) hx hb dX5_isBefore_45 (by decide) ?_
        refine lv_goto (tgt := 50) hx hb dX5_isBefore_46 (by decide) ?_
        exact ro_zret C hr hlk rfl (bI_t (by simp [rBefore, c_12, c_27, c_42])) dX5_isBefore_50

theorem inP_nat {x y : Int32} {n : Nat} (h : inB x 0 (y - 1) = true) (hy : y = nI n) (hn : n < 1073741824) : ∃ j, j < n ∧ x = nI j := by
  obtain ⟨h1, h2⟩ := of_decide_eq_true h
  obtain ⟨j, hj, e⟩ := nI_of h1
  refine ⟨j, ?_, e⟩
  subst hy
  rw [e] at h2
  cases n with
  | zero =>
    exact absurd (show nI 0 - 1 < nI j by
      rw [Int32.lt_iff_toInt_lt, nI_toInt hj]
      have : (nI 0 - 1).toInt = -1 := by decide
      omega) h2
  | succ n =>
    rw [nI_pred] at h2
    have := clt_f h2 (by omega) (by omega)
    omega
end
section
def rLine (v : Nat → Int32) (F : Nat → Nat → Int32) (nl : Nat) (w : Int32) : Int32 × (Nat → Int32) × (Nat → Nat → Int32) := if inB w 100 1000 = true then (if nl = 4 then (-9004, v, F) else (nI nl, va_up v 0 (nI (nl + 1)), sF F 1 nl w)) else (-9002, v, F)
set_option maxHeartbeats 4000000 in
set_option maxRecDepth 100000 in
theorem c_X5_line (l : Launch) (D : va_G) (cs : Nat → ClassId) (A : Nat → Prop) (M : wM) (X : Nat) (ad : Nat → Nat) (v : Nat → Int32) (F : Nat → Nat → Int32) (G : Nat → Nat → Int64) (hS : RS cs M X ad v F G) (nl : Nat) (hnl : v 0 = nI nl) (hl4 : nl ≤ 4) (w : Int32) : Met l yX5_line (mw yX5_line cX5_line 2 (some .int)) { frames := 1, cells := 0, slots := 0, locals := 22 } (wrP D cs A M [.ref X, .int w]) (va_Qi (fun r M' => ∃ v' F', RS cs M' X ad v' F' G ∧ (r, v', F') = rLine v F nl w) (wrB D A) A) 0 0 A := by
  refine wr_met rfl (Nat.le_of_ble_eq_true rfl) ?_
  intro p e s m below meth c ls C hW hr hlk hini hl
  have C : kx D cs p m c cX5_line 2 s _ RX5 := C
  have hx := C.1.1
  have hb := C.1.2.1
  have hl : lv_has ls 2 [(0, .ref X), (1, .int w)] := hl
  refine lv_iload_n hx hb dX5_line_0 rfl (lv_at hl 1 rfl) ?_
  refine lv_bipush (v := 100) hx hb dX5_line_1 (by decide) ?_
  refine lv_sipush (v := 1000) hx hb dX5_line_3 (by decide) ?_
  refine ro_goI (ro_S (As := [.int w, .int 100, .int 1000]) (rest := []) C hW.rd st_X5_109 (c_X5_in l D cs _ w 100 1000) ⟨rfl, rfl, Nat.le_of_ble_eq_true rfl, Nat.le_of_ble_eq_true rfl⟩ rfl hl.1 rfl (Nat.le_of_ble_eq_true rfl) dX5_line_6 ⟨Nat.le_of_ble_eq_true rfl, Nat.le_of_ble_eq_true rfl⟩) (fun r_6 h_6 => ?_)
  refine lv_if_ne (tgt := 16) hx hb dX5_line_9 (by decide) (fun c_9 => ?_) (fun c_9 => ?_)
  · have c_9 : inB w 100 1000 = true := bz1 h_6 c_9
    refine lv_aload_n hx hb dX5_line_16 rfl (lv_at hl 0 rfl) ?_
    refine gf_X5_105 C hW.rd hS.1 rfl dX5_line_17 ?_
    refine top_eq (y := nI nl) hnl ?_
    refine lv_iconst (v := 4) hx hb dX5_line_20 (by decide) ?_
    refine lv_icmp_ne (tgt := 28) hx hb dX5_line_21 (by decide) (fun c_21 => ?_) (fun c_21 => ?_)
    · have c_21 := ceq_f (a := nl) (b := 4) c_21 (by omega) (by omega)
      refine lv_aload_n hx hb dX5_line_28 rfl (lv_at hl 0 rfl) ?_
      refine gf_X5_7 C hW.rd hS.1 rfl dX5_line_29 ?_
      refine lv_aload_n hx hb dX5_line_32 rfl (lv_at hl 0 rfl) ?_
      refine gf_X5_105 C hW.rd hS.1 rfl dX5_line_33 ?_
      refine top_eq (y := nI nl) hnl ?_
      refine lv_iload_n hx hb dX5_line_36 rfl (lv_at hl 1 rfl) ?_
      refine w_iastN (k := nl) C hW (RS.i hS 1 4 rfl rfl) (by omega) (by decide) rfl dX5_line_37 (fun H locs hW => ?_)
      obtain ⟨M, F_1, eF_1, hS, hW⟩ : ∃ (M : wM) (w0 : Nat → Nat → Int32), w0 = sF F 1 nl w ∧ RS cs M X ad v w0 G ∧ wd D A M s.heap H locs := ⟨_, _, rfl, RS.setI hS 1 rfl nl w, hW⟩
      refine lv_aload_n hx hb dX5_line_38 rfl (lv_at hl 0 rfl) ?_
      refine lv_dup hx hb dX5_line_39 rfl ?_
      refine gf_X5_105 C hW.rd hS.1 rfl dX5_line_40 ?_
      refine top_eq (y := nI nl) hnl ?_
      refine lv_iconst (v := 1) hx hb dX5_line_43 (by decide) ?_
      refine lv_iadd hx hb dX5_line_44 ?_
      refine top_eq (y := nI (nl + 1)) (tn_add rfl rfl) ?_
      refine pf_X5_105 (fs2 := rFl ad (va_up v 0 (nI (nl + 1)))) C hW hS.1 (Nat.le_of_ble_eq_true rfl) rfl dX5_line_45 (fun H locs hW => ?_)
      obtain ⟨M, v_2, ev_2, hS, hW⟩ : ∃ (M : wM) (w0 : Nat → Int32), w0 = va_up v 0 (nI (nl + 1)) ∧ RS cs M X ad w0 F_1 G ∧ wd D A M s.heap H locs := ⟨_, _, rfl, RS.setV hS 0 rfl (nI (nl + 1)), hW⟩
      refine lv_aload_n hx hb dX5_line_48 rfl (lv_at hl 0 rfl) ?_
      refine gf_X5_105 C hW.rd hS.1 rfl dX5_line_49 ?_
      refine lv_iconst (v := 1) hx hb dX5_line_52 (by decide) ?_
      refine lv_isub hx hb dX5_line_53 ?_
      exact wr_iret C hW hr hlk (⟨_, _, hS, by subst ev_2 eF_1; simp [rLine, c_9, c_21, va_up, nI_pred]⟩) dX5_line_54
    · have c_21 := ceq_t (a := nl) (b := 4) c_21 (by omega) (by omega)
      refine lv_sipush (v := (-9004)) hx hb dX5_line_24 (by decide) ?_
      exact wr_iret C hW hr hlk (⟨_, _, hS, by simp [rLine, c_9, c_21, va_up, nI_pred]⟩) dX5_line_27
  · have c_9 : ¬ (inB w 100 1000 = true) := bz0 h_6 c_9
    refine lv_sipush (v := (-9002)) hx hb dX5_line_12 (by decide) ?_
    exact wr_iret C hW hr hlk (⟨_, _, hS, by simp [rLine, c_9, va_up, nI_pred]⟩) dX5_line_15

def rNote (v : Nat → Int32) (F : Nat → Nat → Int32) (nn : Nat) (ln x y up : Int32) : Int32 × (Nat → Int32) × (Nat → Nat → Int32) := if inB ln 0 (v 0 - 1) = true then (if inB x 0 (F 1 ln.toNatClampNeg) = true ∧ inB y (-100) 100 = true then (if nn = 60 then (-9004, v, F) else (nI nn, va_up v 2 (nI (nn + 1)), sF (sF (sF (sF F 3 nn ln) 4 nn x) 5 nn y) 6 nn up)) else (-9002, v, F)) else (-9001, v, F)
set_option maxHeartbeats 4000000 in
set_option maxRecDepth 100000 in
theorem c_X5_note (l : Launch) (D : va_G) (cs : Nat → ClassId) (A : Nat → Prop) (M : wM) (X : Nat) (ad : Nat → Nat) (v : Nat → Int32) (F : Nat → Nat → Int32) (G : Nat → Nat → Int64) (hS : RS cs M X ad v F G) (nl nn : Nat) (hnl : v 0 = nI nl) (hl4 : nl ≤ 4) (hnn : v 2 = nI nn) (hn60 : nn ≤ 60) (p1 x y up : Int32) (hup : up = 0 ∨ up = 1) : Met l yX5_note (mw yX5_note cX5_note 5 (some .int)) { frames := 2, cells := 0, slots := 0, locals := 43 } (wrP D cs A M [.ref X, .int p1, .int x, .int y, .int up]) (va_Qi (fun r M' => ∃ v' F', RS cs M' X ad v' F' G ∧ (r, v', F') = rNote v F nn p1 x y up) (wrB D A) A) 0 0 A := by
  refine wr_met rfl (Nat.le_of_ble_eq_true rfl) ?_
  intro p e s m below meth c ls C hW hr hlk hini hl
  have C : kx D cs p m c cX5_note 5 s _ RX5 := C
  have hx := C.1.1
  have hb := C.1.2.1
  have hl : lv_has ls 5 [(0, .ref X), (1, .int p1), (2, .int x), (3, .int y), (4, .int up)] := hl
  refine lv_aload_n hx hb dX5_note_0 rfl (lv_at hl 0 rfl) ?_
  refine lv_iload_n hx hb dX5_note_1 rfl (lv_at hl 1 rfl) ?_
  refine ro_goI (ro_V (As := [.int p1]) (rest := []) C hW.rd st_X5_116 (c_X5_isLine l D cs _ X ad v F G hS p1) hS.1 rfl rfl ⟨rfl, rfl, Nat.le_of_ble_eq_true rfl, Nat.le_of_ble_eq_true rfl⟩ rfl hl.1 rfl (Nat.le_of_ble_eq_true rfl) dX5_note_2 ⟨Nat.le_of_ble_eq_true rfl, Nat.le_of_ble_eq_true rfl⟩) (fun r_2 h_2 => ?_)
  refine lv_if_ne (tgt := 12) hx hb dX5_note_5 (by decide) (fun c_5 => ?_) (fun c_5 => ?_)
  · have c_5 : inB p1 0 (v 0 - 1) = true := bz1 h_2 c_5
    obtain ⟨j, hjj, rfl⟩ := inP_nat c_5 hnl (by omega)
    have hclj := nI_clamp (n := j) (by omega)
    refine lv_iload_n hx hb dX5_note_12 rfl (lv_at hl 2 rfl) ?_
    refine lv_iconst (v := 0) hx hb dX5_note_13 (by decide) ?_
    refine lv_aload_n hx hb dX5_note_14 rfl (lv_at hl 0 rfl) ?_
    refine gf_X5_7 C hW.rd hS.1 rfl dX5_note_15 ?_
    refine lv_iload_n hx hb dX5_note_18 rfl (lv_at hl 1 rfl) ?_
    refine r_ialdN (k := j) C hW.rd (RS.i hS 1 4 rfl rfl) (by omega) (by decide) rfl dX5_note_19 ?_
    refine ro_goI (ro_S (As := [.int x, .int 0, .int (F 1 j)]) (rest := []) C hW.rd st_X5_109 (c_X5_in l D cs _ x 0 (F 1 j)) ⟨rfl, rfl, Nat.le_of_ble_eq_true rfl, Nat.le_of_ble_eq_true rfl⟩ rfl hl.1 rfl (Nat.le_of_ble_eq_true rfl) dX5_note_20 ⟨Nat.le_of_ble_eq_true rfl, Nat.le_of_ble_eq_true rfl⟩) (fun r_20 h_20 => ?_)
    refine lv_if_eq (tgt := 37) hx hb dX5_note_23 (by decide) (fun c_23 => ?_) (fun c_23 => ?_)
    · have c_23 : ¬ (inB x 0 (F 1 j) = true) := bz0 h_20 c_23
      refine lv_sipush (v := (-9002)) hx hb dX5_note_37 (by decide) ?_
      exact wr_iret C hW hr hlk (⟨_, _, hS, by simp [rNote, c_5, c_23, hclj, va_up, nI_pred]⟩) dX5_note_40
    · have c_23 : inB x 0 (F 1 j) = true := bz1 h_20 c_23
      refine lv_iload_n hx hb dX5_note_26 rfl (lv_at hl 3 rfl) ?_
      refine lv_bipush (v := (-100)) hx hb dX5_note_27 (by decide) ?_
      refine lv_bipush (v := 100) hx hb dX5_note_29 (by decide) ?_
      refine ro_goI (ro_S (As := [.int y, .int (-100), .int 100]) (rest := []) C hW.rd st_X5_109 (c_X5_in l D cs _ y (-100) 100) ⟨rfl, rfl, Nat.le_of_ble_eq_true rfl, Nat.le_of_ble_eq_true rfl⟩ rfl hl.1 rfl (Nat.le_of_ble_eq_true rfl) dX5_note_31 ⟨Nat.le_of_ble_eq_true rfl, Nat.le_of_ble_eq_true rfl⟩) (fun r_31 h_31 => ?_)
      refine lv_if_ne (tgt := 41) hx hb dX5_note_34 (by decide) (fun c_34 => ?_) (fun c_34 => ?_)
      · have c_34 : inB y (-100) 100 = true := bz1 h_31 c_34
        refine lv_aload_n hx hb dX5_note_41 rfl (lv_at hl 0 rfl) ?_
        refine gf_X5_113 C hW.rd hS.1 rfl dX5_note_42 ?_
        refine top_eq (y := nI nn) hnn ?_
        refine lv_bipush (v := 60) hx hb dX5_note_45 (by decide) ?_
        refine lv_icmp_ne (tgt := 54) hx hb dX5_note_47 (by decide) (fun c_47 => ?_) (fun c_47 => ?_)
        · have c_47 := ceq_f (a := nn) (b := 60) c_47 (by omega) (by omega)
          refine lv_aload_n hx hb dX5_note_54 rfl (lv_at hl 0 rfl) ?_
          refine gf_X5_13 C hW.rd hS.1 rfl dX5_note_55 ?_
          refine lv_aload_n hx hb dX5_note_58 rfl (lv_at hl 0 rfl) ?_
          refine gf_X5_113 C hW.rd hS.1 rfl dX5_note_59 ?_
          refine top_eq (y := nI nn) hnn ?_
          refine lv_iload_n hx hb dX5_note_62 rfl (lv_at hl 1 rfl) ?_
          refine w_iastN (k := nn) C hW (RS.i hS 3 60 rfl rfl) (by omega) (by decide) rfl dX5_note_63 (fun H locs hW => ?_)
          obtain ⟨M, F_1, eF_1, hS, hW⟩ : ∃ (M : wM) (w0 : Nat → Nat → Int32), w0 = sF F 3 nn (nI j) ∧ RS cs M X ad v w0 G ∧ wd D A M s.heap H locs := ⟨_, _, rfl, RS.setI hS 3 rfl nn (nI j), hW⟩
          refine lv_aload_n hx hb dX5_note_64 rfl (lv_at hl 0 rfl) ?_
          refine gf_X5_16 C hW.rd hS.1 rfl dX5_note_65 ?_
          refine lv_aload_n hx hb dX5_note_68 rfl (lv_at hl 0 rfl) ?_
          refine gf_X5_113 C hW.rd hS.1 rfl dX5_note_69 ?_
          refine top_eq (y := nI nn) hnn ?_
          refine lv_iload_n hx hb dX5_note_72 rfl (lv_at hl 2 rfl) ?_
          refine w_iastN (k := nn) C hW (RS.i hS 4 60 rfl rfl) (by omega) (by decide) rfl dX5_note_73 (fun H locs hW => ?_)
          obtain ⟨M, F_2, eF_2, hS, hW⟩ : ∃ (M : wM) (w0 : Nat → Nat → Int32), w0 = sF F_1 4 nn x ∧ RS cs M X ad v w0 G ∧ wd D A M s.heap H locs := ⟨_, _, rfl, RS.setI hS 4 rfl nn x, hW⟩
          refine lv_aload_n hx hb dX5_note_74 rfl (lv_at hl 0 rfl) ?_
          refine gf_X5_19 C hW.rd hS.1 rfl dX5_note_75 ?_
          refine lv_aload_n hx hb dX5_note_78 rfl (lv_at hl 0 rfl) ?_
          refine gf_X5_113 C hW.rd hS.1 rfl dX5_note_79 ?_
          refine top_eq (y := nI nn) hnn ?_
          refine lv_iload_n hx hb dX5_note_82 rfl (lv_at hl 3 rfl) ?_
          refine w_iastN (k := nn) C hW (RS.i hS 5 60 rfl rfl) (by omega) (by decide) rfl dX5_note_83 (fun H locs hW => ?_)
          obtain ⟨M, F_3, eF_3, hS, hW⟩ : ∃ (M : wM) (w0 : Nat → Nat → Int32), w0 = sF F_2 5 nn y ∧ RS cs M X ad v w0 G ∧ wd D A M s.heap H locs := ⟨_, _, rfl, RS.setI hS 5 rfl nn y, hW⟩
          refine lv_aload_n hx hb dX5_note_84 rfl (lv_at hl 0 rfl) ?_
          refine gf_X5_22 C hW.rd hS.1 rfl dX5_note_85 ?_
          refine lv_aload_n hx hb dX5_note_88 rfl (lv_at hl 0 rfl) ?_
          refine gf_X5_113 C hW.rd hS.1 rfl dX5_note_89 ?_
          refine top_eq (y := nI nn) hnn ?_
          refine lv_iload hx hb dX5_note_92 (lv_at hl 4 rfl) ?_
          refine w_zastN (k := nn) C hW (RS.z hS 6 60 rfl rfl) (by omega) (by decide) hup rfl dX5_note_94 (fun H locs hW => ?_)
          obtain ⟨M, F_4, eF_4, hS, hW⟩ : ∃ (M : wM) (w0 : Nat → Nat → Int32), w0 = sF F_3 6 nn up ∧ RS cs M X ad v w0 G ∧ wd D A M s.heap H locs := ⟨_, _, rfl, RS.setZ hS 6 rfl nn up, hW⟩
          refine lv_aload_n hx hb dX5_note_95 rfl (lv_at hl 0 rfl) ?_
          refine lv_dup hx hb dX5_note_96 rfl ?_
          refine gf_X5_113 C hW.rd hS.1 rfl dX5_note_97 ?_
          refine top_eq (y := nI nn) hnn ?_
          refine lv_iconst (v := 1) hx hb dX5_note_100 (by decide) ?_
          refine lv_iadd hx hb dX5_note_101 ?_
          refine top_eq (y := nI (nn + 1)) (tn_add rfl rfl) ?_
          refine pf_X5_113 (fs2 := rFl ad (va_up v 2 (nI (nn + 1)))) C hW hS.1 (Nat.le_of_ble_eq_true rfl) rfl dX5_note_102 (fun H locs hW => ?_)
          obtain ⟨M, v_5, ev_5, hS, hW⟩ : ∃ (M : wM) (w0 : Nat → Int32), w0 = va_up v 2 (nI (nn + 1)) ∧ RS cs M X ad w0 F_4 G ∧ wd D A M s.heap H locs := ⟨_, _, rfl, RS.setV hS 2 rfl (nI (nn + 1)), hW⟩
          refine lv_aload_n hx hb dX5_note_105 rfl (lv_at hl 0 rfl) ?_
          refine gf_X5_113 C hW.rd hS.1 rfl dX5_note_106 ?_
          refine lv_iconst (v := 1) hx hb dX5_note_109 (by decide) ?_
          refine lv_isub hx hb dX5_note_110 ?_
          exact wr_iret C hW hr hlk (⟨_, _, hS, by subst ev_5 eF_4 eF_3 eF_2 eF_1; simp [rNote, c_5, c_23, c_34, c_47, hclj, va_up, nI_pred]⟩) dX5_note_111
        · have c_47 := ceq_t (a := nn) (b := 60) c_47 (by omega) (by omega)
          refine lv_sipush (v := (-9004)) hx hb dX5_note_50 (by decide) ?_
          exact wr_iret C hW hr hlk (⟨_, _, hS, by simp [rNote, c_5, c_23, c_34, c_47, hclj, va_up, nI_pred]⟩) dX5_note_53
      · have c_34 : ¬ (inB y (-100) 100 = true) := bz0 h_31 c_34
        refine lv_sipush (v := (-9002)) hx hb dX5_note_37 (by decide) ?_
        exact wr_iret C hW hr hlk (⟨_, _, hS, by simp [rNote, c_5, c_23, c_34, hclj, va_up, nI_pred]⟩) dX5_note_40
  · have c_5 : ¬ (inB p1 0 (v 0 - 1) = true) := bz0 h_2 c_5
    refine lv_sipush (v := (-9001)) hx hb dX5_note_8 (by decide) ?_
    exact wr_iret C hW hr hlk (⟨_, _, hS, by simp [rNote, c_5, va_up, nI_pred]⟩) dX5_note_11

def rMark (v : Nat → Int32) (F : Nat → Nat → Int32) (nm : Nat) (ln x y w h : Int32) : Int32 × (Nat → Int32) × (Nat → Nat → Int32) := if inB ln 0 (v 0 - 1) = true then (if inB x 0 (F 1 ln.toNatClampNeg) = true ∧ inB y (-200) 200 = true ∧ inB w 1 200 = true ∧ inB h 1 200 = true then (if nm = 40 then (-9004, v, F) else (nI (nm + 1), va_up v 7 (nI (nm + 1)), sF (sF (sF (sF (sF F 8 nm ln) 9 nm x) 10 nm y) 11 nm w) 12 nm h)) else (-9002, v, F)) else (-9001, v, F)
set_option maxHeartbeats 4000000 in
set_option maxRecDepth 100000 in
theorem c_X5_mark (l : Launch) (D : va_G) (cs : Nat → ClassId) (A : Nat → Prop) (M : wM) (X : Nat) (ad : Nat → Nat) (v : Nat → Int32) (F : Nat → Nat → Int32) (G : Nat → Nat → Int64) (hS : RS cs M X ad v F G) (nl nm : Nat) (hnl : v 0 = nI nl) (hl4 : nl ≤ 4) (hnm : v 7 = nI nm) (hn40 : nm ≤ 40) (p1 x y w h : Int32) : Met l yX5_mark (mw yX5_mark cX5_mark 6 (some .int)) { frames := 2, cells := 0, slots := 0, locals := 43 } (wrP D cs A M [.ref X, .int p1, .int x, .int y, .int w, .int h]) (va_Qi (fun r M' => ∃ v' F', RS cs M' X ad v' F' G ∧ (r, v', F') = rMark v F nm p1 x y w h) (wrB D A) A) 0 0 A := by
  refine wr_met rfl (Nat.le_of_ble_eq_true rfl) ?_
  intro p e s m below meth c ls C hW hr hlk hini hl
  have C : kx D cs p m c cX5_mark 6 s _ RX5 := C
  have hx := C.1.1
  have hb := C.1.2.1
  have hl : lv_has ls 6 [(0, .ref X), (1, .int p1), (2, .int x), (3, .int y), (4, .int w), (5, .int h)] := hl
  refine lv_aload_n hx hb dX5_mark_0 rfl (lv_at hl 0 rfl) ?_
  refine lv_iload_n hx hb dX5_mark_1 rfl (lv_at hl 1 rfl) ?_
  refine ro_goI (ro_V (As := [.int p1]) (rest := []) C hW.rd st_X5_116 (c_X5_isLine l D cs _ X ad v F G hS p1) hS.1 rfl rfl ⟨rfl, rfl, Nat.le_of_ble_eq_true rfl, Nat.le_of_ble_eq_true rfl⟩ rfl hl.1 rfl (Nat.le_of_ble_eq_true rfl) dX5_mark_2 ⟨Nat.le_of_ble_eq_true rfl, Nat.le_of_ble_eq_true rfl⟩) (fun r_2 h_2 => ?_)
  refine lv_if_ne (tgt := 12) hx hb dX5_mark_5 (by decide) (fun c_5 => ?_) (fun c_5 => ?_)
  · have c_5 : inB p1 0 (v 0 - 1) = true := bz1 h_2 c_5
    obtain ⟨j, hjj, rfl⟩ := inP_nat c_5 hnl (by omega)
    have hclj := nI_clamp (n := j) (by omega)
    refine lv_iload_n hx hb dX5_mark_12 rfl (lv_at hl 2 rfl) ?_
    refine lv_iconst (v := 0) hx hb dX5_mark_13 (by decide) ?_
    refine lv_aload_n hx hb dX5_mark_14 rfl (lv_at hl 0 rfl) ?_
    refine gf_X5_7 C hW.rd hS.1 rfl dX5_mark_15 ?_
    refine lv_iload_n hx hb dX5_mark_18 rfl (lv_at hl 1 rfl) ?_
    refine r_ialdN (k := j) C hW.rd (RS.i hS 1 4 rfl rfl) (by omega) (by decide) rfl dX5_mark_19 ?_
    refine ro_goI (ro_S (As := [.int x, .int 0, .int (F 1 j)]) (rest := []) C hW.rd st_X5_109 (c_X5_in l D cs _ x 0 (F 1 j)) ⟨rfl, rfl, Nat.le_of_ble_eq_true rfl, Nat.le_of_ble_eq_true rfl⟩ rfl hl.1 rfl (Nat.le_of_ble_eq_true rfl) dX5_mark_20 ⟨Nat.le_of_ble_eq_true rfl, Nat.le_of_ble_eq_true rfl⟩) (fun r_20 h_20 => ?_)
    refine lv_if_eq (tgt := 63) hx hb dX5_mark_23 (by decide) (fun c_23 => ?_) (fun c_23 => ?_)
    · have c_23 : ¬ (inB x 0 (F 1 j) = true) := bz0 h_20 c_23
      refine lv_sipush (v := (-9002)) hx hb dX5_mark_63 (by decide) ?_
      exact wr_iret C hW hr hlk (⟨_, _, hS, by simp [rMark, c_5, c_23, hclj, va_up, nI_pred]⟩) dX5_mark_66
    · have c_23 : inB x 0 (F 1 j) = true := bz1 h_20 c_23
      refine lv_iload_n hx hb dX5_mark_26 rfl (lv_at hl 3 rfl) ?_
      refine lv_sipush (v := (-200)) hx hb dX5_mark_27 (by decide) ?_
      refine lv_sipush (v := 200) hx hb dX5_mark_30 (by decide) ?_
      refine ro_goI (ro_S (As := [.int y, .int (-200), .int 200]) (rest := []) C hW.rd st_X5_109 (c_X5_in l D cs _ y (-200) 200) ⟨rfl, rfl, Nat.le_of_ble_eq_true rfl, Nat.le_of_ble_eq_true rfl⟩ rfl hl.1 rfl (Nat.le_of_ble_eq_true rfl) dX5_mark_33 ⟨Nat.le_of_ble_eq_true rfl, Nat.le_of_ble_eq_true rfl⟩) (fun r_33 h_33 => ?_)
      refine lv_if_eq (tgt := 63) hx hb dX5_mark_36 (by decide) (fun c_36 => ?_) (fun c_36 => ?_)
      · have c_36 : ¬ (inB y (-200) 200 = true) := bz0 h_33 c_36
        refine lv_sipush (v := (-9002)) hx hb dX5_mark_63 (by decide) ?_
        exact wr_iret C hW hr hlk (⟨_, _, hS, by simp [rMark, c_5, c_23, c_36, hclj, va_up, nI_pred]⟩) dX5_mark_66
      · have c_36 : inB y (-200) 200 = true := bz1 h_33 c_36
        refine lv_iload hx hb dX5_mark_39 (lv_at hl 4 rfl) ?_
        refine lv_iconst (v := 1) hx hb dX5_mark_41 (by decide) ?_
        refine lv_sipush (v := 200) hx hb dX5_mark_42 (by decide) ?_
        refine ro_goI (ro_S (As := [.int w, .int 1, .int 200]) (rest := []) C hW.rd st_X5_109 (c_X5_in l D cs _ w 1 200) ⟨rfl, rfl, Nat.le_of_ble_eq_true rfl, Nat.le_of_ble_eq_true rfl⟩ rfl hl.1 rfl (Nat.le_of_ble_eq_true rfl) dX5_mark_45 ⟨Nat.le_of_ble_eq_true rfl, Nat.le_of_ble_eq_true rfl⟩) (fun r_45 h_45 => ?_)
        refine lv_if_eq (tgt := 63) hx hb dX5_mark_48 (by decide) (fun c_48 => ?_) (fun c_48 => ?_)
        · have c_48 : ¬ (inB w 1 200 = true) := bz0 h_45 c_48
          refine lv_sipush (v := (-9002)) hx hb dX5_mark_63 (by decide) ?_
          exact wr_iret C hW hr hlk (⟨_, _, hS, by simp [rMark, c_5, c_23, c_36, c_48, hclj, va_up, nI_pred]⟩) dX5_mark_66
        · have c_48 : inB w 1 200 = true := bz1 h_45 c_48
          refine lv_iload hx hb dX5_mark_51 (lv_at hl 5 rfl) ?_
          refine lv_iconst (v := 1) hx hb dX5_mark_53 (by decide) ?_
          refine lv_sipush (v := 200) hx hb dX5_mark_54 (by decide) ?_
          refine ro_goI (ro_S (As := [.int h, .int 1, .int 200]) (rest := []) C hW.rd st_X5_109 (c_X5_in l D cs _ h 1 200) ⟨rfl, rfl, Nat.le_of_ble_eq_true rfl, Nat.le_of_ble_eq_true rfl⟩ rfl hl.1 rfl (Nat.le_of_ble_eq_true rfl) dX5_mark_57 ⟨Nat.le_of_ble_eq_true rfl, Nat.le_of_ble_eq_true rfl⟩) (fun r_57 h_57 => ?_)
          refine lv_if_ne (tgt := 67) hx hb dX5_mark_60 (by decide) (fun c_60 => ?_) (fun c_60 => ?_)
          · have c_60 : inB h 1 200 = true := bz1 h_57 c_60
            refine lv_aload_n hx hb dX5_mark_67 rfl (lv_at hl 0 rfl) ?_
            refine gf_X5_120 C hW.rd hS.1 rfl dX5_mark_68 ?_
            refine top_eq (y := nI nm) hnm ?_
            refine lv_bipush (v := 40) hx hb dX5_mark_71 (by decide) ?_
            refine lv_icmp_ne (tgt := 80) hx hb dX5_mark_73 (by decide) (fun c_73 => ?_) (fun c_73 => ?_)
            · have c_73 := ceq_f (a := nm) (b := 40) c_73 (by omega) (by omega)
              refine lv_aload_n hx hb dX5_mark_80 rfl (lv_at hl 0 rfl) ?_
              refine gf_X5_26 C hW.rd hS.1 rfl dX5_mark_81 ?_
              refine lv_aload_n hx hb dX5_mark_84 rfl (lv_at hl 0 rfl) ?_
              refine gf_X5_120 C hW.rd hS.1 rfl dX5_mark_85 ?_
              refine top_eq (y := nI nm) hnm ?_
              refine lv_iload_n hx hb dX5_mark_88 rfl (lv_at hl 1 rfl) ?_
              refine w_iastN (k := nm) C hW (RS.i hS 8 40 rfl rfl) (by omega) (by decide) rfl dX5_mark_89 (fun H locs hW => ?_)
              obtain ⟨M, F_1, eF_1, hS, hW⟩ : ∃ (M : wM) (w0 : Nat → Nat → Int32), w0 = sF F 8 nm (nI j) ∧ RS cs M X ad v w0 G ∧ wd D A M s.heap H locs := ⟨_, _, rfl, RS.setI hS 8 rfl nm (nI j), hW⟩
              refine lv_aload_n hx hb dX5_mark_90 rfl (lv_at hl 0 rfl) ?_
              refine gf_X5_29 C hW.rd hS.1 rfl dX5_mark_91 ?_
              refine lv_aload_n hx hb dX5_mark_94 rfl (lv_at hl 0 rfl) ?_
              refine gf_X5_120 C hW.rd hS.1 rfl dX5_mark_95 ?_
              refine top_eq (y := nI nm) hnm ?_
              refine lv_iload_n hx hb dX5_mark_98 rfl (lv_at hl 2 rfl) ?_
              refine w_iastN (k := nm) C hW (RS.i hS 9 40 rfl rfl) (by omega) (by decide) rfl dX5_mark_99 (fun H locs hW => ?_)
              obtain ⟨M, F_2, eF_2, hS, hW⟩ : ∃ (M : wM) (w0 : Nat → Nat → Int32), w0 = sF F_1 9 nm x ∧ RS cs M X ad v w0 G ∧ wd D A M s.heap H locs := ⟨_, _, rfl, RS.setI hS 9 rfl nm x, hW⟩
              refine lv_aload_n hx hb dX5_mark_100 rfl (lv_at hl 0 rfl) ?_
              refine gf_X5_32 C hW.rd hS.1 rfl dX5_mark_101 ?_
              refine lv_aload_n hx hb dX5_mark_104 rfl (lv_at hl 0 rfl) ?_
              refine gf_X5_120 C hW.rd hS.1 rfl dX5_mark_105 ?_
              refine top_eq (y := nI nm) hnm ?_
              refine lv_iload_n hx hb dX5_mark_108 rfl (lv_at hl 3 rfl) ?_
              refine w_iastN (k := nm) C hW (RS.i hS 10 40 rfl rfl) (by omega) (by decide) rfl dX5_mark_109 (fun H locs hW => ?_)
              obtain ⟨M, F_3, eF_3, hS, hW⟩ : ∃ (M : wM) (w0 : Nat → Nat → Int32), w0 = sF F_2 10 nm y ∧ RS cs M X ad v w0 G ∧ wd D A M s.heap H locs := ⟨_, _, rfl, RS.setI hS 10 rfl nm y, hW⟩
              refine lv_aload_n hx hb dX5_mark_110 rfl (lv_at hl 0 rfl) ?_
              refine gf_X5_35 C hW.rd hS.1 rfl dX5_mark_111 ?_
              refine lv_aload_n hx hb dX5_mark_114 rfl (lv_at hl 0 rfl) ?_
              refine gf_X5_120 C hW.rd hS.1 rfl dX5_mark_115 ?_
              refine top_eq (y := nI nm) hnm ?_
              refine lv_iload hx hb dX5_mark_118 (lv_at hl 4 rfl) ?_
              refine w_iastN (k := nm) C hW (RS.i hS 11 40 rfl rfl) (by omega) (by decide) rfl dX5_mark_120 (fun H locs hW => ?_)
              obtain ⟨M, F_4, eF_4, hS, hW⟩ : ∃ (M : wM) (w0 : Nat → Nat → Int32), w0 = sF F_3 11 nm w ∧ RS cs M X ad v w0 G ∧ wd D A M s.heap H locs := ⟨_, _, rfl, RS.setI hS 11 rfl nm w, hW⟩
              refine lv_aload_n hx hb dX5_mark_121 rfl (lv_at hl 0 rfl) ?_
              refine gf_X5_38 C hW.rd hS.1 rfl dX5_mark_122 ?_
              refine lv_aload_n hx hb dX5_mark_125 rfl (lv_at hl 0 rfl) ?_
              refine gf_X5_120 C hW.rd hS.1 rfl dX5_mark_126 ?_
              refine top_eq (y := nI nm) hnm ?_
              refine lv_iload hx hb dX5_mark_129 (lv_at hl 5 rfl) ?_
              refine w_iastN (k := nm) C hW (RS.i hS 12 40 rfl rfl) (by omega) (by decide) rfl dX5_mark_131 (fun H locs hW => ?_)
              obtain ⟨M, F_5, eF_5, hS, hW⟩ : ∃ (M : wM) (w0 : Nat → Nat → Int32), w0 = sF F_4 12 nm h ∧ RS cs M X ad v w0 G ∧ wd D A M s.heap H locs := ⟨_, _, rfl, RS.setI hS 12 rfl nm h, hW⟩
              refine lv_aload_n hx hb dX5_mark_132 rfl (lv_at hl 0 rfl) ?_
              refine lv_dup hx hb dX5_mark_133 rfl ?_
              refine gf_X5_120 C hW.rd hS.1 rfl dX5_mark_134 ?_
              refine top_eq (y := nI nm) hnm ?_
              refine lv_iconst (v := 1) hx hb dX5_mark_137 (by decide) ?_
              refine lv_iadd hx hb dX5_mark_138 ?_
              refine top_eq (y := nI (nm + 1)) (tn_add rfl rfl) ?_
              refine pf_X5_120 (fs2 := rFl ad (va_up v 7 (nI (nm + 1)))) C hW hS.1 (Nat.le_of_ble_eq_true rfl) rfl dX5_mark_139 (fun H locs hW => ?_)
              obtain ⟨M, v_6, ev_6, hS, hW⟩ : ∃ (M : wM) (w0 : Nat → Int32), w0 = va_up v 7 (nI (nm + 1)) ∧ RS cs M X ad w0 F_5 G ∧ wd D A M s.heap H locs := ⟨_, _, rfl, RS.setV hS 7 rfl (nI (nm + 1)), hW⟩
              refine lv_aload_n hx hb dX5_mark_142 rfl (lv_at hl 0 rfl) ?_
              refine gf_X5_120 C hW.rd hS.1 rfl dX5_mark_143 ?_
              exact wr_iret C hW hr hlk (⟨_, _, hS, by subst ev_6 eF_5 eF_4 eF_3 eF_2 eF_1; simp [rMark, c_5, c_23, c_36, c_48, c_60, c_73, hclj, va_up, nI_pred]⟩) dX5_mark_146
            · have c_73 := ceq_t (a := nm) (b := 40) c_73 (by omega) (by omega)
              refine lv_sipush (v := (-9004)) hx hb dX5_mark_76 (by decide) ?_
              exact wr_iret C hW hr hlk (⟨_, _, hS, by simp [rMark, c_5, c_23, c_36, c_48, c_60, c_73, hclj, va_up, nI_pred]⟩) dX5_mark_79
          · have c_60 : ¬ (inB h 1 200 = true) := bz0 h_57 c_60
            refine lv_sipush (v := (-9002)) hx hb dX5_mark_63 (by decide) ?_
            exact wr_iret C hW hr hlk (⟨_, _, hS, by simp [rMark, c_5, c_23, c_36, c_48, c_60, hclj, va_up, nI_pred]⟩) dX5_mark_66
  · have c_5 : ¬ (inB p1 0 (v 0 - 1) = true) := bz0 h_2 c_5
    refine lv_sipush (v := (-9001)) hx hb dX5_mark_8 (by decide) ?_
    exact wr_iret C hW hr hlk (⟨_, _, hS, by simp [rMark, c_5, va_up, nI_pred]⟩) dX5_mark_11

def rWedge (v : Nat → Int32) (F : Nat → Nat → Int32) (nw : Nat) (ln x z y h : Int32) : Int32 × (Nat → Int32) × (Nat → Nat → Int32) := if inB ln 0 (v 0 - 1) = true then (if inB x 0 (F 1 ln.toNatClampNeg) = true ∧ inB z 0 (F 1 ln.toNatClampNeg) = true ∧ ¬ x = z ∧ inB y (-200) 200 = true ∧ inB h 1 40 = true then (if nw = 12 then (-9004, v, F) else (nI (nw + 1), va_up v 13 (nI (nw + 1)), sF (sF (sF (sF (sF F 14 nw ln) 15 nw x) 16 nw z) 17 nw y) 18 nw h)) else (-9002, v, F)) else (-9001, v, F)
set_option maxHeartbeats 4000000 in
set_option maxRecDepth 100000 in
theorem c_X5_wedge (l : Launch) (D : va_G) (cs : Nat → ClassId) (A : Nat → Prop) (M : wM) (X : Nat) (ad : Nat → Nat) (v : Nat → Int32) (F : Nat → Nat → Int32) (G : Nat → Nat → Int64) (hS : RS cs M X ad v F G) (nl nw : Nat) (hnl : v 0 = nI nl) (hl4 : nl ≤ 4) (hnw : v 13 = nI nw) (hn12 : nw ≤ 12) (p1 x z y h : Int32) : Met l yX5_wedge (mw yX5_wedge cX5_wedge 6 (some .int)) { frames := 2, cells := 0, slots := 0, locals := 43 } (wrP D cs A M [.ref X, .int p1, .int x, .int z, .int y, .int h]) (va_Qi (fun r M' => ∃ v' F', RS cs M' X ad v' F' G ∧ (r, v', F') = rWedge v F nw p1 x z y h) (wrB D A) A) 0 0 A := by
  refine wr_met rfl (Nat.le_of_ble_eq_true rfl) ?_
  intro p e s m below meth c ls C hW hr hlk hini hl
  have C : kx D cs p m c cX5_wedge 6 s _ RX5 := C
  have hx := C.1.1
  have hb := C.1.2.1
  have hl : lv_has ls 6 [(0, .ref X), (1, .int p1), (2, .int x), (3, .int z), (4, .int y), (5, .int h)] := hl
  refine lv_aload_n hx hb dX5_wedge_0 rfl (lv_at hl 0 rfl) ?_
  refine lv_iload_n hx hb dX5_wedge_1 rfl (lv_at hl 1 rfl) ?_
  refine ro_goI (ro_V (As := [.int p1]) (rest := []) C hW.rd st_X5_116 (c_X5_isLine l D cs _ X ad v F G hS p1) hS.1 rfl rfl ⟨rfl, rfl, Nat.le_of_ble_eq_true rfl, Nat.le_of_ble_eq_true rfl⟩ rfl hl.1 rfl (Nat.le_of_ble_eq_true rfl) dX5_wedge_2 ⟨Nat.le_of_ble_eq_true rfl, Nat.le_of_ble_eq_true rfl⟩) (fun r_2 h_2 => ?_)
  refine lv_if_ne (tgt := 12) hx hb dX5_wedge_5 (by decide) (fun c_5 => ?_) (fun c_5 => ?_)
  · have c_5 : inB p1 0 (v 0 - 1) = true := bz1 h_2 c_5
    obtain ⟨j, hjj, rfl⟩ := inP_nat c_5 hnl (by omega)
    have hclj := nI_clamp (n := j) (by omega)
    refine lv_iload_n hx hb dX5_wedge_12 rfl (lv_at hl 2 rfl) ?_
    refine lv_iconst (v := 0) hx hb dX5_wedge_13 (by decide) ?_
    refine lv_aload_n hx hb dX5_wedge_14 rfl (lv_at hl 0 rfl) ?_
    refine gf_X5_7 C hW.rd hS.1 rfl dX5_wedge_15 ?_
    refine lv_iload_n hx hb dX5_wedge_18 rfl (lv_at hl 1 rfl) ?_
    refine r_ialdN (k := j) C hW.rd (RS.i hS 1 4 rfl rfl) (by omega) (by decide) rfl dX5_wedge_19 ?_
    refine ro_goI (ro_S (As := [.int x, .int 0, .int (F 1 j)]) (rest := []) C hW.rd st_X5_109 (c_X5_in l D cs _ x 0 (F 1 j)) ⟨rfl, rfl, Nat.le_of_ble_eq_true rfl, Nat.le_of_ble_eq_true rfl⟩ rfl hl.1 rfl (Nat.le_of_ble_eq_true rfl) dX5_wedge_20 ⟨Nat.le_of_ble_eq_true rfl, Nat.le_of_ble_eq_true rfl⟩) (fun r_20 h_20 => ?_)
    refine lv_if_eq (tgt := 70) hx hb dX5_wedge_23 (by decide) (fun c_23 => ?_) (fun c_23 => ?_)
    · have c_23 : ¬ (inB x 0 (F 1 j) = true) := bz0 h_20 c_23
      refine lv_sipush (v := (-9002)) hx hb dX5_wedge_70 (by decide) ?_
      exact wr_iret C hW hr hlk (⟨_, _, hS, by simp [rWedge, c_5, c_23, hclj, va_up, nI_pred]⟩) dX5_wedge_73
    · have c_23 : inB x 0 (F 1 j) = true := bz1 h_20 c_23
      refine lv_iload_n hx hb dX5_wedge_26 rfl (lv_at hl 3 rfl) ?_
      refine lv_iconst (v := 0) hx hb dX5_wedge_27 (by decide) ?_
      refine lv_aload_n hx hb dX5_wedge_28 rfl (lv_at hl 0 rfl) ?_
      refine gf_X5_7 C hW.rd hS.1 rfl dX5_wedge_29 ?_
      refine lv_iload_n hx hb dX5_wedge_32 rfl (lv_at hl 1 rfl) ?_
      refine r_ialdN (k := j) C hW.rd (RS.i hS 1 4 rfl rfl) (by omega) (by decide) rfl dX5_wedge_33 ?_
      refine ro_goI (ro_S (As := [.int z, .int 0, .int (F 1 j)]) (rest := []) C hW.rd st_X5_109 (c_X5_in l D cs _ z 0 (F 1 j)) ⟨rfl, rfl, Nat.le_of_ble_eq_true rfl, Nat.le_of_ble_eq_true rfl⟩ rfl hl.1 rfl (Nat.le_of_ble_eq_true rfl) dX5_wedge_34 ⟨Nat.le_of_ble_eq_true rfl, Nat.le_of_ble_eq_true rfl⟩) (fun r_34 h_34 => ?_)
      refine lv_if_eq (tgt := 70) hx hb dX5_wedge_37 (by decide) (fun c_37 => ?_) (fun c_37 => ?_)
      · have c_37 : ¬ (inB z 0 (F 1 j) = true) := bz0 h_34 c_37
        refine lv_sipush (v := (-9002)) hx hb dX5_wedge_70 (by decide) ?_
        exact wr_iret C hW hr hlk (⟨_, _, hS, by simp [rWedge, c_5, c_23, c_37, hclj, va_up, nI_pred]⟩) dX5_wedge_73
      · have c_37 : inB z 0 (F 1 j) = true := bz1 h_34 c_37
        refine lv_iload_n hx hb dX5_wedge_40 rfl (lv_at hl 2 rfl) ?_
        refine lv_iload_n hx hb dX5_wedge_41 rfl (lv_at hl 3 rfl) ?_
        refine lv_icmp_eq (tgt := 70) hx hb dX5_wedge_42 (by decide) (fun c_42 => ?_) (fun c_42 => ?_)
        · refine lv_sipush (v := (-9002)) hx hb dX5_wedge_70 (by decide) ?_
          exact wr_iret C hW hr hlk (⟨_, _, hS, by simp [rWedge, c_5, c_23, c_37, c_42, hclj, va_up, nI_pred]⟩) dX5_wedge_73
        · refine lv_iload hx hb dX5_wedge_45 (lv_at hl 4 rfl) ?_
          refine lv_sipush (v := (-200)) hx hb dX5_wedge_47 (by decide) ?_
          refine lv_sipush (v := 200) hx hb dX5_wedge_50 (by decide) ?_
          refine ro_goI (ro_S (As := [.int y, .int (-200), .int 200]) (rest := []) C hW.rd st_X5_109 (c_X5_in l D cs _ y (-200) 200) ⟨rfl, rfl, Nat.le_of_ble_eq_true rfl, Nat.le_of_ble_eq_true rfl⟩ rfl hl.1 rfl (Nat.le_of_ble_eq_true rfl) dX5_wedge_53 ⟨Nat.le_of_ble_eq_true rfl, Nat.le_of_ble_eq_true rfl⟩) (fun r_53 h_53 => ?_)
          refine lv_if_eq (tgt := 70) hx hb dX5_wedge_56 (by decide) (fun c_56 => ?_) (fun c_56 => ?_)
          · have c_56 : ¬ (inB y (-200) 200 = true) := bz0 h_53 c_56
            refine lv_sipush (v := (-9002)) hx hb dX5_wedge_70 (by decide) ?_
            exact wr_iret C hW hr hlk (⟨_, _, hS, by simp [rWedge, c_5, c_23, c_37, c_42, c_56, hclj, va_up, nI_pred]⟩) dX5_wedge_73
          · have c_56 : inB y (-200) 200 = true := bz1 h_53 c_56
            refine lv_iload hx hb dX5_wedge_59 (lv_at hl 5 rfl) ?_
            refine lv_iconst (v := 1) hx hb dX5_wedge_61 (by decide) ?_
            refine lv_bipush (v := 40) hx hb dX5_wedge_62 (by decide) ?_
            refine ro_goI (ro_S (As := [.int h, .int 1, .int 40]) (rest := []) C hW.rd st_X5_109 (c_X5_in l D cs _ h 1 40) ⟨rfl, rfl, Nat.le_of_ble_eq_true rfl, Nat.le_of_ble_eq_true rfl⟩ rfl hl.1 rfl (Nat.le_of_ble_eq_true rfl) dX5_wedge_64 ⟨Nat.le_of_ble_eq_true rfl, Nat.le_of_ble_eq_true rfl⟩) (fun r_64 h_64 => ?_)
            refine lv_if_ne (tgt := 74) hx hb dX5_wedge_67 (by decide) (fun c_67 => ?_) (fun c_67 => ?_)
            · have c_67 : inB h 1 40 = true := bz1 h_64 c_67
              refine lv_aload_n hx hb dX5_wedge_74 rfl (lv_at hl 0 rfl) ?_
              refine gf_X5_123 C hW.rd hS.1 rfl dX5_wedge_75 ?_
              refine top_eq (y := nI nw) hnw ?_
              refine lv_bipush (v := 12) hx hb dX5_wedge_78 (by decide) ?_
              refine lv_icmp_ne (tgt := 87) hx hb dX5_wedge_80 (by decide) (fun c_80 => ?_) (fun c_80 => ?_)
              · have c_80 := ceq_f (a := nw) (b := 12) c_80 (by omega) (by omega)
                refine lv_aload_n hx hb dX5_wedge_87 rfl (lv_at hl 0 rfl) ?_
                refine gf_X5_41 C hW.rd hS.1 rfl dX5_wedge_88 ?_
                refine lv_aload_n hx hb dX5_wedge_91 rfl (lv_at hl 0 rfl) ?_
                refine gf_X5_123 C hW.rd hS.1 rfl dX5_wedge_92 ?_
                refine top_eq (y := nI nw) hnw ?_
                refine lv_iload_n hx hb dX5_wedge_95 rfl (lv_at hl 1 rfl) ?_
                refine w_iastN (k := nw) C hW (RS.i hS 14 12 rfl rfl) (by omega) (by decide) rfl dX5_wedge_96 (fun H locs hW => ?_)
                obtain ⟨M, F_1, eF_1, hS, hW⟩ : ∃ (M : wM) (w0 : Nat → Nat → Int32), w0 = sF F 14 nw (nI j) ∧ RS cs M X ad v w0 G ∧ wd D A M s.heap H locs := ⟨_, _, rfl, RS.setI hS 14 rfl nw (nI j), hW⟩
                refine lv_aload_n hx hb dX5_wedge_97 rfl (lv_at hl 0 rfl) ?_
                refine gf_X5_44 C hW.rd hS.1 rfl dX5_wedge_98 ?_
                refine lv_aload_n hx hb dX5_wedge_101 rfl (lv_at hl 0 rfl) ?_
                refine gf_X5_123 C hW.rd hS.1 rfl dX5_wedge_102 ?_
                refine top_eq (y := nI nw) hnw ?_
                refine lv_iload_n hx hb dX5_wedge_105 rfl (lv_at hl 2 rfl) ?_
                refine w_iastN (k := nw) C hW (RS.i hS 15 12 rfl rfl) (by omega) (by decide) rfl dX5_wedge_106 (fun H locs hW => ?_)
                obtain ⟨M, F_2, eF_2, hS, hW⟩ : ∃ (M : wM) (w0 : Nat → Nat → Int32), w0 = sF F_1 15 nw x ∧ RS cs M X ad v w0 G ∧ wd D A M s.heap H locs := ⟨_, _, rfl, RS.setI hS 15 rfl nw x, hW⟩
                refine lv_aload_n hx hb dX5_wedge_107 rfl (lv_at hl 0 rfl) ?_
                refine gf_X5_47 C hW.rd hS.1 rfl dX5_wedge_108 ?_
                refine lv_aload_n hx hb dX5_wedge_111 rfl (lv_at hl 0 rfl) ?_
                refine gf_X5_123 C hW.rd hS.1 rfl dX5_wedge_112 ?_
                refine top_eq (y := nI nw) hnw ?_
                refine lv_iload_n hx hb dX5_wedge_115 rfl (lv_at hl 3 rfl) ?_
                refine w_iastN (k := nw) C hW (RS.i hS 16 12 rfl rfl) (by omega) (by decide) rfl dX5_wedge_116 (fun H locs hW => ?_)
                obtain ⟨M, F_3, eF_3, hS, hW⟩ : ∃ (M : wM) (w0 : Nat → Nat → Int32), w0 = sF F_2 16 nw z ∧ RS cs M X ad v w0 G ∧ wd D A M s.heap H locs := ⟨_, _, rfl, RS.setI hS 16 rfl nw z, hW⟩
                refine lv_aload_n hx hb dX5_wedge_117 rfl (lv_at hl 0 rfl) ?_
                refine gf_X5_50 C hW.rd hS.1 rfl dX5_wedge_118 ?_
                refine lv_aload_n hx hb dX5_wedge_121 rfl (lv_at hl 0 rfl) ?_
                refine gf_X5_123 C hW.rd hS.1 rfl dX5_wedge_122 ?_
                refine top_eq (y := nI nw) hnw ?_
                refine lv_iload hx hb dX5_wedge_125 (lv_at hl 4 rfl) ?_
                refine w_iastN (k := nw) C hW (RS.i hS 17 12 rfl rfl) (by omega) (by decide) rfl dX5_wedge_127 (fun H locs hW => ?_)
                obtain ⟨M, F_4, eF_4, hS, hW⟩ : ∃ (M : wM) (w0 : Nat → Nat → Int32), w0 = sF F_3 17 nw y ∧ RS cs M X ad v w0 G ∧ wd D A M s.heap H locs := ⟨_, _, rfl, RS.setI hS 17 rfl nw y, hW⟩
                refine lv_aload_n hx hb dX5_wedge_128 rfl (lv_at hl 0 rfl) ?_
                refine gf_X5_53 C hW.rd hS.1 rfl dX5_wedge_129 ?_
                refine lv_aload_n hx hb dX5_wedge_132 rfl (lv_at hl 0 rfl) ?_
                refine gf_X5_123 C hW.rd hS.1 rfl dX5_wedge_133 ?_
                refine top_eq (y := nI nw) hnw ?_
                refine lv_iload hx hb dX5_wedge_136 (lv_at hl 5 rfl) ?_
                refine w_iastN (k := nw) C hW (RS.i hS 18 12 rfl rfl) (by omega) (by decide) rfl dX5_wedge_138 (fun H locs hW => ?_)
                obtain ⟨M, F_5, eF_5, hS, hW⟩ : ∃ (M : wM) (w0 : Nat → Nat → Int32), w0 = sF F_4 18 nw h ∧ RS cs M X ad v w0 G ∧ wd D A M s.heap H locs := ⟨_, _, rfl, RS.setI hS 18 rfl nw h, hW⟩
                refine lv_aload_n hx hb dX5_wedge_139 rfl (lv_at hl 0 rfl) ?_
                refine lv_dup hx hb dX5_wedge_140 rfl ?_
                refine gf_X5_123 C hW.rd hS.1 rfl dX5_wedge_141 ?_
                refine top_eq (y := nI nw) hnw ?_
                refine lv_iconst (v := 1) hx hb dX5_wedge_144 (by decide) ?_
                refine lv_iadd hx hb dX5_wedge_145 ?_
                refine top_eq (y := nI (nw + 1)) (tn_add rfl rfl) ?_
                refine pf_X5_123 (fs2 := rFl ad (va_up v 13 (nI (nw + 1)))) C hW hS.1 (Nat.le_of_ble_eq_true rfl) rfl dX5_wedge_146 (fun H locs hW => ?_)
                obtain ⟨M, v_6, ev_6, hS, hW⟩ : ∃ (M : wM) (w0 : Nat → Int32), w0 = va_up v 13 (nI (nw + 1)) ∧ RS cs M X ad w0 F_5 G ∧ wd D A M s.heap H locs := ⟨_, _, rfl, RS.setV hS 13 rfl (nI (nw + 1)), hW⟩
                refine lv_aload_n hx hb dX5_wedge_149 rfl (lv_at hl 0 rfl) ?_
                refine gf_X5_123 C hW.rd hS.1 rfl dX5_wedge_150 ?_
                exact wr_iret C hW hr hlk (⟨_, _, hS, by subst ev_6 eF_5 eF_4 eF_3 eF_2 eF_1; simp [rWedge, c_5, c_23, c_37, c_42, c_56, c_67, c_80, hclj, va_up, nI_pred]⟩) dX5_wedge_153
              · have c_80 := ceq_t (a := nw) (b := 12) c_80 (by omega) (by omega)
                refine lv_sipush (v := (-9004)) hx hb dX5_wedge_83 (by decide) ?_
                exact wr_iret C hW hr hlk (⟨_, _, hS, by simp [rWedge, c_5, c_23, c_37, c_42, c_56, c_67, c_80, hclj, va_up, nI_pred]⟩) dX5_wedge_86
            · have c_67 : ¬ (inB h 1 40 = true) := bz0 h_64 c_67
              refine lv_sipush (v := (-9002)) hx hb dX5_wedge_70 (by decide) ?_
              exact wr_iret C hW hr hlk (⟨_, _, hS, by simp [rWedge, c_5, c_23, c_37, c_42, c_56, c_67, hclj, va_up, nI_pred]⟩) dX5_wedge_73
  · have c_5 : ¬ (inB p1 0 (v 0 - 1) = true) := bz0 h_2 c_5
    refine lv_sipush (v := (-9001)) hx hb dX5_wedge_8 (by decide) ?_
    exact wr_iret C hW hr hlk (⟨_, _, hS, by simp [rWedge, c_5, va_up, nI_pred]⟩) dX5_wedge_11

def rLay (F : Nat → Nat → Int32) (k : Nat) (ln fx fy tx ty : Int32) : Nat → Nat → Int32 := sF (sF (sF (sF (sF F 25 k ln) 26 k fx) 27 k fy) 28 k tx) 29 k ty
set_option maxHeartbeats 4000000 in
set_option maxRecDepth 100000 in
theorem c_X5_lay (l : Launch) (D : va_G) (cs : Nat → ClassId) (A : Nat → Prop) (M : wM) (X : Nat) (ad : Nat → Nat) (v : Nat → Int32) (F : Nat → Nat → Int32) (G : Nat → Nat → Int64) (hS : RS cs M X ad v F G) (k : Nat) (hk : k < 80) (ln fx fy tx ty : Int32) : Met l yX5_lay (mw yX5_lay cX5_lay 7 none) { frames := 0, cells := 0, slots := 0, locals := 0 } (wrP D cs A M [.ref X, .int (nI k), .int ln, .int fx, .int fy, .int tx, .int ty]) (va_Qv (fun M' => ∃ F', RS cs M' X ad v F' G ∧ F' = rLay F k ln fx fy tx ty) (wrB D A) A) 0 0 A := by
  refine wr_met rfl (Nat.le_of_ble_eq_true rfl) ?_
  intro p e s m below meth c ls C hW hr hlk hini hl
  have C : kx D cs p m c cX5_lay 7 s _ RX5 := C
  have hx := C.1.1
  have hb := C.1.2.1
  have hl : lv_has ls 7 [(0, .ref X), (1, .int (nI k)), (2, .int ln), (3, .int fx), (4, .int fy), (5, .int tx), (6, .int ty)] := hl
  refine lv_aload_n hx hb dX5_lay_0 rfl (lv_at hl 0 rfl) ?_
  refine gf_X5_71 C hW.rd hS.1 rfl dX5_lay_1 ?_
  refine lv_iload_n hx hb dX5_lay_4 rfl (lv_at hl 1 rfl) ?_
  refine lv_iload_n hx hb dX5_lay_5 rfl (lv_at hl 2 rfl) ?_
  refine w_iastN (k := k) C hW (RS.i hS 25 80 rfl rfl) (by omega) (by decide) rfl dX5_lay_6 (fun H locs hW => ?_)
  obtain ⟨M, F_1, eF_1, hS, hW⟩ : ∃ (M : wM) (w0 : Nat → Nat → Int32), w0 = sF F 25 k ln ∧ RS cs M X ad v w0 G ∧ wd D A M s.heap H locs := ⟨_, _, rfl, RS.setI hS 25 rfl k ln, hW⟩
  refine lv_aload_n hx hb dX5_lay_7 rfl (lv_at hl 0 rfl) ?_
  refine gf_X5_74 C hW.rd hS.1 rfl dX5_lay_8 ?_
  refine lv_iload_n hx hb dX5_lay_11 rfl (lv_at hl 1 rfl) ?_
  refine lv_iload_n hx hb dX5_lay_12 rfl (lv_at hl 3 rfl) ?_
  refine w_iastN (k := k) C hW (RS.i hS 26 80 rfl rfl) (by omega) (by decide) rfl dX5_lay_13 (fun H locs hW => ?_)
  obtain ⟨M, F_2, eF_2, hS, hW⟩ : ∃ (M : wM) (w0 : Nat → Nat → Int32), w0 = sF F_1 26 k fx ∧ RS cs M X ad v w0 G ∧ wd D A M s.heap H locs := ⟨_, _, rfl, RS.setI hS 26 rfl k fx, hW⟩
  refine lv_aload_n hx hb dX5_lay_14 rfl (lv_at hl 0 rfl) ?_
  refine gf_X5_77 C hW.rd hS.1 rfl dX5_lay_15 ?_
  refine lv_iload_n hx hb dX5_lay_18 rfl (lv_at hl 1 rfl) ?_
  refine lv_iload hx hb dX5_lay_19 (lv_at hl 4 rfl) ?_
  refine w_iastN (k := k) C hW (RS.i hS 27 80 rfl rfl) (by omega) (by decide) rfl dX5_lay_21 (fun H locs hW => ?_)
  obtain ⟨M, F_3, eF_3, hS, hW⟩ : ∃ (M : wM) (w0 : Nat → Nat → Int32), w0 = sF F_2 27 k fy ∧ RS cs M X ad v w0 G ∧ wd D A M s.heap H locs := ⟨_, _, rfl, RS.setI hS 27 rfl k fy, hW⟩
  refine lv_aload_n hx hb dX5_lay_22 rfl (lv_at hl 0 rfl) ?_
  refine gf_X5_80 C hW.rd hS.1 rfl dX5_lay_23 ?_
  refine lv_iload_n hx hb dX5_lay_26 rfl (lv_at hl 1 rfl) ?_
  refine lv_iload hx hb dX5_lay_27 (lv_at hl 5 rfl) ?_
  refine w_iastN (k := k) C hW (RS.i hS 28 80 rfl rfl) (by omega) (by decide) rfl dX5_lay_29 (fun H locs hW => ?_)
  obtain ⟨M, F_4, eF_4, hS, hW⟩ : ∃ (M : wM) (w0 : Nat → Nat → Int32), w0 = sF F_3 28 k tx ∧ RS cs M X ad v w0 G ∧ wd D A M s.heap H locs := ⟨_, _, rfl, RS.setI hS 28 rfl k tx, hW⟩
  refine lv_aload_n hx hb dX5_lay_30 rfl (lv_at hl 0 rfl) ?_
  refine gf_X5_83 C hW.rd hS.1 rfl dX5_lay_31 ?_
  refine lv_iload_n hx hb dX5_lay_34 rfl (lv_at hl 1 rfl) ?_
  refine lv_iload hx hb dX5_lay_35 (lv_at hl 6 rfl) ?_
  refine w_iastN (k := k) C hW (RS.i hS 29 80 rfl rfl) (by omega) (by decide) rfl dX5_lay_37 (fun H locs hW => ?_)
  obtain ⟨M, F_5, eF_5, hS, hW⟩ : ∃ (M : wM) (w0 : Nat → Nat → Int32), w0 = sF F_4 29 k ty ∧ RS cs M X ad v w0 G ∧ wd D A M s.heap H locs := ⟨_, _, rfl, RS.setI hS 29 rfl k ty, hW⟩
  exact wr_vret C hW hr hlk (⟨_, hS, by subst eF_5 eF_4 eF_3 eF_2 eF_1; rfl⟩) dX5_lay_38

set_option maxHeartbeats 4000000 in
set_option maxRecDepth 100000 in
theorem c_X5_other (l : Launch) (D : va_G) (cs : Nat → ClassId) (A : Nat → Prop) (M : wM) (X : Nat) (ad : Nat → Nat) (v : Nat → Int32) (F : Nat → Nat → Int32) (G : Nat → Nat → Int64) (hS : RS cs M X ad v F G) (i : Nat) (hi : i < 4) (x y : Int64) : Met l yX5_other (mw yX5_other cX5_other 6 none) { frames := 0, cells := 0, slots := 0, locals := 0 } (wrP D cs A M [.ref X, .int (nI i), .long x, .long y]) (va_Qv (fun M' => ∃ G', RS cs M' X ad v F G' ∧ G' = sG (sG G 34 i x) 35 i y) (wrB D A) A) 0 0 A := by
  refine wr_met rfl (Nat.le_of_ble_eq_true rfl) ?_
  intro p e s m below meth c ls C hW hr hlk hini hl
  have C : kx D cs p m c cX5_other 6 s _ RX5 := C
  have hx := C.1.1
  have hb := C.1.2.1
  have hl : lv_has ls 6 [(0, .ref X), (1, .int (nI i)), (2, .long x), (4, .long y)] := hl
  refine lv_aload_n hx hb dX5_other_0 rfl (lv_at hl 0 rfl) ?_
  refine gf_X5_99 C hW.rd hS.1 rfl dX5_other_1 ?_
  refine lv_iload_n hx hb dX5_other_4 rfl (lv_at hl 1 rfl) ?_
  refine lv_lload_n hx hb dX5_other_5 rfl (lv_at hl 2 rfl) ?_
  refine w_lastN (k := i) C hW (RS.j hS 34 4 rfl rfl) (by omega) (by decide) rfl dX5_other_6 (fun H locs hW => ?_)
  obtain ⟨M, G_1, eG_1, hS, hW⟩ : ∃ (M : wM) (w0 : Nat → Nat → Int64), w0 = sG G 34 i x ∧ RS cs M X ad v F w0 ∧ wd D A M s.heap H locs := ⟨_, _, rfl, RS.setJ hS 34 rfl i x, hW⟩
  refine lv_aload_n hx hb dX5_other_7 rfl (lv_at hl 0 rfl) ?_
  refine gf_X5_102 C hW.rd hS.1 rfl dX5_other_8 ?_
  refine lv_iload_n hx hb dX5_other_11 rfl (lv_at hl 1 rfl) ?_
  refine lv_lload hx hb dX5_other_12 (lv_at hl 3 rfl) ?_
  refine w_lastN (k := i) C hW (RS.j hS 35 4 rfl rfl) (by omega) (by decide) rfl dX5_other_14 (fun H locs hW => ?_)
  obtain ⟨M, G_2, eG_2, hS, hW⟩ : ∃ (M : wM) (w0 : Nat → Nat → Int64), w0 = sG G_1 35 i y ∧ RS cs M X ad v F w0 ∧ wd D A M s.heap H locs := ⟨_, _, rfl, RS.setJ hS 35 rfl i y, hW⟩
  exact wr_vret C hW hr hlk (⟨_, hS, by subst eG_2 eG_1; rfl⟩) dX5_other_15

def rTurn (x y u w p q : Int64) : Int64 := if (u - x) * (q - y) - (w - y) * (p - x) ≤ 0 then (if 0 ≤ (u - x) * (q - y) - (w - y) * (p - x) then 0 else -1) else 1
set_option maxHeartbeats 4000000 in
set_option maxRecDepth 100000 in
theorem c_X5_turn (l : Launch) (D : va_G) (cs : Nat → ClassId) (M : wM) (x y u w p0 q : Int64) : Met l yX5_turn (mw yX5_turn cX5_turn 14 (some .long)) { frames := 0, cells := 0, slots := 0, locals := 0 } (roP D cs M [.long x, .long y, .long u, .long w, .long p0, .long q]) (vp_Sl (fun r => r = rTurn x y u w p0 q)) 0 0 noA := by
  refine ro_met rfl (Nat.le_of_ble_eq_true rfl) ?_
  intro p e s m below meth c ls C hR hr hlk hl
  have C : kx D cs p m c cX5_turn 14 s _ RX5 := C
  have hx := C.1.1
  have hb := C.1.2.1
  have hl : lv_has ls 14 [(0, .long x), (2, .long y), (4, .long u), (6, .long w), (8, .long p0), (10, .long q)] := hl
  refine lv_lload hx hb dX5_turn_0 (lv_at hl 2 rfl) ?_
  refine lv_lload_n hx hb dX5_turn_2 rfl (lv_at hl 0 rfl) ?_
  refine lv_lsub hx hb dX5_turn_3 ?_
  refine lv_lload hx hb dX5_turn_4 (lv_at hl 5 rfl) ?_
  refine lv_lload_n hx hb dX5_turn_6 rfl (lv_at hl 1 rfl) ?_
  refine lv_lsub hx hb dX5_turn_7 ?_
  refine lv_lmul hx hb dX5_turn_8 ?_
  refine lv_lload hx hb dX5_turn_9 (lv_at hl 3 rfl) ?_
  refine lv_lload_n hx hb dX5_turn_11 rfl (lv_at hl 1 rfl) ?_
  refine lv_lsub hx hb dX5_turn_12 ?_
  refine lv_lload hx hb dX5_turn_13 (lv_at hl 4 rfl) ?_
  refine lv_lload_n hx hb dX5_turn_15 rfl (lv_at hl 0 rfl) ?_
  refine lv_lsub hx hb dX5_turn_16 ?_
  refine lv_lmul hx hb dX5_turn_17 ?_
  refine lv_lsub hx hb dX5_turn_18 ?_
  refine lv_topl (fun x_19 ex_19 => ?_)
  refine lv_lstore (lv' := [(12, .long x_19), (0, .long x), (2, .long y), (4, .long u), (6, .long w), (8, .long p0), (10, .long q)]) hx hb dX5_turn_19 hl (by decide) rfl (fun ls hl => ?_)
  refine lv_lload hx hb dX5_turn_21 (lv_at hl 0 rfl) ?_
  refine lv_lconst (v := 0) hx hb dX5_turn_23 (by decide) ?_
  refine W.lcmp hx hb dX5_turn_24 ?_
  refine lv_if_le (tgt := 32) hx hb dX5_turn_25 (by decide) (fun c_25 => ?_) (fun c_25 => ?_)
  · have c_25 : x_19 ≤ 0 := (lg_cmp_le _ _).mp c_25
    refine lv_lload hx hb dX5_turn_32 (lv_at hl 0 rfl) ?_
    refine lv_lconst (v := 0) hx hb dX5_turn_34 (by decide) ?_
    refine W.lcmp hx hb dX5_turn_35 ?_
    refine lv_if_ge (tgt := 45) hx hb dX5_turn_36 (by decide) (fun c_36 => ?_) (fun c_36 => ?_)
    · have c_36 : 0 ≤ x_19 := (lg_cmp_ge _ _).mp c_36
      refine lv_lconst (v := 0) hx hb dX5_turn_45 (by decide) ?_
      exact ro_lret C hr hlk (by subst ex_19; simp [rTurn, c_25, c_36]) dX5_turn_46
    · have c_36 : ¬ (0 ≤ x_19) := fun h => c_36 ((lg_cmp_ge _ _).mpr h)
      refine lv_ldc2 (v := (-1)) hx hb C.1.2.2.2.1 (C.1.2.2.2.2 _ wm_408) dX5_turn_39 ?_
      refine lv_goto (tgt := 46) hx hb dX5_turn_42 (by decide) ?_
      exact ro_lret C hr hlk (by subst ex_19; simp [rTurn, c_25, c_36]) dX5_turn_46
  · have c_25 : ¬ (x_19 ≤ 0) := fun h => c_25 ((lg_cmp_le _ _).mpr h)
    refine lv_lconst (v := 1) hx hb dX5_turn_28 (by decide) ?_
    refine lv_goto (tgt := 46) hx hb dX5_turn_29 (by decide) ?_
    exact ro_lret C hr hlk (by subst ex_19; simp [rTurn, c_25]) dX5_turn_46

def rBtw (a b c : Int64) : Bool := decide ((¬ b < a ∧ b ≤ c) ∨ (¬ b < c ∧ ¬ a < b))
set_option maxHeartbeats 4000000 in
set_option maxRecDepth 100000 in
theorem c_X5_between (l : Launch) (D : va_G) (cs : Nat → ClassId) (M : wM) (x y z : Int64) : Met l yX5_between (mw yX5_between cX5_between 6 (some .boolean)) { frames := 0, cells := 0, slots := 0, locals := 0 } (roP D cs M [.long x, .long y, .long z]) (vp_Si (fun r => r = bI (rBtw x y z = true))) 0 0 noA := by
  refine ro_met rfl (Nat.le_of_ble_eq_true rfl) ?_
  intro p e s m below meth c ls C hR hr hlk hl
  have C : kx D cs p m c cX5_between 6 s _ RX5 := C
  have hx := C.1.1
  have hb := C.1.2.1
  have hl : lv_has ls 6 [(0, .long x), (2, .long y), (4, .long z)] := hl
  refine lv_lload_n hx hb dX5_between_0 rfl (lv_at hl 0 rfl) ?_
  refine lv_lload_n hx hb dX5_between_1 rfl (lv_at hl 1 rfl) ?_
  refine W.lcmp hx hb dX5_between_2 ?_
  refine lv_if_gt (tgt := 13) hx hb dX5_between_3 (by decide) (fun c_3 => ?_) (fun c_3 => ?_)
  · have c_3 : y < x := (lg_cmp_gt _ _).mp c_3
    refine lv_lload hx hb dX5_between_13 (lv_at hl 2 rfl) ?_
    refine lv_lload_n hx hb dX5_between_15 rfl (lv_at hl 1 rfl) ?_
    refine W.lcmp hx hb dX5_between_16 ?_
    refine lv_if_gt (tgt := 30) hx hb dX5_between_17 (by decide) (fun c_17 => ?_) (fun c_17 => ?_)
    · have c_17 : y < z := (lg_cmp_gt _ _).mp c_17
      refine lv_iconst (v := 0) hx hb dX5_between_30 (by decide) ?_
      exact ro_zret C hr hlk rfl (bI_f (by simp [rBtw, c_3, c_17])) dX5_between_31
    · have c_17 : ¬ (y < z) := fun h => c_17 ((lg_cmp_gt _ _).mpr h)
      refine lv_lload_n hx hb dX5_between_20 rfl (lv_at hl 1 rfl) ?_
      refine lv_lload_n hx hb dX5_between_21 rfl (lv_at hl 0 rfl) ?_
      refine W.lcmp hx hb dX5_between_22 ?_
      refine lv_if_gt (tgt := 30) hx hb dX5_between_23 (by decide) (fun c_23 => ?_) (fun c_23 => ?_)
      · have c_23 : x < y := (lg_cmp_gt _ _).mp c_23
        refine lv_iconst (v := 0) hx hb dX5_between_30 (by decide) ?_
        exact ro_zret C hr hlk rfl (bI_f (by simp [rBtw, c_3, c_17, c_23])) dX5_between_31
      · have c_23 : ¬ (x < y) := fun h => c_23 ((lg_cmp_gt _ _).mpr h)
        refine lv_iconst (v := 1) hx hb dX5_between_26 (by decide) ?_
        refine lv_goto (tgt := 31) hx hb dX5_between_27 (by decide) ?_
        exact ro_zret C hr hlk rfl (bI_t (by simp [rBtw, c_3, c_17, c_23])) dX5_between_31
  · have c_3 : ¬ (y < x) := fun h => c_3 ((lg_cmp_gt _ _).mpr h)
    refine lv_lload_n hx hb dX5_between_6 rfl (lv_at hl 1 rfl) ?_
    refine lv_lload hx hb dX5_between_7 (lv_at hl 2 rfl) ?_
    refine W.lcmp hx hb dX5_between_9 ?_
    refine lv_if_le (tgt := 26) hx hb dX5_between_10 (by decide) (fun c_10 => ?_) (fun c_10 => ?_)
    · have c_10 : y ≤ z := (lg_cmp_le _ _).mp c_10
      refine lv_iconst (v := 1) hx hb dX5_between_26 (by decide) ?_
      refine lv_goto (tgt := 31) hx hb dX5_between_27 (by decide) ?_
      exact ro_zret C hr hlk rfl (bI_t (by simp [rBtw, c_3, c_10])) dX5_between_31
    · have c_10 : ¬ (y ≤ z) := fun h => c_10 ((lg_cmp_le _ _).mpr h)
      refine lv_lload hx hb dX5_between_13 (lv_at hl 2 rfl) ?_
      refine lv_lload_n hx hb dX5_between_15 rfl (lv_at hl 1 rfl) ?_
      refine W.lcmp hx hb dX5_between_16 ?_
      refine lv_if_gt (tgt := 30) hx hb dX5_between_17 (by decide) (fun c_17 => ?_) (fun c_17 => ?_)
      · have c_17 : y < z := (lg_cmp_gt _ _).mp c_17
        refine lv_iconst (v := 0) hx hb dX5_between_30 (by decide) ?_
        exact ro_zret C hr hlk rfl (bI_f (by simp [rBtw, c_3, c_10, c_17])) dX5_between_31
      · have c_17 : ¬ (y < z) := fun h => c_17 ((lg_cmp_gt _ _).mpr h)
        refine lv_lload_n hx hb dX5_between_20 rfl (lv_at hl 1 rfl) ?_
        refine lv_lload_n hx hb dX5_between_21 rfl (lv_at hl 0 rfl) ?_
        refine W.lcmp hx hb dX5_between_22 ?_
        refine lv_if_gt (tgt := 30) hx hb dX5_between_23 (by decide) (fun c_23 => ?_) (fun c_23 => ?_)
        · have c_23 : x < y := (lg_cmp_gt _ _).mp c_23
          refine lv_iconst (v := 0) hx hb dX5_between_30 (by decide) ?_
          exact ro_zret C hr hlk rfl (bI_f (by simp [rBtw, c_3, c_10, c_17, c_23])) dX5_between_31
        · have c_23 : ¬ (x < y) := fun h => c_23 ((lg_cmp_gt _ _).mpr h)
          refine lv_iconst (v := 1) hx hb dX5_between_26 (by decide) ?_
          refine lv_goto (tgt := 31) hx hb dX5_between_27 (by decide) ?_
          exact ro_zret C hr hlk rfl (bI_t (by simp [rBtw, c_3, c_10, c_17, c_23])) dX5_between_31

def rOn (x y u w p q : Int64) : Bool := rBtw x p u && rBtw y q w
set_option maxHeartbeats 4000000 in
set_option maxRecDepth 100000 in
theorem c_X5_isOn (l : Launch) (D : va_G) (cs : Nat → ClassId) (M : wM) (x y u w p0 q : Int64) : Met l yX5_isOn (mw yX5_isOn cX5_isOn 12 (some .boolean)) { frames := 1, cells := 0, slots := 0, locals := 25 } (roP D cs M [.long x, .long y, .long u, .long w, .long p0, .long q]) (vp_Si (fun r => r = bI (rOn x y u w p0 q = true))) 0 0 noA := by
  refine ro_met rfl (Nat.le_of_ble_eq_true rfl) ?_
  intro p e s m below meth c ls C hR hr hlk hl
  have C : kx D cs p m c cX5_isOn 12 s _ RX5 := C
  have hx := C.1.1
  have hb := C.1.2.1
  have hl : lv_has ls 12 [(0, .long x), (2, .long y), (4, .long u), (6, .long w), (8, .long p0), (10, .long q)] := hl
  refine lv_lload_n hx hb dX5_isOn_0 rfl (lv_at hl 0 rfl) ?_
  refine lv_lload hx hb dX5_isOn_1 (lv_at hl 4 rfl) ?_
  refine lv_lload hx hb dX5_isOn_3 (lv_at hl 2 rfl) ?_
  refine ro_goI (ro_S (As := [.long x, .long p0, .long u]) (rest := []) C hR st_X5_171 (c_X5_between l D cs _ x p0 u) ⟨rfl, rfl, Nat.le_of_ble_eq_true rfl, Nat.le_of_ble_eq_true rfl⟩ rfl hl.1 rfl (Nat.le_of_ble_eq_true rfl) dX5_isOn_5 ⟨Nat.le_of_ble_eq_true rfl, Nat.le_of_ble_eq_true rfl⟩) (fun r_5 h_5 => ?_)
  refine lv_if_eq (tgt := 26) hx hb dX5_isOn_8 (by decide) (fun c_8 => ?_) (fun c_8 => ?_)
  · have c_8 : ¬ (rBtw x p0 u = true) := bz0 h_5 c_8
    refine lv_iconst (v := 0) hx hb dX5_isOn_26 (by decide) ?_
    exact ro_zret C hr hlk rfl (bI_f (by simp [rOn, c_8])) dX5_isOn_27
  · have c_8 : rBtw x p0 u = true := bz1 h_5 c_8
    refine lv_lload_n hx hb dX5_isOn_11 rfl (lv_at hl 1 rfl) ?_
    refine lv_lload hx hb dX5_isOn_12 (lv_at hl 5 rfl) ?_
    refine lv_lload hx hb dX5_isOn_14 (lv_at hl 3 rfl) ?_
    refine ro_goI (ro_S (As := [.long y, .long q, .long w]) (rest := []) C hR st_X5_171 (c_X5_between l D cs _ y q w) ⟨rfl, rfl, Nat.le_of_ble_eq_true rfl, Nat.le_of_ble_eq_true rfl⟩ rfl hl.1 rfl (Nat.le_of_ble_eq_true rfl) dX5_isOn_16 ⟨Nat.le_of_ble_eq_true rfl, Nat.le_of_ble_eq_true rfl⟩) (fun r_16 h_16 => ?_)
    refine lv_if_eq (tgt := 26) hx hb dX5_isOn_19 (by decide) (fun c_19 => ?_) (fun c_19 => ?_)
    · have c_19 : ¬ (rBtw y q w = true) := bz0 h_16 c_19
      refine lv_iconst (v := 0) hx hb dX5_isOn_26 (by decide) ?_
      exact ro_zret C hr hlk rfl (bI_f (by simp [rOn, c_8, c_19])) dX5_isOn_27
    · have c_19 : rBtw y q w = true := bz1 h_16 c_19
      refine lv_iconst (v := 1) hx hb dX5_isOn_22 (by decide) ?_
      refine lv_goto (tgt := 27) hx hb dX5_isOn_23 (by decide) ?_
      exact ro_zret C hr hlk rfl (bI_t (by simp [rOn, c_8, c_19])) dX5_isOn_27

def rEnd (F : Nat → Nat → Int32) (c a : Nat) : Int32 := if F 22 c = 0 then 4 * F 23 c + (if F 6 a = bI (F 23 c = 1) then 24 * F 23 c else 0) else 2 * F 23 c
set_option maxHeartbeats 4000000 in
set_option maxRecDepth 100000 in
theorem c_X5_endOf (l : Launch) (D : va_G) (cs : Nat → ClassId) (M : wM) (X : Nat) (ad : Nat → Nat) (v : Nat → Int32) (F : Nat → Nat → Int32) (G : Nat → Nat → Int64) (hS : RS cs M X ad v F G) (c0 a : Nat) (hc0 : c0 < 40) (ha : a < 60) : Met l yX5_endOf (mw yX5_endOf cX5_endOf 3 (some .int)) { frames := 0, cells := 0, slots := 0, locals := 0 } (roP D cs M [.ref X, .int (nI c0), .int (nI a)]) (vp_Si (fun r => r = rEnd F c0 a)) 0 0 noA := by
  refine ro_met rfl (Nat.le_of_ble_eq_true rfl) ?_
  intro p e s m below meth c ls C hR hr hlk hl
  have C : kx D cs p m c cX5_endOf 3 s _ RX5 := C
  have hx := C.1.1
  have hb := C.1.2.1
  have hl : lv_has ls 3 [(0, .ref X), (1, .int (nI c0)), (2, .int (nI a))] := hl
  refine lv_aload_n hx hb dX5_endOf_0 rfl (lv_at hl 0 rfl) ?_
  refine gf_X5_62 C hR hS.1 rfl dX5_endOf_1 ?_
  refine lv_iload_n hx hb dX5_endOf_4 rfl (lv_at hl 1 rfl) ?_
  refine r_zaldN (k := c0) C hR (RS.z hS 22 40 rfl rfl) (by omega) (by decide) rfl dX5_endOf_5 ?_
  refine lv_if_eq (tgt := 18) hx hb dX5_endOf_6 (by decide) (fun c_6 => ?_) (fun c_6 => ?_)
  · refine lv_iconst (v := 4) hx hb dX5_endOf_18 (by decide) ?_
    refine lv_aload_n hx hb dX5_endOf_19 rfl (lv_at hl 0 rfl) ?_
    refine gf_X5_65 C hR hS.1 rfl dX5_endOf_20 ?_
    refine lv_iload_n hx hb dX5_endOf_23 rfl (lv_at hl 1 rfl) ?_
    refine r_ialdN (k := c0) C hR (RS.i hS 23 40 rfl rfl) (by omega) (by decide) rfl dX5_endOf_24 ?_
    refine lv_imul hx hb dX5_endOf_25 ?_
    refine W.cut (fun z => z = if F 6 a = bI (F 23 c0 = 1) then 24 * F 23 c0 else 0) (fun z => F0 m 63 ls (.int z :: [.int (4 * (F 23 c0))])) (fun z_63 hz_63 => ?_) (fun J_63 => ?_)
    · refine lv_iadd hx hb dX5_endOf_63 ?_
      exact ro_iret C hr hlk (by simp [rEnd, c_6, hz_63]) dX5_endOf_64
    · refine lv_aload_n hx hb dX5_endOf_26 rfl (lv_at hl 0 rfl) ?_
      refine gf_X5_22 C hR hS.1 rfl dX5_endOf_27 ?_
      refine lv_iload_n hx hb dX5_endOf_30 rfl (lv_at hl 2 rfl) ?_
      refine r_zaldN (k := a) C hR (RS.z hS 6 60 rfl rfl) (by omega) (by decide) rfl dX5_endOf_31 ?_
      refine W.cut (fun z => z = bI (F 23 c0 = 1)) (fun z => F0 m 47 ls (.int z :: [.int (F 6 a), .int (4 * (F 23 c0))])) (fun z_47 hz_47 => ?_) (fun J_47 => ?_)
      · refine lv_icmp_ne (tgt := 62) hx hb dX5_endOf_47 (by decide) (fun c_47 => ?_) (fun c_47 => ?_)
        · refine lv_iconst (v := 0) hx hb dX5_endOf_62 (by decide) ?_
          exact J_63 _ (by rw [hz_47] at c_47; simp [c_47])
        · refine lv_bipush (v := 24) hx hb dX5_endOf_50 (by decide) ?_
          refine lv_aload_n hx hb dX5_endOf_52 rfl (lv_at hl 0 rfl) ?_
          refine gf_X5_65 C hR hS.1 rfl dX5_endOf_53 ?_
          refine lv_iload_n hx hb dX5_endOf_56 rfl (lv_at hl 1 rfl) ?_
          refine r_ialdN (k := c0) C hR (RS.i hS 23 40 rfl rfl) (by omega) (by decide) rfl dX5_endOf_57 ?_
          refine lv_imul hx hb dX5_endOf_58 ?_
          refine lv_goto (tgt := 63) hx hb dX5_endOf_59 (by decide) ?_
          exact J_63 _ (by rw [hz_47] at c_47; simp [c_47])
      · refine lv_aload_n hx hb dX5_endOf_32 rfl (lv_at hl 0 rfl) ?_
        refine gf_X5_65 C hR hS.1 rfl dX5_endOf_33 ?_
        refine lv_iload_n hx hb dX5_endOf_36 rfl (lv_at hl 1 rfl) ?_
        refine r_ialdN (k := c0) C hR (RS.i hS 23 40 rfl rfl) (by omega) (by decide) rfl dX5_endOf_37 ?_
        refine lv_iconst (v := 1) hx hb dX5_endOf_38 (by decide) ?_
        refine lv_icmp_ne (tgt := 46) hx hb dX5_endOf_39 (by decide) (fun c_39 => ?_) (fun c_39 => ?_)
        · refine lv_iconst (v := 0) hx hb dX5_endOf_46 (by decide) ?_
          exact J_47 _ (bI_f (by simp [c_39]))
        · refine lv_iconst (v := 1) hx hb dX5_endOf_42 (by decide) ?_
          refine lv_goto (tgt := 47) hx hb dX5_endOf_43 (by decide) ?_
          exact J_47 _ (bI_t (by simp [c_39]))
  · refine lv_iconst (v := 2) hx hb dX5_endOf_9 (by decide) ?_
    refine lv_aload_n hx hb dX5_endOf_10 rfl (lv_at hl 0 rfl) ?_
    refine gf_X5_65 C hR hS.1 rfl dX5_endOf_11 ?_
    refine lv_iload_n hx hb dX5_endOf_14 rfl (lv_at hl 1 rfl) ?_
    refine r_ialdN (k := c0) C hR (RS.i hS 23 40 rfl rfl) (by omega) (by decide) rfl dX5_endOf_15 ?_
    refine lv_imul hx hb dX5_endOf_16 ?_
    exact ro_iret C hr hlk (by simp [rEnd, c_6]) dX5_endOf_17

def rPart (v : Nat → Int32) (F : Nat → Nat → Int32) (c q : Int32) : Bool := inB c 0 (v 19 - 1) && inB q 0 (F 24 c.toNatClampNeg - 1)
set_option maxHeartbeats 4000000 in
set_option maxRecDepth 100000 in
theorem c_X5_isPart (l : Launch) (D : va_G) (cs : Nat → ClassId) (M : wM) (X : Nat) (ad : Nat → Nat) (v : Nat → Int32) (F : Nat → Nat → Int32) (G : Nat → Nat → Int64) (hS : RS cs M X ad v F G) (nc : Nat) (hnc : v 19 = nI nc) (hc40 : nc ≤ 40) (p1 q : Int32) : Met l yX5_isPart (mw yX5_isPart cX5_isPart 3 (some .boolean)) { frames := 2, cells := 0, slots := 0, locals := 43 } (roP D cs M [.ref X, .int p1, .int q]) (vp_Si (fun r => r = bI (rPart v F p1 q = true))) 0 0 noA := by
  refine ro_met rfl (Nat.le_of_ble_eq_true rfl) ?_
  intro p e s m below meth c ls C hR hr hlk hl
  have C : kx D cs p m c cX5_isPart 3 s _ RX5 := C
  have hx := C.1.1
  have hb := C.1.2.1
  have hl : lv_has ls 3 [(0, .ref X), (1, .int p1), (2, .int q)] := hl
  refine lv_aload_n hx hb dX5_isPart_0 rfl (lv_at hl 0 rfl) ?_
  refine lv_iload_n hx hb dX5_isPart_1 rfl (lv_at hl 1 rfl) ?_
  refine ro_goI (ro_V (As := [.int p1]) (rest := []) C hR st_X5_224 (c_X5_isCurve l D cs _ X ad v F G hS p1) hS.1 rfl rfl ⟨rfl, rfl, Nat.le_of_ble_eq_true rfl, Nat.le_of_ble_eq_true rfl⟩ rfl hl.1 rfl (Nat.le_of_ble_eq_true rfl) dX5_isPart_2 ⟨Nat.le_of_ble_eq_true rfl, Nat.le_of_ble_eq_true rfl⟩) (fun r_2 h_2 => ?_)
  refine lv_if_eq (tgt := 28) hx hb dX5_isPart_5 (by decide) (fun c_5 => ?_) (fun c_5 => ?_)
  · have c_5 : ¬ (inB p1 0 (v 19 - 1) = true) := bz0 h_2 c_5
    refine lv_iconst (v := 0) hx hb dX5_isPart_28 (by decide) ?_
    exact ro_zret C hr hlk rfl (bI_f (by simp [rPart, c_5])) dX5_isPart_29
  · have c_5 : inB p1 0 (v 19 - 1) = true := bz1 h_2 c_5
    obtain ⟨j, hjj, rfl⟩ := inP_nat c_5 hnc (by omega)
    have hclj := nI_clamp (n := j) (by omega)
    refine lv_iload_n hx hb dX5_isPart_8 rfl (lv_at hl 2 rfl) ?_
    refine lv_iconst (v := 0) hx hb dX5_isPart_9 (by decide) ?_
    refine lv_aload_n hx hb dX5_isPart_10 rfl (lv_at hl 0 rfl) ?_
    refine gf_X5_68 C hR hS.1 rfl dX5_isPart_11 ?_
    refine lv_iload_n hx hb dX5_isPart_14 rfl (lv_at hl 1 rfl) ?_
    refine r_ialdN (k := j) C hR (RS.i hS 24 40 rfl rfl) (by omega) (by decide) rfl dX5_isPart_15 ?_
    refine lv_iconst (v := 1) hx hb dX5_isPart_16 (by decide) ?_
    refine lv_isub hx hb dX5_isPart_17 ?_
    refine ro_goI (ro_S (As := [.int q, .int 0, .int ((F 24 j) - 1)]) (rest := []) C hR st_X5_109 (c_X5_in l D cs _ q 0 ((F 24 j) - 1)) ⟨rfl, rfl, Nat.le_of_ble_eq_true rfl, Nat.le_of_ble_eq_true rfl⟩ rfl hl.1 rfl (Nat.le_of_ble_eq_true rfl) dX5_isPart_18 ⟨Nat.le_of_ble_eq_true rfl, Nat.le_of_ble_eq_true rfl⟩) (fun r_18 h_18 => ?_)
    refine lv_if_eq (tgt := 28) hx hb dX5_isPart_21 (by decide) (fun c_21 => ?_) (fun c_21 => ?_)
    · have c_21 : ¬ (inB q 0 ((F 24 j) - 1) = true) := bz0 h_18 c_21
      refine lv_iconst (v := 0) hx hb dX5_isPart_28 (by decide) ?_
      exact ro_zret C hr hlk rfl (bI_f (by simp [rPart, c_5, c_21, hclj])) dX5_isPart_29
    · have c_21 : inB q 0 ((F 24 j) - 1) = true := bz1 h_18 c_21
      refine lv_iconst (v := 1) hx hb dX5_isPart_24 (by decide) ?_
      refine lv_goto (tgt := 29) hx hb dX5_isPart_25 (by decide) ?_
      exact ro_zret C hr hlk rfl (bI_t (by simp [rPart, c_5, c_21, hclj])) dX5_isPart_29
end
section
def rCr0 (s t u w : Int64) (o1 o2 o3 o4 : Bool) : Bool := decide (¬ 0 ≤ s * t ∧ ¬ 0 ≤ u * w) || (decide (s = 0) && o1) || (decide (t = 0) && o2) || (decide (u = 0) && o3) || (decide (w = 0) && o4)
def rCr (G : Nat → Nat → Int64) (i j k n : Nat) : Bool := rCr0 (rTurn (G 32 i) (G 33 i) (G 32 j) (G 33 j) (G 34 k) (G 35 k)) (rTurn (G 32 i) (G 33 i) (G 32 j) (G 33 j) (G 34 n) (G 35 n)) (rTurn (G 34 k) (G 35 k) (G 34 n) (G 35 n) (G 32 i) (G 33 i)) (rTurn (G 34 k) (G 35 k) (G 34 n) (G 35 n) (G 32 j) (G 33 j)) (rOn (G 32 i) (G 33 i) (G 32 j) (G 33 j) (G 34 k) (G 35 k)) (rOn (G 32 i) (G 33 i) (G 32 j) (G 33 j) (G 34 n) (G 35 n)) (rOn (G 34 k) (G 35 k) (G 34 n) (G 35 n) (G 32 i) (G 33 i)) (rOn (G 34 k) (G 35 k) (G 34 n) (G 35 n) (G 32 j) (G 33 j))
set_option maxHeartbeats 4000000 in
set_option maxRecDepth 100000 in
theorem c_X5_cross (l : Launch) (D : va_G) (cs : Nat → ClassId) (M : wM) (X : Nat) (ad : Nat → Nat) (v : Nat → Int32) (F : Nat → Nat → Int32) (G : Nat → Nat → Int64) (hS : RS cs M X ad v F G) (i j k n : Nat) (hi : i < 4) (hj : j < 4) (hk : k < 4) (hn : n < 4) : Met l yX5_cross (mw yX5_cross cX5_cross 13 (some .boolean)) { frames := 2, cells := 0, slots := 0, locals := 56 } (roP D cs M [.ref X, .int (nI i), .int (nI j), .int (nI k), .int (nI n)]) (vp_Si (fun r => r = bI (rCr G i j k n = true))) 0 0 noA := by
  refine ro_met rfl (Nat.le_of_ble_eq_true rfl) ?_
  intro p e s m below meth c ls C hR hr hlk hl
  have C : kx D cs p m c cX5_cross 13 s _ RX5 := C
  have hx := C.1.1
  have hb := C.1.2.1
  have hl : lv_has ls 13 [(0, .ref X), (1, .int (nI i)), (2, .int (nI j)), (3, .int (nI k)), (4, .int (nI n))] := hl
  refine lv_aload_n hx hb dX5_cross_0 rfl (lv_at hl 0 rfl) ?_
  refine gf_X5_92 C hR hS.1 rfl dX5_cross_1 ?_
  refine lv_iload_n hx hb dX5_cross_4 rfl (lv_at hl 1 rfl) ?_
  refine r_laldN (k := i) C hR (RS.j hS 32 4 rfl rfl) (by omega) (by decide) rfl dX5_cross_5 ?_
  refine lv_aload_n hx hb dX5_cross_6 rfl (lv_at hl 0 rfl) ?_
  refine gf_X5_96 C hR hS.1 rfl dX5_cross_7 ?_
  refine lv_iload_n hx hb dX5_cross_10 rfl (lv_at hl 1 rfl) ?_
  refine r_laldN (k := i) C hR (RS.j hS 33 4 rfl rfl) (by omega) (by decide) rfl dX5_cross_11 ?_
  refine lv_aload_n hx hb dX5_cross_12 rfl (lv_at hl 0 rfl) ?_
  refine gf_X5_92 C hR hS.1 rfl dX5_cross_13 ?_
  refine lv_iload_n hx hb dX5_cross_16 rfl (lv_at hl 2 rfl) ?_
  refine r_laldN (k := j) C hR (RS.j hS 32 4 rfl rfl) (by omega) (by decide) rfl dX5_cross_17 ?_
  refine lv_aload_n hx hb dX5_cross_18 rfl (lv_at hl 0 rfl) ?_
  refine gf_X5_96 C hR hS.1 rfl dX5_cross_19 ?_
  refine lv_iload_n hx hb dX5_cross_22 rfl (lv_at hl 2 rfl) ?_
  refine r_laldN (k := j) C hR (RS.j hS 33 4 rfl rfl) (by omega) (by decide) rfl dX5_cross_23 ?_
  refine lv_aload_n hx hb dX5_cross_24 rfl (lv_at hl 0 rfl) ?_
  refine gf_X5_99 C hR hS.1 rfl dX5_cross_25 ?_
  refine lv_iload_n hx hb dX5_cross_28 rfl (lv_at hl 3 rfl) ?_
  refine r_laldN (k := k) C hR (RS.j hS 34 4 rfl rfl) (by omega) (by decide) rfl dX5_cross_29 ?_
  refine lv_aload_n hx hb dX5_cross_30 rfl (lv_at hl 0 rfl) ?_
  refine gf_X5_102 C hR hS.1 rfl dX5_cross_31 ?_
  refine lv_iload_n hx hb dX5_cross_34 rfl (lv_at hl 3 rfl) ?_
  refine r_laldN (k := k) C hR (RS.j hS 35 4 rfl rfl) (by omega) (by decide) rfl dX5_cross_35 ?_
  refine ro_goL (ro_S (As := [.long (G 32 i), .long (G 33 i), .long (G 32 j), .long (G 33 j), .long (G 34 k), .long (G 35 k)]) (rest := []) C hR st_X5_175 (c_X5_turn l D cs _ (G 32 i) (G 33 i) (G 32 j) (G 33 j) (G 34 k) (G 35 k)) ⟨rfl, rfl, Nat.le_of_ble_eq_true rfl, Nat.le_of_ble_eq_true rfl⟩ rfl hl.1 rfl (Nat.le_of_ble_eq_true rfl) dX5_cross_36 ⟨Nat.le_of_ble_eq_true rfl, Nat.le_of_ble_eq_true rfl⟩) (fun r_36 h_36 => ?_)
  refine lv_lstore (lv' := [(5, .long r_36), (0, .ref X), (1, .int (nI i)), (2, .int (nI j)), (3, .int (nI k)), (4, .int (nI n))]) hx hb dX5_cross_39 hl (by decide) rfl (fun ls hl => ?_)
  refine lv_aload_n hx hb dX5_cross_41 rfl (lv_at hl 1 rfl) ?_
  refine gf_X5_92 C hR hS.1 rfl dX5_cross_42 ?_
  refine lv_iload_n hx hb dX5_cross_45 rfl (lv_at hl 2 rfl) ?_
  refine r_laldN (k := i) C hR (RS.j hS 32 4 rfl rfl) (by omega) (by decide) rfl dX5_cross_46 ?_
  refine lv_aload_n hx hb dX5_cross_47 rfl (lv_at hl 1 rfl) ?_
  refine gf_X5_96 C hR hS.1 rfl dX5_cross_48 ?_
  refine lv_iload_n hx hb dX5_cross_51 rfl (lv_at hl 2 rfl) ?_
  refine r_laldN (k := i) C hR (RS.j hS 33 4 rfl rfl) (by omega) (by decide) rfl dX5_cross_52 ?_
  refine lv_aload_n hx hb dX5_cross_53 rfl (lv_at hl 1 rfl) ?_
  refine gf_X5_92 C hR hS.1 rfl dX5_cross_54 ?_
  refine lv_iload_n hx hb dX5_cross_57 rfl (lv_at hl 3 rfl) ?_
  refine r_laldN (k := j) C hR (RS.j hS 32 4 rfl rfl) (by omega) (by decide) rfl dX5_cross_58 ?_
  refine lv_aload_n hx hb dX5_cross_59 rfl (lv_at hl 1 rfl) ?_
  refine gf_X5_96 C hR hS.1 rfl dX5_cross_60 ?_
  refine lv_iload_n hx hb dX5_cross_63 rfl (lv_at hl 3 rfl) ?_
  refine r_laldN (k := j) C hR (RS.j hS 33 4 rfl rfl) (by omega) (by decide) rfl dX5_cross_64 ?_
  refine lv_aload_n hx hb dX5_cross_65 rfl (lv_at hl 1 rfl) ?_
  refine gf_X5_99 C hR hS.1 rfl dX5_cross_66 ?_
  refine lv_iload hx hb dX5_cross_69 (lv_at hl 5 rfl) ?_
  refine r_laldN (k := n) C hR (RS.j hS 34 4 rfl rfl) (by omega) (by decide) rfl dX5_cross_71 ?_
  refine lv_aload_n hx hb dX5_cross_72 rfl (lv_at hl 1 rfl) ?_
  refine gf_X5_102 C hR hS.1 rfl dX5_cross_73 ?_
  refine lv_iload hx hb dX5_cross_76 (lv_at hl 5 rfl) ?_
  refine r_laldN (k := n) C hR (RS.j hS 35 4 rfl rfl) (by omega) (by decide) rfl dX5_cross_78 ?_
  refine ro_goL (ro_S (As := [.long (G 32 i), .long (G 33 i), .long (G 32 j), .long (G 33 j), .long (G 34 n), .long (G 35 n)]) (rest := []) C hR st_X5_175 (c_X5_turn l D cs _ (G 32 i) (G 33 i) (G 32 j) (G 33 j) (G 34 n) (G 35 n)) ⟨rfl, rfl, Nat.le_of_ble_eq_true rfl, Nat.le_of_ble_eq_true rfl⟩ rfl hl.1 rfl (Nat.le_of_ble_eq_true rfl) dX5_cross_79 ⟨Nat.le_of_ble_eq_true rfl, Nat.le_of_ble_eq_true rfl⟩) (fun r_79 h_79 => ?_)
  refine lv_lstore (lv' := [(7, .long r_79), (5, .long r_36), (0, .ref X), (1, .int (nI i)), (2, .int (nI j)), (3, .int (nI k)), (4, .int (nI n))]) hx hb dX5_cross_82 hl (by decide) rfl (fun ls hl => ?_)
  refine lv_aload_n hx hb dX5_cross_84 rfl (lv_at hl 2 rfl) ?_
  refine gf_X5_99 C hR hS.1 rfl dX5_cross_85 ?_
  refine lv_iload_n hx hb dX5_cross_88 rfl (lv_at hl 5 rfl) ?_
  refine r_laldN (k := k) C hR (RS.j hS 34 4 rfl rfl) (by omega) (by decide) rfl dX5_cross_89 ?_
  refine lv_aload_n hx hb dX5_cross_90 rfl (lv_at hl 2 rfl) ?_
  refine gf_X5_102 C hR hS.1 rfl dX5_cross_91 ?_
  refine lv_iload_n hx hb dX5_cross_94 rfl (lv_at hl 5 rfl) ?_
  refine r_laldN (k := k) C hR (RS.j hS 35 4 rfl rfl) (by omega) (by decide) rfl dX5_cross_95 ?_
  refine lv_aload_n hx hb dX5_cross_96 rfl (lv_at hl 2 rfl) ?_
  refine gf_X5_99 C hR hS.1 rfl dX5_cross_97 ?_
  refine lv_iload hx hb dX5_cross_100 (lv_at hl 6 rfl) ?_
  refine r_laldN (k := n) C hR (RS.j hS 34 4 rfl rfl) (by omega) (by decide) rfl dX5_cross_102 ?_
  refine lv_aload_n hx hb dX5_cross_103 rfl (lv_at hl 2 rfl) ?_
  refine gf_X5_102 C hR hS.1 rfl dX5_cross_104 ?_
  refine lv_iload hx hb dX5_cross_107 (lv_at hl 6 rfl) ?_
  refine r_laldN (k := n) C hR (RS.j hS 35 4 rfl rfl) (by omega) (by decide) rfl dX5_cross_109 ?_
  refine lv_aload_n hx hb dX5_cross_110 rfl (lv_at hl 2 rfl) ?_
  refine gf_X5_92 C hR hS.1 rfl dX5_cross_111 ?_
  refine lv_iload_n hx hb dX5_cross_114 rfl (lv_at hl 3 rfl) ?_
  refine r_laldN (k := i) C hR (RS.j hS 32 4 rfl rfl) (by omega) (by decide) rfl dX5_cross_115 ?_
  refine lv_aload_n hx hb dX5_cross_116 rfl (lv_at hl 2 rfl) ?_
  refine gf_X5_96 C hR hS.1 rfl dX5_cross_117 ?_
  refine lv_iload_n hx hb dX5_cross_120 rfl (lv_at hl 3 rfl) ?_
  refine r_laldN (k := i) C hR (RS.j hS 33 4 rfl rfl) (by omega) (by decide) rfl dX5_cross_121 ?_
  refine ro_goL (ro_S (As := [.long (G 34 k), .long (G 35 k), .long (G 34 n), .long (G 35 n), .long (G 32 i), .long (G 33 i)]) (rest := []) C hR st_X5_175 (c_X5_turn l D cs _ (G 34 k) (G 35 k) (G 34 n) (G 35 n) (G 32 i) (G 33 i)) ⟨rfl, rfl, Nat.le_of_ble_eq_true rfl, Nat.le_of_ble_eq_true rfl⟩ rfl hl.1 rfl (Nat.le_of_ble_eq_true rfl) dX5_cross_122 ⟨Nat.le_of_ble_eq_true rfl, Nat.le_of_ble_eq_true rfl⟩) (fun r_122 h_122 => ?_)
  refine lv_lstore (lv' := [(9, .long r_122), (7, .long r_79), (5, .long r_36), (0, .ref X), (1, .int (nI i)), (2, .int (nI j)), (3, .int (nI k)), (4, .int (nI n))]) hx hb dX5_cross_125 hl (by decide) rfl (fun ls hl => ?_)
  refine lv_aload_n hx hb dX5_cross_127 rfl (lv_at hl 3 rfl) ?_
  refine gf_X5_99 C hR hS.1 rfl dX5_cross_128 ?_
  refine lv_iload_n hx hb dX5_cross_131 rfl (lv_at hl 6 rfl) ?_
  refine r_laldN (k := k) C hR (RS.j hS 34 4 rfl rfl) (by omega) (by decide) rfl dX5_cross_132 ?_
  refine lv_aload_n hx hb dX5_cross_133 rfl (lv_at hl 3 rfl) ?_
  refine gf_X5_102 C hR hS.1 rfl dX5_cross_134 ?_
  refine lv_iload_n hx hb dX5_cross_137 rfl (lv_at hl 6 rfl) ?_
  refine r_laldN (k := k) C hR (RS.j hS 35 4 rfl rfl) (by omega) (by decide) rfl dX5_cross_138 ?_
  refine lv_aload_n hx hb dX5_cross_139 rfl (lv_at hl 3 rfl) ?_
  refine gf_X5_99 C hR hS.1 rfl dX5_cross_140 ?_
  refine lv_iload hx hb dX5_cross_143 (lv_at hl 7 rfl) ?_
  refine r_laldN (k := n) C hR (RS.j hS 34 4 rfl rfl) (by omega) (by decide) rfl dX5_cross_145 ?_
  refine lv_aload_n hx hb dX5_cross_146 rfl (lv_at hl 3 rfl) ?_
  refine gf_X5_102 C hR hS.1 rfl dX5_cross_147 ?_
  refine lv_iload hx hb dX5_cross_150 (lv_at hl 7 rfl) ?_
  refine r_laldN (k := n) C hR (RS.j hS 35 4 rfl rfl) (by omega) (by decide) rfl dX5_cross_152 ?_
  refine lv_aload_n hx hb dX5_cross_153 rfl (lv_at hl 3 rfl) ?_
  refine gf_X5_92 C hR hS.1 rfl dX5_cross_154 ?_
  refine lv_iload_n hx hb dX5_cross_157 rfl (lv_at hl 5 rfl) ?_
  refine r_laldN (k := j) C hR (RS.j hS 32 4 rfl rfl) (by omega) (by decide) rfl dX5_cross_158 ?_
  refine lv_aload_n hx hb dX5_cross_159 rfl (lv_at hl 3 rfl) ?_
  refine gf_X5_96 C hR hS.1 rfl dX5_cross_160 ?_
  refine lv_iload_n hx hb dX5_cross_163 rfl (lv_at hl 5 rfl) ?_
  refine r_laldN (k := j) C hR (RS.j hS 33 4 rfl rfl) (by omega) (by decide) rfl dX5_cross_164 ?_
  refine ro_goL (ro_S (As := [.long (G 34 k), .long (G 35 k), .long (G 34 n), .long (G 35 n), .long (G 32 j), .long (G 33 j)]) (rest := []) C hR st_X5_175 (c_X5_turn l D cs _ (G 34 k) (G 35 k) (G 34 n) (G 35 n) (G 32 j) (G 33 j)) ⟨rfl, rfl, Nat.le_of_ble_eq_true rfl, Nat.le_of_ble_eq_true rfl⟩ rfl hl.1 rfl (Nat.le_of_ble_eq_true rfl) dX5_cross_165 ⟨Nat.le_of_ble_eq_true rfl, Nat.le_of_ble_eq_true rfl⟩) (fun r_165 h_165 => ?_)
  refine lv_lstore (lv' := [(11, .long r_165), (9, .long r_122), (7, .long r_79), (5, .long r_36), (0, .ref X), (1, .int (nI i)), (2, .int (nI j)), (3, .int (nI k)), (4, .int (nI n))]) hx hb dX5_cross_168 hl (by decide) rfl (fun ls hl => ?_)
  refine W.cutP (decide (¬ 0 ≤ r_36 * r_79 ∧ ¬ 0 ≤ r_122 * r_165) = false) (F0 m 192 ls []) (fun hz_192 => ?_) (fun J_192 => ?_)
  · refine W.cutP ((decide (r_36 = 0) && rOn (G 32 i) (G 33 i) (G 32 j) (G 33 j) (G 34 k) (G 35 k)) = false) (F0 m 241 ls []) (fun hz_241 => ?_) (fun J_241 => ?_)
    · refine W.cutP ((decide (r_79 = 0) && rOn (G 32 i) (G 33 i) (G 32 j) (G 33 j) (G 34 n) (G 35 n)) = false) (F0 m 292 ls []) (fun hz_292 => ?_) (fun J_292 => ?_)
      · refine W.cutP ((decide (r_122 = 0) && rOn (G 34 k) (G 35 k) (G 34 n) (G 35 n) (G 32 i) (G 33 i)) = false) (F0 m 343 ls []) (fun hz_343 => ?_) (fun J_343 => ?_)
        · refine lv_lload hx hb dX5_cross_343 (lv_at hl 0 rfl) ?_
          refine lv_lconst (v := 0) hx hb dX5_cross_345 (by decide) ?_
          refine W.lcmp hx hb dX5_cross_346 ?_
          refine lv_if_ne (tgt := 398) hx hb dX5_cross_347 (by decide) (fun c_347 => ?_) (fun c_347 => ?_)
          · have c_347 : ¬ (r_165 = 0) := fun h => c_347 ((lg_cmp_eq _ _).mpr h)
            refine lv_iconst (v := 0) hx hb dX5_cross_398 (by decide) ?_
            exact ro_zret C hr hlk rfl (bI_f (by rw [rCr, ← h_36, ← h_79, ← h_122, ← h_165, rCr0, hz_192, hz_241, hz_292, hz_343]; simp [c_347])) dX5_cross_399
          · have c_347 : r_165 = 0 := (lg_cmp_eq _ _).mp c_347
            refine lv_aload_n hx hb dX5_cross_350 rfl (lv_at hl 4 rfl) ?_
            refine gf_X5_99 C hR hS.1 rfl dX5_cross_351 ?_
            refine lv_iload_n hx hb dX5_cross_354 rfl (lv_at hl 7 rfl) ?_
            refine r_laldN (k := k) C hR (RS.j hS 34 4 rfl rfl) (by omega) (by decide) rfl dX5_cross_355 ?_
            refine lv_aload_n hx hb dX5_cross_356 rfl (lv_at hl 4 rfl) ?_
            refine gf_X5_102 C hR hS.1 rfl dX5_cross_357 ?_
            refine lv_iload_n hx hb dX5_cross_360 rfl (lv_at hl 7 rfl) ?_
            refine r_laldN (k := k) C hR (RS.j hS 35 4 rfl rfl) (by omega) (by decide) rfl dX5_cross_361 ?_
            refine lv_aload_n hx hb dX5_cross_362 rfl (lv_at hl 4 rfl) ?_
            refine gf_X5_99 C hR hS.1 rfl dX5_cross_363 ?_
            refine lv_iload hx hb dX5_cross_366 (lv_at hl 8 rfl) ?_
            refine r_laldN (k := n) C hR (RS.j hS 34 4 rfl rfl) (by omega) (by decide) rfl dX5_cross_368 ?_
            refine lv_aload_n hx hb dX5_cross_369 rfl (lv_at hl 4 rfl) ?_
            refine gf_X5_102 C hR hS.1 rfl dX5_cross_370 ?_
            refine lv_iload hx hb dX5_cross_373 (lv_at hl 8 rfl) ?_
            refine r_laldN (k := n) C hR (RS.j hS 35 4 rfl rfl) (by omega) (by decide) rfl dX5_cross_375 ?_
            refine lv_aload_n hx hb dX5_cross_376 rfl (lv_at hl 4 rfl) ?_
            refine gf_X5_92 C hR hS.1 rfl dX5_cross_377 ?_
            refine lv_iload_n hx hb dX5_cross_380 rfl (lv_at hl 6 rfl) ?_
            refine r_laldN (k := j) C hR (RS.j hS 32 4 rfl rfl) (by omega) (by decide) rfl dX5_cross_381 ?_
            refine lv_aload_n hx hb dX5_cross_382 rfl (lv_at hl 4 rfl) ?_
            refine gf_X5_96 C hR hS.1 rfl dX5_cross_383 ?_
            refine lv_iload_n hx hb dX5_cross_386 rfl (lv_at hl 6 rfl) ?_
            refine r_laldN (k := j) C hR (RS.j hS 33 4 rfl rfl) (by omega) (by decide) rfl dX5_cross_387 ?_
            refine ro_goI (ro_S (As := [.long (G 34 k), .long (G 35 k), .long (G 34 n), .long (G 35 n), .long (G 32 j), .long (G 33 j)]) (rest := []) C hR st_X5_179 (c_X5_isOn l D cs _ (G 34 k) (G 35 k) (G 34 n) (G 35 n) (G 32 j) (G 33 j)) ⟨rfl, rfl, Nat.le_of_ble_eq_true rfl, Nat.le_of_ble_eq_true rfl⟩ rfl hl.1 rfl (Nat.le_of_ble_eq_true rfl) dX5_cross_388 ⟨Nat.le_of_ble_eq_true rfl, Nat.le_of_ble_eq_true rfl⟩) (fun r_388 h_388 => ?_)
            refine lv_if_eq (tgt := 398) hx hb dX5_cross_391 (by decide) (fun c_391 => ?_) (fun c_391 => ?_)
            · have c_391 : ¬ (rOn (G 34 k) (G 35 k) (G 34 n) (G 35 n) (G 32 j) (G 33 j) = true) := bz0 h_388 c_391
              refine lv_iconst (v := 0) hx hb dX5_cross_398 (by decide) ?_
              exact ro_zret C hr hlk rfl (bI_f (by rw [rCr, ← h_36, ← h_79, ← h_122, ← h_165, rCr0, hz_192, hz_241, hz_292, hz_343]; simp [c_347, c_391])) dX5_cross_399
            · have c_391 : rOn (G 34 k) (G 35 k) (G 34 n) (G 35 n) (G 32 j) (G 33 j) = true := bz1 h_388 c_391
              refine lv_iconst (v := 1) hx hb dX5_cross_394 (by decide) ?_
              refine lv_goto (tgt := 399) hx hb dX5_cross_395 (by decide) ?_
              exact ro_zret C hr hlk rfl (bI_t (by rw [rCr, ← h_36, ← h_79, ← h_122, ← h_165, rCr0, hz_192, hz_241, hz_292, hz_343]; simp [c_347, c_391])) dX5_cross_399
        · refine lv_lload hx hb dX5_cross_292 (lv_at hl 1 rfl) ?_
          refine lv_lconst (v := 0) hx hb dX5_cross_294 (by decide) ?_
          refine W.lcmp hx hb dX5_cross_295 ?_
          refine lv_if_ne (tgt := 343) hx hb dX5_cross_296 (by decide) (fun c_296 => ?_) (fun c_296 => ?_)
          · have c_296 : ¬ (r_122 = 0) := fun h => c_296 ((lg_cmp_eq _ _).mpr h)
            exact J_343 (by simp [c_296])
          · have c_296 : r_122 = 0 := (lg_cmp_eq _ _).mp c_296
            refine lv_aload_n hx hb dX5_cross_299 rfl (lv_at hl 4 rfl) ?_
            refine gf_X5_99 C hR hS.1 rfl dX5_cross_300 ?_
            refine lv_iload_n hx hb dX5_cross_303 rfl (lv_at hl 7 rfl) ?_
            refine r_laldN (k := k) C hR (RS.j hS 34 4 rfl rfl) (by omega) (by decide) rfl dX5_cross_304 ?_
            refine lv_aload_n hx hb dX5_cross_305 rfl (lv_at hl 4 rfl) ?_
            refine gf_X5_102 C hR hS.1 rfl dX5_cross_306 ?_
            refine lv_iload_n hx hb dX5_cross_309 rfl (lv_at hl 7 rfl) ?_
            refine r_laldN (k := k) C hR (RS.j hS 35 4 rfl rfl) (by omega) (by decide) rfl dX5_cross_310 ?_
            refine lv_aload_n hx hb dX5_cross_311 rfl (lv_at hl 4 rfl) ?_
            refine gf_X5_99 C hR hS.1 rfl dX5_cross_312 ?_
            refine lv_iload hx hb dX5_cross_315 (lv_at hl 8 rfl) ?_
            refine r_laldN (k := n) C hR (RS.j hS 34 4 rfl rfl) (by omega) (by decide) rfl dX5_cross_317 ?_
            refine lv_aload_n hx hb dX5_cross_318 rfl (lv_at hl 4 rfl) ?_
            refine gf_X5_102 C hR hS.1 rfl dX5_cross_319 ?_
            refine lv_iload hx hb dX5_cross_322 (lv_at hl 8 rfl) ?_
            refine r_laldN (k := n) C hR (RS.j hS 35 4 rfl rfl) (by omega) (by decide) rfl dX5_cross_324 ?_
            refine lv_aload_n hx hb dX5_cross_325 rfl (lv_at hl 4 rfl) ?_
            refine gf_X5_92 C hR hS.1 rfl dX5_cross_326 ?_
            refine lv_iload_n hx hb dX5_cross_329 rfl (lv_at hl 5 rfl) ?_
            refine r_laldN (k := i) C hR (RS.j hS 32 4 rfl rfl) (by omega) (by decide) rfl dX5_cross_330 ?_
            refine lv_aload_n hx hb dX5_cross_331 rfl (lv_at hl 4 rfl) ?_
            refine gf_X5_96 C hR hS.1 rfl dX5_cross_332 ?_
            refine lv_iload_n hx hb dX5_cross_335 rfl (lv_at hl 5 rfl) ?_
            refine r_laldN (k := i) C hR (RS.j hS 33 4 rfl rfl) (by omega) (by decide) rfl dX5_cross_336 ?_
            refine ro_goI (ro_S (As := [.long (G 34 k), .long (G 35 k), .long (G 34 n), .long (G 35 n), .long (G 32 i), .long (G 33 i)]) (rest := []) C hR st_X5_179 (c_X5_isOn l D cs _ (G 34 k) (G 35 k) (G 34 n) (G 35 n) (G 32 i) (G 33 i)) ⟨rfl, rfl, Nat.le_of_ble_eq_true rfl, Nat.le_of_ble_eq_true rfl⟩ rfl hl.1 rfl (Nat.le_of_ble_eq_true rfl) dX5_cross_337 ⟨Nat.le_of_ble_eq_true rfl, Nat.le_of_ble_eq_true rfl⟩) (fun r_337 h_337 => ?_)
            refine lv_if_ne (tgt := 394) hx hb dX5_cross_340 (by decide) (fun c_340 => ?_) (fun c_340 => ?_)
            · have c_340 : rOn (G 34 k) (G 35 k) (G 34 n) (G 35 n) (G 32 i) (G 33 i) = true := bz1 h_337 c_340
              refine lv_iconst (v := 1) hx hb dX5_cross_394 (by decide) ?_
              refine lv_goto (tgt := 399) hx hb dX5_cross_395 (by decide) ?_
              exact ro_zret C hr hlk rfl (bI_t (by rw [rCr, ← h_36, ← h_79, ← h_122, ← h_165, rCr0, hz_192, hz_241, hz_292]; simp [c_296, c_340])) dX5_cross_399
            · have c_340 : ¬ (rOn (G 34 k) (G 35 k) (G 34 n) (G 35 n) (G 32 i) (G 33 i) = true) := bz0 h_337 c_340
              exact J_343 (by simp [c_296, c_340])
      · refine lv_lload hx hb dX5_cross_241 (lv_at hl 2 rfl) ?_
        refine lv_lconst (v := 0) hx hb dX5_cross_243 (by decide) ?_
        refine W.lcmp hx hb dX5_cross_244 ?_
        refine lv_if_ne (tgt := 292) hx hb dX5_cross_245 (by decide) (fun c_245 => ?_) (fun c_245 => ?_)
        · have c_245 : ¬ (r_79 = 0) := fun h => c_245 ((lg_cmp_eq _ _).mpr h)
          exact J_292 (by simp [c_245])
        · have c_245 : r_79 = 0 := (lg_cmp_eq _ _).mp c_245
          refine lv_aload_n hx hb dX5_cross_248 rfl (lv_at hl 4 rfl) ?_
          refine gf_X5_92 C hR hS.1 rfl dX5_cross_249 ?_
          refine lv_iload_n hx hb dX5_cross_252 rfl (lv_at hl 5 rfl) ?_
          refine r_laldN (k := i) C hR (RS.j hS 32 4 rfl rfl) (by omega) (by decide) rfl dX5_cross_253 ?_
          refine lv_aload_n hx hb dX5_cross_254 rfl (lv_at hl 4 rfl) ?_
          refine gf_X5_96 C hR hS.1 rfl dX5_cross_255 ?_
          refine lv_iload_n hx hb dX5_cross_258 rfl (lv_at hl 5 rfl) ?_
          refine r_laldN (k := i) C hR (RS.j hS 33 4 rfl rfl) (by omega) (by decide) rfl dX5_cross_259 ?_
          refine lv_aload_n hx hb dX5_cross_260 rfl (lv_at hl 4 rfl) ?_
          refine gf_X5_92 C hR hS.1 rfl dX5_cross_261 ?_
          refine lv_iload_n hx hb dX5_cross_264 rfl (lv_at hl 6 rfl) ?_
          refine r_laldN (k := j) C hR (RS.j hS 32 4 rfl rfl) (by omega) (by decide) rfl dX5_cross_265 ?_
          refine lv_aload_n hx hb dX5_cross_266 rfl (lv_at hl 4 rfl) ?_
          refine gf_X5_96 C hR hS.1 rfl dX5_cross_267 ?_
          refine lv_iload_n hx hb dX5_cross_270 rfl (lv_at hl 6 rfl) ?_
          refine r_laldN (k := j) C hR (RS.j hS 33 4 rfl rfl) (by omega) (by decide) rfl dX5_cross_271 ?_
          refine lv_aload_n hx hb dX5_cross_272 rfl (lv_at hl 4 rfl) ?_
          refine gf_X5_99 C hR hS.1 rfl dX5_cross_273 ?_
          refine lv_iload hx hb dX5_cross_276 (lv_at hl 8 rfl) ?_
          refine r_laldN (k := n) C hR (RS.j hS 34 4 rfl rfl) (by omega) (by decide) rfl dX5_cross_278 ?_
          refine lv_aload_n hx hb dX5_cross_279 rfl (lv_at hl 4 rfl) ?_
          refine gf_X5_102 C hR hS.1 rfl dX5_cross_280 ?_
          refine lv_iload hx hb dX5_cross_283 (lv_at hl 8 rfl) ?_
          refine r_laldN (k := n) C hR (RS.j hS 35 4 rfl rfl) (by omega) (by decide) rfl dX5_cross_285 ?_
          refine ro_goI (ro_S (As := [.long (G 32 i), .long (G 33 i), .long (G 32 j), .long (G 33 j), .long (G 34 n), .long (G 35 n)]) (rest := []) C hR st_X5_179 (c_X5_isOn l D cs _ (G 32 i) (G 33 i) (G 32 j) (G 33 j) (G 34 n) (G 35 n)) ⟨rfl, rfl, Nat.le_of_ble_eq_true rfl, Nat.le_of_ble_eq_true rfl⟩ rfl hl.1 rfl (Nat.le_of_ble_eq_true rfl) dX5_cross_286 ⟨Nat.le_of_ble_eq_true rfl, Nat.le_of_ble_eq_true rfl⟩) (fun r_286 h_286 => ?_)
          refine lv_if_ne (tgt := 394) hx hb dX5_cross_289 (by decide) (fun c_289 => ?_) (fun c_289 => ?_)
          · have c_289 : rOn (G 32 i) (G 33 i) (G 32 j) (G 33 j) (G 34 n) (G 35 n) = true := bz1 h_286 c_289
            refine lv_iconst (v := 1) hx hb dX5_cross_394 (by decide) ?_
            refine lv_goto (tgt := 399) hx hb dX5_cross_395 (by decide) ?_
            exact ro_zret C hr hlk rfl (bI_t (by rw [rCr, ← h_36, ← h_79, ← h_122, ← h_165, rCr0, hz_192, hz_241]; simp [c_245, c_289])) dX5_cross_399
          · have c_289 : ¬ (rOn (G 32 i) (G 33 i) (G 32 j) (G 33 j) (G 34 n) (G 35 n) = true) := bz0 h_286 c_289
            exact J_292 (by simp [c_245, c_289])
    · refine lv_lload hx hb dX5_cross_192 (lv_at hl 3 rfl) ?_
      refine lv_lconst (v := 0) hx hb dX5_cross_194 (by decide) ?_
      refine W.lcmp hx hb dX5_cross_195 ?_
      refine lv_if_ne (tgt := 241) hx hb dX5_cross_196 (by decide) (fun c_196 => ?_) (fun c_196 => ?_)
      · have c_196 : ¬ (r_36 = 0) := fun h => c_196 ((lg_cmp_eq _ _).mpr h)
        exact J_241 (by simp [c_196])
      · have c_196 : r_36 = 0 := (lg_cmp_eq _ _).mp c_196
        refine lv_aload_n hx hb dX5_cross_199 rfl (lv_at hl 4 rfl) ?_
        refine gf_X5_92 C hR hS.1 rfl dX5_cross_200 ?_
        refine lv_iload_n hx hb dX5_cross_203 rfl (lv_at hl 5 rfl) ?_
        refine r_laldN (k := i) C hR (RS.j hS 32 4 rfl rfl) (by omega) (by decide) rfl dX5_cross_204 ?_
        refine lv_aload_n hx hb dX5_cross_205 rfl (lv_at hl 4 rfl) ?_
        refine gf_X5_96 C hR hS.1 rfl dX5_cross_206 ?_
        refine lv_iload_n hx hb dX5_cross_209 rfl (lv_at hl 5 rfl) ?_
        refine r_laldN (k := i) C hR (RS.j hS 33 4 rfl rfl) (by omega) (by decide) rfl dX5_cross_210 ?_
        refine lv_aload_n hx hb dX5_cross_211 rfl (lv_at hl 4 rfl) ?_
        refine gf_X5_92 C hR hS.1 rfl dX5_cross_212 ?_
        refine lv_iload_n hx hb dX5_cross_215 rfl (lv_at hl 6 rfl) ?_
        refine r_laldN (k := j) C hR (RS.j hS 32 4 rfl rfl) (by omega) (by decide) rfl dX5_cross_216 ?_
        refine lv_aload_n hx hb dX5_cross_217 rfl (lv_at hl 4 rfl) ?_
        refine gf_X5_96 C hR hS.1 rfl dX5_cross_218 ?_
        refine lv_iload_n hx hb dX5_cross_221 rfl (lv_at hl 6 rfl) ?_
        refine r_laldN (k := j) C hR (RS.j hS 33 4 rfl rfl) (by omega) (by decide) rfl dX5_cross_222 ?_
        refine lv_aload_n hx hb dX5_cross_223 rfl (lv_at hl 4 rfl) ?_
        refine gf_X5_99 C hR hS.1 rfl dX5_cross_224 ?_
        refine lv_iload_n hx hb dX5_cross_227 rfl (lv_at hl 7 rfl) ?_
        refine r_laldN (k := k) C hR (RS.j hS 34 4 rfl rfl) (by omega) (by decide) rfl dX5_cross_228 ?_
        refine lv_aload_n hx hb dX5_cross_229 rfl (lv_at hl 4 rfl) ?_
        refine gf_X5_102 C hR hS.1 rfl dX5_cross_230 ?_
        refine lv_iload_n hx hb dX5_cross_233 rfl (lv_at hl 7 rfl) ?_
        refine r_laldN (k := k) C hR (RS.j hS 35 4 rfl rfl) (by omega) (by decide) rfl dX5_cross_234 ?_
        refine ro_goI (ro_S (As := [.long (G 32 i), .long (G 33 i), .long (G 32 j), .long (G 33 j), .long (G 34 k), .long (G 35 k)]) (rest := []) C hR st_X5_179 (c_X5_isOn l D cs _ (G 32 i) (G 33 i) (G 32 j) (G 33 j) (G 34 k) (G 35 k)) ⟨rfl, rfl, Nat.le_of_ble_eq_true rfl, Nat.le_of_ble_eq_true rfl⟩ rfl hl.1 rfl (Nat.le_of_ble_eq_true rfl) dX5_cross_235 ⟨Nat.le_of_ble_eq_true rfl, Nat.le_of_ble_eq_true rfl⟩) (fun r_235 h_235 => ?_)
        refine lv_if_ne (tgt := 394) hx hb dX5_cross_238 (by decide) (fun c_238 => ?_) (fun c_238 => ?_)
        · have c_238 : rOn (G 32 i) (G 33 i) (G 32 j) (G 33 j) (G 34 k) (G 35 k) = true := bz1 h_235 c_238
          refine lv_iconst (v := 1) hx hb dX5_cross_394 (by decide) ?_
          refine lv_goto (tgt := 399) hx hb dX5_cross_395 (by decide) ?_
          exact ro_zret C hr hlk rfl (bI_t (by rw [rCr, ← h_36, ← h_79, ← h_122, ← h_165, rCr0, hz_192]; simp [c_196, c_238])) dX5_cross_399
        · have c_238 : ¬ (rOn (G 32 i) (G 33 i) (G 32 j) (G 33 j) (G 34 k) (G 35 k) = true) := bz0 h_235 c_238
          exact J_241 (by simp [c_196, c_238])
  · refine lv_lload hx hb dX5_cross_170 (lv_at hl 3 rfl) ?_
    refine lv_lload hx hb dX5_cross_172 (lv_at hl 2 rfl) ?_
    refine lv_lmul hx hb dX5_cross_174 ?_
    refine lv_lconst (v := 0) hx hb dX5_cross_175 (by decide) ?_
    refine W.lcmp hx hb dX5_cross_176 ?_
    refine lv_if_ge (tgt := 192) hx hb dX5_cross_177 (by decide) (fun c_177 => ?_) (fun c_177 => ?_)
    · have c_177 : 0 ≤ (r_36 * r_79) := (lg_cmp_ge _ _).mp c_177
      exact J_192 (by simp [c_177])
    · have c_177 : ¬ (0 ≤ (r_36 * r_79)) := fun h => c_177 ((lg_cmp_ge _ _).mpr h)
      refine lv_lload hx hb dX5_cross_180 (lv_at hl 1 rfl) ?_
      refine lv_lload hx hb dX5_cross_182 (lv_at hl 0 rfl) ?_
      refine lv_lmul hx hb dX5_cross_184 ?_
      refine lv_lconst (v := 0) hx hb dX5_cross_185 (by decide) ?_
      refine W.lcmp hx hb dX5_cross_186 ?_
      refine lv_if_ge (tgt := 192) hx hb dX5_cross_187 (by decide) (fun c_187 => ?_) (fun c_187 => ?_)
      · have c_187 : 0 ≤ (r_122 * r_165) := (lg_cmp_ge _ _).mp c_187
        exact J_192 (by simp [c_177, c_187])
      · have c_187 : ¬ (0 ≤ (r_122 * r_165)) := fun h => c_187 ((lg_cmp_ge _ _).mpr h)
        refine lv_iconst (v := 1) hx hb dX5_cross_190 (by decide) ?_
        exact ro_zret C hr hlk rfl (bI_t (by rw [rCr, ← h_36, ← h_79, ← h_122, ← h_165, rCr0]; simp [c_177, c_187])) dX5_cross_191

def wi (o : Nat) : Nat := if o = 0 then 1 else 0
def wj (o : Nat) : Nat := if 2 ≤ o then 1 else 2
def wk (o : Nat) : Nat := if 3 ≤ o then 2 else 3
theorem w_lt (o : Nat) : wi o < 4 ∧ wj o < 4 ∧ wk o < 4 := by unfold wi wj wk; refine ⟨?_, ?_, ?_⟩ <;> split <;> decide
def rTr (s t u f : Int64) : Bool := !decide (f = 0) && (decide (¬ s < 0 ∧ ¬ t < 0 ∧ 0 ≤ u) || decide (¬ 0 < s ∧ ¬ 0 < t ∧ ¬ 0 < u))
def rWs (x y : Nat → Int64) (p q : Int64) (o : Nat) : Bool := rTr (rTurn (x (wi o)) (y (wi o)) (x (wj o)) (y (wj o)) p q) (rTurn (x (wj o)) (y (wj o)) (x (wk o)) (y (wk o)) p q) (rTurn (x (wk o)) (y (wk o)) (x (wi o)) (y (wi o)) p q) (rTurn (x (wi o)) (y (wi o)) (x (wj o)) (y (wj o)) (x (wk o)) (y (wk o)))
def rWt (x y : Nat → Int64) (p q : Int64) : Nat → Bool
  | 0 => false
  | o + 1 => rWt x y p q o || rWs x y p q o
set_option maxHeartbeats 4000000 in
set_option maxRecDepth 100000 in
theorem c_X5_isWithin (l : Launch) (D : va_G) (cs : Nat → ClassId) (M : wM) (xa ya : Nat) (gx gy : Nat → Int64) (hxa : M xa = some (.inl (cs 1, 4, .inr (.inl gx)))) (hya : M ya = some (.inl (cs 1, 4, .inr (.inl gy)))) (p0 q : Int64) : Met l yX5_isWithin (mw yX5_isWithin cX5_isWithin 18 (some .boolean)) { frames := 1, cells := 0, slots := 0, locals := 33 } (roP D cs M [.ref xa, .ref ya, .long p0, .long q]) (vp_Si (fun r => r = bI (rWt gx gy p0 q 4 = true))) 0 0 noA := by
  refine ro_met rfl (Nat.le_of_ble_eq_true rfl) ?_
  intro p e s m below meth c ls C hR hr hlk hl
  have C : kx D cs p m c cX5_isWithin 18 s _ RX5 := C
  have hx := C.1.1
  have hb := C.1.2.1
  have hl : lv_has ls 18 [(0, .ref xa), (1, .ref ya), (2, .long p0), (4, .long q)] := hl
  refine lv_iconst (v := 0) hx hb dX5_isWithin_0 (by decide) ?_
  refine lv_istore (lv' := [(6, .int 0), (0, .ref xa), (1, .ref ya), (2, .long p0), (4, .long q)]) hx hb dX5_isWithin_1 hl (by decide) rfl (fun ls hl => ?_)
  refine lv_iconst (v := 0) hx hb dX5_isWithin_3 (by decide) ?_
  refine lv_istore (lv' := [(7, .int 0), (6, .int 0), (0, .ref xa), (1, .ref ya), (2, .long p0), (4, .long q)]) hx hb dX5_isWithin_4 hl (by decide) rfl (fun ls hl => ?_)
  refine W.loop (σ := Nat × Int32 × Array Slot) (fun ⟨o, z, ls⟩ => F0 m 6 ls []) (fun ⟨o, z, ls⟩ => (o ≤ 4) ∧ (z = bI (rWt gx gy p0 q o = true)) ∧ lv_has ls 18 [(6, .int z), (7, .int (nI o)), (0, .ref xa), (1, .ref ya), (2, .long p0), (4, .long q)]) (fun ⟨o, z, ls⟩ => 4 - o) ?_ (0, 0, _) ⟨by omega, bI_f (by simp [rWt]), lv_sub hl [1, 0, 2, 3, 4, 5] rfl⟩ rfl
  intro ⟨o, z, ls⟩ ⟨ho, hz, hl⟩ ih_6
  show W _ _ _ _ _ _ _ _ _ _ _ _ _ _ _ (F0 m 6 ls [])
  have hl : lv_has ls 18 [(6, .int z), (7, .int (nI o)), (0, .ref xa), (1, .ref ya), (2, .long p0), (4, .long q)] := hl
  have hw := w_lt o
  refine lv_iload hx hb dX5_isWithin_6 (lv_at hl 1 rfl) ?_
  refine lv_iconst (v := 4) hx hb dX5_isWithin_8 (by decide) ?_
  refine lv_icmp_ge (tgt := 226) hx hb dX5_isWithin_9 (by decide) (fun c_9 => ?_) (fun c_9 => ?_)
  · have c_9 := cle_t (a := 4) (b := o) c_9 (by omega) (by omega)
    refine lv_iload hx hb dX5_isWithin_226 (lv_at hl 0 rfl) ?_
    exact ro_zret C hr hlk (z_nar (bI_01 hz)) (Eq.trans hz (by rw [show o = 4 by omega])) dX5_isWithin_228
  · have c_9 := cle_f (a := 4) (b := o) c_9 (by omega) (by omega)
    refine W.cut (fun z => z = nI (wi o)) (fun z => F0 m 22 ls (.int z :: [])) (fun z_22 hz_22 => ?_) (fun J_22 => ?_)
    · subst hz_22
      refine lv_istore (lv' := [(8, .int (nI (wi o))), (6, .int z), (7, .int (nI o)), (0, .ref xa), (1, .ref ya), (2, .long p0), (4, .long q)]) hx hb dX5_isWithin_22 hl (by decide) rfl (fun ls hl => ?_)
      refine W.cut (fun z => z = nI (wj o)) (fun z => F0 m 35 ls (.int z :: [])) (fun z_35 hz_35 => ?_) (fun J_35 => ?_)
      · subst hz_35
        refine lv_istore (lv' := [(9, .int (nI (wj o))), (8, .int (nI (wi o))), (6, .int z), (7, .int (nI o)), (0, .ref xa), (1, .ref ya), (2, .long p0), (4, .long q)]) hx hb dX5_isWithin_35 hl (by decide) rfl (fun ls hl => ?_)
        refine W.cut (fun z => z = nI (wk o)) (fun z => F0 m 48 ls (.int z :: [])) (fun z_48 hz_48 => ?_) (fun J_48 => ?_)
        · subst hz_48
          refine lv_istore (lv' := [(10, .int (nI (wk o))), (9, .int (nI (wj o))), (8, .int (nI (wi o))), (6, .int z), (7, .int (nI o)), (0, .ref xa), (1, .ref ya), (2, .long p0), (4, .long q)]) hx hb dX5_isWithin_48 hl (by decide) rfl (fun ls hl => ?_)
          refine lv_aload_n hx hb dX5_isWithin_50 rfl (lv_at hl 5 rfl) ?_
          refine lv_iload hx hb dX5_isWithin_51 (lv_at hl 2 rfl) ?_
          refine r_laldN (k := (wi o)) C hR hxa (by omega) (by decide) rfl dX5_isWithin_53 ?_
          refine lv_aload_n hx hb dX5_isWithin_54 rfl (lv_at hl 6 rfl) ?_
          refine lv_iload hx hb dX5_isWithin_55 (lv_at hl 2 rfl) ?_
          refine r_laldN (k := (wi o)) C hR hya (by omega) (by decide) rfl dX5_isWithin_57 ?_
          refine lv_aload_n hx hb dX5_isWithin_58 rfl (lv_at hl 5 rfl) ?_
          refine lv_iload hx hb dX5_isWithin_59 (lv_at hl 1 rfl) ?_
          refine r_laldN (k := (wj o)) C hR hxa (by omega) (by decide) rfl dX5_isWithin_61 ?_
          refine lv_aload_n hx hb dX5_isWithin_62 rfl (lv_at hl 6 rfl) ?_
          refine lv_iload hx hb dX5_isWithin_63 (lv_at hl 1 rfl) ?_
          refine r_laldN (k := (wj o)) C hR hya (by omega) (by decide) rfl dX5_isWithin_65 ?_
          refine lv_lload_n hx hb dX5_isWithin_66 rfl (lv_at hl 7 rfl) ?_
          refine lv_lload hx hb dX5_isWithin_67 (lv_at hl 8 rfl) ?_
          refine ro_goL (ro_S (As := [.long (gx (wi o)), .long (gy (wi o)), .long (gx (wj o)), .long (gy (wj o)), .long p0, .long q]) (rest := []) C hR st_X5_175 (c_X5_turn l D cs _ (gx (wi o)) (gy (wi o)) (gx (wj o)) (gy (wj o)) p0 q) ⟨rfl, rfl, Nat.le_of_ble_eq_true rfl, Nat.le_of_ble_eq_true rfl⟩ rfl hl.1 rfl (Nat.le_of_ble_eq_true rfl) dX5_isWithin_69 ⟨Nat.le_of_ble_eq_true rfl, Nat.le_of_ble_eq_true rfl⟩) (fun r_69 h_69 => ?_)
          refine lv_lstore (lv' := [(11, .long r_69), (10, .int (nI (wk o))), (9, .int (nI (wj o))), (8, .int (nI (wi o))), (6, .int z), (7, .int (nI o)), (0, .ref xa), (1, .ref ya), (2, .long p0), (4, .long q)]) hx hb dX5_isWithin_72 hl (by decide) rfl (fun ls hl => ?_)
          refine lv_aload_n hx hb dX5_isWithin_74 rfl (lv_at hl 6 rfl) ?_
          refine lv_iload hx hb dX5_isWithin_75 (lv_at hl 2 rfl) ?_
          refine r_laldN (k := (wj o)) C hR hxa (by omega) (by decide) rfl dX5_isWithin_77 ?_
          refine lv_aload_n hx hb dX5_isWithin_78 rfl (lv_at hl 7 rfl) ?_
          refine lv_iload hx hb dX5_isWithin_79 (lv_at hl 2 rfl) ?_
          refine r_laldN (k := (wj o)) C hR hya (by omega) (by decide) rfl dX5_isWithin_81 ?_
          refine lv_aload_n hx hb dX5_isWithin_82 rfl (lv_at hl 6 rfl) ?_
          refine lv_iload hx hb dX5_isWithin_83 (lv_at hl 1 rfl) ?_
          refine r_laldN (k := (wk o)) C hR hxa (by omega) (by decide) rfl dX5_isWithin_85 ?_
          refine lv_aload_n hx hb dX5_isWithin_86 rfl (lv_at hl 7 rfl) ?_
          refine lv_iload hx hb dX5_isWithin_87 (lv_at hl 1 rfl) ?_
          refine r_laldN (k := (wk o)) C hR hya (by omega) (by decide) rfl dX5_isWithin_89 ?_
          refine lv_lload_n hx hb dX5_isWithin_90 rfl (lv_at hl 8 rfl) ?_
          refine lv_lload hx hb dX5_isWithin_91 (lv_at hl 9 rfl) ?_
          refine ro_goL (ro_S (As := [.long (gx (wj o)), .long (gy (wj o)), .long (gx (wk o)), .long (gy (wk o)), .long p0, .long q]) (rest := []) C hR st_X5_175 (c_X5_turn l D cs _ (gx (wj o)) (gy (wj o)) (gx (wk o)) (gy (wk o)) p0 q) ⟨rfl, rfl, Nat.le_of_ble_eq_true rfl, Nat.le_of_ble_eq_true rfl⟩ rfl hl.1 rfl (Nat.le_of_ble_eq_true rfl) dX5_isWithin_93 ⟨Nat.le_of_ble_eq_true rfl, Nat.le_of_ble_eq_true rfl⟩) (fun r_93 h_93 => ?_)
          refine lv_lstore (lv' := [(13, .long r_93), (11, .long r_69), (10, .int (nI (wk o))), (9, .int (nI (wj o))), (8, .int (nI (wi o))), (6, .int z), (7, .int (nI o)), (0, .ref xa), (1, .ref ya), (2, .long p0), (4, .long q)]) hx hb dX5_isWithin_96 hl (by decide) rfl (fun ls hl => ?_)
          refine lv_aload_n hx hb dX5_isWithin_98 rfl (lv_at hl 7 rfl) ?_
          refine lv_iload hx hb dX5_isWithin_99 (lv_at hl 2 rfl) ?_
          refine r_laldN (k := (wk o)) C hR hxa (by omega) (by decide) rfl dX5_isWithin_101 ?_
          refine lv_aload_n hx hb dX5_isWithin_102 rfl (lv_at hl 8 rfl) ?_
          refine lv_iload hx hb dX5_isWithin_103 (lv_at hl 2 rfl) ?_
          refine r_laldN (k := (wk o)) C hR hya (by omega) (by decide) rfl dX5_isWithin_105 ?_
          refine lv_aload_n hx hb dX5_isWithin_106 rfl (lv_at hl 7 rfl) ?_
          refine lv_iload hx hb dX5_isWithin_107 (lv_at hl 4 rfl) ?_
          refine r_laldN (k := (wi o)) C hR hxa (by omega) (by decide) rfl dX5_isWithin_109 ?_
          refine lv_aload_n hx hb dX5_isWithin_110 rfl (lv_at hl 8 rfl) ?_
          refine lv_iload hx hb dX5_isWithin_111 (lv_at hl 4 rfl) ?_
          refine r_laldN (k := (wi o)) C hR hya (by omega) (by decide) rfl dX5_isWithin_113 ?_
          refine lv_lload_n hx hb dX5_isWithin_114 rfl (lv_at hl 9 rfl) ?_
          refine lv_lload hx hb dX5_isWithin_115 (lv_at hl 10 rfl) ?_
          refine ro_goL (ro_S (As := [.long (gx (wk o)), .long (gy (wk o)), .long (gx (wi o)), .long (gy (wi o)), .long p0, .long q]) (rest := []) C hR st_X5_175 (c_X5_turn l D cs _ (gx (wk o)) (gy (wk o)) (gx (wi o)) (gy (wi o)) p0 q) ⟨rfl, rfl, Nat.le_of_ble_eq_true rfl, Nat.le_of_ble_eq_true rfl⟩ rfl hl.1 rfl (Nat.le_of_ble_eq_true rfl) dX5_isWithin_117 ⟨Nat.le_of_ble_eq_true rfl, Nat.le_of_ble_eq_true rfl⟩) (fun r_117 h_117 => ?_)
          refine lv_lstore (lv' := [(15, .long r_117), (13, .long r_93), (11, .long r_69), (10, .int (nI (wk o))), (9, .int (nI (wj o))), (8, .int (nI (wi o))), (6, .int z), (7, .int (nI o)), (0, .ref xa), (1, .ref ya), (2, .long p0), (4, .long q)]) hx hb dX5_isWithin_120 hl (by decide) rfl (fun ls hl => ?_)
          refine lv_aload_n hx hb dX5_isWithin_122 rfl (lv_at hl 8 rfl) ?_
          refine lv_iload hx hb dX5_isWithin_123 (lv_at hl 5 rfl) ?_
          refine r_laldN (k := (wi o)) C hR hxa (by omega) (by decide) rfl dX5_isWithin_125 ?_
          refine lv_aload_n hx hb dX5_isWithin_126 rfl (lv_at hl 9 rfl) ?_
          refine lv_iload hx hb dX5_isWithin_127 (lv_at hl 5 rfl) ?_
          refine r_laldN (k := (wi o)) C hR hya (by omega) (by decide) rfl dX5_isWithin_129 ?_
          refine lv_aload_n hx hb dX5_isWithin_130 rfl (lv_at hl 8 rfl) ?_
          refine lv_iload hx hb dX5_isWithin_131 (lv_at hl 4 rfl) ?_
          refine r_laldN (k := (wj o)) C hR hxa (by omega) (by decide) rfl dX5_isWithin_133 ?_
          refine lv_aload_n hx hb dX5_isWithin_134 rfl (lv_at hl 9 rfl) ?_
          refine lv_iload hx hb dX5_isWithin_135 (lv_at hl 4 rfl) ?_
          refine r_laldN (k := (wj o)) C hR hya (by omega) (by decide) rfl dX5_isWithin_137 ?_
          refine lv_aload_n hx hb dX5_isWithin_138 rfl (lv_at hl 8 rfl) ?_
          refine lv_iload hx hb dX5_isWithin_139 (lv_at hl 3 rfl) ?_
          refine r_laldN (k := (wk o)) C hR hxa (by omega) (by decide) rfl dX5_isWithin_141 ?_
          refine lv_aload_n hx hb dX5_isWithin_142 rfl (lv_at hl 9 rfl) ?_
          refine lv_iload hx hb dX5_isWithin_143 (lv_at hl 3 rfl) ?_
          refine r_laldN (k := (wk o)) C hR hya (by omega) (by decide) rfl dX5_isWithin_145 ?_
          refine ro_goL (ro_S (As := [.long (gx (wi o)), .long (gy (wi o)), .long (gx (wj o)), .long (gy (wj o)), .long (gx (wk o)), .long (gy (wk o))]) (rest := []) C hR st_X5_175 (c_X5_turn l D cs _ (gx (wi o)) (gy (wi o)) (gx (wj o)) (gy (wj o)) (gx (wk o)) (gy (wk o))) ⟨rfl, rfl, Nat.le_of_ble_eq_true rfl, Nat.le_of_ble_eq_true rfl⟩ rfl hl.1 rfl (Nat.le_of_ble_eq_true rfl) dX5_isWithin_146 ⟨Nat.le_of_ble_eq_true rfl, Nat.le_of_ble_eq_true rfl⟩) (fun r_146 h_146 => ?_)
          refine W.cut (fun z => z = bI (r_146 = 0)) (fun z => F0 m 159 ls (.int z :: [])) (fun z_159 hz_159 => ?_) (fun J_159 => ?_)
          · refine lv_istore (lv' := [(17, .int z_159), (15, .long r_117), (13, .long r_93), (11, .long r_69), (10, .int (nI (wk o))), (9, .int (nI (wj o))), (8, .int (nI (wi o))), (6, .int z), (7, .int (nI o)), (0, .ref xa), (1, .ref ya), (2, .long p0), (4, .long q)]) hx hb dX5_isWithin_159 hl (by decide) rfl (fun ls hl => ?_)
            refine W.cut (fun z => z = bI ((rWt gx gy p0 q o || rWs gx gy p0 q o) = true)) (fun z => F0 m 218 ls (.int z :: [])) (fun z_218 hz_218 => ?_) (fun J_218 => ?_)
            · refine lv_istore (lv' := [(6, .int z_218), (17, .int z_159), (15, .long r_117), (13, .long r_93), (11, .long r_69), (10, .int (nI (wk o))), (9, .int (nI (wj o))), (8, .int (nI (wi o))), (7, .int (nI o)), (0, .ref xa), (1, .ref ya), (2, .long p0), (4, .long q)]) hx hb dX5_isWithin_218 hl (by decide) rfl (fun ls hl => ?_)
              refine lv_iinc (v := nI (o + 1)) (lv' := [(7, .int (nI (o + 1))), (6, .int z_218), (17, .int z_159), (15, .long r_117), (13, .long r_93), (11, .long r_69), (10, .int (nI (wk o))), (9, .int (nI (wj o))), (8, .int (nI (wi o))), (0, .ref xa), (1, .ref ya), (2, .long p0), (4, .long q)]) hx hb dX5_isWithin_220 hl (k := 8) rfl (by exact tn_add rfl rfl) (by decide) rfl (fun ls hl => ?_)
              refine lv_goto (tgt := 6) hx hb dX5_isWithin_223 (by decide) ?_
              exact ih_6 ((o + 1), z_218, _) ⟨by omega, hz_218, lv_sub hl [1, 0, 9, 10, 11, 12] rfl⟩ (by show 4 - (o + 1) < 4 - o; omega)
            · refine lv_iload hx hb dX5_isWithin_161 (lv_at hl 7 rfl) ?_
              refine lv_if_ne (tgt := 213) hx hb dX5_isWithin_163 (by decide) (fun c_163 => ?_) (fun c_163 => ?_)
              · have c_163 : rWt gx gy p0 q o = true := bz1 hz c_163
                refine lv_iconst (v := 1) hx hb dX5_isWithin_213 (by decide) ?_
                refine lv_goto (tgt := 218) hx hb dX5_isWithin_214 (by decide) ?_
                exact J_218 _ (bI_t (by rw [rWs, ← h_69, ← h_93, ← h_117, ← h_146]; simp [rTr, c_163]))
              · have c_163 : ¬ (rWt gx gy p0 q o = true) := bz0 hz c_163
                refine lv_iload hx hb dX5_isWithin_166 (lv_at hl 0 rfl) ?_
                refine lv_if_ne (tgt := 217) hx hb dX5_isWithin_168 (by decide) (fun c_168 => ?_) (fun c_168 => ?_)
                · have c_168 : r_146 = 0 := bz1 hz_159 c_168
                  refine lv_iconst (v := 0) hx hb dX5_isWithin_217 (by decide) ?_
                  exact J_218 _ (bI_f (by rw [rWs, ← h_69, ← h_93, ← h_117, ← h_146]; simp [rTr, c_163, c_168]))
                · have c_168 : ¬ (r_146 = 0) := bz0 hz_159 c_168
                  refine lv_lload hx hb dX5_isWithin_171 (lv_at hl 3 rfl) ?_
                  refine lv_lconst (v := 0) hx hb dX5_isWithin_173 (by decide) ?_
                  refine W.lcmp hx hb dX5_isWithin_174 ?_
                  refine lv_if_lt (tgt := 192) hx hb dX5_isWithin_175 (by decide) (fun c_175 => ?_) (fun c_175 => ?_)
                  · have c_175 : r_69 < 0 := (lg_cmp_lt _ _).mp c_175
                    refine lv_lload hx hb dX5_isWithin_192 (lv_at hl 3 rfl) ?_
                    refine lv_lconst (v := 0) hx hb dX5_isWithin_194 (by decide) ?_
                    refine W.lcmp hx hb dX5_isWithin_195 ?_
                    refine lv_if_gt (tgt := 217) hx hb dX5_isWithin_196 (by decide) (fun c_196 => ?_) (fun c_196 => ?_)
                    · have c_196 : 0 < r_69 := (lg_cmp_gt _ _).mp c_196
                      refine lv_iconst (v := 0) hx hb dX5_isWithin_217 (by decide) ?_
                      exact J_218 _ (bI_f (by rw [rWs, ← h_69, ← h_93, ← h_117, ← h_146]; simp [rTr, c_163, c_168, c_175, c_196]))
                    · have c_196 : ¬ (0 < r_69) := fun h => c_196 ((lg_cmp_gt _ _).mpr h)
                      refine lv_lload hx hb dX5_isWithin_199 (lv_at hl 2 rfl) ?_
                      refine lv_lconst (v := 0) hx hb dX5_isWithin_201 (by decide) ?_
                      refine W.lcmp hx hb dX5_isWithin_202 ?_
                      refine lv_if_gt (tgt := 217) hx hb dX5_isWithin_203 (by decide) (fun c_203 => ?_) (fun c_203 => ?_)
                      · have c_203 : 0 < r_93 := (lg_cmp_gt _ _).mp c_203
                        refine lv_iconst (v := 0) hx hb dX5_isWithin_217 (by decide) ?_
                        exact J_218 _ (bI_f (by rw [rWs, ← h_69, ← h_93, ← h_117, ← h_146]; simp [rTr, c_163, c_168, c_175, c_196, c_203]))
                      · have c_203 : ¬ (0 < r_93) := fun h => c_203 ((lg_cmp_gt _ _).mpr h)
                        refine lv_lload hx hb dX5_isWithin_206 (lv_at hl 1 rfl) ?_
                        refine lv_lconst (v := 0) hx hb dX5_isWithin_208 (by decide) ?_
                        refine W.lcmp hx hb dX5_isWithin_209 ?_
                        refine lv_if_gt (tgt := 217) hx hb dX5_isWithin_210 (by decide) (fun c_210 => ?_) (fun c_210 => ?_)
                        · have c_210 : 0 < r_117 := (lg_cmp_gt _ _).mp c_210
                          refine lv_iconst (v := 0) hx hb dX5_isWithin_217 (by decide) ?_
                          exact J_218 _ (bI_f (by rw [rWs, ← h_69, ← h_93, ← h_117, ← h_146]; simp [rTr, c_163, c_168, c_175, c_196, c_203, c_210]))
                        · have c_210 : ¬ (0 < r_117) := fun h => c_210 ((lg_cmp_gt _ _).mpr h)
                          refine lv_iconst (v := 1) hx hb dX5_isWithin_213 (by decide) ?_
                          refine lv_goto (tgt := 218) hx hb dX5_isWithin_214 (by decide) ?_
                          exact J_218 _ (bI_t (by rw [rWs, ← h_69, ← h_93, ← h_117, ← h_146]; simp [rTr, c_163, c_168, c_175, c_196, c_203, c_210]))
                  · have c_175 : ¬ (r_69 < 0) := fun h => c_175 ((lg_cmp_lt _ _).mpr h)
                    refine lv_lload hx hb dX5_isWithin_178 (lv_at hl 2 rfl) ?_
                    refine lv_lconst (v := 0) hx hb dX5_isWithin_180 (by decide) ?_
                    refine W.lcmp hx hb dX5_isWithin_181 ?_
                    refine lv_if_lt (tgt := 192) hx hb dX5_isWithin_182 (by decide) (fun c_182 => ?_) (fun c_182 => ?_)
                    · have c_182 : r_93 < 0 := (lg_cmp_lt _ _).mp c_182
                      refine lv_lload hx hb dX5_isWithin_192 (lv_at hl 3 rfl) ?_
                      refine lv_lconst (v := 0) hx hb dX5_isWithin_194 (by decide) ?_
                      refine W.lcmp hx hb dX5_isWithin_195 ?_
                      refine lv_if_gt (tgt := 217) hx hb dX5_isWithin_196 (by decide) (fun c_196 => ?_) (fun c_196 => ?_)
                      · have c_196 : 0 < r_69 := (lg_cmp_gt _ _).mp c_196
                        refine lv_iconst (v := 0) hx hb dX5_isWithin_217 (by decide) ?_
                        exact J_218 _ (bI_f (by rw [rWs, ← h_69, ← h_93, ← h_117, ← h_146]; simp [rTr, c_163, c_168, c_175, c_182, c_196]))
                      · have c_196 : ¬ (0 < r_69) := fun h => c_196 ((lg_cmp_gt _ _).mpr h)
                        refine lv_lload hx hb dX5_isWithin_199 (lv_at hl 2 rfl) ?_
                        refine lv_lconst (v := 0) hx hb dX5_isWithin_201 (by decide) ?_
                        refine W.lcmp hx hb dX5_isWithin_202 ?_
                        refine lv_if_gt (tgt := 217) hx hb dX5_isWithin_203 (by decide) (fun c_203 => ?_) (fun c_203 => ?_)
                        · have c_203 : 0 < r_93 := (lg_cmp_gt _ _).mp c_203
                          refine lv_iconst (v := 0) hx hb dX5_isWithin_217 (by decide) ?_
                          exact J_218 _ (bI_f (by rw [rWs, ← h_69, ← h_93, ← h_117, ← h_146]; simp [rTr, c_163, c_168, c_175, c_182, c_196, c_203]))
                        · have c_203 : ¬ (0 < r_93) := fun h => c_203 ((lg_cmp_gt _ _).mpr h)
                          refine lv_lload hx hb dX5_isWithin_206 (lv_at hl 1 rfl) ?_
                          refine lv_lconst (v := 0) hx hb dX5_isWithin_208 (by decide) ?_
                          refine W.lcmp hx hb dX5_isWithin_209 ?_
                          refine lv_if_gt (tgt := 217) hx hb dX5_isWithin_210 (by decide) (fun c_210 => ?_) (fun c_210 => ?_)
                          · have c_210 : 0 < r_117 := (lg_cmp_gt _ _).mp c_210
                            refine lv_iconst (v := 0) hx hb dX5_isWithin_217 (by decide) ?_
                            exact J_218 _ (bI_f (by rw [rWs, ← h_69, ← h_93, ← h_117, ← h_146]; simp [rTr, c_163, c_168, c_175, c_182, c_196, c_203, c_210]))
                          · have c_210 : ¬ (0 < r_117) := fun h => c_210 ((lg_cmp_gt _ _).mpr h)
                            refine lv_iconst (v := 1) hx hb dX5_isWithin_213 (by decide) ?_
                            refine lv_goto (tgt := 218) hx hb dX5_isWithin_214 (by decide) ?_
                            exact J_218 _ (bI_t (by rw [rWs, ← h_69, ← h_93, ← h_117, ← h_146]; simp [rTr, c_163, c_168, c_175, c_182, c_196, c_203, c_210]))
                    · have c_182 : ¬ (r_93 < 0) := fun h => c_182 ((lg_cmp_lt _ _).mpr h)
                      refine lv_lload hx hb dX5_isWithin_185 (lv_at hl 1 rfl) ?_
                      refine lv_lconst (v := 0) hx hb dX5_isWithin_187 (by decide) ?_
                      refine W.lcmp hx hb dX5_isWithin_188 ?_
                      refine lv_if_ge (tgt := 213) hx hb dX5_isWithin_189 (by decide) (fun c_189 => ?_) (fun c_189 => ?_)
                      · have c_189 : 0 ≤ r_117 := (lg_cmp_ge _ _).mp c_189
                        refine lv_iconst (v := 1) hx hb dX5_isWithin_213 (by decide) ?_
                        refine lv_goto (tgt := 218) hx hb dX5_isWithin_214 (by decide) ?_
                        exact J_218 _ (bI_t (by rw [rWs, ← h_69, ← h_93, ← h_117, ← h_146]; simp [rTr, c_163, c_168, c_175, c_182, c_189]))
                      · have c_189 : ¬ (0 ≤ r_117) := fun h => c_189 ((lg_cmp_ge _ _).mpr h)
                        refine lv_lload hx hb dX5_isWithin_192 (lv_at hl 3 rfl) ?_
                        refine lv_lconst (v := 0) hx hb dX5_isWithin_194 (by decide) ?_
                        refine W.lcmp hx hb dX5_isWithin_195 ?_
                        refine lv_if_gt (tgt := 217) hx hb dX5_isWithin_196 (by decide) (fun c_196 => ?_) (fun c_196 => ?_)
                        · have c_196 : 0 < r_69 := (lg_cmp_gt _ _).mp c_196
                          refine lv_iconst (v := 0) hx hb dX5_isWithin_217 (by decide) ?_
                          exact J_218 _ (bI_f (by rw [rWs, ← h_69, ← h_93, ← h_117, ← h_146]; simp [rTr, c_163, c_168, c_175, c_182, c_189, c_196]))
                        · have c_196 : ¬ (0 < r_69) := fun h => c_196 ((lg_cmp_gt _ _).mpr h)
                          refine lv_lload hx hb dX5_isWithin_199 (lv_at hl 2 rfl) ?_
                          refine lv_lconst (v := 0) hx hb dX5_isWithin_201 (by decide) ?_
                          refine W.lcmp hx hb dX5_isWithin_202 ?_
                          refine lv_if_gt (tgt := 217) hx hb dX5_isWithin_203 (by decide) (fun c_203 => ?_) (fun c_203 => ?_)
                          · have c_203 : 0 < r_93 := (lg_cmp_gt _ _).mp c_203
                            refine lv_iconst (v := 0) hx hb dX5_isWithin_217 (by decide) ?_
                            exact J_218 _ (bI_f (by rw [rWs, ← h_69, ← h_93, ← h_117, ← h_146]; simp [rTr, c_163, c_168, c_175, c_182, c_189, c_196, c_203]))
                          · have c_203 : ¬ (0 < r_93) := fun h => c_203 ((lg_cmp_gt _ _).mpr h)
                            refine lv_lload hx hb dX5_isWithin_206 (lv_at hl 1 rfl) ?_
                            refine lv_lconst (v := 0) hx hb dX5_isWithin_208 (by decide) ?_
                            refine W.lcmp hx hb dX5_isWithin_209 ?_
                            refine lv_if_gt (tgt := 217) hx hb dX5_isWithin_210 (by decide) (fun c_210 => ?_) (fun c_210 => ?_)
                            · have c_210 : 0 < r_117 := (lg_cmp_gt _ _).mp c_210
                              refine lv_iconst (v := 0) hx hb dX5_isWithin_217 (by decide) ?_
                              exact J_218 _ (bI_f (by rw [rWs, ← h_69, ← h_93, ← h_117, ← h_146]; simp [rTr, c_163, c_168, c_175, c_182, c_189, c_196, c_203, c_210]))
                            · have c_210 : ¬ (0 < r_117) := fun h => c_210 ((lg_cmp_gt _ _).mpr h)
                              refine lv_iconst (v := 1) hx hb dX5_isWithin_213 (by decide) ?_
                              refine lv_goto (tgt := 218) hx hb dX5_isWithin_214 (by decide) ?_
                              exact J_218 _ (bI_t (by rw [rWs, ← h_69, ← h_93, ← h_117, ← h_146]; simp [rTr, c_163, c_168, c_175, c_182, c_189, c_196, c_203, c_210]))
          · refine lv_lconst (v := 0) hx hb dX5_isWithin_149 (by decide) ?_
            refine W.lcmp hx hb dX5_isWithin_150 ?_
            refine lv_if_ne (tgt := 158) hx hb dX5_isWithin_151 (by decide) (fun c_151 => ?_) (fun c_151 => ?_)
            · have c_151 : ¬ (r_146 = 0) := fun h => c_151 ((lg_cmp_eq _ _).mpr h)
              refine lv_iconst (v := 0) hx hb dX5_isWithin_158 (by decide) ?_
              exact J_159 _ (bI_f (by simp [c_151]))
            · have c_151 : r_146 = 0 := (lg_cmp_eq _ _).mp c_151
              refine lv_iconst (v := 1) hx hb dX5_isWithin_154 (by decide) ?_
              refine lv_goto (tgt := 159) hx hb dX5_isWithin_155 (by decide) ?_
              exact J_159 _ (bI_t (by simp [c_151]))
        · refine lv_iload hx hb dX5_isWithin_37 (lv_at hl 3 rfl) ?_
          refine lv_iconst (v := 3) hx hb dX5_isWithin_39 (by decide) ?_
          refine lv_icmp_ge (tgt := 47) hx hb dX5_isWithin_40 (by decide) (fun c_40 => ?_) (fun c_40 => ?_)
          · have c_40 := cle_t (a := 3) (b := o) c_40 (by omega) (by omega)
            refine lv_iconst (v := 2) hx hb dX5_isWithin_47 (by decide) ?_
            exact J_48 _ (by unfold wk; split <;> first | rfl | omega)
          · have c_40 := cle_f (a := 3) (b := o) c_40 (by omega) (by omega)
            refine lv_iconst (v := 3) hx hb dX5_isWithin_43 (by decide) ?_
            refine lv_goto (tgt := 48) hx hb dX5_isWithin_44 (by decide) ?_
            exact J_48 _ (by unfold wk; split <;> first | rfl | omega)
      · refine lv_iload hx hb dX5_isWithin_24 (lv_at hl 2 rfl) ?_
        refine lv_iconst (v := 2) hx hb dX5_isWithin_26 (by decide) ?_
        refine lv_icmp_ge (tgt := 34) hx hb dX5_isWithin_27 (by decide) (fun c_27 => ?_) (fun c_27 => ?_)
        · have c_27 := cle_t (a := 2) (b := o) c_27 (by omega) (by omega)
          refine lv_iconst (v := 1) hx hb dX5_isWithin_34 (by decide) ?_
          exact J_35 _ (by unfold wj; split <;> first | rfl | omega)
        · have c_27 := cle_f (a := 2) (b := o) c_27 (by omega) (by omega)
          refine lv_iconst (v := 2) hx hb dX5_isWithin_30 (by decide) ?_
          refine lv_goto (tgt := 35) hx hb dX5_isWithin_31 (by decide) ?_
          exact J_35 _ (by unfold wj; split <;> first | rfl | omega)
    · refine lv_iload hx hb dX5_isWithin_12 (lv_at hl 1 rfl) ?_
      refine lv_if_ne (tgt := 21) hx hb dX5_isWithin_14 (by decide) (fun c_14 => ?_) (fun c_14 => ?_)
      · have c_14 := ceq_f (a := o) (b := 0) c_14 (by omega) (by omega)
        refine lv_iconst (v := 0) hx hb dX5_isWithin_21 (by decide) ?_
        exact J_22 _ (by unfold wi; split <;> first | rfl | omega)
      · have c_14 := ceq_t (a := o) (b := 0) c_14 (by omega) (by omega)
        refine lv_iconst (v := 1) hx hb dX5_isWithin_17 (by decide) ?_
        refine lv_goto (tgt := 22) hx hb dX5_isWithin_18 (by decide) ?_
        exact J_22 _ (by unfold wi; split <;> first | rfl | omega)
end
section
/-- a flag and what it tells -/
def fl (z : Int32) (P : Prop) : Prop := (z = 1 ∧ P) ∨ (z = 0 ∧ ¬ P)
theorem fl_of {z : Int32} {P : Prop} [Decidable P] (h : z = bI P) : fl z P := by
  by_cases q : P
  · exact Or.inl ⟨by rw [h]; simp [bI, q], q⟩
  · exact Or.inr ⟨by rw [h]; simp [bI, q], q⟩
theorem fl_bI {z : Int32} {P : Prop} [Decidable P] (h : fl z P) : z = bI P := by
  rcases h with ⟨e, q⟩ | ⟨e, q⟩ <;> simp [e, bI, q]
theorem fl_iff {z : Int32} {P Q : Prop} (h : fl z P) (e : P ↔ Q) : fl z Q := by
  rcases h with ⟨a, q⟩ | ⟨a, q⟩
  · exact Or.inl ⟨a, e.mp q⟩
  · exact Or.inr ⟨a, fun w => q (e.mpr w)⟩
theorem fl_01 {z : Int32} {P : Prop} (h : fl z P) : z = 0 ∨ z = 1 := h.elim (fun h => Or.inr h.1) (fun h => Or.inl h.1)
theorem fl_or {z : Int32} {X Y : Prop} (h : fl z X) (hf : ¬ Y) : fl z (X ∨ Y) := fl_iff h ⟨Or.inl, fun w => w.elim id (fun q => absurd q hf)⟩
theorem fl_ex {z : Int32} {X A B B' C : Prop} (h : fl z ((X ∨ A) ∨ B)) (mono : B → B') (hc : (B' → B) ∨ ¬ z = 0) (e : C ↔ A ∨ B') : fl z (X ∨ C) := by
  rcases h with ⟨a, q⟩ | ⟨a, q⟩
  · exact Or.inl ⟨a, q.elim (fun q => q.elim Or.inl (fun q => Or.inr (e.mpr (Or.inl q)))) (fun q => Or.inr (e.mpr (Or.inr (mono q))))⟩
  · rcases hc with hc | hc
    · exact Or.inr ⟨a, fun w => q (w.elim (fun w => Or.inl (Or.inl w)) (fun w => (e.mp w).elim (fun r => Or.inl (Or.inr r)) (fun r => Or.inr (hc r))))⟩
    · exact absurd a hc
theorem fl_st {z r : Int32} {X B B' C : Prop} [Decidable C] (h : fl z (X ∨ B)) (c : z = 0) (hr : r = bI C) (e : B' ↔ B ∨ C) : fl r (X ∨ B') := by
  have hn : ¬ (X ∨ B) := by
    rcases h with ⟨a, q⟩ | ⟨a, q⟩
    · rw [a] at c; exact absurd c (by decide)
    · exact q
  exact fl_iff (fl_of hr) ⟨fun w => Or.inr (e.mpr (Or.inr w)), fun w => w.elim (fun w => absurd (Or.inl w) hn) (fun w => (e.mp w).elim (fun w => absurd (Or.inr w) hn) id)⟩
def oL (G : Nat → Nat → Int64) (i j k n : Nat) : Prop := ∃ q, k < q ∧ q < n ∧ rCr G i j k q = true
def oK (G : Nat → Nat → Int64) (i j k : Nat) : Prop := ∃ q, q < k ∧ oL G i j q 4
def oJ (G : Nat → Nat → Int64) (i j : Nat) : Prop := ∃ q, i < q ∧ q < j ∧ oK G i q 4
def oI (G : Nat → Nat → Int64) (i : Nat) : Prop := ∃ q, q < i ∧ oJ G q 4
abbrev oW (G : Nat → Nat → Int64) : Prop := rWt (G 32) (G 33) (G 34 0) (G 35 0) 4 = true ∨ rWt (G 34) (G 35) (G 32 0) (G 33 0) 4 = true
theorem oL_s {G : Nat → Nat → Int64} {i j k n : Nat} (h : k < n) : oL G i j k (n + 1) ↔ oL G i j k n ∨ rCr G i j k n = true := by
  constructor
  · rintro ⟨q, a, b, d⟩
    by_cases e : q = n
    · subst e; exact Or.inr d
    · exact Or.inl ⟨q, a, by omega, d⟩
  · rintro (⟨q, a, b, d⟩ | d)
    · exact ⟨q, a, by omega, d⟩
    · exact ⟨n, h, by omega, d⟩
theorem oK_s {G : Nat → Nat → Int64} {i j k : Nat} : oK G i j (k + 1) ↔ oK G i j k ∨ oL G i j k 4 := by
  constructor
  · rintro ⟨q, a, d⟩
    by_cases e : q = k
    · subst e; exact Or.inr d
    · exact Or.inl ⟨q, by omega, d⟩
  · rintro (⟨q, a, d⟩ | d)
    · exact ⟨q, by omega, d⟩
    · exact ⟨k, by omega, d⟩
theorem oJ_s {G : Nat → Nat → Int64} {i j : Nat} (h : i < j) : oJ G i (j + 1) ↔ oJ G i j ∨ oK G i j 4 := by
  constructor
  · rintro ⟨q, a, b, d⟩
    by_cases e : q = j
    · subst e; exact Or.inr d
    · exact Or.inl ⟨q, a, by omega, d⟩
  · rintro (⟨q, a, b, d⟩ | d)
    · exact ⟨q, a, by omega, d⟩
    · exact ⟨j, h, by omega, d⟩
theorem oI_s {G : Nat → Nat → Int64} {i : Nat} : oI G (i + 1) ↔ oI G i ∨ oJ G i 4 := by
  constructor
  · rintro ⟨q, a, d⟩
    by_cases e : q = i
    · subst e; exact Or.inr d
    · exact Or.inl ⟨q, by omega, d⟩
  · rintro (⟨q, a, d⟩ | d)
    · exact ⟨q, by omega, d⟩
    · exact ⟨i, by omega, d⟩
def rMeet (G : Nat → Nat → Int64) : Bool := rWt (G 32) (G 33) (G 34 0) (G 35 0) 4 || rWt (G 34) (G 35) (G 32 0) (G 33 0) 4 || (List.range 4).any fun i => (List.range 4).any fun j => decide (i < j) && (List.range 4).any fun k => (List.range 4).any fun n => decide (k < n) && rCr G i j k n
theorem rMeet_iff (G : Nat → Nat → Int64) : rMeet G = true ↔ oW G ∨ oI G 4 := by
  unfold rMeet oI oJ oK oL oW
  simp only [Bool.or_eq_true, List.any_eq_true, List.mem_range, Bool.and_eq_true, decide_eq_true_eq]
  constructor
  · rintro (h | ⟨i, hi, j, hj, hij, k, hk, n, hn, hkn, hc⟩)
    · exact Or.inl h
    · exact Or.inr ⟨i, hi, j, hij, hj, k, hk, n, hkn, hn, hc⟩
  · rintro (h | ⟨i, hi, j, hij, hj, k, hk, n, hkn, hn, hc⟩)
    · exact Or.inl h
    · exact Or.inr ⟨i, hi, j, hj, hij, k, hk, n, hn, hkn, hc⟩
set_option maxHeartbeats 4000000 in
set_option maxRecDepth 100000 in
theorem c_X5_meets (l : Launch) (D : va_G) (cs : Nat → ClassId) (M : wM) (X : Nat) (ad : Nat → Nat) (v : Nat → Int32) (F : Nat → Nat → Int32) (G : Nat → Nat → Int64) (hS : RS cs M X ad v F G)  : Met l yX5_meets (mw yX5_meets cX5_meets 6 (some .boolean)) { frames := 3, cells := 0, slots := 0, locals := 88 } (roP D cs M [.ref X]) (vp_Si (fun r => r = bI (rMeet G = true))) 0 0 noA := by
  refine ro_met rfl (Nat.le_of_ble_eq_true rfl) ?_
  intro p e s m below meth c ls C hR hr hlk hl
  have C : kx D cs p m c cX5_meets 6 s _ RX5 := C
  have hx := C.1.1
  have hb := C.1.2.1
  have hl : lv_has ls 6 [(0, .ref X)] := hl
  refine W.cut (fun z => z = bI (oW G)) (fun z => F0 m 57 ls (.int z :: [])) (fun z_57 hz_57 => ?_) (fun J_57 => ?_)
  · refine lv_istore_n (lv' := [(1, .int z_57), (0, .ref X)]) hx hb dX5_meets_57 rfl hl (by decide) rfl (fun ls hl => ?_)
    refine lv_iconst (v := 0) hx hb dX5_meets_58 (by decide) ?_
    refine lv_istore_n (lv' := [(2, .int 0), (1, .int z_57), (0, .ref X)]) hx hb dX5_meets_59 rfl hl (by decide) rfl (fun ls hl => ?_)
    refine W.loop (σ := Nat × Int32 × Array Slot) (fun ⟨i, z, ls⟩ => F0 m 60 ls []) (fun ⟨i, z, ls⟩ => (i ≤ 4) ∧ (fl z (oW G ∨ oI G i)) ∧ lv_has ls 6 [(1, .int z), (2, .int (nI i)), (0, .ref X)]) (fun ⟨i, z, ls⟩ => 4 - i) ?_ (0, z_57, _) ⟨by omega, fl_or (fl_of hz_57) (fun ⟨q, h, _⟩ => absurd h (by omega)), lv_sub hl [1, 0, 2] rfl⟩ rfl
    intro ⟨i, z, ls⟩ ⟨hi, hz, hl⟩ ih_60
    show W _ _ _ _ _ _ _ _ _ _ _ _ _ _ _ (F0 m 60 ls [])
    have hl : lv_has ls 6 [(1, .int z), (2, .int (nI i)), (0, .ref X)] := hl
    refine lv_iload_n hx hb dX5_meets_60 rfl (lv_at hl 1 rfl) ?_
    refine lv_iconst (v := 4) hx hb dX5_meets_61 (by decide) ?_
    refine lv_icmp_ge (tgt := 146) hx hb dX5_meets_62 (by decide) (fun c_62 => ?_) (fun c_62 => ?_)
    · have c_62 := cle_t (a := 4) (b := i) c_62 (by omega) (by omega)
      refine lv_iload_n hx hb dX5_meets_146 rfl (lv_at hl 0 rfl) ?_
      exact ro_zret C hr hlk (z_nar (fl_01 hz)) (fl_bI (fl_iff (fl_ex (X := oW G) (A := False) (B := oI G i) (B' := oI G 4) (C := oI G 4) (fl_iff hz ⟨fun h => h.elim (fun h => Or.inl (Or.inl h)) Or.inr, fun h => h.elim (fun h => h.elim Or.inl False.elim) Or.inr⟩) (fun ⟨q, a, d⟩ => ⟨q, by omega, d⟩) (Or.inl (fun ⟨q, a, d⟩ => ⟨q, by omega, d⟩)) ⟨Or.inr, fun h => h.elim False.elim id⟩) (rMeet_iff G).symm)) dX5_meets_147
    · have c_62 := cle_f (a := 4) (b := i) c_62 (by omega) (by omega)
      refine lv_iload_n hx hb dX5_meets_65 rfl (lv_at hl 0 rfl) ?_
      refine lv_if_ne (tgt := 146) hx hb dX5_meets_66 (by decide) (fun c_66 => ?_) (fun c_66 => ?_)
      · refine lv_iload_n hx hb dX5_meets_146 rfl (lv_at hl 0 rfl) ?_
        exact ro_zret C hr hlk (z_nar (fl_01 hz)) (fl_bI (fl_iff (fl_ex (X := oW G) (A := False) (B := oI G i) (B' := oI G 4) (C := oI G 4) (fl_iff hz ⟨fun h => h.elim (fun h => Or.inl (Or.inl h)) Or.inr, fun h => h.elim (fun h => h.elim Or.inl False.elim) Or.inr⟩) (fun ⟨q, a, d⟩ => ⟨q, by omega, d⟩) (Or.inr c_66) ⟨Or.inr, fun h => h.elim False.elim id⟩) (rMeet_iff G).symm)) dX5_meets_147
      · refine lv_iload_n hx hb dX5_meets_69 rfl (lv_at hl 1 rfl) ?_
        refine lv_iconst (v := 1) hx hb dX5_meets_70 (by decide) ?_
        refine lv_iadd hx hb dX5_meets_71 ?_
        refine top_eq (y := nI (i + 1)) (tn_add rfl rfl) ?_
        refine lv_istore_n (lv' := [(3, .int (nI (i + 1))), (1, .int z), (2, .int (nI i)), (0, .ref X)]) hx hb dX5_meets_72 rfl hl (by decide) rfl (fun ls hl => ?_)
        refine W.loop (σ := Nat × Int32 × Array Slot) (fun ⟨j, z, ls⟩ => F0 m 73 ls []) (fun ⟨j, z, ls⟩ => (j ≤ 4) ∧ (i < j) ∧ (fl z ((oW G ∨ oI G i) ∨ oJ G i j)) ∧ lv_has ls 6 [(1, .int z), (3, .int (nI j)), (2, .int (nI i)), (0, .ref X)]) (fun ⟨j, z, ls⟩ => 4 - j) ?_ ((i + 1), z, _) ⟨by omega, by omega, fl_or hz (fun ⟨q, a, b, _⟩ => absurd b (by omega)), lv_sub hl [1, 0, 2, 3] rfl⟩ rfl
        intro ⟨j, z, ls⟩ ⟨hj, hij, hz, hl⟩ ih_73
        show W _ _ _ _ _ _ _ _ _ _ _ _ _ _ _ (F0 m 73 ls [])
        have hl : lv_has ls 6 [(1, .int z), (3, .int (nI j)), (2, .int (nI i)), (0, .ref X)] := hl
        refine lv_iload_n hx hb dX5_meets_73 rfl (lv_at hl 1 rfl) ?_
        refine lv_iconst (v := 4) hx hb dX5_meets_74 (by decide) ?_
        refine lv_icmp_ge (tgt := 140) hx hb dX5_meets_75 (by decide) (fun c_75 => ?_) (fun c_75 => ?_)
        · have c_75 := cle_t (a := 4) (b := j) c_75 (by omega) (by omega)
          refine lv_iinc (v := nI (i + 1)) (lv' := [(2, .int (nI (i + 1))), (1, .int z), (3, .int (nI j)), (0, .ref X)]) hx hb dX5_meets_140 hl (k := 2) rfl (by exact tn_add rfl rfl) (by decide) rfl (fun ls hl => ?_)
          refine lv_goto (tgt := 60) hx hb dX5_meets_143 (by decide) ?_
          exact ih_60 ((i + 1), z, _) ⟨by omega, fl_ex hz (fun ⟨q, a, b, d⟩ => ⟨q, a, by omega, d⟩) (Or.inl (fun ⟨q, a, b, d⟩ => ⟨q, a, by omega, d⟩)) oI_s, lv_sub hl [1, 0, 3] rfl⟩ (by show 4 - (i + 1) < 4 - i; omega)
        · have c_75 := cle_f (a := 4) (b := j) c_75 (by omega) (by omega)
          refine lv_iload_n hx hb dX5_meets_78 rfl (lv_at hl 0 rfl) ?_
          refine lv_if_ne (tgt := 140) hx hb dX5_meets_79 (by decide) (fun c_79 => ?_) (fun c_79 => ?_)
          · refine lv_iinc (v := nI (i + 1)) (lv' := [(2, .int (nI (i + 1))), (1, .int z), (3, .int (nI j)), (0, .ref X)]) hx hb dX5_meets_140 hl (k := 2) rfl (by exact tn_add rfl rfl) (by decide) rfl (fun ls hl => ?_)
            refine lv_goto (tgt := 60) hx hb dX5_meets_143 (by decide) ?_
            exact ih_60 ((i + 1), z, _) ⟨by omega, fl_ex hz (fun ⟨q, a, b, d⟩ => ⟨q, a, by omega, d⟩) (Or.inr c_79) oI_s, lv_sub hl [1, 0, 3] rfl⟩ (by show 4 - (i + 1) < 4 - i; omega)
          · refine lv_iconst (v := 0) hx hb dX5_meets_82 (by decide) ?_
            refine lv_istore (lv' := [(4, .int 0), (1, .int z), (3, .int (nI j)), (2, .int (nI i)), (0, .ref X)]) hx hb dX5_meets_83 hl (by decide) rfl (fun ls hl => ?_)
            refine W.loop (σ := Nat × Int32 × Array Slot) (fun ⟨k, z, ls⟩ => F0 m 85 ls []) (fun ⟨k, z, ls⟩ => (k ≤ 4) ∧ (fl z (((oW G ∨ oI G i) ∨ oJ G i j) ∨ oK G i j k)) ∧ lv_has ls 6 [(1, .int z), (4, .int (nI k)), (3, .int (nI j)), (2, .int (nI i)), (0, .ref X)]) (fun ⟨k, z, ls⟩ => 4 - k) ?_ (0, z, _) ⟨by omega, fl_or hz (fun ⟨q, a, _⟩ => absurd a (by omega)), lv_sub hl [1, 0, 2, 3, 4] rfl⟩ rfl
            intro ⟨k, z, ls⟩ ⟨hk, hz, hl⟩ ih_85
            show W _ _ _ _ _ _ _ _ _ _ _ _ _ _ _ (F0 m 85 ls [])
            have hl : lv_has ls 6 [(1, .int z), (4, .int (nI k)), (3, .int (nI j)), (2, .int (nI i)), (0, .ref X)] := hl
            refine lv_iload hx hb dX5_meets_85 (lv_at hl 1 rfl) ?_
            refine lv_iconst (v := 4) hx hb dX5_meets_87 (by decide) ?_
            refine lv_icmp_ge (tgt := 134) hx hb dX5_meets_88 (by decide) (fun c_88 => ?_) (fun c_88 => ?_)
            · have c_88 := cle_t (a := 4) (b := k) c_88 (by omega) (by omega)
              refine lv_iinc (v := nI (j + 1)) (lv' := [(3, .int (nI (j + 1))), (1, .int z), (4, .int (nI k)), (2, .int (nI i)), (0, .ref X)]) hx hb dX5_meets_134 hl (k := 2) rfl (by exact tn_add rfl rfl) (by decide) rfl (fun ls hl => ?_)
              refine lv_goto (tgt := 73) hx hb dX5_meets_137 (by decide) ?_
              exact ih_73 ((j + 1), z, _) ⟨by omega, by omega, fl_ex hz (fun ⟨q, a, d⟩ => ⟨q, by omega, d⟩) (Or.inl (fun ⟨q, a, d⟩ => ⟨q, by omega, d⟩)) (oJ_s (by omega)), lv_sub hl [1, 0, 3, 4] rfl⟩ (by show 4 - (j + 1) < 4 - j; omega)
            · have c_88 := cle_f (a := 4) (b := k) c_88 (by omega) (by omega)
              refine lv_iload_n hx hb dX5_meets_91 rfl (lv_at hl 0 rfl) ?_
              refine lv_if_ne (tgt := 134) hx hb dX5_meets_92 (by decide) (fun c_92 => ?_) (fun c_92 => ?_)
              · refine lv_iinc (v := nI (j + 1)) (lv' := [(3, .int (nI (j + 1))), (1, .int z), (4, .int (nI k)), (2, .int (nI i)), (0, .ref X)]) hx hb dX5_meets_134 hl (k := 2) rfl (by exact tn_add rfl rfl) (by decide) rfl (fun ls hl => ?_)
                refine lv_goto (tgt := 73) hx hb dX5_meets_137 (by decide) ?_
                exact ih_73 ((j + 1), z, _) ⟨by omega, by omega, fl_ex hz (fun ⟨q, a, d⟩ => ⟨q, by omega, d⟩) (Or.inr c_92) (oJ_s (by omega)), lv_sub hl [1, 0, 3, 4] rfl⟩ (by show 4 - (j + 1) < 4 - j; omega)
              · refine lv_iload hx hb dX5_meets_95 (lv_at hl 1 rfl) ?_
                refine lv_iconst (v := 1) hx hb dX5_meets_97 (by decide) ?_
                refine lv_iadd hx hb dX5_meets_98 ?_
                refine top_eq (y := nI (k + 1)) (tn_add rfl rfl) ?_
                refine lv_istore (lv' := [(5, .int (nI (k + 1))), (1, .int z), (4, .int (nI k)), (3, .int (nI j)), (2, .int (nI i)), (0, .ref X)]) hx hb dX5_meets_99 hl (by decide) rfl (fun ls hl => ?_)
                refine W.loop (σ := Nat × Int32 × Array Slot) (fun ⟨n, z, ls⟩ => F0 m 101 ls []) (fun ⟨n, z, ls⟩ => (n ≤ 4) ∧ (k < n) ∧ (fl z ((((oW G ∨ oI G i) ∨ oJ G i j) ∨ oK G i j k) ∨ oL G i j k n)) ∧ lv_has ls 6 [(1, .int z), (5, .int (nI n)), (4, .int (nI k)), (3, .int (nI j)), (2, .int (nI i)), (0, .ref X)]) (fun ⟨n, z, ls⟩ => 4 - n) ?_ ((k + 1), z, _) ⟨by omega, by omega, fl_or hz (fun ⟨q, a, b, _⟩ => absurd b (by omega)), lv_sub hl [1, 0, 2, 3, 4, 5] rfl⟩ rfl
                intro ⟨n, z, ls⟩ ⟨hn, hkn, hz, hl⟩ ih_101
                show W _ _ _ _ _ _ _ _ _ _ _ _ _ _ _ (F0 m 101 ls [])
                have hl : lv_has ls 6 [(1, .int z), (5, .int (nI n)), (4, .int (nI k)), (3, .int (nI j)), (2, .int (nI i)), (0, .ref X)] := hl
                refine lv_iload hx hb dX5_meets_101 (lv_at hl 1 rfl) ?_
                refine lv_iconst (v := 4) hx hb dX5_meets_103 (by decide) ?_
                refine lv_icmp_ge (tgt := 128) hx hb dX5_meets_104 (by decide) (fun c_104 => ?_) (fun c_104 => ?_)
                · have c_104 := cle_t (a := 4) (b := n) c_104 (by omega) (by omega)
                  refine lv_iinc (v := nI (k + 1)) (lv' := [(4, .int (nI (k + 1))), (1, .int z), (5, .int (nI n)), (3, .int (nI j)), (2, .int (nI i)), (0, .ref X)]) hx hb dX5_meets_128 hl (k := 2) rfl (by exact tn_add rfl rfl) (by decide) rfl (fun ls hl => ?_)
                  refine lv_goto (tgt := 85) hx hb dX5_meets_131 (by decide) ?_
                  exact ih_85 ((k + 1), z, _) ⟨by omega, fl_ex hz (fun ⟨q, a, b, d⟩ => ⟨q, a, by omega, d⟩) (Or.inl (fun ⟨q, a, b, d⟩ => ⟨q, a, by omega, d⟩)) oK_s, lv_sub hl [1, 0, 3, 4, 5] rfl⟩ (by show 4 - (k + 1) < 4 - k; omega)
                · have c_104 := cle_f (a := 4) (b := n) c_104 (by omega) (by omega)
                  refine lv_iload_n hx hb dX5_meets_107 rfl (lv_at hl 0 rfl) ?_
                  refine lv_if_ne (tgt := 128) hx hb dX5_meets_108 (by decide) (fun c_108 => ?_) (fun c_108 => ?_)
                  · refine lv_iinc (v := nI (k + 1)) (lv' := [(4, .int (nI (k + 1))), (1, .int z), (5, .int (nI n)), (3, .int (nI j)), (2, .int (nI i)), (0, .ref X)]) hx hb dX5_meets_128 hl (k := 2) rfl (by exact tn_add rfl rfl) (by decide) rfl (fun ls hl => ?_)
                    refine lv_goto (tgt := 85) hx hb dX5_meets_131 (by decide) ?_
                    exact ih_85 ((k + 1), z, _) ⟨by omega, fl_ex hz (fun ⟨q, a, b, d⟩ => ⟨q, a, by omega, d⟩) (Or.inr c_108) oK_s, lv_sub hl [1, 0, 3, 4, 5] rfl⟩ (by show 4 - (k + 1) < 4 - k; omega)
                  · refine lv_aload_n hx hb dX5_meets_111 rfl (lv_at hl 5 rfl) ?_
                    refine lv_iload_n hx hb dX5_meets_112 rfl (lv_at hl 4 rfl) ?_
                    refine lv_iload_n hx hb dX5_meets_113 rfl (lv_at hl 3 rfl) ?_
                    refine lv_iload hx hb dX5_meets_114 (lv_at hl 2 rfl) ?_
                    refine lv_iload hx hb dX5_meets_116 (lv_at hl 1 rfl) ?_
                    refine ro_goI (ro_V (As := [.int (nI i), .int (nI j), .int (nI k), .int (nI n)]) (rest := []) C hR st_X5_187 (c_X5_cross l D cs _ X ad v F G hS i j k n (by omega) (by omega) (by omega) (by omega)) hS.1 rfl rfl ⟨rfl, rfl, Nat.le_of_ble_eq_true rfl, Nat.le_of_ble_eq_true rfl⟩ rfl hl.1 rfl (Nat.le_of_ble_eq_true rfl) dX5_meets_118 ⟨Nat.le_of_ble_eq_true rfl, Nat.le_of_ble_eq_true rfl⟩) (fun r_118 h_118 => ?_)
                    refine lv_istore_n (lv' := [(1, .int r_118), (5, .int (nI n)), (4, .int (nI k)), (3, .int (nI j)), (2, .int (nI i)), (0, .ref X)]) hx hb dX5_meets_121 rfl hl (by decide) rfl (fun ls hl => ?_)
                    refine lv_iinc (v := nI (n + 1)) (lv' := [(5, .int (nI (n + 1))), (1, .int r_118), (4, .int (nI k)), (3, .int (nI j)), (2, .int (nI i)), (0, .ref X)]) hx hb dX5_meets_122 hl (k := 1) rfl (by exact tn_add rfl rfl) (by decide) rfl (fun ls hl => ?_)
                    refine lv_goto (tgt := 101) hx hb dX5_meets_125 (by decide) ?_
                    exact ih_101 ((n + 1), r_118, _) ⟨by omega, by omega, fl_st hz c_108 h_118 (oL_s (by omega)), lv_sub hl [1, 0, 2, 3, 4, 5] rfl⟩ (by show 4 - (n + 1) < 4 - n; omega)
  · refine lv_aload_n hx hb dX5_meets_0 rfl (lv_at hl 0 rfl) ?_
    refine gf_X5_92 C hR hS.1 rfl dX5_meets_1 ?_
    refine lv_aload_n hx hb dX5_meets_4 rfl (lv_at hl 0 rfl) ?_
    refine gf_X5_96 C hR hS.1 rfl dX5_meets_5 ?_
    refine lv_aload_n hx hb dX5_meets_8 rfl (lv_at hl 0 rfl) ?_
    refine gf_X5_99 C hR hS.1 rfl dX5_meets_9 ?_
    refine lv_iconst (v := 0) hx hb dX5_meets_12 (by decide) ?_
    refine r_laldN (k := 0) C hR (RS.j hS 34 4 rfl rfl) (by omega) (by decide) rfl dX5_meets_13 ?_
    refine lv_aload_n hx hb dX5_meets_14 rfl (lv_at hl 0 rfl) ?_
    refine gf_X5_102 C hR hS.1 rfl dX5_meets_15 ?_
    refine lv_iconst (v := 0) hx hb dX5_meets_18 (by decide) ?_
    refine r_laldN (k := 0) C hR (RS.j hS 35 4 rfl rfl) (by omega) (by decide) rfl dX5_meets_19 ?_
    refine ro_goI (ro_S (As := [.ref (ad 32), .ref (ad 33), .long (G 34 0), .long (G 35 0)]) (rest := []) C hR st_X5_183 (c_X5_isWithin l D cs _ (ad 32) (ad 33) (G 32) (G 33) (RS.j hS 32 4 rfl rfl) (RS.j hS 33 4 rfl rfl) (G 34 0) (G 35 0)) ⟨rfl, rfl, Nat.le_of_ble_eq_true rfl, Nat.le_of_ble_eq_true rfl⟩ rfl hl.1 rfl (Nat.le_of_ble_eq_true rfl) dX5_meets_20 ⟨Nat.le_of_ble_eq_true rfl, Nat.le_of_ble_eq_true rfl⟩) (fun r_20 h_20 => ?_)
    refine lv_if_ne (tgt := 52) hx hb dX5_meets_23 (by decide) (fun c_23 => ?_) (fun c_23 => ?_)
    · have c_23 : rWt (G 32) (G 33) (G 34 0) (G 35 0) 4 = true := bz1 h_20 c_23
      refine lv_iconst (v := 1) hx hb dX5_meets_52 (by decide) ?_
      refine lv_goto (tgt := 57) hx hb dX5_meets_53 (by decide) ?_
      exact J_57 _ (bI_t (by simp [oW, c_23]))
    · have c_23 : ¬ (rWt (G 32) (G 33) (G 34 0) (G 35 0) 4 = true) := bz0 h_20 c_23
      refine lv_aload_n hx hb dX5_meets_26 rfl (lv_at hl 0 rfl) ?_
      refine gf_X5_99 C hR hS.1 rfl dX5_meets_27 ?_
      refine lv_aload_n hx hb dX5_meets_30 rfl (lv_at hl 0 rfl) ?_
      refine gf_X5_102 C hR hS.1 rfl dX5_meets_31 ?_
      refine lv_aload_n hx hb dX5_meets_34 rfl (lv_at hl 0 rfl) ?_
      refine gf_X5_92 C hR hS.1 rfl dX5_meets_35 ?_
      refine lv_iconst (v := 0) hx hb dX5_meets_38 (by decide) ?_
      refine r_laldN (k := 0) C hR (RS.j hS 32 4 rfl rfl) (by omega) (by decide) rfl dX5_meets_39 ?_
      refine lv_aload_n hx hb dX5_meets_40 rfl (lv_at hl 0 rfl) ?_
      refine gf_X5_96 C hR hS.1 rfl dX5_meets_41 ?_
      refine lv_iconst (v := 0) hx hb dX5_meets_44 (by decide) ?_
      refine r_laldN (k := 0) C hR (RS.j hS 33 4 rfl rfl) (by omega) (by decide) rfl dX5_meets_45 ?_
      refine ro_goI (ro_S (As := [.ref (ad 34), .ref (ad 35), .long (G 32 0), .long (G 33 0)]) (rest := []) C hR st_X5_183 (c_X5_isWithin l D cs _ (ad 34) (ad 35) (G 34) (G 35) (RS.j hS 34 4 rfl rfl) (RS.j hS 35 4 rfl rfl) (G 32 0) (G 33 0)) ⟨rfl, rfl, Nat.le_of_ble_eq_true rfl, Nat.le_of_ble_eq_true rfl⟩ rfl hl.1 rfl (Nat.le_of_ble_eq_true rfl) dX5_meets_46 ⟨Nat.le_of_ble_eq_true rfl, Nat.le_of_ble_eq_true rfl⟩) (fun r_46 h_46 => ?_)
      refine lv_if_eq (tgt := 56) hx hb dX5_meets_49 (by decide) (fun c_49 => ?_) (fun c_49 => ?_)
      · have c_49 : ¬ (rWt (G 34) (G 35) (G 32 0) (G 33 0) 4 = true) := bz0 h_46 c_49
        refine lv_iconst (v := 0) hx hb dX5_meets_56 (by decide) ?_
        exact J_57 _ (bI_f (by simp [oW, c_23, c_49]))
      · have c_49 : rWt (G 34) (G 35) (G 32 0) (G 33 0) 4 = true := bz1 h_46 c_49
        refine lv_iconst (v := 1) hx hb dX5_meets_52 (by decide) ?_
        refine lv_goto (tgt := 57) hx hb dX5_meets_53 (by decide) ?_
        exact J_57 _ (bI_t (by simp [oW, c_23, c_49]))
end
section
def pxs (F : Nat → Nat → Int32) (k i : Nat) : Int64 := (rPx F k (nI i)).toInt64
def pys (F : Nat → Nat → Int32) (k : Nat) (q : Int32) (i : Nat) : Int64 := (rPy F k q (nI i)).toInt64
def q4 (a b c d : Int64) : Nat → Int64 := fun i => if i = 0 then a else if i = 1 then b else if i = 2 then c else d
/-- the four rows of points -/
def gOf (ax ay bx by_ : Nat → Int64) : Nat → Nat → Int64 := fun k => if k = 32 then ax else if k = 33 then ay else if k = 34 then bx else by_
def askI (F : Nat → Nat → Int32) (k : Nat) (q : Int32) (n : Nat) (G : Nat → Nat → Int64) : Prop := ∀ i, i < n → G 32 i = pxs F k i ∧ G 33 i = pys F k q i
def othI (F : Nat → Nat → Int32) (j n : Nat) (G : Nat → Nat → Int64) : Prop := ∀ i, i < n → G 34 i = pxs F j i ∧ G 35 i = pys F j (F 30 j) i
def cnt (f : Nat → Bool) : Nat → Nat
  | 0 => 0
  | n + 1 => cnt f n + (if f n = true then 1 else 0)
theorem cnt_le (f : Nat → Bool) (n : Nat) : cnt f n ≤ n := by
  induction n with
  | zero => exact Nat.le_refl _
  | succ n ih => unfold cnt; split <;> omega
theorem sG_34 (G : Nat → Nat → Int64) (i : Nat) (x : Int64) (j k : Nat) : sG G 34 i x j k = if j = 34 ∧ k = i then x else G j k := by
  unfold sG va_up vp_updL
  by_cases h : j = 34
  · subst h; by_cases q : k = i <;> simp [q]
  · simp [h]
theorem sG_35 (G : Nat → Nat → Int64) (i : Nat) (x : Int64) (j k : Nat) : sG G 35 i x j k = if j = 35 ∧ k = i then x else G j k := by
  unfold sG va_up vp_updL
  by_cases h : j = 35
  · subst h; by_cases q : k = i <;> simp [q]
  · simp [h]
theorem sG_32 (G : Nat → Nat → Int64) (i : Nat) (x : Int64) (j k : Nat) : sG G 32 i x j k = if j = 32 ∧ k = i then x else G j k := by
  unfold sG va_up vp_updL
  by_cases h : j = 32
  · subst h; by_cases q : k = i <;> simp [q]
  · simp [h]
theorem sG_33 (G : Nat → Nat → Int64) (i : Nat) (x : Int64) (j k : Nat) : sG G 33 i x j k = if j = 33 ∧ k = i then x else G j k := by
  unfold sG va_up vp_updL
  by_cases h : j = 33
  · subst h; by_cases q : k = i <;> simp [q]
  · simp [h]
theorem askI_s {F : Nat → Nat → Int32} {k : Nat} {q : Int32} {n : Nat} {G : Nat → Nat → Int64} (h : askI F k q n G) {r s : Int32} (h1 : r = rPx F k (nI n)) (h2 : s = rPy F k q (nI n)) : askI F k q (n + 1) (sG (sG G 32 n r.toInt64) 33 n s.toInt64) := by
  intro i hi
  subst h1 h2
  rw [sG_33, sG_33, sG_32, sG_32]
  by_cases e : i = n
  · subst e; simp [pxs, pys]
  · have := h i (by omega)
    simp [e, this]
theorem askI_o {F : Nat → Nat → Int32} {k : Nat} {q : Int32} {n : Nat} {G : Nat → Nat → Int64} (h : askI F k q n G) (i : Nat) (x y : Int64) : askI F k q n (sG (sG G 34 i x) 35 i y) := by
  intro j hj
  rw [sG_35, sG_35, sG_34, sG_34]
  simpa using h j hj
theorem othI_s {F : Nat → Nat → Int32} {j n : Nat} {G : Nat → Nat → Int64} (h : othI F j n G) {r s : Int32} (h1 : r = rPx F j (nI n)) (h2 : s = rPy F j (F 30 j) (nI n)) : othI F j (n + 1) (sG (sG G 34 n r.toInt64) 35 n s.toInt64) := by
  intro i hi
  subst h1 h2
  rw [sG_35, sG_35, sG_34, sG_34]
  by_cases e : i = n
  · subst e; simp [pxs, pys]
  · have := h i (by omega)
    simp [e, this]
theorem rWt_congr {x y x' y' : Nat → Int64} (h : ∀ i, i < 4 → x i = x' i ∧ y i = y' i) (p q : Int64) (n : Nat) : rWt x y p q n = rWt x' y' p q n := by
  induction n with
  | zero => rfl
  | succ n ih =>
    unfold rWt
    rw [ih]
    obtain ⟨a, b, c⟩ := w_lt n
    unfold rWs
    rw [(h _ a).1, (h _ a).2, (h _ b).1, (h _ b).2, (h _ c).1, (h _ c).2]
theorem rMeet_congr {G G' : Nat → Nat → Int64} (h : ∀ i, i < 4 → G 32 i = G' 32 i ∧ G 33 i = G' 33 i ∧ G 34 i = G' 34 i ∧ G 35 i = G' 35 i) : rMeet G = rMeet G' := by
  have hw1 : rWt (G 32) (G 33) (G 34 0) (G 35 0) 4 = rWt (G' 32) (G' 33) (G' 34 0) (G' 35 0) 4 := by
    rw [(h 0 (by omega)).2.2.1, (h 0 (by omega)).2.2.2]
    exact rWt_congr (fun i hi => ⟨(h i hi).1, (h i hi).2.1⟩) _ _ _
  have hw2 : rWt (G 34) (G 35) (G 32 0) (G 33 0) 4 = rWt (G' 34) (G' 35) (G' 32 0) (G' 33 0) 4 := by
    rw [(h 0 (by omega)).1, (h 0 (by omega)).2.1]
    exact rWt_congr (fun i hi => ⟨(h i hi).2.2.1, (h i hi).2.2.2⟩) _ _ _
  have hc : ∀ i j k n, i < 4 → j < 4 → k < 4 → n < 4 → rCr G i j k n = rCr G' i j k n := by
    intro i j k n hi hj hk hn
    unfold rCr
    rw [(h i hi).1, (h i hi).2.1, (h j hj).1, (h j hj).2.1, (h k hk).2.2.1, (h k hk).2.2.2, (h n hn).2.2.1, (h n hn).2.2.2]
  rw [Bool.eq_iff_iff, rMeet_iff, rMeet_iff]
  unfold oW oI oJ oK oL
  rw [hw1, hw2]
  constructor
  · rintro (h | ⟨i, hi, j, hij, hj, k, hk, n, hkn, hn, hcr⟩)
    · exact Or.inl h
    · exact Or.inr ⟨i, hi, j, hij, hj, k, hk, n, hkn, hn, by rw [← hc i j k n hi hj hk hn]; exact hcr⟩
  · rintro (h | ⟨i, hi, j, hij, hj, k, hk, n, hkn, hn, hcr⟩)
    · exact Or.inl h
    · exact Or.inr ⟨i, hi, j, hij, hj, k, hk, n, hkn, hn, by rw [hc i j k n hi hj hk hn]; exact hcr⟩
theorem lt4 {i : Nat} (h : i < 4) : i = 0 ∨ i = 1 ∨ i = 2 ∨ i = 3 := by omega
theorem oth4 {F : Nat → Nat → Int32} {k : Nat} {q : Int32} {G : Nat → Nat → Int64} (h : askI F k q 4 G) (x0 y0 x1 y1 x2 y2 x3 y3 : Int64) : rMeet (sG (sG (sG (sG (sG (sG (sG (sG G 34 0 x0) 35 0 y0) 34 1 x1) 35 1 y1) 34 2 x2) 35 2 y2) 34 3 x3) 35 3 y3) = rMeet (gOf (pxs F k) (pys F k q) (q4 x0 x1 x2 x3) (q4 y0 y1 y2 y3)) := by
  refine rMeet_congr (fun i hi => ?_)
  simp only [sG_34, sG_35]
  have := h i hi
  rcases lt4 hi with rfl | rfl | rfl | rfl <;> simp [gOf, q4, this]
theorem othM {F : Nat → Nat → Int32} {k j : Nat} {q : Int32} {G : Nat → Nat → Int64} (h : askI F k q 4 G) (h2 : othI F j 4 G) : rMeet G = rMeet (gOf (pxs F k) (pys F k q) (pxs F j) (pys F j (F 30 j))) := by
  refine rMeet_congr (fun i hi => ?_)
  have a := h i hi
  have b := h2 i hi
  simp [gOf, a, b]
def cM (F : Nat → Nat → Int32) (k : Nat) (q : Int32) (m : Nat) : Bool := decide (F 8 m = F 25 k) && rMeet (gOf (pxs F k) (pys F k q) (q4 (F 9 m).toInt64 (F 9 m + F 11 m).toInt64 (F 9 m + F 11 m).toInt64 (F 9 m).toInt64) (q4 (F 10 m).toInt64 (F 10 m).toInt64 (F 10 m + F 12 m).toInt64 (F 10 m + F 12 m).toInt64))
def cW (F : Nat → Nat → Int32) (k : Nat) (q : Int32) (m : Nat) : Bool := decide (F 14 m = F 25 k) && rMeet (gOf (pxs F k) (pys F k q) (q4 (F 15 m).toInt64 (F 16 m).toInt64 (F 16 m).toInt64 (F 15 m).toInt64) (q4 (F 17 m).toInt64 (F 17 m - F 18 m).toInt64 (F 17 m + F 18 m).toInt64 (F 17 m).toInt64))
def cH (F : Nat → Nat → Int32) (k : Nat) (q : Int32) (j : Nat) : Bool := (!decide (F 24 (j / 2) ≤ nI (j % 2)) && rIn F j k) && rMeet (gOf (pxs F k) (pys F k q) (pxs F j) (pys F j (F 30 j)))
def rBars (F : Nat → Nat → Int32) (nm nw k : Nat) (q : Int32) : Nat := cnt (cM F k q) nm + cnt (cW F k q) nw
def rHulls (F : Nat → Nat → Int32) (nc k : Nat) (q : Int32) : Nat := cnt (cH F k q) (2 * nc)
set_option maxHeartbeats 4000000 in
set_option maxRecDepth 100000 in
theorem c_X5_ask (l : Launch) (D : va_G) (cs : Nat → ClassId) (A : Nat → Prop) (M : wM) (X : Nat) (ad : Nat → Nat) (v : Nat → Int32) (F : Nat → Nat → Int32) (G : Nat → Nat → Int64) (hS : RS cs M X ad v F G) (k : Nat) (hk : k < 80) (q : Int32) : Met l yX5_ask (mw yX5_ask cX5_ask 4 none) { frames := 2, cells := 0, slots := 0, locals := 50 } (wrP D cs A M [.ref X, .int (nI k), .int q]) (va_Qv (fun M' => ∃ G', RS cs M' X ad v F G' ∧ askI F k q 4 G') (wrB D A) A) 0 0 A := by
  refine wr_met rfl (Nat.le_of_ble_eq_true rfl) ?_
  intro p e s m below meth c ls C hW hr hlk hini hl
  have C : kx D cs p m c cX5_ask 4 s _ RX5 := C
  have hx := C.1.1
  have hb := C.1.2.1
  have hl : lv_has ls 4 [(0, .ref X), (1, .int (nI k)), (2, .int q)] := hl
  refine lv_iconst (v := 0) hx hb dX5_ask_0 (by decide) ?_
  refine lv_istore_n (lv' := [(3, .int 0), (0, .ref X), (1, .int (nI k)), (2, .int q)]) hx hb dX5_ask_1 rfl hl (by decide) rfl (fun ls hl => ?_)
  refine W.loopW (σ := Nat × (Nat → Nat → Int64) × Heap × List Loc × wM × Array Slot) (fun ⟨i, G1, H, locs, M, ls⟩ => F0 m 2 ls []) (fun ⟨i, G1, H, locs, M, ls⟩ => H) (fun ⟨i, G1, H, locs, M, ls⟩ => locs) (fun ⟨i, G1, H, locs, M, ls⟩ => (i ≤ 4) ∧ (RS cs M X ad v F G1) ∧ (askI F k q i G1) ∧ wd D A M s.heap H locs ∧ lv_has ls 4 [(3, .int (nI i)), (0, .ref X), (1, .int (nI k)), (2, .int q)]) (fun ⟨i, G1, H, locs, M, ls⟩ => 4 - i) ?_ (0, G, _, _, _, _) ⟨by omega, hS, fun i h => absurd h (by omega), hW, lv_sub hl [0, 1, 2, 3] rfl⟩ rfl rfl rfl
  intro ⟨i, G1, H, locs, M, ls⟩ ⟨hi, hS, hA, hW, hl⟩ ih_2
  show W _ _ _ _ _ _ _ _ _ _ H locs _ _ _ (F0 m 2 ls [])
  have hl : lv_has ls 4 [(3, .int (nI i)), (0, .ref X), (1, .int (nI k)), (2, .int q)] := hl
  refine lv_iload_n hx hb dX5_ask_2 rfl (lv_at hl 0 rfl) ?_
  refine lv_iconst (v := 4) hx hb dX5_ask_3 (by decide) ?_
  refine lv_icmp_ge (tgt := 40) hx hb dX5_ask_4 (by decide) (fun c_4 => ?_) (fun c_4 => ?_)
  · have c_4 := cle_t (a := 4) (b := i) c_4 (by omega) (by omega)
    exact wr_vret C hW hr hlk (⟨_, hS, by rw [show i = 4 by omega] at hA; exact hA⟩) dX5_ask_40
  · have c_4 := cle_f (a := 4) (b := i) c_4 (by omega) (by omega)
    refine lv_aload_n hx hb dX5_ask_7 rfl (lv_at hl 1 rfl) ?_
    refine gf_X5_92 C hW.rd hS.1 rfl dX5_ask_8 ?_
    refine lv_iload_n hx hb dX5_ask_11 rfl (lv_at hl 0 rfl) ?_
    refine lv_aload_n hx hb dX5_ask_12 rfl (lv_at hl 1 rfl) ?_
    refine lv_iload_n hx hb dX5_ask_13 rfl (lv_at hl 2 rfl) ?_
    refine lv_iload_n hx hb dX5_ask_14 rfl (lv_at hl 0 rfl) ?_
    refine ro_goI (ro_V (As := [.int (nI k), .int (nI i)]) (rest := [.int (nI i), .ref (ad 32)]) C hW.rd st_X5_191 (c_X5_px l D cs _ X ad v F G1 hS k (by omega) (nI i)) hS.1 rfl rfl ⟨rfl, rfl, Nat.le_of_ble_eq_true rfl, Nat.le_of_ble_eq_true rfl⟩ rfl hl.1 rfl (Nat.le_of_ble_eq_true rfl) dX5_ask_15 ⟨Nat.le_of_ble_eq_true rfl, Nat.le_of_ble_eq_true rfl⟩) (fun r_15 h_15 => ?_)
    refine lv_i2l hx hb dX5_ask_18 rfl ?_
    refine w_lastN (k := i) C hW (RS.j hS 32 4 rfl rfl) (by omega) (by decide) rfl dX5_ask_19 (fun H locs hW => ?_)
    obtain ⟨M, G_1, eG_1, hS, hW⟩ : ∃ (M : wM) (w0 : Nat → Nat → Int64), w0 = sG G1 32 i r_15.toInt64 ∧ RS cs M X ad v F w0 ∧ wd D A M s.heap H locs := ⟨_, _, rfl, RS.setJ hS 32 rfl i r_15.toInt64, hW⟩
    refine lv_aload_n hx hb dX5_ask_20 rfl (lv_at hl 1 rfl) ?_
    refine gf_X5_96 C hW.rd hS.1 rfl dX5_ask_21 ?_
    refine lv_iload_n hx hb dX5_ask_24 rfl (lv_at hl 0 rfl) ?_
    refine lv_aload_n hx hb dX5_ask_25 rfl (lv_at hl 1 rfl) ?_
    refine lv_iload_n hx hb dX5_ask_26 rfl (lv_at hl 2 rfl) ?_
    refine lv_iload_n hx hb dX5_ask_27 rfl (lv_at hl 3 rfl) ?_
    refine lv_iload_n hx hb dX5_ask_28 rfl (lv_at hl 0 rfl) ?_
    refine ro_goI (ro_V (As := [.int (nI k), .int q, .int (nI i)]) (rest := [.int (nI i), .ref (ad 33)]) C hW.rd st_X5_194 (c_X5_py l D cs _ X ad v F G_1 hS k (by omega) q (nI i)) hS.1 rfl rfl ⟨rfl, rfl, Nat.le_of_ble_eq_true rfl, Nat.le_of_ble_eq_true rfl⟩ rfl hl.1 rfl (Nat.le_of_ble_eq_true rfl) dX5_ask_29 ⟨Nat.le_of_ble_eq_true rfl, Nat.le_of_ble_eq_true rfl⟩) (fun r_29 h_29 => ?_)
    refine lv_i2l hx hb dX5_ask_32 rfl ?_
    refine w_lastN (k := i) C hW (RS.j hS 33 4 rfl rfl) (by omega) (by decide) rfl dX5_ask_33 (fun H locs hW => ?_)
    obtain ⟨M, G_2, eG_2, hS, hW⟩ : ∃ (M : wM) (w0 : Nat → Nat → Int64), w0 = sG G_1 33 i r_29.toInt64 ∧ RS cs M X ad v F w0 ∧ wd D A M s.heap H locs := ⟨_, _, rfl, RS.setJ hS 33 rfl i r_29.toInt64, hW⟩
    refine lv_iinc (v := nI (i + 1)) (lv' := [(3, .int (nI (i + 1))), (0, .ref X), (1, .int (nI k)), (2, .int q)]) hx hb dX5_ask_34 hl (k := 0) rfl (by exact tn_add rfl rfl) (by decide) rfl (fun ls hl => ?_)
    refine lv_goto (tgt := 2) hx hb dX5_ask_37 (by decide) ?_
    exact ih_2 ((i + 1), G_2, _, _, _, _) ⟨by omega, hS, by subst eG_2 eG_1; exact askI_s hA h_15 h_29, hW, lv_sub hl [0, 1, 2, 3] rfl⟩ (by show 4 - (i + 1) < 4 - i; omega)

set_option maxHeartbeats 4000000 in
set_option maxRecDepth 100000 in
theorem c_X5_bars (l : Launch) (D : va_G) (cs : Nat → ClassId) (A : Nat → Prop) (M : wM) (X : Nat) (ad : Nat → Nat) (v : Nat → Int32) (F : Nat → Nat → Int32) (G : Nat → Nat → Int64) (hS : RS cs M X ad v F G) (nm nw : Nat) (hnm : v 7 = nI nm) (hm40 : nm ≤ 40) (hnw : v 13 = nI nw) (hw12 : nw ≤ 12) (k : Nat) (hk : k < 80) (q : Int32) : Met l yX5_bars (mw yX5_bars cX5_bars 5 (some .int)) { frames := 4, cells := 0, slots := 0, locals := 113 } (wrP D cs A M [.ref X, .int (nI k), .int q]) (va_Qi (fun r M' => ∃ G', RS cs M' X ad v F G' ∧ r = nI (rBars F nm nw k q)) (wrB D A) A) 0 0 A := by
  refine wr_met rfl (Nat.le_of_ble_eq_true rfl) ?_
  intro p e s m below meth c ls C hW hr hlk hini hl
  have C : kx D cs p m c cX5_bars 5 s _ RX5 := C
  have hx := C.1.1
  have hb := C.1.2.1
  have hl : lv_has ls 5 [(0, .ref X), (1, .int (nI k)), (2, .int q)] := hl
  refine lv_aload_n hx hb dX5_bars_0 rfl (lv_at hl 0 rfl) ?_
  refine lv_iload_n hx hb dX5_bars_1 rfl (lv_at hl 1 rfl) ?_
  refine lv_iload_n hx hb dX5_bars_2 rfl (lv_at hl 2 rfl) ?_
  refine wr_goV hW (wr_V (As := [.int (nI k), .int q]) (rest := []) C hW st_X5_198 (c_X5_ask l D cs A _ X ad v F G hS k (by omega) q) hS.1 rfl rfl ⟨rfl, rfl, Nat.le_of_ble_eq_true rfl, Nat.le_of_ble_eq_true rfl⟩ rfl hl.1 rfl (Nat.le_of_ble_eq_true rfl) dX5_bars_3 ⟨Nat.le_of_ble_eq_true rfl, Nat.le_of_ble_eq_true rfl⟩) (fun M_3 H locs h_3 hW => ?_)
  obtain ⟨G_1, hS, hA⟩ := h_3
  refine lv_iconst (v := 0) hx hb dX5_bars_6 (by decide) ?_
  refine lv_istore_n (lv' := [(3, .int 0), (0, .ref X), (1, .int (nI k)), (2, .int q)]) hx hb dX5_bars_7 rfl hl (by decide) rfl (fun ls hl => ?_)
  refine lv_iconst (v := 0) hx hb dX5_bars_8 (by decide) ?_
  refine lv_istore (lv' := [(4, .int 0), (3, .int 0), (0, .ref X), (1, .int (nI k)), (2, .int q)]) hx hb dX5_bars_9 hl (by decide) rfl (fun ls hl => ?_)
  refine W.loopW (σ := Nat × Nat × (Nat → Nat → Int64) × Heap × List Loc × wM × Array Slot) (fun ⟨m0, n, G1, H, locs, M, ls⟩ => F0 m 11 ls []) (fun ⟨m0, n, G1, H, locs, M, ls⟩ => H) (fun ⟨m0, n, G1, H, locs, M, ls⟩ => locs) (fun ⟨m0, n, G1, H, locs, M, ls⟩ => (m0 ≤ nm) ∧ (n = cnt (cM F k q) m0) ∧ (RS cs M X ad v F G1) ∧ (askI F k q 4 G1) ∧ wd D A M s.heap H locs ∧ lv_has ls 5 [(4, .int (nI m0)), (3, .int (nI n)), (0, .ref X), (1, .int (nI k)), (2, .int q)]) (fun ⟨m0, n, G1, H, locs, M, ls⟩ => nm - m0) ?_ (0, 0, G_1, _, _, _, _) ⟨by omega, rfl, hS, hA, hW, lv_sub hl [0, 1, 2, 3, 4] rfl⟩ rfl rfl rfl
  intro ⟨m0, n, G1, H, locs, M, ls⟩ ⟨hm, hn, hS, hA, hW, hl⟩ ih_11
  show W _ _ _ _ _ _ _ _ _ _ H locs _ _ _ (F0 m 11 ls [])
  have hl : lv_has ls 5 [(4, .int (nI m0)), (3, .int (nI n)), (0, .ref X), (1, .int (nI k)), (2, .int q)] := hl
  refine lv_iload hx hb dX5_bars_11 (lv_at hl 0 rfl) ?_
  refine lv_aload_n hx hb dX5_bars_13 rfl (lv_at hl 2 rfl) ?_
  refine gf_X5_120 C hW.rd hS.1 rfl dX5_bars_14 ?_
  refine top_eq (y := nI nm) hnm ?_
  refine lv_icmp_ge (tgt := 173) hx hb dX5_bars_17 (by decide) (fun c_17 => ?_) (fun c_17 => ?_)
  · have c_17 := cle_t (a := nm) (b := m0) c_17 (by omega) (by omega)
    refine lv_iconst (v := 0) hx hb dX5_bars_173 (by decide) ?_
    refine lv_istore (lv' := [(4, .int 0), (3, .int (nI n)), (0, .ref X), (1, .int (nI k)), (2, .int q)]) hx hb dX5_bars_174 hl (by decide) rfl (fun ls hl => ?_)
    refine W.loopW (σ := Nat × Nat × (Nat → Nat → Int64) × Heap × List Loc × wM × Array Slot) (fun ⟨m1, n, G1, H, locs, M, ls⟩ => F0 m 176 ls []) (fun ⟨m1, n, G1, H, locs, M, ls⟩ => H) (fun ⟨m1, n, G1, H, locs, M, ls⟩ => locs) (fun ⟨m1, n, G1, H, locs, M, ls⟩ => (m1 ≤ nw) ∧ (n = cnt (cM F k q) nm + cnt (cW F k q) m1) ∧ (RS cs M X ad v F G1) ∧ (askI F k q 4 G1) ∧ wd D A M s.heap H locs ∧ lv_has ls 5 [(4, .int (nI m1)), (3, .int (nI n)), (0, .ref X), (1, .int (nI k)), (2, .int q)]) (fun ⟨m1, n, G1, H, locs, M, ls⟩ => nw - m1) ?_ (0, n, G1, _, _, _, _) ⟨by omega, by rw [hn, show m0 = nm by omega]; rfl, hS, hA, hW, lv_sub hl [0, 1, 2, 3, 4] rfl⟩ rfl rfl rfl
    intro ⟨m1, n, G1, H, locs, M, ls⟩ ⟨hm1, hn, hS, hA, hW, hl⟩ ih_176
    show W _ _ _ _ _ _ _ _ _ _ H locs _ _ _ (F0 m 176 ls [])
    have hl : lv_has ls 5 [(4, .int (nI m1)), (3, .int (nI n)), (0, .ref X), (1, .int (nI k)), (2, .int q)] := hl
    refine lv_iload hx hb dX5_bars_176 (lv_at hl 0 rfl) ?_
    refine lv_aload_n hx hb dX5_bars_178 rfl (lv_at hl 2 rfl) ?_
    refine gf_X5_123 C hW.rd hS.1 rfl dX5_bars_179 ?_
    refine top_eq (y := nI nw) hnw ?_
    refine lv_icmp_ge (tgt := 322) hx hb dX5_bars_182 (by decide) (fun c_182 => ?_) (fun c_182 => ?_)
    · have c_182 := cle_t (a := nw) (b := m1) c_182 (by omega) (by omega)
      refine lv_iload_n hx hb dX5_bars_322 rfl (lv_at hl 1 rfl) ?_
      exact wr_iret C hW hr hlk (⟨_, hS, by rw [hn, show m1 = nw by omega]; rfl⟩) dX5_bars_323
    · have c_182 := cle_f (a := nw) (b := m1) c_182 (by omega) (by omega)
      refine lv_aload_n hx hb dX5_bars_185 rfl (lv_at hl 2 rfl) ?_
      refine gf_X5_41 C hW.rd hS.1 rfl dX5_bars_186 ?_
      refine lv_iload hx hb dX5_bars_189 (lv_at hl 0 rfl) ?_
      refine r_ialdN (k := m1) C hW.rd (RS.i hS 14 12 rfl rfl) (by omega) (by decide) rfl dX5_bars_191 ?_
      refine lv_aload_n hx hb dX5_bars_192 rfl (lv_at hl 2 rfl) ?_
      refine gf_X5_71 C hW.rd hS.1 rfl dX5_bars_193 ?_
      refine lv_iload_n hx hb dX5_bars_196 rfl (lv_at hl 3 rfl) ?_
      refine r_ialdN (k := k) C hW.rd (RS.i hS 25 80 rfl rfl) (by omega) (by decide) rfl dX5_bars_197 ?_
      refine lv_icmp_ne (tgt := 316) hx hb dX5_bars_198 (by decide) (fun c_198 => ?_) (fun c_198 => ?_)
      · refine lv_iinc (v := nI (m1 + 1)) (lv' := [(4, .int (nI (m1 + 1))), (3, .int (nI n)), (0, .ref X), (1, .int (nI k)), (2, .int q)]) hx hb dX5_bars_316 hl (k := 0) rfl (by exact tn_add rfl rfl) (by decide) rfl (fun ls hl => ?_)
        refine lv_goto (tgt := 176) hx hb dX5_bars_319 (by decide) ?_
        exact ih_176 ((m1 + 1), n, G1, _, _, _, _) ⟨by omega, by rw [hn]; simp [cnt, Nat.add_assoc, cW, c_198], hS, hA, hW, lv_sub hl [0, 1, 2, 3, 4] rfl⟩ (by show nw - (m1 + 1) < nw - m1; omega)
      · refine lv_aload_n hx hb dX5_bars_201 rfl (lv_at hl 2 rfl) ?_
        refine lv_iconst (v := 0) hx hb dX5_bars_202 (by decide) ?_
        refine lv_aload_n hx hb dX5_bars_203 rfl (lv_at hl 2 rfl) ?_
        refine gf_X5_44 C hW.rd hS.1 rfl dX5_bars_204 ?_
        refine lv_iload hx hb dX5_bars_207 (lv_at hl 0 rfl) ?_
        refine r_ialdN (k := m1) C hW.rd (RS.i hS 15 12 rfl rfl) (by omega) (by decide) rfl dX5_bars_209 ?_
        refine lv_i2l hx hb dX5_bars_210 rfl ?_
        refine lv_aload_n hx hb dX5_bars_211 rfl (lv_at hl 2 rfl) ?_
        refine gf_X5_50 C hW.rd hS.1 rfl dX5_bars_212 ?_
        refine lv_iload hx hb dX5_bars_215 (lv_at hl 0 rfl) ?_
        refine r_ialdN (k := m1) C hW.rd (RS.i hS 17 12 rfl rfl) (by omega) (by decide) rfl dX5_bars_217 ?_
        refine lv_i2l hx hb dX5_bars_218 rfl ?_
        refine wr_goV hW (wr_V (As := [.int 0, .long ((F 15 m1).toInt64), .long ((F 17 m1).toInt64)]) (rest := []) C hW st_X5_201 (c_X5_other l D cs A _ X ad v F G1 hS 0 (by omega) ((F 15 m1).toInt64) ((F 17 m1).toInt64)) hS.1 rfl rfl ⟨rfl, rfl, Nat.le_of_ble_eq_true rfl, Nat.le_of_ble_eq_true rfl⟩ rfl hl.1 rfl (Nat.le_of_ble_eq_true rfl) dX5_bars_219 ⟨Nat.le_of_ble_eq_true rfl, Nat.le_of_ble_eq_true rfl⟩) (fun M_219 H locs h_219 hW => ?_)
        obtain ⟨G_2, hS, eG_2⟩ := h_219
        refine lv_aload_n hx hb dX5_bars_222 rfl (lv_at hl 2 rfl) ?_
        refine lv_iconst (v := 1) hx hb dX5_bars_223 (by decide) ?_
        refine lv_aload_n hx hb dX5_bars_224 rfl (lv_at hl 2 rfl) ?_
        refine gf_X5_47 C hW.rd hS.1 rfl dX5_bars_225 ?_
        refine lv_iload hx hb dX5_bars_228 (lv_at hl 0 rfl) ?_
        refine r_ialdN (k := m1) C hW.rd (RS.i hS 16 12 rfl rfl) (by omega) (by decide) rfl dX5_bars_230 ?_
        refine lv_i2l hx hb dX5_bars_231 rfl ?_
        refine lv_aload_n hx hb dX5_bars_232 rfl (lv_at hl 2 rfl) ?_
        refine gf_X5_50 C hW.rd hS.1 rfl dX5_bars_233 ?_
        refine lv_iload hx hb dX5_bars_236 (lv_at hl 0 rfl) ?_
        refine r_ialdN (k := m1) C hW.rd (RS.i hS 17 12 rfl rfl) (by omega) (by decide) rfl dX5_bars_238 ?_
        refine lv_aload_n hx hb dX5_bars_239 rfl (lv_at hl 2 rfl) ?_
        refine gf_X5_53 C hW.rd hS.1 rfl dX5_bars_240 ?_
        refine lv_iload hx hb dX5_bars_243 (lv_at hl 0 rfl) ?_
        refine r_ialdN (k := m1) C hW.rd (RS.i hS 18 12 rfl rfl) (by omega) (by decide) rfl dX5_bars_245 ?_
        refine lv_isub hx hb dX5_bars_246 ?_
        refine lv_i2l hx hb dX5_bars_247 rfl ?_
        refine wr_goV hW (wr_V (As := [.int 1, .long ((F 16 m1).toInt64), .long (((F 17 m1) - (F 18 m1)).toInt64)]) (rest := []) C hW st_X5_201 (c_X5_other l D cs A _ X ad v F G_2 hS 1 (by omega) ((F 16 m1).toInt64) (((F 17 m1) - (F 18 m1)).toInt64)) hS.1 rfl rfl ⟨rfl, rfl, Nat.le_of_ble_eq_true rfl, Nat.le_of_ble_eq_true rfl⟩ rfl hl.1 rfl (Nat.le_of_ble_eq_true rfl) dX5_bars_248 ⟨Nat.le_of_ble_eq_true rfl, Nat.le_of_ble_eq_true rfl⟩) (fun M_248 H locs h_248 hW => ?_)
        obtain ⟨G_3, hS, eG_3⟩ := h_248
        refine lv_aload_n hx hb dX5_bars_251 rfl (lv_at hl 2 rfl) ?_
        refine lv_iconst (v := 2) hx hb dX5_bars_252 (by decide) ?_
        refine lv_aload_n hx hb dX5_bars_253 rfl (lv_at hl 2 rfl) ?_
        refine gf_X5_47 C hW.rd hS.1 rfl dX5_bars_254 ?_
        refine lv_iload hx hb dX5_bars_257 (lv_at hl 0 rfl) ?_
        refine r_ialdN (k := m1) C hW.rd (RS.i hS 16 12 rfl rfl) (by omega) (by decide) rfl dX5_bars_259 ?_
        refine lv_i2l hx hb dX5_bars_260 rfl ?_
        refine lv_aload_n hx hb dX5_bars_261 rfl (lv_at hl 2 rfl) ?_
        refine gf_X5_50 C hW.rd hS.1 rfl dX5_bars_262 ?_
        refine lv_iload hx hb dX5_bars_265 (lv_at hl 0 rfl) ?_
        refine r_ialdN (k := m1) C hW.rd (RS.i hS 17 12 rfl rfl) (by omega) (by decide) rfl dX5_bars_267 ?_
        refine lv_aload_n hx hb dX5_bars_268 rfl (lv_at hl 2 rfl) ?_
        refine gf_X5_53 C hW.rd hS.1 rfl dX5_bars_269 ?_
        refine lv_iload hx hb dX5_bars_272 (lv_at hl 0 rfl) ?_
        refine r_ialdN (k := m1) C hW.rd (RS.i hS 18 12 rfl rfl) (by omega) (by decide) rfl dX5_bars_274 ?_
        refine lv_iadd hx hb dX5_bars_275 ?_
        refine lv_i2l hx hb dX5_bars_276 rfl ?_
        refine wr_goV hW (wr_V (As := [.int 2, .long ((F 16 m1).toInt64), .long (((F 17 m1) + (F 18 m1)).toInt64)]) (rest := []) C hW st_X5_201 (c_X5_other l D cs A _ X ad v F G_3 hS 2 (by omega) ((F 16 m1).toInt64) (((F 17 m1) + (F 18 m1)).toInt64)) hS.1 rfl rfl ⟨rfl, rfl, Nat.le_of_ble_eq_true rfl, Nat.le_of_ble_eq_true rfl⟩ rfl hl.1 rfl (Nat.le_of_ble_eq_true rfl) dX5_bars_277 ⟨Nat.le_of_ble_eq_true rfl, Nat.le_of_ble_eq_true rfl⟩) (fun M_277 H locs h_277 hW => ?_)
        obtain ⟨G_4, hS, eG_4⟩ := h_277
        refine lv_aload_n hx hb dX5_bars_280 rfl (lv_at hl 2 rfl) ?_
        refine lv_iconst (v := 3) hx hb dX5_bars_281 (by decide) ?_
        refine lv_aload_n hx hb dX5_bars_282 rfl (lv_at hl 2 rfl) ?_
        refine gf_X5_44 C hW.rd hS.1 rfl dX5_bars_283 ?_
        refine lv_iload hx hb dX5_bars_286 (lv_at hl 0 rfl) ?_
        refine r_ialdN (k := m1) C hW.rd (RS.i hS 15 12 rfl rfl) (by omega) (by decide) rfl dX5_bars_288 ?_
        refine lv_i2l hx hb dX5_bars_289 rfl ?_
        refine lv_aload_n hx hb dX5_bars_290 rfl (lv_at hl 2 rfl) ?_
        refine gf_X5_50 C hW.rd hS.1 rfl dX5_bars_291 ?_
        refine lv_iload hx hb dX5_bars_294 (lv_at hl 0 rfl) ?_
        refine r_ialdN (k := m1) C hW.rd (RS.i hS 17 12 rfl rfl) (by omega) (by decide) rfl dX5_bars_296 ?_
        refine lv_i2l hx hb dX5_bars_297 rfl ?_
        refine wr_goV hW (wr_V (As := [.int 3, .long ((F 15 m1).toInt64), .long ((F 17 m1).toInt64)]) (rest := []) C hW st_X5_201 (c_X5_other l D cs A _ X ad v F G_4 hS 3 (by omega) ((F 15 m1).toInt64) ((F 17 m1).toInt64)) hS.1 rfl rfl ⟨rfl, rfl, Nat.le_of_ble_eq_true rfl, Nat.le_of_ble_eq_true rfl⟩ rfl hl.1 rfl (Nat.le_of_ble_eq_true rfl) dX5_bars_298 ⟨Nat.le_of_ble_eq_true rfl, Nat.le_of_ble_eq_true rfl⟩) (fun M_298 H locs h_298 hW => ?_)
        obtain ⟨G_5, hS, eG_5⟩ := h_298
        refine lv_iload_n hx hb dX5_bars_301 rfl (lv_at hl 1 rfl) ?_
        refine W.cut (fun z => z = nI (if rMeet G_5 = true then 1 else 0)) (fun z => F0 m 314 ls (.int z :: [.int (nI n)])) (fun z_314 hz_314 => ?_) (fun J_314 => ?_)
        · subst hz_314
          refine lv_iadd hx hb dX5_bars_314 ?_
          refine top_eq (y := nI (n + (if rMeet G_5 = true then 1 else 0))) (tn_add rfl rfl) ?_
          refine lv_istore_n (lv' := [(3, .int (nI (n + (if rMeet G_5 = true then 1 else 0)))), (4, .int (nI m1)), (0, .ref X), (1, .int (nI k)), (2, .int q)]) hx hb dX5_bars_315 rfl hl (by decide) rfl (fun ls hl => ?_)
          refine lv_iinc (v := nI (m1 + 1)) (lv' := [(4, .int (nI (m1 + 1))), (3, .int (nI (n + (if rMeet G_5 = true then 1 else 0)))), (0, .ref X), (1, .int (nI k)), (2, .int q)]) hx hb dX5_bars_316 hl (k := 1) rfl (by exact tn_add rfl rfl) (by decide) rfl (fun ls hl => ?_)
          refine lv_goto (tgt := 176) hx hb dX5_bars_319 (by decide) ?_
          exact ih_176 ((m1 + 1), (n + (if rMeet G_5 = true then 1 else 0)), G_5, _, _, _, _) ⟨by omega, by subst eG_5 eG_4 eG_3 eG_2; rw [hn, oth4 hA]; simp [cnt, Nat.add_assoc, cW, c_198], hS, by subst eG_5 eG_4 eG_3 eG_2; exact askI_o (askI_o (askI_o (askI_o hA _ _ _) _ _ _) _ _ _) _ _ _, hW, lv_sub hl [0, 1, 2, 3, 4] rfl⟩ (by show nw - (m1 + 1) < nw - m1; omega)
        · refine lv_aload_n hx hb dX5_bars_302 rfl (lv_at hl 2 rfl) ?_
          refine ro_goI (ro_V (As := []) (rest := [.int (nI n)]) C hW.rd st_X5_205 (c_X5_meets l D cs _ X ad v F G_5 hS) hS.1 rfl rfl ⟨rfl, rfl, Nat.le_of_ble_eq_true rfl, Nat.le_of_ble_eq_true rfl⟩ rfl hl.1 rfl (Nat.le_of_ble_eq_true rfl) dX5_bars_303 ⟨Nat.le_of_ble_eq_true rfl, Nat.le_of_ble_eq_true rfl⟩) (fun r_303 h_303 => ?_)
          refine lv_if_eq (tgt := 313) hx hb dX5_bars_306 (by decide) (fun c_306 => ?_) (fun c_306 => ?_)
          · have c_306 : ¬ (rMeet G_5 = true) := bz0 h_303 c_306
            refine lv_iconst (v := 0) hx hb dX5_bars_313 (by decide) ?_
            exact J_314 _ (by rw [if_neg c_306]; rfl)
          · have c_306 : rMeet G_5 = true := bz1 h_303 c_306
            refine lv_iconst (v := 1) hx hb dX5_bars_309 (by decide) ?_
            refine lv_goto (tgt := 314) hx hb dX5_bars_310 (by decide) ?_
            exact J_314 _ (by rw [if_pos c_306]; rfl)
  · have c_17 := cle_f (a := nm) (b := m0) c_17 (by omega) (by omega)
    refine lv_aload_n hx hb dX5_bars_20 rfl (lv_at hl 2 rfl) ?_
    refine gf_X5_26 C hW.rd hS.1 rfl dX5_bars_21 ?_
    refine lv_iload hx hb dX5_bars_24 (lv_at hl 0 rfl) ?_
    refine r_ialdN (k := m0) C hW.rd (RS.i hS 8 40 rfl rfl) (by omega) (by decide) rfl dX5_bars_26 ?_
    refine lv_aload_n hx hb dX5_bars_27 rfl (lv_at hl 2 rfl) ?_
    refine gf_X5_71 C hW.rd hS.1 rfl dX5_bars_28 ?_
    refine lv_iload_n hx hb dX5_bars_31 rfl (lv_at hl 3 rfl) ?_
    refine r_ialdN (k := k) C hW.rd (RS.i hS 25 80 rfl rfl) (by omega) (by decide) rfl dX5_bars_32 ?_
    refine lv_icmp_ne (tgt := 167) hx hb dX5_bars_33 (by decide) (fun c_33 => ?_) (fun c_33 => ?_)
    · refine lv_iinc (v := nI (m0 + 1)) (lv' := [(4, .int (nI (m0 + 1))), (3, .int (nI n)), (0, .ref X), (1, .int (nI k)), (2, .int q)]) hx hb dX5_bars_167 hl (k := 0) rfl (by exact tn_add rfl rfl) (by decide) rfl (fun ls hl => ?_)
      refine lv_goto (tgt := 11) hx hb dX5_bars_170 (by decide) ?_
      exact ih_11 ((m0 + 1), n, G1, _, _, _, _) ⟨by omega, by rw [hn]; simp [cnt, cM, c_33], hS, hA, hW, lv_sub hl [0, 1, 2, 3, 4] rfl⟩ (by show nm - (m0 + 1) < nm - m0; omega)
    · refine lv_aload_n hx hb dX5_bars_36 rfl (lv_at hl 2 rfl) ?_
      refine lv_iconst (v := 0) hx hb dX5_bars_37 (by decide) ?_
      refine lv_aload_n hx hb dX5_bars_38 rfl (lv_at hl 2 rfl) ?_
      refine gf_X5_29 C hW.rd hS.1 rfl dX5_bars_39 ?_
      refine lv_iload hx hb dX5_bars_42 (lv_at hl 0 rfl) ?_
      refine r_ialdN (k := m0) C hW.rd (RS.i hS 9 40 rfl rfl) (by omega) (by decide) rfl dX5_bars_44 ?_
      refine lv_i2l hx hb dX5_bars_45 rfl ?_
      refine lv_aload_n hx hb dX5_bars_46 rfl (lv_at hl 2 rfl) ?_
      refine gf_X5_32 C hW.rd hS.1 rfl dX5_bars_47 ?_
      refine lv_iload hx hb dX5_bars_50 (lv_at hl 0 rfl) ?_
      refine r_ialdN (k := m0) C hW.rd (RS.i hS 10 40 rfl rfl) (by omega) (by decide) rfl dX5_bars_52 ?_
      refine lv_i2l hx hb dX5_bars_53 rfl ?_
      refine wr_goV hW (wr_V (As := [.int 0, .long ((F 9 m0).toInt64), .long ((F 10 m0).toInt64)]) (rest := []) C hW st_X5_201 (c_X5_other l D cs A _ X ad v F G1 hS 0 (by omega) ((F 9 m0).toInt64) ((F 10 m0).toInt64)) hS.1 rfl rfl ⟨rfl, rfl, Nat.le_of_ble_eq_true rfl, Nat.le_of_ble_eq_true rfl⟩ rfl hl.1 rfl (Nat.le_of_ble_eq_true rfl) dX5_bars_54 ⟨Nat.le_of_ble_eq_true rfl, Nat.le_of_ble_eq_true rfl⟩) (fun M_54 H locs h_54 hW => ?_)
      obtain ⟨G_6, hS, eG_6⟩ := h_54
      refine lv_aload_n hx hb dX5_bars_57 rfl (lv_at hl 2 rfl) ?_
      refine lv_iconst (v := 1) hx hb dX5_bars_58 (by decide) ?_
      refine lv_aload_n hx hb dX5_bars_59 rfl (lv_at hl 2 rfl) ?_
      refine gf_X5_29 C hW.rd hS.1 rfl dX5_bars_60 ?_
      refine lv_iload hx hb dX5_bars_63 (lv_at hl 0 rfl) ?_
      refine r_ialdN (k := m0) C hW.rd (RS.i hS 9 40 rfl rfl) (by omega) (by decide) rfl dX5_bars_65 ?_
      refine lv_aload_n hx hb dX5_bars_66 rfl (lv_at hl 2 rfl) ?_
      refine gf_X5_35 C hW.rd hS.1 rfl dX5_bars_67 ?_
      refine lv_iload hx hb dX5_bars_70 (lv_at hl 0 rfl) ?_
      refine r_ialdN (k := m0) C hW.rd (RS.i hS 11 40 rfl rfl) (by omega) (by decide) rfl dX5_bars_72 ?_
      refine lv_iadd hx hb dX5_bars_73 ?_
      refine lv_i2l hx hb dX5_bars_74 rfl ?_
      refine lv_aload_n hx hb dX5_bars_75 rfl (lv_at hl 2 rfl) ?_
      refine gf_X5_32 C hW.rd hS.1 rfl dX5_bars_76 ?_
      refine lv_iload hx hb dX5_bars_79 (lv_at hl 0 rfl) ?_
      refine r_ialdN (k := m0) C hW.rd (RS.i hS 10 40 rfl rfl) (by omega) (by decide) rfl dX5_bars_81 ?_
      refine lv_i2l hx hb dX5_bars_82 rfl ?_
      refine wr_goV hW (wr_V (As := [.int 1, .long (((F 9 m0) + (F 11 m0)).toInt64), .long ((F 10 m0).toInt64)]) (rest := []) C hW st_X5_201 (c_X5_other l D cs A _ X ad v F G_6 hS 1 (by omega) (((F 9 m0) + (F 11 m0)).toInt64) ((F 10 m0).toInt64)) hS.1 rfl rfl ⟨rfl, rfl, Nat.le_of_ble_eq_true rfl, Nat.le_of_ble_eq_true rfl⟩ rfl hl.1 rfl (Nat.le_of_ble_eq_true rfl) dX5_bars_83 ⟨Nat.le_of_ble_eq_true rfl, Nat.le_of_ble_eq_true rfl⟩) (fun M_83 H locs h_83 hW => ?_)
      obtain ⟨G_7, hS, eG_7⟩ := h_83
      refine lv_aload_n hx hb dX5_bars_86 rfl (lv_at hl 2 rfl) ?_
      refine lv_iconst (v := 2) hx hb dX5_bars_87 (by decide) ?_
      refine lv_aload_n hx hb dX5_bars_88 rfl (lv_at hl 2 rfl) ?_
      refine gf_X5_29 C hW.rd hS.1 rfl dX5_bars_89 ?_
      refine lv_iload hx hb dX5_bars_92 (lv_at hl 0 rfl) ?_
      refine r_ialdN (k := m0) C hW.rd (RS.i hS 9 40 rfl rfl) (by omega) (by decide) rfl dX5_bars_94 ?_
      refine lv_aload_n hx hb dX5_bars_95 rfl (lv_at hl 2 rfl) ?_
      refine gf_X5_35 C hW.rd hS.1 rfl dX5_bars_96 ?_
      refine lv_iload hx hb dX5_bars_99 (lv_at hl 0 rfl) ?_
      refine r_ialdN (k := m0) C hW.rd (RS.i hS 11 40 rfl rfl) (by omega) (by decide) rfl dX5_bars_101 ?_
      refine lv_iadd hx hb dX5_bars_102 ?_
      refine lv_i2l hx hb dX5_bars_103 rfl ?_
      refine lv_aload_n hx hb dX5_bars_104 rfl (lv_at hl 2 rfl) ?_
      refine gf_X5_32 C hW.rd hS.1 rfl dX5_bars_105 ?_
      refine lv_iload hx hb dX5_bars_108 (lv_at hl 0 rfl) ?_
      refine r_ialdN (k := m0) C hW.rd (RS.i hS 10 40 rfl rfl) (by omega) (by decide) rfl dX5_bars_110 ?_
      refine lv_aload_n hx hb dX5_bars_111 rfl (lv_at hl 2 rfl) ?_
      refine gf_X5_38 C hW.rd hS.1 rfl dX5_bars_112 ?_
      refine lv_iload hx hb dX5_bars_115 (lv_at hl 0 rfl) ?_
      refine r_ialdN (k := m0) C hW.rd (RS.i hS 12 40 rfl rfl) (by omega) (by decide) rfl dX5_bars_117 ?_
      refine lv_iadd hx hb dX5_bars_118 ?_
      refine lv_i2l hx hb dX5_bars_119 rfl ?_
      refine wr_goV hW (wr_V (As := [.int 2, .long (((F 9 m0) + (F 11 m0)).toInt64), .long (((F 10 m0) + (F 12 m0)).toInt64)]) (rest := []) C hW st_X5_201 (c_X5_other l D cs A _ X ad v F G_7 hS 2 (by omega) (((F 9 m0) + (F 11 m0)).toInt64) (((F 10 m0) + (F 12 m0)).toInt64)) hS.1 rfl rfl ⟨rfl, rfl, Nat.le_of_ble_eq_true rfl, Nat.le_of_ble_eq_true rfl⟩ rfl hl.1 rfl (Nat.le_of_ble_eq_true rfl) dX5_bars_120 ⟨Nat.le_of_ble_eq_true rfl, Nat.le_of_ble_eq_true rfl⟩) (fun M_120 H locs h_120 hW => ?_)
      obtain ⟨G_8, hS, eG_8⟩ := h_120
      refine lv_aload_n hx hb dX5_bars_123 rfl (lv_at hl 2 rfl) ?_
      refine lv_iconst (v := 3) hx hb dX5_bars_124 (by decide) ?_
      refine lv_aload_n hx hb dX5_bars_125 rfl (lv_at hl 2 rfl) ?_
      refine gf_X5_29 C hW.rd hS.1 rfl dX5_bars_126 ?_
      refine lv_iload hx hb dX5_bars_129 (lv_at hl 0 rfl) ?_
      refine r_ialdN (k := m0) C hW.rd (RS.i hS 9 40 rfl rfl) (by omega) (by decide) rfl dX5_bars_131 ?_
      refine lv_i2l hx hb dX5_bars_132 rfl ?_
      refine lv_aload_n hx hb dX5_bars_133 rfl (lv_at hl 2 rfl) ?_
      refine gf_X5_32 C hW.rd hS.1 rfl dX5_bars_134 ?_
      refine lv_iload hx hb dX5_bars_137 (lv_at hl 0 rfl) ?_
      refine r_ialdN (k := m0) C hW.rd (RS.i hS 10 40 rfl rfl) (by omega) (by decide) rfl dX5_bars_139 ?_
      refine lv_aload_n hx hb dX5_bars_140 rfl (lv_at hl 2 rfl) ?_
      refine gf_X5_38 C hW.rd hS.1 rfl dX5_bars_141 ?_
      refine lv_iload hx hb dX5_bars_144 (lv_at hl 0 rfl) ?_
      refine r_ialdN (k := m0) C hW.rd (RS.i hS 12 40 rfl rfl) (by omega) (by decide) rfl dX5_bars_146 ?_
      refine lv_iadd hx hb dX5_bars_147 ?_
      refine lv_i2l hx hb dX5_bars_148 rfl ?_
      refine wr_goV hW (wr_V (As := [.int 3, .long ((F 9 m0).toInt64), .long (((F 10 m0) + (F 12 m0)).toInt64)]) (rest := []) C hW st_X5_201 (c_X5_other l D cs A _ X ad v F G_8 hS 3 (by omega) ((F 9 m0).toInt64) (((F 10 m0) + (F 12 m0)).toInt64)) hS.1 rfl rfl ⟨rfl, rfl, Nat.le_of_ble_eq_true rfl, Nat.le_of_ble_eq_true rfl⟩ rfl hl.1 rfl (Nat.le_of_ble_eq_true rfl) dX5_bars_149 ⟨Nat.le_of_ble_eq_true rfl, Nat.le_of_ble_eq_true rfl⟩) (fun M_149 H locs h_149 hW => ?_)
      obtain ⟨G_9, hS, eG_9⟩ := h_149
      refine lv_iload_n hx hb dX5_bars_152 rfl (lv_at hl 1 rfl) ?_
      refine W.cut (fun z => z = nI (if rMeet G_9 = true then 1 else 0)) (fun z => F0 m 165 ls (.int z :: [.int (nI n)])) (fun z_165 hz_165 => ?_) (fun J_165 => ?_)
      · subst hz_165
        refine lv_iadd hx hb dX5_bars_165 ?_
        refine top_eq (y := nI (n + (if rMeet G_9 = true then 1 else 0))) (tn_add rfl rfl) ?_
        refine lv_istore_n (lv' := [(3, .int (nI (n + (if rMeet G_9 = true then 1 else 0)))), (4, .int (nI m0)), (0, .ref X), (1, .int (nI k)), (2, .int q)]) hx hb dX5_bars_166 rfl hl (by decide) rfl (fun ls hl => ?_)
        refine lv_iinc (v := nI (m0 + 1)) (lv' := [(4, .int (nI (m0 + 1))), (3, .int (nI (n + (if rMeet G_9 = true then 1 else 0)))), (0, .ref X), (1, .int (nI k)), (2, .int q)]) hx hb dX5_bars_167 hl (k := 1) rfl (by exact tn_add rfl rfl) (by decide) rfl (fun ls hl => ?_)
        refine lv_goto (tgt := 11) hx hb dX5_bars_170 (by decide) ?_
        exact ih_11 ((m0 + 1), (n + (if rMeet G_9 = true then 1 else 0)), G_9, _, _, _, _) ⟨by omega, by subst eG_9 eG_8 eG_7 eG_6; rw [hn, oth4 hA]; simp [cnt, cM, c_33], hS, by subst eG_9 eG_8 eG_7 eG_6; exact askI_o (askI_o (askI_o (askI_o hA _ _ _) _ _ _) _ _ _) _ _ _, hW, lv_sub hl [0, 1, 2, 3, 4] rfl⟩ (by show nm - (m0 + 1) < nm - m0; omega)
      · refine lv_aload_n hx hb dX5_bars_153 rfl (lv_at hl 2 rfl) ?_
        refine ro_goI (ro_V (As := []) (rest := [.int (nI n)]) C hW.rd st_X5_205 (c_X5_meets l D cs _ X ad v F G_9 hS) hS.1 rfl rfl ⟨rfl, rfl, Nat.le_of_ble_eq_true rfl, Nat.le_of_ble_eq_true rfl⟩ rfl hl.1 rfl (Nat.le_of_ble_eq_true rfl) dX5_bars_154 ⟨Nat.le_of_ble_eq_true rfl, Nat.le_of_ble_eq_true rfl⟩) (fun r_154 h_154 => ?_)
        refine lv_if_eq (tgt := 164) hx hb dX5_bars_157 (by decide) (fun c_157 => ?_) (fun c_157 => ?_)
        · have c_157 : ¬ (rMeet G_9 = true) := bz0 h_154 c_157
          refine lv_iconst (v := 0) hx hb dX5_bars_164 (by decide) ?_
          exact J_165 _ (by rw [if_neg c_157]; rfl)
        · have c_157 : rMeet G_9 = true := bz1 h_154 c_157
          refine lv_iconst (v := 1) hx hb dX5_bars_160 (by decide) ?_
          refine lv_goto (tgt := 165) hx hb dX5_bars_161 (by decide) ?_
          exact J_165 _ (by rw [if_pos c_157]; rfl)
end
section
theorem rBars_le (F : Nat → Nat → Int32) (nm nw k : Nat) (q : Int32) : rBars F nm nw k q ≤ nm + nw := Nat.add_le_add (cnt_le _ _) (cnt_le _ _)
theorem rHulls_le (F : Nat → Nat → Int32) (nc k : Nat) (q : Int32) : rHulls F nc k q ≤ 2 * nc := cnt_le _ _
set_option maxHeartbeats 4000000 in
set_option maxRecDepth 100000 in
theorem c_X5_hulls (l : Launch) (D : va_G) (cs : Nat → ClassId) (A : Nat → Prop) (M : wM) (X : Nat) (ad : Nat → Nat) (v : Nat → Int32) (F : Nat → Nat → Int32) (G : Nat → Nat → Int64) (hS : RS cs M X ad v F G) (nc : Nat) (hnc : v 19 = nI nc) (hc40 : nc ≤ 40) (k : Nat) (hk : k < 80) (q : Int32) : Met l yX5_hulls (mw yX5_hulls cX5_hulls 6 (some .int)) { frames := 4, cells := 0, slots := 0, locals := 113 } (wrP D cs A M [.ref X, .int (nI k), .int q]) (va_Qi (fun r M' => ∃ G', RS cs M' X ad v F G' ∧ r = nI (rHulls F nc k q)) (wrB D A) A) 0 0 A := by
  refine wr_met rfl (Nat.le_of_ble_eq_true rfl) ?_
  intro p e s m below meth c ls C hW hr hlk hini hl
  have C : kx D cs p m c cX5_hulls 6 s _ RX5 := C
  have hx := C.1.1
  have hb := C.1.2.1
  have hl : lv_has ls 6 [(0, .ref X), (1, .int (nI k)), (2, .int q)] := hl
  refine lv_aload_n hx hb dX5_hulls_0 rfl (lv_at hl 0 rfl) ?_
  refine lv_iload_n hx hb dX5_hulls_1 rfl (lv_at hl 1 rfl) ?_
  refine lv_iload_n hx hb dX5_hulls_2 rfl (lv_at hl 2 rfl) ?_
  refine wr_goV hW (wr_V (As := [.int (nI k), .int q]) (rest := []) C hW st_X5_198 (c_X5_ask l D cs A _ X ad v F G hS k (by omega) q) hS.1 rfl rfl ⟨rfl, rfl, Nat.le_of_ble_eq_true rfl, Nat.le_of_ble_eq_true rfl⟩ rfl hl.1 rfl (Nat.le_of_ble_eq_true rfl) dX5_hulls_3 ⟨Nat.le_of_ble_eq_true rfl, Nat.le_of_ble_eq_true rfl⟩) (fun M_3 H locs h_3 hW => ?_)
  obtain ⟨G_1, hS, hA⟩ := h_3
  refine lv_iconst (v := 0) hx hb dX5_hulls_6 (by decide) ?_
  refine lv_istore_n (lv' := [(3, .int 0), (0, .ref X), (1, .int (nI k)), (2, .int q)]) hx hb dX5_hulls_7 rfl hl (by decide) rfl (fun ls hl => ?_)
  refine lv_iconst (v := 0) hx hb dX5_hulls_8 (by decide) ?_
  refine lv_istore (lv' := [(4, .int 0), (3, .int 0), (0, .ref X), (1, .int (nI k)), (2, .int q)]) hx hb dX5_hulls_9 hl (by decide) rfl (fun ls hl => ?_)
  refine W.loopW (σ := Nat × Nat × (Nat → Nat → Int64) × Heap × List Loc × wM × Array Slot) (fun ⟨j, n, G1, H, locs, M, ls⟩ => F0 m 11 ls []) (fun ⟨j, n, G1, H, locs, M, ls⟩ => H) (fun ⟨j, n, G1, H, locs, M, ls⟩ => locs) (fun ⟨j, n, G1, H, locs, M, ls⟩ => (j ≤ 2 * nc) ∧ (n = cnt (cH F k q) j) ∧ (RS cs M X ad v F G1) ∧ (askI F k q 4 G1) ∧ wd D A M s.heap H locs ∧ lv_has ls 6 [(4, .int (nI j)), (3, .int (nI n)), (0, .ref X), (1, .int (nI k)), (2, .int q)]) (fun ⟨j, n, G1, H, locs, M, ls⟩ => 2 * nc - j) ?_ (0, 0, G_1, _, _, _, _) ⟨by omega, rfl, hS, hA, hW, lv_sub hl [0, 1, 2, 3, 4] rfl⟩ rfl rfl rfl
  intro ⟨j, n, G1, H, locs, M, ls⟩ ⟨hj, hn, hS, hA, hW, hl⟩ ih_11
  show W _ _ _ _ _ _ _ _ _ _ H locs _ _ _ (F0 m 11 ls [])
  have hl : lv_has ls 6 [(4, .int (nI j)), (3, .int (nI n)), (0, .ref X), (1, .int (nI k)), (2, .int q)] := hl
  refine lv_iload hx hb dX5_hulls_11 (lv_at hl 0 rfl) ?_
  refine lv_iconst (v := 2) hx hb dX5_hulls_13 (by decide) ?_
  refine lv_aload_n hx hb dX5_hulls_14 rfl (lv_at hl 2 rfl) ?_
  refine gf_X5_136 C hW.rd hS.1 rfl dX5_hulls_15 ?_
  refine top_eq (y := nI nc) hnc ?_
  refine lv_imul hx hb dX5_hulls_18 ?_
  refine top_eq (y := nI (2 * nc)) (tn_mul rfl rfl) ?_
  refine lv_icmp_ge (tgt := 115) hx hb dX5_hulls_19 (by decide) (fun c_19 => ?_) (fun c_19 => ?_)
  · have c_19 := cle_t (a := (2 * nc)) (b := j) c_19 (by omega) (by omega)
    refine lv_iload_n hx hb dX5_hulls_115 rfl (lv_at hl 1 rfl) ?_
    exact wr_iret C hW hr hlk (⟨_, hS, by rw [hn, show j = 2 * nc by omega]; rfl⟩) dX5_hulls_116
  · have c_19 := cle_f (a := (2 * nc)) (b := j) c_19 (by omega) (by omega)
    refine lv_iload hx hb dX5_hulls_22 (lv_at hl 0 rfl) ?_
    refine lv_iconst (v := 2) hx hb dX5_hulls_24 (by decide) ?_
    refine lv_irem hx hb dX5_hulls_25 (by decide) ?_
    refine top_eq (y := nI (j % 2)) (tn_rem rfl rfl (by omega) (by decide) (by decide)) ?_
    refine lv_aload_n hx hb dX5_hulls_26 rfl (lv_at hl 2 rfl) ?_
    refine gf_X5_68 C hW.rd hS.1 rfl dX5_hulls_27 ?_
    refine lv_iload hx hb dX5_hulls_30 (lv_at hl 0 rfl) ?_
    refine lv_iconst (v := 2) hx hb dX5_hulls_32 (by decide) ?_
    refine lv_idiv hx hb dX5_hulls_33 (by decide) ?_
    refine top_eq (y := nI (j / 2)) (tn_div rfl rfl (by omega) (by decide) (by decide)) ?_
    refine r_ialdN (k := (j / 2)) C hW.rd (RS.i hS 24 40 rfl rfl) (by omega) (by decide) rfl dX5_hulls_34 ?_
    refine lv_icmp_ge (tgt := 109) hx hb dX5_hulls_35 (by decide) (fun c_35 => ?_) (fun c_35 => ?_)
    · refine lv_iinc (v := nI (j + 1)) (lv' := [(4, .int (nI (j + 1))), (3, .int (nI n)), (0, .ref X), (1, .int (nI k)), (2, .int q)]) hx hb dX5_hulls_109 hl (k := 0) rfl (by exact tn_add rfl rfl) (by decide) rfl (fun ls hl => ?_)
      refine lv_goto (tgt := 11) hx hb dX5_hulls_112 (by decide) ?_
      exact ih_11 ((j + 1), n, G1, _, _, _, _) ⟨by omega, by rw [hn]; simp [cnt, cH, c_35], hS, hA, hW, lv_sub hl [0, 1, 2, 3, 4] rfl⟩ (by show 2 * nc - (j + 1) < 2 * nc - j; omega)
    · refine lv_aload_n hx hb dX5_hulls_38 rfl (lv_at hl 2 rfl) ?_
      refine lv_iload hx hb dX5_hulls_39 (lv_at hl 0 rfl) ?_
      refine lv_iload_n hx hb dX5_hulls_41 rfl (lv_at hl 3 rfl) ?_
      refine ro_goI (ro_V (As := [.int (nI j), .int (nI k)]) (rest := []) C hW.rd st_X5_209 (c_X5_isIn l D cs _ X ad v F G1 hS j k (by omega) (by omega)) hS.1 rfl rfl ⟨rfl, rfl, Nat.le_of_ble_eq_true rfl, Nat.le_of_ble_eq_true rfl⟩ rfl hl.1 rfl (Nat.le_of_ble_eq_true rfl) dX5_hulls_42 ⟨Nat.le_of_ble_eq_true rfl, Nat.le_of_ble_eq_true rfl⟩) (fun r_42 h_42 => ?_)
      refine lv_if_eq (tgt := 109) hx hb dX5_hulls_45 (by decide) (fun c_45 => ?_) (fun c_45 => ?_)
      · have c_45 : ¬ (rIn F j k = true) := bz0 h_42 c_45
        refine lv_iinc (v := nI (j + 1)) (lv' := [(4, .int (nI (j + 1))), (3, .int (nI n)), (0, .ref X), (1, .int (nI k)), (2, .int q)]) hx hb dX5_hulls_109 hl (k := 0) rfl (by exact tn_add rfl rfl) (by decide) rfl (fun ls hl => ?_)
        refine lv_goto (tgt := 11) hx hb dX5_hulls_112 (by decide) ?_
        exact ih_11 ((j + 1), n, G1, _, _, _, _) ⟨by omega, by rw [hn]; simp [cnt, cH, c_35, c_45], hS, hA, hW, lv_sub hl [0, 1, 2, 3, 4] rfl⟩ (by show 2 * nc - (j + 1) < 2 * nc - j; omega)
      · have c_45 : rIn F j k = true := bz1 h_42 c_45
        refine lv_iconst (v := 0) hx hb dX5_hulls_48 (by decide) ?_
        refine lv_istore (lv' := [(5, .int 0), (4, .int (nI j)), (3, .int (nI n)), (0, .ref X), (1, .int (nI k)), (2, .int q)]) hx hb dX5_hulls_49 hl (by decide) rfl (fun ls hl => ?_)
        refine W.loopW (σ := Nat × (Nat → Nat → Int64) × Heap × List Loc × wM × Array Slot) (fun ⟨i, G2, H, locs, M, ls⟩ => F0 m 51 ls []) (fun ⟨i, G2, H, locs, M, ls⟩ => H) (fun ⟨i, G2, H, locs, M, ls⟩ => locs) (fun ⟨i, G2, H, locs, M, ls⟩ => (i ≤ 4) ∧ (RS cs M X ad v F G2) ∧ (askI F k q 4 G2) ∧ (othI F j i G2) ∧ wd D A M s.heap H locs ∧ lv_has ls 6 [(5, .int (nI i)), (4, .int (nI j)), (3, .int (nI n)), (0, .ref X), (1, .int (nI k)), (2, .int q)]) (fun ⟨i, G2, H, locs, M, ls⟩ => 4 - i) ?_ (0, G1, _, _, _, _) ⟨by omega, hS, hA, fun i h => absurd h (by omega), hW, lv_sub hl [0, 1, 2, 3, 4, 5] rfl⟩ rfl rfl rfl
        intro ⟨i, G2, H, locs, M, ls⟩ ⟨hi, hS, hA, hO, hW, hl⟩ ih_51
        show W _ _ _ _ _ _ _ _ _ _ H locs _ _ _ (F0 m 51 ls [])
        have hl : lv_has ls 6 [(5, .int (nI i)), (4, .int (nI j)), (3, .int (nI n)), (0, .ref X), (1, .int (nI k)), (2, .int q)] := hl
        refine lv_iload hx hb dX5_hulls_51 (lv_at hl 0 rfl) ?_
        refine lv_iconst (v := 4) hx hb dX5_hulls_53 (by decide) ?_
        refine lv_icmp_ge (tgt := 94) hx hb dX5_hulls_54 (by decide) (fun c_54 => ?_) (fun c_54 => ?_)
        · have c_54 := cle_t (a := 4) (b := i) c_54 (by omega) (by omega)
          refine lv_iload_n hx hb dX5_hulls_94 rfl (lv_at hl 2 rfl) ?_
          refine W.cut (fun z => z = nI (if rMeet G2 = true then 1 else 0)) (fun z => F0 m 107 ls (.int z :: [.int (nI n)])) (fun z_107 hz_107 => ?_) (fun J_107 => ?_)
          · subst hz_107
            refine lv_iadd hx hb dX5_hulls_107 ?_
            refine top_eq (y := nI (n + (if rMeet G2 = true then 1 else 0))) (tn_add rfl rfl) ?_
            refine lv_istore_n (lv' := [(3, .int (nI (n + (if rMeet G2 = true then 1 else 0)))), (5, .int (nI i)), (4, .int (nI j)), (0, .ref X), (1, .int (nI k)), (2, .int q)]) hx hb dX5_hulls_108 rfl hl (by decide) rfl (fun ls hl => ?_)
            refine lv_iinc (v := nI (j + 1)) (lv' := [(4, .int (nI (j + 1))), (3, .int (nI (n + (if rMeet G2 = true then 1 else 0)))), (5, .int (nI i)), (0, .ref X), (1, .int (nI k)), (2, .int q)]) hx hb dX5_hulls_109 hl (k := 2) rfl (by exact tn_add rfl rfl) (by decide) rfl (fun ls hl => ?_)
            refine lv_goto (tgt := 11) hx hb dX5_hulls_112 (by decide) ?_
            exact ih_11 ((j + 1), (n + (if rMeet G2 = true then 1 else 0)), G2, _, _, _, _) ⟨by omega, by rw [hn, othM hA (by rw [show i = 4 by omega] at hO; exact hO)]; simp [cnt, cH, c_35, c_45], hS, hA, hW, lv_sub hl [0, 1, 3, 4, 5] rfl⟩ (by show 2 * nc - (j + 1) < 2 * nc - j; omega)
          · refine lv_aload_n hx hb dX5_hulls_95 rfl (lv_at hl 3 rfl) ?_
            refine ro_goI (ro_V (As := []) (rest := [.int (nI n)]) C hW.rd st_X5_205 (c_X5_meets l D cs _ X ad v F G2 hS) hS.1 rfl rfl ⟨rfl, rfl, Nat.le_of_ble_eq_true rfl, Nat.le_of_ble_eq_true rfl⟩ rfl hl.1 rfl (Nat.le_of_ble_eq_true rfl) dX5_hulls_96 ⟨Nat.le_of_ble_eq_true rfl, Nat.le_of_ble_eq_true rfl⟩) (fun r_96 h_96 => ?_)
            refine lv_if_eq (tgt := 106) hx hb dX5_hulls_99 (by decide) (fun c_99 => ?_) (fun c_99 => ?_)
            · have c_99 : ¬ (rMeet G2 = true) := bz0 h_96 c_99
              refine lv_iconst (v := 0) hx hb dX5_hulls_106 (by decide) ?_
              exact J_107 _ (by rw [if_neg c_99]; rfl)
            · have c_99 : rMeet G2 = true := bz1 h_96 c_99
              refine lv_iconst (v := 1) hx hb dX5_hulls_102 (by decide) ?_
              refine lv_goto (tgt := 107) hx hb dX5_hulls_103 (by decide) ?_
              exact J_107 _ (by rw [if_pos c_99]; rfl)
        · have c_54 := cle_f (a := 4) (b := i) c_54 (by omega) (by omega)
          refine lv_aload_n hx hb dX5_hulls_57 rfl (lv_at hl 3 rfl) ?_
          refine lv_iload hx hb dX5_hulls_58 (lv_at hl 0 rfl) ?_
          refine lv_aload_n hx hb dX5_hulls_60 rfl (lv_at hl 3 rfl) ?_
          refine lv_iload hx hb dX5_hulls_61 (lv_at hl 1 rfl) ?_
          refine lv_iload hx hb dX5_hulls_63 (lv_at hl 0 rfl) ?_
          refine ro_goI (ro_V (As := [.int (nI j), .int (nI i)]) (rest := [.int (nI i), .ref X]) C hW.rd st_X5_191 (c_X5_px l D cs _ X ad v F G2 hS j (by omega) (nI i)) hS.1 rfl rfl ⟨rfl, rfl, Nat.le_of_ble_eq_true rfl, Nat.le_of_ble_eq_true rfl⟩ rfl hl.1 rfl (Nat.le_of_ble_eq_true rfl) dX5_hulls_65 ⟨Nat.le_of_ble_eq_true rfl, Nat.le_of_ble_eq_true rfl⟩) (fun r_65 h_65 => ?_)
          refine lv_i2l hx hb dX5_hulls_68 rfl ?_
          refine lv_aload_n hx hb dX5_hulls_69 rfl (lv_at hl 3 rfl) ?_
          refine lv_iload hx hb dX5_hulls_70 (lv_at hl 1 rfl) ?_
          refine lv_aload_n hx hb dX5_hulls_72 rfl (lv_at hl 3 rfl) ?_
          refine gf_X5_86 C hW.rd hS.1 rfl dX5_hulls_73 ?_
          refine lv_iload hx hb dX5_hulls_76 (lv_at hl 1 rfl) ?_
          refine r_ialdN (k := j) C hW.rd (RS.i hS 30 80 rfl rfl) (by omega) (by decide) rfl dX5_hulls_78 ?_
          refine lv_iload hx hb dX5_hulls_79 (lv_at hl 0 rfl) ?_
          refine ro_goI (ro_V (As := [.int (nI j), .int (F 30 j), .int (nI i)]) (rest := [.long r_65.toInt64, .int (nI i), .ref X]) C hW.rd st_X5_194 (c_X5_py l D cs _ X ad v F G2 hS j (by omega) (F 30 j) (nI i)) hS.1 rfl rfl ⟨rfl, rfl, Nat.le_of_ble_eq_true rfl, Nat.le_of_ble_eq_true rfl⟩ rfl hl.1 rfl (Nat.le_of_ble_eq_true rfl) dX5_hulls_81 ⟨Nat.le_of_ble_eq_true rfl, Nat.le_of_ble_eq_true rfl⟩) (fun r_81 h_81 => ?_)
          refine lv_i2l hx hb dX5_hulls_84 rfl ?_
          refine wr_goV hW (wr_V (As := [.int (nI i), .long r_65.toInt64, .long r_81.toInt64]) (rest := []) C hW st_X5_201 (c_X5_other l D cs A _ X ad v F G2 hS i (by omega) r_65.toInt64 r_81.toInt64) hS.1 rfl rfl ⟨rfl, rfl, Nat.le_of_ble_eq_true rfl, Nat.le_of_ble_eq_true rfl⟩ rfl hl.1 rfl (Nat.le_of_ble_eq_true rfl) dX5_hulls_85 ⟨Nat.le_of_ble_eq_true rfl, Nat.le_of_ble_eq_true rfl⟩) (fun M_85 H locs h_85 hW => ?_)
          obtain ⟨G_2, hS, eG_2⟩ := h_85
          refine lv_iinc (v := nI (i + 1)) (lv' := [(5, .int (nI (i + 1))), (4, .int (nI j)), (3, .int (nI n)), (0, .ref X), (1, .int (nI k)), (2, .int q)]) hx hb dX5_hulls_88 hl (k := 0) rfl (by exact tn_add rfl rfl) (by decide) rfl (fun ls hl => ?_)
          refine lv_goto (tgt := 51) hx hb dX5_hulls_91 (by decide) ?_
          exact ih_51 ((i + 1), G_2, _, _, _, _) ⟨by omega, hS, by subst eG_2; exact askI_o hA _ _ _, by subst eG_2; exact othI_s hO h_65 h_81, hW, lv_sub hl [0, 1, 2, 3, 4, 5] rfl⟩ (by show 4 - (i + 1) < 4 - i; omega)

def nq (F : Nat → Nat → Int32) (k : Nat) : Nat := if F 22 (k / 2) = 0 then 24 else 8
theorem nq_eq (F : Nat → Nat → Int32) (k : Nat) : (if F 22 (k / 2) = 0 then (24 : Int32) else 8) = nI (nq F k) := by unfold nq; split <;> rfl
theorem nq_le (F : Nat → Nat → Int32) (k : Nat) : 8 ≤ nq F k ∧ nq F k ≤ 24 := by unfold nq; split <;> omega
def chB (F : Nat → Nat → Int32) (nm nw nc k : Nat) : Nat → Int32
  | 0 => -9005
  | q + 1 => if (chB F nm nw nc k q = -9005 ∨ ¬ rBad (chB F nm nw nc k q) ≤ rBad (nI q)) ∧ rBars F nm nw k (nI q) = 0 ∧ rHulls F nc k (nI q) = 0 then nI q else chB F nm nw nc k q
def rChoose (F : Nat → Nat → Int32) (nm nw nc k : Nat) : Nat → Nat → Int32 := sF (sF F 31 k (bI (chB F nm nw nc k (nq F k) = -9005))) 30 k (if chB F nm nw nc k (nq F k) = -9005 then nI (nq F k) - 1 else chB F nm nw nc k (nq F k))
set_option maxHeartbeats 4000000 in
set_option maxRecDepth 100000 in
theorem c_X5_choose (l : Launch) (D : va_G) (cs : Nat → ClassId) (A : Nat → Prop) (M : wM) (X : Nat) (ad : Nat → Nat) (v : Nat → Int32) (F : Nat → Nat → Int32) (G : Nat → Nat → Int64) (hS : RS cs M X ad v F G) (nm nw nc : Nat) (hnm : v 7 = nI nm) (hm40 : nm ≤ 40) (hnw : v 13 = nI nw) (hw12 : nw ≤ 12) (hnc : v 19 = nI nc) (hc40 : nc ≤ 40) (c0 p0 : Nat) (hc0 : c0 < 40) (hp0 : p0 < 2) : Met l yX5_choose (mw yX5_choose cX5_choose 7 none) { frames := 5, cells := 0, slots := 0, locals := 138 } (wrP D cs A M [.ref X, .int (nI c0), .int (nI p0)]) (va_Qv (fun M' => ∃ F' G', RS cs M' X ad v F' G' ∧ F' = rChoose F nm nw nc (2 * c0 + p0)) (wrB D A) A) 0 0 A := by
  refine wr_met rfl (Nat.le_of_ble_eq_true rfl) ?_
  intro p e s m below meth c ls C hW hr hlk hini hl
  have C : kx D cs p m c cX5_choose 7 s _ RX5 := C
  have hx := C.1.1
  have hb := C.1.2.1
  have hl : lv_has ls 7 [(0, .ref X), (1, .int (nI c0)), (2, .int (nI p0))] := hl
  refine lv_iconst (v := 2) hx hb dX5_choose_0 (by decide) ?_
  refine lv_iload_n hx hb dX5_choose_1 rfl (lv_at hl 1 rfl) ?_
  refine lv_imul hx hb dX5_choose_2 ?_
  refine top_eq (y := nI (2 * c0)) (tn_mul rfl rfl) ?_
  refine lv_iload_n hx hb dX5_choose_3 rfl (lv_at hl 2 rfl) ?_
  refine lv_iadd hx hb dX5_choose_4 ?_
  refine top_eq (y := nI ((2 * c0) + p0)) (tn_add rfl rfl) ?_
  refine lv_istore_n (lv' := [(3, .int (nI ((2 * c0) + p0))), (0, .ref X), (1, .int (nI c0)), (2, .int (nI p0))]) hx hb dX5_choose_5 rfl hl (by decide) rfl (fun ls hl => ?_)
  refine lv_sipush (v := (-9005)) hx hb dX5_choose_6 (by decide) ?_
  refine lv_istore (lv' := [(4, .int (-9005)), (3, .int (nI ((2 * c0) + p0))), (0, .ref X), (1, .int (nI c0)), (2, .int (nI p0))]) hx hb dX5_choose_9 hl (by decide) rfl (fun ls hl => ?_)
  refine lv_iconst (v := 0) hx hb dX5_choose_11 (by decide) ?_
  refine lv_istore (lv' := [(5, .int 0), (4, .int (-9005)), (3, .int (nI ((2 * c0) + p0))), (0, .ref X), (1, .int (nI c0)), (2, .int (nI p0))]) hx hb dX5_choose_12 hl (by decide) rfl (fun ls hl => ?_)
  refine W.loopW (σ := Nat × Int32 × (Nat → Nat → Int64) × Heap × List Loc × wM × Array Slot) (fun ⟨q, b, G1, H, locs, M, ls⟩ => F0 m 14 ls []) (fun ⟨q, b, G1, H, locs, M, ls⟩ => H) (fun ⟨q, b, G1, H, locs, M, ls⟩ => locs) (fun ⟨q, b, G1, H, locs, M, ls⟩ => (q ≤ nq F (2 * c0 + p0)) ∧ (b = chB F nm nw nc (2 * c0 + p0) q) ∧ (RS cs M X ad v F G1) ∧ wd D A M s.heap H locs ∧ lv_has ls 7 [(5, .int (nI q)), (4, .int b), (3, .int (nI (2 * c0 + p0))), (0, .ref X), (1, .int (nI c0)), (2, .int (nI p0))]) (fun ⟨q, b, G1, H, locs, M, ls⟩ => nq F (2 * c0 + p0) - q) ?_ (0, (-9005), G, _, _, _, _) ⟨by omega, rfl, hS, hW, lv_sub hl [0, 1, 2, 3, 4, 5] rfl⟩ rfl rfl rfl
  intro ⟨q, b, G1, H, locs, M, ls⟩ ⟨hq, hbe, hS, hW, hl⟩ ih_14
  show W _ _ _ _ _ _ _ _ _ _ H locs _ _ _ (F0 m 14 ls [])
  have hl : lv_has ls 7 [(5, .int (nI q)), (4, .int b), (3, .int (nI (2 * c0 + p0))), (0, .ref X), (1, .int (nI c0)), (2, .int (nI p0))] := hl
  have hqn := nq_le F (2 * c0 + p0)
  refine lv_iload hx hb dX5_choose_14 (lv_at hl 0 rfl) ?_
  refine lv_aload_n hx hb dX5_choose_16 rfl (lv_at hl 3 rfl) ?_
  refine lv_iload_n hx hb dX5_choose_17 rfl (lv_at hl 2 rfl) ?_
  refine ro_goI (ro_V (As := [.int (nI (2 * c0 + p0))]) (rest := [.int (nI q)]) C hW.rd st_X5_212 (c_X5_candidates l D cs _ X ad v F G1 hS (2 * c0 + p0) (by omega)) hS.1 rfl rfl ⟨rfl, rfl, Nat.le_of_ble_eq_true rfl, Nat.le_of_ble_eq_true rfl⟩ rfl hl.1 rfl (Nat.le_of_ble_eq_true rfl) dX5_choose_18 ⟨Nat.le_of_ble_eq_true rfl, Nat.le_of_ble_eq_true rfl⟩) (fun r_18 h_18 => ?_)
  refine top_eq (y := nI (nq F (2 * c0 + p0))) (Eq.trans h_18 (nq_eq _ _)) ?_
  have hq_r_18 := nq_le F (2 * c0 + p0)
  refine lv_icmp_ge (tgt := 87) hx hb dX5_choose_21 (by decide) (fun c_21 => ?_) (fun c_21 => ?_)
  · have c_21 := cle_t (a := (nq F (2 * c0 + p0))) (b := q) c_21 (by omega) (by omega)
    refine lv_aload_n hx hb dX5_choose_87 rfl (lv_at hl 3 rfl) ?_
    refine gf_X5_89 C hW.rd hS.1 rfl dX5_choose_88 ?_
    refine lv_iload_n hx hb dX5_choose_91 rfl (lv_at hl 2 rfl) ?_
    refine W.cut (fun z => z = bI (b = -9005)) (fun z => F0 m 105 ls (.int z :: [.int (nI (2 * c0 + p0)), .ref (ad 31)])) (fun z_105 hz_105 => ?_) (fun J_105 => ?_)
    · refine w_iastN (k := (2 * c0 + p0)) C hW (RS.i hS 31 80 rfl rfl) (by omega) (by decide) rfl dX5_choose_105 (fun H locs hW => ?_)
      obtain ⟨M, F_1, eF_1, hS, hW⟩ : ∃ (M : wM) (w0 : Nat → Nat → Int32), w0 = sF F 31 (2 * c0 + p0) z_105 ∧ RS cs M X ad v w0 G1 ∧ wd D A M s.heap H locs := ⟨_, _, rfl, RS.setI hS 31 rfl (2 * c0 + p0) z_105, hW⟩
      refine lv_aload_n hx hb dX5_choose_106 rfl (lv_at hl 3 rfl) ?_
      refine gf_X5_86 C hW.rd hS.1 rfl dX5_choose_107 ?_
      refine lv_iload_n hx hb dX5_choose_110 rfl (lv_at hl 2 rfl) ?_
      refine W.cut (fun z => z = if b = -9005 then nI (nq F_1 (2 * c0 + p0)) - 1 else b) (fun z => F0 m 131 ls (.int z :: [.int (nI (2 * c0 + p0)), .ref (ad 30)])) (fun z_131 hz_131 => ?_) (fun J_131 => ?_)
      · refine w_iastN (k := (2 * c0 + p0)) C hW (RS.i hS 30 80 rfl rfl) (by omega) (by decide) rfl dX5_choose_131 (fun H locs hW => ?_)
        obtain ⟨M, F_2, eF_2, hS, hW⟩ : ∃ (M : wM) (w0 : Nat → Nat → Int32), w0 = sF F_1 30 (2 * c0 + p0) z_131 ∧ RS cs M X ad v w0 G1 ∧ wd D A M s.heap H locs := ⟨_, _, rfl, RS.setI hS 30 rfl (2 * c0 + p0) z_131, hW⟩
        exact wr_vret C hW hr hlk (⟨_, _, hS, by have e := Nat.le_antisymm hq c_21; subst eF_2 eF_1; subst e; subst hbe; subst hz_105; subst hz_131; rfl⟩) dX5_choose_132
      · refine lv_iload hx hb dX5_choose_111 (lv_at hl 1 rfl) ?_
        refine lv_sipush (v := (-9005)) hx hb dX5_choose_113 (by decide) ?_
        refine lv_icmp_ne (tgt := 129) hx hb dX5_choose_116 (by decide) (fun c_116 => ?_) (fun c_116 => ?_)
        · refine lv_iload hx hb dX5_choose_129 (lv_at hl 1 rfl) ?_
          exact J_131 _ (by simp [c_116])
        · refine lv_aload_n hx hb dX5_choose_119 rfl (lv_at hl 3 rfl) ?_
          refine lv_iload_n hx hb dX5_choose_120 rfl (lv_at hl 2 rfl) ?_
          refine ro_goI (ro_V (As := [.int (nI (2 * c0 + p0))]) (rest := [.int (nI (2 * c0 + p0)), .ref (ad 30)]) C hW.rd st_X5_212 (c_X5_candidates l D cs _ X ad v F_1 G1 hS (2 * c0 + p0) (by omega)) hS.1 rfl rfl ⟨rfl, rfl, Nat.le_of_ble_eq_true rfl, Nat.le_of_ble_eq_true rfl⟩ rfl hl.1 rfl (Nat.le_of_ble_eq_true rfl) dX5_choose_121 ⟨Nat.le_of_ble_eq_true rfl, Nat.le_of_ble_eq_true rfl⟩) (fun r_121 h_121 => ?_)
          refine top_eq (y := nI (nq F_1 (2 * c0 + p0))) (Eq.trans h_121 (nq_eq _ _)) ?_
          have hq_r_121 := nq_le F_1 (2 * c0 + p0)
          refine lv_iconst (v := 1) hx hb dX5_choose_124 (by decide) ?_
          refine lv_isub hx hb dX5_choose_125 ?_
          refine lv_goto (tgt := 131) hx hb dX5_choose_126 (by decide) ?_
          exact J_131 _ (by simp [c_116])
    · refine lv_iload hx hb dX5_choose_92 (lv_at hl 1 rfl) ?_
      refine lv_sipush (v := (-9005)) hx hb dX5_choose_94 (by decide) ?_
      refine lv_icmp_ne (tgt := 104) hx hb dX5_choose_97 (by decide) (fun c_97 => ?_) (fun c_97 => ?_)
      · refine lv_iconst (v := 0) hx hb dX5_choose_104 (by decide) ?_
        exact J_105 _ (bI_f (by simp [c_97]))
      · refine lv_iconst (v := 1) hx hb dX5_choose_100 (by decide) ?_
        refine lv_goto (tgt := 105) hx hb dX5_choose_101 (by decide) ?_
        exact J_105 _ (bI_t (by simp [c_97]))
  · have c_21 := cle_f (a := (nq F (2 * c0 + p0))) (b := q) c_21 (by omega) (by omega)
    refine W.cut (fun z => z = bI (b = -9005 ∨ ¬ rBad b ≤ rBad (nI q))) (fun z => F0 m 50 ls (.int z :: [])) (fun z_50 hz_50 => ?_) (fun J_50 => ?_)
    · refine lv_istore (lv' := [(6, .int z_50), (5, .int (nI q)), (4, .int b), (3, .int (nI (2 * c0 + p0))), (0, .ref X), (1, .int (nI c0)), (2, .int (nI p0))]) hx hb dX5_choose_50 hl (by decide) rfl (fun ls hl => ?_)
      refine lv_iload hx hb dX5_choose_52 (lv_at hl 0 rfl) ?_
      refine lv_if_eq (tgt := 81) hx hb dX5_choose_54 (by decide) (fun c_54 => ?_) (fun c_54 => ?_)
      · have c_54 : ¬ (b = -9005 ∨ ¬ rBad b ≤ rBad (nI q)) := bz0 hz_50 c_54
        refine lv_iinc (v := nI (q + 1)) (lv' := [(5, .int (nI (q + 1))), (6, .int z_50), (4, .int b), (3, .int (nI (2 * c0 + p0))), (0, .ref X), (1, .int (nI c0)), (2, .int (nI p0))]) hx hb dX5_choose_81 hl (k := 1) rfl (by exact tn_add rfl rfl) (by decide) rfl (fun ls hl => ?_)
        refine lv_goto (tgt := 14) hx hb dX5_choose_84 (by decide) ?_
        exact ih_14 ((q + 1), b, G1, _, _, _, _) ⟨by omega, by rw [chB, ← hbe, if_neg (fun h => c_54 h.1)], hS, hW, lv_sub hl [0, 2, 3, 4, 5, 6] rfl⟩ (by show nq F (2 * c0 + p0) - (q + 1) < nq F (2 * c0 + p0) - q; omega)
      · have c_54 : b = -9005 ∨ ¬ rBad b ≤ rBad (nI q) := bz1 hz_50 c_54
        refine lv_aload_n hx hb dX5_choose_57 rfl (lv_at hl 4 rfl) ?_
        refine lv_iload_n hx hb dX5_choose_58 rfl (lv_at hl 3 rfl) ?_
        refine lv_iload hx hb dX5_choose_59 (lv_at hl 1 rfl) ?_
        refine wr_goI hW (wr_V (As := [.int (nI (2 * c0 + p0)), .int (nI q)]) (rest := []) C hW st_X5_218 (c_X5_bars l D cs A _ X ad v F G1 hS nm nw hnm (by omega) hnw (by omega) (2 * c0 + p0) (by omega) (nI q)) hS.1 rfl rfl ⟨rfl, rfl, Nat.le_of_ble_eq_true rfl, Nat.le_of_ble_eq_true rfl⟩ rfl hl.1 rfl (Nat.le_of_ble_eq_true rfl) dX5_choose_61 ⟨Nat.le_of_ble_eq_true rfl, Nat.le_of_ble_eq_true rfl⟩) (fun r_61 M_61 H locs h_61 hW => ?_)
        obtain ⟨G_3, hS, er_61⟩ := h_61
        refine top_eq (y := nI (rBars F nm nw (2 * c0 + p0) (nI q))) er_61 ?_
        have hB_r_61 := rBars_le F nm nw (2 * c0 + p0) (nI q)
        refine lv_if_ne (tgt := 81) hx hb dX5_choose_64 (by decide) (fun c_64 => ?_) (fun c_64 => ?_)
        · have c_64 := ceq_f (a := (rBars F nm nw (2 * c0 + p0) (nI q))) (b := 0) c_64 (by omega) (by omega)
          refine lv_iinc (v := nI (q + 1)) (lv' := [(5, .int (nI (q + 1))), (6, .int z_50), (4, .int b), (3, .int (nI (2 * c0 + p0))), (0, .ref X), (1, .int (nI c0)), (2, .int (nI p0))]) hx hb dX5_choose_81 hl (k := 1) rfl (by exact tn_add rfl rfl) (by decide) rfl (fun ls hl => ?_)
          refine lv_goto (tgt := 14) hx hb dX5_choose_84 (by decide) ?_
          exact ih_14 ((q + 1), b, G_3, _, _, _, _) ⟨by omega, by rw [chB, ← hbe, if_neg (fun h => c_64 h.2.1)], hS, hW, lv_sub hl [0, 2, 3, 4, 5, 6] rfl⟩ (by show nq F (2 * c0 + p0) - (q + 1) < nq F (2 * c0 + p0) - q; omega)
        · have c_64 := ceq_t (a := (rBars F nm nw (2 * c0 + p0) (nI q))) (b := 0) c_64 (by omega) (by omega)
          refine lv_aload_n hx hb dX5_choose_67 rfl (lv_at hl 4 rfl) ?_
          refine lv_iload_n hx hb dX5_choose_68 rfl (lv_at hl 3 rfl) ?_
          refine lv_iload hx hb dX5_choose_69 (lv_at hl 1 rfl) ?_
          refine wr_goI hW (wr_V (As := [.int (nI (2 * c0 + p0)), .int (nI q)]) (rest := []) C hW st_X5_221 (c_X5_hulls l D cs A _ X ad v F G_3 hS nc hnc (by omega) (2 * c0 + p0) (by omega) (nI q)) hS.1 rfl rfl ⟨rfl, rfl, Nat.le_of_ble_eq_true rfl, Nat.le_of_ble_eq_true rfl⟩ rfl hl.1 rfl (Nat.le_of_ble_eq_true rfl) dX5_choose_71 ⟨Nat.le_of_ble_eq_true rfl, Nat.le_of_ble_eq_true rfl⟩) (fun r_71 M_71 H locs h_71 hW => ?_)
          obtain ⟨G_4, hS, er_71⟩ := h_71
          refine top_eq (y := nI (rHulls F nc (2 * c0 + p0) (nI q))) er_71 ?_
          have hH_r_71 := rHulls_le F nc (2 * c0 + p0) (nI q)
          refine lv_if_ne (tgt := 81) hx hb dX5_choose_74 (by decide) (fun c_74 => ?_) (fun c_74 => ?_)
          · have c_74 := ceq_f (a := (rHulls F nc (2 * c0 + p0) (nI q))) (b := 0) c_74 (by omega) (by omega)
            refine lv_iinc (v := nI (q + 1)) (lv' := [(5, .int (nI (q + 1))), (6, .int z_50), (4, .int b), (3, .int (nI (2 * c0 + p0))), (0, .ref X), (1, .int (nI c0)), (2, .int (nI p0))]) hx hb dX5_choose_81 hl (k := 1) rfl (by exact tn_add rfl rfl) (by decide) rfl (fun ls hl => ?_)
            refine lv_goto (tgt := 14) hx hb dX5_choose_84 (by decide) ?_
            exact ih_14 ((q + 1), b, G_4, _, _, _, _) ⟨by omega, by rw [chB, ← hbe, if_neg (fun h => c_74 h.2.2)], hS, hW, lv_sub hl [0, 2, 3, 4, 5, 6] rfl⟩ (by show nq F (2 * c0 + p0) - (q + 1) < nq F (2 * c0 + p0) - q; omega)
          · have c_74 := ceq_t (a := (rHulls F nc (2 * c0 + p0) (nI q))) (b := 0) c_74 (by omega) (by omega)
            refine lv_iload hx hb dX5_choose_77 (lv_at hl 1 rfl) ?_
            refine lv_istore (lv' := [(4, .int (nI q)), (6, .int z_50), (5, .int (nI q)), (3, .int (nI (2 * c0 + p0))), (0, .ref X), (1, .int (nI c0)), (2, .int (nI p0))]) hx hb dX5_choose_79 hl (by decide) rfl (fun ls hl => ?_)
            refine lv_iinc (v := nI (q + 1)) (lv' := [(5, .int (nI (q + 1))), (4, .int (nI q)), (6, .int z_50), (3, .int (nI (2 * c0 + p0))), (0, .ref X), (1, .int (nI c0)), (2, .int (nI p0))]) hx hb dX5_choose_81 hl (k := 2) rfl (by exact tn_add rfl rfl) (by decide) rfl (fun ls hl => ?_)
            refine lv_goto (tgt := 14) hx hb dX5_choose_84 (by decide) ?_
            exact ih_14 ((q + 1), nI q, G_4, _, _, _, _) ⟨by omega, by rw [chB, ← hbe, if_pos ⟨c_54, c_64, c_74⟩], hS, hW, lv_sub hl [0, 1, 3, 4, 5, 6] rfl⟩ (by show nq F (2 * c0 + p0) - (q + 1) < nq F (2 * c0 + p0) - q; omega)
    · refine lv_iload hx hb dX5_choose_24 (lv_at hl 1 rfl) ?_
      refine lv_sipush (v := (-9005)) hx hb dX5_choose_26 (by decide) ?_
      refine lv_icmp_eq (tgt := 45) hx hb dX5_choose_29 (by decide) (fun c_29 => ?_) (fun c_29 => ?_)
      · refine lv_iconst (v := 1) hx hb dX5_choose_45 (by decide) ?_
        refine lv_goto (tgt := 50) hx hb dX5_choose_46 (by decide) ?_
        exact J_50 _ (bI_t (Or.inl c_29))
      · refine lv_iload hx hb dX5_choose_32 (lv_at hl 0 rfl) ?_
        refine ro_goI (ro_S (As := [.int (nI q)]) (rest := []) C hW.rd st_X5_215 (c_X5_badnessOf l D cs _ (nI q)) ⟨rfl, rfl, Nat.le_of_ble_eq_true rfl, Nat.le_of_ble_eq_true rfl⟩ rfl hl.1 rfl (Nat.le_of_ble_eq_true rfl) dX5_choose_34 ⟨Nat.le_of_ble_eq_true rfl, Nat.le_of_ble_eq_true rfl⟩) (fun r_34 h_34 => ?_)
        refine lv_iload hx hb dX5_choose_37 (lv_at hl 1 rfl) ?_
        refine ro_goI (ro_S (As := [.int b]) (rest := [.int r_34]) C hW.rd st_X5_215 (c_X5_badnessOf l D cs _ b) ⟨rfl, rfl, Nat.le_of_ble_eq_true rfl, Nat.le_of_ble_eq_true rfl⟩ rfl hl.1 rfl (Nat.le_of_ble_eq_true rfl) dX5_choose_39 ⟨Nat.le_of_ble_eq_true rfl, Nat.le_of_ble_eq_true rfl⟩) (fun r_39 h_39 => ?_)
        refine lv_icmp_ge (tgt := 49) hx hb dX5_choose_42 (by decide) (fun c_42 => ?_) (fun c_42 => ?_)
        · refine lv_iconst (v := 0) hx hb dX5_choose_49 (by decide) ?_
          exact J_50 _ (bI_f (by rw [h_34, h_39] at c_42; exact fun h => h.elim c_29 (fun h => h c_42)))
        · refine lv_iconst (v := 1) hx hb dX5_choose_45 (by decide) ?_
          refine lv_goto (tgt := 50) hx hb dX5_choose_46 (by decide) ?_
          exact J_50 _ (bI_t (by rw [h_34, h_39] at c_42; exact Or.inr c_42))

def tA (F : Nat → Nat → Int32) (a : Nat) : Nat → Int32
  | 0 => 0
  | n + 1 => if F 3 n = F 3 a ∧ F 4 n = F 4 a then tA F a n + (if F 5 n ≤ F 5 a then 0 else 1) else tA F a n
def tB (F : Nat → Nat → Int32) (a : Nat) : Nat → Int32
  | 0 => 0
  | n + 1 => if F 3 n = F 3 a ∧ F 4 n = F 4 a then tB F a n + (if F 5 a ≤ F 5 n then 0 else 1) else tB F a n
def rTie (F : Nat → Nat → Int32) (nn a : Nat) : Int32 := if tB F a nn ≤ tA F a nn then (if tA F a nn ≤ tB F a nn then (if F 6 a = 0 then 1 else -1) else -1) else 1
def sD (F : Nat → Nat → Int32) (a b : Nat) : Nat → Bool
  | 0 => false
  | n + 1 => sD F a b n || (decide (n = a ∨ n = b ∨ (rBefore F a n = true ∧ rBefore F n b = true)) && decide (F 6 n = 0))
theorem sD_s {F : Nat → Nat → Int32} {a b n : Nat} : sD F a b (n + 1) = true ↔ (sD F a b n = true ∨ ((n = a ∨ n = b ∨ (rBefore F a n = true ∧ rBefore F n b = true)) ∧ F 6 n = 0)) := by
  rw [sD, Bool.or_eq_true, Bool.and_eq_true, decide_eq_true_eq, decide_eq_true_eq]
def rSlur (F : Nat → Nat → Int32) (nn a b : Nat) : Int32 := if sD F a b nn = true then 1 else -1
def rMay (F : Nat → Nat → Int32) (a b la : Nat) : Bool := decide (rBefore F a b = true ∧ F 3 b - F 3 a ≤ 1 ∧ (if F 3 a = F 3 b then ¬ F 4 b - F 4 a < 12 else (¬ F 1 la - F 4 a < 12 ∧ ¬ F 4 b < 12)))
set_option maxHeartbeats 4000000 in
set_option maxRecDepth 100000 in
theorem c_X5_sideOfTie (l : Launch) (D : va_G) (cs : Nat → ClassId) (M : wM) (X : Nat) (ad : Nat → Nat) (v : Nat → Int32) (F : Nat → Nat → Int32) (G : Nat → Nat → Int64) (hS : RS cs M X ad v F G) (nn : Nat) (hnn : v 2 = nI nn) (hn60 : nn ≤ 60) (a : Nat) (ha : a < 60) : Met l yX5_sideOfTie (mw yX5_sideOfTie cX5_sideOfTie 5 (some .int)) { frames := 0, cells := 0, slots := 0, locals := 0 } (roP D cs M [.ref X, .int (nI a)]) (vp_Si (fun r => r = rTie F nn a)) 0 0 noA := by
  refine ro_met rfl (Nat.le_of_ble_eq_true rfl) ?_
  intro p e s m below meth c ls C hR hr hlk hl
  have C : kx D cs p m c cX5_sideOfTie 5 s _ RX5 := C
  have hx := C.1.1
  have hb := C.1.2.1
  have hl : lv_has ls 5 [(0, .ref X), (1, .int (nI a))] := hl
  refine lv_iconst (v := 0) hx hb dX5_sideOfTie_0 (by decide) ?_
  refine lv_istore_n (lv' := [(2, .int 0), (0, .ref X), (1, .int (nI a))]) hx hb dX5_sideOfTie_1 rfl hl (by decide) rfl (fun ls hl => ?_)
  refine lv_iconst (v := 0) hx hb dX5_sideOfTie_2 (by decide) ?_
  refine lv_istore_n (lv' := [(3, .int 0), (2, .int 0), (0, .ref X), (1, .int (nI a))]) hx hb dX5_sideOfTie_3 rfl hl (by decide) rfl (fun ls hl => ?_)
  refine lv_iconst (v := 0) hx hb dX5_sideOfTie_4 (by decide) ?_
  refine lv_istore (lv' := [(4, .int 0), (3, .int 0), (2, .int 0), (0, .ref X), (1, .int (nI a))]) hx hb dX5_sideOfTie_5 hl (by decide) rfl (fun ls hl => ?_)
  refine W.loop (σ := Nat × Int32 × Int32 × Array Slot) (fun ⟨n, x, y, ls⟩ => F0 m 7 ls []) (fun ⟨n, x, y, ls⟩ => (n ≤ nn) ∧ (x = tA F a n) ∧ (y = tB F a n) ∧ lv_has ls 5 [(4, .int (nI n)), (3, .int y), (2, .int x), (0, .ref X), (1, .int (nI a))]) (fun ⟨n, x, y, ls⟩ => nn - n) ?_ (0, 0, 0, _) ⟨by omega, rfl, rfl, lv_sub hl [0, 1, 2, 3, 4] rfl⟩ rfl
  intro ⟨n, x, y, ls⟩ ⟨hn, ex, ey, hl⟩ ih_7
  show W _ _ _ _ _ _ _ _ _ _ _ _ _ _ _ (F0 m 7 ls [])
  have hl : lv_has ls 5 [(4, .int (nI n)), (3, .int y), (2, .int x), (0, .ref X), (1, .int (nI a))] := hl
  refine lv_iload hx hb dX5_sideOfTie_7 (lv_at hl 0 rfl) ?_
  refine lv_aload_n hx hb dX5_sideOfTie_9 rfl (lv_at hl 3 rfl) ?_
  refine gf_X5_113 C hR hS.1 rfl dX5_sideOfTie_10 ?_
  refine top_eq (y := nI nn) hnn ?_
  refine lv_icmp_ge (tgt := 102) hx hb dX5_sideOfTie_13 (by decide) (fun c_13 => ?_) (fun c_13 => ?_)
  · have c_13 := cle_t (a := nn) (b := n) c_13 (by omega) (by omega)
    refine lv_iload_n hx hb dX5_sideOfTie_102 rfl (lv_at hl 2 rfl) ?_
    refine lv_iload_n hx hb dX5_sideOfTie_103 rfl (lv_at hl 1 rfl) ?_
    refine lv_icmp_ge (tgt := 111) hx hb dX5_sideOfTie_104 (by decide) (fun c_104 => ?_) (fun c_104 => ?_)
    · refine lv_iload_n hx hb dX5_sideOfTie_111 rfl (lv_at hl 2 rfl) ?_
      refine lv_iload_n hx hb dX5_sideOfTie_112 rfl (lv_at hl 1 rfl) ?_
      refine lv_icmp_le (tgt := 120) hx hb dX5_sideOfTie_113 (by decide) (fun c_113 => ?_) (fun c_113 => ?_)
      · refine lv_aload_n hx hb dX5_sideOfTie_120 rfl (lv_at hl 3 rfl) ?_
        refine gf_X5_22 C hR hS.1 rfl dX5_sideOfTie_121 ?_
        refine lv_iload_n hx hb dX5_sideOfTie_124 rfl (lv_at hl 4 rfl) ?_
        refine r_zaldN (k := a) C hR (RS.z hS 6 60 rfl rfl) (by omega) (by decide) rfl dX5_sideOfTie_125 ?_
        refine lv_if_eq (tgt := 133) hx hb dX5_sideOfTie_126 (by decide) (fun c_126 => ?_) (fun c_126 => ?_)
        · refine lv_iconst (v := 1) hx hb dX5_sideOfTie_133 (by decide) ?_
          exact ro_iret C hr hlk (by have e : n = nn := (by omega); subst e; subst ex; subst ey; simp [rTie, c_104, c_113, c_126]) dX5_sideOfTie_134
        · refine lv_iconst (v := (-1)) hx hb dX5_sideOfTie_129 (by decide) ?_
          refine lv_goto (tgt := 134) hx hb dX5_sideOfTie_130 (by decide) ?_
          exact ro_iret C hr hlk (by have e : n = nn := (by omega); subst e; subst ex; subst ey; simp [rTie, c_104, c_113, c_126]) dX5_sideOfTie_134
      · refine lv_iconst (v := (-1)) hx hb dX5_sideOfTie_116 (by decide) ?_
        refine lv_goto (tgt := 134) hx hb dX5_sideOfTie_117 (by decide) ?_
        exact ro_iret C hr hlk (by have e : n = nn := (by omega); subst e; subst ex; subst ey; simp [rTie, c_104, c_113]) dX5_sideOfTie_134
    · refine lv_iconst (v := 1) hx hb dX5_sideOfTie_107 (by decide) ?_
      refine lv_goto (tgt := 134) hx hb dX5_sideOfTie_108 (by decide) ?_
      exact ro_iret C hr hlk (by have e : n = nn := (by omega); subst e; subst ex; subst ey; simp [rTie, c_104]) dX5_sideOfTie_134
  · have c_13 := cle_f (a := nn) (b := n) c_13 (by omega) (by omega)
    refine lv_aload_n hx hb dX5_sideOfTie_16 rfl (lv_at hl 3 rfl) ?_
    refine gf_X5_13 C hR hS.1 rfl dX5_sideOfTie_17 ?_
    refine lv_iload hx hb dX5_sideOfTie_20 (lv_at hl 0 rfl) ?_
    refine r_ialdN (k := n) C hR (RS.i hS 3 60 rfl rfl) (by omega) (by decide) rfl dX5_sideOfTie_22 ?_
    refine lv_aload_n hx hb dX5_sideOfTie_23 rfl (lv_at hl 3 rfl) ?_
    refine gf_X5_13 C hR hS.1 rfl dX5_sideOfTie_24 ?_
    refine lv_iload_n hx hb dX5_sideOfTie_27 rfl (lv_at hl 4 rfl) ?_
    refine r_ialdN (k := a) C hR (RS.i hS 3 60 rfl rfl) (by omega) (by decide) rfl dX5_sideOfTie_28 ?_
    refine lv_icmp_ne (tgt := 96) hx hb dX5_sideOfTie_29 (by decide) (fun c_29 => ?_) (fun c_29 => ?_)
    · refine lv_iinc (v := nI (n + 1)) (lv' := [(4, .int (nI (n + 1))), (3, .int y), (2, .int x), (0, .ref X), (1, .int (nI a))]) hx hb dX5_sideOfTie_96 hl (k := 0) rfl (by exact tn_add rfl rfl) (by decide) rfl (fun ls hl => ?_)
      refine lv_goto (tgt := 7) hx hb dX5_sideOfTie_99 (by decide) ?_
      exact ih_7 ((n + 1), x, y, _) ⟨by omega, by rw [tA, if_neg (fun h => c_29 h.1), ← ex], by rw [tB, if_neg (fun h => c_29 h.1), ← ey], lv_sub hl [0, 1, 2, 3, 4] rfl⟩ (by show nn - (n + 1) < nn - n; omega)
    · refine lv_aload_n hx hb dX5_sideOfTie_32 rfl (lv_at hl 3 rfl) ?_
      refine gf_X5_16 C hR hS.1 rfl dX5_sideOfTie_33 ?_
      refine lv_iload hx hb dX5_sideOfTie_36 (lv_at hl 0 rfl) ?_
      refine r_ialdN (k := n) C hR (RS.i hS 4 60 rfl rfl) (by omega) (by decide) rfl dX5_sideOfTie_38 ?_
      refine lv_aload_n hx hb dX5_sideOfTie_39 rfl (lv_at hl 3 rfl) ?_
      refine gf_X5_16 C hR hS.1 rfl dX5_sideOfTie_40 ?_
      refine lv_iload_n hx hb dX5_sideOfTie_43 rfl (lv_at hl 4 rfl) ?_
      refine r_ialdN (k := a) C hR (RS.i hS 4 60 rfl rfl) (by omega) (by decide) rfl dX5_sideOfTie_44 ?_
      refine lv_icmp_ne (tgt := 96) hx hb dX5_sideOfTie_45 (by decide) (fun c_45 => ?_) (fun c_45 => ?_)
      · refine lv_iinc (v := nI (n + 1)) (lv' := [(4, .int (nI (n + 1))), (3, .int y), (2, .int x), (0, .ref X), (1, .int (nI a))]) hx hb dX5_sideOfTie_96 hl (k := 0) rfl (by exact tn_add rfl rfl) (by decide) rfl (fun ls hl => ?_)
        refine lv_goto (tgt := 7) hx hb dX5_sideOfTie_99 (by decide) ?_
        exact ih_7 ((n + 1), x, y, _) ⟨by omega, by rw [tA, if_neg (fun h => c_45 h.2), ← ex], by rw [tB, if_neg (fun h => c_45 h.2), ← ey], lv_sub hl [0, 1, 2, 3, 4] rfl⟩ (by show nn - (n + 1) < nn - n; omega)
      · refine lv_iload_n hx hb dX5_sideOfTie_48 rfl (lv_at hl 2 rfl) ?_
        refine W.cut (fun z => z = if F 5 n ≤ F 5 a then 0 else 1) (fun z => F0 m 70 ls (.int z :: [.int x])) (fun z_70 hz_70 => ?_) (fun J_70 => ?_)
        · refine lv_iadd hx hb dX5_sideOfTie_70 ?_
          refine lv_istore_n (lv' := [(2, .int (x + z_70)), (4, .int (nI n)), (3, .int y), (0, .ref X), (1, .int (nI a))]) hx hb dX5_sideOfTie_71 rfl hl (by decide) rfl (fun ls hl => ?_)
          refine lv_iload_n hx hb dX5_sideOfTie_72 rfl (lv_at hl 2 rfl) ?_
          refine W.cut (fun z => z = if F 5 a ≤ F 5 n then 0 else 1) (fun z => F0 m 94 ls (.int z :: [.int y])) (fun z_94 hz_94 => ?_) (fun J_94 => ?_)
          · refine lv_iadd hx hb dX5_sideOfTie_94 ?_
            refine lv_istore_n (lv' := [(3, .int (y + z_94)), (2, .int (x + z_70)), (4, .int (nI n)), (0, .ref X), (1, .int (nI a))]) hx hb dX5_sideOfTie_95 rfl hl (by decide) rfl (fun ls hl => ?_)
            refine lv_iinc (v := nI (n + 1)) (lv' := [(4, .int (nI (n + 1))), (3, .int (y + z_94)), (2, .int (x + z_70)), (0, .ref X), (1, .int (nI a))]) hx hb dX5_sideOfTie_96 hl (k := 2) rfl (by exact tn_add rfl rfl) (by decide) rfl (fun ls hl => ?_)
            refine lv_goto (tgt := 7) hx hb dX5_sideOfTie_99 (by decide) ?_
            exact ih_7 ((n + 1), x + z_70, y + z_94, _) ⟨by omega, by rw [tA, if_pos ⟨c_29, c_45⟩, ← ex, ← hz_70], by rw [tB, if_pos ⟨c_29, c_45⟩, ← ey, ← hz_94], lv_sub hl [0, 1, 2, 3, 4] rfl⟩ (by show nn - (n + 1) < nn - n; omega)
          · refine lv_aload_n hx hb dX5_sideOfTie_73 rfl (lv_at hl 3 rfl) ?_
            refine gf_X5_19 C hR hS.1 rfl dX5_sideOfTie_74 ?_
            refine lv_iload hx hb dX5_sideOfTie_77 (lv_at hl 1 rfl) ?_
            refine r_ialdN (k := n) C hR (RS.i hS 5 60 rfl rfl) (by omega) (by decide) rfl dX5_sideOfTie_79 ?_
            refine lv_aload_n hx hb dX5_sideOfTie_80 rfl (lv_at hl 3 rfl) ?_
            refine gf_X5_19 C hR hS.1 rfl dX5_sideOfTie_81 ?_
            refine lv_iload_n hx hb dX5_sideOfTie_84 rfl (lv_at hl 4 rfl) ?_
            refine r_ialdN (k := a) C hR (RS.i hS 5 60 rfl rfl) (by omega) (by decide) rfl dX5_sideOfTie_85 ?_
            refine lv_icmp_ge (tgt := 93) hx hb dX5_sideOfTie_86 (by decide) (fun c_86 => ?_) (fun c_86 => ?_)
            · refine lv_iconst (v := 0) hx hb dX5_sideOfTie_93 (by decide) ?_
              exact J_94 _ (by simp [c_86])
            · refine lv_iconst (v := 1) hx hb dX5_sideOfTie_89 (by decide) ?_
              refine lv_goto (tgt := 94) hx hb dX5_sideOfTie_90 (by decide) ?_
              exact J_94 _ (by simp [c_86])
        · refine lv_aload_n hx hb dX5_sideOfTie_49 rfl (lv_at hl 3 rfl) ?_
          refine gf_X5_19 C hR hS.1 rfl dX5_sideOfTie_50 ?_
          refine lv_iload hx hb dX5_sideOfTie_53 (lv_at hl 0 rfl) ?_
          refine r_ialdN (k := n) C hR (RS.i hS 5 60 rfl rfl) (by omega) (by decide) rfl dX5_sideOfTie_55 ?_
          refine lv_aload_n hx hb dX5_sideOfTie_56 rfl (lv_at hl 3 rfl) ?_
          refine gf_X5_19 C hR hS.1 rfl dX5_sideOfTie_57 ?_
          refine lv_iload_n hx hb dX5_sideOfTie_60 rfl (lv_at hl 4 rfl) ?_
          refine r_ialdN (k := a) C hR (RS.i hS 5 60 rfl rfl) (by omega) (by decide) rfl dX5_sideOfTie_61 ?_
          refine lv_icmp_le (tgt := 69) hx hb dX5_sideOfTie_62 (by decide) (fun c_62 => ?_) (fun c_62 => ?_)
          · refine lv_iconst (v := 0) hx hb dX5_sideOfTie_69 (by decide) ?_
            exact J_70 _ (by simp [c_62])
          · refine lv_iconst (v := 1) hx hb dX5_sideOfTie_65 (by decide) ?_
            refine lv_goto (tgt := 70) hx hb dX5_sideOfTie_66 (by decide) ?_
            exact J_70 _ (by simp [c_62])

set_option maxHeartbeats 4000000 in
set_option maxRecDepth 100000 in
theorem c_X5_sideOfSlur (l : Launch) (D : va_G) (cs : Nat → ClassId) (M : wM) (X : Nat) (ad : Nat → Nat) (v : Nat → Int32) (F : Nat → Nat → Int32) (G : Nat → Nat → Int64) (hS : RS cs M X ad v F G) (nn : Nat) (hnn : v 2 = nI nn) (hn60 : nn ≤ 60) (a b : Nat) (ha : a < 60) (hb0 : b < 60) : Met l yX5_sideOfSlur (mw yX5_sideOfSlur cX5_sideOfSlur 6 (some .int)) { frames := 1, cells := 0, slots := 0, locals := 22 } (roP D cs M [.ref X, .int (nI a), .int (nI b)]) (vp_Si (fun r => r = rSlur F nn a b)) 0 0 noA := by
  refine ro_met rfl (Nat.le_of_ble_eq_true rfl) ?_
  intro p e s m below meth c ls C hR hr hlk hl
  have C : kx D cs p m c cX5_sideOfSlur 6 s _ RX5 := C
  have hx := C.1.1
  have hb := C.1.2.1
  have hl : lv_has ls 6 [(0, .ref X), (1, .int (nI a)), (2, .int (nI b))] := hl
  refine lv_iconst (v := 0) hx hb dX5_sideOfSlur_0 (by decide) ?_
  refine lv_istore_n (lv' := [(3, .int 0), (0, .ref X), (1, .int (nI a)), (2, .int (nI b))]) hx hb dX5_sideOfSlur_1 rfl hl (by decide) rfl (fun ls hl => ?_)
  refine lv_iconst (v := 0) hx hb dX5_sideOfSlur_2 (by decide) ?_
  refine lv_istore (lv' := [(4, .int 0), (3, .int 0), (0, .ref X), (1, .int (nI a)), (2, .int (nI b))]) hx hb dX5_sideOfSlur_3 hl (by decide) rfl (fun ls hl => ?_)
  refine W.loop (σ := Nat × Int32 × Array Slot) (fun ⟨n, z, ls⟩ => F0 m 5 ls []) (fun ⟨n, z, ls⟩ => (n ≤ nn) ∧ (z = bI (sD F a b n = true)) ∧ lv_has ls 6 [(4, .int (nI n)), (3, .int z), (0, .ref X), (1, .int (nI a)), (2, .int (nI b))]) (fun ⟨n, z, ls⟩ => nn - n) ?_ (0, 0, _) ⟨by omega, bI_f (by simp [sD]), lv_sub hl [0, 1, 2, 3, 4] rfl⟩ rfl
  intro ⟨n, z, ls⟩ ⟨hn, hz, hl⟩ ih_5
  show W _ _ _ _ _ _ _ _ _ _ _ _ _ _ _ (F0 m 5 ls [])
  have hl : lv_has ls 6 [(4, .int (nI n)), (3, .int z), (0, .ref X), (1, .int (nI a)), (2, .int (nI b))] := hl
  refine lv_iload hx hb dX5_sideOfSlur_5 (lv_at hl 0 rfl) ?_
  refine lv_aload_n hx hb dX5_sideOfSlur_7 rfl (lv_at hl 2 rfl) ?_
  refine gf_X5_113 C hR hS.1 rfl dX5_sideOfSlur_8 ?_
  refine top_eq (y := nI nn) hnn ?_
  refine lv_icmp_ge (tgt := 84) hx hb dX5_sideOfSlur_11 (by decide) (fun c_11 => ?_) (fun c_11 => ?_)
  · have c_11 := cle_t (a := nn) (b := n) c_11 (by omega) (by omega)
    refine lv_iload_n hx hb dX5_sideOfSlur_84 rfl (lv_at hl 1 rfl) ?_
    refine lv_if_eq (tgt := 92) hx hb dX5_sideOfSlur_85 (by decide) (fun c_85 => ?_) (fun c_85 => ?_)
    · have c_85 : ¬ (sD F a b n = true) := bz0 hz c_85
      refine lv_iconst (v := (-1)) hx hb dX5_sideOfSlur_92 (by decide) ?_
      exact ro_iret C hr hlk (by have e : n = nn := (by omega); subst e; simp [rSlur, c_85]) dX5_sideOfSlur_93
    · have c_85 : sD F a b n = true := bz1 hz c_85
      refine lv_iconst (v := 1) hx hb dX5_sideOfSlur_88 (by decide) ?_
      refine lv_goto (tgt := 93) hx hb dX5_sideOfSlur_89 (by decide) ?_
      exact ro_iret C hr hlk (by have e : n = nn := (by omega); subst e; simp [rSlur, c_85]) dX5_sideOfSlur_93
  · have c_11 := cle_f (a := nn) (b := n) c_11 (by omega) (by omega)
    refine W.cut (fun z => z = bI (n = a ∨ n = b ∨ (rBefore F a n = true ∧ rBefore F n b = true))) (fun z => F0 m 51 ls (.int z :: [])) (fun z_51 hz_51 => ?_) (fun J_51 => ?_)
    · refine lv_istore (lv' := [(5, .int z_51), (4, .int (nI n)), (3, .int z), (0, .ref X), (1, .int (nI a)), (2, .int (nI b))]) hx hb dX5_sideOfSlur_51 hl (by decide) rfl (fun ls hl => ?_)
      refine W.cut (fun z => z = bI (sD F a b (n + 1) = true)) (fun z => F0 m 77 ls (.int z :: [])) (fun z_77 hz_77 => ?_) (fun J_77 => ?_)
      · refine lv_istore_n (lv' := [(3, .int z_77), (5, .int z_51), (4, .int (nI n)), (0, .ref X), (1, .int (nI a)), (2, .int (nI b))]) hx hb dX5_sideOfSlur_77 rfl hl (by decide) rfl (fun ls hl => ?_)
        refine lv_iinc (v := nI (n + 1)) (lv' := [(4, .int (nI (n + 1))), (3, .int z_77), (5, .int z_51), (0, .ref X), (1, .int (nI a)), (2, .int (nI b))]) hx hb dX5_sideOfSlur_78 hl (k := 2) rfl (by exact tn_add rfl rfl) (by decide) rfl (fun ls hl => ?_)
        refine lv_goto (tgt := 5) hx hb dX5_sideOfSlur_81 (by decide) ?_
        exact ih_5 ((n + 1), z_77, _) ⟨by omega, hz_77, lv_sub hl [0, 1, 3, 4, 5] rfl⟩ (by show nn - (n + 1) < nn - n; omega)
      · refine lv_iload_n hx hb dX5_sideOfSlur_53 rfl (lv_at hl 2 rfl) ?_
        refine lv_if_ne (tgt := 72) hx hb dX5_sideOfSlur_54 (by decide) (fun c_54 => ?_) (fun c_54 => ?_)
        · have c_54 : sD F a b n = true := bz1 hz c_54
          refine lv_iconst (v := 1) hx hb dX5_sideOfSlur_72 (by decide) ?_
          refine lv_goto (tgt := 77) hx hb dX5_sideOfSlur_73 (by decide) ?_
          exact J_77 _ (bI_t (sD_s.mpr (Or.inl c_54)))
        · have c_54 : ¬ (sD F a b n = true) := bz0 hz c_54
          refine lv_iload hx hb dX5_sideOfSlur_57 (lv_at hl 0 rfl) ?_
          refine lv_if_eq (tgt := 76) hx hb dX5_sideOfSlur_59 (by decide) (fun c_59 => ?_) (fun c_59 => ?_)
          · have c_59 : ¬ (n = a ∨ n = b ∨ (rBefore F a n = true ∧ rBefore F n b = true)) := bz0 hz_51 c_59
            refine lv_iconst (v := 0) hx hb dX5_sideOfSlur_76 (by decide) ?_
            exact J_77 _ (bI_f (fun h => (sD_s.mp h).elim c_54 (fun h => c_59 h.1)))
          · have c_59 : n = a ∨ n = b ∨ (rBefore F a n = true ∧ rBefore F n b = true) := bz1 hz_51 c_59
            refine lv_aload_n hx hb dX5_sideOfSlur_62 rfl (lv_at hl 3 rfl) ?_
            refine gf_X5_22 C hR hS.1 rfl dX5_sideOfSlur_63 ?_
            refine lv_iload hx hb dX5_sideOfSlur_66 (lv_at hl 1 rfl) ?_
            refine r_zaldN (k := n) C hR (RS.z hS 6 60 rfl rfl) (by omega) (by decide) rfl dX5_sideOfSlur_68 ?_
            refine lv_if_ne (tgt := 76) hx hb dX5_sideOfSlur_69 (by decide) (fun c_69 => ?_) (fun c_69 => ?_)
            · refine lv_iconst (v := 0) hx hb dX5_sideOfSlur_76 (by decide) ?_
              exact J_77 _ (bI_f (fun h => (sD_s.mp h).elim c_54 (fun h => c_69 h.2)))
            · refine lv_iconst (v := 1) hx hb dX5_sideOfSlur_72 (by decide) ?_
              refine lv_goto (tgt := 77) hx hb dX5_sideOfSlur_73 (by decide) ?_
              exact J_77 _ (bI_t (sD_s.mpr (Or.inr ⟨c_59, c_69⟩)))
    · refine lv_iload hx hb dX5_sideOfSlur_14 (lv_at hl 0 rfl) ?_
      refine lv_iload_n hx hb dX5_sideOfSlur_16 rfl (lv_at hl 3 rfl) ?_
      refine lv_icmp_eq (tgt := 46) hx hb dX5_sideOfSlur_17 (by decide) (fun c_17 => ?_) (fun c_17 => ?_)
      · have c_17 := ceq_t (a := n) (b := a) c_17 (by omega) (by omega)
        refine lv_iconst (v := 1) hx hb dX5_sideOfSlur_46 (by decide) ?_
        refine lv_goto (tgt := 51) hx hb dX5_sideOfSlur_47 (by decide) ?_
        exact J_51 _ (bI_t (Or.inl c_17))
      · have c_17 := ceq_f (a := n) (b := a) c_17 (by omega) (by omega)
        refine lv_iload hx hb dX5_sideOfSlur_20 (lv_at hl 0 rfl) ?_
        refine lv_iload_n hx hb dX5_sideOfSlur_22 rfl (lv_at hl 4 rfl) ?_
        refine lv_icmp_eq (tgt := 46) hx hb dX5_sideOfSlur_23 (by decide) (fun c_23 => ?_) (fun c_23 => ?_)
        · have c_23 := ceq_t (a := n) (b := b) c_23 (by omega) (by omega)
          refine lv_iconst (v := 1) hx hb dX5_sideOfSlur_46 (by decide) ?_
          refine lv_goto (tgt := 51) hx hb dX5_sideOfSlur_47 (by decide) ?_
          exact J_51 _ (bI_t (Or.inr (Or.inl c_23)))
        · have c_23 := ceq_f (a := n) (b := b) c_23 (by omega) (by omega)
          refine lv_aload_n hx hb dX5_sideOfSlur_26 rfl (lv_at hl 2 rfl) ?_
          refine lv_iload_n hx hb dX5_sideOfSlur_27 rfl (lv_at hl 3 rfl) ?_
          refine lv_iload hx hb dX5_sideOfSlur_28 (lv_at hl 0 rfl) ?_
          refine ro_goI (ro_V (As := [.int (nI a), .int (nI n)]) (rest := []) C hR st_X5_126 (c_X5_isBefore l D cs _ X ad v F G hS a n (by omega) (by omega)) hS.1 rfl rfl ⟨rfl, rfl, Nat.le_of_ble_eq_true rfl, Nat.le_of_ble_eq_true rfl⟩ rfl hl.1 rfl (Nat.le_of_ble_eq_true rfl) dX5_sideOfSlur_30 ⟨Nat.le_of_ble_eq_true rfl, Nat.le_of_ble_eq_true rfl⟩) (fun r_30 h_30 => ?_)
          refine lv_if_eq (tgt := 50) hx hb dX5_sideOfSlur_33 (by decide) (fun c_33 => ?_) (fun c_33 => ?_)
          · have c_33 : ¬ (rBefore F a n = true) := bz0 h_30 c_33
            refine lv_iconst (v := 0) hx hb dX5_sideOfSlur_50 (by decide) ?_
            exact J_51 _ (bI_f (fun h => h.elim c_17 (fun h => h.elim c_23 (fun h => c_33 h.1))))
          · have c_33 : rBefore F a n = true := bz1 h_30 c_33
            refine lv_aload_n hx hb dX5_sideOfSlur_36 rfl (lv_at hl 2 rfl) ?_
            refine lv_iload hx hb dX5_sideOfSlur_37 (lv_at hl 0 rfl) ?_
            refine lv_iload_n hx hb dX5_sideOfSlur_39 rfl (lv_at hl 4 rfl) ?_
            refine ro_goI (ro_V (As := [.int (nI n), .int (nI b)]) (rest := []) C hR st_X5_126 (c_X5_isBefore l D cs _ X ad v F G hS n b (by omega) (by omega)) hS.1 rfl rfl ⟨rfl, rfl, Nat.le_of_ble_eq_true rfl, Nat.le_of_ble_eq_true rfl⟩ rfl hl.1 rfl (Nat.le_of_ble_eq_true rfl) dX5_sideOfSlur_40 ⟨Nat.le_of_ble_eq_true rfl, Nat.le_of_ble_eq_true rfl⟩) (fun r_40 h_40 => ?_)
            refine lv_if_eq (tgt := 50) hx hb dX5_sideOfSlur_43 (by decide) (fun c_43 => ?_) (fun c_43 => ?_)
            · have c_43 : ¬ (rBefore F n b = true) := bz0 h_40 c_43
              refine lv_iconst (v := 0) hx hb dX5_sideOfSlur_50 (by decide) ?_
              exact J_51 _ (bI_f (fun h => h.elim c_17 (fun h => h.elim c_23 (fun h => c_43 h.2))))
            · have c_43 : rBefore F n b = true := bz1 h_40 c_43
              refine lv_iconst (v := 1) hx hb dX5_sideOfSlur_46 (by decide) ?_
              refine lv_goto (tgt := 51) hx hb dX5_sideOfSlur_47 (by decide) ?_
              exact J_51 _ (bI_t (Or.inr (Or.inr ⟨c_33, c_43⟩)))

set_option maxHeartbeats 4000000 in
set_option maxRecDepth 100000 in
theorem c_X5_mayBe (l : Launch) (D : va_G) (cs : Nat → ClassId) (M : wM) (X : Nat) (ad : Nat → Nat) (v : Nat → Int32) (F : Nat → Nat → Int32) (G : Nat → Nat → Int64) (hS : RS cs M X ad v F G) (a b : Nat) (ha : a < 60) (hb0 : b < 60) (la : Nat) (hla : F 3 a = nI la) (hl4 : la < 4) : Met l yX5_mayBe (mw yX5_mayBe cX5_mayBe 3 (some .boolean)) { frames := 1, cells := 0, slots := 0, locals := 22 } (roP D cs M [.ref X, .int (nI a), .int (nI b)]) (vp_Si (fun r => r = bI (rMay F a b la = true))) 0 0 noA := by
  refine ro_met rfl (Nat.le_of_ble_eq_true rfl) ?_
  intro p e s m below meth c ls C hR hr hlk hl
  have C : kx D cs p m c cX5_mayBe 3 s _ RX5 := C
  have hx := C.1.1
  have hb := C.1.2.1
  have hl : lv_has ls 3 [(0, .ref X), (1, .int (nI a)), (2, .int (nI b))] := hl
  refine lv_aload_n hx hb dX5_mayBe_0 rfl (lv_at hl 0 rfl) ?_
  refine lv_iload_n hx hb dX5_mayBe_1 rfl (lv_at hl 1 rfl) ?_
  refine lv_iload_n hx hb dX5_mayBe_2 rfl (lv_at hl 2 rfl) ?_
  refine ro_goI (ro_V (As := [.int (nI a), .int (nI b)]) (rest := []) C hR st_X5_126 (c_X5_isBefore l D cs _ X ad v F G hS a b (by omega) (by omega)) hS.1 rfl rfl ⟨rfl, rfl, Nat.le_of_ble_eq_true rfl, Nat.le_of_ble_eq_true rfl⟩ rfl hl.1 rfl (Nat.le_of_ble_eq_true rfl) dX5_mayBe_3 ⟨Nat.le_of_ble_eq_true rfl, Nat.le_of_ble_eq_true rfl⟩) (fun r_3 h_3 => ?_)
  refine lv_if_eq (tgt := 26) hx hb dX5_mayBe_6 (by decide) (fun c_6 => ?_) (fun c_6 => ?_)
  · have c_6 : ¬ (rBefore F a b = true) := bz0 h_3 c_6
    refine lv_iconst (v := 0) hx hb dX5_mayBe_26 (by decide) ?_
    exact ro_zret C hr hlk rfl (bI_f (by simp [rMay, c_6])) dX5_mayBe_27
  · have c_6 : rBefore F a b = true := bz1 h_3 c_6
    refine lv_aload_n hx hb dX5_mayBe_9 rfl (lv_at hl 0 rfl) ?_
    refine gf_X5_13 C hR hS.1 rfl dX5_mayBe_10 ?_
    refine lv_iload_n hx hb dX5_mayBe_13 rfl (lv_at hl 2 rfl) ?_
    refine r_ialdN (k := b) C hR (RS.i hS 3 60 rfl rfl) (by omega) (by decide) rfl dX5_mayBe_14 ?_
    refine lv_aload_n hx hb dX5_mayBe_15 rfl (lv_at hl 0 rfl) ?_
    refine gf_X5_13 C hR hS.1 rfl dX5_mayBe_16 ?_
    refine lv_iload_n hx hb dX5_mayBe_19 rfl (lv_at hl 1 rfl) ?_
    refine r_ialdN (k := a) C hR (RS.i hS 3 60 rfl rfl) (by omega) (by decide) rfl dX5_mayBe_20 ?_
    refine lv_isub hx hb dX5_mayBe_21 ?_
    refine lv_iconst (v := 1) hx hb dX5_mayBe_22 (by decide) ?_
    refine lv_icmp_le (tgt := 28) hx hb dX5_mayBe_23 (by decide) (fun c_23 => ?_) (fun c_23 => ?_)
    · refine lv_aload_n hx hb dX5_mayBe_28 rfl (lv_at hl 0 rfl) ?_
      refine gf_X5_13 C hR hS.1 rfl dX5_mayBe_29 ?_
      refine lv_iload_n hx hb dX5_mayBe_32 rfl (lv_at hl 1 rfl) ?_
      refine r_ialdN (k := a) C hR (RS.i hS 3 60 rfl rfl) (by omega) (by decide) rfl dX5_mayBe_33 ?_
      refine lv_aload_n hx hb dX5_mayBe_34 rfl (lv_at hl 0 rfl) ?_
      refine gf_X5_13 C hR hS.1 rfl dX5_mayBe_35 ?_
      refine lv_iload_n hx hb dX5_mayBe_38 rfl (lv_at hl 2 rfl) ?_
      refine r_ialdN (k := b) C hR (RS.i hS 3 60 rfl rfl) (by omega) (by decide) rfl dX5_mayBe_39 ?_
      refine lv_icmp_ne (tgt := 67) hx hb dX5_mayBe_40 (by decide) (fun c_40 => ?_) (fun c_40 => ?_)
      · refine lv_aload_n hx hb dX5_mayBe_67 rfl (lv_at hl 0 rfl) ?_
        refine gf_X5_7 C hR hS.1 rfl dX5_mayBe_68 ?_
        refine lv_aload_n hx hb dX5_mayBe_71 rfl (lv_at hl 0 rfl) ?_
        refine gf_X5_13 C hR hS.1 rfl dX5_mayBe_72 ?_
        refine lv_iload_n hx hb dX5_mayBe_75 rfl (lv_at hl 1 rfl) ?_
        refine r_ialdN (k := a) C hR (RS.i hS 3 60 rfl rfl) (by omega) (by decide) rfl dX5_mayBe_76 ?_
        refine top_eq (y := nI la) hla ?_
        refine r_ialdN (k := la) C hR (RS.i hS 1 4 rfl rfl) (by omega) (by decide) rfl dX5_mayBe_77 ?_
        refine lv_aload_n hx hb dX5_mayBe_78 rfl (lv_at hl 0 rfl) ?_
        refine gf_X5_16 C hR hS.1 rfl dX5_mayBe_79 ?_
        refine lv_iload_n hx hb dX5_mayBe_82 rfl (lv_at hl 1 rfl) ?_
        refine r_ialdN (k := a) C hR (RS.i hS 4 60 rfl rfl) (by omega) (by decide) rfl dX5_mayBe_83 ?_
        refine lv_isub hx hb dX5_mayBe_84 ?_
        refine lv_bipush (v := 12) hx hb dX5_mayBe_85 (by decide) ?_
        refine lv_icmp_lt (tgt := 105) hx hb dX5_mayBe_87 (by decide) (fun c_87 => ?_) (fun c_87 => ?_)
        · refine lv_iconst (v := 0) hx hb dX5_mayBe_105 (by decide) ?_
          exact ro_zret C hr hlk rfl (bI_f (by simp [rMay, c_6, c_23, c_40, c_87])) dX5_mayBe_106
        · refine lv_aload_n hx hb dX5_mayBe_90 rfl (lv_at hl 0 rfl) ?_
          refine gf_X5_16 C hR hS.1 rfl dX5_mayBe_91 ?_
          refine lv_iload_n hx hb dX5_mayBe_94 rfl (lv_at hl 2 rfl) ?_
          refine r_ialdN (k := b) C hR (RS.i hS 4 60 rfl rfl) (by omega) (by decide) rfl dX5_mayBe_95 ?_
          refine lv_bipush (v := 12) hx hb dX5_mayBe_96 (by decide) ?_
          refine lv_icmp_lt (tgt := 105) hx hb dX5_mayBe_98 (by decide) (fun c_98 => ?_) (fun c_98 => ?_)
          · refine lv_iconst (v := 0) hx hb dX5_mayBe_105 (by decide) ?_
            exact ro_zret C hr hlk rfl (bI_f (by simp [rMay, c_6, c_23, c_40, c_87, c_98])) dX5_mayBe_106
          · refine lv_iconst (v := 1) hx hb dX5_mayBe_101 (by decide) ?_
            refine lv_goto (tgt := 106) hx hb dX5_mayBe_102 (by decide) ?_
            exact ro_zret C hr hlk rfl (bI_t (by simp [rMay, c_6, c_23, c_40, c_87, c_98])) dX5_mayBe_106
      · refine lv_aload_n hx hb dX5_mayBe_43 rfl (lv_at hl 0 rfl) ?_
        refine gf_X5_16 C hR hS.1 rfl dX5_mayBe_44 ?_
        refine lv_iload_n hx hb dX5_mayBe_47 rfl (lv_at hl 2 rfl) ?_
        refine r_ialdN (k := b) C hR (RS.i hS 4 60 rfl rfl) (by omega) (by decide) rfl dX5_mayBe_48 ?_
        refine lv_aload_n hx hb dX5_mayBe_49 rfl (lv_at hl 0 rfl) ?_
        refine gf_X5_16 C hR hS.1 rfl dX5_mayBe_50 ?_
        refine lv_iload_n hx hb dX5_mayBe_53 rfl (lv_at hl 1 rfl) ?_
        refine r_ialdN (k := a) C hR (RS.i hS 4 60 rfl rfl) (by omega) (by decide) rfl dX5_mayBe_54 ?_
        refine lv_isub hx hb dX5_mayBe_55 ?_
        refine lv_bipush (v := 12) hx hb dX5_mayBe_56 (by decide) ?_
        refine lv_icmp_lt (tgt := 65) hx hb dX5_mayBe_58 (by decide) (fun c_58 => ?_) (fun c_58 => ?_)
        · refine lv_iconst (v := 0) hx hb dX5_mayBe_65 (by decide) ?_
          exact ro_zret C hr hlk rfl (bI_f (by simp [rMay, c_6, c_23, c_40, c_58])) dX5_mayBe_66
        · refine lv_iconst (v := 1) hx hb dX5_mayBe_61 (by decide) ?_
          refine lv_goto (tgt := 66) hx hb dX5_mayBe_62 (by decide) ?_
          exact ro_zret C hr hlk rfl (bI_t (by simp [rMay, c_6, c_23, c_40, c_58])) dX5_mayBe_66
    · refine lv_iconst (v := 0) hx hb dX5_mayBe_26 (by decide) ?_
      exact ro_zret C hr hlk rfl (bI_f (by simp [rMay, c_6, c_23])) dX5_mayBe_27
end
section
theorem sF_ne (F : Nat → Nat → Int32) {k j : Nat} (i : Nat) (x : Int32) (h : j ≠ k) : sF F k i x j = F j := va_up_ne _ _ h
theorem sF_self (F : Nat → Nat → Int32) (k i : Nat) (x : Int32) : sF F k i x k i = x := by unfold sF; rw [va_up_self]; exact pk_us
def rL1 (F : Nat → Nat → Int32) (nn c0 a b : Nat) : Nat → Nat → Int32 := sF F 23 c0 (if F 22 c0 = 0 then rSlur F nn a b else rTie F nn a)
def rL2 (F : Nat → Nat → Int32) (c0 a b : Nat) : Nat → Nat → Int32 := sF F 24 c0 (if F 3 a = F 3 b then 1 else 2)
def rL3 (F : Nat → Nat → Int32) (c0 : Nat) : Int32 := if F 22 c0 = 0 then 0 else 3
def rLayO (F1 F2 : Nat → Nat → Int32) (c0 a b la : Nat) : Nat → Nat → Int32 := if F2 24 c0 = 1 then rLay F2 (2 * c0) (F2 3 a) (F1 4 a + rL3 F1 c0) (F1 5 a + rEnd F1 c0 a) (F1 4 b - rL3 F1 c0) (F1 5 b + rEnd F1 c0 b) else rLay (rLay F2 (2 * c0) (F2 3 a) (F1 4 a + rL3 F1 c0) (F1 5 a + rEnd F1 c0 a) (F2 1 la) (F1 5 a + rEnd F1 c0 a)) (2 * c0 + 1) (rLay F2 (2 * c0) (F2 3 a) (F1 4 a + rL3 F1 c0) (F1 5 a + rEnd F1 c0 a) (F2 1 la) (F1 5 a + rEnd F1 c0 a) 3 b) 0 (F1 5 b + rEnd F1 c0 b) (F1 4 b - rL3 F1 c0) (F1 5 b + rEnd F1 c0 b)
def rLayOut (F : Nat → Nat → Int32) (nn c0 a b la : Nat) : Nat → Nat → Int32 := rLayO (rL1 F nn c0 a b) (rL2 (rL1 F nn c0 a b) c0 a b) c0 a b la
theorem rLay_ne (F : Nat → Nat → Int32) (k : Nat) (l a b c d : Int32) {j : Nat} (h : j < 25 ∨ 29 < j) : rLay F k l a b c d j = F j := by
  unfold rLay
  rw [sF_ne _ _ _ (by omega), sF_ne _ _ _ (by omega), sF_ne _ _ _ (by omega), sF_ne _ _ _ (by omega), sF_ne _ _ _ (by omega)]
theorem rLayOut_24 (F : Nat → Nat → Int32) (nn c0 a b la : Nat) : rLayOut F nn c0 a b la 24 c0 = if F 3 a = F 3 b then 1 else 2 := by
  have h1 : rL2 (rL1 F nn c0 a b) c0 a b 24 c0 = if F 3 a = F 3 b then 1 else 2 := by
    unfold rL2; rw [sF_self]; unfold rL1; rw [sF_ne _ _ _ (by decide)]
  unfold rLayOut rLayO
  split
  · rw [rLay_ne _ _ _ _ _ _ _ (by decide), h1]
  · rw [rLay_ne _ _ _ _ _ _ _ (by decide), rLay_ne _ _ _ _ _ _ _ (by decide), h1]
set_option maxHeartbeats 4000000 in
set_option maxRecDepth 100000 in
theorem c_X5_layOut (l : Launch) (D : va_G) (cs : Nat → ClassId) (A : Nat → Prop) (M : wM) (X : Nat) (ad : Nat → Nat) (v : Nat → Int32) (F : Nat → Nat → Int32) (G : Nat → Nat → Int64) (hS : RS cs M X ad v F G) (nn : Nat) (hnn : v 2 = nI nn) (hn60 : nn ≤ 60) (c0 a b la : Nat) (hc0 : c0 < 40) (ha : F 20 c0 = nI a) (hb1 : F 21 c0 = nI b) (ha60 : a < 60) (hb60 : b < 60) (hla : F 3 a = nI la) (hl4 : la < 4) : Met l yX5_layOut (mw yX5_layOut cX5_layOut 8 none) { frames := 2, cells := 0, slots := 0, locals := 47 } (wrP D cs A M [.ref X, .int (nI c0)]) (va_Qv (fun M' => ∃ F', RS cs M' X ad v F' G ∧ F' = rLayOut F nn c0 a b la) (wrB D A) A) 0 0 A := by
  refine wr_met rfl (Nat.le_of_ble_eq_true rfl) ?_
  intro p e s m below meth c ls C hW hr hlk hini hl
  have C : kx D cs p m c cX5_layOut 8 s _ RX5 := C
  have hx := C.1.1
  have hb := C.1.2.1
  have hl : lv_has ls 8 [(0, .ref X), (1, .int (nI c0))] := hl
  refine lv_aload_n hx hb dX5_layOut_0 rfl (lv_at hl 0 rfl) ?_
  refine gf_X5_56 C hW.rd hS.1 rfl dX5_layOut_1 ?_
  refine lv_iload_n hx hb dX5_layOut_4 rfl (lv_at hl 1 rfl) ?_
  refine r_ialdN (k := c0) C hW.rd (RS.i hS 20 40 rfl rfl) (by omega) (by decide) rfl dX5_layOut_5 ?_
  refine top_eq (y := nI a) ha ?_
  refine lv_istore_n (lv' := [(2, .int (nI a)), (0, .ref X), (1, .int (nI c0))]) hx hb dX5_layOut_6 rfl hl (by decide) rfl (fun ls hl => ?_)
  refine lv_aload_n hx hb dX5_layOut_7 rfl (lv_at hl 1 rfl) ?_
  refine gf_X5_59 C hW.rd hS.1 rfl dX5_layOut_8 ?_
  refine lv_iload_n hx hb dX5_layOut_11 rfl (lv_at hl 2 rfl) ?_
  refine r_ialdN (k := c0) C hW.rd (RS.i hS 21 40 rfl rfl) (by omega) (by decide) rfl dX5_layOut_12 ?_
  refine top_eq (y := nI b) hb1 ?_
  refine lv_istore_n (lv' := [(3, .int (nI b)), (2, .int (nI a)), (0, .ref X), (1, .int (nI c0))]) hx hb dX5_layOut_13 rfl hl (by decide) rfl (fun ls hl => ?_)
  refine lv_aload_n hx hb dX5_layOut_14 rfl (lv_at hl 2 rfl) ?_
  refine gf_X5_65 C hW.rd hS.1 rfl dX5_layOut_15 ?_
  refine lv_iload_n hx hb dX5_layOut_18 rfl (lv_at hl 3 rfl) ?_
  refine W.cut (fun z => z = if F 22 c0 = 0 then rSlur F nn a b else rTie F nn a) (fun z => F0 m 42 ls (.int z :: [.int (nI c0), .ref (ad 23)])) (fun z_42 hz_42 => ?_) (fun J_42 => ?_)
  · refine w_iastN (k := c0) C hW (RS.i hS 23 40 rfl rfl) (by omega) (by decide) rfl dX5_layOut_42 (fun H locs hW => ?_)
    obtain ⟨M, F_1, eF_1, hS, hW⟩ : ∃ (M : wM) (w0 : Nat → Nat → Int32), w0 = sF F 23 c0 z_42 ∧ RS cs M X ad v w0 G ∧ wd D A M s.heap H locs := ⟨_, _, rfl, RS.setI hS 23 rfl c0 z_42, hW⟩
    refine lv_aload_n hx hb dX5_layOut_43 rfl (lv_at hl 2 rfl) ?_
    refine gf_X5_16 C hW.rd hS.1 rfl dX5_layOut_44 ?_
    refine lv_iload_n hx hb dX5_layOut_47 rfl (lv_at hl 1 rfl) ?_
    refine r_ialdN (k := a) C hW.rd (RS.i hS 4 60 rfl rfl) (by omega) (by decide) rfl dX5_layOut_48 ?_
    refine W.cut (fun z => z = rL3 F_1 c0) (fun z => F0 m 63 ls (.int z :: [.int (F_1 4 a)])) (fun z_63 hz_63 => ?_) (fun J_63 => ?_)
    · refine lv_iadd hx hb dX5_layOut_63 ?_
      refine lv_topi (fun x_64 ex_64 => ?_)
      refine lv_istore (lv' := [(4, .int x_64), (3, .int (nI b)), (2, .int (nI a)), (0, .ref X), (1, .int (nI c0))]) hx hb dX5_layOut_64 hl (by decide) rfl (fun ls hl => ?_)
      refine lv_aload_n hx hb dX5_layOut_66 rfl (lv_at hl 3 rfl) ?_
      refine gf_X5_16 C hW.rd hS.1 rfl dX5_layOut_67 ?_
      refine lv_iload_n hx hb dX5_layOut_70 rfl (lv_at hl 1 rfl) ?_
      refine r_ialdN (k := b) C hW.rd (RS.i hS 4 60 rfl rfl) (by omega) (by decide) rfl dX5_layOut_71 ?_
      refine W.cut (fun z => z = rL3 F_1 c0) (fun z => F0 m 86 ls (.int z :: [.int (F_1 4 b)])) (fun z_86 hz_86 => ?_) (fun J_86 => ?_)
      · refine lv_isub hx hb dX5_layOut_86 ?_
        refine lv_topi (fun x_87 ex_87 => ?_)
        refine lv_istore (lv' := [(5, .int x_87), (4, .int x_64), (3, .int (nI b)), (2, .int (nI a)), (0, .ref X), (1, .int (nI c0))]) hx hb dX5_layOut_87 hl (by decide) rfl (fun ls hl => ?_)
        refine lv_aload_n hx hb dX5_layOut_89 rfl (lv_at hl 4 rfl) ?_
        refine gf_X5_19 C hW.rd hS.1 rfl dX5_layOut_90 ?_
        refine lv_iload_n hx hb dX5_layOut_93 rfl (lv_at hl 3 rfl) ?_
        refine r_ialdN (k := a) C hW.rd (RS.i hS 5 60 rfl rfl) (by omega) (by decide) rfl dX5_layOut_94 ?_
        refine lv_aload_n hx hb dX5_layOut_95 rfl (lv_at hl 4 rfl) ?_
        refine lv_iload_n hx hb dX5_layOut_96 rfl (lv_at hl 5 rfl) ?_
        refine lv_iload_n hx hb dX5_layOut_97 rfl (lv_at hl 3 rfl) ?_
        refine ro_goI (ro_V (As := [.int (nI c0), .int (nI a)]) (rest := [.int (F_1 5 a)]) C hW.rd st_X5_159 (c_X5_endOf l D cs _ X ad v F_1 G hS c0 a (by omega) (by omega)) hS.1 rfl rfl ⟨rfl, rfl, Nat.le_of_ble_eq_true rfl, Nat.le_of_ble_eq_true rfl⟩ rfl hl.1 rfl (Nat.le_of_ble_eq_true rfl) dX5_layOut_98 ⟨Nat.le_of_ble_eq_true rfl, Nat.le_of_ble_eq_true rfl⟩) (fun r_98 h_98 => ?_)
        refine lv_iadd hx hb dX5_layOut_101 ?_
        refine lv_topi (fun x_102 ex_102 => ?_)
        refine lv_istore (lv' := [(6, .int x_102), (5, .int x_87), (4, .int x_64), (3, .int (nI b)), (2, .int (nI a)), (0, .ref X), (1, .int (nI c0))]) hx hb dX5_layOut_102 hl (by decide) rfl (fun ls hl => ?_)
        refine lv_aload_n hx hb dX5_layOut_104 rfl (lv_at hl 5 rfl) ?_
        refine gf_X5_19 C hW.rd hS.1 rfl dX5_layOut_105 ?_
        refine lv_iload_n hx hb dX5_layOut_108 rfl (lv_at hl 3 rfl) ?_
        refine r_ialdN (k := b) C hW.rd (RS.i hS 5 60 rfl rfl) (by omega) (by decide) rfl dX5_layOut_109 ?_
        refine lv_aload_n hx hb dX5_layOut_110 rfl (lv_at hl 5 rfl) ?_
        refine lv_iload_n hx hb dX5_layOut_111 rfl (lv_at hl 6 rfl) ?_
        refine lv_iload_n hx hb dX5_layOut_112 rfl (lv_at hl 3 rfl) ?_
        refine ro_goI (ro_V (As := [.int (nI c0), .int (nI b)]) (rest := [.int (F_1 5 b)]) C hW.rd st_X5_159 (c_X5_endOf l D cs _ X ad v F_1 G hS c0 b (by omega) (by omega)) hS.1 rfl rfl ⟨rfl, rfl, Nat.le_of_ble_eq_true rfl, Nat.le_of_ble_eq_true rfl⟩ rfl hl.1 rfl (Nat.le_of_ble_eq_true rfl) dX5_layOut_113 ⟨Nat.le_of_ble_eq_true rfl, Nat.le_of_ble_eq_true rfl⟩) (fun r_113 h_113 => ?_)
        refine lv_iadd hx hb dX5_layOut_116 ?_
        refine lv_topi (fun x_117 ex_117 => ?_)
        refine lv_istore (lv' := [(7, .int x_117), (6, .int x_102), (5, .int x_87), (4, .int x_64), (3, .int (nI b)), (2, .int (nI a)), (0, .ref X), (1, .int (nI c0))]) hx hb dX5_layOut_117 hl (by decide) rfl (fun ls hl => ?_)
        refine lv_aload_n hx hb dX5_layOut_119 rfl (lv_at hl 6 rfl) ?_
        refine gf_X5_68 C hW.rd hS.1 rfl dX5_layOut_120 ?_
        refine lv_iload_n hx hb dX5_layOut_123 rfl (lv_at hl 7 rfl) ?_
        refine W.cut (fun z => z = if F_1 3 a = F_1 3 b then 1 else 2) (fun z => F0 m 144 ls (.int z :: [.int (nI c0), .ref (ad 24)])) (fun z_144 hz_144 => ?_) (fun J_144 => ?_)
        · refine w_iastN (k := c0) C hW (RS.i hS 24 40 rfl rfl) (by omega) (by decide) rfl dX5_layOut_144 (fun H locs hW => ?_)
          obtain ⟨M, F_2, eF_2, hS, hW⟩ : ∃ (M : wM) (w0 : Nat → Nat → Int32), w0 = sF F_1 24 c0 z_144 ∧ RS cs M X ad v w0 G ∧ wd D A M s.heap H locs := ⟨_, _, rfl, RS.setI hS 24 rfl c0 z_144, hW⟩
          refine lv_aload_n hx hb dX5_layOut_145 rfl (lv_at hl 6 rfl) ?_
          refine gf_X5_68 C hW.rd hS.1 rfl dX5_layOut_146 ?_
          refine lv_iload_n hx hb dX5_layOut_149 rfl (lv_at hl 7 rfl) ?_
          refine r_ialdN (k := c0) C hW.rd (RS.i hS 24 40 rfl rfl) (by omega) (by decide) rfl dX5_layOut_150 ?_
          refine lv_iconst (v := 1) hx hb dX5_layOut_151 (by decide) ?_
          refine lv_icmp_ne (tgt := 179) hx hb dX5_layOut_152 (by decide) (fun c_152 => ?_) (fun c_152 => ?_)
          · refine lv_aload_n hx hb dX5_layOut_179 rfl (lv_at hl 6 rfl) ?_
            refine lv_iconst (v := 2) hx hb dX5_layOut_180 (by decide) ?_
            refine lv_iload_n hx hb dX5_layOut_181 rfl (lv_at hl 7 rfl) ?_
            refine lv_imul hx hb dX5_layOut_182 ?_
            refine top_eq (y := nI (2 * c0)) (tn_mul rfl rfl) ?_
            refine lv_aload_n hx hb dX5_layOut_183 rfl (lv_at hl 6 rfl) ?_
            refine gf_X5_13 C hW.rd hS.1 rfl dX5_layOut_184 ?_
            refine lv_iload_n hx hb dX5_layOut_187 rfl (lv_at hl 5 rfl) ?_
            refine r_ialdN (k := a) C hW.rd (RS.i hS 3 60 rfl rfl) (by omega) (by decide) rfl dX5_layOut_188 ?_
            refine lv_iload hx hb dX5_layOut_189 (lv_at hl 3 rfl) ?_
            refine lv_iload hx hb dX5_layOut_191 (lv_at hl 1 rfl) ?_
            refine lv_aload_n hx hb dX5_layOut_193 rfl (lv_at hl 6 rfl) ?_
            refine gf_X5_7 C hW.rd hS.1 rfl dX5_layOut_194 ?_
            refine lv_aload_n hx hb dX5_layOut_197 rfl (lv_at hl 6 rfl) ?_
            refine gf_X5_13 C hW.rd hS.1 rfl dX5_layOut_198 ?_
            refine lv_iload_n hx hb dX5_layOut_201 rfl (lv_at hl 5 rfl) ?_
            refine r_ialdN (k := a) C hW.rd (RS.i hS 3 60 rfl rfl) (by omega) (by decide) rfl dX5_layOut_202 ?_
            refine top_eq (y := nI la) (by rw [eF_2, eF_1, sF_ne _ _ _ (by decide), sF_ne _ _ _ (by decide)]; exact hla) ?_
            refine r_ialdN (k := la) C hW.rd (RS.i hS 1 4 rfl rfl) (by omega) (by decide) rfl dX5_layOut_203 ?_
            refine lv_iload hx hb dX5_layOut_204 (lv_at hl 1 rfl) ?_
            refine wr_goV hW (wr_V (As := [.int (nI (2 * c0)), .int (F_2 3 a), .int x_64, .int x_102, .int (F_2 1 la), .int x_102]) (rest := []) C hW st_X5_162 (c_X5_lay l D cs A _ X ad v F_2 G hS (2 * c0) (by omega) (F_2 3 a) x_64 x_102 (F_2 1 la) x_102) hS.1 rfl rfl ⟨rfl, rfl, Nat.le_of_ble_eq_true rfl, Nat.le_of_ble_eq_true rfl⟩ rfl hl.1 rfl (Nat.le_of_ble_eq_true rfl) dX5_layOut_206 ⟨Nat.le_of_ble_eq_true rfl, Nat.le_of_ble_eq_true rfl⟩) (fun M_206 H locs h_206 hW => ?_)
            obtain ⟨F_3, hS, eF_3⟩ := h_206
            refine lv_aload_n hx hb dX5_layOut_209 rfl (lv_at hl 6 rfl) ?_
            refine lv_iconst (v := 2) hx hb dX5_layOut_210 (by decide) ?_
            refine lv_iload_n hx hb dX5_layOut_211 rfl (lv_at hl 7 rfl) ?_
            refine lv_imul hx hb dX5_layOut_212 ?_
            refine top_eq (y := nI (2 * c0)) (tn_mul rfl rfl) ?_
            refine lv_iconst (v := 1) hx hb dX5_layOut_213 (by decide) ?_
            refine lv_iadd hx hb dX5_layOut_214 ?_
            refine top_eq (y := nI ((2 * c0) + 1)) (tn_add rfl rfl) ?_
            refine lv_aload_n hx hb dX5_layOut_215 rfl (lv_at hl 6 rfl) ?_
            refine gf_X5_13 C hW.rd hS.1 rfl dX5_layOut_216 ?_
            refine lv_iload_n hx hb dX5_layOut_219 rfl (lv_at hl 4 rfl) ?_
            refine r_ialdN (k := b) C hW.rd (RS.i hS 3 60 rfl rfl) (by omega) (by decide) rfl dX5_layOut_220 ?_
            refine lv_iconst (v := 0) hx hb dX5_layOut_221 (by decide) ?_
            refine lv_iload hx hb dX5_layOut_222 (lv_at hl 0 rfl) ?_
            refine lv_iload hx hb dX5_layOut_224 (lv_at hl 2 rfl) ?_
            refine lv_iload hx hb dX5_layOut_226 (lv_at hl 0 rfl) ?_
            refine wr_goV hW (wr_V (As := [.int (nI ((2 * c0) + 1)), .int (F_3 3 b), .int 0, .int x_117, .int x_87, .int x_117]) (rest := []) C hW st_X5_162 (c_X5_lay l D cs A _ X ad v F_3 G hS ((2 * c0) + 1) (by omega) (F_3 3 b) 0 x_117 x_87 x_117) hS.1 rfl rfl ⟨rfl, rfl, Nat.le_of_ble_eq_true rfl, Nat.le_of_ble_eq_true rfl⟩ rfl hl.1 rfl (Nat.le_of_ble_eq_true rfl) dX5_layOut_228 ⟨Nat.le_of_ble_eq_true rfl, Nat.le_of_ble_eq_true rfl⟩) (fun M_228 H locs h_228 hW => ?_)
            obtain ⟨F_4, hS, eF_4⟩ := h_228
            exact wr_vret C hW hr hlk (⟨_, hS, by subst h_98 h_113 hz_42 hz_63 ex_64 hz_86 ex_87 ex_102 ex_117 hz_144 eF_1 eF_2 eF_3 eF_4; exact (if_neg c_152).symm⟩) dX5_layOut_231
          · refine lv_aload_n hx hb dX5_layOut_155 rfl (lv_at hl 6 rfl) ?_
            refine lv_iconst (v := 2) hx hb dX5_layOut_156 (by decide) ?_
            refine lv_iload_n hx hb dX5_layOut_157 rfl (lv_at hl 7 rfl) ?_
            refine lv_imul hx hb dX5_layOut_158 ?_
            refine top_eq (y := nI (2 * c0)) (tn_mul rfl rfl) ?_
            refine lv_aload_n hx hb dX5_layOut_159 rfl (lv_at hl 6 rfl) ?_
            refine gf_X5_13 C hW.rd hS.1 rfl dX5_layOut_160 ?_
            refine lv_iload_n hx hb dX5_layOut_163 rfl (lv_at hl 5 rfl) ?_
            refine r_ialdN (k := a) C hW.rd (RS.i hS 3 60 rfl rfl) (by omega) (by decide) rfl dX5_layOut_164 ?_
            refine lv_iload hx hb dX5_layOut_165 (lv_at hl 3 rfl) ?_
            refine lv_iload hx hb dX5_layOut_167 (lv_at hl 1 rfl) ?_
            refine lv_iload hx hb dX5_layOut_169 (lv_at hl 2 rfl) ?_
            refine lv_iload hx hb dX5_layOut_171 (lv_at hl 0 rfl) ?_
            refine wr_goV hW (wr_V (As := [.int (nI (2 * c0)), .int (F_2 3 a), .int x_64, .int x_102, .int x_87, .int x_117]) (rest := []) C hW st_X5_162 (c_X5_lay l D cs A _ X ad v F_2 G hS (2 * c0) (by omega) (F_2 3 a) x_64 x_102 x_87 x_117) hS.1 rfl rfl ⟨rfl, rfl, Nat.le_of_ble_eq_true rfl, Nat.le_of_ble_eq_true rfl⟩ rfl hl.1 rfl (Nat.le_of_ble_eq_true rfl) dX5_layOut_173 ⟨Nat.le_of_ble_eq_true rfl, Nat.le_of_ble_eq_true rfl⟩) (fun M_173 H locs h_173 hW => ?_)
            obtain ⟨F_5, hS, eF_5⟩ := h_173
            refine lv_goto (tgt := 231) hx hb dX5_layOut_176 (by decide) ?_
            exact wr_vret C hW hr hlk (⟨_, hS, by subst h_98 h_113 hz_42 hz_63 ex_64 hz_86 ex_87 ex_102 ex_117 hz_144 eF_1 eF_2 eF_5; exact (if_pos c_152).symm⟩) dX5_layOut_231
        · refine lv_aload_n hx hb dX5_layOut_124 rfl (lv_at hl 6 rfl) ?_
          refine gf_X5_13 C hW.rd hS.1 rfl dX5_layOut_125 ?_
          refine lv_iload_n hx hb dX5_layOut_128 rfl (lv_at hl 5 rfl) ?_
          refine r_ialdN (k := a) C hW.rd (RS.i hS 3 60 rfl rfl) (by omega) (by decide) rfl dX5_layOut_129 ?_
          refine lv_aload_n hx hb dX5_layOut_130 rfl (lv_at hl 6 rfl) ?_
          refine gf_X5_13 C hW.rd hS.1 rfl dX5_layOut_131 ?_
          refine lv_iload_n hx hb dX5_layOut_134 rfl (lv_at hl 4 rfl) ?_
          refine r_ialdN (k := b) C hW.rd (RS.i hS 3 60 rfl rfl) (by omega) (by decide) rfl dX5_layOut_135 ?_
          refine lv_icmp_ne (tgt := 143) hx hb dX5_layOut_136 (by decide) (fun c_136 => ?_) (fun c_136 => ?_)
          · refine lv_iconst (v := 2) hx hb dX5_layOut_143 (by decide) ?_
            exact J_144 _ (by simp [c_136])
          · refine lv_iconst (v := 1) hx hb dX5_layOut_139 (by decide) ?_
            refine lv_goto (tgt := 144) hx hb dX5_layOut_140 (by decide) ?_
            exact J_144 _ (by simp [c_136])
      · refine lv_aload_n hx hb dX5_layOut_72 rfl (lv_at hl 3 rfl) ?_
        refine gf_X5_62 C hW.rd hS.1 rfl dX5_layOut_73 ?_
        refine lv_iload_n hx hb dX5_layOut_76 rfl (lv_at hl 4 rfl) ?_
        refine r_zaldN (k := c0) C hW.rd (RS.z hS 22 40 rfl rfl) (by omega) (by decide) rfl dX5_layOut_77 ?_
        refine lv_if_eq (tgt := 85) hx hb dX5_layOut_78 (by decide) (fun c_78 => ?_) (fun c_78 => ?_)
        · refine lv_iconst (v := 0) hx hb dX5_layOut_85 (by decide) ?_
          exact J_86 _ (by simp [rL3, c_78])
        · refine lv_iconst (v := 3) hx hb dX5_layOut_81 (by decide) ?_
          refine lv_goto (tgt := 86) hx hb dX5_layOut_82 (by decide) ?_
          exact J_86 _ (by simp [rL3, c_78])
    · refine lv_aload_n hx hb dX5_layOut_49 rfl (lv_at hl 2 rfl) ?_
      refine gf_X5_62 C hW.rd hS.1 rfl dX5_layOut_50 ?_
      refine lv_iload_n hx hb dX5_layOut_53 rfl (lv_at hl 3 rfl) ?_
      refine r_zaldN (k := c0) C hW.rd (RS.z hS 22 40 rfl rfl) (by omega) (by decide) rfl dX5_layOut_54 ?_
      refine lv_if_eq (tgt := 62) hx hb dX5_layOut_55 (by decide) (fun c_55 => ?_) (fun c_55 => ?_)
      · refine lv_iconst (v := 0) hx hb dX5_layOut_62 (by decide) ?_
        exact J_63 _ (by simp [rL3, c_55])
      · refine lv_iconst (v := 3) hx hb dX5_layOut_58 (by decide) ?_
        refine lv_goto (tgt := 63) hx hb dX5_layOut_59 (by decide) ?_
        exact J_63 _ (by simp [rL3, c_55])
  · refine lv_aload_n hx hb dX5_layOut_19 rfl (lv_at hl 2 rfl) ?_
    refine gf_X5_62 C hW.rd hS.1 rfl dX5_layOut_20 ?_
    refine lv_iload_n hx hb dX5_layOut_23 rfl (lv_at hl 3 rfl) ?_
    refine r_zaldN (k := c0) C hW.rd (RS.z hS 22 40 rfl rfl) (by omega) (by decide) rfl dX5_layOut_24 ?_
    refine lv_if_eq (tgt := 36) hx hb dX5_layOut_25 (by decide) (fun c_25 => ?_) (fun c_25 => ?_)
    · refine lv_aload_n hx hb dX5_layOut_36 rfl (lv_at hl 2 rfl) ?_
      refine lv_iload_n hx hb dX5_layOut_37 rfl (lv_at hl 1 rfl) ?_
      refine lv_iload_n hx hb dX5_layOut_38 rfl (lv_at hl 0 rfl) ?_
      refine ro_goI (ro_V (As := [.int (nI a), .int (nI b)]) (rest := [.int (nI c0), .ref (ad 23)]) C hW.rd st_X5_155 (c_X5_sideOfSlur l D cs _ X ad v F G hS nn hnn (by omega) a b (by omega) (by omega)) hS.1 rfl rfl ⟨rfl, rfl, Nat.le_of_ble_eq_true rfl, Nat.le_of_ble_eq_true rfl⟩ rfl hl.1 rfl (Nat.le_of_ble_eq_true rfl) dX5_layOut_39 ⟨Nat.le_of_ble_eq_true rfl, Nat.le_of_ble_eq_true rfl⟩) (fun r_39 h_39 => ?_)
      exact J_42 _ (by rw [if_pos c_25]; exact h_39)
    · refine lv_aload_n hx hb dX5_layOut_28 rfl (lv_at hl 2 rfl) ?_
      refine lv_iload_n hx hb dX5_layOut_29 rfl (lv_at hl 1 rfl) ?_
      refine ro_goI (ro_V (As := [.int (nI a)]) (rest := [.int (nI c0), .ref (ad 23)]) C hW.rd st_X5_151 (c_X5_sideOfTie l D cs _ X ad v F G hS nn hnn (by omega) a (by omega)) hS.1 rfl rfl ⟨rfl, rfl, Nat.le_of_ble_eq_true rfl, Nat.le_of_ble_eq_true rfl⟩ rfl hl.1 rfl (Nat.le_of_ble_eq_true rfl) dX5_layOut_30 ⟨Nat.le_of_ble_eq_true rfl, Nat.le_of_ble_eq_true rfl⟩) (fun r_30 h_30 => ?_)
      refine lv_goto (tgt := 42) hx hb dX5_layOut_33 (by decide) ?_
      exact J_42 _ (by rw [if_neg c_25]; exact h_30)

def chLoop (F : Nat → Nat → Int32) (nm nw nc c0 : Nat) : Nat → Nat → Nat → Int32
  | 0 => F
  | p + 1 => rChoose (chLoop F nm nw nc c0 p) nm nw nc (2 * c0 + p)
theorem rChoose_ne (F : Nat → Nat → Int32) (nm nw nc k : Nat) {j : Nat} (h1 : j ≠ 30) (h2 : j ≠ 31) : rChoose F nm nw nc k j = F j := by
  unfold rChoose
  rw [sF_ne _ _ _ h1, sF_ne _ _ _ h2]
theorem chLoop_ne (F : Nat → Nat → Int32) (nm nw nc c0 p : Nat) {j : Nat} (h1 : j ≠ 30) (h2 : j ≠ 31) : chLoop F nm nw nc c0 p j = F j := by
  induction p with
  | zero => rfl
  | succ p ih => rw [chLoop, rChoose_ne _ _ _ _ _ h1 h2, ih]
def pmN (F : Nat → Nat → Int32) (a b : Nat) : Nat := if F 3 a = F 3 b then 1 else 2
theorem pmN_eq (F : Nat → Nat → Int32) (a b : Nat) : (if F 3 a = F 3 b then (1 : Int32) else 2) = nI (pmN F a b) := by unfold pmN; split <;> rfl
theorem pmN_le (F : Nat → Nat → Int32) (a b : Nat) : 1 ≤ pmN F a b ∧ pmN F a b ≤ 2 := by unfold pmN; split <;> omega
def rNew (F : Nat → Nat → Int32) (nn nm nw nc a b la : Nat) (t : Int32) : Nat → Nat → Int32 := chLoop (rLayOut (sF (sF (sF F 20 nc (nI a)) 21 nc (nI b)) 22 nc t) nn nc a b la) nm nw (nc + 1) nc (pmN F a b)
def rComes (v : Nat → Int32) (F : Nat → Nat → Int32) (nn nm nw nc : Nat) (x y t : Int32) : Int32 × (Nat → Int32) × (Nat → Nat → Int32) := if inB x 0 (v 2 - 1) = true ∧ inB y 0 (v 2 - 1) = true then (if rMay F x.toNatClampNeg y.toNatClampNeg (F 3 x.toNatClampNeg).toNatClampNeg = true ∧ (t = 0 ∨ F 5 x.toNatClampNeg = F 5 y.toNatClampNeg) then (if nc = 40 then (-9004, v, F) else (nI nc, va_up v 19 (nI (nc + 1)), rNew F nn nm nw nc x.toNatClampNeg y.toNatClampNeg (F 3 x.toNatClampNeg).toNatClampNeg t)) else (-9003, v, F)) else (-9001, v, F)
set_option maxHeartbeats 4000000 in
set_option maxRecDepth 100000 in
theorem c_X5_comes (l : Launch) (D : va_G) (cs : Nat → ClassId) (A : Nat → Prop) (M : wM) (X : Nat) (ad : Nat → Nat) (v : Nat → Int32) (F : Nat → Nat → Int32) (G : Nat → Nat → Int64) (hS : RS cs M X ad v F G) (nn nm nw nc : Nat) (hnn : v 2 = nI nn) (hn60 : nn ≤ 60) (hnm : v 7 = nI nm) (hm40 : nm ≤ 40) (hnw : v 13 = nI nw) (hw12 : nw ≤ 12) (hnc : v 19 = nI nc) (hc40 : nc ≤ 40) (hln : ∀ a, a < nn → ∃ la, la < 4 ∧ F 3 a = nI la) (p1 p2 t : Int32) (ht : t = 0 ∨ t = 1) : Met l yX5_comes (mw yX5_comes cX5_comes 6 (some .int)) { frames := 6, cells := 0, slots := 0, locals := 164 } (wrP D cs A M [.ref X, .int p1, .int p2, .int t]) (va_Qi (fun r M' => ∃ v' F' G', RS cs M' X ad v' F' G' ∧ (r, v', F') = rComes v F nn nm nw nc p1 p2 t) (wrB D A) A) 0 0 A := by
  refine wr_met rfl (Nat.le_of_ble_eq_true rfl) ?_
  intro p e s m below meth c ls C hW hr hlk hini hl
  have C : kx D cs p m c cX5_comes 6 s _ RX5 := C
  have hx := C.1.1
  have hb := C.1.2.1
  have hl : lv_has ls 6 [(0, .ref X), (1, .int p1), (2, .int p2), (3, .int t)] := hl
  refine lv_aload_n hx hb dX5_comes_0 rfl (lv_at hl 0 rfl) ?_
  refine lv_iload_n hx hb dX5_comes_1 rfl (lv_at hl 1 rfl) ?_
  refine ro_goI (ro_V (As := [.int p1]) (rest := []) C hW.rd st_X5_130 (c_X5_isNote l D cs _ X ad v F G hS p1) hS.1 rfl rfl ⟨rfl, rfl, Nat.le_of_ble_eq_true rfl, Nat.le_of_ble_eq_true rfl⟩ rfl hl.1 rfl (Nat.le_of_ble_eq_true rfl) dX5_comes_2 ⟨Nat.le_of_ble_eq_true rfl, Nat.le_of_ble_eq_true rfl⟩) (fun r_2 h_2 => ?_)
  refine lv_if_eq (tgt := 16) hx hb dX5_comes_5 (by decide) (fun c_5 => ?_) (fun c_5 => ?_)
  · have c_5 : ¬ (inB p1 0 (v 2 - 1) = true) := bz0 h_2 c_5
    refine lv_sipush (v := (-9001)) hx hb dX5_comes_16 (by decide) ?_
    exact wr_iret C hW hr hlk (⟨_, _, _, hS, by simp [rComes, c_5]⟩) dX5_comes_19
  · have c_5 : inB p1 0 (v 2 - 1) = true := bz1 h_2 c_5
    obtain ⟨a, hja, rfl⟩ := inP_nat c_5 hnn (by omega)
    have hcla := nI_clamp (n := a) (by omega)
    refine lv_aload_n hx hb dX5_comes_8 rfl (lv_at hl 0 rfl) ?_
    refine lv_iload_n hx hb dX5_comes_9 rfl (lv_at hl 2 rfl) ?_
    refine ro_goI (ro_V (As := [.int p2]) (rest := []) C hW.rd st_X5_130 (c_X5_isNote l D cs _ X ad v F G hS p2) hS.1 rfl rfl ⟨rfl, rfl, Nat.le_of_ble_eq_true rfl, Nat.le_of_ble_eq_true rfl⟩ rfl hl.1 rfl (Nat.le_of_ble_eq_true rfl) dX5_comes_10 ⟨Nat.le_of_ble_eq_true rfl, Nat.le_of_ble_eq_true rfl⟩) (fun r_10 h_10 => ?_)
    refine lv_if_ne (tgt := 20) hx hb dX5_comes_13 (by decide) (fun c_13 => ?_) (fun c_13 => ?_)
    · have c_13 : inB p2 0 (v 2 - 1) = true := bz1 h_10 c_13
      obtain ⟨b, hjb, rfl⟩ := inP_nat c_13 hnn (by omega)
      have hclb := nI_clamp (n := b) (by omega)
      obtain ⟨la, hl4, hla⟩ := hln a hja
      have hclla := nI_clamp (n := la) (by omega)
      refine lv_aload_n hx hb dX5_comes_20 rfl (lv_at hl 0 rfl) ?_
      refine lv_iload_n hx hb dX5_comes_21 rfl (lv_at hl 1 rfl) ?_
      refine lv_iload_n hx hb dX5_comes_22 rfl (lv_at hl 2 rfl) ?_
      refine ro_goI (ro_V (As := [.int (nI a), .int (nI b)]) (rest := []) C hW.rd st_X5_133 (c_X5_mayBe l D cs _ X ad v F G hS a b (by omega) (by omega) la hla (by omega)) hS.1 rfl rfl ⟨rfl, rfl, Nat.le_of_ble_eq_true rfl, Nat.le_of_ble_eq_true rfl⟩ rfl hl.1 rfl (Nat.le_of_ble_eq_true rfl) dX5_comes_23 ⟨Nat.le_of_ble_eq_true rfl, Nat.le_of_ble_eq_true rfl⟩) (fun r_23 h_23 => ?_)
      refine lv_if_eq (tgt := 48) hx hb dX5_comes_26 (by decide) (fun c_26 => ?_) (fun c_26 => ?_)
      · have c_26 : ¬ (rMay F a b la = true) := bz0 h_23 c_26
        refine lv_sipush (v := (-9003)) hx hb dX5_comes_48 (by decide) ?_
        exact wr_iret C hW hr hlk (⟨_, _, _, hS, by simp [rComes, c_5, c_13, c_26, hcla, hclb, hla, hclla]⟩) dX5_comes_51
      · have c_26 : rMay F a b la = true := bz1 h_23 c_26
        refine W.cutP (t = 0 ∨ F 5 a = F 5 b) (F0 m 52 ls []) (fun hz_52 => ?_) (fun J_52 => ?_)
        · refine lv_aload_n hx hb dX5_comes_52 rfl (lv_at hl 0 rfl) ?_
          refine gf_X5_136 C hW.rd hS.1 rfl dX5_comes_53 ?_
          refine top_eq (y := nI nc) hnc ?_
          refine lv_bipush (v := 40) hx hb dX5_comes_56 (by decide) ?_
          refine lv_icmp_ne (tgt := 65) hx hb dX5_comes_58 (by decide) (fun c_58 => ?_) (fun c_58 => ?_)
          · have c_58 := ceq_f (a := nc) (b := 40) c_58 (by omega) (by omega)
            refine lv_aload_n hx hb dX5_comes_65 rfl (lv_at hl 0 rfl) ?_
            refine gf_X5_136 C hW.rd hS.1 rfl dX5_comes_66 ?_
            refine top_eq (y := nI nc) hnc ?_
            refine lv_istore (lv' := [(4, .int (nI nc)), (0, .ref X), (1, .int (nI a)), (2, .int (nI b)), (3, .int t)]) hx hb dX5_comes_69 hl (by decide) rfl (fun ls hl => ?_)
            refine lv_aload_n hx hb dX5_comes_71 rfl (lv_at hl 1 rfl) ?_
            refine gf_X5_56 C hW.rd hS.1 rfl dX5_comes_72 ?_
            refine lv_iload hx hb dX5_comes_75 (lv_at hl 0 rfl) ?_
            refine lv_iload_n hx hb dX5_comes_77 rfl (lv_at hl 2 rfl) ?_
            refine w_iastN (k := nc) C hW (RS.i hS 20 40 rfl rfl) (by omega) (by decide) rfl dX5_comes_78 (fun H locs hW => ?_)
            obtain ⟨M, F_1, eF_1, hS, hW⟩ : ∃ (M : wM) (w0 : Nat → Nat → Int32), w0 = sF F 20 nc (nI a) ∧ RS cs M X ad v w0 G ∧ wd D A M s.heap H locs := ⟨_, _, rfl, RS.setI hS 20 rfl nc (nI a), hW⟩
            refine lv_aload_n hx hb dX5_comes_79 rfl (lv_at hl 1 rfl) ?_
            refine gf_X5_59 C hW.rd hS.1 rfl dX5_comes_80 ?_
            refine lv_iload hx hb dX5_comes_83 (lv_at hl 0 rfl) ?_
            refine lv_iload_n hx hb dX5_comes_85 rfl (lv_at hl 3 rfl) ?_
            refine w_iastN (k := nc) C hW (RS.i hS 21 40 rfl rfl) (by omega) (by decide) rfl dX5_comes_86 (fun H locs hW => ?_)
            obtain ⟨M, F_2, eF_2, hS, hW⟩ : ∃ (M : wM) (w0 : Nat → Nat → Int32), w0 = sF F_1 21 nc (nI b) ∧ RS cs M X ad v w0 G ∧ wd D A M s.heap H locs := ⟨_, _, rfl, RS.setI hS 21 rfl nc (nI b), hW⟩
            refine lv_aload_n hx hb dX5_comes_87 rfl (lv_at hl 1 rfl) ?_
            refine gf_X5_62 C hW.rd hS.1 rfl dX5_comes_88 ?_
            refine lv_iload hx hb dX5_comes_91 (lv_at hl 0 rfl) ?_
            refine lv_iload_n hx hb dX5_comes_93 rfl (lv_at hl 4 rfl) ?_
            refine w_zastN (k := nc) C hW (RS.z hS 22 40 rfl rfl) (by omega) (by decide) ht rfl dX5_comes_94 (fun H locs hW => ?_)
            obtain ⟨M, F_3, eF_3, hS, hW⟩ : ∃ (M : wM) (w0 : Nat → Nat → Int32), w0 = sF F_2 22 nc t ∧ RS cs M X ad v w0 G ∧ wd D A M s.heap H locs := ⟨_, _, rfl, RS.setZ hS 22 rfl nc t, hW⟩
            refine lv_aload_n hx hb dX5_comes_95 rfl (lv_at hl 1 rfl) ?_
            refine lv_dup hx hb dX5_comes_96 rfl ?_
            refine gf_X5_136 C hW.rd hS.1 rfl dX5_comes_97 ?_
            refine top_eq (y := nI nc) hnc ?_
            refine lv_iconst (v := 1) hx hb dX5_comes_100 (by decide) ?_
            refine lv_iadd hx hb dX5_comes_101 ?_
            refine top_eq (y := nI (nc + 1)) (tn_add rfl rfl) ?_
            refine pf_X5_136 (fs2 := rFl ad (va_up v 19 (nI (nc + 1)))) C hW hS.1 (Nat.le_of_ble_eq_true rfl) rfl dX5_comes_102 (fun H locs hW => ?_)
            obtain ⟨M, v_4, ev_4, hS, hW⟩ : ∃ (M : wM) (w0 : Nat → Int32), w0 = va_up v 19 (nI (nc + 1)) ∧ RS cs M X ad w0 F_3 G ∧ wd D A M s.heap H locs := ⟨_, _, rfl, RS.setV hS 19 rfl (nI (nc + 1)), hW⟩
            refine lv_aload_n hx hb dX5_comes_105 rfl (lv_at hl 1 rfl) ?_
            refine lv_iload hx hb dX5_comes_106 (lv_at hl 0 rfl) ?_
            refine wr_goV hW (wr_V (As := [.int (nI nc)]) (rest := []) C hW st_X5_139 (c_X5_layOut l D cs A _ X ad v_4 F_3 G hS nn (by rw [ev_4, va_up_ne _ _ (by decide)]; exact hnn) (by omega) nc a b la (by omega) (by rw [eF_3, eF_2, eF_1, sF_ne _ _ _ (by decide), sF_ne _ _ _ (by decide), sF_self]) (by rw [eF_3, eF_2, sF_ne _ _ _ (by decide), sF_self]) (by omega) (by omega) (by rw [eF_3, eF_2, eF_1, sF_ne _ _ _ (by decide), sF_ne _ _ _ (by decide), sF_ne _ _ _ (by decide)]; exact hla) hl4) hS.1 rfl rfl ⟨rfl, rfl, Nat.le_of_ble_eq_true rfl, Nat.le_of_ble_eq_true rfl⟩ rfl hl.1 rfl (Nat.le_of_ble_eq_true rfl) dX5_comes_108 ⟨Nat.le_of_ble_eq_true rfl, Nat.le_of_ble_eq_true rfl⟩) (fun M_108 H locs h_108 hW => ?_)
            obtain ⟨F_5, hS, eF_5⟩ := h_108
            have hpm : F_5 24 nc = nI (pmN F a b) := by rw [eF_5, rLayOut_24, eF_3, eF_2, eF_1, sF_ne _ _ _ (by decide), sF_ne _ _ _ (by decide), sF_ne _ _ _ (by decide)]; exact pmN_eq F a b
            have hpl := pmN_le F a b
            have hnm : v_4 7 = nI nm := by rw [ev_4, va_up_ne _ _ (by decide)]; exact hnm
            have hnw : v_4 13 = nI nw := by rw [ev_4, va_up_ne _ _ (by decide)]; exact hnw
            have hnc1 : v_4 19 = nI (nc + 1) := by rw [ev_4, va_up_self]
            refine lv_iconst (v := 0) hx hb dX5_comes_111 (by decide) ?_
            refine lv_istore (lv' := [(5, .int 0), (4, .int (nI nc)), (0, .ref X), (1, .int (nI a)), (2, .int (nI b)), (3, .int t)]) hx hb dX5_comes_112 hl (by decide) rfl (fun ls hl => ?_)
            refine W.loopW (σ := Nat × (Nat → Nat → Int32) × (Nat → Nat → Int64) × Heap × List Loc × wM × Array Slot) (fun ⟨pq, F1, G1, H, locs, M, ls⟩ => F0 m 114 ls []) (fun ⟨pq, F1, G1, H, locs, M, ls⟩ => H) (fun ⟨pq, F1, G1, H, locs, M, ls⟩ => locs) (fun ⟨pq, F1, G1, H, locs, M, ls⟩ => (pq ≤ pmN F a b) ∧ (F1 = chLoop F_5 nm nw (nc + 1) nc pq) ∧ (RS cs M X ad v_4 F1 G1) ∧ wd D A M s.heap H locs ∧ lv_has ls 6 [(5, .int (nI pq)), (4, .int (nI nc)), (0, .ref X), (1, .int (nI a)), (2, .int (nI b)), (3, .int t)]) (fun ⟨pq, F1, G1, H, locs, M, ls⟩ => pmN F a b - pq) ?_ (0, F_5, G, _, _, _, _) ⟨by omega, rfl, hS, hW, lv_sub hl [0, 1, 2, 3, 4, 5] rfl⟩ rfl rfl rfl
            intro ⟨pq, F1, G1, H, locs, M, ls⟩ ⟨hpq, eF1, hS, hW, hl⟩ ih_114
            show W _ _ _ _ _ _ _ _ _ _ H locs _ _ _ (F0 m 114 ls [])
            have hl : lv_has ls 6 [(5, .int (nI pq)), (4, .int (nI nc)), (0, .ref X), (1, .int (nI a)), (2, .int (nI b)), (3, .int t)] := hl
            refine lv_iload hx hb dX5_comes_114 (lv_at hl 0 rfl) ?_
            refine lv_aload_n hx hb dX5_comes_116 rfl (lv_at hl 2 rfl) ?_
            refine gf_X5_68 C hW.rd hS.1 rfl dX5_comes_117 ?_
            refine lv_iload hx hb dX5_comes_120 (lv_at hl 1 rfl) ?_
            refine r_ialdN (k := nc) C hW.rd (RS.i hS 24 40 rfl rfl) (by omega) (by decide) rfl dX5_comes_122 ?_
            refine top_eq (y := nI (pmN F a b)) (by rw [eF1, chLoop_ne _ _ _ _ _ _ (by decide) (by decide)]; exact hpm) ?_
            refine lv_icmp_ge (tgt := 140) hx hb dX5_comes_123 (by decide) (fun c_123 => ?_) (fun c_123 => ?_)
            · have c_123 := cle_t (a := (pmN F a b)) (b := pq) c_123 (by omega) (by omega)
              refine lv_iload hx hb dX5_comes_140 (lv_at hl 1 rfl) ?_
              exact wr_iret C hW hr hlk (⟨_, _, _, hS, by subst ev_4 eF_5 eF_3 eF_2 eF_1; rw [rComes]; simp only [hcla, hclb, hla, hclla]; rw [if_pos ⟨c_5, c_13⟩, if_pos ⟨c_26, hz_52⟩, if_neg c_58, eF1, show pq = pmN F a b by omega]; rfl⟩) dX5_comes_142
            · have c_123 := cle_f (a := (pmN F a b)) (b := pq) c_123 (by omega) (by omega)
              refine lv_aload_n hx hb dX5_comes_126 rfl (lv_at hl 2 rfl) ?_
              refine lv_iload hx hb dX5_comes_127 (lv_at hl 1 rfl) ?_
              refine lv_iload hx hb dX5_comes_129 (lv_at hl 0 rfl) ?_
              refine wr_goV hW (wr_V (As := [.int (nI nc), .int (nI pq)]) (rest := []) C hW st_X5_143 (c_X5_choose l D cs A _ X ad v_4 F1 G1 hS nm nw (nc + 1) hnm (by omega) hnw (by omega) hnc1 (by omega) nc pq (by omega) (by omega)) hS.1 rfl rfl ⟨rfl, rfl, Nat.le_of_ble_eq_true rfl, Nat.le_of_ble_eq_true rfl⟩ rfl hl.1 rfl (Nat.le_of_ble_eq_true rfl) dX5_comes_131 ⟨Nat.le_of_ble_eq_true rfl, Nat.le_of_ble_eq_true rfl⟩) (fun M_131 H locs h_131 hW => ?_)
              obtain ⟨F_6, G_6, hS, eF_6⟩ := h_131
              refine lv_iinc (v := nI (pq + 1)) (lv' := [(5, .int (nI (pq + 1))), (4, .int (nI nc)), (0, .ref X), (1, .int (nI a)), (2, .int (nI b)), (3, .int t)]) hx hb dX5_comes_134 hl (k := 0) rfl (by exact tn_add rfl rfl) (by decide) rfl (fun ls hl => ?_)
              refine lv_goto (tgt := 114) hx hb dX5_comes_137 (by decide) ?_
              exact ih_114 ((pq + 1), F_6, G_6, _, _, _, _) ⟨by omega, by subst eF_6; rw [chLoop, ← eF1], hS, hW, lv_sub hl [0, 1, 2, 3, 4, 5] rfl⟩ (by show pmN F a b - (pq + 1) < pmN F a b - pq; omega)
          · have c_58 := ceq_t (a := nc) (b := 40) c_58 (by omega) (by omega)
            refine lv_sipush (v := (-9004)) hx hb dX5_comes_61 (by decide) ?_
            exact wr_iret C hW hr hlk (⟨_, _, _, hS, by simp [rComes, c_5, c_13, c_26, hz_52, c_58, hcla, hclb, hla, hclla]⟩) dX5_comes_64
        · refine lv_iload_n hx hb dX5_comes_29 rfl (lv_at hl 3 rfl) ?_
          refine lv_if_eq (tgt := 52) hx hb dX5_comes_30 (by decide) (fun c_30 => ?_) (fun c_30 => ?_)
          · exact J_52 (Or.inl c_30)
          · refine lv_aload_n hx hb dX5_comes_33 rfl (lv_at hl 0 rfl) ?_
            refine gf_X5_19 C hW.rd hS.1 rfl dX5_comes_34 ?_
            refine lv_iload_n hx hb dX5_comes_37 rfl (lv_at hl 1 rfl) ?_
            refine r_ialdN (k := a) C hW.rd (RS.i hS 5 60 rfl rfl) (by omega) (by decide) rfl dX5_comes_38 ?_
            refine lv_aload_n hx hb dX5_comes_39 rfl (lv_at hl 0 rfl) ?_
            refine gf_X5_19 C hW.rd hS.1 rfl dX5_comes_40 ?_
            refine lv_iload_n hx hb dX5_comes_43 rfl (lv_at hl 2 rfl) ?_
            refine r_ialdN (k := b) C hW.rd (RS.i hS 5 60 rfl rfl) (by omega) (by decide) rfl dX5_comes_44 ?_
            refine lv_icmp_eq (tgt := 52) hx hb dX5_comes_45 (by decide) (fun c_45 => ?_) (fun c_45 => ?_)
            · exact J_52 (Or.inr c_45)
            · refine lv_sipush (v := (-9003)) hx hb dX5_comes_48 (by decide) ?_
              exact wr_iret C hW hr hlk (⟨_, _, _, hS, by simp [rComes, c_5, c_13, c_26, c_30, c_45, hcla, hclb, hla, hclla]⟩) dX5_comes_51
    · have c_13 : ¬ (inB p2 0 (v 2 - 1) = true) := bz0 h_10 c_13
      refine lv_sipush (v := (-9001)) hx hb dX5_comes_16 (by decide) ?_
      exact wr_iret C hW hr hlk (⟨_, _, _, hS, by simp [rComes, c_5, c_13, hcla]⟩) dX5_comes_19

set_option maxHeartbeats 4000000 in
set_option maxRecDepth 100000 in
theorem c_X5_tie (l : Launch) (D : va_G) (cs : Nat → ClassId) (A : Nat → Prop) (M : wM) (X : Nat) (ad : Nat → Nat) (v : Nat → Int32) (F : Nat → Nat → Int32) (G : Nat → Nat → Int64) (hS : RS cs M X ad v F G) (nn nm nw nc : Nat) (hnn : v 2 = nI nn) (hn60 : nn ≤ 60) (hnm : v 7 = nI nm) (hm40 : nm ≤ 40) (hnw : v 13 = nI nw) (hw12 : nw ≤ 12) (hnc : v 19 = nI nc) (hc40 : nc ≤ 40) (hln : ∀ a, a < nn → ∃ la, la < 4 ∧ F 3 a = nI la) (p1 p2 : Int32) : Met l yX5_tie (mw yX5_tie cX5_tie 3 (some .int)) { frames := 7, cells := 0, slots := 0, locals := 189 } (wrP D cs A M [.ref X, .int p1, .int p2]) (va_Qi (fun r M' => ∃ v' F' G', RS cs M' X ad v' F' G' ∧ (r, v', F') = rComes v F nn nm nw nc p1 p2 1) (wrB D A) A) 0 0 A := by
  refine wr_met rfl (Nat.le_of_ble_eq_true rfl) ?_
  intro p e s m below meth c ls C hW hr hlk hini hl
  have C : kx D cs p m c cX5_tie 3 s _ RX5 := C
  have hx := C.1.1
  have hb := C.1.2.1
  have hl : lv_has ls 3 [(0, .ref X), (1, .int p1), (2, .int p2)] := hl
  refine lv_aload_n hx hb dX5_tie_0 rfl (lv_at hl 0 rfl) ?_
  refine lv_iload_n hx hb dX5_tie_1 rfl (lv_at hl 1 rfl) ?_
  refine lv_iload_n hx hb dX5_tie_2 rfl (lv_at hl 2 rfl) ?_
  refine lv_iconst (v := 1) hx hb dX5_tie_3 (by decide) ?_
  refine wr_goI hW (wr_V (As := [.int p1, .int p2, .int 1]) (rest := []) C hW st_X5_147 (c_X5_comes l D cs A _ X ad v F G hS nn nm nw nc hnn (by omega) hnm (by omega) hnw (by omega) hnc (by omega) hln p1 p2 1 (Or.inr rfl)) hS.1 rfl rfl ⟨rfl, rfl, Nat.le_of_ble_eq_true rfl, Nat.le_of_ble_eq_true rfl⟩ rfl hl.1 rfl (Nat.le_of_ble_eq_true rfl) dX5_tie_4 ⟨Nat.le_of_ble_eq_true rfl, Nat.le_of_ble_eq_true rfl⟩) (fun r_4 M_4 H locs h_4 hW => ?_)
  exact wr_iret C hW hr hlk h_4 dX5_tie_7

set_option maxHeartbeats 4000000 in
set_option maxRecDepth 100000 in
theorem c_X5_slur (l : Launch) (D : va_G) (cs : Nat → ClassId) (A : Nat → Prop) (M : wM) (X : Nat) (ad : Nat → Nat) (v : Nat → Int32) (F : Nat → Nat → Int32) (G : Nat → Nat → Int64) (hS : RS cs M X ad v F G) (nn nm nw nc : Nat) (hnn : v 2 = nI nn) (hn60 : nn ≤ 60) (hnm : v 7 = nI nm) (hm40 : nm ≤ 40) (hnw : v 13 = nI nw) (hw12 : nw ≤ 12) (hnc : v 19 = nI nc) (hc40 : nc ≤ 40) (hln : ∀ a, a < nn → ∃ la, la < 4 ∧ F 3 a = nI la) (p1 p2 : Int32) : Met l yX5_slur (mw yX5_slur cX5_slur 3 (some .int)) { frames := 7, cells := 0, slots := 0, locals := 189 } (wrP D cs A M [.ref X, .int p1, .int p2]) (va_Qi (fun r M' => ∃ v' F' G', RS cs M' X ad v' F' G' ∧ (r, v', F') = rComes v F nn nm nw nc p1 p2 0) (wrB D A) A) 0 0 A := by
  refine wr_met rfl (Nat.le_of_ble_eq_true rfl) ?_
  intro p e s m below meth c ls C hW hr hlk hini hl
  have C : kx D cs p m c cX5_slur 3 s _ RX5 := C
  have hx := C.1.1
  have hb := C.1.2.1
  have hl : lv_has ls 3 [(0, .ref X), (1, .int p1), (2, .int p2)] := hl
  refine lv_aload_n hx hb dX5_slur_0 rfl (lv_at hl 0 rfl) ?_
  refine lv_iload_n hx hb dX5_slur_1 rfl (lv_at hl 1 rfl) ?_
  refine lv_iload_n hx hb dX5_slur_2 rfl (lv_at hl 2 rfl) ?_
  refine lv_iconst (v := 0) hx hb dX5_slur_3 (by decide) ?_
  refine wr_goI hW (wr_V (As := [.int p1, .int p2, .int 0]) (rest := []) C hW st_X5_147 (c_X5_comes l D cs A _ X ad v F G hS nn nm nw nc hnn (by omega) hnm (by omega) hnw (by omega) hnc (by omega) hln p1 p2 0 (Or.inl rfl)) hS.1 rfl rfl ⟨rfl, rfl, Nat.le_of_ble_eq_true rfl, Nat.le_of_ble_eq_true rfl⟩ rfl hl.1 rfl (Nat.le_of_ble_eq_true rfl) dX5_slur_4 ⟨Nat.le_of_ble_eq_true rfl, Nat.le_of_ble_eq_true rfl⟩) (fun r_4 M_4 H locs h_4 hW => ?_)
  exact wr_iret C hW hr hlk h_4 dX5_slur_7
end
