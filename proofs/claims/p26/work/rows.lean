section
-- ===== PART A: goes FIRST, ahead of the names: the tables' words, and 'selects' of the private methods out of them =====
/-- a private method of a class that the tables say can be made, by its rows of tables_1 -/
def lw_okq (q : MethodName × Nat) : Prop := (q.1.cls ≠ "java/lang/invoke/MethodHandle" ∧ q.1.cls ≠ "java/lang/invoke/VarHandle") ∧ Cond.instantiable q.1.cls q.2 ∈ tables_1 ∧ Cond.privateMethod q.1 ∈ tables_1 ∧ Cond.instanceMethod q.1 ∈ tables_1
theorem lw_p0 : lw_okq (⟨"FoldedTheatre$State", "occupied", "()I"⟩, 4) := ⟨⟨by decide +kernel, by decide +kernel⟩, List.mem_of_getElem? (i := 20) (by decide +kernel), List.mem_of_getElem? (i := 226) (by decide +kernel), List.mem_of_getElem? (i := 227) (by decide +kernel)⟩
theorem lw_p1 : lw_okq (⟨"FoldedTheatre$State", "pieceAt", "(I)LFoldedTheatre$Piece;"⟩, 4) := ⟨⟨by decide +kernel, by decide +kernel⟩, List.mem_of_getElem? (i := 20) (by decide +kernel), List.mem_of_getElem? (i := 230) (by decide +kernel), List.mem_of_getElem? (i := 231) (by decide +kernel)⟩
theorem lw_p2 : lw_okq (⟨"FoldedTheatre$Piece", "width", "()I"⟩, 5) := ⟨⟨by decide +kernel, by decide +kernel⟩, List.mem_of_getElem? (i := 27) (by decide +kernel), List.mem_of_getElem? (i := 234) (by decide +kernel), List.mem_of_getElem? (i := 235) (by decide +kernel)⟩
theorem lw_p3 : lw_okq (⟨"FoldedTheatre$Piece", "greatestSize", "()I"⟩, 5) := ⟨⟨by decide +kernel, by decide +kernel⟩, List.mem_of_getElem? (i := 27) (by decide +kernel), List.mem_of_getElem? (i := 238) (by decide +kernel), List.mem_of_getElem? (i := 239) (by decide +kernel)⟩
theorem lw_p4 : lw_okq (⟨"FoldedTheatre$Piece", "placeOf", "(I)I"⟩, 5) := ⟨⟨by decide +kernel, by decide +kernel⟩, List.mem_of_getElem? (i := 27) (by decide +kernel), List.mem_of_getElem? (i := 248) (by decide +kernel), List.mem_of_getElem? (i := 249) (by decide +kernel)⟩
theorem lw_p5 : lw_okq (⟨"FoldedTheatre", "refuse", "(II)I"⟩, 13) := ⟨⟨by decide +kernel, by decide +kernel⟩, List.mem_of_getElem? (i := 12) (by decide +kernel), List.mem_of_getElem? (i := 255) (by decide +kernel), List.mem_of_getElem? (i := 256) (by decide +kernel)⟩
theorem lw_p6 : lw_okq (⟨"FoldedTheatre$History", "push", "(LFoldedTheatre$State;)V"⟩, 4) := ⟨⟨by decide +kernel, by decide +kernel⟩, List.mem_of_getElem? (i := 80) (by decide +kernel), List.mem_of_getElem? (i := 259) (by decide +kernel), List.mem_of_getElem? (i := 260) (by decide +kernel)⟩
theorem lw_p7 : lw_okq (⟨"FoldedTheatre$History", "stateAt", "(I)LFoldedTheatre$State;"⟩, 4) := ⟨⟨by decide +kernel, by decide +kernel⟩, List.mem_of_getElem? (i := 80) (by decide +kernel), List.mem_of_getElem? (i := 263) (by decide +kernel), List.mem_of_getElem? (i := 264) (by decide +kernel)⟩
theorem lw_p8 : lw_okq (⟨"FoldedTheatre$State", "copyFrom", "(LFoldedTheatre$State;)V"⟩, 4) := ⟨⟨by decide +kernel, by decide +kernel⟩, List.mem_of_getElem? (i := 20) (by decide +kernel), List.mem_of_getElem? (i := 267) (by decide +kernel), List.mem_of_getElem? (i := 268) (by decide +kernel)⟩
theorem lw_p9 : lw_okq (⟨"FoldedTheatre$Piece", "copyFrom", "(LFoldedTheatre$Piece;)V"⟩, 5) := ⟨⟨by decide +kernel, by decide +kernel⟩, List.mem_of_getElem? (i := 27) (by decide +kernel), List.mem_of_getElem? (i := 271) (by decide +kernel), List.mem_of_getElem? (i := 272) (by decide +kernel)⟩
theorem lw_p10 : lw_okq (⟨"FoldedTheatre$Piece", "takeSizes", "(II)Z"⟩, 5) := ⟨⟨by decide +kernel, by decide +kernel⟩, List.mem_of_getElem? (i := 27) (by decide +kernel), List.mem_of_getElem? (i := 283) (by decide +kernel), List.mem_of_getElem? (i := 284) (by decide +kernel)⟩
theorem lw_p11 : lw_okq (⟨"FoldedTheatre$Piece", "sum", "()I"⟩, 5) := ⟨⟨by decide +kernel, by decide +kernel⟩, List.mem_of_getElem? (i := 27) (by decide +kernel), List.mem_of_getElem? (i := 290) (by decide +kernel), List.mem_of_getElem? (i := 291) (by decide +kernel)⟩
theorem lw_p12 : lw_okq (⟨"FoldedTheatre$Piece", "takeCreases", "(I)Z"⟩, 5) := ⟨⟨by decide +kernel, by decide +kernel⟩, List.mem_of_getElem? (i := 27) (by decide +kernel), List.mem_of_getElem? (i := 294) (by decide +kernel), List.mem_of_getElem? (i := 295) (by decide +kernel)⟩
theorem lw_p13 : lw_okq (⟨"FoldedTheatre$Piece", "creaseCount", "()I"⟩, 5) := ⟨⟨by decide +kernel, by decide +kernel⟩, List.mem_of_getElem? (i := 27) (by decide +kernel), List.mem_of_getElem? (i := 298) (by decide +kernel), List.mem_of_getElem? (i := 299) (by decide +kernel)⟩
theorem lw_p14 : lw_okq (⟨"FoldedTheatre$State", "addCopyOf", "(LFoldedTheatre$Piece;)V"⟩, 4) := ⟨⟨by decide +kernel, by decide +kernel⟩, List.mem_of_getElem? (i := 20) (by decide +kernel), List.mem_of_getElem? (i := 305) (by decide +kernel), List.mem_of_getElem? (i := 306) (by decide +kernel)⟩
theorem lw_p15 : lw_okq (⟨"FoldedTheatre$Piece", "hasCrease", "(I)Z"⟩, 5) := ⟨⟨by decide +kernel, by decide +kernel⟩, List.mem_of_getElem? (i := 27) (by decide +kernel), List.mem_of_getElem? (i := 314) (by decide +kernel), List.mem_of_getElem? (i := 315) (by decide +kernel)⟩
def lw_privs_1 : List (MethodName × Nat) := [(⟨"FoldedTheatre$State", "occupied", "()I"⟩, 4), (⟨"FoldedTheatre$State", "pieceAt", "(I)LFoldedTheatre$Piece;"⟩, 4), (⟨"FoldedTheatre$Piece", "width", "()I"⟩, 5), (⟨"FoldedTheatre$Piece", "greatestSize", "()I"⟩, 5), (⟨"FoldedTheatre$Piece", "placeOf", "(I)I"⟩, 5), (⟨"FoldedTheatre", "refuse", "(II)I"⟩, 13), (⟨"FoldedTheatre$History", "push", "(LFoldedTheatre$State;)V"⟩, 4), (⟨"FoldedTheatre$History", "stateAt", "(I)LFoldedTheatre$State;"⟩, 4), (⟨"FoldedTheatre$State", "copyFrom", "(LFoldedTheatre$State;)V"⟩, 4), (⟨"FoldedTheatre$Piece", "copyFrom", "(LFoldedTheatre$Piece;)V"⟩, 5), (⟨"FoldedTheatre$Piece", "takeSizes", "(II)Z"⟩, 5), (⟨"FoldedTheatre$Piece", "sum", "()I"⟩, 5), (⟨"FoldedTheatre$Piece", "takeCreases", "(I)Z"⟩, 5), (⟨"FoldedTheatre$Piece", "creaseCount", "()I"⟩, 5), (⟨"FoldedTheatre$State", "addCopyOf", "(LFoldedTheatre$Piece;)V"⟩, 4), (⟨"FoldedTheatre$Piece", "hasCrease", "(I)Z"⟩, 5)]
theorem lw_r1 : ∀ q ∈ lw_privs_1, lw_okq q := List.forall_mem_cons.mpr ⟨lw_p0, List.forall_mem_cons.mpr ⟨lw_p1, List.forall_mem_cons.mpr ⟨lw_p2, List.forall_mem_cons.mpr ⟨lw_p3, List.forall_mem_cons.mpr ⟨lw_p4, List.forall_mem_cons.mpr ⟨lw_p5, List.forall_mem_cons.mpr ⟨lw_p6, List.forall_mem_cons.mpr ⟨lw_p7, List.forall_mem_cons.mpr ⟨lw_p8, List.forall_mem_cons.mpr ⟨lw_p9, List.forall_mem_cons.mpr ⟨lw_p10, List.forall_mem_cons.mpr ⟨lw_p11, List.forall_mem_cons.mpr ⟨lw_p12, List.forall_mem_cons.mpr ⟨lw_p13, List.forall_mem_cons.mpr ⟨lw_p14, List.forall_mem_cons.mpr ⟨lw_p15, fun _ h => absurd h List.not_mem_nil⟩⟩⟩⟩⟩⟩⟩⟩⟩⟩⟩⟩⟩⟩⟩⟩
theorem lw_p16 : lw_okq (⟨"FoldedTheatre$Piece", "turnOver", "()V"⟩, 5) := ⟨⟨by decide +kernel, by decide +kernel⟩, List.mem_of_getElem? (i := 27) (by decide +kernel), List.mem_of_getElem? (i := 325) (by decide +kernel), List.mem_of_getElem? (i := 326) (by decide +kernel)⟩
theorem lw_p17 : lw_okq (⟨"FoldedTheatre$Piece", "countOf", "(I)I"⟩, 5) := ⟨⟨by decide +kernel, by decide +kernel⟩, List.mem_of_getElem? (i := 27) (by decide +kernel), List.mem_of_getElem? (i := 330) (by decide +kernel), List.mem_of_getElem? (i := 331) (by decide +kernel)⟩
theorem lw_p18 : lw_okq (⟨"FoldedTheatre$Piece", "becomeRotated", "(LFoldedTheatre$Piece;I)V"⟩, 5) := ⟨⟨by decide +kernel, by decide +kernel⟩, List.mem_of_getElem? (i := 27) (by decide +kernel), List.mem_of_getElem? (i := 339) (by decide +kernel), List.mem_of_getElem? (i := 340) (by decide +kernel)⟩
theorem lw_p19 : lw_okq (⟨"FoldedTheatre$Piece", "sizesAsNumber", "()I"⟩, 5) := ⟨⟨by decide +kernel, by decide +kernel⟩, List.mem_of_getElem? (i := 27) (by decide +kernel), List.mem_of_getElem? (i := 343) (by decide +kernel), List.mem_of_getElem? (i := 344) (by decide +kernel)⟩
theorem lw_p20 : lw_okq (⟨"FoldedTheatre$Piece", "lengthenBy", "(LFoldedTheatre$Piece;I)V"⟩, 5) := ⟨⟨by decide +kernel, by decide +kernel⟩, List.mem_of_getElem? (i := 27) (by decide +kernel), List.mem_of_getElem? (i := 351) (by decide +kernel), List.mem_of_getElem? (i := 352) (by decide +kernel)⟩
theorem lw_p21 : lw_okq (⟨"FoldedTheatre$State", "removeAt", "(I)V"⟩, 4) := ⟨⟨by decide +kernel, by decide +kernel⟩, List.mem_of_getElem? (i := 20) (by decide +kernel), List.mem_of_getElem? (i := 355) (by decide +kernel), List.mem_of_getElem? (i := 356) (by decide +kernel)⟩
theorem lw_p22 : lw_okq (⟨"FoldedTheatre$Piece", "becomeEndOf", "(LFoldedTheatre$Piece;I)V"⟩, 5) := ⟨⟨by decide +kernel, by decide +kernel⟩, List.mem_of_getElem? (i := 27) (by decide +kernel), List.mem_of_getElem? (i := 364) (by decide +kernel), List.mem_of_getElem? (i := 365) (by decide +kernel)⟩
theorem lw_p23 : lw_okq (⟨"FoldedTheatre$Piece", "isUndecided", "()Z"⟩, 5) := ⟨⟨by decide +kernel, by decide +kernel⟩, List.mem_of_getElem? (i := 27) (by decide +kernel), List.mem_of_getElem? (i := 372) (by decide +kernel), List.mem_of_getElem? (i := 373) (by decide +kernel)⟩
theorem lw_p24 : lw_okq (⟨"FoldedTheatre$Piece", "lowestUndecided", "()I"⟩, 5) := ⟨⟨by decide +kernel, by decide +kernel⟩, List.mem_of_getElem? (i := 27) (by decide +kernel), List.mem_of_getElem? (i := 377) (by decide +kernel), List.mem_of_getElem? (i := 378) (by decide +kernel)⟩
theorem lw_p25 : lw_okq (⟨"FoldedTheatre$Reducer", "whatStandsInTheWay", "(LFoldedTheatre$Piece;)I"⟩, 4) := ⟨⟨by decide +kernel, by decide +kernel⟩, List.mem_of_getElem? (i := 141) (by decide +kernel), List.mem_of_getElem? (i := 381) (by decide +kernel), List.mem_of_getElem? (i := 382) (by decide +kernel)⟩
theorem lw_p26 : lw_okq (⟨"FoldedTheatre$Reducer", "load", "(LFoldedTheatre$Piece;)V"⟩, 4) := ⟨⟨by decide +kernel, by decide +kernel⟩, List.mem_of_getElem? (i := 141) (by decide +kernel), List.mem_of_getElem? (i := 386) (by decide +kernel), List.mem_of_getElem? (i := 387) (by decide +kernel)⟩
theorem lw_p27 : lw_okq (⟨"FoldedTheatre$Reducer", "putCrease", "(II)V"⟩, 4) := ⟨⟨by decide +kernel, by decide +kernel⟩, List.mem_of_getElem? (i := 141) (by decide +kernel), List.mem_of_getElem? (i := 393) (by decide +kernel), List.mem_of_getElem? (i := 394) (by decide +kernel)⟩
theorem lw_p28 : lw_okq (⟨"FoldedTheatre$Reducer", "evenAngles", "()I"⟩, 4) := ⟨⟨by decide +kernel, by decide +kernel⟩, List.mem_of_getElem? (i := 141) (by decide +kernel), List.mem_of_getElem? (i := 398) (by decide +kernel), List.mem_of_getElem? (i := 399) (by decide +kernel)⟩
theorem lw_p29 : lw_okq (⟨"FoldedTheatre$Reducer", "hasSmallAngleOfOneKind", "()Z"⟩, 4) := ⟨⟨by decide +kernel, by decide +kernel⟩, List.mem_of_getElem? (i := 141) (by decide +kernel), List.mem_of_getElem? (i := 406) (by decide +kernel), List.mem_of_getElem? (i := 407) (by decide +kernel)⟩
theorem lw_p30 : lw_okq (⟨"FoldedTheatre$Reducer", "before", "(I)I"⟩, 4) := ⟨⟨by decide +kernel, by decide +kernel⟩, List.mem_of_getElem? (i := 141) (by decide +kernel), List.mem_of_getElem? (i := 410) (by decide +kernel), List.mem_of_getElem? (i := 411) (by decide +kernel)⟩
theorem lw_p31 : lw_okq (⟨"FoldedTheatre$Reducer", "after", "(I)I"⟩, 4) := ⟨⟨by decide +kernel, by decide +kernel⟩, List.mem_of_getElem? (i := 141) (by decide +kernel), List.mem_of_getElem? (i := 414) (by decide +kernel), List.mem_of_getElem? (i := 415) (by decide +kernel)⟩
def lw_privs_2 : List (MethodName × Nat) := [(⟨"FoldedTheatre$Piece", "turnOver", "()V"⟩, 5), (⟨"FoldedTheatre$Piece", "countOf", "(I)I"⟩, 5), (⟨"FoldedTheatre$Piece", "becomeRotated", "(LFoldedTheatre$Piece;I)V"⟩, 5), (⟨"FoldedTheatre$Piece", "sizesAsNumber", "()I"⟩, 5), (⟨"FoldedTheatre$Piece", "lengthenBy", "(LFoldedTheatre$Piece;I)V"⟩, 5), (⟨"FoldedTheatre$State", "removeAt", "(I)V"⟩, 4), (⟨"FoldedTheatre$Piece", "becomeEndOf", "(LFoldedTheatre$Piece;I)V"⟩, 5), (⟨"FoldedTheatre$Piece", "isUndecided", "()Z"⟩, 5), (⟨"FoldedTheatre$Piece", "lowestUndecided", "()I"⟩, 5), (⟨"FoldedTheatre$Reducer", "whatStandsInTheWay", "(LFoldedTheatre$Piece;)I"⟩, 4), (⟨"FoldedTheatre$Reducer", "load", "(LFoldedTheatre$Piece;)V"⟩, 4), (⟨"FoldedTheatre$Reducer", "putCrease", "(II)V"⟩, 4), (⟨"FoldedTheatre$Reducer", "evenAngles", "()I"⟩, 4), (⟨"FoldedTheatre$Reducer", "hasSmallAngleOfOneKind", "()Z"⟩, 4), (⟨"FoldedTheatre$Reducer", "before", "(I)I"⟩, 4), (⟨"FoldedTheatre$Reducer", "after", "(I)I"⟩, 4)]
theorem lw_r2 : ∀ q ∈ lw_privs_2, lw_okq q := List.forall_mem_cons.mpr ⟨lw_p16, List.forall_mem_cons.mpr ⟨lw_p17, List.forall_mem_cons.mpr ⟨lw_p18, List.forall_mem_cons.mpr ⟨lw_p19, List.forall_mem_cons.mpr ⟨lw_p20, List.forall_mem_cons.mpr ⟨lw_p21, List.forall_mem_cons.mpr ⟨lw_p22, List.forall_mem_cons.mpr ⟨lw_p23, List.forall_mem_cons.mpr ⟨lw_p24, List.forall_mem_cons.mpr ⟨lw_p25, List.forall_mem_cons.mpr ⟨lw_p26, List.forall_mem_cons.mpr ⟨lw_p27, List.forall_mem_cons.mpr ⟨lw_p28, List.forall_mem_cons.mpr ⟨lw_p29, List.forall_mem_cons.mpr ⟨lw_p30, List.forall_mem_cons.mpr ⟨lw_p31, fun _ h => absurd h List.not_mem_nil⟩⟩⟩⟩⟩⟩⟩⟩⟩⟩⟩⟩⟩⟩⟩⟩
theorem lw_p32 : lw_okq (⟨"FoldedTheatre$Reducer", "reduce", "()I"⟩, 4) := ⟨⟨by decide +kernel, by decide +kernel⟩, List.mem_of_getElem? (i := 141) (by decide +kernel), List.mem_of_getElem? (i := 418) (by decide +kernel), List.mem_of_getElem? (i := 419) (by decide +kernel)⟩
theorem lw_p33 : lw_okq (⟨"FoldedTheatre$Reducer", "firstStep", "()I"⟩, 4) := ⟨⟨by decide +kernel, by decide +kernel⟩, List.mem_of_getElem? (i := 141) (by decide +kernel), List.mem_of_getElem? (i := 422) (by decide +kernel), List.mem_of_getElem? (i := 423) (by decide +kernel)⟩
theorem lw_p34 : lw_okq (⟨"FoldedTheatre$Reducer", "make", "(I)V"⟩, 4) := ⟨⟨by decide +kernel, by decide +kernel⟩, List.mem_of_getElem? (i := 141) (by decide +kernel), List.mem_of_getElem? (i := 426) (by decide +kernel), List.mem_of_getElem? (i := 427) (by decide +kernel)⟩
theorem lw_p35 : lw_okq (⟨"FoldedTheatre$Reducer", "isReduced", "()Z"⟩, 4) := ⟨⟨by decide +kernel, by decide +kernel⟩, List.mem_of_getElem? (i := 141) (by decide +kernel), List.mem_of_getElem? (i := 435) (by decide +kernel), List.mem_of_getElem? (i := 436) (by decide +kernel)⟩
theorem lw_p36 : lw_okq (⟨"FoldedTheatre$Layers", "search", "(LFoldedTheatre$Piece;I)I"⟩, 4) := ⟨⟨by decide +kernel, by decide +kernel⟩, List.mem_of_getElem? (i := 160) (by decide +kernel), List.mem_of_getElem? (i := 472) (by decide +kernel), List.mem_of_getElem? (i := 473) (by decide +kernel)⟩
theorem lw_p37 : lw_okq (⟨"FoldedTheatre$Layers", "load", "(LFoldedTheatre$Piece;)V"⟩, 4) := ⟨⟨by decide +kernel, by decide +kernel⟩, List.mem_of_getElem? (i := 160) (by decide +kernel), List.mem_of_getElem? (i := 476) (by decide +kernel), List.mem_of_getElem? (i := 477) (by decide +kernel)⟩
theorem lw_p38 : lw_okq (⟨"FoldedTheatre$Layers", "nextLayer", "(I)I"⟩, 4) := ⟨⟨by decide +kernel, by decide +kernel⟩, List.mem_of_getElem? (i := 160) (by decide +kernel), List.mem_of_getElem? (i := 485) (by decide +kernel), List.mem_of_getElem? (i := 486) (by decide +kernel)⟩
theorem lw_p39 : lw_okq (⟨"FoldedTheatre$Layers", "isFree", "(II)Z"⟩, 4) := ⟨⟨by decide +kernel, by decide +kernel⟩, List.mem_of_getElem? (i := 160) (by decide +kernel), List.mem_of_getElem? (i := 490) (by decide +kernel), List.mem_of_getElem? (i := 491) (by decide +kernel)⟩
theorem lw_p40 : lw_okq (⟨"FoldedTheatre$Layers", "isAsCreased", "(II)Z"⟩, 4) := ⟨⟨by decide +kernel, by decide +kernel⟩, List.mem_of_getElem? (i := 160) (by decide +kernel), List.mem_of_getElem? (i := 494) (by decide +kernel), List.mem_of_getElem? (i := 495) (by decide +kernel)⟩
theorem lw_p41 : lw_okq (⟨"FoldedTheatre$Layers", "layersCollide", "()Z"⟩, 4) := ⟨⟨by decide +kernel, by decide +kernel⟩, List.mem_of_getElem? (i := 160) (by decide +kernel), List.mem_of_getElem? (i := 498) (by decide +kernel), List.mem_of_getElem? (i := 499) (by decide +kernel)⟩
theorem lw_p42 : lw_okq (⟨"FoldedTheatre$Layers", "isPierced", "(I)Z"⟩, 4) := ⟨⟨by decide +kernel, by decide +kernel⟩, List.mem_of_getElem? (i := 160) (by decide +kernel), List.mem_of_getElem? (i := 502) (by decide +kernel), List.mem_of_getElem? (i := 503) (by decide +kernel)⟩
theorem lw_p43 : lw_okq (⟨"FoldedTheatre$Layers", "isBetween", "(II)Z"⟩, 4) := ⟨⟨by decide +kernel, by decide +kernel⟩, List.mem_of_getElem? (i := 160) (by decide +kernel), List.mem_of_getElem? (i := 507) (by decide +kernel), List.mem_of_getElem? (i := 508) (by decide +kernel)⟩
theorem lw_p44 : lw_okq (⟨"FoldedTheatre$Layers", "isCrossed", "(I)Z"⟩, 4) := ⟨⟨by decide +kernel, by decide +kernel⟩, List.mem_of_getElem? (i := 160) (by decide +kernel), List.mem_of_getElem? (i := 511) (by decide +kernel), List.mem_of_getElem? (i := 512) (by decide +kernel)⟩
theorem lw_p45 : lw_okq (⟨"FoldedTheatre$Reducer", "countWays", "(LFoldedTheatre$Piece;)I"⟩, 4) := ⟨⟨by decide +kernel, by decide +kernel⟩, List.mem_of_getElem? (i := 141) (by decide +kernel), List.mem_of_getElem? (i := 530) (by decide +kernel), List.mem_of_getElem? (i := 531) (by decide +kernel)⟩
theorem lw_p46 : lw_okq (⟨"FoldedTheatre$Reducer", "foldsWith", "(LFoldedTheatre$Piece;I)Z"⟩, 4) := ⟨⟨by decide +kernel, by decide +kernel⟩, List.mem_of_getElem? (i := 141) (by decide +kernel), List.mem_of_getElem? (i := 540) (by decide +kernel), List.mem_of_getElem? (i := 541) (by decide +kernel)⟩
theorem lw_p47 : lw_okq (⟨"FoldedTheatre$Reducer", "fewestChanges", "(LFoldedTheatre$Piece;)I"⟩, 4) := ⟨⟨by decide +kernel, by decide +kernel⟩, List.mem_of_getElem? (i := 141) (by decide +kernel), List.mem_of_getElem? (i := 548) (by decide +kernel), List.mem_of_getElem? (i := 549) (by decide +kernel)⟩
def lw_privs_3 : List (MethodName × Nat) := [(⟨"FoldedTheatre$Reducer", "reduce", "()I"⟩, 4), (⟨"FoldedTheatre$Reducer", "firstStep", "()I"⟩, 4), (⟨"FoldedTheatre$Reducer", "make", "(I)V"⟩, 4), (⟨"FoldedTheatre$Reducer", "isReduced", "()Z"⟩, 4), (⟨"FoldedTheatre$Layers", "search", "(LFoldedTheatre$Piece;I)I"⟩, 4), (⟨"FoldedTheatre$Layers", "load", "(LFoldedTheatre$Piece;)V"⟩, 4), (⟨"FoldedTheatre$Layers", "nextLayer", "(I)I"⟩, 4), (⟨"FoldedTheatre$Layers", "isFree", "(II)Z"⟩, 4), (⟨"FoldedTheatre$Layers", "isAsCreased", "(II)Z"⟩, 4), (⟨"FoldedTheatre$Layers", "layersCollide", "()Z"⟩, 4), (⟨"FoldedTheatre$Layers", "isPierced", "(I)Z"⟩, 4), (⟨"FoldedTheatre$Layers", "isBetween", "(II)Z"⟩, 4), (⟨"FoldedTheatre$Layers", "isCrossed", "(I)Z"⟩, 4), (⟨"FoldedTheatre$Reducer", "countWays", "(LFoldedTheatre$Piece;)I"⟩, 4), (⟨"FoldedTheatre$Reducer", "foldsWith", "(LFoldedTheatre$Piece;I)Z"⟩, 4), (⟨"FoldedTheatre$Reducer", "fewestChanges", "(LFoldedTheatre$Piece;)I"⟩, 4)]
theorem lw_r3 : ∀ q ∈ lw_privs_3, lw_okq q := List.forall_mem_cons.mpr ⟨lw_p32, List.forall_mem_cons.mpr ⟨lw_p33, List.forall_mem_cons.mpr ⟨lw_p34, List.forall_mem_cons.mpr ⟨lw_p35, List.forall_mem_cons.mpr ⟨lw_p36, List.forall_mem_cons.mpr ⟨lw_p37, List.forall_mem_cons.mpr ⟨lw_p38, List.forall_mem_cons.mpr ⟨lw_p39, List.forall_mem_cons.mpr ⟨lw_p40, List.forall_mem_cons.mpr ⟨lw_p41, List.forall_mem_cons.mpr ⟨lw_p42, List.forall_mem_cons.mpr ⟨lw_p43, List.forall_mem_cons.mpr ⟨lw_p44, List.forall_mem_cons.mpr ⟨lw_p45, List.forall_mem_cons.mpr ⟨lw_p46, List.forall_mem_cons.mpr ⟨lw_p47, fun _ h => absurd h List.not_mem_nil⟩⟩⟩⟩⟩⟩⟩⟩⟩⟩⟩⟩⟩⟩⟩⟩
theorem lw_p48 : lw_okq (⟨"FoldedTheatre$Piece", "thickness", "()I"⟩, 5) := ⟨⟨by decide +kernel, by decide +kernel⟩, List.mem_of_getElem? (i := 27) (by decide +kernel), List.mem_of_getElem? (i := 570) (by decide +kernel), List.mem_of_getElem? (i := 571) (by decide +kernel)⟩
theorem lw_p49 : lw_okq (⟨"FoldedTheatre$Piece", "leftEndOf", "(I)I"⟩, 5) := ⟨⟨by decide +kernel, by decide +kernel⟩, List.mem_of_getElem? (i := 27) (by decide +kernel), List.mem_of_getElem? (i := 574) (by decide +kernel), List.mem_of_getElem? (i := 575) (by decide +kernel)⟩
theorem lw_p50 : lw_okq (⟨"FoldedTheatre$Piece", "panelsBehind", "(I)I"⟩, 5) := ⟨⟨by decide +kernel, by decide +kernel⟩, List.mem_of_getElem? (i := 27) (by decide +kernel), List.mem_of_getElem? (i := 578) (by decide +kernel), List.mem_of_getElem? (i := 579) (by decide +kernel)⟩
theorem lw_p51 : lw_okq (⟨"FoldedTheatre$Piece", "rightEndOf", "(I)I"⟩, 5) := ⟨⟨by decide +kernel, by decide +kernel⟩, List.mem_of_getElem? (i := 27) (by decide +kernel), List.mem_of_getElem? (i := 582) (by decide +kernel), List.mem_of_getElem? (i := 583) (by decide +kernel)⟩
theorem lw_p52 : lw_okq (⟨"FoldedTheatre$Piece", "reflection", "()I"⟩, 5) := ⟨⟨by decide +kernel, by decide +kernel⟩, List.mem_of_getElem? (i := 27) (by decide +kernel), List.mem_of_getElem? (i := 590) (by decide +kernel), List.mem_of_getElem? (i := 591) (by decide +kernel)⟩
theorem lw_p53 : lw_okq (⟨"FoldedTheatre$Script", "write", "(I)V"⟩, 8) := ⟨⟨by decide +kernel, by decide +kernel⟩, List.mem_of_getElem? (i := 104) (by decide +kernel), List.mem_of_getElem? (i := 601) (by decide +kernel), List.mem_of_getElem? (i := 602) (by decide +kernel)⟩
theorem lw_p54 : lw_okq (⟨"FoldedTheatre$Script", "faultPosition", "()I"⟩, 8) := ⟨⟨by decide +kernel, by decide +kernel⟩, List.mem_of_getElem? (i := 104) (by decide +kernel), List.mem_of_getElem? (i := 610) (by decide +kernel), List.mem_of_getElem? (i := 611) (by decide +kernel)⟩
theorem lw_p55 : lw_okq (⟨"FoldedTheatre$Script", "rewind", "()V"⟩, 8) := ⟨⟨by decide +kernel, by decide +kernel⟩, List.mem_of_getElem? (i := 104) (by decide +kernel), List.mem_of_getElem? (i := 614) (by decide +kernel), List.mem_of_getElem? (i := 615) (by decide +kernel)⟩
theorem lw_p56 : lw_okq (⟨"FoldedTheatre$Script", "takeCommand", "()Z"⟩, 8) := ⟨⟨by decide +kernel, by decide +kernel⟩, List.mem_of_getElem? (i := 104) (by decide +kernel), List.mem_of_getElem? (i := 618) (by decide +kernel), List.mem_of_getElem? (i := 619) (by decide +kernel)⟩
theorem lw_p57 : lw_okq (⟨"FoldedTheatre$Script", "codeHere", "()I"⟩, 8) := ⟨⟨by decide +kernel, by decide +kernel⟩, List.mem_of_getElem? (i := 104) (by decide +kernel), List.mem_of_getElem? (i := 622) (by decide +kernel), List.mem_of_getElem? (i := 623) (by decide +kernel)⟩
theorem lw_p58 : lw_okq (⟨"FoldedTheatre$Script", "takeSizes", "()Z"⟩, 8) := ⟨⟨by decide +kernel, by decide +kernel⟩, List.mem_of_getElem? (i := 104) (by decide +kernel), List.mem_of_getElem? (i := 627) (by decide +kernel), List.mem_of_getElem? (i := 628) (by decide +kernel)⟩
theorem lw_p59 : lw_okq (⟨"FoldedTheatre$Script", "takeSign", "(C)Z"⟩, 8) := ⟨⟨by decide +kernel, by decide +kernel⟩, List.mem_of_getElem? (i := 104) (by decide +kernel), List.mem_of_getElem? (i := 631) (by decide +kernel), List.mem_of_getElem? (i := 632) (by decide +kernel)⟩
theorem lw_p60 : lw_okq (⟨"FoldedTheatre$Script", "takeCreases", "()Z"⟩, 8) := ⟨⟨by decide +kernel, by decide +kernel⟩, List.mem_of_getElem? (i := 104) (by decide +kernel), List.mem_of_getElem? (i := 635) (by decide +kernel), List.mem_of_getElem? (i := 636) (by decide +kernel)⟩
theorem lw_p61 : lw_okq (⟨"FoldedTheatre$Script", "takeKind", "()Z"⟩, 8) := ⟨⟨by decide +kernel, by decide +kernel⟩, List.mem_of_getElem? (i := 104) (by decide +kernel), List.mem_of_getElem? (i := 639) (by decide +kernel), List.mem_of_getElem? (i := 640) (by decide +kernel)⟩
theorem lw_p62 : lw_okq (⟨"FoldedTheatre$Script", "takePiece", "()Z"⟩, 8) := ⟨⟨by decide +kernel, by decide +kernel⟩, List.mem_of_getElem? (i := 104) (by decide +kernel), List.mem_of_getElem? (i := 643) (by decide +kernel), List.mem_of_getElem? (i := 644) (by decide +kernel)⟩
theorem lw_p63 : lw_okq (⟨"FoldedTheatre$Script", "takeDigit", "()Z"⟩, 8) := ⟨⟨by decide +kernel, by decide +kernel⟩, List.mem_of_getElem? (i := 104) (by decide +kernel), List.mem_of_getElem? (i := 647) (by decide +kernel), List.mem_of_getElem? (i := 648) (by decide +kernel)⟩
def lw_privs_4 : List (MethodName × Nat) := [(⟨"FoldedTheatre$Piece", "thickness", "()I"⟩, 5), (⟨"FoldedTheatre$Piece", "leftEndOf", "(I)I"⟩, 5), (⟨"FoldedTheatre$Piece", "panelsBehind", "(I)I"⟩, 5), (⟨"FoldedTheatre$Piece", "rightEndOf", "(I)I"⟩, 5), (⟨"FoldedTheatre$Piece", "reflection", "()I"⟩, 5), (⟨"FoldedTheatre$Script", "write", "(I)V"⟩, 8), (⟨"FoldedTheatre$Script", "faultPosition", "()I"⟩, 8), (⟨"FoldedTheatre$Script", "rewind", "()V"⟩, 8), (⟨"FoldedTheatre$Script", "takeCommand", "()Z"⟩, 8), (⟨"FoldedTheatre$Script", "codeHere", "()I"⟩, 8), (⟨"FoldedTheatre$Script", "takeSizes", "()Z"⟩, 8), (⟨"FoldedTheatre$Script", "takeSign", "(C)Z"⟩, 8), (⟨"FoldedTheatre$Script", "takeCreases", "()Z"⟩, 8), (⟨"FoldedTheatre$Script", "takeKind", "()Z"⟩, 8), (⟨"FoldedTheatre$Script", "takePiece", "()Z"⟩, 8), (⟨"FoldedTheatre$Script", "takeDigit", "()Z"⟩, 8)]
theorem lw_r4 : ∀ q ∈ lw_privs_4, lw_okq q := List.forall_mem_cons.mpr ⟨lw_p48, List.forall_mem_cons.mpr ⟨lw_p49, List.forall_mem_cons.mpr ⟨lw_p50, List.forall_mem_cons.mpr ⟨lw_p51, List.forall_mem_cons.mpr ⟨lw_p52, List.forall_mem_cons.mpr ⟨lw_p53, List.forall_mem_cons.mpr ⟨lw_p54, List.forall_mem_cons.mpr ⟨lw_p55, List.forall_mem_cons.mpr ⟨lw_p56, List.forall_mem_cons.mpr ⟨lw_p57, List.forall_mem_cons.mpr ⟨lw_p58, List.forall_mem_cons.mpr ⟨lw_p59, List.forall_mem_cons.mpr ⟨lw_p60, List.forall_mem_cons.mpr ⟨lw_p61, List.forall_mem_cons.mpr ⟨lw_p62, List.forall_mem_cons.mpr ⟨lw_p63, fun _ h => absurd h List.not_mem_nil⟩⟩⟩⟩⟩⟩⟩⟩⟩⟩⟩⟩⟩⟩⟩⟩
theorem lw_p64 : lw_okq (⟨"FoldedTheatre$Script", "takeCrease", "()Z"⟩, 8) := ⟨⟨by decide +kernel, by decide +kernel⟩, List.mem_of_getElem? (i := 104) (by decide +kernel), List.mem_of_getElem? (i := 651) (by decide +kernel), List.mem_of_getElem? (i := 652) (by decide +kernel)⟩
theorem lw_p65 : lw_okq (⟨"FoldedTheatre$Script", "clear", "()V"⟩, 8) := ⟨⟨by decide +kernel, by decide +kernel⟩, List.mem_of_getElem? (i := 104) (by decide +kernel), List.mem_of_getElem? (i := 655) (by decide +kernel), List.mem_of_getElem? (i := 656) (by decide +kernel)⟩
theorem lw_p66 : lw_okq (⟨"FoldedTheatre", "perform", "()I"⟩, 13) := ⟨⟨by decide +kernel, by decide +kernel⟩, List.mem_of_getElem? (i := 12) (by decide +kernel), List.mem_of_getElem? (i := 662) (by decide +kernel), List.mem_of_getElem? (i := 663) (by decide +kernel)⟩
theorem lw_p67 : lw_okq (⟨"FoldedTheatre", "withCreasesAsTold", "(I)I"⟩, 13) := ⟨⟨by decide +kernel, by decide +kernel⟩, List.mem_of_getElem? (i := 12) (by decide +kernel), List.mem_of_getElem? (i := 667) (by decide +kernel), List.mem_of_getElem? (i := 668) (by decide +kernel)⟩
theorem lw_p68 : lw_okq (⟨"FoldedTheatre$State", "countOfKind", "(I)I"⟩, 4) := ⟨⟨by decide +kernel, by decide +kernel⟩, List.mem_of_getElem? (i := 20) (by decide +kernel), List.mem_of_getElem? (i := 685) (by decide +kernel), List.mem_of_getElem? (i := 686) (by decide +kernel)⟩
theorem lw_p69 : lw_okq (⟨"FoldedTheatre$State", "foldedCount", "()I"⟩, 4) := ⟨⟨by decide +kernel, by decide +kernel⟩, List.mem_of_getElem? (i := 20) (by decide +kernel), List.mem_of_getElem? (i := 689) (by decide +kernel), List.mem_of_getElem? (i := 690) (by decide +kernel)⟩
theorem lw_p70 : lw_okq (⟨"FoldedTheatre$State", "panelCount", "()I"⟩, 4) := ⟨⟨by decide +kernel, by decide +kernel⟩, List.mem_of_getElem? (i := 20) (by decide +kernel), List.mem_of_getElem? (i := 693) (by decide +kernel), List.mem_of_getElem? (i := 694) (by decide +kernel)⟩
theorem lw_p71 : lw_okq (⟨"FoldedTheatre$State", "creasesOf", "(I)I"⟩, 4) := ⟨⟨by decide +kernel, by decide +kernel⟩, List.mem_of_getElem? (i := 20) (by decide +kernel), List.mem_of_getElem? (i := 697) (by decide +kernel), List.mem_of_getElem? (i := 698) (by decide +kernel)⟩
theorem lw_p72 : lw_okq (⟨"FoldedTheatre$History", "pop", "(LFoldedTheatre$State;)V"⟩, 4) := ⟨⟨by decide +kernel, by decide +kernel⟩, List.mem_of_getElem? (i := 80) (by decide +kernel), List.mem_of_getElem? (i := 714) (by decide +kernel), List.mem_of_getElem? (i := 715) (by decide +kernel)⟩
theorem lw_p73 : lw_okq (⟨"FoldedTheatre$History", "clear", "()V"⟩, 4) := ⟨⟨by decide +kernel, by decide +kernel⟩, List.mem_of_getElem? (i := 80) (by decide +kernel), List.mem_of_getElem? (i := 726) (by decide +kernel), List.mem_of_getElem? (i := 727) (by decide +kernel)⟩
theorem lw_p74 : lw_okq (⟨"FoldedTheatreModel", "keeps", "()V"⟩, 30) := ⟨⟨by decide +kernel, by decide +kernel⟩, List.mem_of_getElem? (i := 730) (by decide +kernel), List.mem_of_getElem? (i := 832) (by decide +kernel), List.mem_of_getElem? (i := 833) (by decide +kernel)⟩
theorem lw_p75 : lw_okq (⟨"FoldedTheatreModel", "addsTold", "(III)I"⟩, 30) := ⟨⟨by decide +kernel, by decide +kernel⟩, List.mem_of_getElem? (i := 730) (by decide +kernel), List.mem_of_getElem? (i := 839) (by decide +kernel), List.mem_of_getElem? (i := 840) (by decide +kernel)⟩
theorem lw_p76 : lw_okq (⟨"FoldedTheatreModel", "laysSizes", "(I)I"⟩, 30) := ⟨⟨by decide +kernel, by decide +kernel⟩, List.mem_of_getElem? (i := 730) (by decide +kernel), List.mem_of_getElem? (i := 846) (by decide +kernel), List.mem_of_getElem? (i := 847) (by decide +kernel)⟩
theorem lw_p77 : lw_okq (⟨"FoldedTheatreModel", "areSizes", "(II)Z"⟩, 30) := ⟨⟨by decide +kernel, by decide +kernel⟩, List.mem_of_getElem? (i := 730) (by decide +kernel), List.mem_of_getElem? (i := 853) (by decide +kernel), List.mem_of_getElem? (i := 854) (by decide +kernel)⟩
theorem lw_p78 : lw_okq (⟨"FoldedTheatreModel", "sumOfNew", "(I)I"⟩, 30) := ⟨⟨by decide +kernel, by decide +kernel⟩, List.mem_of_getElem? (i := 730) (by decide +kernel), List.mem_of_getElem? (i := 857) (by decide +kernel), List.mem_of_getElem? (i := 858) (by decide +kernel)⟩
theorem lw_p79 : lw_okq (⟨"FoldedTheatreModel", "laysCreases", "(II)Z"⟩, 30) := ⟨⟨by decide +kernel, by decide +kernel⟩, List.mem_of_getElem? (i := 730) (by decide +kernel), List.mem_of_getElem? (i := 861) (by decide +kernel), List.mem_of_getElem? (i := 862) (by decide +kernel)⟩
def lw_privs_5 : List (MethodName × Nat) := [(⟨"FoldedTheatre$Script", "takeCrease", "()Z"⟩, 8), (⟨"FoldedTheatre$Script", "clear", "()V"⟩, 8), (⟨"FoldedTheatre", "perform", "()I"⟩, 13), (⟨"FoldedTheatre", "withCreasesAsTold", "(I)I"⟩, 13), (⟨"FoldedTheatre$State", "countOfKind", "(I)I"⟩, 4), (⟨"FoldedTheatre$State", "foldedCount", "()I"⟩, 4), (⟨"FoldedTheatre$State", "panelCount", "()I"⟩, 4), (⟨"FoldedTheatre$State", "creasesOf", "(I)I"⟩, 4), (⟨"FoldedTheatre$History", "pop", "(LFoldedTheatre$State;)V"⟩, 4), (⟨"FoldedTheatre$History", "clear", "()V"⟩, 4), (⟨"FoldedTheatreModel", "keeps", "()V"⟩, 30), (⟨"FoldedTheatreModel", "addsTold", "(III)I"⟩, 30), (⟨"FoldedTheatreModel", "laysSizes", "(I)I"⟩, 30), (⟨"FoldedTheatreModel", "areSizes", "(II)Z"⟩, 30), (⟨"FoldedTheatreModel", "sumOfNew", "(I)I"⟩, 30), (⟨"FoldedTheatreModel", "laysCreases", "(II)Z"⟩, 30)]
theorem lw_r5 : ∀ q ∈ lw_privs_5, lw_okq q := List.forall_mem_cons.mpr ⟨lw_p64, List.forall_mem_cons.mpr ⟨lw_p65, List.forall_mem_cons.mpr ⟨lw_p66, List.forall_mem_cons.mpr ⟨lw_p67, List.forall_mem_cons.mpr ⟨lw_p68, List.forall_mem_cons.mpr ⟨lw_p69, List.forall_mem_cons.mpr ⟨lw_p70, List.forall_mem_cons.mpr ⟨lw_p71, List.forall_mem_cons.mpr ⟨lw_p72, List.forall_mem_cons.mpr ⟨lw_p73, List.forall_mem_cons.mpr ⟨lw_p74, List.forall_mem_cons.mpr ⟨lw_p75, List.forall_mem_cons.mpr ⟨lw_p76, List.forall_mem_cons.mpr ⟨lw_p77, List.forall_mem_cons.mpr ⟨lw_p78, List.forall_mem_cons.mpr ⟨lw_p79, fun _ h => absurd h List.not_mem_nil⟩⟩⟩⟩⟩⟩⟩⟩⟩⟩⟩⟩⟩⟩⟩⟩
theorem lw_p80 : lw_okq (⟨"FoldedTheatreModel", "adds", "(II)I"⟩, 30) := ⟨⟨by decide +kernel, by decide +kernel⟩, List.mem_of_getElem? (i := 730) (by decide +kernel), List.mem_of_getElem? (i := 865) (by decide +kernel), List.mem_of_getElem? (i := 866) (by decide +kernel)⟩
theorem lw_p81 : lw_okq (⟨"FoldedTheatreModel", "refuses", "(II)I"⟩, 30) := ⟨⟨by decide +kernel, by decide +kernel⟩, List.mem_of_getElem? (i := 730) (by decide +kernel), List.mem_of_getElem? (i := 869) (by decide +kernel), List.mem_of_getElem? (i := 870) (by decide +kernel)⟩
theorem lw_p82 : lw_okq (⟨"FoldedTheatreModel", "creases", "(I)I"⟩, 30) := ⟨⟨by decide +kernel, by decide +kernel⟩, List.mem_of_getElem? (i := 730) (by decide +kernel), List.mem_of_getElem? (i := 876) (by decide +kernel), List.mem_of_getElem? (i := 877) (by decide +kernel)⟩
theorem lw_p83 : lw_okq (⟨"FoldedTheatreModel", "of", "(II)I"⟩, 30) := ⟨⟨by decide +kernel, by decide +kernel⟩, List.mem_of_getElem? (i := 730) (by decide +kernel), List.mem_of_getElem? (i := 880) (by decide +kernel), List.mem_of_getElem? (i := 881) (by decide +kernel)⟩
theorem lw_p84 : lw_okq (⟨"FoldedTheatreModel", "isCorner", "(I)Z"⟩, 30) := ⟨⟨by decide +kernel, by decide +kernel⟩, List.mem_of_getElem? (i := 730) (by decide +kernel), List.mem_of_getElem? (i := 884) (by decide +kernel), List.mem_of_getElem? (i := 885) (by decide +kernel)⟩
theorem lw_p85 : lw_okq (⟨"FoldedTheatreModel", "ends", "(I)I"⟩, 30) := ⟨⟨by decide +kernel, by decide +kernel⟩, List.mem_of_getElem? (i := 730) (by decide +kernel), List.mem_of_getElem? (i := 888) (by decide +kernel), List.mem_of_getElem? (i := 889) (by decide +kernel)⟩
theorem lw_p86 : lw_okq (⟨"FoldedTheatreModel", "changed", "()V"⟩, 30) := ⟨⟨by decide +kernel, by decide +kernel⟩, List.mem_of_getElem? (i := 730) (by decide +kernel), List.mem_of_getElem? (i := 892) (by decide +kernel), List.mem_of_getElem? (i := 893) (by decide +kernel)⟩
theorem lw_p87 : lw_okq (⟨"FoldedTheatreModel", "marks", "(III)I"⟩, 30) := ⟨⟨by decide +kernel, by decide +kernel⟩, List.mem_of_getElem? (i := 730) (by decide +kernel), List.mem_of_getElem? (i := 900) (by decide +kernel), List.mem_of_getElem? (i := 901) (by decide +kernel)⟩
theorem lw_p88 : lw_okq (⟨"FoldedTheatreModel", "isCrease", "(II)Z"⟩, 30) := ⟨⟨by decide +kernel, by decide +kernel⟩, List.mem_of_getElem? (i := 730) (by decide +kernel), List.mem_of_getElem? (i := 904) (by decide +kernel), List.mem_of_getElem? (i := 905) (by decide +kernel)⟩
theorem lw_p89 : lw_okq (⟨"FoldedTheatreModel", "isPiece", "(I)Z"⟩, 30) := ⟨⟨by decide +kernel, by decide +kernel⟩, List.mem_of_getElem? (i := 730) (by decide +kernel), List.mem_of_getElem? (i := 908) (by decide +kernel), List.mem_of_getElem? (i := 909) (by decide +kernel)⟩
theorem lw_p90 : lw_okq (⟨"FoldedTheatreModel", "isFolded", "(I)Z"⟩, 30) := ⟨⟨by decide +kernel, by decide +kernel⟩, List.mem_of_getElem? (i := 730) (by decide +kernel), List.mem_of_getElem? (i := 912) (by decide +kernel), List.mem_of_getElem? (i := 913) (by decide +kernel)⟩
theorem lw_p91 : lw_okq (⟨"FoldedTheatreModel", "creaseOf", "(II)I"⟩, 30) := ⟨⟨by decide +kernel, by decide +kernel⟩, List.mem_of_getElem? (i := 730) (by decide +kernel), List.mem_of_getElem? (i := 916) (by decide +kernel), List.mem_of_getElem? (i := 917) (by decide +kernel)⟩
theorem lw_p92 : lw_okq (⟨"FoldedTheatreModel", "turns", "(I)I"⟩, 30) := ⟨⟨by decide +kernel, by decide +kernel⟩, List.mem_of_getElem? (i := 730) (by decide +kernel), List.mem_of_getElem? (i := 924) (by decide +kernel), List.mem_of_getElem? (i := 925) (by decide +kernel)⟩
theorem lw_p93 : lw_okq (⟨"FoldedTheatreModel", "countOf", "(II)I"⟩, 30) := ⟨⟨by decide +kernel, by decide +kernel⟩, List.mem_of_getElem? (i := 730) (by decide +kernel), List.mem_of_getElem? (i := 928) (by decide +kernel), List.mem_of_getElem? (i := 929) (by decide +kernel)⟩
theorem lw_p94 : lw_okq (⟨"FoldedTheatreModel", "rotates", "(II)I"⟩, 30) := ⟨⟨by decide +kernel, by decide +kernel⟩, List.mem_of_getElem? (i := 730) (by decide +kernel), List.mem_of_getElem? (i := 936) (by decide +kernel), List.mem_of_getElem? (i := 937) (by decide +kernel)⟩
theorem lw_p95 : lw_okq (⟨"FoldedTheatreModel", "sizeOf", "(II)I"⟩, 30) := ⟨⟨by decide +kernel, by decide +kernel⟩, List.mem_of_getElem? (i := 730) (by decide +kernel), List.mem_of_getElem? (i := 940) (by decide +kernel), List.mem_of_getElem? (i := 941) (by decide +kernel)⟩
def lw_privs_6 : List (MethodName × Nat) := [(⟨"FoldedTheatreModel", "adds", "(II)I"⟩, 30), (⟨"FoldedTheatreModel", "refuses", "(II)I"⟩, 30), (⟨"FoldedTheatreModel", "creases", "(I)I"⟩, 30), (⟨"FoldedTheatreModel", "of", "(II)I"⟩, 30), (⟨"FoldedTheatreModel", "isCorner", "(I)Z"⟩, 30), (⟨"FoldedTheatreModel", "ends", "(I)I"⟩, 30), (⟨"FoldedTheatreModel", "changed", "()V"⟩, 30), (⟨"FoldedTheatreModel", "marks", "(III)I"⟩, 30), (⟨"FoldedTheatreModel", "isCrease", "(II)Z"⟩, 30), (⟨"FoldedTheatreModel", "isPiece", "(I)Z"⟩, 30), (⟨"FoldedTheatreModel", "isFolded", "(I)Z"⟩, 30), (⟨"FoldedTheatreModel", "creaseOf", "(II)I"⟩, 30), (⟨"FoldedTheatreModel", "turns", "(I)I"⟩, 30), (⟨"FoldedTheatreModel", "countOf", "(II)I"⟩, 30), (⟨"FoldedTheatreModel", "rotates", "(II)I"⟩, 30), (⟨"FoldedTheatreModel", "sizeOf", "(II)I"⟩, 30)]
theorem lw_r6 : ∀ q ∈ lw_privs_6, lw_okq q := List.forall_mem_cons.mpr ⟨lw_p80, List.forall_mem_cons.mpr ⟨lw_p81, List.forall_mem_cons.mpr ⟨lw_p82, List.forall_mem_cons.mpr ⟨lw_p83, List.forall_mem_cons.mpr ⟨lw_p84, List.forall_mem_cons.mpr ⟨lw_p85, List.forall_mem_cons.mpr ⟨lw_p86, List.forall_mem_cons.mpr ⟨lw_p87, List.forall_mem_cons.mpr ⟨lw_p88, List.forall_mem_cons.mpr ⟨lw_p89, List.forall_mem_cons.mpr ⟨lw_p90, List.forall_mem_cons.mpr ⟨lw_p91, List.forall_mem_cons.mpr ⟨lw_p92, List.forall_mem_cons.mpr ⟨lw_p93, List.forall_mem_cons.mpr ⟨lw_p94, List.forall_mem_cons.mpr ⟨lw_p95, fun _ h => absurd h List.not_mem_nil⟩⟩⟩⟩⟩⟩⟩⟩⟩⟩⟩⟩⟩⟩⟩⟩
theorem lw_p96 : lw_okq (⟨"FoldedTheatreModel", "joins", "(III)I"⟩, 30) := ⟨⟨by decide +kernel, by decide +kernel⟩, List.mem_of_getElem? (i := 730) (by decide +kernel), List.mem_of_getElem? (i := 948) (by decide +kernel), List.mem_of_getElem? (i := 949) (by decide +kernel)⟩
theorem lw_p97 : lw_okq (⟨"FoldedTheatreModel", "goes", "(I)V"⟩, 30) := ⟨⟨by decide +kernel, by decide +kernel⟩, List.mem_of_getElem? (i := 730) (by decide +kernel), List.mem_of_getElem? (i := 952) (by decide +kernel), List.mem_of_getElem? (i := 953) (by decide +kernel)⟩
theorem lw_p98 : lw_okq (⟨"FoldedTheatreModel", "cuts", "(II)I"⟩, 30) := ⟨⟨by decide +kernel, by decide +kernel⟩, List.mem_of_getElem? (i := 730) (by decide +kernel), List.mem_of_getElem? (i := 960) (by decide +kernel), List.mem_of_getElem? (i := 961) (by decide +kernel)⟩
theorem lw_p99 : lw_okq (⟨"FoldedTheatreModel", "whyNot", "(I)I"⟩, 30) := ⟨⟨by decide +kernel, by decide +kernel⟩, List.mem_of_getElem? (i := 730) (by decide +kernel), List.mem_of_getElem? (i := 971) (by decide +kernel), List.mem_of_getElem? (i := 972) (by decide +kernel)⟩
theorem lw_p100 : lw_okq (⟨"FoldedTheatreModel", "evenAngles", "(I)I"⟩, 30) := ⟨⟨by decide +kernel, by decide +kernel⟩, List.mem_of_getElem? (i := 730) (by decide +kernel), List.mem_of_getElem? (i := 975) (by decide +kernel), List.mem_of_getElem? (i := 976) (by decide +kernel)⟩
theorem lw_p101 : lw_okq (⟨"FoldedTheatreModel", "hasSharp", "(I)Z"⟩, 30) := ⟨⟨by decide +kernel, by decide +kernel⟩, List.mem_of_getElem? (i := 730) (by decide +kernel), List.mem_of_getElem? (i := 979) (by decide +kernel), List.mem_of_getElem? (i := 980) (by decide +kernel)⟩
theorem lw_p102 : lw_okq (⟨"FoldedTheatreModel", "foldsNow", "(I)Z"⟩, 30) := ⟨⟨by decide +kernel, by decide +kernel⟩, List.mem_of_getElem? (i := 730) (by decide +kernel), List.mem_of_getElem? (i := 983) (by decide +kernel), List.mem_of_getElem? (i := 984) (by decide +kernel)⟩
theorem lw_p103 : lw_okq (⟨"FoldedTheatreModel", "lays", "(I)V"⟩, 30) := ⟨⟨by decide +kernel, by decide +kernel⟩, List.mem_of_getElem? (i := 730) (by decide +kernel), List.mem_of_getElem? (i := 987) (by decide +kernel), List.mem_of_getElem? (i := 988) (by decide +kernel)⟩
theorem lw_p104 : lw_okq (⟨"FoldedTheatreModel", "folds", "()Z"⟩, 30) := ⟨⟨by decide +kernel, by decide +kernel⟩, List.mem_of_getElem? (i := 730) (by decide +kernel), List.mem_of_getElem? (i := 991) (by decide +kernel), List.mem_of_getElem? (i := 992) (by decide +kernel)⟩
theorem lw_p105 : lw_okq (⟨"FoldedTheatreModel", "reduces", "()I"⟩, 30) := ⟨⟨by decide +kernel, by decide +kernel⟩, List.mem_of_getElem? (i := 730) (by decide +kernel), List.mem_of_getElem? (i := 995) (by decide +kernel), List.mem_of_getElem? (i := 996) (by decide +kernel)⟩
theorem lw_p106 : lw_okq (⟨"FoldedTheatreModel", "stepNow", "()I"⟩, 30) := ⟨⟨by decide +kernel, by decide +kernel⟩, List.mem_of_getElem? (i := 730) (by decide +kernel), List.mem_of_getElem? (i := 999) (by decide +kernel), List.mem_of_getElem? (i := 1000) (by decide +kernel)⟩
theorem lw_p107 : lw_okq (⟨"FoldedTheatreModel", "crimped", "()I"⟩, 30) := ⟨⟨by decide +kernel, by decide +kernel⟩, List.mem_of_getElem? (i := 730) (by decide +kernel), List.mem_of_getElem? (i := 1003) (by decide +kernel), List.mem_of_getElem? (i := 1004) (by decide +kernel)⟩
theorem lw_p108 : lw_okq (⟨"FoldedTheatreModel", "makes", "(I)V"⟩, 30) := ⟨⟨by decide +kernel, by decide +kernel⟩, List.mem_of_getElem? (i := 730) (by decide +kernel), List.mem_of_getElem? (i := 1007) (by decide +kernel), List.mem_of_getElem? (i := 1008) (by decide +kernel)⟩
theorem lw_p109 : lw_okq (⟨"FoldedTheatreModel", "dropsSize", "(I)V"⟩, 30) := ⟨⟨by decide +kernel, by decide +kernel⟩, List.mem_of_getElem? (i := 730) (by decide +kernel), List.mem_of_getElem? (i := 1011) (by decide +kernel), List.mem_of_getElem? (i := 1012) (by decide +kernel)⟩
theorem lw_p110 : lw_okq (⟨"FoldedTheatreModel", "dropsCrease", "(I)V"⟩, 30) := ⟨⟨by decide +kernel, by decide +kernel⟩, List.mem_of_getElem? (i := 730) (by decide +kernel), List.mem_of_getElem? (i := 1015) (by decide +kernel), List.mem_of_getElem? (i := 1016) (by decide +kernel)⟩
theorem lw_p111 : lw_okq (⟨"FoldedTheatreModel", "crimpsCorner", "(I)V"⟩, 30) := ⟨⟨by decide +kernel, by decide +kernel⟩, List.mem_of_getElem? (i := 730) (by decide +kernel), List.mem_of_getElem? (i := 1019) (by decide +kernel), List.mem_of_getElem? (i := 1020) (by decide +kernel)⟩
def lw_privs_7 : List (MethodName × Nat) := [(⟨"FoldedTheatreModel", "joins", "(III)I"⟩, 30), (⟨"FoldedTheatreModel", "goes", "(I)V"⟩, 30), (⟨"FoldedTheatreModel", "cuts", "(II)I"⟩, 30), (⟨"FoldedTheatreModel", "whyNot", "(I)I"⟩, 30), (⟨"FoldedTheatreModel", "evenAngles", "(I)I"⟩, 30), (⟨"FoldedTheatreModel", "hasSharp", "(I)Z"⟩, 30), (⟨"FoldedTheatreModel", "foldsNow", "(I)Z"⟩, 30), (⟨"FoldedTheatreModel", "lays", "(I)V"⟩, 30), (⟨"FoldedTheatreModel", "folds", "()Z"⟩, 30), (⟨"FoldedTheatreModel", "reduces", "()I"⟩, 30), (⟨"FoldedTheatreModel", "stepNow", "()I"⟩, 30), (⟨"FoldedTheatreModel", "crimped", "()I"⟩, 30), (⟨"FoldedTheatreModel", "makes", "(I)V"⟩, 30), (⟨"FoldedTheatreModel", "dropsSize", "(I)V"⟩, 30), (⟨"FoldedTheatreModel", "dropsCrease", "(I)V"⟩, 30), (⟨"FoldedTheatreModel", "crimpsCorner", "(I)V"⟩, 30)]
theorem lw_r7 : ∀ q ∈ lw_privs_7, lw_okq q := List.forall_mem_cons.mpr ⟨lw_p96, List.forall_mem_cons.mpr ⟨lw_p97, List.forall_mem_cons.mpr ⟨lw_p98, List.forall_mem_cons.mpr ⟨lw_p99, List.forall_mem_cons.mpr ⟨lw_p100, List.forall_mem_cons.mpr ⟨lw_p101, List.forall_mem_cons.mpr ⟨lw_p102, List.forall_mem_cons.mpr ⟨lw_p103, List.forall_mem_cons.mpr ⟨lw_p104, List.forall_mem_cons.mpr ⟨lw_p105, List.forall_mem_cons.mpr ⟨lw_p106, List.forall_mem_cons.mpr ⟨lw_p107, List.forall_mem_cons.mpr ⟨lw_p108, List.forall_mem_cons.mpr ⟨lw_p109, List.forall_mem_cons.mpr ⟨lw_p110, List.forall_mem_cons.mpr ⟨lw_p111, fun _ h => absurd h List.not_mem_nil⟩⟩⟩⟩⟩⟩⟩⟩⟩⟩⟩⟩⟩⟩⟩⟩
theorem lw_p112 : lw_okq (⟨"FoldedTheatreModel", "crimpsStrip", "(I)V"⟩, 30) := ⟨⟨by decide +kernel, by decide +kernel⟩, List.mem_of_getElem? (i := 730) (by decide +kernel), List.mem_of_getElem? (i := 1026) (by decide +kernel), List.mem_of_getElem? (i := 1027) (by decide +kernel)⟩
theorem lw_p113 : lw_okq (⟨"FoldedTheatreModel", "otherwise", "(II)I"⟩, 30) := ⟨⟨by decide +kernel, by decide +kernel⟩, List.mem_of_getElem? (i := 730) (by decide +kernel), List.mem_of_getElem? (i := 1042) (by decide +kernel), List.mem_of_getElem? (i := 1043) (by decide +kernel)⟩
theorem lw_p114 : lw_okq (⟨"FoldedTheatreModel", "foldsBy", "(II)Z"⟩, 30) := ⟨⟨by decide +kernel, by decide +kernel⟩, List.mem_of_getElem? (i := 730) (by decide +kernel), List.mem_of_getElem? (i := 1046) (by decide +kernel), List.mem_of_getElem? (i := 1047) (by decide +kernel)⟩
theorem lw_p115 : lw_okq (⟨"FoldedTheatreModel", "laysBy", "(II)V"⟩, 30) := ⟨⟨by decide +kernel, by decide +kernel⟩, List.mem_of_getElem? (i := 730) (by decide +kernel), List.mem_of_getElem? (i := 1050) (by decide +kernel), List.mem_of_getElem? (i := 1051) (by decide +kernel)⟩
theorem lw_p116 : lw_okq (⟨"FoldedTheatreModel", "stages", "(I)I"⟩, 30) := ⟨⟨by decide +kernel, by decide +kernel⟩, List.mem_of_getElem? (i := 730) (by decide +kernel), List.mem_of_getElem? (i := 1062) (by decide +kernel), List.mem_of_getElem? (i := 1063) (by decide +kernel)⟩
theorem lw_p117 : lw_okq (⟨"FoldedTheatreModel", "used", "()I"⟩, 30) := ⟨⟨by decide +kernel, by decide +kernel⟩, List.mem_of_getElem? (i := 730) (by decide +kernel), List.mem_of_getElem? (i := 1066) (by decide +kernel), List.mem_of_getElem? (i := 1067) (by decide +kernel)⟩
theorem lw_p118 : lw_okq (⟨"FoldedTheatreModel", "widthOf", "(I)I"⟩, 30) := ⟨⟨by decide +kernel, by decide +kernel⟩, List.mem_of_getElem? (i := 730) (by decide +kernel), List.mem_of_getElem? (i := 1070) (by decide +kernel), List.mem_of_getElem? (i := 1071) (by decide +kernel)⟩
theorem lw_p119 : lw_okq (⟨"FoldedTheatreModel", "placeOf", "(II)I"⟩, 30) := ⟨⟨by decide +kernel, by decide +kernel⟩, List.mem_of_getElem? (i := 730) (by decide +kernel), List.mem_of_getElem? (i := 1074) (by decide +kernel), List.mem_of_getElem? (i := 1075) (by decide +kernel)⟩
theorem lw_p120 : lw_okq (⟨"FoldedTheatreModel", "foldsOnStage", "(I)I"⟩, 30) := ⟨⟨by decide +kernel, by decide +kernel⟩, List.mem_of_getElem? (i := 730) (by decide +kernel), List.mem_of_getElem? (i := 1082) (by decide +kernel), List.mem_of_getElem? (i := 1083) (by decide +kernel)⟩
theorem lw_p121 : lw_okq (⟨"FoldedTheatreModel", "lowestOpen", "(I)I"⟩, 30) := ⟨⟨by decide +kernel, by decide +kernel⟩, List.mem_of_getElem? (i := 730) (by decide +kernel), List.mem_of_getElem? (i := 1086) (by decide +kernel), List.mem_of_getElem? (i := 1087) (by decide +kernel)⟩
theorem lw_p122 : lw_okq (⟨"FoldedTheatreModel", "unfolds", "(I)I"⟩, 30) := ⟨⟨by decide +kernel, by decide +kernel⟩, List.mem_of_getElem? (i := 730) (by decide +kernel), List.mem_of_getElem? (i := 1094) (by decide +kernel), List.mem_of_getElem? (i := 1095) (by decide +kernel)⟩
theorem lw_p123 : lw_okq (⟨"FoldedTheatreModel", "drops", "(I)I"⟩, 30) := ⟨⟨by decide +kernel, by decide +kernel⟩, List.mem_of_getElem? (i := 730) (by decide +kernel), List.mem_of_getElem? (i := 1102) (by decide +kernel), List.mem_of_getElem? (i := 1103) (by decide +kernel)⟩
theorem lw_p124 : lw_okq (⟨"FoldedTheatreModel", "sumOf", "(I)I"⟩, 30) := ⟨⟨by decide +kernel, by decide +kernel⟩, List.mem_of_getElem? (i := 730) (by decide +kernel), List.mem_of_getElem? (i := 1110) (by decide +kernel), List.mem_of_getElem? (i := 1111) (by decide +kernel)⟩
theorem lw_p125 : lw_okq (⟨"FoldedTheatreModel", "wrongStrip", "(I)I"⟩, 30) := ⟨⟨by decide +kernel, by decide +kernel⟩, List.mem_of_getElem? (i := 730) (by decide +kernel), List.mem_of_getElem? (i := 1126) (by decide +kernel), List.mem_of_getElem? (i := 1127) (by decide +kernel)⟩
theorem lw_p126 : lw_okq (⟨"FoldedTheatreModel", "ordersOf", "(I)I"⟩, 30) := ⟨⟨by decide +kernel, by decide +kernel⟩, List.mem_of_getElem? (i := 730) (by decide +kernel), List.mem_of_getElem? (i := 1130) (by decide +kernel), List.mem_of_getElem? (i := 1131) (by decide +kernel)⟩
theorem lw_p127 : lw_okq (⟨"FoldedTheatreModel", "gives", "(I)V"⟩, 30) := ⟨⟨by decide +kernel, by decide +kernel⟩, List.mem_of_getElem? (i := 730) (by decide +kernel), List.mem_of_getElem? (i := 1134) (by decide +kernel), List.mem_of_getElem? (i := 1135) (by decide +kernel)⟩
def lw_privs_8 : List (MethodName × Nat) := [(⟨"FoldedTheatreModel", "crimpsStrip", "(I)V"⟩, 30), (⟨"FoldedTheatreModel", "otherwise", "(II)I"⟩, 30), (⟨"FoldedTheatreModel", "foldsBy", "(II)Z"⟩, 30), (⟨"FoldedTheatreModel", "laysBy", "(II)V"⟩, 30), (⟨"FoldedTheatreModel", "stages", "(I)I"⟩, 30), (⟨"FoldedTheatreModel", "used", "()I"⟩, 30), (⟨"FoldedTheatreModel", "widthOf", "(I)I"⟩, 30), (⟨"FoldedTheatreModel", "placeOf", "(II)I"⟩, 30), (⟨"FoldedTheatreModel", "foldsOnStage", "(I)I"⟩, 30), (⟨"FoldedTheatreModel", "lowestOpen", "(I)I"⟩, 30), (⟨"FoldedTheatreModel", "unfolds", "(I)I"⟩, 30), (⟨"FoldedTheatreModel", "drops", "(I)I"⟩, 30), (⟨"FoldedTheatreModel", "sumOf", "(I)I"⟩, 30), (⟨"FoldedTheatreModel", "wrongStrip", "(I)I"⟩, 30), (⟨"FoldedTheatreModel", "ordersOf", "(I)I"⟩, 30), (⟨"FoldedTheatreModel", "gives", "(I)V"⟩, 30)]
theorem lw_r8 : ∀ q ∈ lw_privs_8, lw_okq q := List.forall_mem_cons.mpr ⟨lw_p112, List.forall_mem_cons.mpr ⟨lw_p113, List.forall_mem_cons.mpr ⟨lw_p114, List.forall_mem_cons.mpr ⟨lw_p115, List.forall_mem_cons.mpr ⟨lw_p116, List.forall_mem_cons.mpr ⟨lw_p117, List.forall_mem_cons.mpr ⟨lw_p118, List.forall_mem_cons.mpr ⟨lw_p119, List.forall_mem_cons.mpr ⟨lw_p120, List.forall_mem_cons.mpr ⟨lw_p121, List.forall_mem_cons.mpr ⟨lw_p122, List.forall_mem_cons.mpr ⟨lw_p123, List.forall_mem_cons.mpr ⟨lw_p124, List.forall_mem_cons.mpr ⟨lw_p125, List.forall_mem_cons.mpr ⟨lw_p126, List.forall_mem_cons.mpr ⟨lw_p127, fun _ h => absurd h List.not_mem_nil⟩⟩⟩⟩⟩⟩⟩⟩⟩⟩⟩⟩⟩⟩⟩⟩
theorem lw_p128 : lw_okq (⟨"FoldedTheatreModel", "isPossible", "()Z"⟩, 30) := ⟨⟨by decide +kernel, by decide +kernel⟩, List.mem_of_getElem? (i := 730) (by decide +kernel), List.mem_of_getElem? (i := 1138) (by decide +kernel), List.mem_of_getElem? (i := 1139) (by decide +kernel)⟩
theorem lw_p129 : lw_okq (⟨"FoldedTheatreModel", "collides", "(I)Z"⟩, 30) := ⟨⟨by decide +kernel, by decide +kernel⟩, List.mem_of_getElem? (i := 730) (by decide +kernel), List.mem_of_getElem? (i := 1142) (by decide +kernel), List.mem_of_getElem? (i := 1143) (by decide +kernel)⟩
theorem lw_p130 : lw_okq (⟨"FoldedTheatreModel", "reachesOver", "(II)Z"⟩, 30) := ⟨⟨by decide +kernel, by decide +kernel⟩, List.mem_of_getElem? (i := 730) (by decide +kernel), List.mem_of_getElem? (i := 1146) (by decide +kernel), List.mem_of_getElem? (i := 1147) (by decide +kernel)⟩
theorem lw_p131 : lw_okq (⟨"FoldedTheatreModel", "isBetween", "(II)Z"⟩, 30) := ⟨⟨by decide +kernel, by decide +kernel⟩, List.mem_of_getElem? (i := 730) (by decide +kernel), List.mem_of_getElem? (i := 1150) (by decide +kernel), List.mem_of_getElem? (i := 1151) (by decide +kernel)⟩
theorem lw_p132 : lw_okq (⟨"FoldedTheatreModel", "isAbove", "(I)Z"⟩, 30) := ⟨⟨by decide +kernel, by decide +kernel⟩, List.mem_of_getElem? (i := 730) (by decide +kernel), List.mem_of_getElem? (i := 1154) (by decide +kernel), List.mem_of_getElem? (i := 1155) (by decide +kernel)⟩
theorem lw_p133 : lw_okq (⟨"FoldedTheatreModel", "isStripWithout", "(III)Z"⟩, 30) := ⟨⟨by decide +kernel, by decide +kernel⟩, List.mem_of_getElem? (i := 730) (by decide +kernel), List.mem_of_getElem? (i := 1166) (by decide +kernel), List.mem_of_getElem? (i := 1167) (by decide +kernel)⟩
theorem lw_p134 : lw_okq (⟨"FoldedTheatreModel", "overAt", "(II)I"⟩, 30) := ⟨⟨by decide +kernel, by decide +kernel⟩, List.mem_of_getElem? (i := 730) (by decide +kernel), List.mem_of_getElem? (i := 1178) (by decide +kernel), List.mem_of_getElem? (i := 1179) (by decide +kernel)⟩
theorem lw_p135 : lw_okq (⟨"FoldedTheatreModel", "isText", "()Z"⟩, 30) := ⟨⟨by decide +kernel, by decide +kernel⟩, List.mem_of_getElem? (i := 730) (by decide +kernel), List.mem_of_getElem? (i := 1194) (by decide +kernel), List.mem_of_getElem? (i := 1195) (by decide +kernel)⟩
theorem lw_p136 : lw_okq (⟨"FoldedTheatreModel", "readsCommand", "()Z"⟩, 30) := ⟨⟨by decide +kernel, by decide +kernel⟩, List.mem_of_getElem? (i := 730) (by decide +kernel), List.mem_of_getElem? (i := 1198) (by decide +kernel), List.mem_of_getElem? (i := 1199) (by decide +kernel)⟩
theorem lw_p137 : lw_okq (⟨"FoldedTheatreModel", "sign", "()I"⟩, 30) := ⟨⟨by decide +kernel, by decide +kernel⟩, List.mem_of_getElem? (i := 730) (by decide +kernel), List.mem_of_getElem? (i := 1202) (by decide +kernel), List.mem_of_getElem? (i := 1203) (by decide +kernel)⟩
theorem lw_p138 : lw_okq (⟨"FoldedTheatreModel", "readsSizes", "()Z"⟩, 30) := ⟨⟨by decide +kernel, by decide +kernel⟩, List.mem_of_getElem? (i := 730) (by decide +kernel), List.mem_of_getElem? (i := 1206) (by decide +kernel), List.mem_of_getElem? (i := 1207) (by decide +kernel)⟩
theorem lw_p139 : lw_okq (⟨"FoldedTheatreModel", "takes", "(I)Z"⟩, 30) := ⟨⟨by decide +kernel, by decide +kernel⟩, List.mem_of_getElem? (i := 730) (by decide +kernel), List.mem_of_getElem? (i := 1210) (by decide +kernel), List.mem_of_getElem? (i := 1211) (by decide +kernel)⟩
theorem lw_p140 : lw_okq (⟨"FoldedTheatreModel", "readsSigns", "()Z"⟩, 30) := ⟨⟨by decide +kernel, by decide +kernel⟩, List.mem_of_getElem? (i := 730) (by decide +kernel), List.mem_of_getElem? (i := 1214) (by decide +kernel), List.mem_of_getElem? (i := 1215) (by decide +kernel)⟩
theorem lw_p141 : lw_okq (⟨"FoldedTheatreModel", "digit", "()I"⟩, 30) := ⟨⟨by decide +kernel, by decide +kernel⟩, List.mem_of_getElem? (i := 730) (by decide +kernel), List.mem_of_getElem? (i := 1221) (by decide +kernel), List.mem_of_getElem? (i := 1222) (by decide +kernel)⟩
theorem lw_p142 : lw_okq (⟨"FoldedTheatreModel", "readsMark", "()Z"⟩, 30) := ⟨⟨by decide +kernel, by decide +kernel⟩, List.mem_of_getElem? (i := 730) (by decide +kernel), List.mem_of_getElem? (i := 1225) (by decide +kernel), List.mem_of_getElem? (i := 1226) (by decide +kernel)⟩
theorem lw_p143 : lw_okq (⟨"FoldedTheatreModel", "doesAll", "()I"⟩, 30) := ⟨⟨by decide +kernel, by decide +kernel⟩, List.mem_of_getElem? (i := 730) (by decide +kernel), List.mem_of_getElem? (i := 1229) (by decide +kernel), List.mem_of_getElem? (i := 1230) (by decide +kernel)⟩
def lw_privs_9 : List (MethodName × Nat) := [(⟨"FoldedTheatreModel", "isPossible", "()Z"⟩, 30), (⟨"FoldedTheatreModel", "collides", "(I)Z"⟩, 30), (⟨"FoldedTheatreModel", "reachesOver", "(II)Z"⟩, 30), (⟨"FoldedTheatreModel", "isBetween", "(II)Z"⟩, 30), (⟨"FoldedTheatreModel", "isAbove", "(I)Z"⟩, 30), (⟨"FoldedTheatreModel", "isStripWithout", "(III)Z"⟩, 30), (⟨"FoldedTheatreModel", "overAt", "(II)I"⟩, 30), (⟨"FoldedTheatreModel", "isText", "()Z"⟩, 30), (⟨"FoldedTheatreModel", "readsCommand", "()Z"⟩, 30), (⟨"FoldedTheatreModel", "sign", "()I"⟩, 30), (⟨"FoldedTheatreModel", "readsSizes", "()Z"⟩, 30), (⟨"FoldedTheatreModel", "takes", "(I)Z"⟩, 30), (⟨"FoldedTheatreModel", "readsSigns", "()Z"⟩, 30), (⟨"FoldedTheatreModel", "digit", "()I"⟩, 30), (⟨"FoldedTheatreModel", "readsMark", "()Z"⟩, 30), (⟨"FoldedTheatreModel", "doesAll", "()I"⟩, 30)]
theorem lw_r9 : ∀ q ∈ lw_privs_9, lw_okq q := List.forall_mem_cons.mpr ⟨lw_p128, List.forall_mem_cons.mpr ⟨lw_p129, List.forall_mem_cons.mpr ⟨lw_p130, List.forall_mem_cons.mpr ⟨lw_p131, List.forall_mem_cons.mpr ⟨lw_p132, List.forall_mem_cons.mpr ⟨lw_p133, List.forall_mem_cons.mpr ⟨lw_p134, List.forall_mem_cons.mpr ⟨lw_p135, List.forall_mem_cons.mpr ⟨lw_p136, List.forall_mem_cons.mpr ⟨lw_p137, List.forall_mem_cons.mpr ⟨lw_p138, List.forall_mem_cons.mpr ⟨lw_p139, List.forall_mem_cons.mpr ⟨lw_p140, List.forall_mem_cons.mpr ⟨lw_p141, List.forall_mem_cons.mpr ⟨lw_p142, List.forall_mem_cons.mpr ⟨lw_p143, fun _ h => absurd h List.not_mem_nil⟩⟩⟩⟩⟩⟩⟩⟩⟩⟩⟩⟩⟩⟩⟩⟩
theorem lw_p144 : lw_okq (⟨"FoldedTheatreModel", "does", "()I"⟩, 30) := ⟨⟨by decide +kernel, by decide +kernel⟩, List.mem_of_getElem? (i := 730) (by decide +kernel), List.mem_of_getElem? (i := 1233) (by decide +kernel), List.mem_of_getElem? (i := 1234) (by decide +kernel)⟩
theorem lw_p145 : lw_okq (⟨"FoldedTheatreModel", "addsSigned", "()I"⟩, 30) := ⟨⟨by decide +kernel, by decide +kernel⟩, List.mem_of_getElem? (i := 730) (by decide +kernel), List.mem_of_getElem? (i := 1237) (by decide +kernel), List.mem_of_getElem? (i := 1238) (by decide +kernel)⟩
theorem lw_p146 : lw_okq (⟨"FoldedTheatreModel", "allOf", "(I)I"⟩, 30) := ⟨⟨by decide +kernel, by decide +kernel⟩, List.mem_of_getElem? (i := 730) (by decide +kernel), List.mem_of_getElem? (i := 1249) (by decide +kernel), List.mem_of_getElem? (i := 1250) (by decide +kernel)⟩
theorem lw_p147 : lw_okq (⟨"FoldedTheatreModel", "panelsOfAll", "()I"⟩, 30) := ⟨⟨by decide +kernel, by decide +kernel⟩, List.mem_of_getElem? (i := 730) (by decide +kernel), List.mem_of_getElem? (i := 1254) (by decide +kernel), List.mem_of_getElem? (i := 1255) (by decide +kernel)⟩
def lw_privs_10 : List (MethodName × Nat) := [(⟨"FoldedTheatreModel", "does", "()I"⟩, 30), (⟨"FoldedTheatreModel", "addsSigned", "()I"⟩, 30), (⟨"FoldedTheatreModel", "allOf", "(I)I"⟩, 30), (⟨"FoldedTheatreModel", "panelsOfAll", "()I"⟩, 30)]
theorem lw_r10 : ∀ q ∈ lw_privs_10, lw_okq q := List.forall_mem_cons.mpr ⟨lw_p144, List.forall_mem_cons.mpr ⟨lw_p145, List.forall_mem_cons.mpr ⟨lw_p146, List.forall_mem_cons.mpr ⟨lw_p147, fun _ h => absurd h List.not_mem_nil⟩⟩⟩⟩
def lw_privs : List (MethodName × Nat) := lw_privs_1 ++ (lw_privs_2 ++ (lw_privs_3 ++ (lw_privs_4 ++ (lw_privs_5 ++ (lw_privs_6 ++ (lw_privs_7 ++ (lw_privs_8 ++ (lw_privs_9 ++ (lw_privs_10)))))))))
def lw_tbl : List Cond := k2_sels lw_privs ++ tables_1
theorem lw_privs_ok : ∀ q ∈ lw_privs, lw_okq q := by
  show ∀ q ∈ lw_privs_1 ++ (lw_privs_2 ++ (lw_privs_3 ++ (lw_privs_4 ++ (lw_privs_5 ++ (lw_privs_6 ++ (lw_privs_7 ++ (lw_privs_8 ++ (lw_privs_9 ++ (lw_privs_10))))))))), lw_okq q
  exact List.forall_mem_append.mpr ⟨lw_r1, List.forall_mem_append.mpr ⟨lw_r2, List.forall_mem_append.mpr ⟨lw_r3, List.forall_mem_append.mpr ⟨lw_r4, List.forall_mem_append.mpr ⟨lw_r5, List.forall_mem_append.mpr ⟨lw_r6, List.forall_mem_append.mpr ⟨lw_r7, List.forall_mem_append.mpr ⟨lw_r8, List.forall_mem_append.mpr ⟨lw_r9, lw_r10⟩⟩⟩⟩⟩⟩⟩⟩⟩
/-- the streams that the claim lets the run draw from -/
abbrev lw_cs : List Choice := [Jvm.Choice.named "NaN.bits"]
theorem lw_bits : nanBits ∈ lw_cs := by first | decide | exact List.mem_cons_self | simp [lw_cs, nanBits]
end
section
/-! ===== BEGIN words of one list among another's, by their places ===== -/
theorem goodIn_r {big : List Cond} (ws : List Cond) (ps : List Nat) (hp : ws = ps.filterMap (fun i => big[i]?)) (h : ws.all goodWord = true) : GoodIn big ws := by
  intro w hw
  have h1 := List.all_eq_true.mp h w hw
  rw [hp] at hw
  obtain ⟨i, -, hi⟩ := List.mem_filterMap.mp hw
  have hm : w ∈ big := by first | exact List.mem_of_getElem? hi | exact List.getElem?_mem hi
  exact ⟨hm, good_of_word h1⟩
theorem goodIn_app {big a b : List Cond} (ha : GoodIn big a) (hb : GoodIn big b) : GoodIn big (a ++ b) := fun w h => (List.mem_append.mp h).elim (ha w) (hb w)
theorem goodIn_ca {big a b : List Cond} {c : Cond} (ha : GoodIn big (c :: a)) (hb : GoodIn big b) : GoodIn big (c :: (a ++ b)) := fun w h => (List.mem_cons.mp h).elim (fun e => ha w (List.mem_cons.mpr (Or.inl e))) (fun h => (List.mem_append.mp h).elim (fun h => ha w (List.mem_cons.mpr (Or.inr h))) (hb w))
theorem goodIn_sub {big ws : List Cond} (hm : ∀ w ∈ ws, w ∈ big) (h : ws.all goodWord = true) : GoodIn big ws := fun w hw => ⟨hm w hw, good_of_word (List.all_eq_true.mp h w hw)⟩
/-! ===== END ===== -/

/-! ===== BEGIN printed: names, fields, word lists, decode rows ===== -/
def RX0 : String := "FoldedTheatre$History"
def TX0 : u_T := fun k => match k with
  | 0 => ("FoldedTheatre$History", "states", "[LFoldedTheatre$State;", true)
  | 1 => ("FoldedTheatre$History", "next", "I", false)
  | 2 => ("FoldedTheatre$History", "count", "I", false)
  | _ => ("FoldedTheatre$History", "paused", "Z", false)
def tyX0 : Nat → FieldType := fun k => match k with
  | 0 => .array (.object "FoldedTheatre$State")
  | 1 => .int
  | 2 => .int
  | _ => .boolean
abbrev wsX00 : List Cond := u_ws RX0 TX0 4
theorem nmX0 : ∀ a, a < 4 → ∀ b, b < 4 → a ≠ b → (TX0 a).2.1 ≠ (TX0 b).2.1 := by decide +kernel
theorem tyX0_ok : ∀ k, k < 4 → parseFieldDescriptor (TX0 k).2.2.1 = some (tyX0 k) := by decide +kernel
abbrev cX0_init : ByteArray := prog_2_method_1_code
def yX0_init : MethodName := ⟨RX0, "<init>", "()V"⟩
abbrev cX0_push : ByteArray := prog_2_method_2_code
def yX0_push : MethodName := ⟨RX0, "push", "(LFoldedTheatre$State;)V"⟩
abbrev cX0_pop : ByteArray := prog_2_method_3_code
def yX0_pop : MethodName := ⟨RX0, "pop", "(LFoldedTheatre$State;)V"⟩
abbrev cX0_clear : ByteArray := prog_2_method_4_code
def yX0_clear : MethodName := ⟨RX0, "clear", "()V"⟩
abbrev cX0_stateAt : ByteArray := prog_2_method_5_code
def yX0_stateAt : MethodName := ⟨RX0, "stateAt", "(I)LFoldedTheatre$State;"⟩
def RX1 : String := "FoldedTheatre$Layers"
def TX1 : u_T := fun k => match k with
  | 0 => ("FoldedTheatre$Layers", "count", "I", false)
  | 1 => ("FoldedTheatre$Layers", "order", "[I", true)
  | 2 => ("FoldedTheatre$Layers", "places", "[I", true)
  | _ => ("FoldedTheatre$Layers", "creases", "[I", true)
def tyX1 : Nat → FieldType := fun k => match k with
  | 0 => .int
  | 1 => .array .int
  | 2 => .array .int
  | _ => .array .int
abbrev wsX10 : List Cond := u_ws RX1 TX1 4
theorem nmX1 : ∀ a, a < 4 → ∀ b, b < 4 → a ≠ b → (TX1 a).2.1 ≠ (TX1 b).2.1 := by decide +kernel
theorem tyX1_ok : ∀ k, k < 4 → parseFieldDescriptor (TX1 k).2.2.1 = some (tyX1 k) := by decide +kernel
abbrev cX1_init : ByteArray := prog_3_method_1_code
def yX1_init : MethodName := ⟨RX1, "<init>", "()V"⟩
abbrev cX1_search : ByteArray := prog_3_method_2_code
def yX1_search : MethodName := ⟨RX1, "search", "(LFoldedTheatre$Piece;I)I"⟩
abbrev cX1_load : ByteArray := prog_3_method_3_code
def yX1_load : MethodName := ⟨RX1, "load", "(LFoldedTheatre$Piece;)V"⟩
abbrev cX1_nextLayer : ByteArray := prog_3_method_4_code
def yX1_nextLayer : MethodName := ⟨RX1, "nextLayer", "(I)I"⟩
abbrev cX1_isFree : ByteArray := prog_3_method_5_code
def yX1_isFree : MethodName := ⟨RX1, "isFree", "(II)Z"⟩
abbrev cX1_isAsCreased : ByteArray := prog_3_method_6_code
def yX1_isAsCreased : MethodName := ⟨RX1, "isAsCreased", "(II)Z"⟩
abbrev cX1_layersCollide : ByteArray := prog_3_method_7_code
def yX1_layersCollide : MethodName := ⟨RX1, "layersCollide", "()Z"⟩
abbrev cX1_isPierced : ByteArray := prog_3_method_8_code
def yX1_isPierced : MethodName := ⟨RX1, "isPierced", "(I)Z"⟩
abbrev cX1_isCrossed : ByteArray := prog_3_method_9_code
def yX1_isCrossed : MethodName := ⟨RX1, "isCrossed", "(I)Z"⟩
abbrev cX1_isBetween : ByteArray := prog_3_method_10_code
def yX1_isBetween : MethodName := ⟨RX1, "isBetween", "(II)Z"⟩
def RX2 : String := "FoldedTheatre$Piece"
def TX2 : u_T := fun k => match k with
  | 0 => ("FoldedTheatre$Piece", "kind", "I", false)
  | 1 => ("FoldedTheatre$Piece", "count", "I", false)
  | 2 => ("FoldedTheatre$Piece", "folded", "Z", false)
  | 3 => ("FoldedTheatre$Piece", "sizes", "[I", true)
  | _ => ("FoldedTheatre$Piece", "creases", "[I", true)
def tyX2 : Nat → FieldType := fun k => match k with
  | 0 => .int
  | 1 => .int
  | 2 => .boolean
  | 3 => .array .int
  | _ => .array .int
abbrev wsX20 : List Cond := u_ws RX2 TX2 5
theorem nmX2 : ∀ a, a < 5 → ∀ b, b < 5 → a ≠ b → (TX2 a).2.1 ≠ (TX2 b).2.1 := by decide +kernel
theorem tyX2_ok : ∀ k, k < 5 → parseFieldDescriptor (TX2 k).2.2.1 = some (tyX2 k) := by decide +kernel
abbrev cX2_init : ByteArray := prog_4_method_1_code
def yX2_init : MethodName := ⟨RX2, "<init>", "()V"⟩
abbrev cX2_takeSizes : ByteArray := prog_4_method_2_code
def yX2_takeSizes : MethodName := ⟨RX2, "takeSizes", "(II)Z"⟩
abbrev cX2_takeCreases : ByteArray := prog_4_method_3_code
def yX2_takeCreases : MethodName := ⟨RX2, "takeCreases", "(I)Z"⟩
abbrev cX2_copyFrom : ByteArray := prog_4_method_4_code
def yX2_copyFrom : MethodName := ⟨RX2, "copyFrom", "(LFoldedTheatre$Piece;)V"⟩
abbrev cX2_creaseCount : ByteArray := prog_4_method_5_code
def yX2_creaseCount : MethodName := ⟨RX2, "creaseCount", "()I"⟩
abbrev cX2_hasCrease : ByteArray := prog_4_method_6_code
def yX2_hasCrease : MethodName := ⟨RX2, "hasCrease", "(I)Z"⟩
abbrev cX2_countOf : ByteArray := prog_4_method_7_code
def yX2_countOf : MethodName := ⟨RX2, "countOf", "(I)I"⟩
abbrev cX2_isUndecided : ByteArray := prog_4_method_8_code
def yX2_isUndecided : MethodName := ⟨RX2, "isUndecided", "()Z"⟩
abbrev cX2_lowestUndecided : ByteArray := prog_4_method_9_code
def yX2_lowestUndecided : MethodName := ⟨RX2, "lowestUndecided", "()I"⟩
abbrev cX2_sum : ByteArray := prog_4_method_10_code
def yX2_sum : MethodName := ⟨RX2, "sum", "()I"⟩
abbrev cX2_sizesAsNumber : ByteArray := prog_4_method_11_code
def yX2_sizesAsNumber : MethodName := ⟨RX2, "sizesAsNumber", "()I"⟩
abbrev cX2_turnOver : ByteArray := prog_4_method_12_code
def yX2_turnOver : MethodName := ⟨RX2, "turnOver", "()V"⟩
abbrev cX2_becomeRotated : ByteArray := prog_4_method_13_code
def yX2_becomeRotated : MethodName := ⟨RX2, "becomeRotated", "(LFoldedTheatre$Piece;I)V"⟩
abbrev cX2_lengthenBy : ByteArray := prog_4_method_14_code
def yX2_lengthenBy : MethodName := ⟨RX2, "lengthenBy", "(LFoldedTheatre$Piece;I)V"⟩
abbrev cX2_becomeEndOf : ByteArray := prog_4_method_15_code
def yX2_becomeEndOf : MethodName := ⟨RX2, "becomeEndOf", "(LFoldedTheatre$Piece;I)V"⟩
abbrev cX2_placeOf : ByteArray := prog_4_method_16_code
def yX2_placeOf : MethodName := ⟨RX2, "placeOf", "(I)I"⟩
abbrev cX2_leftEndOf : ByteArray := prog_4_method_17_code
def yX2_leftEndOf : MethodName := ⟨RX2, "leftEndOf", "(I)I"⟩
abbrev cX2_rightEndOf : ByteArray := prog_4_method_18_code
def yX2_rightEndOf : MethodName := ⟨RX2, "rightEndOf", "(I)I"⟩
abbrev cX2_width : ByteArray := prog_4_method_19_code
def yX2_width : MethodName := ⟨RX2, "width", "()I"⟩
abbrev cX2_greatestSize : ByteArray := prog_4_method_20_code
def yX2_greatestSize : MethodName := ⟨RX2, "greatestSize", "()I"⟩
abbrev cX2_thickness : ByteArray := prog_4_method_21_code
def yX2_thickness : MethodName := ⟨RX2, "thickness", "()I"⟩
abbrev cX2_panelsBehind : ByteArray := prog_4_method_22_code
def yX2_panelsBehind : MethodName := ⟨RX2, "panelsBehind", "(I)I"⟩
abbrev cX2_reflection : ByteArray := prog_4_method_23_code
def yX2_reflection : MethodName := ⟨RX2, "reflection", "()I"⟩
def RX3 : String := "FoldedTheatre$Reducer"
def TX3 : u_T := fun k => match k with
  | 0 => ("FoldedTheatre$Reducer", "kind", "I", false)
  | 1 => ("FoldedTheatre$Reducer", "count", "I", false)
  | 2 => ("FoldedTheatre$Reducer", "sizes", "[I", true)
  | _ => ("FoldedTheatre$Reducer", "creases", "[I", true)
def tyX3 : Nat → FieldType := fun k => match k with
  | 0 => .int
  | 1 => .int
  | 2 => .array .int
  | _ => .array .int
abbrev wsX30 : List Cond := u_ws RX3 TX3 4
theorem nmX3 : ∀ a, a < 4 → ∀ b, b < 4 → a ≠ b → (TX3 a).2.1 ≠ (TX3 b).2.1 := by decide +kernel
theorem tyX3_ok : ∀ k, k < 4 → parseFieldDescriptor (TX3 k).2.2.1 = some (tyX3 k) := by decide +kernel
abbrev cX3_init : ByteArray := prog_5_method_1_code
def yX3_init : MethodName := ⟨RX3, "<init>", "()V"⟩
abbrev cX3_load : ByteArray := prog_5_method_2_code
def yX3_load : MethodName := ⟨RX3, "load", "(LFoldedTheatre$Piece;)V"⟩
abbrev cX3_putCrease : ByteArray := prog_5_method_3_code
def yX3_putCrease : MethodName := ⟨RX3, "putCrease", "(II)V"⟩
abbrev cX3_whatStandsInTheWay : ByteArray := prog_5_method_4_code
def yX3_whatStandsInTheWay : MethodName := ⟨RX3, "whatStandsInTheWay", "(LFoldedTheatre$Piece;)I"⟩
abbrev cX3_evenAngles : ByteArray := prog_5_method_5_code
def yX3_evenAngles : MethodName := ⟨RX3, "evenAngles", "()I"⟩
abbrev cX3_hasSmallAngleOfOneKind : ByteArray := prog_5_method_6_code
def yX3_hasSmallAngleOfOneKind : MethodName := ⟨RX3, "hasSmallAngleOfOneKind", "()Z"⟩
abbrev cX3_countWays : ByteArray := prog_5_method_7_code
def yX3_countWays : MethodName := ⟨RX3, "countWays", "(LFoldedTheatre$Piece;)I"⟩
abbrev cX3_fewestChanges : ByteArray := prog_5_method_8_code
def yX3_fewestChanges : MethodName := ⟨RX3, "fewestChanges", "(LFoldedTheatre$Piece;)I"⟩
abbrev cX3_changesTo : ByteArray := prog_5_method_9_code
def yX3_changesTo : MethodName := ⟨RX3, "changesTo", "(LFoldedTheatre$Piece;I)I"⟩
abbrev cX3_foldsWith : ByteArray := prog_5_method_10_code
def yX3_foldsWith : MethodName := ⟨RX3, "foldsWith", "(LFoldedTheatre$Piece;I)Z"⟩
abbrev cX3_kindIn : ByteArray := prog_5_method_11_code
def yX3_kindIn : MethodName := ⟨RX3, "kindIn", "(II)I"⟩
abbrev cX3_isReduced : ByteArray := prog_5_method_12_code
def yX3_isReduced : MethodName := ⟨RX3, "isReduced", "()Z"⟩
abbrev cX3_reduce : ByteArray := prog_5_method_13_code
def yX3_reduce : MethodName := ⟨RX3, "reduce", "()I"⟩
abbrev cX3_firstStep : ByteArray := prog_5_method_14_code
def yX3_firstStep : MethodName := ⟨RX3, "firstStep", "()I"⟩
abbrev cX3_make : ByteArray := prog_5_method_15_code
def yX3_make : MethodName := ⟨RX3, "make", "(I)V"⟩
abbrev cX3_before : ByteArray := prog_5_method_16_code
def yX3_before : MethodName := ⟨RX3, "before", "(I)I"⟩
abbrev cX3_after : ByteArray := prog_5_method_17_code
def yX3_after : MethodName := ⟨RX3, "after", "(I)I"⟩
def RX4 : String := "FoldedTheatre$Script"
def TX4 : u_T := fun k => match k with
  | 0 => ("FoldedTheatre$Script", "codes", "[I", true)
  | 1 => ("FoldedTheatre$Script", "length", "I", false)
  | 2 => ("FoldedTheatre$Script", "position", "I", false)
  | 3 => ("FoldedTheatre$Script", "letter", "I", false)
  | 4 => ("FoldedTheatre$Script", "target", "I", false)
  | 5 => ("FoldedTheatre$Script", "creases", "I", false)
  | 6 => ("FoldedTheatre$Script", "signCount", "I", false)
  | _ => ("FoldedTheatre$Script", "sign", "I", false)
def tyX4 : Nat → FieldType := fun k => match k with
  | 0 => .array .int
  | 1 => .int
  | 2 => .int
  | 3 => .int
  | 4 => .int
  | 5 => .int
  | 6 => .int
  | _ => .int
abbrev wsX40 : List Cond := u_ws RX4 TX4 8
theorem nmX4 : ∀ a, a < 8 → ∀ b, b < 8 → a ≠ b → (TX4 a).2.1 ≠ (TX4 b).2.1 := by decide +kernel
theorem tyX4_ok : ∀ k, k < 8 → parseFieldDescriptor (TX4 k).2.2.1 = some (tyX4 k) := by decide +kernel
abbrev cX4_init : ByteArray := prog_6_method_1_code
def yX4_init : MethodName := ⟨RX4, "<init>", "()V"⟩
abbrev cX4_write : ByteArray := prog_6_method_2_code
def yX4_write : MethodName := ⟨RX4, "write", "(I)V"⟩
abbrev cX4_clear : ByteArray := prog_6_method_3_code
def yX4_clear : MethodName := ⟨RX4, "clear", "()V"⟩
abbrev cX4_rewind : ByteArray := prog_6_method_4_code
def yX4_rewind : MethodName := ⟨RX4, "rewind", "()V"⟩
abbrev cX4_faultPosition : ByteArray := prog_6_method_5_code
def yX4_faultPosition : MethodName := ⟨RX4, "faultPosition", "()I"⟩
abbrev cX4_takeCommand : ByteArray := prog_6_method_6_code
def yX4_takeCommand : MethodName := ⟨RX4, "takeCommand", "()Z"⟩
abbrev cX4_codeHere : ByteArray := prog_6_method_7_code
def yX4_codeHere : MethodName := ⟨RX4, "codeHere", "()I"⟩
abbrev cX4_takeSign : ByteArray := prog_6_method_8_code
def yX4_takeSign : MethodName := ⟨RX4, "takeSign", "(C)Z"⟩
abbrev cX4_takeSizes : ByteArray := prog_6_method_9_code
def yX4_takeSizes : MethodName := ⟨RX4, "takeSizes", "()Z"⟩
abbrev cX4_takeCreases : ByteArray := prog_6_method_10_code
def yX4_takeCreases : MethodName := ⟨RX4, "takeCreases", "()Z"⟩
abbrev cX4_takeKind : ByteArray := prog_6_method_11_code
def yX4_takeKind : MethodName := ⟨RX4, "takeKind", "()Z"⟩
abbrev cX4_takePiece : ByteArray := prog_6_method_12_code
def yX4_takePiece : MethodName := ⟨RX4, "takePiece", "()Z"⟩
abbrev cX4_takeCrease : ByteArray := prog_6_method_13_code
def yX4_takeCrease : MethodName := ⟨RX4, "takeCrease", "()Z"⟩
abbrev cX4_takeDigit : ByteArray := prog_6_method_14_code
def yX4_takeDigit : MethodName := ⟨RX4, "takeDigit", "()Z"⟩
def RX5 : String := "FoldedTheatre$State"
def TX5 : u_T := fun k => match k with
  | 0 => ("FoldedTheatre$State", "pieces", "[LFoldedTheatre$Piece;", true)
  | 1 => ("FoldedTheatre$State", "count", "I", false)
  | 2 => ("FoldedTheatre$State", "width", "I", false)
  | _ => ("FoldedTheatre$State", "folds", "I", false)
def tyX5 : Nat → FieldType := fun k => match k with
  | 0 => .array (.object "FoldedTheatre$Piece")
  | 1 => .int
  | 2 => .int
  | _ => .int
abbrev wsX50 : List Cond := u_ws RX5 TX5 4
theorem nmX5 : ∀ a, a < 4 → ∀ b, b < 4 → a ≠ b → (TX5 a).2.1 ≠ (TX5 b).2.1 := by decide +kernel
theorem tyX5_ok : ∀ k, k < 4 → parseFieldDescriptor (TX5 k).2.2.1 = some (tyX5 k) := by decide +kernel
abbrev cX5_init : ByteArray := prog_7_method_1_code
def yX5_init : MethodName := ⟨RX5, "<init>", "()V"⟩
abbrev cX5_pieceAt : ByteArray := prog_7_method_2_code
def yX5_pieceAt : MethodName := ⟨RX5, "pieceAt", "(I)LFoldedTheatre$Piece;"⟩
abbrev cX5_copyFrom : ByteArray := prog_7_method_3_code
def yX5_copyFrom : MethodName := ⟨RX5, "copyFrom", "(LFoldedTheatre$State;)V"⟩
abbrev cX5_addCopyOf : ByteArray := prog_7_method_4_code
def yX5_addCopyOf : MethodName := ⟨RX5, "addCopyOf", "(LFoldedTheatre$Piece;)V"⟩
abbrev cX5_removeAt : ByteArray := prog_7_method_5_code
def yX5_removeAt : MethodName := ⟨RX5, "removeAt", "(I)V"⟩
abbrev cX5_occupied : ByteArray := prog_7_method_6_code
def yX5_occupied : MethodName := ⟨RX5, "occupied", "()I"⟩
abbrev cX5_countOfKind : ByteArray := prog_7_method_7_code
def yX5_countOfKind : MethodName := ⟨RX5, "countOfKind", "(I)I"⟩
abbrev cX5_foldedCount : ByteArray := prog_7_method_8_code
def yX5_foldedCount : MethodName := ⟨RX5, "foldedCount", "()I"⟩
abbrev cX5_panelCount : ByteArray := prog_7_method_9_code
def yX5_panelCount : MethodName := ⟨RX5, "panelCount", "()I"⟩
abbrev cX5_creasesOf : ByteArray := prog_7_method_10_code
def yX5_creasesOf : MethodName := ⟨RX5, "creasesOf", "(I)I"⟩
def RX6 : String := "FoldedTheatre"
def TX6 : u_T := fun k => match k with
  | 0 => ("FoldedTheatre", "now", "LFoldedTheatre$State;", true)
  | 1 => ("FoldedTheatre", "before", "LFoldedTheatre$State;", true)
  | 2 => ("FoldedTheatre", "snapshot", "LFoldedTheatre$State;", true)
  | 3 => ("FoldedTheatre", "history", "LFoldedTheatre$History;", true)
  | 4 => ("FoldedTheatre", "script", "LFoldedTheatre$Script;", true)
  | 5 => ("FoldedTheatre", "reducer", "LFoldedTheatre$Reducer;", true)
  | 6 => ("FoldedTheatre", "layers", "LFoldedTheatre$Layers;", true)
  | 7 => ("FoldedTheatre", "draft", "LFoldedTheatre$Piece;", true)
  | 8 => ("FoldedTheatre", "hasSnapshot", "Z", false)
  | 9 => ("FoldedTheatre", "command", "I", false)
  | 10 => ("FoldedTheatre", "reason", "I", false)
  | 11 => ("FoldedTheatre", "detail", "I", false)
  | _ => ("FoldedTheatre", "refusedCommand", "I", false)
def tyX6 : Nat → FieldType := fun k => match k with
  | 0 => .object "FoldedTheatre$State"
  | 1 => .object "FoldedTheatre$State"
  | 2 => .object "FoldedTheatre$State"
  | 3 => .object "FoldedTheatre$History"
  | 4 => .object "FoldedTheatre$Script"
  | 5 => .object "FoldedTheatre$Reducer"
  | 6 => .object "FoldedTheatre$Layers"
  | 7 => .object "FoldedTheatre$Piece"
  | 8 => .boolean
  | 9 => .int
  | 10 => .int
  | 11 => .int
  | _ => .int
abbrev wsX60 : List Cond := u_ws RX6 TX6 13
theorem nmX6 : ∀ a, a < 13 → ∀ b, b < 13 → a ≠ b → (TX6 a).2.1 ≠ (TX6 b).2.1 := by decide +kernel
theorem tyX6_ok : ∀ k, k < 13 → parseFieldDescriptor (TX6 k).2.2.1 = some (tyX6 k) := by decide +kernel
abbrev cX6_init : ByteArray := prog_1_method_1_code
def yX6_init : MethodName := ⟨RX6, "<init>", "()V"⟩
abbrev cX6_stage : ByteArray := prog_1_method_2_code
def yX6_stage : MethodName := ⟨RX6, "stage", "(I)I"⟩
abbrev cX6_add : ByteArray := prog_1_method_3_code
def yX6_add : MethodName := ⟨RX6, "add", "(III)I"⟩
abbrev cX6_mark : ByteArray := prog_1_method_4_code
def yX6_mark : MethodName := ⟨RX6, "mark", "(III)I"⟩
abbrev cX6_turn : ByteArray := prog_1_method_5_code
def yX6_turn : MethodName := ⟨RX6, "turn", "(I)I"⟩
abbrev cX6_rotate : ByteArray := prog_1_method_6_code
def yX6_rotate : MethodName := ⟨RX6, "rotate", "(II)I"⟩
abbrev cX6_join : ByteArray := prog_1_method_7_code
def yX6_join : MethodName := ⟨RX6, "join", "(III)I"⟩
abbrev cX6_cut : ByteArray := prog_1_method_8_code
def yX6_cut : MethodName := ⟨RX6, "cut", "(II)I"⟩
abbrev cX6_fold : ByteArray := prog_1_method_9_code
def yX6_fold : MethodName := ⟨RX6, "fold", "(I)I"⟩
abbrev cX6_unfold : ByteArray := prog_1_method_10_code
def yX6_unfold : MethodName := ⟨RX6, "unfold", "(I)I"⟩
abbrev cX6_drop : ByteArray := prog_1_method_11_code
def yX6_drop : MethodName := ⟨RX6, "drop", "(I)I"⟩
abbrev cX6_piece : ByteArray := prog_1_method_12_code
def yX6_piece : MethodName := ⟨RX6, "piece", "(II)I"⟩
abbrev cX6_size : ByteArray := prog_1_method_13_code
def yX6_size : MethodName := ⟨RX6, "size", "(II)I"⟩
abbrev cX6_crease : ByteArray := prog_1_method_14_code
def yX6_crease : MethodName := ⟨RX6, "crease", "(II)I"⟩
abbrev cX6_why : ByteArray := prog_1_method_15_code
def yX6_why : MethodName := ⟨RX6, "why", "(I)I"⟩
abbrev cX6_foldsAgain : ByteArray := prog_1_method_16_code
def yX6_foldsAgain : MethodName := ⟨RX6, "foldsAgain", "(I)I"⟩
abbrev cX6_step : ByteArray := prog_1_method_17_code
def yX6_step : MethodName := ⟨RX6, "step", "(I)I"⟩
abbrev cX6_steps : ByteArray := prog_1_method_18_code
def yX6_steps : MethodName := ⟨RX6, "steps", "(I)I"⟩
abbrev cX6_ways : ByteArray := prog_1_method_19_code
def yX6_ways : MethodName := ⟨RX6, "ways", "(I)I"⟩
abbrev cX6_fewest : ByteArray := prog_1_method_20_code
def yX6_fewest : MethodName := ⟨RX6, "fewest", "(I)I"⟩
abbrev cX6_place : ByteArray := prog_1_method_21_code
def yX6_place : MethodName := ⟨RX6, "place", "(II)I"⟩
abbrev cX6_layer : ByteArray := prog_1_method_22_code
def yX6_layer : MethodName := ⟨RX6, "layer", "(II)I"⟩
abbrev cX6_orders : ByteArray := prog_1_method_23_code
def yX6_orders : MethodName := ⟨RX6, "orders", "(I)I"⟩
abbrev cX6_thickest : ByteArray := prog_1_method_24_code
def yX6_thickest : MethodName := ⟨RX6, "thickest", "(I)I"⟩
abbrev cX6_reflected : ByteArray := prog_1_method_25_code
def yX6_reflected : MethodName := ⟨RX6, "reflected", "(I)I"⟩
abbrev cX6_append : ByteArray := prog_1_method_26_code
def yX6_append : MethodName := ⟨RX6, "append", "(I)I"⟩
abbrev cX6_read : ByteArray := prog_1_method_27_code
def yX6_read : MethodName := ⟨RX6, "read", "()I"⟩
abbrev cX6_refusal : ByteArray := prog_1_method_28_code
def yX6_refusal : MethodName := ⟨RX6, "refusal", "(I)I"⟩
abbrev cX6_account : ByteArray := prog_1_method_29_code
def yX6_account : MethodName := ⟨RX6, "account", "(I)I"⟩
abbrev cX6_share : ByteArray := prog_1_method_30_code
def yX6_share : MethodName := ⟨RX6, "share", "()I"⟩
abbrev cX6_undo : ByteArray := prog_1_method_31_code
def yX6_undo : MethodName := ⟨RX6, "undo", "()I"⟩
abbrev cX6_save : ByteArray := prog_1_method_32_code
def yX6_save : MethodName := ⟨RX6, "save", "()I"⟩
abbrev cX6_restore : ByteArray := prog_1_method_33_code
def yX6_restore : MethodName := ⟨RX6, "restore", "()I"⟩
abbrev cX6_refuse : ByteArray := prog_1_method_34_code
def yX6_refuse : MethodName := ⟨RX6, "refuse", "(II)I"⟩
abbrev cX6_errorOfDecidedStrip : ByteArray := prog_1_method_35_code
def yX6_errorOfDecidedStrip : MethodName := ⟨RX6, "errorOfDecidedStrip", "(LFoldedTheatre$Piece;)I"⟩
abbrev cX6_perform : ByteArray := prog_1_method_36_code
def yX6_perform : MethodName := ⟨RX6, "perform", "()I"⟩
abbrev cX6_withCreasesAsTold : ByteArray := prog_1_method_37_code
def yX6_withCreasesAsTold : MethodName := ⟨RX6, "withCreasesAsTold", "(I)I"⟩
abbrev cX6_isCreaseKind : ByteArray := prog_1_method_38_code
def yX6_isCreaseKind : MethodName := ⟨RX6, "isCreaseKind", "(I)Z"⟩
abbrev cX6_bitsOf : ByteArray := prog_1_method_39_code
def yX6_bitsOf : MethodName := ⟨RX6, "bitsOf", "(F)I"⟩
abbrev cX6_at : ByteArray := prog_1_method_40_code
def yX6_at : MethodName := ⟨RX6, "at", "([II)I"⟩
abbrev cX6_put : ByteArray := prog_1_method_41_code
def yX6_put : MethodName := ⟨RX6, "put", "([III)V"⟩
abbrev cX6_copyRow : ByteArray := prog_1_method_42_code
def yX6_copyRow : MethodName := ⟨RX6, "copyRow", "([I[I)V"⟩
abbrev cX6_takeOut : ByteArray := prog_1_method_43_code
def yX6_takeOut : MethodName := ⟨RX6, "takeOut", "([II)V"⟩
def RX7 : String := "FoldedTheatreModel"
def TX7 : u_T := fun k => match k with
  | 0 => ("FoldedTheatreModel", "s", "[I", true)
  | 1 => ("FoldedTheatreModel", "was", "[I", true)
  | 2 => ("FoldedTheatreModel", "saved", "[I", true)
  | 3 => ("FoldedTheatreModel", "past", "[I", true)
  | 4 => ("FoldedTheatreModel", "changes", "I", false)
  | 5 => ("FoldedTheatreModel", "reason", "I", false)
  | 6 => ("FoldedTheatreModel", "detail", "I", false)
  | 7 => ("FoldedTheatreModel", "command", "I", false)
  | 8 => ("FoldedTheatreModel", "isSaved", "Z", false)
  | 9 => ("FoldedTheatreModel", "newSize", "[I", true)
  | 10 => ("FoldedTheatreModel", "newCrease", "[I", true)
  | 11 => ("FoldedTheatreModel", "size", "[I", true)
  | 12 => ("FoldedTheatreModel", "crease", "[I", true)
  | 13 => ("FoldedTheatreModel", "sized", "I", false)
  | 14 => ("FoldedTheatreModel", "isRound", "Z", false)
  | 15 => ("FoldedTheatreModel", "layer", "[I", true)
  | 16 => ("FoldedTheatreModel", "firstLayer", "[I", true)
  | 17 => ("FoldedTheatreModel", "begins", "[I", true)
  | 18 => ("FoldedTheatreModel", "isTaken", "[Z", true)
  | 19 => ("FoldedTheatreModel", "strip", "I", false)
  | 20 => ("FoldedTheatreModel", "panels", "I", false)
  | 21 => ("FoldedTheatreModel", "found", "I", false)
  | 22 => ("FoldedTheatreModel", "text", "[I", true)
  | 23 => ("FoldedTheatreModel", "length", "I", false)
  | 24 => ("FoldedTheatreModel", "here", "I", false)
  | 25 => ("FoldedTheatreModel", "letter", "I", false)
  | 26 => ("FoldedTheatreModel", "told", "I", false)
  | 27 => ("FoldedTheatreModel", "other", "I", false)
  | 28 => ("FoldedTheatreModel", "signs", "I", false)
  | _ => ("FoldedTheatreModel", "kind", "I", false)
def tyX7 : Nat → FieldType := fun k => match k with
  | 0 => .array .int
  | 1 => .array .int
  | 2 => .array .int
  | 3 => .array .int
  | 4 => .int
  | 5 => .int
  | 6 => .int
  | 7 => .int
  | 8 => .boolean
  | 9 => .array .int
  | 10 => .array .int
  | 11 => .array .int
  | 12 => .array .int
  | 13 => .int
  | 14 => .boolean
  | 15 => .array .int
  | 16 => .array .int
  | 17 => .array .int
  | 18 => .array .boolean
  | 19 => .int
  | 20 => .int
  | 21 => .int
  | 22 => .array .int
  | 23 => .int
  | 24 => .int
  | 25 => .int
  | 26 => .int
  | 27 => .int
  | 28 => .int
  | _ => .int
abbrev wsX70 : List Cond := u_ws RX7 TX7 30
theorem nmX7 : ∀ a, a < 30 → ∀ b, b < 30 → a ≠ b → (TX7 a).2.1 ≠ (TX7 b).2.1 := by decide +kernel
theorem tyX7_ok : ∀ k, k < 30 → parseFieldDescriptor (TX7 k).2.2.1 = some (tyX7 k) := by decide +kernel
abbrev cX7_init : ByteArray := prog_9_method_1_code
def yX7_init : MethodName := ⟨RX7, "<init>", "()V"⟩
abbrev cX7_isIn : ByteArray := prog_9_method_2_code
def yX7_isIn : MethodName := ⟨RX7, "isIn", "(III)Z"⟩
abbrev cX7_lesser : ByteArray := prog_9_method_3_code
def yX7_lesser : MethodName := ⟨RX7, "lesser", "(II)I"⟩
abbrev cX7_greater : ByteArray := prog_9_method_4_code
def yX7_greater : MethodName := ⟨RX7, "greater", "(II)I"⟩
abbrev cX7_copies : ByteArray := prog_9_method_5_code
def yX7_copies : MethodName := ⟨RX7, "copies", "([II[II)V"⟩
abbrev cX7_keeps : ByteArray := prog_9_method_6_code
def yX7_keeps : MethodName := ⟨RX7, "keeps", "()V"⟩
abbrev cX7_changed : ByteArray := prog_9_method_7_code
def yX7_changed : MethodName := ⟨RX7, "changed", "()V"⟩
abbrev cX7_ends : ByteArray := prog_9_method_8_code
def yX7_ends : MethodName := ⟨RX7, "ends", "(I)I"⟩
abbrev cX7_refuses : ByteArray := prog_9_method_9_code
def yX7_refuses : MethodName := ⟨RX7, "refuses", "(II)I"⟩
abbrev cX7_isPiece : ByteArray := prog_9_method_10_code
def yX7_isPiece : MethodName := ⟨RX7, "isPiece", "(I)Z"⟩
abbrev cX7_at : ByteArray := prog_9_method_11_code
def yX7_at : MethodName := ⟨RX7, "at", "(II)I"⟩
abbrev cX7_of : ByteArray := prog_9_method_12_code
def yX7_of : MethodName := ⟨RX7, "of", "(II)I"⟩
abbrev cX7_isCorner : ByteArray := prog_9_method_13_code
def yX7_isCorner : MethodName := ⟨RX7, "isCorner", "(I)Z"⟩
abbrev cX7_isFolded : ByteArray := prog_9_method_14_code
def yX7_isFolded : MethodName := ⟨RX7, "isFolded", "(I)Z"⟩
abbrev cX7_creases : ByteArray := prog_9_method_15_code
def yX7_creases : MethodName := ⟨RX7, "creases", "(I)I"⟩
abbrev cX7_isCrease : ByteArray := prog_9_method_16_code
def yX7_isCrease : MethodName := ⟨RX7, "isCrease", "(II)Z"⟩
abbrev cX7_sizeOf : ByteArray := prog_9_method_17_code
def yX7_sizeOf : MethodName := ⟨RX7, "sizeOf", "(II)I"⟩
abbrev cX7_creaseOf : ByteArray := prog_9_method_18_code
def yX7_creaseOf : MethodName := ⟨RX7, "creaseOf", "(II)I"⟩
abbrev cX7_countOf : ByteArray := prog_9_method_19_code
def yX7_countOf : MethodName := ⟨RX7, "countOf", "(II)I"⟩
abbrev cX7_digits : ByteArray := prog_9_method_20_code
def yX7_digits : MethodName := ⟨RX7, "digits", "(I)I"⟩
abbrev cX7_laysSizes : ByteArray := prog_9_method_21_code
def yX7_laysSizes : MethodName := ⟨RX7, "laysSizes", "(I)I"⟩
abbrev cX7_sumOfNew : ByteArray := prog_9_method_22_code
def yX7_sumOfNew : MethodName := ⟨RX7, "sumOfNew", "(I)I"⟩
abbrev cX7_areSizes : ByteArray := prog_9_method_23_code
def yX7_areSizes : MethodName := ⟨RX7, "areSizes", "(II)Z"⟩
abbrev cX7_laysCreases : ByteArray := prog_9_method_24_code
def yX7_laysCreases : MethodName := ⟨RX7, "laysCreases", "(II)Z"⟩
abbrev cX7_adds : ByteArray := prog_9_method_25_code
def yX7_adds : MethodName := ⟨RX7, "adds", "(II)I"⟩
abbrev cX7_addsTold : ByteArray := prog_9_method_26_code
def yX7_addsTold : MethodName := ⟨RX7, "addsTold", "(III)I"⟩
abbrev cX7_add : ByteArray := prog_9_method_27_code
def yX7_add : MethodName := ⟨RX7, "add", "(III)I"⟩
abbrev cX7_marks : ByteArray := prog_9_method_28_code
def yX7_marks : MethodName := ⟨RX7, "marks", "(III)I"⟩
abbrev cX7_mark : ByteArray := prog_9_method_29_code
def yX7_mark : MethodName := ⟨RX7, "mark", "(III)I"⟩
abbrev cX7_turns : ByteArray := prog_9_method_30_code
def yX7_turns : MethodName := ⟨RX7, "turns", "(I)I"⟩
abbrev cX7_turn : ByteArray := prog_9_method_31_code
def yX7_turn : MethodName := ⟨RX7, "turn", "(I)I"⟩
abbrev cX7_rotates : ByteArray := prog_9_method_32_code
def yX7_rotates : MethodName := ⟨RX7, "rotates", "(II)I"⟩
abbrev cX7_rotate : ByteArray := prog_9_method_33_code
def yX7_rotate : MethodName := ⟨RX7, "rotate", "(II)I"⟩
abbrev cX7_goes : ByteArray := prog_9_method_34_code
def yX7_goes : MethodName := ⟨RX7, "goes", "(I)V"⟩
abbrev cX7_joins : ByteArray := prog_9_method_35_code
def yX7_joins : MethodName := ⟨RX7, "joins", "(III)I"⟩
abbrev cX7_join : ByteArray := prog_9_method_36_code
def yX7_join : MethodName := ⟨RX7, "join", "(III)I"⟩
abbrev cX7_cuts : ByteArray := prog_9_method_37_code
def yX7_cuts : MethodName := ⟨RX7, "cuts", "(II)I"⟩
abbrev cX7_cut : ByteArray := prog_9_method_38_code
def yX7_cut : MethodName := ⟨RX7, "cut", "(II)I"⟩
abbrev cX7_lays : ByteArray := prog_9_method_39_code
def yX7_lays : MethodName := ⟨RX7, "lays", "(I)V"⟩
abbrev cX7_crimped : ByteArray := prog_9_method_40_code
def yX7_crimped : MethodName := ⟨RX7, "crimped", "()I"⟩
abbrev cX7_stepNow : ByteArray := prog_9_method_41_code
def yX7_stepNow : MethodName := ⟨RX7, "stepNow", "()I"⟩
abbrev cX7_dropsSize : ByteArray := prog_9_method_42_code
def yX7_dropsSize : MethodName := ⟨RX7, "dropsSize", "(I)V"⟩
abbrev cX7_dropsCrease : ByteArray := prog_9_method_43_code
def yX7_dropsCrease : MethodName := ⟨RX7, "dropsCrease", "(I)V"⟩
abbrev cX7_crimpsStrip : ByteArray := prog_9_method_44_code
def yX7_crimpsStrip : MethodName := ⟨RX7, "crimpsStrip", "(I)V"⟩
abbrev cX7_crimpsCorner : ByteArray := prog_9_method_45_code
def yX7_crimpsCorner : MethodName := ⟨RX7, "crimpsCorner", "(I)V"⟩
abbrev cX7_makes : ByteArray := prog_9_method_46_code
def yX7_makes : MethodName := ⟨RX7, "makes", "(I)V"⟩
abbrev cX7_reduces : ByteArray := prog_9_method_47_code
def yX7_reduces : MethodName := ⟨RX7, "reduces", "()I"⟩
abbrev cX7_folds : ByteArray := prog_9_method_48_code
def yX7_folds : MethodName := ⟨RX7, "folds", "()Z"⟩
abbrev cX7_foldsNow : ByteArray := prog_9_method_49_code
def yX7_foldsNow : MethodName := ⟨RX7, "foldsNow", "(I)Z"⟩
abbrev cX7_evenAngles : ByteArray := prog_9_method_50_code
def yX7_evenAngles : MethodName := ⟨RX7, "evenAngles", "(I)I"⟩
abbrev cX7_hasSharp : ByteArray := prog_9_method_51_code
def yX7_hasSharp : MethodName := ⟨RX7, "hasSharp", "(I)Z"⟩
abbrev cX7_whyNot : ByteArray := prog_9_method_52_code
def yX7_whyNot : MethodName := ⟨RX7, "whyNot", "(I)I"⟩
abbrev cX7_why : ByteArray := prog_9_method_53_code
def yX7_why : MethodName := ⟨RX7, "why", "(I)I"⟩
abbrev cX7_step : ByteArray := prog_9_method_54_code
def yX7_step : MethodName := ⟨RX7, "step", "(I)I"⟩
abbrev cX7_steps : ByteArray := prog_9_method_55_code
def yX7_steps : MethodName := ⟨RX7, "steps", "(I)I"⟩
abbrev cX7_laysBy : ByteArray := prog_9_method_56_code
def yX7_laysBy : MethodName := ⟨RX7, "laysBy", "(II)V"⟩
abbrev cX7_otherwise : ByteArray := prog_9_method_57_code
def yX7_otherwise : MethodName := ⟨RX7, "otherwise", "(II)I"⟩
abbrev cX7_foldsBy : ByteArray := prog_9_method_58_code
def yX7_foldsBy : MethodName := ⟨RX7, "foldsBy", "(II)Z"⟩
abbrev cX7_ways : ByteArray := prog_9_method_59_code
def yX7_ways : MethodName := ⟨RX7, "ways", "(I)I"⟩
abbrev cX7_fewest : ByteArray := prog_9_method_60_code
def yX7_fewest : MethodName := ⟨RX7, "fewest", "(I)I"⟩
abbrev cX7_placeOf : ByteArray := prog_9_method_61_code
def yX7_placeOf : MethodName := ⟨RX7, "placeOf", "(II)I"⟩
abbrev cX7_widthOf : ByteArray := prog_9_method_62_code
def yX7_widthOf : MethodName := ⟨RX7, "widthOf", "(I)I"⟩
abbrev cX7_used : ByteArray := prog_9_method_63_code
def yX7_used : MethodName := ⟨RX7, "used", "()I"⟩
abbrev cX7_stages : ByteArray := prog_9_method_64_code
def yX7_stages : MethodName := ⟨RX7, "stages", "(I)I"⟩
abbrev cX7_stage : ByteArray := prog_9_method_65_code
def yX7_stage : MethodName := ⟨RX7, "stage", "(I)I"⟩
abbrev cX7_lowestOpen : ByteArray := prog_9_method_66_code
def yX7_lowestOpen : MethodName := ⟨RX7, "lowestOpen", "(I)I"⟩
abbrev cX7_foldsOnStage : ByteArray := prog_9_method_67_code
def yX7_foldsOnStage : MethodName := ⟨RX7, "foldsOnStage", "(I)I"⟩
abbrev cX7_fold : ByteArray := prog_9_method_68_code
def yX7_fold : MethodName := ⟨RX7, "fold", "(I)I"⟩
abbrev cX7_unfolds : ByteArray := prog_9_method_69_code
def yX7_unfolds : MethodName := ⟨RX7, "unfolds", "(I)I"⟩
abbrev cX7_unfold : ByteArray := prog_9_method_70_code
def yX7_unfold : MethodName := ⟨RX7, "unfold", "(I)I"⟩
abbrev cX7_drops : ByteArray := prog_9_method_71_code
def yX7_drops : MethodName := ⟨RX7, "drops", "(I)I"⟩
abbrev cX7_drop : ByteArray := prog_9_method_72_code
def yX7_drop : MethodName := ⟨RX7, "drop", "(I)I"⟩
abbrev cX7_sumOf : ByteArray := prog_9_method_73_code
def yX7_sumOf : MethodName := ⟨RX7, "sumOf", "(I)I"⟩
abbrev cX7_piece : ByteArray := prog_9_method_74_code
def yX7_piece : MethodName := ⟨RX7, "piece", "(II)I"⟩
abbrev cX7_size : ByteArray := prog_9_method_75_code
def yX7_size : MethodName := ⟨RX7, "size", "(II)I"⟩
abbrev cX7_crease : ByteArray := prog_9_method_76_code
def yX7_crease : MethodName := ⟨RX7, "crease", "(II)I"⟩
abbrev cX7_isAbove : ByteArray := prog_9_method_77_code
def yX7_isAbove : MethodName := ⟨RX7, "isAbove", "(I)Z"⟩
abbrev cX7_isBetween : ByteArray := prog_9_method_78_code
def yX7_isBetween : MethodName := ⟨RX7, "isBetween", "(II)Z"⟩
abbrev cX7_reachesOver : ByteArray := prog_9_method_79_code
def yX7_reachesOver : MethodName := ⟨RX7, "reachesOver", "(II)Z"⟩
abbrev cX7_collides : ByteArray := prog_9_method_80_code
def yX7_collides : MethodName := ⟨RX7, "collides", "(I)Z"⟩
abbrev cX7_isPossible : ByteArray := prog_9_method_81_code
def yX7_isPossible : MethodName := ⟨RX7, "isPossible", "()Z"⟩
abbrev cX7_gives : ByteArray := prog_9_method_82_code
def yX7_gives : MethodName := ⟨RX7, "gives", "(I)V"⟩
abbrev cX7_ordersOf : ByteArray := prog_9_method_83_code
def yX7_ordersOf : MethodName := ⟨RX7, "ordersOf", "(I)I"⟩
abbrev cX7_wrongStrip : ByteArray := prog_9_method_84_code
def yX7_wrongStrip : MethodName := ⟨RX7, "wrongStrip", "(I)I"⟩
abbrev cX7_foldsAgain : ByteArray := prog_9_method_85_code
def yX7_foldsAgain : MethodName := ⟨RX7, "foldsAgain", "(I)I"⟩
abbrev cX7_orders : ByteArray := prog_9_method_86_code
def yX7_orders : MethodName := ⟨RX7, "orders", "(I)I"⟩
abbrev cX7_isStripWithout : ByteArray := prog_9_method_87_code
def yX7_isStripWithout : MethodName := ⟨RX7, "isStripWithout", "(III)Z"⟩
abbrev cX7_layer : ByteArray := prog_9_method_88_code
def yX7_layer : MethodName := ⟨RX7, "layer", "(II)I"⟩
abbrev cX7_place : ByteArray := prog_9_method_89_code
def yX7_place : MethodName := ⟨RX7, "place", "(II)I"⟩
abbrev cX7_overAt : ByteArray := prog_9_method_90_code
def yX7_overAt : MethodName := ⟨RX7, "overAt", "(II)I"⟩
abbrev cX7_thickest : ByteArray := prog_9_method_91_code
def yX7_thickest : MethodName := ⟨RX7, "thickest", "(I)I"⟩
abbrev cX7_reflected : ByteArray := prog_9_method_92_code
def yX7_reflected : MethodName := ⟨RX7, "reflected", "(I)I"⟩
abbrev cX7_append : ByteArray := prog_9_method_93_code
def yX7_append : MethodName := ⟨RX7, "append", "(I)I"⟩
abbrev cX7_sign : ByteArray := prog_9_method_94_code
def yX7_sign : MethodName := ⟨RX7, "sign", "()I"⟩
abbrev cX7_takes : ByteArray := prog_9_method_95_code
def yX7_takes : MethodName := ⟨RX7, "takes", "(I)Z"⟩
abbrev cX7_kindOf : ByteArray := prog_9_method_96_code
def yX7_kindOf : MethodName := ⟨RX7, "kindOf", "(I)I"⟩
abbrev cX7_readsSizes : ByteArray := prog_9_method_97_code
def yX7_readsSizes : MethodName := ⟨RX7, "readsSizes", "()Z"⟩
abbrev cX7_readsSigns : ByteArray := prog_9_method_98_code
def yX7_readsSigns : MethodName := ⟨RX7, "readsSigns", "()Z"⟩
abbrev cX7_digit : ByteArray := prog_9_method_99_code
def yX7_digit : MethodName := ⟨RX7, "digit", "()I"⟩
abbrev cX7_readsMark : ByteArray := prog_9_method_100_code
def yX7_readsMark : MethodName := ⟨RX7, "readsMark", "()Z"⟩
abbrev cX7_readsCommand : ByteArray := prog_9_method_101_code
def yX7_readsCommand : MethodName := ⟨RX7, "readsCommand", "()Z"⟩
abbrev cX7_isText : ByteArray := prog_9_method_102_code
def yX7_isText : MethodName := ⟨RX7, "isText", "()Z"⟩
abbrev cX7_addsSigned : ByteArray := prog_9_method_103_code
def yX7_addsSigned : MethodName := ⟨RX7, "addsSigned", "()I"⟩
abbrev cX7_does : ByteArray := prog_9_method_104_code
def yX7_does : MethodName := ⟨RX7, "does", "()I"⟩
abbrev cX7_doesAll : ByteArray := prog_9_method_105_code
def yX7_doesAll : MethodName := ⟨RX7, "doesAll", "()I"⟩
abbrev cX7_read : ByteArray := prog_9_method_106_code
def yX7_read : MethodName := ⟨RX7, "read", "()I"⟩
abbrev cX7_refusal : ByteArray := prog_9_method_107_code
def yX7_refusal : MethodName := ⟨RX7, "refusal", "(I)I"⟩
abbrev cX7_allOf : ByteArray := prog_9_method_108_code
def yX7_allOf : MethodName := ⟨RX7, "allOf", "(I)I"⟩
abbrev cX7_panelsOfAll : ByteArray := prog_9_method_109_code
def yX7_panelsOfAll : MethodName := ⟨RX7, "panelsOfAll", "()I"⟩
abbrev cX7_account : ByteArray := prog_9_method_110_code
def yX7_account : MethodName := ⟨RX7, "account", "(I)I"⟩
abbrev cX7_share : ByteArray := prog_9_method_111_code
def yX7_share : MethodName := ⟨RX7, "share", "()I"⟩
abbrev cX7_undo : ByteArray := prog_9_method_112_code
def yX7_undo : MethodName := ⟨RX7, "undo", "()I"⟩
abbrev cX7_save : ByteArray := prog_9_method_113_code
def yX7_save : MethodName := ⟨RX7, "save", "()I"⟩
abbrev cX7_restore : ByteArray := prog_9_method_114_code
def yX7_restore : MethodName := ⟨RX7, "restore", "()I"⟩
def RJxf58ca : String := "java/lang/Float"
def TJxf58ca : u_T := fun k => match k with
  | _ => ("", "", "", false)
def tyJxf58ca : Nat → FieldType := fun k => match k with
  | _ => .int
abbrev wsJxf58ca0 : List Cond := u_ws RJxf58ca TJxf58ca 0
theorem nmJxf58ca : ∀ a, a < 0 → ∀ b, b < 0 → a ≠ b → (TJxf58ca a).2.1 ≠ (TJxf58ca b).2.1 := by decide +kernel
theorem tyJxf58ca_ok : ∀ k, k < 0 → parseFieldDescriptor (TJxf58ca k).2.2.1 = some (tyJxf58ca k) := by decide +kernel
abbrev cJxf58ca_isNaN_12338 : ByteArray := prog_10_method_6_code
def yJxf58ca_isNaN_12338 : MethodName := ⟨RJxf58ca, "isNaN", "(F)Z"⟩
abbrev cJxf58ca_floatToIntBits_5c35a : ByteArray := prog_10_method_24_code
def yJxf58ca_floatToIntBits_5c35a : MethodName := ⟨RJxf58ca, "floatToIntBits", "(F)I"⟩
def RJ9 : String := "java/lang/Math"
def TJ9 : u_T := fun k => match k with
  | _ => ("", "", "", false)
def tyJ9 : Nat → FieldType := fun k => match k with
  | _ => .int
abbrev wsJ90 : List Cond := u_ws RJ9 TJ9 0
theorem nmJ9 : ∀ a, a < 0 → ∀ b, b < 0 → a ≠ b → (TJ9 a).2.1 ≠ (TJ9 b).2.1 := by decide +kernel
theorem tyJ9_ok : ∀ k, k < 0 → parseFieldDescriptor (TJ9 k).2.2.1 = some (tyJ9 k) := by decide +kernel
abbrev cJ9_floorMod_7cf53 : ByteArray := prog_11_method_50_code
def yJ9_floorMod_7cf53 : MethodName := ⟨RJ9, "floorMod", "(II)I"⟩
abbrev cJ9_abs_0f7a4 : ByteArray := prog_11_method_59_code
def yJ9_abs_0f7a4 : MethodName := ⟨RJ9, "abs", "(I)I"⟩
abbrev cJ9_max_7cf53 : ByteArray := prog_11_method_65_code
def yJ9_max_7cf53 : MethodName := ⟨RJ9, "max", "(II)I"⟩
abbrev cJ9_min_7cf53 : ByteArray := prog_11_method_69_code
def yJ9_min_7cf53 : MethodName := ⟨RJ9, "min", "(II)I"⟩
def RL : String := "FoldedTheatreLaw"
abbrev cL_law : ByteArray := code
def yL_law : MethodName := ⟨RL, "law", "([I)Z"⟩
end
section
/-! tables: classes, fields, methods, calls, with the words of the tables that each rests on (written by a program) -/
def mNest : Cond → Bool
  | .methodLinkNest _ _ _ _ => true
  | .fieldLinkNest _ _ _ _ _ _ => true
  | _ => false
def lw_good : List Cond := lw_tbl.filter goodWord
def lw_nests : List Cond := lw_tbl.filter mNest
theorem mgd {w : Cond} (i : Nat) (h : lw_tbl[i]? = some w) (g : goodWord w = true) : w ∈ lw_good := List.mem_filter.mpr ⟨List.mem_of_getElem? h, g⟩
theorem mns {w : Cond} (i : Nat) (h : lw_tbl[i]? = some w) (g : mNest w = true) : w ∈ lw_nests := List.mem_filter.mpr ⟨List.mem_of_getElem? h, g⟩
def cN : Nat → String
  | 0 => RX0
  | 1 => RX1
  | 2 => RX2
  | 3 => RX3
  | 4 => RX4
  | 5 => RX5
  | 6 => RX6
  | 7 => RX7
  | 8 => RL
  | 9 => RJ9
  | _ => RJxf58ca
def cT : Nat → u_T
  | 0 => TX0
  | 1 => TX1
  | 2 => TX2
  | 3 => TX3
  | 4 => TX4
  | 5 => TX5
  | 6 => TX6
  | _ => TX7
def cS : Nat → Nat
  | 0 => 4
  | 1 => 4
  | 2 => 5
  | 3 => 4
  | 4 => 8
  | 5 => 4
  | 6 => 13
  | _ => 30
def cY : Nat → Nat → FieldType
  | 0 => tyX0
  | 1 => tyX1
  | 2 => tyX2
  | 3 => tyX3
  | 4 => tyX4
  | 5 => tyX5
  | 6 => tyX6
  | _ => tyX7
abbrev vwCl : List vw_C := [(RX0, TX0, 4), (RX1, TX1, 4), (RX2, TX2, 5), (RX3, TX3, 4), (RX4, TX4, 8), (RX5, TX5, 4), (RX6, TX6, 13), (RX7, TX7, 30)]
set_option maxRecDepth 20000 in
theorem mlay0 : ∀ w ∈ u_ws RX0 TX0 4, w ∈ lw_good := by decide +kernel
set_option maxRecDepth 20000 in
theorem mlay1 : ∀ w ∈ u_ws RX1 TX1 4, w ∈ lw_good := by decide +kernel
set_option maxRecDepth 20000 in
theorem mlay2 : ∀ w ∈ u_ws RX2 TX2 5, w ∈ lw_good := by decide +kernel
set_option maxRecDepth 20000 in
theorem mlay3 : ∀ w ∈ u_ws RX3 TX3 4, w ∈ lw_good := by decide +kernel
set_option maxRecDepth 20000 in
theorem mlay4 : ∀ w ∈ u_ws RX4 TX4 8, w ∈ lw_good := by decide +kernel
set_option maxRecDepth 20000 in
theorem mlay5 : ∀ w ∈ u_ws RX5 TX5 4, w ∈ lw_good := by decide +kernel
set_option maxRecDepth 20000 in
theorem mlay6 : ∀ w ∈ u_ws RX6 TX6 13, w ∈ lw_good := by decide +kernel
set_option maxRecDepth 20000 in
theorem mlay7 : ∀ w ∈ u_ws RX7 TX7 30, w ∈ lw_good := by decide +kernel
def clOK (ci : Nat) : Prop := vwCl[ci]? = some (cN ci, cT ci, cS ci) ∧ (∀ w ∈ u_ws (cN ci) (cT ci) (cS ci), w ∈ lw_good) ∧ (∀ k, k < cS ci → parseFieldDescriptor (cT ci k).2.2.1 = some (cY ci k)) ∧ (∀ a, a < cS ci → ∀ b, b < cS ci → a ≠ b → (cT ci a).2.1 ≠ (cT ci b).2.1) ∧ (Cond.instantiable (cN ci) (cS ci)) ∈ lw_good ∧ (Cond.initialized (cN ci)) ∈ lw_good ∧ ∀ k, k < cS ci → (cT ci k).1 = cN ci
theorem clOK0 : clOK 0 := ⟨rfl, mlay0, tyX0_ok, nmX0, mgd 228 (by decide +kernel) rfl, mgd 152 (by decide +kernel) rfl, by decide +kernel⟩
theorem clOK1 : clOK 1 := ⟨rfl, mlay1, tyX1_ok, nmX1, mgd 308 (by decide +kernel) rfl, mgd 155 (by decide +kernel) rfl, by decide +kernel⟩
theorem clOK2 : clOK 2 := ⟨rfl, mlay2, tyX2_ok, nmX2, mgd 175 (by decide +kernel) rfl, mgd 151 (by decide +kernel) rfl, by decide +kernel⟩
theorem clOK3 : clOK 3 := ⟨rfl, mlay3, tyX3_ok, nmX3, mgd 289 (by decide +kernel) rfl, mgd 154 (by decide +kernel) rfl, by decide +kernel⟩
theorem clOK4 : clOK 4 := ⟨rfl, mlay4, tyX4_ok, nmX4, mgd 252 (by decide +kernel) rfl, mgd 153 (by decide +kernel) rfl, by decide +kernel⟩
theorem clOK5 : clOK 5 := ⟨rfl, mlay5, tyX5_ok, nmX5, mgd 168 (by decide +kernel) rfl, mgd 150 (by decide +kernel) rfl, by decide +kernel⟩
theorem clOK6 : clOK 6 := ⟨rfl, mlay6, tyX6_ok, nmX6, mgd 160 (by decide +kernel) rfl, mgd 149 (by decide +kernel) rfl, by decide +kernel⟩
theorem clOK7 : clOK 7 := ⟨rfl, mlay7, tyX7_ok, nmX7, mgd 878 (by decide +kernel) rfl, mgd 156 (by decide +kernel) rfl, by decide +kernel⟩
theorem cl_ok (ci : Nat) (h : ci < 8) : clOK ci := match ci, h with
  | 0, _ => clOK0
  | 1, _ => clOK1
  | 2, _ => clOK2
  | 3, _ => clOK3
  | 4, _ => clOK4
  | 5, _ => clOK5
  | 6, _ => clOK6
  | 7, _ => clOK7
  | k + 8, h => absurd h (by omega)
def ffact (o i ci k : Nat) (nest : Bool) : Prop := ci < 8 ∧ k < cS ci ∧ (nest = true → ∃ host, Cond.fieldLinkNest (cN o) i (cT ci k).1 (cT ci k).2.1 (cT ci k).2.2.1 host ∈ lw_nests) ∧ (nest = false → Cond.fieldLink (cN o) i (cT ci k).1 (cT ci k).2.1 (cT ci k).2.2.1 ∈ lw_good)
def fld0 : List (Nat × Nat × Nat × Bool) := [(11, 0, 0, false), (18, 0, 1, false), (26, 0, 3, false), (34, 0, 2, false)]
theorem ff_0_11 : ffact 0 11 0 0 false := ⟨by decide, by decide, fun h => (by cases h), fun _ => mgd 236 (by decide +kernel) rfl⟩
theorem ff_0_18 : ffact 0 18 0 1 false := ⟨by decide, by decide, fun h => (by cases h), fun _ => mgd 237 (by decide +kernel) rfl⟩
theorem ff_0_26 : ffact 0 26 0 3 false := ⟨by decide, by decide, fun h => (by cases h), fun _ => mgd 240 (by decide +kernel) rfl⟩
theorem ff_0_34 : ffact 0 34 0 2 false := ⟨by decide, by decide, fun h => (by cases h), fun _ => mgd 238 (by decide +kernel) rfl⟩
theorem fld0_ok : ∀ q ∈ fld0, ffact 0 q.1 q.2.1 q.2.2.1 q.2.2.2 := List.forall_mem_cons.mpr ⟨ff_0_11, List.forall_mem_cons.mpr ⟨ff_0_18, List.forall_mem_cons.mpr ⟨ff_0_26, List.forall_mem_cons.mpr ⟨ff_0_34, fun _ h => absurd h List.not_mem_nil⟩⟩⟩⟩
def fld1 : List (Nat × Nat × Nat × Bool) := [(9, 1, 1, false), (15, 1, 2, false), (18, 1, 3, false), (30, 1, 0, false), (42, 2, 1, true), (51, 2, 4, true)]
theorem ff_1_9 : ffact 1 9 1 1 false := ⟨by decide, by decide, fun h => (by cases h), fun _ => mgd 314 (by decide +kernel) rfl⟩
theorem ff_1_15 : ffact 1 15 1 2 false := ⟨by decide, by decide, fun h => (by cases h), fun _ => mgd 316 (by decide +kernel) rfl⟩
theorem ff_1_18 : ffact 1 18 1 3 false := ⟨by decide, by decide, fun h => (by cases h), fun _ => mgd 317 (by decide +kernel) rfl⟩
theorem ff_1_30 : ffact 1 30 1 0 false := ⟨by decide, by decide, fun h => (by cases h), fun _ => mgd 313 (by decide +kernel) rfl⟩
theorem ff_1_42 : ffact 1 42 2 1 true := ⟨by decide, by decide, fun _ => ⟨RX6, mns 186 (by decide +kernel) rfl⟩, fun h => by cases h⟩
theorem ff_1_51 : ffact 1 51 2 4 true := ⟨by decide, by decide, fun _ => ⟨RX6, mns 197 (by decide +kernel) rfl⟩, fun h => by cases h⟩
theorem fld1_ok : ∀ q ∈ fld1, ffact 1 q.1 q.2.1 q.2.2.1 q.2.2.2 := List.forall_mem_cons.mpr ⟨ff_1_9, List.forall_mem_cons.mpr ⟨ff_1_15, List.forall_mem_cons.mpr ⟨ff_1_18, List.forall_mem_cons.mpr ⟨ff_1_30, List.forall_mem_cons.mpr ⟨ff_1_42, List.forall_mem_cons.mpr ⟨ff_1_51, fun _ h => absurd h List.not_mem_nil⟩⟩⟩⟩⟩⟩
def fld2 : List (Nat × Nat × Nat × Bool) := [(9, 2, 3, false), (15, 2, 4, false), (18, 2, 0, false), (22, 2, 2, false), (26, 2, 1, false)]
theorem ff_2_9 : ffact 2 9 2 3 false := ⟨by decide, by decide, fun h => (by cases h), fun _ => mgd 192 (by decide +kernel) rfl⟩
theorem ff_2_15 : ffact 2 15 2 4 false := ⟨by decide, by decide, fun h => (by cases h), fun _ => mgd 195 (by decide +kernel) rfl⟩
theorem ff_2_18 : ffact 2 18 2 0 false := ⟨by decide, by decide, fun h => (by cases h), fun _ => mgd 180 (by decide +kernel) rfl⟩
theorem ff_2_22 : ffact 2 22 2 2 false := ⟨by decide, by decide, fun h => (by cases h), fun _ => mgd 189 (by decide +kernel) rfl⟩
theorem ff_2_26 : ffact 2 26 2 1 false := ⟨by decide, by decide, fun h => (by cases h), fun _ => mgd 185 (by decide +kernel) rfl⟩
theorem fld2_ok : ∀ q ∈ fld2, ffact 2 q.1 q.2.1 q.2.2.1 q.2.2.2 := List.forall_mem_cons.mpr ⟨ff_2_9, List.forall_mem_cons.mpr ⟨ff_2_15, List.forall_mem_cons.mpr ⟨ff_2_18, List.forall_mem_cons.mpr ⟨ff_2_22, List.forall_mem_cons.mpr ⟨ff_2_26, fun _ h => absurd h List.not_mem_nil⟩⟩⟩⟩⟩
def fld3 : List (Nat × Nat × Nat × Bool) := [(9, 3, 2, false), (15, 3, 3, false), (18, 2, 0, true), (24, 3, 0, false), (25, 2, 1, true), (28, 3, 1, false), (29, 2, 3, true), (38, 2, 4, true)]
theorem ff_3_9 : ffact 3 9 3 2 false := ⟨by decide, by decide, fun h => (by cases h), fun _ => mgd 296 (by decide +kernel) rfl⟩
theorem ff_3_15 : ffact 3 15 3 3 false := ⟨by decide, by decide, fun h => (by cases h), fun _ => mgd 297 (by decide +kernel) rfl⟩
theorem ff_3_18 : ffact 3 18 2 0 true := ⟨by decide, by decide, fun _ => ⟨RX6, mns 181 (by decide +kernel) rfl⟩, fun h => by cases h⟩
theorem ff_3_24 : ffact 3 24 3 0 false := ⟨by decide, by decide, fun h => (by cases h), fun _ => mgd 294 (by decide +kernel) rfl⟩
theorem ff_3_25 : ffact 3 25 2 1 true := ⟨by decide, by decide, fun _ => ⟨RX6, mns 184 (by decide +kernel) rfl⟩, fun h => by cases h⟩
theorem ff_3_28 : ffact 3 28 3 1 false := ⟨by decide, by decide, fun h => (by cases h), fun _ => mgd 295 (by decide +kernel) rfl⟩
theorem ff_3_29 : ffact 3 29 2 3 true := ⟨by decide, by decide, fun _ => ⟨RX6, mns 193 (by decide +kernel) rfl⟩, fun h => by cases h⟩
theorem ff_3_38 : ffact 3 38 2 4 true := ⟨by decide, by decide, fun _ => ⟨RX6, mns 196 (by decide +kernel) rfl⟩, fun h => by cases h⟩
theorem fld3_ok : ∀ q ∈ fld3, ffact 3 q.1 q.2.1 q.2.2.1 q.2.2.2 := List.forall_mem_cons.mpr ⟨ff_3_9, List.forall_mem_cons.mpr ⟨ff_3_15, List.forall_mem_cons.mpr ⟨ff_3_18, List.forall_mem_cons.mpr ⟨ff_3_24, List.forall_mem_cons.mpr ⟨ff_3_25, List.forall_mem_cons.mpr ⟨ff_3_28, List.forall_mem_cons.mpr ⟨ff_3_29, List.forall_mem_cons.mpr ⟨ff_3_38, fun _ h => absurd h List.not_mem_nil⟩⟩⟩⟩⟩⟩⟩⟩
def fld4 : List (Nat × Nat × Nat × Bool) := [(9, 4, 0, false), (15, 4, 1, false), (23, 4, 2, false), (41, 4, 3, false), (63, 4, 4, false), (66, 4, 5, false), (69, 4, 6, false), (72, 4, 7, false)]
theorem ff_4_9 : ffact 4 9 4 0 false := ⟨by decide, by decide, fun h => (by cases h), fun _ => mgd 257 (by decide +kernel) rfl⟩
theorem ff_4_15 : ffact 4 15 4 1 false := ⟨by decide, by decide, fun h => (by cases h), fun _ => mgd 258 (by decide +kernel) rfl⟩
theorem ff_4_23 : ffact 4 23 4 2 false := ⟨by decide, by decide, fun h => (by cases h), fun _ => mgd 260 (by decide +kernel) rfl⟩
theorem ff_4_41 : ffact 4 41 4 3 false := ⟨by decide, by decide, fun h => (by cases h), fun _ => mgd 261 (by decide +kernel) rfl⟩
theorem ff_4_63 : ffact 4 63 4 4 false := ⟨by decide, by decide, fun h => (by cases h), fun _ => mgd 263 (by decide +kernel) rfl⟩
theorem ff_4_66 : ffact 4 66 4 5 false := ⟨by decide, by decide, fun h => (by cases h), fun _ => mgd 265 (by decide +kernel) rfl⟩
theorem ff_4_69 : ffact 4 69 4 6 false := ⟨by decide, by decide, fun h => (by cases h), fun _ => mgd 267 (by decide +kernel) rfl⟩
theorem ff_4_72 : ffact 4 72 4 7 false := ⟨by decide, by decide, fun h => (by cases h), fun _ => mgd 269 (by decide +kernel) rfl⟩
theorem fld4_ok : ∀ q ∈ fld4, ffact 4 q.1 q.2.1 q.2.2.1 q.2.2.2 := List.forall_mem_cons.mpr ⟨ff_4_9, List.forall_mem_cons.mpr ⟨ff_4_15, List.forall_mem_cons.mpr ⟨ff_4_23, List.forall_mem_cons.mpr ⟨ff_4_41, List.forall_mem_cons.mpr ⟨ff_4_63, List.forall_mem_cons.mpr ⟨ff_4_66, List.forall_mem_cons.mpr ⟨ff_4_69, List.forall_mem_cons.mpr ⟨ff_4_72, fun _ h => absurd h List.not_mem_nil⟩⟩⟩⟩⟩⟩⟩⟩
def fld5 : List (Nat × Nat × Nat × Bool) := [(11, 5, 0, false), (17, 5, 2, false), (22, 5, 1, false), (25, 5, 3, false), (36, 2, 2, true), (43, 2, 0, true), (46, 2, 1, true)]
theorem ff_5_11 : ffact 5 11 5 0 false := ⟨by decide, by decide, fun h => (by cases h), fun _ => mgd 211 (by decide +kernel) rfl⟩
theorem ff_5_17 : ffact 5 17 5 2 false := ⟨by decide, by decide, fun h => (by cases h), fun _ => mgd 214 (by decide +kernel) rfl⟩
theorem ff_5_22 : ffact 5 22 5 1 false := ⟨by decide, by decide, fun h => (by cases h), fun _ => mgd 212 (by decide +kernel) rfl⟩
theorem ff_5_25 : ffact 5 25 5 3 false := ⟨by decide, by decide, fun h => (by cases h), fun _ => mgd 216 (by decide +kernel) rfl⟩
theorem ff_5_36 : ffact 5 36 2 2 true := ⟨by decide, by decide, fun _ => ⟨RX6, mns 191 (by decide +kernel) rfl⟩, fun h => by cases h⟩
theorem ff_5_43 : ffact 5 43 2 0 true := ⟨by decide, by decide, fun _ => ⟨RX6, mns 183 (by decide +kernel) rfl⟩, fun h => by cases h⟩
theorem ff_5_46 : ffact 5 46 2 1 true := ⟨by decide, by decide, fun _ => ⟨RX6, mns 188 (by decide +kernel) rfl⟩, fun h => by cases h⟩
theorem fld5_ok : ∀ q ∈ fld5, ffact 5 q.1 q.2.1 q.2.2.1 q.2.2.2 := List.forall_mem_cons.mpr ⟨ff_5_11, List.forall_mem_cons.mpr ⟨ff_5_17, List.forall_mem_cons.mpr ⟨ff_5_22, List.forall_mem_cons.mpr ⟨ff_5_25, List.forall_mem_cons.mpr ⟨ff_5_36, List.forall_mem_cons.mpr ⟨ff_5_43, List.forall_mem_cons.mpr ⟨ff_5_46, fun _ h => absurd h List.not_mem_nil⟩⟩⟩⟩⟩⟩⟩
def fld6 : List (Nat × Nat × Nat × Bool) := [(10, 6, 0, false), (16, 6, 1, false), (19, 6, 2, false), (25, 6, 3, false), (32, 6, 4, false), (39, 6, 5, false), (46, 6, 6, false), (53, 6, 7, false), (57, 6, 9, false), (61, 6, 12, false), (76, 5, 2, true), (87, 5, 1, true), (104, 2, 2, true), (108, 2, 4, true), (130, 2, 0, true), (143, 2, 1, true), (172, 5, 3, true), (178, 2, 3, true), (206, 1, 1, true), (216, 4, 1, true), (230, 0, 3, true), (246, 6, 10, false), (249, 6, 11, false), (264, 0, 2, true), (272, 6, 8, false), (276, 4, 3, true), (279, 4, 4, true), (282, 4, 5, true), (291, 4, 7, true), (309, 4, 6, true)]
theorem ff_6_10 : ffact 6 10 6 0 false := ⟨by decide, by decide, fun h => (by cases h), fun _ => mgd 329 (by decide +kernel) rfl⟩
theorem ff_6_16 : ffact 6 16 6 1 false := ⟨by decide, by decide, fun h => (by cases h), fun _ => mgd 330 (by decide +kernel) rfl⟩
theorem ff_6_19 : ffact 6 19 6 2 false := ⟨by decide, by decide, fun h => (by cases h), fun _ => mgd 331 (by decide +kernel) rfl⟩
theorem ff_6_25 : ffact 6 25 6 3 false := ⟨by decide, by decide, fun h => (by cases h), fun _ => mgd 332 (by decide +kernel) rfl⟩
theorem ff_6_32 : ffact 6 32 6 4 false := ⟨by decide, by decide, fun h => (by cases h), fun _ => mgd 333 (by decide +kernel) rfl⟩
theorem ff_6_39 : ffact 6 39 6 5 false := ⟨by decide, by decide, fun h => (by cases h), fun _ => mgd 334 (by decide +kernel) rfl⟩
theorem ff_6_46 : ffact 6 46 6 6 false := ⟨by decide, by decide, fun h => (by cases h), fun _ => mgd 335 (by decide +kernel) rfl⟩
theorem ff_6_53 : ffact 6 53 6 7 false := ⟨by decide, by decide, fun h => (by cases h), fun _ => mgd 336 (by decide +kernel) rfl⟩
theorem ff_6_57 : ffact 6 57 6 9 false := ⟨by decide, by decide, fun h => (by cases h), fun _ => mgd 338 (by decide +kernel) rfl⟩
theorem ff_6_61 : ffact 6 61 6 12 false := ⟨by decide, by decide, fun h => (by cases h), fun _ => mgd 341 (by decide +kernel) rfl⟩
theorem ff_6_76 : ffact 6 76 5 2 true := ⟨by decide, by decide, fun _ => ⟨RX6, mns 215 (by decide +kernel) rfl⟩, fun h => by cases h⟩
theorem ff_6_87 : ffact 6 87 5 1 true := ⟨by decide, by decide, fun _ => ⟨RX6, mns 213 (by decide +kernel) rfl⟩, fun h => by cases h⟩
theorem ff_6_104 : ffact 6 104 2 2 true := ⟨by decide, by decide, fun _ => ⟨RX6, mns 190 (by decide +kernel) rfl⟩, fun h => by cases h⟩
theorem ff_6_108 : ffact 6 108 2 4 true := ⟨by decide, by decide, fun _ => ⟨RX6, mns 198 (by decide +kernel) rfl⟩, fun h => by cases h⟩
theorem ff_6_130 : ffact 6 130 2 0 true := ⟨by decide, by decide, fun _ => ⟨RX6, mns 182 (by decide +kernel) rfl⟩, fun h => by cases h⟩
theorem ff_6_143 : ffact 6 143 2 1 true := ⟨by decide, by decide, fun _ => ⟨RX6, mns 187 (by decide +kernel) rfl⟩, fun h => by cases h⟩
theorem ff_6_172 : ffact 6 172 5 3 true := ⟨by decide, by decide, fun _ => ⟨RX6, mns 217 (by decide +kernel) rfl⟩, fun h => by cases h⟩
theorem ff_6_178 : ffact 6 178 2 3 true := ⟨by decide, by decide, fun _ => ⟨RX6, mns 194 (by decide +kernel) rfl⟩, fun h => by cases h⟩
theorem ff_6_206 : ffact 6 206 1 1 true := ⟨by decide, by decide, fun _ => ⟨RX6, mns 315 (by decide +kernel) rfl⟩, fun h => by cases h⟩
theorem ff_6_216 : ffact 6 216 4 1 true := ⟨by decide, by decide, fun _ => ⟨RX6, mns 259 (by decide +kernel) rfl⟩, fun h => by cases h⟩
theorem ff_6_230 : ffact 6 230 0 3 true := ⟨by decide, by decide, fun _ => ⟨RX6, mns 241 (by decide +kernel) rfl⟩, fun h => by cases h⟩
theorem ff_6_246 : ffact 6 246 6 10 false := ⟨by decide, by decide, fun h => (by cases h), fun _ => mgd 339 (by decide +kernel) rfl⟩
theorem ff_6_249 : ffact 6 249 6 11 false := ⟨by decide, by decide, fun h => (by cases h), fun _ => mgd 340 (by decide +kernel) rfl⟩
theorem ff_6_264 : ffact 6 264 0 2 true := ⟨by decide, by decide, fun _ => ⟨RX6, mns 239 (by decide +kernel) rfl⟩, fun h => by cases h⟩
theorem ff_6_272 : ffact 6 272 6 8 false := ⟨by decide, by decide, fun h => (by cases h), fun _ => mgd 337 (by decide +kernel) rfl⟩
theorem ff_6_276 : ffact 6 276 4 3 true := ⟨by decide, by decide, fun _ => ⟨RX6, mns 262 (by decide +kernel) rfl⟩, fun h => by cases h⟩
theorem ff_6_279 : ffact 6 279 4 4 true := ⟨by decide, by decide, fun _ => ⟨RX6, mns 264 (by decide +kernel) rfl⟩, fun h => by cases h⟩
theorem ff_6_282 : ffact 6 282 4 5 true := ⟨by decide, by decide, fun _ => ⟨RX6, mns 266 (by decide +kernel) rfl⟩, fun h => by cases h⟩
theorem ff_6_291 : ffact 6 291 4 7 true := ⟨by decide, by decide, fun _ => ⟨RX6, mns 270 (by decide +kernel) rfl⟩, fun h => by cases h⟩
theorem ff_6_309 : ffact 6 309 4 6 true := ⟨by decide, by decide, fun _ => ⟨RX6, mns 268 (by decide +kernel) rfl⟩, fun h => by cases h⟩
theorem fld6_ok : ∀ q ∈ fld6, ffact 6 q.1 q.2.1 q.2.2.1 q.2.2.2 := List.forall_mem_cons.mpr ⟨ff_6_10, List.forall_mem_cons.mpr ⟨ff_6_16, List.forall_mem_cons.mpr ⟨ff_6_19, List.forall_mem_cons.mpr ⟨ff_6_25, List.forall_mem_cons.mpr ⟨ff_6_32, List.forall_mem_cons.mpr ⟨ff_6_39, List.forall_mem_cons.mpr ⟨ff_6_46, List.forall_mem_cons.mpr ⟨ff_6_53, List.forall_mem_cons.mpr ⟨ff_6_57, List.forall_mem_cons.mpr ⟨ff_6_61, List.forall_mem_cons.mpr ⟨ff_6_76, List.forall_mem_cons.mpr ⟨ff_6_87, List.forall_mem_cons.mpr ⟨ff_6_104, List.forall_mem_cons.mpr ⟨ff_6_108, List.forall_mem_cons.mpr ⟨ff_6_130, List.forall_mem_cons.mpr ⟨ff_6_143, List.forall_mem_cons.mpr ⟨ff_6_172, List.forall_mem_cons.mpr ⟨ff_6_178, List.forall_mem_cons.mpr ⟨ff_6_206, List.forall_mem_cons.mpr ⟨ff_6_216, List.forall_mem_cons.mpr ⟨ff_6_230, List.forall_mem_cons.mpr ⟨ff_6_246, List.forall_mem_cons.mpr ⟨ff_6_249, List.forall_mem_cons.mpr ⟨ff_6_264, List.forall_mem_cons.mpr ⟨ff_6_272, List.forall_mem_cons.mpr ⟨ff_6_276, List.forall_mem_cons.mpr ⟨ff_6_279, List.forall_mem_cons.mpr ⟨ff_6_282, List.forall_mem_cons.mpr ⟨ff_6_291, List.forall_mem_cons.mpr ⟨ff_6_309, fun _ h => absurd h List.not_mem_nil⟩⟩⟩⟩⟩⟩⟩⟩⟩⟩⟩⟩⟩⟩⟩⟩⟩⟩⟩⟩⟩⟩⟩⟩⟩⟩⟩⟩⟩⟩
def fld7 : List (Nat × Nat × Nat × Bool) := [(9, 7, 0, false), (13, 7, 1, false), (16, 7, 2, false), (19, 7, 3, false), (22, 7, 9, false), (25, 7, 10, false), (28, 7, 11, false), (31, 7, 12, false), (34, 7, 15, false), (37, 7, 16, false), (40, 7, 17, false), (43, 7, 18, false), (47, 7, 22, false), (50, 7, 7, false), (58, 7, 4, false), (68, 7, 5, false), (71, 7, 6, false), (161, 7, 14, false), (165, 7, 13, false), (252, 7, 19, false), (255, 7, 20, false), (270, 7, 21, false), (291, 7, 23, false), (294, 7, 24, false), (300, 7, 26, false), (303, 7, 27, false), (306, 7, 28, false), (318, 7, 29, false), (321, 7, 25, false), (363, 7, 8, false)]
theorem ff_7_9 : ffact 7 9 7 0 false := ⟨by decide, by decide, fun h => (by cases h), fun _ => mgd 883 (by decide +kernel) rfl⟩
theorem ff_7_13 : ffact 7 13 7 1 false := ⟨by decide, by decide, fun h => (by cases h), fun _ => mgd 884 (by decide +kernel) rfl⟩
theorem ff_7_16 : ffact 7 16 7 2 false := ⟨by decide, by decide, fun h => (by cases h), fun _ => mgd 885 (by decide +kernel) rfl⟩
theorem ff_7_19 : ffact 7 19 7 3 false := ⟨by decide, by decide, fun h => (by cases h), fun _ => mgd 886 (by decide +kernel) rfl⟩
theorem ff_7_22 : ffact 7 22 7 9 false := ⟨by decide, by decide, fun h => (by cases h), fun _ => mgd 892 (by decide +kernel) rfl⟩
theorem ff_7_25 : ffact 7 25 7 10 false := ⟨by decide, by decide, fun h => (by cases h), fun _ => mgd 893 (by decide +kernel) rfl⟩
theorem ff_7_28 : ffact 7 28 7 11 false := ⟨by decide, by decide, fun h => (by cases h), fun _ => mgd 894 (by decide +kernel) rfl⟩
theorem ff_7_31 : ffact 7 31 7 12 false := ⟨by decide, by decide, fun h => (by cases h), fun _ => mgd 895 (by decide +kernel) rfl⟩
theorem ff_7_34 : ffact 7 34 7 15 false := ⟨by decide, by decide, fun h => (by cases h), fun _ => mgd 898 (by decide +kernel) rfl⟩
theorem ff_7_37 : ffact 7 37 7 16 false := ⟨by decide, by decide, fun h => (by cases h), fun _ => mgd 899 (by decide +kernel) rfl⟩
theorem ff_7_40 : ffact 7 40 7 17 false := ⟨by decide, by decide, fun h => (by cases h), fun _ => mgd 900 (by decide +kernel) rfl⟩
theorem ff_7_43 : ffact 7 43 7 18 false := ⟨by decide, by decide, fun h => (by cases h), fun _ => mgd 901 (by decide +kernel) rfl⟩
theorem ff_7_47 : ffact 7 47 7 22 false := ⟨by decide, by decide, fun h => (by cases h), fun _ => mgd 905 (by decide +kernel) rfl⟩
theorem ff_7_50 : ffact 7 50 7 7 false := ⟨by decide, by decide, fun h => (by cases h), fun _ => mgd 890 (by decide +kernel) rfl⟩
theorem ff_7_58 : ffact 7 58 7 4 false := ⟨by decide, by decide, fun h => (by cases h), fun _ => mgd 887 (by decide +kernel) rfl⟩
theorem ff_7_68 : ffact 7 68 7 5 false := ⟨by decide, by decide, fun h => (by cases h), fun _ => mgd 888 (by decide +kernel) rfl⟩
theorem ff_7_71 : ffact 7 71 7 6 false := ⟨by decide, by decide, fun h => (by cases h), fun _ => mgd 889 (by decide +kernel) rfl⟩
theorem ff_7_161 : ffact 7 161 7 14 false := ⟨by decide, by decide, fun h => (by cases h), fun _ => mgd 897 (by decide +kernel) rfl⟩
theorem ff_7_165 : ffact 7 165 7 13 false := ⟨by decide, by decide, fun h => (by cases h), fun _ => mgd 896 (by decide +kernel) rfl⟩
theorem ff_7_252 : ffact 7 252 7 19 false := ⟨by decide, by decide, fun h => (by cases h), fun _ => mgd 902 (by decide +kernel) rfl⟩
theorem ff_7_255 : ffact 7 255 7 20 false := ⟨by decide, by decide, fun h => (by cases h), fun _ => mgd 903 (by decide +kernel) rfl⟩
theorem ff_7_270 : ffact 7 270 7 21 false := ⟨by decide, by decide, fun h => (by cases h), fun _ => mgd 904 (by decide +kernel) rfl⟩
theorem ff_7_291 : ffact 7 291 7 23 false := ⟨by decide, by decide, fun h => (by cases h), fun _ => mgd 906 (by decide +kernel) rfl⟩
theorem ff_7_294 : ffact 7 294 7 24 false := ⟨by decide, by decide, fun h => (by cases h), fun _ => mgd 907 (by decide +kernel) rfl⟩
theorem ff_7_300 : ffact 7 300 7 26 false := ⟨by decide, by decide, fun h => (by cases h), fun _ => mgd 909 (by decide +kernel) rfl⟩
theorem ff_7_303 : ffact 7 303 7 27 false := ⟨by decide, by decide, fun h => (by cases h), fun _ => mgd 910 (by decide +kernel) rfl⟩
theorem ff_7_306 : ffact 7 306 7 28 false := ⟨by decide, by decide, fun h => (by cases h), fun _ => mgd 911 (by decide +kernel) rfl⟩
theorem ff_7_318 : ffact 7 318 7 29 false := ⟨by decide, by decide, fun h => (by cases h), fun _ => mgd 912 (by decide +kernel) rfl⟩
theorem ff_7_321 : ffact 7 321 7 25 false := ⟨by decide, by decide, fun h => (by cases h), fun _ => mgd 908 (by decide +kernel) rfl⟩
theorem ff_7_363 : ffact 7 363 7 8 false := ⟨by decide, by decide, fun h => (by cases h), fun _ => mgd 891 (by decide +kernel) rfl⟩
theorem fld7_ok : ∀ q ∈ fld7, ffact 7 q.1 q.2.1 q.2.2.1 q.2.2.2 := List.forall_mem_cons.mpr ⟨ff_7_9, List.forall_mem_cons.mpr ⟨ff_7_13, List.forall_mem_cons.mpr ⟨ff_7_16, List.forall_mem_cons.mpr ⟨ff_7_19, List.forall_mem_cons.mpr ⟨ff_7_22, List.forall_mem_cons.mpr ⟨ff_7_25, List.forall_mem_cons.mpr ⟨ff_7_28, List.forall_mem_cons.mpr ⟨ff_7_31, List.forall_mem_cons.mpr ⟨ff_7_34, List.forall_mem_cons.mpr ⟨ff_7_37, List.forall_mem_cons.mpr ⟨ff_7_40, List.forall_mem_cons.mpr ⟨ff_7_43, List.forall_mem_cons.mpr ⟨ff_7_47, List.forall_mem_cons.mpr ⟨ff_7_50, List.forall_mem_cons.mpr ⟨ff_7_58, List.forall_mem_cons.mpr ⟨ff_7_68, List.forall_mem_cons.mpr ⟨ff_7_71, List.forall_mem_cons.mpr ⟨ff_7_161, List.forall_mem_cons.mpr ⟨ff_7_165, List.forall_mem_cons.mpr ⟨ff_7_252, List.forall_mem_cons.mpr ⟨ff_7_255, List.forall_mem_cons.mpr ⟨ff_7_270, List.forall_mem_cons.mpr ⟨ff_7_291, List.forall_mem_cons.mpr ⟨ff_7_294, List.forall_mem_cons.mpr ⟨ff_7_300, List.forall_mem_cons.mpr ⟨ff_7_303, List.forall_mem_cons.mpr ⟨ff_7_306, List.forall_mem_cons.mpr ⟨ff_7_318, List.forall_mem_cons.mpr ⟨ff_7_321, List.forall_mem_cons.mpr ⟨ff_7_363, fun _ h => absurd h List.not_mem_nil⟩⟩⟩⟩⟩⟩⟩⟩⟩⟩⟩⟩⟩⟩⟩⟩⟩⟩⟩⟩⟩⟩⟩⟩⟩⟩⟩⟩⟩⟩
def fld8 : List (Nat × Nat × Nat × Bool) := []
theorem fld8_ok : ∀ q ∈ fld8, ffact 8 q.1 q.2.1 q.2.2.1 q.2.2.2 := fun _ h => absurd h List.not_mem_nil
def fld9 : List (Nat × Nat × Nat × Bool) := []
theorem fld9_ok : ∀ q ∈ fld9, ffact 9 q.1 q.2.1 q.2.2.1 q.2.2.2 := fun _ h => absurd h List.not_mem_nil
def fld10 : List (Nat × Nat × Nat × Bool) := []
theorem fld10_ok : ∀ q ∈ fld10, ffact 10 q.1 q.2.1 q.2.2.1 q.2.2.2 := fun _ h => absurd h List.not_mem_nil
def mfldL : Nat → List (Nat × Nat × Nat × Bool)
  | 0 => fld0
  | 1 => fld1
  | 2 => fld2
  | 3 => fld3
  | 4 => fld4
  | 5 => fld5
  | 6 => fld6
  | 7 => fld7
  | 8 => fld8
  | 9 => fld9
  | 10 => fld10
  | _ => []
theorem mfldL_ok (o : Nat) : ∀ q ∈ mfldL o, ffact o q.1 q.2.1 q.2.2.1 q.2.2.2 := match o with
  | 0 => fld0_ok
  | 1 => fld1_ok
  | 2 => fld2_ok
  | 3 => fld3_ok
  | 4 => fld4_ok
  | 5 => fld5_ok
  | 6 => fld6_ok
  | 7 => fld7_ok
  | 8 => fld8_ok
  | 9 => fld9_ok
  | 10 => fld10_ok
  | _ + 11 => fun _ h => absurd h List.not_mem_nil
def mfld (o i : Nat) : Option (Nat × Nat × Bool) := ((mfldL o).find? (fun q => q.1 == i)).map (fun q => q.2)
theorem mfld_ok {o i ci k : Nat} {nest : Bool} (h : mfld o i = some (ci, k, nest)) : ffact o i ci k nest := by
  unfold mfld at h
  cases hf : (mfldL o).find? (fun q => q.1 == i) with
  | none => rw [hf] at h; cases h
  | some q =>
    rw [hf] at h
    have h1 := List.find?_some hf
    have h2 := mfldL_ok o q (List.mem_of_find?_eq_some hf)
    obtain ⟨i', ci', k', n'⟩ := q
    simp only [Option.map_some, Option.some.injEq, Prod.mk.injEq] at h
    simp only [beq_iff_eq] at h1
    obtain ⟨rfl, rfl, rfl⟩ := h
    subst h1
    exact h2
def mclsL : List (Nat × Nat × Nat) := [(8, 7, 6), (6, 7, 5), (5, 9, 2), (6, 22, 0), (0, 9, 5), (6, 29, 4), (6, 36, 3), (6, 43, 1), (6, 50, 2), (8, 10, 7)]
theorem cf_8_7 : 6 < 8 ∧ Cond.classLink (cN 8) 7 (cN 6) ∈ lw_good := ⟨by decide, mgd 159 (by decide +kernel) rfl⟩
theorem cf_6_7 : 5 < 8 ∧ Cond.classLink (cN 6) 7 (cN 5) ∈ lw_good := ⟨by decide, mgd 167 (by decide +kernel) rfl⟩
theorem cf_5_9 : 2 < 8 ∧ Cond.classLink (cN 5) 9 (cN 2) ∈ lw_good := ⟨by decide, mgd 173 (by decide +kernel) rfl⟩
theorem cf_6_22 : 0 < 8 ∧ Cond.classLink (cN 6) 22 (cN 0) ∈ lw_good := ⟨by decide, mgd 227 (by decide +kernel) rfl⟩
theorem cf_0_9 : 5 < 8 ∧ Cond.classLink (cN 0) 9 (cN 5) ∈ lw_good := ⟨by decide, mgd 233 (by decide +kernel) rfl⟩
theorem cf_6_29 : 4 < 8 ∧ Cond.classLink (cN 6) 29 (cN 4) ∈ lw_good := ⟨by decide, mgd 251 (by decide +kernel) rfl⟩
theorem cf_6_36 : 3 < 8 ∧ Cond.classLink (cN 6) 36 (cN 3) ∈ lw_good := ⟨by decide, mgd 288 (by decide +kernel) rfl⟩
theorem cf_6_43 : 1 < 8 ∧ Cond.classLink (cN 6) 43 (cN 1) ∈ lw_good := ⟨by decide, mgd 307 (by decide +kernel) rfl⟩
theorem cf_6_50 : 2 < 8 ∧ Cond.classLink (cN 6) 50 (cN 2) ∈ lw_good := ⟨by decide, mgd 327 (by decide +kernel) rfl⟩
theorem cf_8_10 : 7 < 8 ∧ Cond.classLink (cN 8) 10 (cN 7) ∈ lw_good := ⟨by decide, mgd 877 (by decide +kernel) rfl⟩
theorem mclsL_ok : ∀ q ∈ mclsL, q.2.2 < 8 ∧ Cond.classLink (cN q.1) q.2.1 (cN q.2.2) ∈ lw_good := List.forall_mem_cons.mpr ⟨cf_8_7, List.forall_mem_cons.mpr ⟨cf_6_7, List.forall_mem_cons.mpr ⟨cf_5_9, List.forall_mem_cons.mpr ⟨cf_6_22, List.forall_mem_cons.mpr ⟨cf_0_9, List.forall_mem_cons.mpr ⟨cf_6_29, List.forall_mem_cons.mpr ⟨cf_6_36, List.forall_mem_cons.mpr ⟨cf_6_43, List.forall_mem_cons.mpr ⟨cf_6_50, List.forall_mem_cons.mpr ⟨cf_8_10, fun _ h => absurd h List.not_mem_nil⟩⟩⟩⟩⟩⟩⟩⟩⟩⟩
def mcls (o i : Nat) : Option Nat := (mclsL.find? (fun q => q.1 == o && q.2.1 == i)).map (fun q => q.2.2)
theorem mcls_ok {o i ci : Nat} (h : mcls o i = some ci) : ci < 8 ∧ Cond.classLink (cN o) i (cN ci) ∈ lw_good := by
  unfold mcls at h
  cases hf : mclsL.find? (fun q => q.1 == o && q.2.1 == i) with
  | none => rw [hf] at h; cases h
  | some q =>
    rw [hf] at h
    have h1 := List.find?_some hf
    have h2 := mclsL_ok q (List.mem_of_find?_eq_some hf)
    obtain ⟨o', i', c'⟩ := q
    simp only [Option.map_some, Option.some.injEq] at h
    simp only [Bool.and_eq_true, beq_iff_eq] at h1
    obtain ⟨rfl, rfl⟩ := h1
    subst h
    exact h2
def mtT : Type := MethodName × ByteArray × Nat × Option FieldType × Nat × Nat × Nat × Nat
def mfact (q : MethodName × ByteArray × Nat × Option FieldType × Nat × Nat × Nat × Nat) : Prop := match q with
  | (y, cc, nL, ret, n, o, _, _) => plainFor y = true ∧ Cond.code y cc nL ret ∈ lw_good ∧ Cond.initialized y.cls ∈ lw_good ∧ y.cls = cN o ∧ nL ≤ 20 ∧ (parseMethodDescriptor y.desc).map (fun d => d.parameters.length) = some n ∧ y.cls ≠ "java/lang/invoke/MethodHandle" ∧ y.cls ≠ "java/lang/invoke/VarHandle"
def mt_0 : List (MethodName × ByteArray × Nat × Option FieldType × Nat × Nat × Nat × Nat) := [(yX6_init, cX6_init, 1, none, 0, 6, 300, 2149),
  (yX5_init, cX5_init, 2, none, 0, 5, 25, 176),
  (yX2_init, cX2_init, 1, none, 0, 2, 2, 16),
  (yX0_init, cX0_init, 2, none, 0, 0, 209, 1448),
  (yX4_init, cX4_init, 1, none, 0, 4, 1, 80),
  (yX3_init, cX3_init, 1, none, 0, 3, 2, 16),
  (yX1_init, cX1_init, 1, none, 0, 1, 3, 24),
  (yX6_stage, cX6_stage, 4, (some FieldType.int), 1, 6, 0, 0),
  (yX5_occupied, cX5_occupied, 4, (some FieldType.int), 0, 5, 0, 0),
  (yX5_pieceAt, cX5_pieceAt, 2, (some (FieldType.object "FoldedTheatre$Piece")), 1, 5, 0, 0),
  (yX2_width, cX2_width, 4, (some FieldType.int), 0, 2, 0, 0),
  (yX2_greatestSize, cX2_greatestSize, 3, (some FieldType.int), 0, 2, 0, 0),
  (yX6_at, cX6_at, 2, (some FieldType.int), 2, 6, 0, 0),
  (yX2_placeOf, cX2_placeOf, 4, (some FieldType.int), 1, 2, 0, 0),
  (yX6_refuse, cX6_refuse, 3, (some FieldType.int), 2, 6, 0, 0),
  (yX0_push, cX0_push, 3, none, 1, 0, 0, 0),
  (yX0_stateAt, cX0_stateAt, 2, (some (FieldType.object "FoldedTheatre$State")), 1, 0, 0, 0),
  (yX5_copyFrom, cX5_copyFrom, 5, none, 1, 5, 0, 0),
  (yX2_copyFrom, cX2_copyFrom, 2, none, 1, 2, 0, 0),
  (yX6_copyRow, cX6_copyRow, 3, none, 2, 6, 0, 0),
  (yX6_add, cX6_add, 4, (some FieldType.int), 3, 6, 0, 0),
  (yX2_takeSizes, cX2_takeSizes, 5, (some FieldType.boolean), 2, 2, 0, 0),
  (yX6_put, cX6_put, 3, none, 3, 6, 0, 0),
  (yX2_sum, cX2_sum, 3, (some FieldType.int), 0, 2, 0, 0),
  (yX2_takeCreases, cX2_takeCreases, 5, (some FieldType.boolean), 1, 2, 0, 0),
  (yX2_creaseCount, cX2_creaseCount, 1, (some FieldType.int), 0, 2, 0, 0),
  (yX6_isCreaseKind, cX6_isCreaseKind, 1, (some FieldType.boolean), 1, 6, 0, 0),
  (yX5_addCopyOf, cX5_addCopyOf, 3, none, 1, 5, 0, 0),
  (yX6_mark, cX6_mark, 6, (some FieldType.int), 3, 6, 0, 0),
  (yX2_hasCrease, cX2_hasCrease, 2, (some FieldType.boolean), 1, 2, 0, 0)]
theorem mf_0 : mfact (yX6_init, cX6_init, 1, none, 0, 6, 300, 2149) := ⟨by decide +kernel, mgd 163 (by decide +kernel) (by decide +kernel), mgd 149 (by decide +kernel) rfl, rfl, by decide, by decide +kernel, by decide +kernel, by decide +kernel⟩
theorem mf_1 : mfact (yX5_init, cX5_init, 2, none, 0, 5, 25, 176) := ⟨by decide +kernel, mgd 171 (by decide +kernel) (by decide +kernel), mgd 150 (by decide +kernel) rfl, rfl, by decide, by decide +kernel, by decide +kernel, by decide +kernel⟩
theorem mf_2 : mfact (yX2_init, cX2_init, 1, none, 0, 2, 2, 16) := ⟨by decide +kernel, mgd 178 (by decide +kernel) (by decide +kernel), mgd 151 (by decide +kernel) rfl, rfl, by decide, by decide +kernel, by decide +kernel, by decide +kernel⟩
theorem mf_3 : mfact (yX0_init, cX0_init, 2, none, 0, 0, 209, 1448) := ⟨by decide +kernel, mgd 231 (by decide +kernel) (by decide +kernel), mgd 152 (by decide +kernel) rfl, rfl, by decide, by decide +kernel, by decide +kernel, by decide +kernel⟩
theorem mf_4 : mfact (yX4_init, cX4_init, 1, none, 0, 4, 1, 80) := ⟨by decide +kernel, mgd 255 (by decide +kernel) (by decide +kernel), mgd 153 (by decide +kernel) rfl, rfl, by decide, by decide +kernel, by decide +kernel, by decide +kernel⟩
theorem mf_5 : mfact (yX3_init, cX3_init, 1, none, 0, 3, 2, 16) := ⟨by decide +kernel, mgd 292 (by decide +kernel) (by decide +kernel), mgd 154 (by decide +kernel) rfl, rfl, by decide, by decide +kernel, by decide +kernel, by decide +kernel⟩
theorem mf_6 : mfact (yX1_init, cX1_init, 1, none, 0, 1, 3, 24) := ⟨by decide +kernel, mgd 311 (by decide +kernel) (by decide +kernel), mgd 155 (by decide +kernel) rfl, rfl, by decide, by decide +kernel, by decide +kernel, by decide +kernel⟩
theorem mf_7 : mfact (yX6_stage, cX6_stage, 4, (some FieldType.int), 1, 6, 0, 0) := ⟨by decide +kernel, mgd 372 (by decide +kernel) (by decide +kernel), mgd 149 (by decide +kernel) rfl, rfl, by decide, by decide +kernel, by decide +kernel, by decide +kernel⟩
theorem mf_8 : mfact (yX5_occupied, cX5_occupied, 4, (some FieldType.int), 0, 5, 0, 0) := ⟨by decide +kernel, mgd 376 (by decide +kernel) (by decide +kernel), mgd 150 (by decide +kernel) rfl, rfl, by decide, by decide +kernel, by decide +kernel, by decide +kernel⟩
theorem mf_9 : mfact (yX5_pieceAt, cX5_pieceAt, 2, (some (FieldType.object "FoldedTheatre$Piece")), 1, 5, 0, 0) := ⟨by decide +kernel, mgd 380 (by decide +kernel) (by decide +kernel), mgd 150 (by decide +kernel) rfl, rfl, by decide, by decide +kernel, by decide +kernel, by decide +kernel⟩
theorem mf_10 : mfact (yX2_width, cX2_width, 4, (some FieldType.int), 0, 2, 0, 0) := ⟨by decide +kernel, mgd 384 (by decide +kernel) (by decide +kernel), mgd 151 (by decide +kernel) rfl, rfl, by decide, by decide +kernel, by decide +kernel, by decide +kernel⟩
theorem mf_11 : mfact (yX2_greatestSize, cX2_greatestSize, 3, (some FieldType.int), 0, 2, 0, 0) := ⟨by decide +kernel, mgd 388 (by decide +kernel) (by decide +kernel), mgd 151 (by decide +kernel) rfl, rfl, by decide, by decide +kernel, by decide +kernel, by decide +kernel⟩
theorem mf_12 : mfact (yX6_at, cX6_at, 2, (some FieldType.int), 2, 6, 0, 0) := ⟨by decide +kernel, mgd 391 (by decide +kernel) (by decide +kernel), mgd 149 (by decide +kernel) rfl, rfl, by decide, by decide +kernel, by decide +kernel, by decide +kernel⟩
theorem mf_13 : mfact (yX2_placeOf, cX2_placeOf, 4, (some FieldType.int), 1, 2, 0, 0) := ⟨by decide +kernel, mgd 398 (by decide +kernel) (by decide +kernel), mgd 151 (by decide +kernel) rfl, rfl, by decide, by decide +kernel, by decide +kernel, by decide +kernel⟩
theorem mf_14 : mfact (yX6_refuse, cX6_refuse, 3, (some FieldType.int), 2, 6, 0, 0) := ⟨by decide +kernel, mgd 405 (by decide +kernel) (by decide +kernel), mgd 149 (by decide +kernel) rfl, rfl, by decide, by decide +kernel, by decide +kernel, by decide +kernel⟩
theorem mf_15 : mfact (yX0_push, cX0_push, 3, none, 1, 0, 0, 0) := ⟨by decide +kernel, mgd 409 (by decide +kernel) (by decide +kernel), mgd 152 (by decide +kernel) rfl, rfl, by decide, by decide +kernel, by decide +kernel, by decide +kernel⟩
theorem mf_16 : mfact (yX0_stateAt, cX0_stateAt, 2, (some (FieldType.object "FoldedTheatre$State")), 1, 0, 0, 0) := ⟨by decide +kernel, mgd 413 (by decide +kernel) (by decide +kernel), mgd 152 (by decide +kernel) rfl, rfl, by decide, by decide +kernel, by decide +kernel, by decide +kernel⟩
theorem mf_17 : mfact (yX5_copyFrom, cX5_copyFrom, 5, none, 1, 5, 0, 0) := ⟨by decide +kernel, mgd 417 (by decide +kernel) (by decide +kernel), mgd 150 (by decide +kernel) rfl, rfl, by decide, by decide +kernel, by decide +kernel, by decide +kernel⟩
theorem mf_18 : mfact (yX2_copyFrom, cX2_copyFrom, 2, none, 1, 2, 0, 0) := ⟨by decide +kernel, mgd 421 (by decide +kernel) (by decide +kernel), mgd 151 (by decide +kernel) rfl, rfl, by decide, by decide +kernel, by decide +kernel, by decide +kernel⟩
theorem mf_19 : mfact (yX6_copyRow, cX6_copyRow, 3, none, 2, 6, 0, 0) := ⟨by decide +kernel, mgd 424 (by decide +kernel) (by decide +kernel), mgd 149 (by decide +kernel) rfl, rfl, by decide, by decide +kernel, by decide +kernel, by decide +kernel⟩
theorem mf_20 : mfact (yX6_add, cX6_add, 4, (some FieldType.int), 3, 6, 0, 0) := ⟨by decide +kernel, mgd 429 (by decide +kernel) (by decide +kernel), mgd 149 (by decide +kernel) rfl, rfl, by decide, by decide +kernel, by decide +kernel, by decide +kernel⟩
theorem mf_21 : mfact (yX2_takeSizes, cX2_takeSizes, 5, (some FieldType.boolean), 2, 2, 0, 0) := ⟨by decide +kernel, mgd 433 (by decide +kernel) (by decide +kernel), mgd 151 (by decide +kernel) rfl, rfl, by decide, by decide +kernel, by decide +kernel, by decide +kernel⟩
theorem mf_22 : mfact (yX6_put, cX6_put, 3, none, 3, 6, 0, 0) := ⟨by decide +kernel, mgd 436 (by decide +kernel) (by decide +kernel), mgd 149 (by decide +kernel) rfl, rfl, by decide, by decide +kernel, by decide +kernel, by decide +kernel⟩
theorem mf_23 : mfact (yX2_sum, cX2_sum, 3, (some FieldType.int), 0, 2, 0, 0) := ⟨by decide +kernel, mgd 440 (by decide +kernel) (by decide +kernel), mgd 151 (by decide +kernel) rfl, rfl, by decide, by decide +kernel, by decide +kernel, by decide +kernel⟩
theorem mf_24 : mfact (yX2_takeCreases, cX2_takeCreases, 5, (some FieldType.boolean), 1, 2, 0, 0) := ⟨by decide +kernel, mgd 444 (by decide +kernel) (by decide +kernel), mgd 151 (by decide +kernel) rfl, rfl, by decide, by decide +kernel, by decide +kernel, by decide +kernel⟩
theorem mf_25 : mfact (yX2_creaseCount, cX2_creaseCount, 1, (some FieldType.int), 0, 2, 0, 0) := ⟨by decide +kernel, mgd 448 (by decide +kernel) (by decide +kernel), mgd 151 (by decide +kernel) rfl, rfl, by decide, by decide +kernel, by decide +kernel, by decide +kernel⟩
theorem mf_26 : mfact (yX6_isCreaseKind, cX6_isCreaseKind, 1, (some FieldType.boolean), 1, 6, 0, 0) := ⟨by decide +kernel, mgd 451 (by decide +kernel) (by decide +kernel), mgd 149 (by decide +kernel) rfl, rfl, by decide, by decide +kernel, by decide +kernel, by decide +kernel⟩
theorem mf_27 : mfact (yX5_addCopyOf, cX5_addCopyOf, 3, none, 1, 5, 0, 0) := ⟨by decide +kernel, mgd 455 (by decide +kernel) (by decide +kernel), mgd 150 (by decide +kernel) rfl, rfl, by decide, by decide +kernel, by decide +kernel, by decide +kernel⟩
theorem mf_28 : mfact (yX6_mark, cX6_mark, 6, (some FieldType.int), 3, 6, 0, 0) := ⟨by decide +kernel, mgd 459 (by decide +kernel) (by decide +kernel), mgd 149 (by decide +kernel) rfl, rfl, by decide, by decide +kernel, by decide +kernel, by decide +kernel⟩
theorem mf_29 : mfact (yX2_hasCrease, cX2_hasCrease, 2, (some FieldType.boolean), 1, 2, 0, 0) := ⟨by decide +kernel, mgd 464 (by decide +kernel) (by decide +kernel), mgd 151 (by decide +kernel) rfl, rfl, by decide, by decide +kernel, by decide +kernel, by decide +kernel⟩
theorem mt_0_ok : ∀ q ∈ mt_0, mfact q := List.forall_mem_cons.mpr ⟨mf_0, List.forall_mem_cons.mpr ⟨mf_1, List.forall_mem_cons.mpr ⟨mf_2, List.forall_mem_cons.mpr ⟨mf_3, List.forall_mem_cons.mpr ⟨mf_4, List.forall_mem_cons.mpr ⟨mf_5, List.forall_mem_cons.mpr ⟨mf_6, List.forall_mem_cons.mpr ⟨mf_7, List.forall_mem_cons.mpr ⟨mf_8, List.forall_mem_cons.mpr ⟨mf_9, List.forall_mem_cons.mpr ⟨mf_10, List.forall_mem_cons.mpr ⟨mf_11, List.forall_mem_cons.mpr ⟨mf_12, List.forall_mem_cons.mpr ⟨mf_13, List.forall_mem_cons.mpr ⟨mf_14, List.forall_mem_cons.mpr ⟨mf_15, List.forall_mem_cons.mpr ⟨mf_16, List.forall_mem_cons.mpr ⟨mf_17, List.forall_mem_cons.mpr ⟨mf_18, List.forall_mem_cons.mpr ⟨mf_19, List.forall_mem_cons.mpr ⟨mf_20, List.forall_mem_cons.mpr ⟨mf_21, List.forall_mem_cons.mpr ⟨mf_22, List.forall_mem_cons.mpr ⟨mf_23, List.forall_mem_cons.mpr ⟨mf_24, List.forall_mem_cons.mpr ⟨mf_25, List.forall_mem_cons.mpr ⟨mf_26, List.forall_mem_cons.mpr ⟨mf_27, List.forall_mem_cons.mpr ⟨mf_28, List.forall_mem_cons.mpr ⟨mf_29, fun _ h => absurd h List.not_mem_nil⟩⟩⟩⟩⟩⟩⟩⟩⟩⟩⟩⟩⟩⟩⟩⟩⟩⟩⟩⟩⟩⟩⟩⟩⟩⟩⟩⟩⟩⟩
def mt_1 : List (MethodName × ByteArray × Nat × Option FieldType × Nat × Nat × Nat × Nat) := [(yX6_turn, cX6_turn, 3, (some FieldType.int), 1, 6, 0, 0),
  (yX2_turnOver, cX2_turnOver, 3, none, 0, 2, 0, 0),
  (yX2_countOf, cX2_countOf, 4, (some FieldType.int), 1, 2, 0, 0),
  (yX6_rotate, cX6_rotate, 4, (some FieldType.int), 2, 6, 0, 0),
  (yX2_becomeRotated, cX2_becomeRotated, 5, none, 2, 2, 0, 0),
  (yX2_sizesAsNumber, cX2_sizesAsNumber, 3, (some FieldType.int), 0, 2, 0, 0),
  (yX6_join, cX6_join, 7, (some FieldType.int), 3, 6, 0, 0),
  (yX2_lengthenBy, cX2_lengthenBy, 4, none, 2, 2, 0, 0),
  (yX5_removeAt, cX5_removeAt, 5, none, 1, 5, 0, 0),
  (yX6_cut, cX6_cut, 6, (some FieldType.int), 2, 6, 0, 0),
  (yX2_becomeEndOf, cX2_becomeEndOf, 4, none, 2, 2, 0, 0),
  (yX6_fold, cX6_fold, 6, (some FieldType.int), 1, 6, 0, 0),
  (yX2_isUndecided, cX2_isUndecided, 1, (some FieldType.boolean), 0, 2, 0, 0),
  (yX2_lowestUndecided, cX2_lowestUndecided, 3, (some FieldType.int), 0, 2, 0, 0),
  (yX3_whatStandsInTheWay, cX3_whatStandsInTheWay, 2, (some FieldType.int), 1, 3, 0, 0),
  (yX3_load, cX3_load, 3, none, 1, 3, 0, 0),
  (yX3_putCrease, cX3_putCrease, 3, none, 2, 3, 0, 0),
  (yX3_evenAngles, cX3_evenAngles, 3, (some FieldType.int), 0, 3, 0, 0),
  (yX3_hasSmallAngleOfOneKind, cX3_hasSmallAngleOfOneKind, 4, (some FieldType.boolean), 0, 3, 0, 0),
  (yX3_before, cX3_before, 2, (some FieldType.int), 1, 3, 0, 0),
  (yX3_after, cX3_after, 2, (some FieldType.int), 1, 3, 0, 0),
  (yX3_reduce, cX3_reduce, 3, (some FieldType.int), 0, 3, 0, 0),
  (yX3_firstStep, cX3_firstStep, 5, (some FieldType.int), 0, 3, 0, 0),
  (yX3_make, cX3_make, 5, none, 1, 3, 0, 0),
  (yX6_takeOut, cX6_takeOut, 3, none, 2, 6, 0, 0),
  (yX3_isReduced, cX3_isReduced, 1, (some FieldType.boolean), 0, 3, 0, 0),
  (yX6_unfold, cX6_unfold, 3, (some FieldType.int), 1, 6, 0, 0),
  (yX6_drop, cX6_drop, 2, (some FieldType.int), 1, 6, 0, 0),
  (yX6_piece, cX6_piece, 4, (some FieldType.int), 2, 6, 0, 0),
  (yX6_size, cX6_size, 4, (some FieldType.int), 2, 6, 0, 0)]
theorem mf_30 : mfact (yX6_turn, cX6_turn, 3, (some FieldType.int), 1, 6, 0, 0) := ⟨by decide +kernel, mgd 471 (by decide +kernel) (by decide +kernel), mgd 149 (by decide +kernel) rfl, rfl, by decide, by decide +kernel, by decide +kernel, by decide +kernel⟩
theorem mf_31 : mfact (yX2_turnOver, cX2_turnOver, 3, none, 0, 2, 0, 0) := ⟨by decide +kernel, mgd 475 (by decide +kernel) (by decide +kernel), mgd 151 (by decide +kernel) rfl, rfl, by decide, by decide +kernel, by decide +kernel, by decide +kernel⟩
theorem mf_32 : mfact (yX2_countOf, cX2_countOf, 4, (some FieldType.int), 1, 2, 0, 0) := ⟨by decide +kernel, mgd 480 (by decide +kernel) (by decide +kernel), mgd 151 (by decide +kernel) rfl, rfl, by decide, by decide +kernel, by decide +kernel, by decide +kernel⟩
theorem mf_33 : mfact (yX6_rotate, cX6_rotate, 4, (some FieldType.int), 2, 6, 0, 0) := ⟨by decide +kernel, mgd 484 (by decide +kernel) (by decide +kernel), mgd 149 (by decide +kernel) rfl, rfl, by decide, by decide +kernel, by decide +kernel, by decide +kernel⟩
theorem mf_34 : mfact (yX2_becomeRotated, cX2_becomeRotated, 5, none, 2, 2, 0, 0) := ⟨by decide +kernel, mgd 489 (by decide +kernel) (by decide +kernel), mgd 151 (by decide +kernel) rfl, rfl, by decide, by decide +kernel, by decide +kernel, by decide +kernel⟩
theorem mf_35 : mfact (yX2_sizesAsNumber, cX2_sizesAsNumber, 3, (some FieldType.int), 0, 2, 0, 0) := ⟨by decide +kernel, mgd 493 (by decide +kernel) (by decide +kernel), mgd 151 (by decide +kernel) rfl, rfl, by decide, by decide +kernel, by decide +kernel, by decide +kernel⟩
theorem mf_36 : mfact (yX6_join, cX6_join, 7, (some FieldType.int), 3, 6, 0, 0) := ⟨by decide +kernel, mgd 497 (by decide +kernel) (by decide +kernel), mgd 149 (by decide +kernel) rfl, rfl, by decide, by decide +kernel, by decide +kernel, by decide +kernel⟩
theorem mf_37 : mfact (yX2_lengthenBy, cX2_lengthenBy, 4, none, 2, 2, 0, 0) := ⟨by decide +kernel, mgd 501 (by decide +kernel) (by decide +kernel), mgd 151 (by decide +kernel) rfl, rfl, by decide, by decide +kernel, by decide +kernel, by decide +kernel⟩
theorem mf_38 : mfact (yX5_removeAt, cX5_removeAt, 5, none, 1, 5, 0, 0) := ⟨by decide +kernel, mgd 505 (by decide +kernel) (by decide +kernel), mgd 150 (by decide +kernel) rfl, rfl, by decide, by decide +kernel, by decide +kernel, by decide +kernel⟩
theorem mf_39 : mfact (yX6_cut, cX6_cut, 6, (some FieldType.int), 2, 6, 0, 0) := ⟨by decide +kernel, mgd 509 (by decide +kernel) (by decide +kernel), mgd 149 (by decide +kernel) rfl, rfl, by decide, by decide +kernel, by decide +kernel, by decide +kernel⟩
theorem mf_40 : mfact (yX2_becomeEndOf, cX2_becomeEndOf, 4, none, 2, 2, 0, 0) := ⟨by decide +kernel, mgd 514 (by decide +kernel) (by decide +kernel), mgd 151 (by decide +kernel) rfl, rfl, by decide, by decide +kernel, by decide +kernel, by decide +kernel⟩
theorem mf_41 : mfact (yX6_fold, cX6_fold, 6, (some FieldType.int), 1, 6, 0, 0) := ⟨by decide +kernel, mgd 518 (by decide +kernel) (by decide +kernel), mgd 149 (by decide +kernel) rfl, rfl, by decide, by decide +kernel, by decide +kernel, by decide +kernel⟩
theorem mf_42 : mfact (yX2_isUndecided, cX2_isUndecided, 1, (some FieldType.boolean), 0, 2, 0, 0) := ⟨by decide +kernel, mgd 522 (by decide +kernel) (by decide +kernel), mgd 151 (by decide +kernel) rfl, rfl, by decide, by decide +kernel, by decide +kernel, by decide +kernel⟩
theorem mf_43 : mfact (yX2_lowestUndecided, cX2_lowestUndecided, 3, (some FieldType.int), 0, 2, 0, 0) := ⟨by decide +kernel, mgd 527 (by decide +kernel) (by decide +kernel), mgd 151 (by decide +kernel) rfl, rfl, by decide, by decide +kernel, by decide +kernel, by decide +kernel⟩
theorem mf_44 : mfact (yX3_whatStandsInTheWay, cX3_whatStandsInTheWay, 2, (some FieldType.int), 1, 3, 0, 0) := ⟨by decide +kernel, mgd 531 (by decide +kernel) (by decide +kernel), mgd 154 (by decide +kernel) rfl, rfl, by decide, by decide +kernel, by decide +kernel, by decide +kernel⟩
theorem mf_45 : mfact (yX3_load, cX3_load, 3, none, 1, 3, 0, 0) := ⟨by decide +kernel, mgd 536 (by decide +kernel) (by decide +kernel), mgd 154 (by decide +kernel) rfl, rfl, by decide, by decide +kernel, by decide +kernel, by decide +kernel⟩
theorem mf_46 : mfact (yX3_putCrease, cX3_putCrease, 3, none, 2, 3, 0, 0) := ⟨by decide +kernel, mgd 543 (by decide +kernel) (by decide +kernel), mgd 154 (by decide +kernel) rfl, rfl, by decide, by decide +kernel, by decide +kernel, by decide +kernel⟩
theorem mf_47 : mfact (yX3_evenAngles, cX3_evenAngles, 3, (some FieldType.int), 0, 3, 0, 0) := ⟨by decide +kernel, mgd 548 (by decide +kernel) (by decide +kernel), mgd 154 (by decide +kernel) rfl, rfl, by decide, by decide +kernel, by decide +kernel, by decide +kernel⟩
theorem mf_48 : mfact (yX3_hasSmallAngleOfOneKind, cX3_hasSmallAngleOfOneKind, 4, (some FieldType.boolean), 0, 3, 0, 0) := ⟨by decide +kernel, mgd 556 (by decide +kernel) (by decide +kernel), mgd 154 (by decide +kernel) rfl, rfl, by decide, by decide +kernel, by decide +kernel, by decide +kernel⟩
theorem mf_49 : mfact (yX3_before, cX3_before, 2, (some FieldType.int), 1, 3, 0, 0) := ⟨by decide +kernel, mgd 560 (by decide +kernel) (by decide +kernel), mgd 154 (by decide +kernel) rfl, rfl, by decide, by decide +kernel, by decide +kernel, by decide +kernel⟩
theorem mf_50 : mfact (yX3_after, cX3_after, 2, (some FieldType.int), 1, 3, 0, 0) := ⟨by decide +kernel, mgd 564 (by decide +kernel) (by decide +kernel), mgd 154 (by decide +kernel) rfl, rfl, by decide, by decide +kernel, by decide +kernel, by decide +kernel⟩
theorem mf_51 : mfact (yX3_reduce, cX3_reduce, 3, (some FieldType.int), 0, 3, 0, 0) := ⟨by decide +kernel, mgd 568 (by decide +kernel) (by decide +kernel), mgd 154 (by decide +kernel) rfl, rfl, by decide, by decide +kernel, by decide +kernel, by decide +kernel⟩
theorem mf_52 : mfact (yX3_firstStep, cX3_firstStep, 5, (some FieldType.int), 0, 3, 0, 0) := ⟨by decide +kernel, mgd 572 (by decide +kernel) (by decide +kernel), mgd 154 (by decide +kernel) rfl, rfl, by decide, by decide +kernel, by decide +kernel, by decide +kernel⟩
theorem mf_53 : mfact (yX3_make, cX3_make, 5, none, 1, 3, 0, 0) := ⟨by decide +kernel, mgd 576 (by decide +kernel) (by decide +kernel), mgd 154 (by decide +kernel) rfl, rfl, by decide, by decide +kernel, by decide +kernel, by decide +kernel⟩
theorem mf_54 : mfact (yX6_takeOut, cX6_takeOut, 3, none, 2, 6, 0, 0) := ⟨by decide +kernel, mgd 579 (by decide +kernel) (by decide +kernel), mgd 149 (by decide +kernel) rfl, rfl, by decide, by decide +kernel, by decide +kernel, by decide +kernel⟩
theorem mf_55 : mfact (yX3_isReduced, cX3_isReduced, 1, (some FieldType.boolean), 0, 3, 0, 0) := ⟨by decide +kernel, mgd 585 (by decide +kernel) (by decide +kernel), mgd 154 (by decide +kernel) rfl, rfl, by decide, by decide +kernel, by decide +kernel, by decide +kernel⟩
theorem mf_56 : mfact (yX6_unfold, cX6_unfold, 3, (some FieldType.int), 1, 6, 0, 0) := ⟨by decide +kernel, mgd 590 (by decide +kernel) (by decide +kernel), mgd 149 (by decide +kernel) rfl, rfl, by decide, by decide +kernel, by decide +kernel, by decide +kernel⟩
theorem mf_57 : mfact (yX6_drop, cX6_drop, 2, (some FieldType.int), 1, 6, 0, 0) := ⟨by decide +kernel, mgd 594 (by decide +kernel) (by decide +kernel), mgd 149 (by decide +kernel) rfl, rfl, by decide, by decide +kernel, by decide +kernel, by decide +kernel⟩
theorem mf_58 : mfact (yX6_piece, cX6_piece, 4, (some FieldType.int), 2, 6, 0, 0) := ⟨by decide +kernel, mgd 598 (by decide +kernel) (by decide +kernel), mgd 149 (by decide +kernel) rfl, rfl, by decide, by decide +kernel, by decide +kernel, by decide +kernel⟩
theorem mf_59 : mfact (yX6_size, cX6_size, 4, (some FieldType.int), 2, 6, 0, 0) := ⟨by decide +kernel, mgd 603 (by decide +kernel) (by decide +kernel), mgd 149 (by decide +kernel) rfl, rfl, by decide, by decide +kernel, by decide +kernel, by decide +kernel⟩
theorem mt_1_ok : ∀ q ∈ mt_1, mfact q := List.forall_mem_cons.mpr ⟨mf_30, List.forall_mem_cons.mpr ⟨mf_31, List.forall_mem_cons.mpr ⟨mf_32, List.forall_mem_cons.mpr ⟨mf_33, List.forall_mem_cons.mpr ⟨mf_34, List.forall_mem_cons.mpr ⟨mf_35, List.forall_mem_cons.mpr ⟨mf_36, List.forall_mem_cons.mpr ⟨mf_37, List.forall_mem_cons.mpr ⟨mf_38, List.forall_mem_cons.mpr ⟨mf_39, List.forall_mem_cons.mpr ⟨mf_40, List.forall_mem_cons.mpr ⟨mf_41, List.forall_mem_cons.mpr ⟨mf_42, List.forall_mem_cons.mpr ⟨mf_43, List.forall_mem_cons.mpr ⟨mf_44, List.forall_mem_cons.mpr ⟨mf_45, List.forall_mem_cons.mpr ⟨mf_46, List.forall_mem_cons.mpr ⟨mf_47, List.forall_mem_cons.mpr ⟨mf_48, List.forall_mem_cons.mpr ⟨mf_49, List.forall_mem_cons.mpr ⟨mf_50, List.forall_mem_cons.mpr ⟨mf_51, List.forall_mem_cons.mpr ⟨mf_52, List.forall_mem_cons.mpr ⟨mf_53, List.forall_mem_cons.mpr ⟨mf_54, List.forall_mem_cons.mpr ⟨mf_55, List.forall_mem_cons.mpr ⟨mf_56, List.forall_mem_cons.mpr ⟨mf_57, List.forall_mem_cons.mpr ⟨mf_58, List.forall_mem_cons.mpr ⟨mf_59, fun _ h => absurd h List.not_mem_nil⟩⟩⟩⟩⟩⟩⟩⟩⟩⟩⟩⟩⟩⟩⟩⟩⟩⟩⟩⟩⟩⟩⟩⟩⟩⟩⟩⟩⟩⟩
def mt_2 : List (MethodName × ByteArray × Nat × Option FieldType × Nat × Nat × Nat × Nat) := [(yX6_crease, cX6_crease, 4, (some FieldType.int), 2, 6, 0, 0),
  (yX6_why, cX6_why, 3, (some FieldType.int), 1, 6, 0, 0),
  (yX6_foldsAgain, cX6_foldsAgain, 4, (some FieldType.int), 1, 6, 0, 0),
  (yX6_errorOfDecidedStrip, cX6_errorOfDecidedStrip, 1, (some FieldType.int), 1, 6, 0, 0),
  (yX1_search, cX1_search, 7, (some FieldType.int), 2, 1, 0, 0),
  (yX1_load, cX1_load, 3, none, 1, 1, 0, 0),
  (yX1_nextLayer, cX1_nextLayer, 3, (some FieldType.int), 1, 1, 0, 0),
  (yX1_isFree, cX1_isFree, 4, (some FieldType.boolean), 2, 1, 0, 0),
  (yX1_isAsCreased, cX1_isAsCreased, 6, (some FieldType.boolean), 2, 1, 0, 0),
  (yX1_layersCollide, cX1_layersCollide, 2, (some FieldType.boolean), 0, 1, 0, 0),
  (yX1_isPierced, cX1_isPierced, 6, (some FieldType.boolean), 1, 1, 0, 0),
  (yX1_isBetween, cX1_isBetween, 6, (some FieldType.boolean), 2, 1, 0, 0),
  (yX1_isCrossed, cX1_isCrossed, 4, (some FieldType.boolean), 1, 1, 0, 0),
  (yX6_step, cX6_step, 4, (some FieldType.int), 1, 6, 0, 0),
  (yX6_steps, cX6_steps, 3, (some FieldType.int), 1, 6, 0, 0),
  (yX6_ways, cX6_ways, 3, (some FieldType.int), 1, 6, 0, 0),
  (yX3_countWays, cX3_countWays, 4, (some FieldType.int), 1, 3, 0, 0),
  (yX3_changesTo, cX3_changesTo, 5, (some FieldType.int), 2, 3, 0, 0),
  (yX3_kindIn, cX3_kindIn, 2, (some FieldType.int), 2, 3, 0, 0),
  (yX3_foldsWith, cX3_foldsWith, 4, (some FieldType.boolean), 2, 3, 0, 0),
  (yX6_fewest, cX6_fewest, 3, (some FieldType.int), 1, 6, 0, 0),
  (yX3_fewestChanges, cX3_fewestChanges, 5, (some FieldType.int), 1, 3, 0, 0),
  (yX6_place, cX6_place, 4, (some FieldType.int), 2, 6, 0, 0),
  (yX6_layer, cX6_layer, 5, (some FieldType.int), 2, 6, 0, 0),
  (yX6_orders, cX6_orders, 4, (some FieldType.int), 1, 6, 0, 0),
  (yX6_thickest, cX6_thickest, 3, (some FieldType.int), 1, 6, 0, 0),
  (yX2_thickness, cX2_thickness, 3, (some FieldType.int), 0, 2, 0, 0),
  (yX2_leftEndOf, cX2_leftEndOf, 2, (some FieldType.int), 1, 2, 0, 0),
  (yX2_panelsBehind, cX2_panelsBehind, 4, (some FieldType.int), 1, 2, 0, 0),
  (yX2_rightEndOf, cX2_rightEndOf, 2, (some FieldType.int), 1, 2, 0, 0)]
theorem mf_60 : mfact (yX6_crease, cX6_crease, 4, (some FieldType.int), 2, 6, 0, 0) := ⟨by decide +kernel, mgd 607 (by decide +kernel) (by decide +kernel), mgd 149 (by decide +kernel) rfl, rfl, by decide, by decide +kernel, by decide +kernel, by decide +kernel⟩
theorem mf_61 : mfact (yX6_why, cX6_why, 3, (some FieldType.int), 1, 6, 0, 0) := ⟨by decide +kernel, mgd 611 (by decide +kernel) (by decide +kernel), mgd 149 (by decide +kernel) rfl, rfl, by decide, by decide +kernel, by decide +kernel, by decide +kernel⟩
theorem mf_62 : mfact (yX6_foldsAgain, cX6_foldsAgain, 4, (some FieldType.int), 1, 6, 0, 0) := ⟨by decide +kernel, mgd 615 (by decide +kernel) (by decide +kernel), mgd 149 (by decide +kernel) rfl, rfl, by decide, by decide +kernel, by decide +kernel, by decide +kernel⟩
theorem mf_63 : mfact (yX6_errorOfDecidedStrip, cX6_errorOfDecidedStrip, 1, (some FieldType.int), 1, 6, 0, 0) := ⟨by decide +kernel, mgd 618 (by decide +kernel) (by decide +kernel), mgd 149 (by decide +kernel) rfl, rfl, by decide, by decide +kernel, by decide +kernel, by decide +kernel⟩
theorem mf_64 : mfact (yX1_search, cX1_search, 7, (some FieldType.int), 2, 1, 0, 0) := ⟨by decide +kernel, mgd 622 (by decide +kernel) (by decide +kernel), mgd 155 (by decide +kernel) rfl, rfl, by decide, by decide +kernel, by decide +kernel, by decide +kernel⟩
theorem mf_65 : mfact (yX1_load, cX1_load, 3, none, 1, 1, 0, 0) := ⟨by decide +kernel, mgd 626 (by decide +kernel) (by decide +kernel), mgd 155 (by decide +kernel) rfl, rfl, by decide, by decide +kernel, by decide +kernel, by decide +kernel⟩
theorem mf_66 : mfact (yX1_nextLayer, cX1_nextLayer, 3, (some FieldType.int), 1, 1, 0, 0) := ⟨by decide +kernel, mgd 635 (by decide +kernel) (by decide +kernel), mgd 155 (by decide +kernel) rfl, rfl, by decide, by decide +kernel, by decide +kernel, by decide +kernel⟩
theorem mf_67 : mfact (yX1_isFree, cX1_isFree, 4, (some FieldType.boolean), 2, 1, 0, 0) := ⟨by decide +kernel, mgd 640 (by decide +kernel) (by decide +kernel), mgd 155 (by decide +kernel) rfl, rfl, by decide, by decide +kernel, by decide +kernel, by decide +kernel⟩
theorem mf_68 : mfact (yX1_isAsCreased, cX1_isAsCreased, 6, (some FieldType.boolean), 2, 1, 0, 0) := ⟨by decide +kernel, mgd 644 (by decide +kernel) (by decide +kernel), mgd 155 (by decide +kernel) rfl, rfl, by decide, by decide +kernel, by decide +kernel, by decide +kernel⟩
theorem mf_69 : mfact (yX1_layersCollide, cX1_layersCollide, 2, (some FieldType.boolean), 0, 1, 0, 0) := ⟨by decide +kernel, mgd 648 (by decide +kernel) (by decide +kernel), mgd 155 (by decide +kernel) rfl, rfl, by decide, by decide +kernel, by decide +kernel, by decide +kernel⟩
theorem mf_70 : mfact (yX1_isPierced, cX1_isPierced, 6, (some FieldType.boolean), 1, 1, 0, 0) := ⟨by decide +kernel, mgd 652 (by decide +kernel) (by decide +kernel), mgd 155 (by decide +kernel) rfl, rfl, by decide, by decide +kernel, by decide +kernel, by decide +kernel⟩
theorem mf_71 : mfact (yX1_isBetween, cX1_isBetween, 6, (some FieldType.boolean), 2, 1, 0, 0) := ⟨by decide +kernel, mgd 657 (by decide +kernel) (by decide +kernel), mgd 155 (by decide +kernel) rfl, rfl, by decide, by decide +kernel, by decide +kernel, by decide +kernel⟩
theorem mf_72 : mfact (yX1_isCrossed, cX1_isCrossed, 4, (some FieldType.boolean), 1, 1, 0, 0) := ⟨by decide +kernel, mgd 661 (by decide +kernel) (by decide +kernel), mgd 155 (by decide +kernel) rfl, rfl, by decide, by decide +kernel, by decide +kernel, by decide +kernel⟩
theorem mf_73 : mfact (yX6_step, cX6_step, 4, (some FieldType.int), 1, 6, 0, 0) := ⟨by decide +kernel, mgd 665 (by decide +kernel) (by decide +kernel), mgd 149 (by decide +kernel) rfl, rfl, by decide, by decide +kernel, by decide +kernel, by decide +kernel⟩
theorem mf_74 : mfact (yX6_steps, cX6_steps, 3, (some FieldType.int), 1, 6, 0, 0) := ⟨by decide +kernel, mgd 671 (by decide +kernel) (by decide +kernel), mgd 149 (by decide +kernel) rfl, rfl, by decide, by decide +kernel, by decide +kernel, by decide +kernel⟩
theorem mf_75 : mfact (yX6_ways, cX6_ways, 3, (some FieldType.int), 1, 6, 0, 0) := ⟨by decide +kernel, mgd 676 (by decide +kernel) (by decide +kernel), mgd 149 (by decide +kernel) rfl, rfl, by decide, by decide +kernel, by decide +kernel, by decide +kernel⟩
theorem mf_76 : mfact (yX3_countWays, cX3_countWays, 4, (some FieldType.int), 1, 3, 0, 0) := ⟨by decide +kernel, mgd 680 (by decide +kernel) (by decide +kernel), mgd 154 (by decide +kernel) rfl, rfl, by decide, by decide +kernel, by decide +kernel, by decide +kernel⟩
theorem mf_77 : mfact (yX3_changesTo, cX3_changesTo, 5, (some FieldType.int), 2, 3, 0, 0) := ⟨by decide +kernel, mgd 683 (by decide +kernel) (by decide +kernel), mgd 154 (by decide +kernel) rfl, rfl, by decide, by decide +kernel, by decide +kernel, by decide +kernel⟩
theorem mf_78 : mfact (yX3_kindIn, cX3_kindIn, 2, (some FieldType.int), 2, 3, 0, 0) := ⟨by decide +kernel, mgd 686 (by decide +kernel) (by decide +kernel), mgd 154 (by decide +kernel) rfl, rfl, by decide, by decide +kernel, by decide +kernel, by decide +kernel⟩
theorem mf_79 : mfact (yX3_foldsWith, cX3_foldsWith, 4, (some FieldType.boolean), 2, 3, 0, 0) := ⟨by decide +kernel, mgd 690 (by decide +kernel) (by decide +kernel), mgd 154 (by decide +kernel) rfl, rfl, by decide, by decide +kernel, by decide +kernel, by decide +kernel⟩
theorem mf_80 : mfact (yX6_fewest, cX6_fewest, 3, (some FieldType.int), 1, 6, 0, 0) := ⟨by decide +kernel, mgd 694 (by decide +kernel) (by decide +kernel), mgd 149 (by decide +kernel) rfl, rfl, by decide, by decide +kernel, by decide +kernel, by decide +kernel⟩
theorem mf_81 : mfact (yX3_fewestChanges, cX3_fewestChanges, 5, (some FieldType.int), 1, 3, 0, 0) := ⟨by decide +kernel, mgd 698 (by decide +kernel) (by decide +kernel), mgd 154 (by decide +kernel) rfl, rfl, by decide, by decide +kernel, by decide +kernel, by decide +kernel⟩
theorem mf_82 : mfact (yX6_place, cX6_place, 4, (some FieldType.int), 2, 6, 0, 0) := ⟨by decide +kernel, mgd 702 (by decide +kernel) (by decide +kernel), mgd 149 (by decide +kernel) rfl, rfl, by decide, by decide +kernel, by decide +kernel, by decide +kernel⟩
theorem mf_83 : mfact (yX6_layer, cX6_layer, 5, (some FieldType.int), 2, 6, 0, 0) := ⟨by decide +kernel, mgd 707 (by decide +kernel) (by decide +kernel), mgd 149 (by decide +kernel) rfl, rfl, by decide, by decide +kernel, by decide +kernel, by decide +kernel⟩
theorem mf_84 : mfact (yX6_orders, cX6_orders, 4, (some FieldType.int), 1, 6, 0, 0) := ⟨by decide +kernel, mgd 711 (by decide +kernel) (by decide +kernel), mgd 149 (by decide +kernel) rfl, rfl, by decide, by decide +kernel, by decide +kernel, by decide +kernel⟩
theorem mf_85 : mfact (yX6_thickest, cX6_thickest, 3, (some FieldType.int), 1, 6, 0, 0) := ⟨by decide +kernel, mgd 716 (by decide +kernel) (by decide +kernel), mgd 149 (by decide +kernel) rfl, rfl, by decide, by decide +kernel, by decide +kernel, by decide +kernel⟩
theorem mf_86 : mfact (yX2_thickness, cX2_thickness, 3, (some FieldType.int), 0, 2, 0, 0) := ⟨by decide +kernel, mgd 720 (by decide +kernel) (by decide +kernel), mgd 151 (by decide +kernel) rfl, rfl, by decide, by decide +kernel, by decide +kernel, by decide +kernel⟩
theorem mf_87 : mfact (yX2_leftEndOf, cX2_leftEndOf, 2, (some FieldType.int), 1, 2, 0, 0) := ⟨by decide +kernel, mgd 724 (by decide +kernel) (by decide +kernel), mgd 151 (by decide +kernel) rfl, rfl, by decide, by decide +kernel, by decide +kernel, by decide +kernel⟩
theorem mf_88 : mfact (yX2_panelsBehind, cX2_panelsBehind, 4, (some FieldType.int), 1, 2, 0, 0) := ⟨by decide +kernel, mgd 728 (by decide +kernel) (by decide +kernel), mgd 151 (by decide +kernel) rfl, rfl, by decide, by decide +kernel, by decide +kernel, by decide +kernel⟩
theorem mf_89 : mfact (yX2_rightEndOf, cX2_rightEndOf, 2, (some FieldType.int), 1, 2, 0, 0) := ⟨by decide +kernel, mgd 732 (by decide +kernel) (by decide +kernel), mgd 151 (by decide +kernel) rfl, rfl, by decide, by decide +kernel, by decide +kernel, by decide +kernel⟩
theorem mt_2_ok : ∀ q ∈ mt_2, mfact q := List.forall_mem_cons.mpr ⟨mf_60, List.forall_mem_cons.mpr ⟨mf_61, List.forall_mem_cons.mpr ⟨mf_62, List.forall_mem_cons.mpr ⟨mf_63, List.forall_mem_cons.mpr ⟨mf_64, List.forall_mem_cons.mpr ⟨mf_65, List.forall_mem_cons.mpr ⟨mf_66, List.forall_mem_cons.mpr ⟨mf_67, List.forall_mem_cons.mpr ⟨mf_68, List.forall_mem_cons.mpr ⟨mf_69, List.forall_mem_cons.mpr ⟨mf_70, List.forall_mem_cons.mpr ⟨mf_71, List.forall_mem_cons.mpr ⟨mf_72, List.forall_mem_cons.mpr ⟨mf_73, List.forall_mem_cons.mpr ⟨mf_74, List.forall_mem_cons.mpr ⟨mf_75, List.forall_mem_cons.mpr ⟨mf_76, List.forall_mem_cons.mpr ⟨mf_77, List.forall_mem_cons.mpr ⟨mf_78, List.forall_mem_cons.mpr ⟨mf_79, List.forall_mem_cons.mpr ⟨mf_80, List.forall_mem_cons.mpr ⟨mf_81, List.forall_mem_cons.mpr ⟨mf_82, List.forall_mem_cons.mpr ⟨mf_83, List.forall_mem_cons.mpr ⟨mf_84, List.forall_mem_cons.mpr ⟨mf_85, List.forall_mem_cons.mpr ⟨mf_86, List.forall_mem_cons.mpr ⟨mf_87, List.forall_mem_cons.mpr ⟨mf_88, List.forall_mem_cons.mpr ⟨mf_89, fun _ h => absurd h List.not_mem_nil⟩⟩⟩⟩⟩⟩⟩⟩⟩⟩⟩⟩⟩⟩⟩⟩⟩⟩⟩⟩⟩⟩⟩⟩⟩⟩⟩⟩⟩⟩
def mt_3 : List (MethodName × ByteArray × Nat × Option FieldType × Nat × Nat × Nat × Nat) := [(yX6_reflected, cX6_reflected, 3, (some FieldType.int), 1, 6, 0, 0),
  (yX2_reflection, cX2_reflection, 4, (some FieldType.int), 0, 2, 0, 0),
  (yX6_append, cX6_append, 2, (some FieldType.int), 1, 6, 0, 0),
  (yX4_write, cX4_write, 2, none, 1, 4, 0, 0),
  (yX6_read, cX6_read, 4, (some FieldType.int), 0, 6, 0, 0),
  (yX4_faultPosition, cX4_faultPosition, 2, (some FieldType.int), 0, 4, 0, 0),
  (yX4_rewind, cX4_rewind, 1, none, 0, 4, 0, 0),
  (yX4_takeCommand, cX4_takeCommand, 1, (some FieldType.boolean), 0, 4, 0, 0),
  (yX4_codeHere, cX4_codeHere, 1, (some FieldType.int), 0, 4, 0, 0),
  (yX4_takeSizes, cX4_takeSizes, 2, (some FieldType.boolean), 0, 4, 0, 0),
  (yX4_takeSign, cX4_takeSign, 2, (some FieldType.boolean), 1, 4, 0, 0),
  (yX4_takeCreases, cX4_takeCreases, 2, (some FieldType.boolean), 0, 4, 0, 0),
  (yX4_takeKind, cX4_takeKind, 2, (some FieldType.boolean), 0, 4, 0, 0),
  (yX4_takePiece, cX4_takePiece, 1, (some FieldType.boolean), 0, 4, 0, 0),
  (yX4_takeDigit, cX4_takeDigit, 1, (some FieldType.boolean), 0, 4, 0, 0),
  (yX4_takeCrease, cX4_takeCrease, 1, (some FieldType.boolean), 0, 4, 0, 0),
  (yX4_clear, cX4_clear, 1, none, 0, 4, 0, 0),
  (yX6_perform, cX6_perform, 1, (some FieldType.int), 0, 6, 0, 0),
  (yX6_withCreasesAsTold, cX6_withCreasesAsTold, 3, (some FieldType.int), 1, 6, 0, 0),
  (yX6_refusal, cX6_refusal, 2, (some FieldType.int), 1, 6, 0, 0),
  (yX6_account, cX6_account, 2, (some FieldType.int), 1, 6, 0, 0),
  (yX5_countOfKind, cX5_countOfKind, 5, (some FieldType.int), 1, 5, 0, 0),
  (yX5_foldedCount, cX5_foldedCount, 4, (some FieldType.int), 0, 5, 0, 0),
  (yX5_panelCount, cX5_panelCount, 4, (some FieldType.int), 0, 5, 0, 0),
  (yX5_creasesOf, cX5_creasesOf, 5, (some FieldType.int), 1, 5, 0, 0),
  (yX6_share, cX6_share, 3, (some FieldType.int), 0, 6, 0, 0),
  (yX6_bitsOf, cX6_bitsOf, 4, (some FieldType.int), 1, 6, 0, 0),
  (yX6_undo, cX6_undo, 1, (some FieldType.int), 0, 6, 0, 0),
  (yX0_pop, cX0_pop, 3, none, 1, 0, 0, 0),
  (yX6_save, cX6_save, 1, (some FieldType.int), 0, 6, 0, 0)]
theorem mf_90 : mfact (yX6_reflected, cX6_reflected, 3, (some FieldType.int), 1, 6, 0, 0) := ⟨by decide +kernel, mgd 736 (by decide +kernel) (by decide +kernel), mgd 149 (by decide +kernel) rfl, rfl, by decide, by decide +kernel, by decide +kernel, by decide +kernel⟩
theorem mf_91 : mfact (yX2_reflection, cX2_reflection, 4, (some FieldType.int), 0, 2, 0, 0) := ⟨by decide +kernel, mgd 740 (by decide +kernel) (by decide +kernel), mgd 151 (by decide +kernel) rfl, rfl, by decide, by decide +kernel, by decide +kernel, by decide +kernel⟩
theorem mf_92 : mfact (yX6_append, cX6_append, 2, (some FieldType.int), 1, 6, 0, 0) := ⟨by decide +kernel, mgd 747 (by decide +kernel) (by decide +kernel), mgd 149 (by decide +kernel) rfl, rfl, by decide, by decide +kernel, by decide +kernel, by decide +kernel⟩
theorem mf_93 : mfact (yX4_write, cX4_write, 2, none, 1, 4, 0, 0) := ⟨by decide +kernel, mgd 751 (by decide +kernel) (by decide +kernel), mgd 153 (by decide +kernel) rfl, rfl, by decide, by decide +kernel, by decide +kernel, by decide +kernel⟩
theorem mf_94 : mfact (yX6_read, cX6_read, 4, (some FieldType.int), 0, 6, 0, 0) := ⟨by decide +kernel, mgd 756 (by decide +kernel) (by decide +kernel), mgd 149 (by decide +kernel) rfl, rfl, by decide, by decide +kernel, by decide +kernel, by decide +kernel⟩
theorem mf_95 : mfact (yX4_faultPosition, cX4_faultPosition, 2, (some FieldType.int), 0, 4, 0, 0) := ⟨by decide +kernel, mgd 760 (by decide +kernel) (by decide +kernel), mgd 153 (by decide +kernel) rfl, rfl, by decide, by decide +kernel, by decide +kernel, by decide +kernel⟩
theorem mf_96 : mfact (yX4_rewind, cX4_rewind, 1, none, 0, 4, 0, 0) := ⟨by decide +kernel, mgd 764 (by decide +kernel) (by decide +kernel), mgd 153 (by decide +kernel) rfl, rfl, by decide, by decide +kernel, by decide +kernel, by decide +kernel⟩
theorem mf_97 : mfact (yX4_takeCommand, cX4_takeCommand, 1, (some FieldType.boolean), 0, 4, 0, 0) := ⟨by decide +kernel, mgd 768 (by decide +kernel) (by decide +kernel), mgd 153 (by decide +kernel) rfl, rfl, by decide, by decide +kernel, by decide +kernel, by decide +kernel⟩
theorem mf_98 : mfact (yX4_codeHere, cX4_codeHere, 1, (some FieldType.int), 0, 4, 0, 0) := ⟨by decide +kernel, mgd 772 (by decide +kernel) (by decide +kernel), mgd 153 (by decide +kernel) rfl, rfl, by decide, by decide +kernel, by decide +kernel, by decide +kernel⟩
theorem mf_99 : mfact (yX4_takeSizes, cX4_takeSizes, 2, (some FieldType.boolean), 0, 4, 0, 0) := ⟨by decide +kernel, mgd 777 (by decide +kernel) (by decide +kernel), mgd 153 (by decide +kernel) rfl, rfl, by decide, by decide +kernel, by decide +kernel, by decide +kernel⟩
theorem mf_100 : mfact (yX4_takeSign, cX4_takeSign, 2, (some FieldType.boolean), 1, 4, 0, 0) := ⟨by decide +kernel, mgd 781 (by decide +kernel) (by decide +kernel), mgd 153 (by decide +kernel) rfl, rfl, by decide, by decide +kernel, by decide +kernel, by decide +kernel⟩
theorem mf_101 : mfact (yX4_takeCreases, cX4_takeCreases, 2, (some FieldType.boolean), 0, 4, 0, 0) := ⟨by decide +kernel, mgd 785 (by decide +kernel) (by decide +kernel), mgd 153 (by decide +kernel) rfl, rfl, by decide, by decide +kernel, by decide +kernel, by decide +kernel⟩
theorem mf_102 : mfact (yX4_takeKind, cX4_takeKind, 2, (some FieldType.boolean), 0, 4, 0, 0) := ⟨by decide +kernel, mgd 789 (by decide +kernel) (by decide +kernel), mgd 153 (by decide +kernel) rfl, rfl, by decide, by decide +kernel, by decide +kernel, by decide +kernel⟩
theorem mf_103 : mfact (yX4_takePiece, cX4_takePiece, 1, (some FieldType.boolean), 0, 4, 0, 0) := ⟨by decide +kernel, mgd 793 (by decide +kernel) (by decide +kernel), mgd 153 (by decide +kernel) rfl, rfl, by decide, by decide +kernel, by decide +kernel, by decide +kernel⟩
theorem mf_104 : mfact (yX4_takeDigit, cX4_takeDigit, 1, (some FieldType.boolean), 0, 4, 0, 0) := ⟨by decide +kernel, mgd 797 (by decide +kernel) (by decide +kernel), mgd 153 (by decide +kernel) rfl, rfl, by decide, by decide +kernel, by decide +kernel, by decide +kernel⟩
theorem mf_105 : mfact (yX4_takeCrease, cX4_takeCrease, 1, (some FieldType.boolean), 0, 4, 0, 0) := ⟨by decide +kernel, mgd 801 (by decide +kernel) (by decide +kernel), mgd 153 (by decide +kernel) rfl, rfl, by decide, by decide +kernel, by decide +kernel, by decide +kernel⟩
theorem mf_106 : mfact (yX4_clear, cX4_clear, 1, none, 0, 4, 0, 0) := ⟨by decide +kernel, mgd 805 (by decide +kernel) (by decide +kernel), mgd 153 (by decide +kernel) rfl, rfl, by decide, by decide +kernel, by decide +kernel, by decide +kernel⟩
theorem mf_107 : mfact (yX6_perform, cX6_perform, 1, (some FieldType.int), 0, 6, 0, 0) := ⟨by decide +kernel, mgd 812 (by decide +kernel) (by decide +kernel), mgd 149 (by decide +kernel) rfl, rfl, by decide, by decide +kernel, by decide +kernel, by decide +kernel⟩
theorem mf_108 : mfact (yX6_withCreasesAsTold, cX6_withCreasesAsTold, 3, (some FieldType.int), 1, 6, 0, 0) := ⟨by decide +kernel, mgd 817 (by decide +kernel) (by decide +kernel), mgd 149 (by decide +kernel) rfl, rfl, by decide, by decide +kernel, by decide +kernel, by decide +kernel⟩
theorem mf_109 : mfact (yX6_refusal, cX6_refusal, 2, (some FieldType.int), 1, 6, 0, 0) := ⟨by decide +kernel, mgd 827 (by decide +kernel) (by decide +kernel), mgd 149 (by decide +kernel) rfl, rfl, by decide, by decide +kernel, by decide +kernel, by decide +kernel⟩
theorem mf_110 : mfact (yX6_account, cX6_account, 2, (some FieldType.int), 1, 6, 0, 0) := ⟨by decide +kernel, mgd 831 (by decide +kernel) (by decide +kernel), mgd 149 (by decide +kernel) rfl, rfl, by decide, by decide +kernel, by decide +kernel, by decide +kernel⟩
theorem mf_111 : mfact (yX5_countOfKind, cX5_countOfKind, 5, (some FieldType.int), 1, 5, 0, 0) := ⟨by decide +kernel, mgd 835 (by decide +kernel) (by decide +kernel), mgd 150 (by decide +kernel) rfl, rfl, by decide, by decide +kernel, by decide +kernel, by decide +kernel⟩
theorem mf_112 : mfact (yX5_foldedCount, cX5_foldedCount, 4, (some FieldType.int), 0, 5, 0, 0) := ⟨by decide +kernel, mgd 839 (by decide +kernel) (by decide +kernel), mgd 150 (by decide +kernel) rfl, rfl, by decide, by decide +kernel, by decide +kernel, by decide +kernel⟩
theorem mf_113 : mfact (yX5_panelCount, cX5_panelCount, 4, (some FieldType.int), 0, 5, 0, 0) := ⟨by decide +kernel, mgd 843 (by decide +kernel) (by decide +kernel), mgd 150 (by decide +kernel) rfl, rfl, by decide, by decide +kernel, by decide +kernel, by decide +kernel⟩
theorem mf_114 : mfact (yX5_creasesOf, cX5_creasesOf, 5, (some FieldType.int), 1, 5, 0, 0) := ⟨by decide +kernel, mgd 847 (by decide +kernel) (by decide +kernel), mgd 150 (by decide +kernel) rfl, rfl, by decide, by decide +kernel, by decide +kernel, by decide +kernel⟩
theorem mf_115 : mfact (yX6_share, cX6_share, 3, (some FieldType.int), 0, 6, 0, 0) := ⟨by decide +kernel, mgd 852 (by decide +kernel) (by decide +kernel), mgd 149 (by decide +kernel) rfl, rfl, by decide, by decide +kernel, by decide +kernel, by decide +kernel⟩
theorem mf_116 : mfact (yX6_bitsOf, cX6_bitsOf, 4, (some FieldType.int), 1, 6, 0, 0) := ⟨by decide +kernel, mgd 855 (by decide +kernel) (by decide +kernel), mgd 149 (by decide +kernel) rfl, rfl, by decide, by decide +kernel, by decide +kernel, by decide +kernel⟩
theorem mf_117 : mfact (yX6_undo, cX6_undo, 1, (some FieldType.int), 0, 6, 0, 0) := ⟨by decide +kernel, mgd 860 (by decide +kernel) (by decide +kernel), mgd 149 (by decide +kernel) rfl, rfl, by decide, by decide +kernel, by decide +kernel, by decide +kernel⟩
theorem mf_118 : mfact (yX0_pop, cX0_pop, 3, none, 1, 0, 0, 0) := ⟨by decide +kernel, mgd 864 (by decide +kernel) (by decide +kernel), mgd 152 (by decide +kernel) rfl, rfl, by decide, by decide +kernel, by decide +kernel, by decide +kernel⟩
theorem mf_119 : mfact (yX6_save, cX6_save, 1, (some FieldType.int), 0, 6, 0, 0) := ⟨by decide +kernel, mgd 868 (by decide +kernel) (by decide +kernel), mgd 149 (by decide +kernel) rfl, rfl, by decide, by decide +kernel, by decide +kernel, by decide +kernel⟩
theorem mt_3_ok : ∀ q ∈ mt_3, mfact q := List.forall_mem_cons.mpr ⟨mf_90, List.forall_mem_cons.mpr ⟨mf_91, List.forall_mem_cons.mpr ⟨mf_92, List.forall_mem_cons.mpr ⟨mf_93, List.forall_mem_cons.mpr ⟨mf_94, List.forall_mem_cons.mpr ⟨mf_95, List.forall_mem_cons.mpr ⟨mf_96, List.forall_mem_cons.mpr ⟨mf_97, List.forall_mem_cons.mpr ⟨mf_98, List.forall_mem_cons.mpr ⟨mf_99, List.forall_mem_cons.mpr ⟨mf_100, List.forall_mem_cons.mpr ⟨mf_101, List.forall_mem_cons.mpr ⟨mf_102, List.forall_mem_cons.mpr ⟨mf_103, List.forall_mem_cons.mpr ⟨mf_104, List.forall_mem_cons.mpr ⟨mf_105, List.forall_mem_cons.mpr ⟨mf_106, List.forall_mem_cons.mpr ⟨mf_107, List.forall_mem_cons.mpr ⟨mf_108, List.forall_mem_cons.mpr ⟨mf_109, List.forall_mem_cons.mpr ⟨mf_110, List.forall_mem_cons.mpr ⟨mf_111, List.forall_mem_cons.mpr ⟨mf_112, List.forall_mem_cons.mpr ⟨mf_113, List.forall_mem_cons.mpr ⟨mf_114, List.forall_mem_cons.mpr ⟨mf_115, List.forall_mem_cons.mpr ⟨mf_116, List.forall_mem_cons.mpr ⟨mf_117, List.forall_mem_cons.mpr ⟨mf_118, List.forall_mem_cons.mpr ⟨mf_119, fun _ h => absurd h List.not_mem_nil⟩⟩⟩⟩⟩⟩⟩⟩⟩⟩⟩⟩⟩⟩⟩⟩⟩⟩⟩⟩⟩⟩⟩⟩⟩⟩⟩⟩⟩⟩
def mt_4 : List (MethodName × ByteArray × Nat × Option FieldType × Nat × Nat × Nat × Nat) := [(yX6_restore, cX6_restore, 1, (some FieldType.int), 0, 6, 0, 0),
  (yX0_clear, cX0_clear, 1, none, 0, 0, 0, 0),
  (yX7_init, cX7_init, 1, none, 0, 7, 13, 1846),
  (yX7_add, cX7_add, 4, (some FieldType.int), 3, 7, 0, 0),
  (yX7_keeps, cX7_keeps, 1, none, 0, 7, 0, 0),
  (yX7_copies, cX7_copies, 5, none, 4, 7, 0, 0),
  (yX7_addsTold, cX7_addsTold, 5, (some FieldType.int), 3, 7, 0, 0),
  (yX7_isIn, cX7_isIn, 3, (some FieldType.boolean), 3, 7, 0, 0),
  (yX7_laysSizes, cX7_laysSizes, 6, (some FieldType.int), 1, 7, 0, 0),
  (yX7_digits, cX7_digits, 3, (some FieldType.int), 1, 7, 0, 0),
  (yX7_areSizes, cX7_areSizes, 3, (some FieldType.boolean), 2, 7, 0, 0),
  (yX7_sumOfNew, cX7_sumOfNew, 4, (some FieldType.int), 1, 7, 0, 0),
  (yX7_laysCreases, cX7_laysCreases, 6, (some FieldType.boolean), 2, 7, 0, 0),
  (yX7_adds, cX7_adds, 5, (some FieldType.int), 2, 7, 0, 0),
  (yX7_refuses, cX7_refuses, 3, (some FieldType.int), 2, 7, 0, 0),
  (yX7_at, cX7_at, 2, (some FieldType.int), 2, 7, 0, 0),
  (yX7_creases, cX7_creases, 2, (some FieldType.int), 1, 7, 0, 0),
  (yX7_of, cX7_of, 3, (some FieldType.int), 2, 7, 0, 0),
  (yX7_isCorner, cX7_isCorner, 2, (some FieldType.boolean), 1, 7, 0, 0),
  (yX7_ends, cX7_ends, 2, (some FieldType.int), 1, 7, 0, 0),
  (yX7_changed, cX7_changed, 2, none, 0, 7, 0, 0),
  (yX7_mark, cX7_mark, 4, (some FieldType.int), 3, 7, 0, 0),
  (yX7_marks, cX7_marks, 5, (some FieldType.int), 3, 7, 0, 0),
  (yX7_isCrease, cX7_isCrease, 3, (some FieldType.boolean), 2, 7, 0, 0),
  (yX7_isPiece, cX7_isPiece, 2, (some FieldType.boolean), 1, 7, 0, 0),
  (yX7_isFolded, cX7_isFolded, 2, (some FieldType.boolean), 1, 7, 0, 0),
  (yX7_creaseOf, cX7_creaseOf, 3, (some FieldType.int), 2, 7, 0, 0),
  (yX7_turn, cX7_turn, 2, (some FieldType.int), 1, 7, 0, 0),
  (yX7_turns, cX7_turns, 4, (some FieldType.int), 1, 7, 0, 0),
  (yX7_countOf, cX7_countOf, 5, (some FieldType.int), 2, 7, 0, 0)]
theorem mf_120 : mfact (yX6_restore, cX6_restore, 1, (some FieldType.int), 0, 6, 0, 0) := ⟨by decide +kernel, mgd 872 (by decide +kernel) (by decide +kernel), mgd 149 (by decide +kernel) rfl, rfl, by decide, by decide +kernel, by decide +kernel, by decide +kernel⟩
theorem mf_121 : mfact (yX0_clear, cX0_clear, 1, none, 0, 0, 0, 0) := ⟨by decide +kernel, mgd 876 (by decide +kernel) (by decide +kernel), mgd 152 (by decide +kernel) rfl, rfl, by decide, by decide +kernel, by decide +kernel, by decide +kernel⟩
theorem mf_122 : mfact (yX7_init, cX7_init, 1, none, 0, 7, 13, 1846) := ⟨by decide +kernel, mgd 881 (by decide +kernel) (by decide +kernel), mgd 156 (by decide +kernel) rfl, rfl, by decide, by decide +kernel, by decide +kernel, by decide +kernel⟩
theorem mf_123 : mfact (yX7_add, cX7_add, 4, (some FieldType.int), 3, 7, 0, 0) := ⟨by decide +kernel, mgd 978 (by decide +kernel) (by decide +kernel), mgd 156 (by decide +kernel) rfl, rfl, by decide, by decide +kernel, by decide +kernel, by decide +kernel⟩
theorem mf_124 : mfact (yX7_keeps, cX7_keeps, 1, none, 0, 7, 0, 0) := ⟨by decide +kernel, mgd 982 (by decide +kernel) (by decide +kernel), mgd 156 (by decide +kernel) rfl, rfl, by decide, by decide +kernel, by decide +kernel, by decide +kernel⟩
theorem mf_125 : mfact (yX7_copies, cX7_copies, 5, none, 4, 7, 0, 0) := ⟨by decide +kernel, mgd 985 (by decide +kernel) (by decide +kernel), mgd 156 (by decide +kernel) rfl, rfl, by decide, by decide +kernel, by decide +kernel, by decide +kernel⟩
theorem mf_126 : mfact (yX7_addsTold, cX7_addsTold, 5, (some FieldType.int), 3, 7, 0, 0) := ⟨by decide +kernel, mgd 989 (by decide +kernel) (by decide +kernel), mgd 156 (by decide +kernel) rfl, rfl, by decide, by decide +kernel, by decide +kernel, by decide +kernel⟩
theorem mf_127 : mfact (yX7_isIn, cX7_isIn, 3, (some FieldType.boolean), 3, 7, 0, 0) := ⟨by decide +kernel, mgd 992 (by decide +kernel) (by decide +kernel), mgd 156 (by decide +kernel) rfl, rfl, by decide, by decide +kernel, by decide +kernel, by decide +kernel⟩
theorem mf_128 : mfact (yX7_laysSizes, cX7_laysSizes, 6, (some FieldType.int), 1, 7, 0, 0) := ⟨by decide +kernel, mgd 996 (by decide +kernel) (by decide +kernel), mgd 156 (by decide +kernel) rfl, rfl, by decide, by decide +kernel, by decide +kernel, by decide +kernel⟩
theorem mf_129 : mfact (yX7_digits, cX7_digits, 3, (some FieldType.int), 1, 7, 0, 0) := ⟨by decide +kernel, mgd 999 (by decide +kernel) (by decide +kernel), mgd 156 (by decide +kernel) rfl, rfl, by decide, by decide +kernel, by decide +kernel, by decide +kernel⟩
theorem mf_130 : mfact (yX7_areSizes, cX7_areSizes, 3, (some FieldType.boolean), 2, 7, 0, 0) := ⟨by decide +kernel, mgd 1003 (by decide +kernel) (by decide +kernel), mgd 156 (by decide +kernel) rfl, rfl, by decide, by decide +kernel, by decide +kernel, by decide +kernel⟩
theorem mf_131 : mfact (yX7_sumOfNew, cX7_sumOfNew, 4, (some FieldType.int), 1, 7, 0, 0) := ⟨by decide +kernel, mgd 1007 (by decide +kernel) (by decide +kernel), mgd 156 (by decide +kernel) rfl, rfl, by decide, by decide +kernel, by decide +kernel, by decide +kernel⟩
theorem mf_132 : mfact (yX7_laysCreases, cX7_laysCreases, 6, (some FieldType.boolean), 2, 7, 0, 0) := ⟨by decide +kernel, mgd 1011 (by decide +kernel) (by decide +kernel), mgd 156 (by decide +kernel) rfl, rfl, by decide, by decide +kernel, by decide +kernel, by decide +kernel⟩
theorem mf_133 : mfact (yX7_adds, cX7_adds, 5, (some FieldType.int), 2, 7, 0, 0) := ⟨by decide +kernel, mgd 1015 (by decide +kernel) (by decide +kernel), mgd 156 (by decide +kernel) rfl, rfl, by decide, by decide +kernel, by decide +kernel, by decide +kernel⟩
theorem mf_134 : mfact (yX7_refuses, cX7_refuses, 3, (some FieldType.int), 2, 7, 0, 0) := ⟨by decide +kernel, mgd 1019 (by decide +kernel) (by decide +kernel), mgd 156 (by decide +kernel) rfl, rfl, by decide, by decide +kernel, by decide +kernel, by decide +kernel⟩
theorem mf_135 : mfact (yX7_at, cX7_at, 2, (some FieldType.int), 2, 7, 0, 0) := ⟨by decide +kernel, mgd 1022 (by decide +kernel) (by decide +kernel), mgd 156 (by decide +kernel) rfl, rfl, by decide, by decide +kernel, by decide +kernel, by decide +kernel⟩
theorem mf_136 : mfact (yX7_creases, cX7_creases, 2, (some FieldType.int), 1, 7, 0, 0) := ⟨by decide +kernel, mgd 1026 (by decide +kernel) (by decide +kernel), mgd 156 (by decide +kernel) rfl, rfl, by decide, by decide +kernel, by decide +kernel, by decide +kernel⟩
theorem mf_137 : mfact (yX7_of, cX7_of, 3, (some FieldType.int), 2, 7, 0, 0) := ⟨by decide +kernel, mgd 1030 (by decide +kernel) (by decide +kernel), mgd 156 (by decide +kernel) rfl, rfl, by decide, by decide +kernel, by decide +kernel, by decide +kernel⟩
theorem mf_138 : mfact (yX7_isCorner, cX7_isCorner, 2, (some FieldType.boolean), 1, 7, 0, 0) := ⟨by decide +kernel, mgd 1034 (by decide +kernel) (by decide +kernel), mgd 156 (by decide +kernel) rfl, rfl, by decide, by decide +kernel, by decide +kernel, by decide +kernel⟩
theorem mf_139 : mfact (yX7_ends, cX7_ends, 2, (some FieldType.int), 1, 7, 0, 0) := ⟨by decide +kernel, mgd 1038 (by decide +kernel) (by decide +kernel), mgd 156 (by decide +kernel) rfl, rfl, by decide, by decide +kernel, by decide +kernel, by decide +kernel⟩
theorem mf_140 : mfact (yX7_changed, cX7_changed, 2, none, 0, 7, 0, 0) := ⟨by decide +kernel, mgd 1042 (by decide +kernel) (by decide +kernel), mgd 156 (by decide +kernel) rfl, rfl, by decide, by decide +kernel, by decide +kernel, by decide +kernel⟩
theorem mf_141 : mfact (yX7_mark, cX7_mark, 4, (some FieldType.int), 3, 7, 0, 0) := ⟨by decide +kernel, mgd 1046 (by decide +kernel) (by decide +kernel), mgd 156 (by decide +kernel) rfl, rfl, by decide, by decide +kernel, by decide +kernel, by decide +kernel⟩
theorem mf_142 : mfact (yX7_marks, cX7_marks, 5, (some FieldType.int), 3, 7, 0, 0) := ⟨by decide +kernel, mgd 1050 (by decide +kernel) (by decide +kernel), mgd 156 (by decide +kernel) rfl, rfl, by decide, by decide +kernel, by decide +kernel, by decide +kernel⟩
theorem mf_143 : mfact (yX7_isCrease, cX7_isCrease, 3, (some FieldType.boolean), 2, 7, 0, 0) := ⟨by decide +kernel, mgd 1054 (by decide +kernel) (by decide +kernel), mgd 156 (by decide +kernel) rfl, rfl, by decide, by decide +kernel, by decide +kernel, by decide +kernel⟩
theorem mf_144 : mfact (yX7_isPiece, cX7_isPiece, 2, (some FieldType.boolean), 1, 7, 0, 0) := ⟨by decide +kernel, mgd 1058 (by decide +kernel) (by decide +kernel), mgd 156 (by decide +kernel) rfl, rfl, by decide, by decide +kernel, by decide +kernel, by decide +kernel⟩
theorem mf_145 : mfact (yX7_isFolded, cX7_isFolded, 2, (some FieldType.boolean), 1, 7, 0, 0) := ⟨by decide +kernel, mgd 1062 (by decide +kernel) (by decide +kernel), mgd 156 (by decide +kernel) rfl, rfl, by decide, by decide +kernel, by decide +kernel, by decide +kernel⟩
theorem mf_146 : mfact (yX7_creaseOf, cX7_creaseOf, 3, (some FieldType.int), 2, 7, 0, 0) := ⟨by decide +kernel, mgd 1066 (by decide +kernel) (by decide +kernel), mgd 156 (by decide +kernel) rfl, rfl, by decide, by decide +kernel, by decide +kernel, by decide +kernel⟩
theorem mf_147 : mfact (yX7_turn, cX7_turn, 2, (some FieldType.int), 1, 7, 0, 0) := ⟨by decide +kernel, mgd 1070 (by decide +kernel) (by decide +kernel), mgd 156 (by decide +kernel) rfl, rfl, by decide, by decide +kernel, by decide +kernel, by decide +kernel⟩
theorem mf_148 : mfact (yX7_turns, cX7_turns, 4, (some FieldType.int), 1, 7, 0, 0) := ⟨by decide +kernel, mgd 1074 (by decide +kernel) (by decide +kernel), mgd 156 (by decide +kernel) rfl, rfl, by decide, by decide +kernel, by decide +kernel, by decide +kernel⟩
theorem mf_149 : mfact (yX7_countOf, cX7_countOf, 5, (some FieldType.int), 2, 7, 0, 0) := ⟨by decide +kernel, mgd 1078 (by decide +kernel) (by decide +kernel), mgd 156 (by decide +kernel) rfl, rfl, by decide, by decide +kernel, by decide +kernel, by decide +kernel⟩
theorem mt_4_ok : ∀ q ∈ mt_4, mfact q := List.forall_mem_cons.mpr ⟨mf_120, List.forall_mem_cons.mpr ⟨mf_121, List.forall_mem_cons.mpr ⟨mf_122, List.forall_mem_cons.mpr ⟨mf_123, List.forall_mem_cons.mpr ⟨mf_124, List.forall_mem_cons.mpr ⟨mf_125, List.forall_mem_cons.mpr ⟨mf_126, List.forall_mem_cons.mpr ⟨mf_127, List.forall_mem_cons.mpr ⟨mf_128, List.forall_mem_cons.mpr ⟨mf_129, List.forall_mem_cons.mpr ⟨mf_130, List.forall_mem_cons.mpr ⟨mf_131, List.forall_mem_cons.mpr ⟨mf_132, List.forall_mem_cons.mpr ⟨mf_133, List.forall_mem_cons.mpr ⟨mf_134, List.forall_mem_cons.mpr ⟨mf_135, List.forall_mem_cons.mpr ⟨mf_136, List.forall_mem_cons.mpr ⟨mf_137, List.forall_mem_cons.mpr ⟨mf_138, List.forall_mem_cons.mpr ⟨mf_139, List.forall_mem_cons.mpr ⟨mf_140, List.forall_mem_cons.mpr ⟨mf_141, List.forall_mem_cons.mpr ⟨mf_142, List.forall_mem_cons.mpr ⟨mf_143, List.forall_mem_cons.mpr ⟨mf_144, List.forall_mem_cons.mpr ⟨mf_145, List.forall_mem_cons.mpr ⟨mf_146, List.forall_mem_cons.mpr ⟨mf_147, List.forall_mem_cons.mpr ⟨mf_148, List.forall_mem_cons.mpr ⟨mf_149, fun _ h => absurd h List.not_mem_nil⟩⟩⟩⟩⟩⟩⟩⟩⟩⟩⟩⟩⟩⟩⟩⟩⟩⟩⟩⟩⟩⟩⟩⟩⟩⟩⟩⟩⟩⟩
def mt_5 : List (MethodName × ByteArray × Nat × Option FieldType × Nat × Nat × Nat × Nat) := [(yX7_rotate, cX7_rotate, 3, (some FieldType.int), 2, 7, 0, 0),
  (yX7_rotates, cX7_rotates, 6, (some FieldType.int), 2, 7, 0, 0),
  (yX7_sizeOf, cX7_sizeOf, 3, (some FieldType.int), 2, 7, 0, 0),
  (yX7_join, cX7_join, 4, (some FieldType.int), 3, 7, 0, 0),
  (yX7_joins, cX7_joins, 7, (some FieldType.int), 3, 7, 0, 0),
  (yX7_goes, cX7_goes, 3, none, 1, 7, 0, 0),
  (yX7_cut, cX7_cut, 3, (some FieldType.int), 2, 7, 0, 0),
  (yX7_cuts, cX7_cuts, 7, (some FieldType.int), 2, 7, 0, 0),
  (yX7_lesser, cX7_lesser, 2, (some FieldType.int), 2, 7, 0, 0),
  (yX7_why, cX7_why, 2, (some FieldType.int), 1, 7, 0, 0),
  (yX7_whyNot, cX7_whyNot, 3, (some FieldType.int), 1, 7, 0, 0),
  (yX7_evenAngles, cX7_evenAngles, 4, (some FieldType.int), 1, 7, 0, 0),
  (yX7_hasSharp, cX7_hasSharp, 6, (some FieldType.boolean), 1, 7, 0, 0),
  (yX7_foldsNow, cX7_foldsNow, 2, (some FieldType.boolean), 1, 7, 0, 0),
  (yX7_lays, cX7_lays, 3, none, 1, 7, 0, 0),
  (yX7_folds, cX7_folds, 2, (some FieldType.boolean), 0, 7, 0, 0),
  (yX7_reduces, cX7_reduces, 3, (some FieldType.int), 0, 7, 0, 0),
  (yX7_stepNow, cX7_stepNow, 2, (some FieldType.int), 0, 7, 0, 0),
  (yX7_crimped, cX7_crimped, 6, (some FieldType.int), 0, 7, 0, 0),
  (yX7_makes, cX7_makes, 2, none, 1, 7, 0, 0),
  (yX7_dropsSize, cX7_dropsSize, 3, none, 1, 7, 0, 0),
  (yX7_dropsCrease, cX7_dropsCrease, 3, none, 1, 7, 0, 0),
  (yX7_crimpsCorner, cX7_crimpsCorner, 6, none, 1, 7, 0, 0),
  (yX7_greater, cX7_greater, 2, (some FieldType.int), 2, 7, 0, 0),
  (yX7_crimpsStrip, cX7_crimpsStrip, 2, none, 1, 7, 0, 0),
  (yX7_step, cX7_step, 3, (some FieldType.int), 1, 7, 0, 0),
  (yX7_steps, cX7_steps, 2, (some FieldType.int), 1, 7, 0, 0),
  (yX7_ways, cX7_ways, 4, (some FieldType.int), 1, 7, 0, 0),
  (yX7_otherwise, cX7_otherwise, 6, (some FieldType.int), 2, 7, 0, 0),
  (yX7_foldsBy, cX7_foldsBy, 3, (some FieldType.boolean), 2, 7, 0, 0)]
theorem mf_150 : mfact (yX7_rotate, cX7_rotate, 3, (some FieldType.int), 2, 7, 0, 0) := ⟨by decide +kernel, mgd 1082 (by decide +kernel) (by decide +kernel), mgd 156 (by decide +kernel) rfl, rfl, by decide, by decide +kernel, by decide +kernel, by decide +kernel⟩
theorem mf_151 : mfact (yX7_rotates, cX7_rotates, 6, (some FieldType.int), 2, 7, 0, 0) := ⟨by decide +kernel, mgd 1086 (by decide +kernel) (by decide +kernel), mgd 156 (by decide +kernel) rfl, rfl, by decide, by decide +kernel, by decide +kernel, by decide +kernel⟩
theorem mf_152 : mfact (yX7_sizeOf, cX7_sizeOf, 3, (some FieldType.int), 2, 7, 0, 0) := ⟨by decide +kernel, mgd 1090 (by decide +kernel) (by decide +kernel), mgd 156 (by decide +kernel) rfl, rfl, by decide, by decide +kernel, by decide +kernel, by decide +kernel⟩
theorem mf_153 : mfact (yX7_join, cX7_join, 4, (some FieldType.int), 3, 7, 0, 0) := ⟨by decide +kernel, mgd 1094 (by decide +kernel) (by decide +kernel), mgd 156 (by decide +kernel) rfl, rfl, by decide, by decide +kernel, by decide +kernel, by decide +kernel⟩
theorem mf_154 : mfact (yX7_joins, cX7_joins, 7, (some FieldType.int), 3, 7, 0, 0) := ⟨by decide +kernel, mgd 1098 (by decide +kernel) (by decide +kernel), mgd 156 (by decide +kernel) rfl, rfl, by decide, by decide +kernel, by decide +kernel, by decide +kernel⟩
theorem mf_155 : mfact (yX7_goes, cX7_goes, 3, none, 1, 7, 0, 0) := ⟨by decide +kernel, mgd 1102 (by decide +kernel) (by decide +kernel), mgd 156 (by decide +kernel) rfl, rfl, by decide, by decide +kernel, by decide +kernel, by decide +kernel⟩
theorem mf_156 : mfact (yX7_cut, cX7_cut, 3, (some FieldType.int), 2, 7, 0, 0) := ⟨by decide +kernel, mgd 1106 (by decide +kernel) (by decide +kernel), mgd 156 (by decide +kernel) rfl, rfl, by decide, by decide +kernel, by decide +kernel, by decide +kernel⟩
theorem mf_157 : mfact (yX7_cuts, cX7_cuts, 7, (some FieldType.int), 2, 7, 0, 0) := ⟨by decide +kernel, mgd 1110 (by decide +kernel) (by decide +kernel), mgd 156 (by decide +kernel) rfl, rfl, by decide, by decide +kernel, by decide +kernel, by decide +kernel⟩
theorem mf_158 : mfact (yX7_lesser, cX7_lesser, 2, (some FieldType.int), 2, 7, 0, 0) := ⟨by decide +kernel, mgd 1113 (by decide +kernel) (by decide +kernel), mgd 156 (by decide +kernel) rfl, rfl, by decide, by decide +kernel, by decide +kernel, by decide +kernel⟩
theorem mf_159 : mfact (yX7_why, cX7_why, 2, (some FieldType.int), 1, 7, 0, 0) := ⟨by decide +kernel, mgd 1117 (by decide +kernel) (by decide +kernel), mgd 156 (by decide +kernel) rfl, rfl, by decide, by decide +kernel, by decide +kernel, by decide +kernel⟩
theorem mf_160 : mfact (yX7_whyNot, cX7_whyNot, 3, (some FieldType.int), 1, 7, 0, 0) := ⟨by decide +kernel, mgd 1121 (by decide +kernel) (by decide +kernel), mgd 156 (by decide +kernel) rfl, rfl, by decide, by decide +kernel, by decide +kernel, by decide +kernel⟩
theorem mf_161 : mfact (yX7_evenAngles, cX7_evenAngles, 4, (some FieldType.int), 1, 7, 0, 0) := ⟨by decide +kernel, mgd 1125 (by decide +kernel) (by decide +kernel), mgd 156 (by decide +kernel) rfl, rfl, by decide, by decide +kernel, by decide +kernel, by decide +kernel⟩
theorem mf_162 : mfact (yX7_hasSharp, cX7_hasSharp, 6, (some FieldType.boolean), 1, 7, 0, 0) := ⟨by decide +kernel, mgd 1129 (by decide +kernel) (by decide +kernel), mgd 156 (by decide +kernel) rfl, rfl, by decide, by decide +kernel, by decide +kernel, by decide +kernel⟩
theorem mf_163 : mfact (yX7_foldsNow, cX7_foldsNow, 2, (some FieldType.boolean), 1, 7, 0, 0) := ⟨by decide +kernel, mgd 1133 (by decide +kernel) (by decide +kernel), mgd 156 (by decide +kernel) rfl, rfl, by decide, by decide +kernel, by decide +kernel, by decide +kernel⟩
theorem mf_164 : mfact (yX7_lays, cX7_lays, 3, none, 1, 7, 0, 0) := ⟨by decide +kernel, mgd 1137 (by decide +kernel) (by decide +kernel), mgd 156 (by decide +kernel) rfl, rfl, by decide, by decide +kernel, by decide +kernel, by decide +kernel⟩
theorem mf_165 : mfact (yX7_folds, cX7_folds, 2, (some FieldType.boolean), 0, 7, 0, 0) := ⟨by decide +kernel, mgd 1141 (by decide +kernel) (by decide +kernel), mgd 156 (by decide +kernel) rfl, rfl, by decide, by decide +kernel, by decide +kernel, by decide +kernel⟩
theorem mf_166 : mfact (yX7_reduces, cX7_reduces, 3, (some FieldType.int), 0, 7, 0, 0) := ⟨by decide +kernel, mgd 1145 (by decide +kernel) (by decide +kernel), mgd 156 (by decide +kernel) rfl, rfl, by decide, by decide +kernel, by decide +kernel, by decide +kernel⟩
theorem mf_167 : mfact (yX7_stepNow, cX7_stepNow, 2, (some FieldType.int), 0, 7, 0, 0) := ⟨by decide +kernel, mgd 1149 (by decide +kernel) (by decide +kernel), mgd 156 (by decide +kernel) rfl, rfl, by decide, by decide +kernel, by decide +kernel, by decide +kernel⟩
theorem mf_168 : mfact (yX7_crimped, cX7_crimped, 6, (some FieldType.int), 0, 7, 0, 0) := ⟨by decide +kernel, mgd 1153 (by decide +kernel) (by decide +kernel), mgd 156 (by decide +kernel) rfl, rfl, by decide, by decide +kernel, by decide +kernel, by decide +kernel⟩
theorem mf_169 : mfact (yX7_makes, cX7_makes, 2, none, 1, 7, 0, 0) := ⟨by decide +kernel, mgd 1157 (by decide +kernel) (by decide +kernel), mgd 156 (by decide +kernel) rfl, rfl, by decide, by decide +kernel, by decide +kernel, by decide +kernel⟩
theorem mf_170 : mfact (yX7_dropsSize, cX7_dropsSize, 3, none, 1, 7, 0, 0) := ⟨by decide +kernel, mgd 1161 (by decide +kernel) (by decide +kernel), mgd 156 (by decide +kernel) rfl, rfl, by decide, by decide +kernel, by decide +kernel, by decide +kernel⟩
theorem mf_171 : mfact (yX7_dropsCrease, cX7_dropsCrease, 3, none, 1, 7, 0, 0) := ⟨by decide +kernel, mgd 1165 (by decide +kernel) (by decide +kernel), mgd 156 (by decide +kernel) rfl, rfl, by decide, by decide +kernel, by decide +kernel, by decide +kernel⟩
theorem mf_172 : mfact (yX7_crimpsCorner, cX7_crimpsCorner, 6, none, 1, 7, 0, 0) := ⟨by decide +kernel, mgd 1169 (by decide +kernel) (by decide +kernel), mgd 156 (by decide +kernel) rfl, rfl, by decide, by decide +kernel, by decide +kernel, by decide +kernel⟩
theorem mf_173 : mfact (yX7_greater, cX7_greater, 2, (some FieldType.int), 2, 7, 0, 0) := ⟨by decide +kernel, mgd 1172 (by decide +kernel) (by decide +kernel), mgd 156 (by decide +kernel) rfl, rfl, by decide, by decide +kernel, by decide +kernel, by decide +kernel⟩
theorem mf_174 : mfact (yX7_crimpsStrip, cX7_crimpsStrip, 2, none, 1, 7, 0, 0) := ⟨by decide +kernel, mgd 1176 (by decide +kernel) (by decide +kernel), mgd 156 (by decide +kernel) rfl, rfl, by decide, by decide +kernel, by decide +kernel, by decide +kernel⟩
theorem mf_175 : mfact (yX7_step, cX7_step, 3, (some FieldType.int), 1, 7, 0, 0) := ⟨by decide +kernel, mgd 1180 (by decide +kernel) (by decide +kernel), mgd 156 (by decide +kernel) rfl, rfl, by decide, by decide +kernel, by decide +kernel, by decide +kernel⟩
theorem mf_176 : mfact (yX7_steps, cX7_steps, 2, (some FieldType.int), 1, 7, 0, 0) := ⟨by decide +kernel, mgd 1184 (by decide +kernel) (by decide +kernel), mgd 156 (by decide +kernel) rfl, rfl, by decide, by decide +kernel, by decide +kernel, by decide +kernel⟩
theorem mf_177 : mfact (yX7_ways, cX7_ways, 4, (some FieldType.int), 1, 7, 0, 0) := ⟨by decide +kernel, mgd 1188 (by decide +kernel) (by decide +kernel), mgd 156 (by decide +kernel) rfl, rfl, by decide, by decide +kernel, by decide +kernel, by decide +kernel⟩
theorem mf_178 : mfact (yX7_otherwise, cX7_otherwise, 6, (some FieldType.int), 2, 7, 0, 0) := ⟨by decide +kernel, mgd 1192 (by decide +kernel) (by decide +kernel), mgd 156 (by decide +kernel) rfl, rfl, by decide, by decide +kernel, by decide +kernel, by decide +kernel⟩
theorem mf_179 : mfact (yX7_foldsBy, cX7_foldsBy, 3, (some FieldType.boolean), 2, 7, 0, 0) := ⟨by decide +kernel, mgd 1196 (by decide +kernel) (by decide +kernel), mgd 156 (by decide +kernel) rfl, rfl, by decide, by decide +kernel, by decide +kernel, by decide +kernel⟩
theorem mt_5_ok : ∀ q ∈ mt_5, mfact q := List.forall_mem_cons.mpr ⟨mf_150, List.forall_mem_cons.mpr ⟨mf_151, List.forall_mem_cons.mpr ⟨mf_152, List.forall_mem_cons.mpr ⟨mf_153, List.forall_mem_cons.mpr ⟨mf_154, List.forall_mem_cons.mpr ⟨mf_155, List.forall_mem_cons.mpr ⟨mf_156, List.forall_mem_cons.mpr ⟨mf_157, List.forall_mem_cons.mpr ⟨mf_158, List.forall_mem_cons.mpr ⟨mf_159, List.forall_mem_cons.mpr ⟨mf_160, List.forall_mem_cons.mpr ⟨mf_161, List.forall_mem_cons.mpr ⟨mf_162, List.forall_mem_cons.mpr ⟨mf_163, List.forall_mem_cons.mpr ⟨mf_164, List.forall_mem_cons.mpr ⟨mf_165, List.forall_mem_cons.mpr ⟨mf_166, List.forall_mem_cons.mpr ⟨mf_167, List.forall_mem_cons.mpr ⟨mf_168, List.forall_mem_cons.mpr ⟨mf_169, List.forall_mem_cons.mpr ⟨mf_170, List.forall_mem_cons.mpr ⟨mf_171, List.forall_mem_cons.mpr ⟨mf_172, List.forall_mem_cons.mpr ⟨mf_173, List.forall_mem_cons.mpr ⟨mf_174, List.forall_mem_cons.mpr ⟨mf_175, List.forall_mem_cons.mpr ⟨mf_176, List.forall_mem_cons.mpr ⟨mf_177, List.forall_mem_cons.mpr ⟨mf_178, List.forall_mem_cons.mpr ⟨mf_179, fun _ h => absurd h List.not_mem_nil⟩⟩⟩⟩⟩⟩⟩⟩⟩⟩⟩⟩⟩⟩⟩⟩⟩⟩⟩⟩⟩⟩⟩⟩⟩⟩⟩⟩⟩⟩
def mt_6 : List (MethodName × ByteArray × Nat × Option FieldType × Nat × Nat × Nat × Nat) := [(yX7_laysBy, cX7_laysBy, 4, none, 2, 7, 0, 0),
  (yX7_fewest, cX7_fewest, 5, (some FieldType.int), 1, 7, 0, 0),
  (yX7_stage, cX7_stage, 2, (some FieldType.int), 1, 7, 0, 0),
  (yX7_stages, cX7_stages, 3, (some FieldType.int), 1, 7, 0, 0),
  (yX7_used, cX7_used, 3, (some FieldType.int), 0, 7, 0, 0),
  (yX7_widthOf, cX7_widthOf, 5, (some FieldType.int), 1, 7, 0, 0),
  (yX7_placeOf, cX7_placeOf, 5, (some FieldType.int), 2, 7, 0, 0),
  (yX7_fold, cX7_fold, 2, (some FieldType.int), 1, 7, 0, 0),
  (yX7_foldsOnStage, cX7_foldsOnStage, 4, (some FieldType.int), 1, 7, 0, 0),
  (yX7_lowestOpen, cX7_lowestOpen, 3, (some FieldType.int), 1, 7, 0, 0),
  (yX7_unfold, cX7_unfold, 2, (some FieldType.int), 1, 7, 0, 0),
  (yX7_unfolds, cX7_unfolds, 2, (some FieldType.int), 1, 7, 0, 0),
  (yX7_drop, cX7_drop, 2, (some FieldType.int), 1, 7, 0, 0),
  (yX7_drops, cX7_drops, 2, (some FieldType.int), 1, 7, 0, 0),
  (yX7_piece, cX7_piece, 3, (some FieldType.int), 2, 7, 0, 0),
  (yX7_sumOf, cX7_sumOf, 4, (some FieldType.int), 1, 7, 0, 0),
  (yX7_size, cX7_size, 3, (some FieldType.int), 2, 7, 0, 0),
  (yX7_crease, cX7_crease, 3, (some FieldType.int), 2, 7, 0, 0),
  (yX7_foldsAgain, cX7_foldsAgain, 3, (some FieldType.int), 1, 7, 0, 0),
  (yX7_wrongStrip, cX7_wrongStrip, 2, (some FieldType.int), 1, 7, 0, 0),
  (yX7_ordersOf, cX7_ordersOf, 3, (some FieldType.int), 1, 7, 0, 0),
  (yX7_gives, cX7_gives, 3, none, 1, 7, 0, 0),
  (yX7_isPossible, cX7_isPossible, 2, (some FieldType.boolean), 0, 7, 0, 0),
  (yX7_collides, cX7_collides, 4, (some FieldType.boolean), 1, 7, 0, 0),
  (yX7_reachesOver, cX7_reachesOver, 3, (some FieldType.boolean), 2, 7, 0, 0),
  (yX7_isBetween, cX7_isBetween, 5, (some FieldType.boolean), 2, 7, 0, 0),
  (yX7_isAbove, cX7_isAbove, 2, (some FieldType.boolean), 1, 7, 0, 0),
  (yX7_orders, cX7_orders, 3, (some FieldType.int), 1, 7, 0, 0),
  (yX7_layer, cX7_layer, 4, (some FieldType.int), 2, 7, 0, 0),
  (yX7_isStripWithout, cX7_isStripWithout, 4, (some FieldType.boolean), 3, 7, 0, 0)]
theorem mf_180 : mfact (yX7_laysBy, cX7_laysBy, 4, none, 2, 7, 0, 0) := ⟨by decide +kernel, mgd 1200 (by decide +kernel) (by decide +kernel), mgd 156 (by decide +kernel) rfl, rfl, by decide, by decide +kernel, by decide +kernel, by decide +kernel⟩
theorem mf_181 : mfact (yX7_fewest, cX7_fewest, 5, (some FieldType.int), 1, 7, 0, 0) := ⟨by decide +kernel, mgd 1204 (by decide +kernel) (by decide +kernel), mgd 156 (by decide +kernel) rfl, rfl, by decide, by decide +kernel, by decide +kernel, by decide +kernel⟩
theorem mf_182 : mfact (yX7_stage, cX7_stage, 2, (some FieldType.int), 1, 7, 0, 0) := ⟨by decide +kernel, mgd 1208 (by decide +kernel) (by decide +kernel), mgd 156 (by decide +kernel) rfl, rfl, by decide, by decide +kernel, by decide +kernel, by decide +kernel⟩
theorem mf_183 : mfact (yX7_stages, cX7_stages, 3, (some FieldType.int), 1, 7, 0, 0) := ⟨by decide +kernel, mgd 1212 (by decide +kernel) (by decide +kernel), mgd 156 (by decide +kernel) rfl, rfl, by decide, by decide +kernel, by decide +kernel, by decide +kernel⟩
theorem mf_184 : mfact (yX7_used, cX7_used, 3, (some FieldType.int), 0, 7, 0, 0) := ⟨by decide +kernel, mgd 1216 (by decide +kernel) (by decide +kernel), mgd 156 (by decide +kernel) rfl, rfl, by decide, by decide +kernel, by decide +kernel, by decide +kernel⟩
theorem mf_185 : mfact (yX7_widthOf, cX7_widthOf, 5, (some FieldType.int), 1, 7, 0, 0) := ⟨by decide +kernel, mgd 1220 (by decide +kernel) (by decide +kernel), mgd 156 (by decide +kernel) rfl, rfl, by decide, by decide +kernel, by decide +kernel, by decide +kernel⟩
theorem mf_186 : mfact (yX7_placeOf, cX7_placeOf, 5, (some FieldType.int), 2, 7, 0, 0) := ⟨by decide +kernel, mgd 1224 (by decide +kernel) (by decide +kernel), mgd 156 (by decide +kernel) rfl, rfl, by decide, by decide +kernel, by decide +kernel, by decide +kernel⟩
theorem mf_187 : mfact (yX7_fold, cX7_fold, 2, (some FieldType.int), 1, 7, 0, 0) := ⟨by decide +kernel, mgd 1228 (by decide +kernel) (by decide +kernel), mgd 156 (by decide +kernel) rfl, rfl, by decide, by decide +kernel, by decide +kernel, by decide +kernel⟩
theorem mf_188 : mfact (yX7_foldsOnStage, cX7_foldsOnStage, 4, (some FieldType.int), 1, 7, 0, 0) := ⟨by decide +kernel, mgd 1232 (by decide +kernel) (by decide +kernel), mgd 156 (by decide +kernel) rfl, rfl, by decide, by decide +kernel, by decide +kernel, by decide +kernel⟩
theorem mf_189 : mfact (yX7_lowestOpen, cX7_lowestOpen, 3, (some FieldType.int), 1, 7, 0, 0) := ⟨by decide +kernel, mgd 1236 (by decide +kernel) (by decide +kernel), mgd 156 (by decide +kernel) rfl, rfl, by decide, by decide +kernel, by decide +kernel, by decide +kernel⟩
theorem mf_190 : mfact (yX7_unfold, cX7_unfold, 2, (some FieldType.int), 1, 7, 0, 0) := ⟨by decide +kernel, mgd 1240 (by decide +kernel) (by decide +kernel), mgd 156 (by decide +kernel) rfl, rfl, by decide, by decide +kernel, by decide +kernel, by decide +kernel⟩
theorem mf_191 : mfact (yX7_unfolds, cX7_unfolds, 2, (some FieldType.int), 1, 7, 0, 0) := ⟨by decide +kernel, mgd 1244 (by decide +kernel) (by decide +kernel), mgd 156 (by decide +kernel) rfl, rfl, by decide, by decide +kernel, by decide +kernel, by decide +kernel⟩
theorem mf_192 : mfact (yX7_drop, cX7_drop, 2, (some FieldType.int), 1, 7, 0, 0) := ⟨by decide +kernel, mgd 1248 (by decide +kernel) (by decide +kernel), mgd 156 (by decide +kernel) rfl, rfl, by decide, by decide +kernel, by decide +kernel, by decide +kernel⟩
theorem mf_193 : mfact (yX7_drops, cX7_drops, 2, (some FieldType.int), 1, 7, 0, 0) := ⟨by decide +kernel, mgd 1252 (by decide +kernel) (by decide +kernel), mgd 156 (by decide +kernel) rfl, rfl, by decide, by decide +kernel, by decide +kernel, by decide +kernel⟩
theorem mf_194 : mfact (yX7_piece, cX7_piece, 3, (some FieldType.int), 2, 7, 0, 0) := ⟨by decide +kernel, mgd 1256 (by decide +kernel) (by decide +kernel), mgd 156 (by decide +kernel) rfl, rfl, by decide, by decide +kernel, by decide +kernel, by decide +kernel⟩
theorem mf_195 : mfact (yX7_sumOf, cX7_sumOf, 4, (some FieldType.int), 1, 7, 0, 0) := ⟨by decide +kernel, mgd 1260 (by decide +kernel) (by decide +kernel), mgd 156 (by decide +kernel) rfl, rfl, by decide, by decide +kernel, by decide +kernel, by decide +kernel⟩
theorem mf_196 : mfact (yX7_size, cX7_size, 3, (some FieldType.int), 2, 7, 0, 0) := ⟨by decide +kernel, mgd 1264 (by decide +kernel) (by decide +kernel), mgd 156 (by decide +kernel) rfl, rfl, by decide, by decide +kernel, by decide +kernel, by decide +kernel⟩
theorem mf_197 : mfact (yX7_crease, cX7_crease, 3, (some FieldType.int), 2, 7, 0, 0) := ⟨by decide +kernel, mgd 1268 (by decide +kernel) (by decide +kernel), mgd 156 (by decide +kernel) rfl, rfl, by decide, by decide +kernel, by decide +kernel, by decide +kernel⟩
theorem mf_198 : mfact (yX7_foldsAgain, cX7_foldsAgain, 3, (some FieldType.int), 1, 7, 0, 0) := ⟨by decide +kernel, mgd 1272 (by decide +kernel) (by decide +kernel), mgd 156 (by decide +kernel) rfl, rfl, by decide, by decide +kernel, by decide +kernel, by decide +kernel⟩
theorem mf_199 : mfact (yX7_wrongStrip, cX7_wrongStrip, 2, (some FieldType.int), 1, 7, 0, 0) := ⟨by decide +kernel, mgd 1276 (by decide +kernel) (by decide +kernel), mgd 156 (by decide +kernel) rfl, rfl, by decide, by decide +kernel, by decide +kernel, by decide +kernel⟩
theorem mf_200 : mfact (yX7_ordersOf, cX7_ordersOf, 3, (some FieldType.int), 1, 7, 0, 0) := ⟨by decide +kernel, mgd 1280 (by decide +kernel) (by decide +kernel), mgd 156 (by decide +kernel) rfl, rfl, by decide, by decide +kernel, by decide +kernel, by decide +kernel⟩
theorem mf_201 : mfact (yX7_gives, cX7_gives, 3, none, 1, 7, 0, 0) := ⟨by decide +kernel, mgd 1284 (by decide +kernel) (by decide +kernel), mgd 156 (by decide +kernel) rfl, rfl, by decide, by decide +kernel, by decide +kernel, by decide +kernel⟩
theorem mf_202 : mfact (yX7_isPossible, cX7_isPossible, 2, (some FieldType.boolean), 0, 7, 0, 0) := ⟨by decide +kernel, mgd 1288 (by decide +kernel) (by decide +kernel), mgd 156 (by decide +kernel) rfl, rfl, by decide, by decide +kernel, by decide +kernel, by decide +kernel⟩
theorem mf_203 : mfact (yX7_collides, cX7_collides, 4, (some FieldType.boolean), 1, 7, 0, 0) := ⟨by decide +kernel, mgd 1292 (by decide +kernel) (by decide +kernel), mgd 156 (by decide +kernel) rfl, rfl, by decide, by decide +kernel, by decide +kernel, by decide +kernel⟩
theorem mf_204 : mfact (yX7_reachesOver, cX7_reachesOver, 3, (some FieldType.boolean), 2, 7, 0, 0) := ⟨by decide +kernel, mgd 1296 (by decide +kernel) (by decide +kernel), mgd 156 (by decide +kernel) rfl, rfl, by decide, by decide +kernel, by decide +kernel, by decide +kernel⟩
theorem mf_205 : mfact (yX7_isBetween, cX7_isBetween, 5, (some FieldType.boolean), 2, 7, 0, 0) := ⟨by decide +kernel, mgd 1300 (by decide +kernel) (by decide +kernel), mgd 156 (by decide +kernel) rfl, rfl, by decide, by decide +kernel, by decide +kernel, by decide +kernel⟩
theorem mf_206 : mfact (yX7_isAbove, cX7_isAbove, 2, (some FieldType.boolean), 1, 7, 0, 0) := ⟨by decide +kernel, mgd 1304 (by decide +kernel) (by decide +kernel), mgd 156 (by decide +kernel) rfl, rfl, by decide, by decide +kernel, by decide +kernel, by decide +kernel⟩
theorem mf_207 : mfact (yX7_orders, cX7_orders, 3, (some FieldType.int), 1, 7, 0, 0) := ⟨by decide +kernel, mgd 1308 (by decide +kernel) (by decide +kernel), mgd 156 (by decide +kernel) rfl, rfl, by decide, by decide +kernel, by decide +kernel, by decide +kernel⟩
theorem mf_208 : mfact (yX7_layer, cX7_layer, 4, (some FieldType.int), 2, 7, 0, 0) := ⟨by decide +kernel, mgd 1312 (by decide +kernel) (by decide +kernel), mgd 156 (by decide +kernel) rfl, rfl, by decide, by decide +kernel, by decide +kernel, by decide +kernel⟩
theorem mf_209 : mfact (yX7_isStripWithout, cX7_isStripWithout, 4, (some FieldType.boolean), 3, 7, 0, 0) := ⟨by decide +kernel, mgd 1316 (by decide +kernel) (by decide +kernel), mgd 156 (by decide +kernel) rfl, rfl, by decide, by decide +kernel, by decide +kernel, by decide +kernel⟩
theorem mt_6_ok : ∀ q ∈ mt_6, mfact q := List.forall_mem_cons.mpr ⟨mf_180, List.forall_mem_cons.mpr ⟨mf_181, List.forall_mem_cons.mpr ⟨mf_182, List.forall_mem_cons.mpr ⟨mf_183, List.forall_mem_cons.mpr ⟨mf_184, List.forall_mem_cons.mpr ⟨mf_185, List.forall_mem_cons.mpr ⟨mf_186, List.forall_mem_cons.mpr ⟨mf_187, List.forall_mem_cons.mpr ⟨mf_188, List.forall_mem_cons.mpr ⟨mf_189, List.forall_mem_cons.mpr ⟨mf_190, List.forall_mem_cons.mpr ⟨mf_191, List.forall_mem_cons.mpr ⟨mf_192, List.forall_mem_cons.mpr ⟨mf_193, List.forall_mem_cons.mpr ⟨mf_194, List.forall_mem_cons.mpr ⟨mf_195, List.forall_mem_cons.mpr ⟨mf_196, List.forall_mem_cons.mpr ⟨mf_197, List.forall_mem_cons.mpr ⟨mf_198, List.forall_mem_cons.mpr ⟨mf_199, List.forall_mem_cons.mpr ⟨mf_200, List.forall_mem_cons.mpr ⟨mf_201, List.forall_mem_cons.mpr ⟨mf_202, List.forall_mem_cons.mpr ⟨mf_203, List.forall_mem_cons.mpr ⟨mf_204, List.forall_mem_cons.mpr ⟨mf_205, List.forall_mem_cons.mpr ⟨mf_206, List.forall_mem_cons.mpr ⟨mf_207, List.forall_mem_cons.mpr ⟨mf_208, List.forall_mem_cons.mpr ⟨mf_209, fun _ h => absurd h List.not_mem_nil⟩⟩⟩⟩⟩⟩⟩⟩⟩⟩⟩⟩⟩⟩⟩⟩⟩⟩⟩⟩⟩⟩⟩⟩⟩⟩⟩⟩⟩⟩
def mt_7 : List (MethodName × ByteArray × Nat × Option FieldType × Nat × Nat × Nat × Nat) := [(yX7_place, cX7_place, 3, (some FieldType.int), 2, 7, 0, 0),
  (yX7_thickest, cX7_thickest, 7, (some FieldType.int), 1, 7, 0, 0),
  (yX7_overAt, cX7_overAt, 7, (some FieldType.int), 2, 7, 0, 0),
  (yX7_reflected, cX7_reflected, 5, (some FieldType.int), 1, 7, 0, 0),
  (yX7_append, cX7_append, 2, (some FieldType.int), 1, 7, 0, 0),
  (yX7_read, cX7_read, 2, (some FieldType.int), 0, 7, 0, 0),
  (yX7_isText, cX7_isText, 2, (some FieldType.boolean), 0, 7, 0, 0),
  (yX7_readsCommand, cX7_readsCommand, 1, (some FieldType.boolean), 0, 7, 0, 0),
  (yX7_sign, cX7_sign, 1, (some FieldType.int), 0, 7, 0, 0),
  (yX7_readsSizes, cX7_readsSizes, 2, (some FieldType.boolean), 0, 7, 0, 0),
  (yX7_takes, cX7_takes, 3, (some FieldType.boolean), 1, 7, 0, 0),
  (yX7_readsSigns, cX7_readsSigns, 1, (some FieldType.boolean), 0, 7, 0, 0),
  (yX7_kindOf, cX7_kindOf, 1, (some FieldType.int), 1, 7, 0, 0),
  (yX7_digit, cX7_digit, 1, (some FieldType.int), 0, 7, 0, 0),
  (yX7_readsMark, cX7_readsMark, 1, (some FieldType.boolean), 0, 7, 0, 0),
  (yX7_doesAll, cX7_doesAll, 4, (some FieldType.int), 0, 7, 0, 0),
  (yX7_does, cX7_does, 1, (some FieldType.int), 0, 7, 0, 0),
  (yX7_addsSigned, cX7_addsSigned, 3, (some FieldType.int), 0, 7, 0, 0),
  (yX7_refusal, cX7_refusal, 2, (some FieldType.int), 1, 7, 0, 0),
  (yX7_account, cX7_account, 2, (some FieldType.int), 1, 7, 0, 0),
  (yX7_allOf, cX7_allOf, 4, (some FieldType.int), 1, 7, 0, 0),
  (yX7_panelsOfAll, cX7_panelsOfAll, 3, (some FieldType.int), 0, 7, 0, 0),
  (yX7_share, cX7_share, 1, (some FieldType.int), 0, 7, 0, 0),
  (yX7_undo, cX7_undo, 1, (some FieldType.int), 0, 7, 0, 0),
  (yX7_save, cX7_save, 1, (some FieldType.int), 0, 7, 0, 0),
  (yX7_restore, cX7_restore, 1, (some FieldType.int), 0, 7, 0, 0),
  (yJ9_floorMod_7cf53, cJ9_floorMod_7cf53, 3, (some FieldType.int), 2, 9, 0, 0),
  (yJxf58ca_floatToIntBits_5c35a, cJxf58ca_floatToIntBits_5c35a, 1, (some FieldType.int), 1, 10, 0, 0),
  (yJxf58ca_isNaN_12338, cJxf58ca_isNaN_12338, 1, (some FieldType.boolean), 1, 10, 0, 0)]
theorem mf_210 : mfact (yX7_place, cX7_place, 3, (some FieldType.int), 2, 7, 0, 0) := ⟨by decide +kernel, mgd 1320 (by decide +kernel) (by decide +kernel), mgd 156 (by decide +kernel) rfl, rfl, by decide, by decide +kernel, by decide +kernel, by decide +kernel⟩
theorem mf_211 : mfact (yX7_thickest, cX7_thickest, 7, (some FieldType.int), 1, 7, 0, 0) := ⟨by decide +kernel, mgd 1324 (by decide +kernel) (by decide +kernel), mgd 156 (by decide +kernel) rfl, rfl, by decide, by decide +kernel, by decide +kernel, by decide +kernel⟩
theorem mf_212 : mfact (yX7_overAt, cX7_overAt, 7, (some FieldType.int), 2, 7, 0, 0) := ⟨by decide +kernel, mgd 1328 (by decide +kernel) (by decide +kernel), mgd 156 (by decide +kernel) rfl, rfl, by decide, by decide +kernel, by decide +kernel, by decide +kernel⟩
theorem mf_213 : mfact (yX7_reflected, cX7_reflected, 5, (some FieldType.int), 1, 7, 0, 0) := ⟨by decide +kernel, mgd 1332 (by decide +kernel) (by decide +kernel), mgd 156 (by decide +kernel) rfl, rfl, by decide, by decide +kernel, by decide +kernel, by decide +kernel⟩
theorem mf_214 : mfact (yX7_append, cX7_append, 2, (some FieldType.int), 1, 7, 0, 0) := ⟨by decide +kernel, mgd 1336 (by decide +kernel) (by decide +kernel), mgd 156 (by decide +kernel) rfl, rfl, by decide, by decide +kernel, by decide +kernel, by decide +kernel⟩
theorem mf_215 : mfact (yX7_read, cX7_read, 2, (some FieldType.int), 0, 7, 0, 0) := ⟨by decide +kernel, mgd 1340 (by decide +kernel) (by decide +kernel), mgd 156 (by decide +kernel) rfl, rfl, by decide, by decide +kernel, by decide +kernel, by decide +kernel⟩
theorem mf_216 : mfact (yX7_isText, cX7_isText, 2, (some FieldType.boolean), 0, 7, 0, 0) := ⟨by decide +kernel, mgd 1344 (by decide +kernel) (by decide +kernel), mgd 156 (by decide +kernel) rfl, rfl, by decide, by decide +kernel, by decide +kernel, by decide +kernel⟩
theorem mf_217 : mfact (yX7_readsCommand, cX7_readsCommand, 1, (some FieldType.boolean), 0, 7, 0, 0) := ⟨by decide +kernel, mgd 1348 (by decide +kernel) (by decide +kernel), mgd 156 (by decide +kernel) rfl, rfl, by decide, by decide +kernel, by decide +kernel, by decide +kernel⟩
theorem mf_218 : mfact (yX7_sign, cX7_sign, 1, (some FieldType.int), 0, 7, 0, 0) := ⟨by decide +kernel, mgd 1352 (by decide +kernel) (by decide +kernel), mgd 156 (by decide +kernel) rfl, rfl, by decide, by decide +kernel, by decide +kernel, by decide +kernel⟩
theorem mf_219 : mfact (yX7_readsSizes, cX7_readsSizes, 2, (some FieldType.boolean), 0, 7, 0, 0) := ⟨by decide +kernel, mgd 1356 (by decide +kernel) (by decide +kernel), mgd 156 (by decide +kernel) rfl, rfl, by decide, by decide +kernel, by decide +kernel, by decide +kernel⟩
theorem mf_220 : mfact (yX7_takes, cX7_takes, 3, (some FieldType.boolean), 1, 7, 0, 0) := ⟨by decide +kernel, mgd 1360 (by decide +kernel) (by decide +kernel), mgd 156 (by decide +kernel) rfl, rfl, by decide, by decide +kernel, by decide +kernel, by decide +kernel⟩
theorem mf_221 : mfact (yX7_readsSigns, cX7_readsSigns, 1, (some FieldType.boolean), 0, 7, 0, 0) := ⟨by decide +kernel, mgd 1364 (by decide +kernel) (by decide +kernel), mgd 156 (by decide +kernel) rfl, rfl, by decide, by decide +kernel, by decide +kernel, by decide +kernel⟩
theorem mf_222 : mfact (yX7_kindOf, cX7_kindOf, 1, (some FieldType.int), 1, 7, 0, 0) := ⟨by decide +kernel, mgd 1367 (by decide +kernel) (by decide +kernel), mgd 156 (by decide +kernel) rfl, rfl, by decide, by decide +kernel, by decide +kernel, by decide +kernel⟩
theorem mf_223 : mfact (yX7_digit, cX7_digit, 1, (some FieldType.int), 0, 7, 0, 0) := ⟨by decide +kernel, mgd 1371 (by decide +kernel) (by decide +kernel), mgd 156 (by decide +kernel) rfl, rfl, by decide, by decide +kernel, by decide +kernel, by decide +kernel⟩
theorem mf_224 : mfact (yX7_readsMark, cX7_readsMark, 1, (some FieldType.boolean), 0, 7, 0, 0) := ⟨by decide +kernel, mgd 1375 (by decide +kernel) (by decide +kernel), mgd 156 (by decide +kernel) rfl, rfl, by decide, by decide +kernel, by decide +kernel, by decide +kernel⟩
theorem mf_225 : mfact (yX7_doesAll, cX7_doesAll, 4, (some FieldType.int), 0, 7, 0, 0) := ⟨by decide +kernel, mgd 1379 (by decide +kernel) (by decide +kernel), mgd 156 (by decide +kernel) rfl, rfl, by decide, by decide +kernel, by decide +kernel, by decide +kernel⟩
theorem mf_226 : mfact (yX7_does, cX7_does, 1, (some FieldType.int), 0, 7, 0, 0) := ⟨by decide +kernel, mgd 1383 (by decide +kernel) (by decide +kernel), mgd 156 (by decide +kernel) rfl, rfl, by decide, by decide +kernel, by decide +kernel, by decide +kernel⟩
theorem mf_227 : mfact (yX7_addsSigned, cX7_addsSigned, 3, (some FieldType.int), 0, 7, 0, 0) := ⟨by decide +kernel, mgd 1387 (by decide +kernel) (by decide +kernel), mgd 156 (by decide +kernel) rfl, rfl, by decide, by decide +kernel, by decide +kernel, by decide +kernel⟩
theorem mf_228 : mfact (yX7_refusal, cX7_refusal, 2, (some FieldType.int), 1, 7, 0, 0) := ⟨by decide +kernel, mgd 1391 (by decide +kernel) (by decide +kernel), mgd 156 (by decide +kernel) rfl, rfl, by decide, by decide +kernel, by decide +kernel, by decide +kernel⟩
theorem mf_229 : mfact (yX7_account, cX7_account, 2, (some FieldType.int), 1, 7, 0, 0) := ⟨by decide +kernel, mgd 1395 (by decide +kernel) (by decide +kernel), mgd 156 (by decide +kernel) rfl, rfl, by decide, by decide +kernel, by decide +kernel, by decide +kernel⟩
theorem mf_230 : mfact (yX7_allOf, cX7_allOf, 4, (some FieldType.int), 1, 7, 0, 0) := ⟨by decide +kernel, mgd 1399 (by decide +kernel) (by decide +kernel), mgd 156 (by decide +kernel) rfl, rfl, by decide, by decide +kernel, by decide +kernel, by decide +kernel⟩
theorem mf_231 : mfact (yX7_panelsOfAll, cX7_panelsOfAll, 3, (some FieldType.int), 0, 7, 0, 0) := ⟨by decide +kernel, mgd 1404 (by decide +kernel) (by decide +kernel), mgd 156 (by decide +kernel) rfl, rfl, by decide, by decide +kernel, by decide +kernel, by decide +kernel⟩
theorem mf_232 : mfact (yX7_share, cX7_share, 1, (some FieldType.int), 0, 7, 0, 0) := ⟨by decide +kernel, mgd 1408 (by decide +kernel) (by decide +kernel), mgd 156 (by decide +kernel) rfl, rfl, by decide, by decide +kernel, by decide +kernel, by decide +kernel⟩
theorem mf_233 : mfact (yX7_undo, cX7_undo, 1, (some FieldType.int), 0, 7, 0, 0) := ⟨by decide +kernel, mgd 1422 (by decide +kernel) (by decide +kernel), mgd 156 (by decide +kernel) rfl, rfl, by decide, by decide +kernel, by decide +kernel, by decide +kernel⟩
theorem mf_234 : mfact (yX7_save, cX7_save, 1, (some FieldType.int), 0, 7, 0, 0) := ⟨by decide +kernel, mgd 1426 (by decide +kernel) (by decide +kernel), mgd 156 (by decide +kernel) rfl, rfl, by decide, by decide +kernel, by decide +kernel, by decide +kernel⟩
theorem mf_235 : mfact (yX7_restore, cX7_restore, 1, (some FieldType.int), 0, 7, 0, 0) := ⟨by decide +kernel, mgd 1430 (by decide +kernel) (by decide +kernel), mgd 156 (by decide +kernel) rfl, rfl, by decide, by decide +kernel, by decide +kernel, by decide +kernel⟩
theorem mf_236 : mfact (yJ9_floorMod_7cf53, cJ9_floorMod_7cf53, 3, (some FieldType.int), 2, 9, 0, 0) := ⟨by decide +kernel, mgd 743 (by decide +kernel) (by decide +kernel), mgd 157 (by decide +kernel) rfl, rfl, by decide, by decide +kernel, by decide +kernel, by decide +kernel⟩
theorem mf_237 : mfact (yJxf58ca_floatToIntBits_5c35a, cJxf58ca_floatToIntBits_5c35a, 1, (some FieldType.int), 1, 10, 0, 0) := ⟨by decide +kernel, mgd 1411 (by decide +kernel) (by decide +kernel), mgd 158 (by decide +kernel) rfl, rfl, by decide, by decide +kernel, by decide +kernel, by decide +kernel⟩
theorem mf_238 : mfact (yJxf58ca_isNaN_12338, cJxf58ca_isNaN_12338, 1, (some FieldType.boolean), 1, 10, 0, 0) := ⟨by decide +kernel, mgd 1414 (by decide +kernel) (by decide +kernel), mgd 158 (by decide +kernel) rfl, rfl, by decide, by decide +kernel, by decide +kernel, by decide +kernel⟩
theorem mt_7_ok : ∀ q ∈ mt_7, mfact q := List.forall_mem_cons.mpr ⟨mf_210, List.forall_mem_cons.mpr ⟨mf_211, List.forall_mem_cons.mpr ⟨mf_212, List.forall_mem_cons.mpr ⟨mf_213, List.forall_mem_cons.mpr ⟨mf_214, List.forall_mem_cons.mpr ⟨mf_215, List.forall_mem_cons.mpr ⟨mf_216, List.forall_mem_cons.mpr ⟨mf_217, List.forall_mem_cons.mpr ⟨mf_218, List.forall_mem_cons.mpr ⟨mf_219, List.forall_mem_cons.mpr ⟨mf_220, List.forall_mem_cons.mpr ⟨mf_221, List.forall_mem_cons.mpr ⟨mf_222, List.forall_mem_cons.mpr ⟨mf_223, List.forall_mem_cons.mpr ⟨mf_224, List.forall_mem_cons.mpr ⟨mf_225, List.forall_mem_cons.mpr ⟨mf_226, List.forall_mem_cons.mpr ⟨mf_227, List.forall_mem_cons.mpr ⟨mf_228, List.forall_mem_cons.mpr ⟨mf_229, List.forall_mem_cons.mpr ⟨mf_230, List.forall_mem_cons.mpr ⟨mf_231, List.forall_mem_cons.mpr ⟨mf_232, List.forall_mem_cons.mpr ⟨mf_233, List.forall_mem_cons.mpr ⟨mf_234, List.forall_mem_cons.mpr ⟨mf_235, List.forall_mem_cons.mpr ⟨mf_236, List.forall_mem_cons.mpr ⟨mf_237, List.forall_mem_cons.mpr ⟨mf_238, fun _ h => absurd h List.not_mem_nil⟩⟩⟩⟩⟩⟩⟩⟩⟩⟩⟩⟩⟩⟩⟩⟩⟩⟩⟩⟩⟩⟩⟩⟩⟩⟩⟩⟩⟩
def mtL : List (MethodName × ByteArray × Nat × Option FieldType × Nat × Nat × Nat × Nat) := mt_0 ++ (mt_1 ++ (mt_2 ++ (mt_3 ++ (mt_4 ++ (mt_5 ++ (mt_6 ++ (mt_7)))))))
theorem mall {α : Type} {p : α → Prop} {a b : List α} (ha : ∀ q ∈ a, p q) (hb : ∀ q ∈ b, p q) : ∀ q ∈ a ++ b, p q := fun q h => (List.mem_append.mp h).elim (ha q) (hb q)
theorem mtL_ok : ∀ q ∈ mtL, mfact q := mall mt_0_ok (mall mt_1_ok (mall mt_2_ok (mall mt_3_ok (mall mt_4_ok (mall mt_5_ok (mall mt_6_ok (mt_7_ok)))))))
theorem mobj : Cond.instanceMethod objectInit ∈ lw_good ∧ Cond.code objectInit ⟨#[0xb1]⟩ 1 none ∈ lw_good := ⟨mgd 165 (by decide +kernel) rfl, mgd 166 (by decide +kernel) rfl⟩
theorem mmath_max : Cond.static Lib.Math.max.name ∈ lw_good ∧ Cond.initialized "java/lang/Math" ∈ lw_good ∧ Cond.code Lib.Math.max.name Lib.Math.max.code 2 (some .int) ∈ lw_good := ⟨mgd 393 (by decide +kernel) rfl, mgd 157 (by decide +kernel) rfl, mgd 394 (by decide +kernel) (by decide +kernel)⟩
theorem mmath_min : Cond.static Lib.Math.min.name ∈ lw_good ∧ Cond.initialized "java/lang/Math" ∈ lw_good ∧ Cond.code Lib.Math.min.name Lib.Math.min.code 2 (some .int) ∈ lw_good := ⟨mgd 400 (by decide +kernel) rfl, mgd 157 (by decide +kernel) rfl, mgd 401 (by decide +kernel) (by decide +kernel)⟩
theorem mmath_abs : Cond.static Lib.Math.abs.name ∈ lw_good ∧ Cond.initialized "java/lang/Math" ∈ lw_good ∧ Cond.code Lib.Math.abs.name Lib.Math.abs.code 1 (some .int) ∈ lw_good := ⟨mgd 551 (by decide +kernel) rfl, mgd 157 (by decide +kernel) rfl, mgd 552 (by decide +kernel) (by decide +kernel)⟩
theorem mnat : Cond.native ⟨"java/lang/Float", "floatToRawIntBits", "(F)I"⟩ ∈ lw_good ∧ Cond.static ⟨"java/lang/Float", "floatToRawIntBits", "(F)I"⟩ ∈ lw_good ∧ Cond.initialized "java/lang/Float" ∈ lw_good := ⟨mgd 1417 (by decide +kernel) rfl, mgd 1416 (by decide +kernel) rfl, mgd 158 (by decide +kernel) rfl⟩
def mldcIL : List (Nat × Nat × Int32) := [(1, 29, 1000000), (6, 209, 1000000), (10, 77, 2143289344)]
theorem mldcI_1_29 : Cond.constant (cN 1) 29 1000000 ∈ lw_good := mgd 631 (by decide +kernel) rfl
theorem mldcI_6_209 : Cond.constant (cN 6) 209 1000000 ∈ lw_good := mgd 712 (by decide +kernel) rfl
theorem mldcI_10_77 : Cond.constant (cN 10) 77 2143289344 ∈ lw_good := mgd 1418 (by decide +kernel) rfl
theorem mldcIL_ok : ∀ q ∈ mldcIL, Cond.constant (cN q.1) q.2.1 q.2.2 ∈ lw_good := List.forall_mem_cons.mpr ⟨mldcI_1_29, List.forall_mem_cons.mpr ⟨mldcI_6_209, List.forall_mem_cons.mpr ⟨mldcI_10_77, fun _ h => absurd h List.not_mem_nil⟩⟩⟩
def mldcI (o i : Nat) : Option Int32 := (mldcIL.find? (fun q => q.1 == o && q.2.1 == i)).map (fun q => q.2.2)
theorem mldcI_ok {o i : Nat} {v : Int32} (h : mldcI o i = some v) : Cond.constant (cN o) i v ∈ lw_good := by
  unfold mldcI at h
  cases hf : mldcIL.find? (fun q => q.1 == o && q.2.1 == i) with
  | none => rw [hf] at h; cases h
  | some q =>
    rw [hf] at h
    have h1 := List.find?_some hf
    have h2 := mldcIL_ok q (List.mem_of_find?_eq_some hf)
    obtain ⟨o', i', c'⟩ := q
    simp only [Option.map_some, Option.some.injEq] at h
    simp only [Bool.and_eq_true, beq_iff_eq] at h1
    obtain ⟨rfl, rfl⟩ := h1
    subst h
    exact h2
def mldcFL : List (Nat × Nat × UInt32) := [(6, 312, 1258291200)]
theorem mldcF_6_312 : Cond.constantFloat (cN 6) 312 1258291200 ∈ lw_good := mgd 856 (by decide +kernel) rfl
theorem mldcFL_ok : ∀ q ∈ mldcFL, Cond.constantFloat (cN q.1) q.2.1 q.2.2 ∈ lw_good := List.forall_mem_cons.mpr ⟨mldcF_6_312, fun _ h => absurd h List.not_mem_nil⟩
def mldcF (o i : Nat) : Option UInt32 := (mldcFL.find? (fun q => q.1 == o && q.2.1 == i)).map (fun q => q.2.2)
theorem mldcF_ok {o i : Nat} {v : UInt32} (h : mldcF o i = some v) : Cond.constantFloat (cN o) i v ∈ lw_good := by
  unfold mldcF at h
  cases hf : mldcFL.find? (fun q => q.1 == o && q.2.1 == i) with
  | none => rw [hf] at h; cases h
  | some q =>
    rw [hf] at h
    have h1 := List.find?_some hf
    have h2 := mldcFL_ok q (List.mem_of_find?_eq_some hf)
    obtain ⟨o', i', c'⟩ := q
    simp only [Option.map_some, Option.some.injEq] at h
    simp only [Bool.and_eq_true, beq_iff_eq] at h1
    obtain ⟨rfl, rfl⟩ := h1
    subst h
    exact h2
def mlink (o i : Nat) (y : MethodName) (nest : Bool) : Prop := (nest = true → ∃ host, Cond.methodLinkNest (cN o) i y host ∈ lw_nests) ∧ (nest = false → Cond.methodLink (cN o) i y ∈ lw_good)
/-- kinds: 0 virtual, 1 of a nest mate, 2 static, 3 static of a nest mate, 4 a constructor, 5 of a nest mate, 6 Object's -/
def cfact (o i kd k : Nat) : Prop := match kd with
  | 6 => Cond.methodLink (cN o) i objectInit ∈ lw_good
  | 7 => Cond.methodLink (cN o) i Lib.Math.max.name ∈ lw_good
  | 8 => Cond.methodLink (cN o) i Lib.Math.min.name ∈ lw_good
  | 9 => Cond.methodLink (cN o) i Lib.Math.abs.name ∈ lw_good
  | 10 => Cond.methodLink (cN o) i ⟨"java/lang/Float", "floatToRawIntBits", "(F)I"⟩ ∈ lw_good
  | _ => ∃ q, mtL[k]? = some q ∧ mlink o i q.1 (kd % 2 == 1) ∧ (kd < 2 → Cond.instanceMethod q.1 ∈ lw_good ∧ Cond.selects q.1.cls q.1 q.1 ∈ lw_good) ∧ (kd = 2 ∨ kd = 3 → Cond.static q.1 ∈ lw_good) ∧ (kd = 4 ∨ kd = 5 → Cond.instanceMethod q.1 ∈ lw_good ∧ q.1.name = "<init>") ∧ kd < 6
def cal0 : List (Nat × Nat × Nat) := [(3, 6, 0), (17, 5, 1), (22, 0, 16), (30, 1, 17), (37, 8, 0)]
theorem ca_0_3 : cfact 0 3 6 0 := mgd 232 (by decide +kernel) rfl
theorem ca_0_17 : cfact 0 17 5 1 := ⟨(yX5_init, cX5_init, 2, none, 0, 5, 25, 176), rfl, ⟨fun _ => ⟨RX6, mns 235 (by decide +kernel) rfl⟩, fun h => by cases h⟩, fun h => absurd h (by decide), fun h => absurd h (by decide), fun _ => ⟨mgd 170 (by decide +kernel) rfl, rfl⟩, by decide⟩
theorem ca_0_22 : cfact 0 22 0 16 := ⟨(yX0_stateAt, cX0_stateAt, 2, (some (FieldType.object "FoldedTheatre$State")), 1, 0, 0, 0), rfl, ⟨fun h => (by cases h), fun _ => mgd 410 (by decide +kernel) rfl⟩, fun _ => ⟨mgd 412 (by decide +kernel) rfl, mgd 7 (by decide +kernel) rfl⟩, fun h => absurd h (by decide), fun h => absurd h (by decide), by decide⟩
theorem ca_0_30 : cfact 0 30 1 17 := ⟨(yX5_copyFrom, cX5_copyFrom, 5, none, 1, 5, 0, 0), rfl, ⟨fun _ => ⟨RX6, mns 414 (by decide +kernel) rfl⟩, fun h => by cases h⟩, fun _ => ⟨mgd 416 (by decide +kernel) rfl, mgd 8 (by decide +kernel) rfl⟩, fun h => absurd h (by decide), fun h => absurd h (by decide), by decide⟩
theorem ca_0_37 : cfact 0 37 8 0 := mgd 425 (by decide +kernel) rfl
theorem cal0_ok : ∀ q ∈ cal0, cfact 0 q.1 q.2.1 q.2.2 := List.forall_mem_cons.mpr ⟨ca_0_3, List.forall_mem_cons.mpr ⟨ca_0_17, List.forall_mem_cons.mpr ⟨ca_0_22, List.forall_mem_cons.mpr ⟨ca_0_30, List.forall_mem_cons.mpr ⟨ca_0_37, fun _ h => absurd h List.not_mem_nil⟩⟩⟩⟩⟩
def cal1 : List (Nat × Nat × Nat) := [(3, 6, 0), (21, 0, 65), (25, 3, 22), (34, 0, 66), (38, 0, 69), (45, 8, 0), (52, 3, 19), (56, 1, 13), (59, 3, 12), (63, 0, 67), (67, 0, 68), (70, 0, 70), (74, 0, 72), (77, 7, 0), (80, 0, 71)]
theorem ca_1_3 : cfact 1 3 6 0 := mgd 312 (by decide +kernel) rfl
theorem ca_1_21 : cfact 1 21 0 65 := ⟨(yX1_load, cX1_load, 3, none, 1, 1, 0, 0), rfl, ⟨fun h => (by cases h), fun _ => mgd 623 (by decide +kernel) rfl⟩, fun _ => ⟨mgd 625 (by decide +kernel) rfl, mgd 37 (by decide +kernel) rfl⟩, fun h => absurd h (by decide), fun h => absurd h (by decide), by decide⟩
theorem ca_1_25 : cfact 1 25 3 22 := ⟨(yX6_put, cX6_put, 3, none, 3, 6, 0, 0), rfl, ⟨fun _ => ⟨RX6, mns 630 (by decide +kernel) rfl⟩, fun h => by cases h⟩, fun h => absurd h (by decide), fun _ => mgd 435 (by decide +kernel) rfl, fun h => absurd h (by decide), by decide⟩
theorem ca_1_34 : cfact 1 34 0 66 := ⟨(yX1_nextLayer, cX1_nextLayer, 3, (some FieldType.int), 1, 1, 0, 0), rfl, ⟨fun h => (by cases h), fun _ => mgd 632 (by decide +kernel) rfl⟩, fun _ => ⟨mgd 634 (by decide +kernel) rfl, mgd 38 (by decide +kernel) rfl⟩, fun h => absurd h (by decide), fun h => absurd h (by decide), by decide⟩
theorem ca_1_38 : cfact 1 38 0 69 := ⟨(yX1_layersCollide, cX1_layersCollide, 2, (some FieldType.boolean), 0, 1, 0, 0), rfl, ⟨fun h => (by cases h), fun _ => mgd 645 (by decide +kernel) rfl⟩, fun _ => ⟨mgd 647 (by decide +kernel) rfl, mgd 41 (by decide +kernel) rfl⟩, fun h => absurd h (by decide), fun h => absurd h (by decide), by decide⟩
theorem ca_1_45 : cfact 1 45 8 0 := mgd 627 (by decide +kernel) rfl
theorem ca_1_52 : cfact 1 52 3 19 := ⟨(yX6_copyRow, cX6_copyRow, 3, none, 2, 6, 0, 0), rfl, ⟨fun _ => ⟨RX6, mns 628 (by decide +kernel) rfl⟩, fun h => by cases h⟩, fun h => absurd h (by decide), fun _ => mgd 423 (by decide +kernel) rfl, fun h => absurd h (by decide), by decide⟩
theorem ca_1_56 : cfact 1 56 1 13 := ⟨(yX2_placeOf, cX2_placeOf, 4, (some FieldType.int), 1, 2, 0, 0), rfl, ⟨fun _ => ⟨RX6, mns 629 (by decide +kernel) rfl⟩, fun h => by cases h⟩, fun _ => ⟨mgd 397 (by decide +kernel) rfl, mgd 4 (by decide +kernel) rfl⟩, fun h => absurd h (by decide), fun h => absurd h (by decide), by decide⟩
theorem ca_1_59 : cfact 1 59 3 12 := ⟨(yX6_at, cX6_at, 2, (some FieldType.int), 2, 6, 0, 0), rfl, ⟨fun _ => ⟨RX6, mns 636 (by decide +kernel) rfl⟩, fun h => by cases h⟩, fun h => absurd h (by decide), fun _ => mgd 390 (by decide +kernel) rfl, fun h => absurd h (by decide), by decide⟩
theorem ca_1_63 : cfact 1 63 0 67 := ⟨(yX1_isFree, cX1_isFree, 4, (some FieldType.boolean), 2, 1, 0, 0), rfl, ⟨fun h => (by cases h), fun _ => mgd 637 (by decide +kernel) rfl⟩, fun _ => ⟨mgd 639 (by decide +kernel) rfl, mgd 39 (by decide +kernel) rfl⟩, fun h => absurd h (by decide), fun h => absurd h (by decide), by decide⟩
theorem ca_1_67 : cfact 1 67 0 68 := ⟨(yX1_isAsCreased, cX1_isAsCreased, 6, (some FieldType.boolean), 2, 1, 0, 0), rfl, ⟨fun h => (by cases h), fun _ => mgd 641 (by decide +kernel) rfl⟩, fun _ => ⟨mgd 643 (by decide +kernel) rfl, mgd 40 (by decide +kernel) rfl⟩, fun h => absurd h (by decide), fun h => absurd h (by decide), by decide⟩
theorem ca_1_70 : cfact 1 70 0 70 := ⟨(yX1_isPierced, cX1_isPierced, 6, (some FieldType.boolean), 1, 1, 0, 0), rfl, ⟨fun h => (by cases h), fun _ => mgd 649 (by decide +kernel) rfl⟩, fun _ => ⟨mgd 651 (by decide +kernel) rfl, mgd 42 (by decide +kernel) rfl⟩, fun h => absurd h (by decide), fun h => absurd h (by decide), by decide⟩
theorem ca_1_74 : cfact 1 74 0 72 := ⟨(yX1_isCrossed, cX1_isCrossed, 4, (some FieldType.boolean), 1, 1, 0, 0), rfl, ⟨fun h => (by cases h), fun _ => mgd 658 (by decide +kernel) rfl⟩, fun _ => ⟨mgd 660 (by decide +kernel) rfl, mgd 44 (by decide +kernel) rfl⟩, fun h => absurd h (by decide), fun h => absurd h (by decide), by decide⟩
theorem ca_1_77 : cfact 1 77 7 0 := mgd 653 (by decide +kernel) rfl
theorem ca_1_80 : cfact 1 80 0 71 := ⟨(yX1_isBetween, cX1_isBetween, 6, (some FieldType.boolean), 2, 1, 0, 0), rfl, ⟨fun h => (by cases h), fun _ => mgd 654 (by decide +kernel) rfl⟩, fun _ => ⟨mgd 656 (by decide +kernel) rfl, mgd 43 (by decide +kernel) rfl⟩, fun h => absurd h (by decide), fun h => absurd h (by decide), by decide⟩
theorem cal1_ok : ∀ q ∈ cal1, cfact 1 q.1 q.2.1 q.2.2 := List.forall_mem_cons.mpr ⟨ca_1_3, List.forall_mem_cons.mpr ⟨ca_1_21, List.forall_mem_cons.mpr ⟨ca_1_25, List.forall_mem_cons.mpr ⟨ca_1_34, List.forall_mem_cons.mpr ⟨ca_1_38, List.forall_mem_cons.mpr ⟨ca_1_45, List.forall_mem_cons.mpr ⟨ca_1_52, List.forall_mem_cons.mpr ⟨ca_1_56, List.forall_mem_cons.mpr ⟨ca_1_59, List.forall_mem_cons.mpr ⟨ca_1_63, List.forall_mem_cons.mpr ⟨ca_1_67, List.forall_mem_cons.mpr ⟨ca_1_70, List.forall_mem_cons.mpr ⟨ca_1_74, List.forall_mem_cons.mpr ⟨ca_1_77, List.forall_mem_cons.mpr ⟨ca_1_80, fun _ h => absurd h List.not_mem_nil⟩⟩⟩⟩⟩⟩⟩⟩⟩⟩⟩⟩⟩⟩⟩
def cal2 : List (Nat × Nat × Nat) := [(3, 6, 0), (29, 3, 22), (33, 0, 23), (37, 0, 25), (40, 3, 26), (44, 3, 19), (48, 3, 12), (52, 0, 32), (56, 0, 13), (59, 8, 0), (65, 7, 0), (68, 0, 11), (71, 0, 87), (74, 0, 88), (77, 0, 89), (80, 2, 236)]
theorem ca_2_3 : cfact 2 3 6 0 := mgd 179 (by decide +kernel) rfl
theorem ca_2_29 : cfact 2 29 3 22 := ⟨(yX6_put, cX6_put, 3, none, 3, 6, 0, 0), rfl, ⟨fun _ => ⟨RX6, mns 434 (by decide +kernel) rfl⟩, fun h => by cases h⟩, fun h => absurd h (by decide), fun _ => mgd 435 (by decide +kernel) rfl, fun h => absurd h (by decide), by decide⟩
theorem ca_2_33 : cfact 2 33 0 23 := ⟨(yX2_sum, cX2_sum, 3, (some FieldType.int), 0, 2, 0, 0), rfl, ⟨fun h => (by cases h), fun _ => mgd 437 (by decide +kernel) rfl⟩, fun _ => ⟨mgd 439 (by decide +kernel) rfl, mgd 11 (by decide +kernel) rfl⟩, fun h => absurd h (by decide), fun h => absurd h (by decide), by decide⟩
theorem ca_2_37 : cfact 2 37 0 25 := ⟨(yX2_creaseCount, cX2_creaseCount, 1, (some FieldType.int), 0, 2, 0, 0), rfl, ⟨fun h => (by cases h), fun _ => mgd 445 (by decide +kernel) rfl⟩, fun _ => ⟨mgd 447 (by decide +kernel) rfl, mgd 13 (by decide +kernel) rfl⟩, fun h => absurd h (by decide), fun h => absurd h (by decide), by decide⟩
theorem ca_2_40 : cfact 2 40 3 26 := ⟨(yX6_isCreaseKind, cX6_isCreaseKind, 1, (some FieldType.boolean), 1, 6, 0, 0), rfl, ⟨fun _ => ⟨RX6, mns 449 (by decide +kernel) rfl⟩, fun h => by cases h⟩, fun h => absurd h (by decide), fun _ => mgd 450 (by decide +kernel) rfl, fun h => absurd h (by decide), by decide⟩
theorem ca_2_44 : cfact 2 44 3 19 := ⟨(yX6_copyRow, cX6_copyRow, 3, none, 2, 6, 0, 0), rfl, ⟨fun _ => ⟨RX6, mns 422 (by decide +kernel) rfl⟩, fun h => by cases h⟩, fun h => absurd h (by decide), fun _ => mgd 423 (by decide +kernel) rfl, fun h => absurd h (by decide), by decide⟩
theorem ca_2_48 : cfact 2 48 3 12 := ⟨(yX6_at, cX6_at, 2, (some FieldType.int), 2, 6, 0, 0), rfl, ⟨fun _ => ⟨RX6, mns 389 (by decide +kernel) rfl⟩, fun h => by cases h⟩, fun h => absurd h (by decide), fun _ => mgd 390 (by decide +kernel) rfl, fun h => absurd h (by decide), by decide⟩
theorem ca_2_52 : cfact 2 52 0 32 := ⟨(yX2_countOf, cX2_countOf, 4, (some FieldType.int), 1, 2, 0, 0), rfl, ⟨fun h => (by cases h), fun _ => mgd 523 (by decide +kernel) rfl⟩, fun _ => ⟨mgd 479 (by decide +kernel) rfl, mgd 17 (by decide +kernel) rfl⟩, fun h => absurd h (by decide), fun h => absurd h (by decide), by decide⟩
theorem ca_2_56 : cfact 2 56 0 13 := ⟨(yX2_placeOf, cX2_placeOf, 4, (some FieldType.int), 1, 2, 0, 0), rfl, ⟨fun h => (by cases h), fun _ => mgd 395 (by decide +kernel) rfl⟩, fun _ => ⟨mgd 397 (by decide +kernel) rfl, mgd 4 (by decide +kernel) rfl⟩, fun h => absurd h (by decide), fun h => absurd h (by decide), by decide⟩
theorem ca_2_59 : cfact 2 59 8 0 := mgd 399 (by decide +kernel) rfl
theorem ca_2_65 : cfact 2 65 7 0 := mgd 392 (by decide +kernel) rfl
theorem ca_2_68 : cfact 2 68 0 11 := ⟨(yX2_greatestSize, cX2_greatestSize, 3, (some FieldType.int), 0, 2, 0, 0), rfl, ⟨fun h => (by cases h), fun _ => mgd 385 (by decide +kernel) rfl⟩, fun _ => ⟨mgd 387 (by decide +kernel) rfl, mgd 3 (by decide +kernel) rfl⟩, fun h => absurd h (by decide), fun h => absurd h (by decide), by decide⟩
theorem ca_2_71 : cfact 2 71 0 87 := ⟨(yX2_leftEndOf, cX2_leftEndOf, 2, (some FieldType.int), 1, 2, 0, 0), rfl, ⟨fun h => (by cases h), fun _ => mgd 721 (by decide +kernel) rfl⟩, fun _ => ⟨mgd 723 (by decide +kernel) rfl, mgd 49 (by decide +kernel) rfl⟩, fun h => absurd h (by decide), fun h => absurd h (by decide), by decide⟩
theorem ca_2_74 : cfact 2 74 0 88 := ⟨(yX2_panelsBehind, cX2_panelsBehind, 4, (some FieldType.int), 1, 2, 0, 0), rfl, ⟨fun h => (by cases h), fun _ => mgd 725 (by decide +kernel) rfl⟩, fun _ => ⟨mgd 727 (by decide +kernel) rfl, mgd 50 (by decide +kernel) rfl⟩, fun h => absurd h (by decide), fun h => absurd h (by decide), by decide⟩
theorem ca_2_77 : cfact 2 77 0 89 := ⟨(yX2_rightEndOf, cX2_rightEndOf, 2, (some FieldType.int), 1, 2, 0, 0), rfl, ⟨fun h => (by cases h), fun _ => mgd 729 (by decide +kernel) rfl⟩, fun _ => ⟨mgd 731 (by decide +kernel) rfl, mgd 51 (by decide +kernel) rfl⟩, fun h => absurd h (by decide), fun h => absurd h (by decide), by decide⟩
theorem ca_2_80 : cfact 2 80 2 236 := ⟨(yJ9_floorMod_7cf53, cJ9_floorMod_7cf53, 3, (some FieldType.int), 2, 9, 0, 0), rfl, ⟨fun h => (by cases h), fun _ => mgd 741 (by decide +kernel) rfl⟩, fun h => absurd h (by decide), fun _ => mgd 742 (by decide +kernel) rfl, fun h => absurd h (by decide), by decide⟩
theorem cal2_ok : ∀ q ∈ cal2, cfact 2 q.1 q.2.1 q.2.2 := List.forall_mem_cons.mpr ⟨ca_2_3, List.forall_mem_cons.mpr ⟨ca_2_29, List.forall_mem_cons.mpr ⟨ca_2_33, List.forall_mem_cons.mpr ⟨ca_2_37, List.forall_mem_cons.mpr ⟨ca_2_40, List.forall_mem_cons.mpr ⟨ca_2_44, List.forall_mem_cons.mpr ⟨ca_2_48, List.forall_mem_cons.mpr ⟨ca_2_52, List.forall_mem_cons.mpr ⟨ca_2_56, List.forall_mem_cons.mpr ⟨ca_2_59, List.forall_mem_cons.mpr ⟨ca_2_65, List.forall_mem_cons.mpr ⟨ca_2_68, List.forall_mem_cons.mpr ⟨ca_2_71, List.forall_mem_cons.mpr ⟨ca_2_74, List.forall_mem_cons.mpr ⟨ca_2_77, List.forall_mem_cons.mpr ⟨ca_2_80, fun _ h => absurd h List.not_mem_nil⟩⟩⟩⟩⟩⟩⟩⟩⟩⟩⟩⟩⟩⟩⟩⟩
def cal3 : List (Nat × Nat × Nat) := [(3, 6, 0), (30, 3, 19), (34, 1, 25), (39, 3, 12), (43, 0, 46), (47, 3, 22), (51, 1, 42), (55, 0, 45), (59, 0, 47), (62, 1, 32), (66, 9, 0), (71, 0, 48), (74, 0, 51), (77, 0, 55), (80, 0, 49), (83, 0, 50), (86, 2, 77), (90, 0, 79), (94, 2, 78), (98, 0, 52), (101, 0, 53), (105, 3, 54), (109, 7, 0), (112, 8, 0)]
theorem ca_3_3 : cfact 3 3 6 0 := mgd 293 (by decide +kernel) rfl
theorem ca_3_30 : cfact 3 30 3 19 := ⟨(yX6_copyRow, cX6_copyRow, 3, none, 2, 6, 0, 0), rfl, ⟨fun _ => ⟨RX6, mns 537 (by decide +kernel) rfl⟩, fun h => by cases h⟩, fun h => absurd h (by decide), fun _ => mgd 423 (by decide +kernel) rfl, fun h => absurd h (by decide), by decide⟩
theorem ca_3_34 : cfact 3 34 1 25 := ⟨(yX2_creaseCount, cX2_creaseCount, 1, (some FieldType.int), 0, 2, 0, 0), rfl, ⟨fun _ => ⟨RX6, mns 538 (by decide +kernel) rfl⟩, fun h => by cases h⟩, fun _ => ⟨mgd 447 (by decide +kernel) rfl, mgd 13 (by decide +kernel) rfl⟩, fun h => absurd h (by decide), fun h => absurd h (by decide), by decide⟩
theorem ca_3_39 : cfact 3 39 3 12 := ⟨(yX6_at, cX6_at, 2, (some FieldType.int), 2, 6, 0, 0), rfl, ⟨fun _ => ⟨RX6, mns 539 (by decide +kernel) rfl⟩, fun h => by cases h⟩, fun h => absurd h (by decide), fun _ => mgd 390 (by decide +kernel) rfl, fun h => absurd h (by decide), by decide⟩
theorem ca_3_43 : cfact 3 43 0 46 := ⟨(yX3_putCrease, cX3_putCrease, 3, none, 2, 3, 0, 0), rfl, ⟨fun h => (by cases h), fun _ => mgd 540 (by decide +kernel) rfl⟩, fun _ => ⟨mgd 542 (by decide +kernel) rfl, mgd 27 (by decide +kernel) rfl⟩, fun h => absurd h (by decide), fun h => absurd h (by decide), by decide⟩
theorem ca_3_47 : cfact 3 47 3 22 := ⟨(yX6_put, cX6_put, 3, none, 3, 6, 0, 0), rfl, ⟨fun _ => ⟨RX6, mns 544 (by decide +kernel) rfl⟩, fun h => by cases h⟩, fun h => absurd h (by decide), fun _ => mgd 435 (by decide +kernel) rfl, fun h => absurd h (by decide), by decide⟩
theorem ca_3_51 : cfact 3 51 1 42 := ⟨(yX2_isUndecided, cX2_isUndecided, 1, (some FieldType.boolean), 0, 2, 0, 0), rfl, ⟨fun _ => ⟨RX6, mns 532 (by decide +kernel) rfl⟩, fun h => by cases h⟩, fun _ => ⟨mgd 521 (by decide +kernel) rfl, mgd 23 (by decide +kernel) rfl⟩, fun h => absurd h (by decide), fun h => absurd h (by decide), by decide⟩
theorem ca_3_55 : cfact 3 55 0 45 := ⟨(yX3_load, cX3_load, 3, none, 1, 3, 0, 0), rfl, ⟨fun h => (by cases h), fun _ => mgd 533 (by decide +kernel) rfl⟩, fun _ => ⟨mgd 535 (by decide +kernel) rfl, mgd 26 (by decide +kernel) rfl⟩, fun h => absurd h (by decide), fun h => absurd h (by decide), by decide⟩
theorem ca_3_59 : cfact 3 59 0 47 := ⟨(yX3_evenAngles, cX3_evenAngles, 3, (some FieldType.int), 0, 3, 0, 0), rfl, ⟨fun h => (by cases h), fun _ => mgd 545 (by decide +kernel) rfl⟩, fun _ => ⟨mgd 547 (by decide +kernel) rfl, mgd 28 (by decide +kernel) rfl⟩, fun h => absurd h (by decide), fun h => absurd h (by decide), by decide⟩
theorem ca_3_62 : cfact 3 62 1 32 := ⟨(yX2_countOf, cX2_countOf, 4, (some FieldType.int), 1, 2, 0, 0), rfl, ⟨fun _ => ⟨RX6, mns 549 (by decide +kernel) rfl⟩, fun h => by cases h⟩, fun _ => ⟨mgd 479 (by decide +kernel) rfl, mgd 17 (by decide +kernel) rfl⟩, fun h => absurd h (by decide), fun h => absurd h (by decide), by decide⟩
theorem ca_3_66 : cfact 3 66 9 0 := mgd 550 (by decide +kernel) rfl
theorem ca_3_71 : cfact 3 71 0 48 := ⟨(yX3_hasSmallAngleOfOneKind, cX3_hasSmallAngleOfOneKind, 4, (some FieldType.boolean), 0, 3, 0, 0), rfl, ⟨fun h => (by cases h), fun _ => mgd 553 (by decide +kernel) rfl⟩, fun _ => ⟨mgd 555 (by decide +kernel) rfl, mgd 29 (by decide +kernel) rfl⟩, fun h => absurd h (by decide), fun h => absurd h (by decide), by decide⟩
theorem ca_3_74 : cfact 3 74 0 51 := ⟨(yX3_reduce, cX3_reduce, 3, (some FieldType.int), 0, 3, 0, 0), rfl, ⟨fun h => (by cases h), fun _ => mgd 565 (by decide +kernel) rfl⟩, fun _ => ⟨mgd 567 (by decide +kernel) rfl, mgd 32 (by decide +kernel) rfl⟩, fun h => absurd h (by decide), fun h => absurd h (by decide), by decide⟩
theorem ca_3_77 : cfact 3 77 0 55 := ⟨(yX3_isReduced, cX3_isReduced, 1, (some FieldType.boolean), 0, 3, 0, 0), rfl, ⟨fun h => (by cases h), fun _ => mgd 582 (by decide +kernel) rfl⟩, fun _ => ⟨mgd 584 (by decide +kernel) rfl, mgd 35 (by decide +kernel) rfl⟩, fun h => absurd h (by decide), fun h => absurd h (by decide), by decide⟩
theorem ca_3_80 : cfact 3 80 0 49 := ⟨(yX3_before, cX3_before, 2, (some FieldType.int), 1, 3, 0, 0), rfl, ⟨fun h => (by cases h), fun _ => mgd 557 (by decide +kernel) rfl⟩, fun _ => ⟨mgd 559 (by decide +kernel) rfl, mgd 30 (by decide +kernel) rfl⟩, fun h => absurd h (by decide), fun h => absurd h (by decide), by decide⟩
theorem ca_3_83 : cfact 3 83 0 50 := ⟨(yX3_after, cX3_after, 2, (some FieldType.int), 1, 3, 0, 0), rfl, ⟨fun h => (by cases h), fun _ => mgd 561 (by decide +kernel) rfl⟩, fun _ => ⟨mgd 563 (by decide +kernel) rfl, mgd 31 (by decide +kernel) rfl⟩, fun h => absurd h (by decide), fun h => absurd h (by decide), by decide⟩
theorem ca_3_86 : cfact 3 86 2 77 := ⟨(yX3_changesTo, cX3_changesTo, 5, (some FieldType.int), 2, 3, 0, 0), rfl, ⟨fun h => (by cases h), fun _ => mgd 681 (by decide +kernel) rfl⟩, fun h => absurd h (by decide), fun _ => mgd 682 (by decide +kernel) rfl, fun h => absurd h (by decide), by decide⟩
theorem ca_3_90 : cfact 3 90 0 79 := ⟨(yX3_foldsWith, cX3_foldsWith, 4, (some FieldType.boolean), 2, 3, 0, 0), rfl, ⟨fun h => (by cases h), fun _ => mgd 687 (by decide +kernel) rfl⟩, fun _ => ⟨mgd 689 (by decide +kernel) rfl, mgd 46 (by decide +kernel) rfl⟩, fun h => absurd h (by decide), fun h => absurd h (by decide), by decide⟩
theorem ca_3_94 : cfact 3 94 2 78 := ⟨(yX3_kindIn, cX3_kindIn, 2, (some FieldType.int), 2, 3, 0, 0), rfl, ⟨fun h => (by cases h), fun _ => mgd 684 (by decide +kernel) rfl⟩, fun h => absurd h (by decide), fun _ => mgd 685 (by decide +kernel) rfl, fun h => absurd h (by decide), by decide⟩
theorem ca_3_98 : cfact 3 98 0 52 := ⟨(yX3_firstStep, cX3_firstStep, 5, (some FieldType.int), 0, 3, 0, 0), rfl, ⟨fun h => (by cases h), fun _ => mgd 569 (by decide +kernel) rfl⟩, fun _ => ⟨mgd 571 (by decide +kernel) rfl, mgd 33 (by decide +kernel) rfl⟩, fun h => absurd h (by decide), fun h => absurd h (by decide), by decide⟩
theorem ca_3_101 : cfact 3 101 0 53 := ⟨(yX3_make, cX3_make, 5, none, 1, 3, 0, 0), rfl, ⟨fun h => (by cases h), fun _ => mgd 573 (by decide +kernel) rfl⟩, fun _ => ⟨mgd 575 (by decide +kernel) rfl, mgd 34 (by decide +kernel) rfl⟩, fun h => absurd h (by decide), fun h => absurd h (by decide), by decide⟩
theorem ca_3_105 : cfact 3 105 3 54 := ⟨(yX6_takeOut, cX6_takeOut, 3, none, 2, 6, 0, 0), rfl, ⟨fun _ => ⟨RX6, mns 577 (by decide +kernel) rfl⟩, fun h => by cases h⟩, fun h => absurd h (by decide), fun _ => mgd 578 (by decide +kernel) rfl, fun h => absurd h (by decide), by decide⟩
theorem ca_3_109 : cfact 3 109 7 0 := mgd 580 (by decide +kernel) rfl
theorem ca_3_112 : cfact 3 112 8 0 := mgd 581 (by decide +kernel) rfl
theorem cal3_ok : ∀ q ∈ cal3, cfact 3 q.1 q.2.1 q.2.2 := List.forall_mem_cons.mpr ⟨ca_3_3, List.forall_mem_cons.mpr ⟨ca_3_30, List.forall_mem_cons.mpr ⟨ca_3_34, List.forall_mem_cons.mpr ⟨ca_3_39, List.forall_mem_cons.mpr ⟨ca_3_43, List.forall_mem_cons.mpr ⟨ca_3_47, List.forall_mem_cons.mpr ⟨ca_3_51, List.forall_mem_cons.mpr ⟨ca_3_55, List.forall_mem_cons.mpr ⟨ca_3_59, List.forall_mem_cons.mpr ⟨ca_3_62, List.forall_mem_cons.mpr ⟨ca_3_66, List.forall_mem_cons.mpr ⟨ca_3_71, List.forall_mem_cons.mpr ⟨ca_3_74, List.forall_mem_cons.mpr ⟨ca_3_77, List.forall_mem_cons.mpr ⟨ca_3_80, List.forall_mem_cons.mpr ⟨ca_3_83, List.forall_mem_cons.mpr ⟨ca_3_86, List.forall_mem_cons.mpr ⟨ca_3_90, List.forall_mem_cons.mpr ⟨ca_3_94, List.forall_mem_cons.mpr ⟨ca_3_98, List.forall_mem_cons.mpr ⟨ca_3_101, List.forall_mem_cons.mpr ⟨ca_3_105, List.forall_mem_cons.mpr ⟨ca_3_109, List.forall_mem_cons.mpr ⟨ca_3_112, fun _ h => absurd h List.not_mem_nil⟩⟩⟩⟩⟩⟩⟩⟩⟩⟩⟩⟩⟩⟩⟩⟩⟩⟩⟩⟩⟩⟩⟩⟩
def cal4 : List (Nat × Nat × Nat) := [(3, 6, 0), (19, 3, 22), (26, 0, 96), (29, 0, 97), (33, 0, 100), (37, 0, 98), (44, 0, 99), (47, 0, 101), (50, 0, 103), (53, 0, 105), (56, 0, 102), (59, 3, 12), (75, 0, 104)]
theorem ca_4_3 : cfact 4 3 6 0 := mgd 256 (by decide +kernel) rfl
theorem ca_4_19 : cfact 4 19 3 22 := ⟨(yX6_put, cX6_put, 3, none, 3, 6, 0, 0), rfl, ⟨fun _ => ⟨RX6, mns 752 (by decide +kernel) rfl⟩, fun h => by cases h⟩, fun h => absurd h (by decide), fun _ => mgd 435 (by decide +kernel) rfl, fun h => absurd h (by decide), by decide⟩
theorem ca_4_26 : cfact 4 26 0 96 := ⟨(yX4_rewind, cX4_rewind, 1, none, 0, 4, 0, 0), rfl, ⟨fun h => (by cases h), fun _ => mgd 761 (by decide +kernel) rfl⟩, fun _ => ⟨mgd 763 (by decide +kernel) rfl, mgd 55 (by decide +kernel) rfl⟩, fun h => absurd h (by decide), fun h => absurd h (by decide), by decide⟩
theorem ca_4_29 : cfact 4 29 0 97 := ⟨(yX4_takeCommand, cX4_takeCommand, 1, (some FieldType.boolean), 0, 4, 0, 0), rfl, ⟨fun h => (by cases h), fun _ => mgd 765 (by decide +kernel) rfl⟩, fun _ => ⟨mgd 767 (by decide +kernel) rfl, mgd 56 (by decide +kernel) rfl⟩, fun h => absurd h (by decide), fun h => absurd h (by decide), by decide⟩
theorem ca_4_33 : cfact 4 33 0 100 := ⟨(yX4_takeSign, cX4_takeSign, 2, (some FieldType.boolean), 1, 4, 0, 0), rfl, ⟨fun h => (by cases h), fun _ => mgd 778 (by decide +kernel) rfl⟩, fun _ => ⟨mgd 780 (by decide +kernel) rfl, mgd 59 (by decide +kernel) rfl⟩, fun h => absurd h (by decide), fun h => absurd h (by decide), by decide⟩
theorem ca_4_37 : cfact 4 37 0 98 := ⟨(yX4_codeHere, cX4_codeHere, 1, (some FieldType.int), 0, 4, 0, 0), rfl, ⟨fun h => (by cases h), fun _ => mgd 769 (by decide +kernel) rfl⟩, fun _ => ⟨mgd 771 (by decide +kernel) rfl, mgd 57 (by decide +kernel) rfl⟩, fun h => absurd h (by decide), fun h => absurd h (by decide), by decide⟩
theorem ca_4_44 : cfact 4 44 0 99 := ⟨(yX4_takeSizes, cX4_takeSizes, 2, (some FieldType.boolean), 0, 4, 0, 0), rfl, ⟨fun h => (by cases h), fun _ => mgd 774 (by decide +kernel) rfl⟩, fun _ => ⟨mgd 776 (by decide +kernel) rfl, mgd 58 (by decide +kernel) rfl⟩, fun h => absurd h (by decide), fun h => absurd h (by decide), by decide⟩
theorem ca_4_47 : cfact 4 47 0 101 := ⟨(yX4_takeCreases, cX4_takeCreases, 2, (some FieldType.boolean), 0, 4, 0, 0), rfl, ⟨fun h => (by cases h), fun _ => mgd 782 (by decide +kernel) rfl⟩, fun _ => ⟨mgd 784 (by decide +kernel) rfl, mgd 60 (by decide +kernel) rfl⟩, fun h => absurd h (by decide), fun h => absurd h (by decide), by decide⟩
theorem ca_4_50 : cfact 4 50 0 103 := ⟨(yX4_takePiece, cX4_takePiece, 1, (some FieldType.boolean), 0, 4, 0, 0), rfl, ⟨fun h => (by cases h), fun _ => mgd 790 (by decide +kernel) rfl⟩, fun _ => ⟨mgd 792 (by decide +kernel) rfl, mgd 62 (by decide +kernel) rfl⟩, fun h => absurd h (by decide), fun h => absurd h (by decide), by decide⟩
theorem ca_4_53 : cfact 4 53 0 105 := ⟨(yX4_takeCrease, cX4_takeCrease, 1, (some FieldType.boolean), 0, 4, 0, 0), rfl, ⟨fun h => (by cases h), fun _ => mgd 798 (by decide +kernel) rfl⟩, fun _ => ⟨mgd 800 (by decide +kernel) rfl, mgd 64 (by decide +kernel) rfl⟩, fun h => absurd h (by decide), fun h => absurd h (by decide), by decide⟩
theorem ca_4_56 : cfact 4 56 0 102 := ⟨(yX4_takeKind, cX4_takeKind, 2, (some FieldType.boolean), 0, 4, 0, 0), rfl, ⟨fun h => (by cases h), fun _ => mgd 786 (by decide +kernel) rfl⟩, fun _ => ⟨mgd 788 (by decide +kernel) rfl, mgd 61 (by decide +kernel) rfl⟩, fun h => absurd h (by decide), fun h => absurd h (by decide), by decide⟩
theorem ca_4_59 : cfact 4 59 3 12 := ⟨(yX6_at, cX6_at, 2, (some FieldType.int), 2, 6, 0, 0), rfl, ⟨fun _ => ⟨RX6, mns 773 (by decide +kernel) rfl⟩, fun h => by cases h⟩, fun h => absurd h (by decide), fun _ => mgd 390 (by decide +kernel) rfl, fun h => absurd h (by decide), by decide⟩
theorem ca_4_75 : cfact 4 75 0 104 := ⟨(yX4_takeDigit, cX4_takeDigit, 1, (some FieldType.boolean), 0, 4, 0, 0), rfl, ⟨fun h => (by cases h), fun _ => mgd 794 (by decide +kernel) rfl⟩, fun _ => ⟨mgd 796 (by decide +kernel) rfl, mgd 63 (by decide +kernel) rfl⟩, fun h => absurd h (by decide), fun h => absurd h (by decide), by decide⟩
theorem cal4_ok : ∀ q ∈ cal4, cfact 4 q.1 q.2.1 q.2.2 := List.forall_mem_cons.mpr ⟨ca_4_3, List.forall_mem_cons.mpr ⟨ca_4_19, List.forall_mem_cons.mpr ⟨ca_4_26, List.forall_mem_cons.mpr ⟨ca_4_29, List.forall_mem_cons.mpr ⟨ca_4_33, List.forall_mem_cons.mpr ⟨ca_4_37, List.forall_mem_cons.mpr ⟨ca_4_44, List.forall_mem_cons.mpr ⟨ca_4_47, List.forall_mem_cons.mpr ⟨ca_4_50, List.forall_mem_cons.mpr ⟨ca_4_53, List.forall_mem_cons.mpr ⟨ca_4_56, List.forall_mem_cons.mpr ⟨ca_4_59, List.forall_mem_cons.mpr ⟨ca_4_75, fun _ h => absurd h List.not_mem_nil⟩⟩⟩⟩⟩⟩⟩⟩⟩⟩⟩⟩⟩
def cal5 : List (Nat × Nat × Nat) := [(3, 6, 0), (21, 5, 2), (28, 0, 9), (32, 1, 18), (40, 1, 10), (47, 1, 32)]
theorem ca_5_3 : cfact 5 3 6 0 := mgd 172 (by decide +kernel) rfl
theorem ca_5_21 : cfact 5 21 5 2 := ⟨(yX2_init, cX2_init, 1, none, 0, 2, 2, 16), rfl, ⟨fun _ => ⟨RX6, mns 176 (by decide +kernel) rfl⟩, fun h => by cases h⟩, fun h => absurd h (by decide), fun h => absurd h (by decide), fun _ => ⟨mgd 177 (by decide +kernel) rfl, rfl⟩, by decide⟩
theorem ca_5_28 : cfact 5 28 0 9 := ⟨(yX5_pieceAt, cX5_pieceAt, 2, (some (FieldType.object "FoldedTheatre$Piece")), 1, 5, 0, 0), rfl, ⟨fun h => (by cases h), fun _ => mgd 377 (by decide +kernel) rfl⟩, fun _ => ⟨mgd 379 (by decide +kernel) rfl, mgd 1 (by decide +kernel) rfl⟩, fun h => absurd h (by decide), fun h => absurd h (by decide), by decide⟩
theorem ca_5_32 : cfact 5 32 1 18 := ⟨(yX2_copyFrom, cX2_copyFrom, 2, none, 1, 2, 0, 0), rfl, ⟨fun _ => ⟨RX6, mns 418 (by decide +kernel) rfl⟩, fun h => by cases h⟩, fun _ => ⟨mgd 420 (by decide +kernel) rfl, mgd 9 (by decide +kernel) rfl⟩, fun h => absurd h (by decide), fun h => absurd h (by decide), by decide⟩
theorem ca_5_40 : cfact 5 40 1 10 := ⟨(yX2_width, cX2_width, 4, (some FieldType.int), 0, 2, 0, 0), rfl, ⟨fun _ => ⟨RX6, mns 381 (by decide +kernel) rfl⟩, fun h => by cases h⟩, fun _ => ⟨mgd 383 (by decide +kernel) rfl, mgd 2 (by decide +kernel) rfl⟩, fun h => absurd h (by decide), fun h => absurd h (by decide), by decide⟩
theorem ca_5_47 : cfact 5 47 1 32 := ⟨(yX2_countOf, cX2_countOf, 4, (some FieldType.int), 1, 2, 0, 0), rfl, ⟨fun _ => ⟨RX6, mns 848 (by decide +kernel) rfl⟩, fun h => by cases h⟩, fun _ => ⟨mgd 479 (by decide +kernel) rfl, mgd 17 (by decide +kernel) rfl⟩, fun h => absurd h (by decide), fun h => absurd h (by decide), by decide⟩
theorem cal5_ok : ∀ q ∈ cal5, cfact 5 q.1 q.2.1 q.2.2 := List.forall_mem_cons.mpr ⟨ca_5_3, List.forall_mem_cons.mpr ⟨ca_5_21, List.forall_mem_cons.mpr ⟨ca_5_28, List.forall_mem_cons.mpr ⟨ca_5_32, List.forall_mem_cons.mpr ⟨ca_5_40, List.forall_mem_cons.mpr ⟨ca_5_47, fun _ h => absurd h List.not_mem_nil⟩⟩⟩⟩⟩⟩
def cal6 : List (Nat × Nat × Nat) := [(1, 6, 0), (9, 5, 1), (24, 5, 3), (31, 5, 4), (38, 5, 5), (45, 5, 6), (52, 5, 2), (64, 1, 8), (68, 0, 14), (72, 1, 15), (79, 1, 21), (83, 1, 24), (90, 1, 27), (94, 1, 9), (98, 1, 29), (101, 2, 26), (112, 2, 12), (116, 2, 22), (120, 1, 31), (123, 1, 25), (126, 1, 32), (133, 1, 18), (136, 1, 34), (140, 1, 35), (144, 1, 37), (147, 1, 38), (151, 8, 0), (156, 1, 40), (159, 1, 42), (163, 1, 43), (166, 1, 44), (170, 1, 10), (175, 1, 23), (181, 2, 63), (184, 1, 64), (188, 1, 45), (191, 1, 52), (194, 1, 51), (197, 1, 76), (200, 1, 81), (203, 1, 13), (210, 1, 86), (213, 1, 91), (219, 1, 93), (222, 1, 95), (225, 1, 106), (228, 1, 17), (233, 1, 96), (236, 1, 97), (239, 0, 107), (242, 1, 100), (252, 1, 111), (255, 1, 112), (258, 1, 113), (261, 1, 114), (265, 2, 116), (269, 1, 118), (275, 1, 121), (284, 0, 20), (288, 0, 108), (294, 0, 28), (297, 0, 30), (300, 0, 41), (303, 0, 56), (306, 0, 57)]
theorem ca_6_1 : cfact 6 1 6 0 := mgd 164 (by decide +kernel) rfl
theorem ca_6_9 : cfact 6 9 5 1 := ⟨(yX5_init, cX5_init, 2, none, 0, 5, 25, 176), rfl, ⟨fun _ => ⟨RX6, mns 169 (by decide +kernel) rfl⟩, fun h => by cases h⟩, fun h => absurd h (by decide), fun h => absurd h (by decide), fun _ => ⟨mgd 170 (by decide +kernel) rfl, rfl⟩, by decide⟩
theorem ca_6_24 : cfact 6 24 5 3 := ⟨(yX0_init, cX0_init, 2, none, 0, 0, 209, 1448), rfl, ⟨fun _ => ⟨RX6, mns 229 (by decide +kernel) rfl⟩, fun h => by cases h⟩, fun h => absurd h (by decide), fun h => absurd h (by decide), fun _ => ⟨mgd 230 (by decide +kernel) rfl, rfl⟩, by decide⟩
theorem ca_6_31 : cfact 6 31 5 4 := ⟨(yX4_init, cX4_init, 1, none, 0, 4, 1, 80), rfl, ⟨fun _ => ⟨RX6, mns 253 (by decide +kernel) rfl⟩, fun h => by cases h⟩, fun h => absurd h (by decide), fun h => absurd h (by decide), fun _ => ⟨mgd 254 (by decide +kernel) rfl, rfl⟩, by decide⟩
theorem ca_6_38 : cfact 6 38 5 5 := ⟨(yX3_init, cX3_init, 1, none, 0, 3, 2, 16), rfl, ⟨fun _ => ⟨RX6, mns 290 (by decide +kernel) rfl⟩, fun h => by cases h⟩, fun h => absurd h (by decide), fun h => absurd h (by decide), fun _ => ⟨mgd 291 (by decide +kernel) rfl, rfl⟩, by decide⟩
theorem ca_6_45 : cfact 6 45 5 6 := ⟨(yX1_init, cX1_init, 1, none, 0, 1, 3, 24), rfl, ⟨fun _ => ⟨RX6, mns 309 (by decide +kernel) rfl⟩, fun h => by cases h⟩, fun h => absurd h (by decide), fun h => absurd h (by decide), fun _ => ⟨mgd 310 (by decide +kernel) rfl, rfl⟩, by decide⟩
theorem ca_6_52 : cfact 6 52 5 2 := ⟨(yX2_init, cX2_init, 1, none, 0, 2, 2, 16), rfl, ⟨fun _ => ⟨RX6, mns 328 (by decide +kernel) rfl⟩, fun h => by cases h⟩, fun h => absurd h (by decide), fun h => absurd h (by decide), fun _ => ⟨mgd 177 (by decide +kernel) rfl, rfl⟩, by decide⟩
theorem ca_6_64 : cfact 6 64 1 8 := ⟨(yX5_occupied, cX5_occupied, 4, (some FieldType.int), 0, 5, 0, 0), rfl, ⟨fun _ => ⟨RX6, mns 373 (by decide +kernel) rfl⟩, fun h => by cases h⟩, fun _ => ⟨mgd 375 (by decide +kernel) rfl, mgd 0 (by decide +kernel) rfl⟩, fun h => absurd h (by decide), fun h => absurd h (by decide), by decide⟩
theorem ca_6_68 : cfact 6 68 0 14 := ⟨(yX6_refuse, cX6_refuse, 3, (some FieldType.int), 2, 6, 0, 0), rfl, ⟨fun h => (by cases h), fun _ => mgd 402 (by decide +kernel) rfl⟩, fun _ => ⟨mgd 404 (by decide +kernel) rfl, mgd 5 (by decide +kernel) rfl⟩, fun h => absurd h (by decide), fun h => absurd h (by decide), by decide⟩
theorem ca_6_72 : cfact 6 72 1 15 := ⟨(yX0_push, cX0_push, 3, none, 1, 0, 0, 0), rfl, ⟨fun _ => ⟨RX6, mns 406 (by decide +kernel) rfl⟩, fun h => by cases h⟩, fun _ => ⟨mgd 408 (by decide +kernel) rfl, mgd 6 (by decide +kernel) rfl⟩, fun h => absurd h (by decide), fun h => absurd h (by decide), by decide⟩
theorem ca_6_79 : cfact 6 79 1 21 := ⟨(yX2_takeSizes, cX2_takeSizes, 5, (some FieldType.boolean), 2, 2, 0, 0), rfl, ⟨fun _ => ⟨RX6, mns 430 (by decide +kernel) rfl⟩, fun h => by cases h⟩, fun _ => ⟨mgd 432 (by decide +kernel) rfl, mgd 10 (by decide +kernel) rfl⟩, fun h => absurd h (by decide), fun h => absurd h (by decide), by decide⟩
theorem ca_6_83 : cfact 6 83 1 24 := ⟨(yX2_takeCreases, cX2_takeCreases, 5, (some FieldType.boolean), 1, 2, 0, 0), rfl, ⟨fun _ => ⟨RX6, mns 441 (by decide +kernel) rfl⟩, fun h => by cases h⟩, fun _ => ⟨mgd 443 (by decide +kernel) rfl, mgd 12 (by decide +kernel) rfl⟩, fun h => absurd h (by decide), fun h => absurd h (by decide), by decide⟩
theorem ca_6_90 : cfact 6 90 1 27 := ⟨(yX5_addCopyOf, cX5_addCopyOf, 3, none, 1, 5, 0, 0), rfl, ⟨fun _ => ⟨RX6, mns 452 (by decide +kernel) rfl⟩, fun h => by cases h⟩, fun _ => ⟨mgd 454 (by decide +kernel) rfl, mgd 14 (by decide +kernel) rfl⟩, fun h => absurd h (by decide), fun h => absurd h (by decide), by decide⟩
theorem ca_6_94 : cfact 6 94 1 9 := ⟨(yX5_pieceAt, cX5_pieceAt, 2, (some (FieldType.object "FoldedTheatre$Piece")), 1, 5, 0, 0), rfl, ⟨fun _ => ⟨RX6, mns 460 (by decide +kernel) rfl⟩, fun h => by cases h⟩, fun _ => ⟨mgd 379 (by decide +kernel) rfl, mgd 1 (by decide +kernel) rfl⟩, fun h => absurd h (by decide), fun h => absurd h (by decide), by decide⟩
theorem ca_6_98 : cfact 6 98 1 29 := ⟨(yX2_hasCrease, cX2_hasCrease, 2, (some FieldType.boolean), 1, 2, 0, 0), rfl, ⟨fun _ => ⟨RX6, mns 461 (by decide +kernel) rfl⟩, fun h => by cases h⟩, fun _ => ⟨mgd 463 (by decide +kernel) rfl, mgd 15 (by decide +kernel) rfl⟩, fun h => absurd h (by decide), fun h => absurd h (by decide), by decide⟩
theorem ca_6_101 : cfact 6 101 2 26 := ⟨(yX6_isCreaseKind, cX6_isCreaseKind, 1, (some FieldType.boolean), 1, 6, 0, 0), rfl, ⟨fun h => (by cases h), fun _ => mgd 465 (by decide +kernel) rfl⟩, fun h => absurd h (by decide), fun _ => mgd 450 (by decide +kernel) rfl, fun h => absurd h (by decide), by decide⟩
theorem ca_6_112 : cfact 6 112 2 12 := ⟨(yX6_at, cX6_at, 2, (some FieldType.int), 2, 6, 0, 0), rfl, ⟨fun h => (by cases h), fun _ => mgd 466 (by decide +kernel) rfl⟩, fun h => absurd h (by decide), fun _ => mgd 390 (by decide +kernel) rfl, fun h => absurd h (by decide), by decide⟩
theorem ca_6_116 : cfact 6 116 2 22 := ⟨(yX6_put, cX6_put, 3, none, 3, 6, 0, 0), rfl, ⟨fun h => (by cases h), fun _ => mgd 467 (by decide +kernel) rfl⟩, fun h => absurd h (by decide), fun _ => mgd 435 (by decide +kernel) rfl, fun h => absurd h (by decide), by decide⟩
theorem ca_6_120 : cfact 6 120 1 31 := ⟨(yX2_turnOver, cX2_turnOver, 3, none, 0, 2, 0, 0), rfl, ⟨fun _ => ⟨RX6, mns 472 (by decide +kernel) rfl⟩, fun h => by cases h⟩, fun _ => ⟨mgd 474 (by decide +kernel) rfl, mgd 16 (by decide +kernel) rfl⟩, fun h => absurd h (by decide), fun h => absurd h (by decide), by decide⟩
theorem ca_6_123 : cfact 6 123 1 25 := ⟨(yX2_creaseCount, cX2_creaseCount, 1, (some FieldType.int), 0, 2, 0, 0), rfl, ⟨fun _ => ⟨RX6, mns 476 (by decide +kernel) rfl⟩, fun h => by cases h⟩, fun _ => ⟨mgd 447 (by decide +kernel) rfl, mgd 13 (by decide +kernel) rfl⟩, fun h => absurd h (by decide), fun h => absurd h (by decide), by decide⟩
theorem ca_6_126 : cfact 6 126 1 32 := ⟨(yX2_countOf, cX2_countOf, 4, (some FieldType.int), 1, 2, 0, 0), rfl, ⟨fun _ => ⟨RX6, mns 477 (by decide +kernel) rfl⟩, fun h => by cases h⟩, fun _ => ⟨mgd 479 (by decide +kernel) rfl, mgd 17 (by decide +kernel) rfl⟩, fun h => absurd h (by decide), fun h => absurd h (by decide), by decide⟩
theorem ca_6_133 : cfact 6 133 1 18 := ⟨(yX2_copyFrom, cX2_copyFrom, 2, none, 1, 2, 0, 0), rfl, ⟨fun _ => ⟨RX6, mns 485 (by decide +kernel) rfl⟩, fun h => by cases h⟩, fun _ => ⟨mgd 420 (by decide +kernel) rfl, mgd 9 (by decide +kernel) rfl⟩, fun h => absurd h (by decide), fun h => absurd h (by decide), by decide⟩
theorem ca_6_136 : cfact 6 136 1 34 := ⟨(yX2_becomeRotated, cX2_becomeRotated, 5, none, 2, 2, 0, 0), rfl, ⟨fun _ => ⟨RX6, mns 486 (by decide +kernel) rfl⟩, fun h => by cases h⟩, fun _ => ⟨mgd 488 (by decide +kernel) rfl, mgd 18 (by decide +kernel) rfl⟩, fun h => absurd h (by decide), fun h => absurd h (by decide), by decide⟩
theorem ca_6_140 : cfact 6 140 1 35 := ⟨(yX2_sizesAsNumber, cX2_sizesAsNumber, 3, (some FieldType.int), 0, 2, 0, 0), rfl, ⟨fun _ => ⟨RX6, mns 490 (by decide +kernel) rfl⟩, fun h => by cases h⟩, fun _ => ⟨mgd 492 (by decide +kernel) rfl, mgd 19 (by decide +kernel) rfl⟩, fun h => absurd h (by decide), fun h => absurd h (by decide), by decide⟩
theorem ca_6_144 : cfact 6 144 1 37 := ⟨(yX2_lengthenBy, cX2_lengthenBy, 4, none, 2, 2, 0, 0), rfl, ⟨fun _ => ⟨RX6, mns 498 (by decide +kernel) rfl⟩, fun h => by cases h⟩, fun _ => ⟨mgd 500 (by decide +kernel) rfl, mgd 20 (by decide +kernel) rfl⟩, fun h => absurd h (by decide), fun h => absurd h (by decide), by decide⟩
theorem ca_6_147 : cfact 6 147 1 38 := ⟨(yX5_removeAt, cX5_removeAt, 5, none, 1, 5, 0, 0), rfl, ⟨fun _ => ⟨RX6, mns 502 (by decide +kernel) rfl⟩, fun h => by cases h⟩, fun _ => ⟨mgd 504 (by decide +kernel) rfl, mgd 21 (by decide +kernel) rfl⟩, fun h => absurd h (by decide), fun h => absurd h (by decide), by decide⟩
theorem ca_6_151 : cfact 6 151 8 0 := mgd 510 (by decide +kernel) rfl
theorem ca_6_156 : cfact 6 156 1 40 := ⟨(yX2_becomeEndOf, cX2_becomeEndOf, 4, none, 2, 2, 0, 0), rfl, ⟨fun _ => ⟨RX6, mns 511 (by decide +kernel) rfl⟩, fun h => by cases h⟩, fun _ => ⟨mgd 513 (by decide +kernel) rfl, mgd 22 (by decide +kernel) rfl⟩, fun h => absurd h (by decide), fun h => absurd h (by decide), by decide⟩
theorem ca_6_159 : cfact 6 159 1 42 := ⟨(yX2_isUndecided, cX2_isUndecided, 1, (some FieldType.boolean), 0, 2, 0, 0), rfl, ⟨fun _ => ⟨RX6, mns 519 (by decide +kernel) rfl⟩, fun h => by cases h⟩, fun _ => ⟨mgd 521 (by decide +kernel) rfl, mgd 23 (by decide +kernel) rfl⟩, fun h => absurd h (by decide), fun h => absurd h (by decide), by decide⟩
theorem ca_6_163 : cfact 6 163 1 43 := ⟨(yX2_lowestUndecided, cX2_lowestUndecided, 3, (some FieldType.int), 0, 2, 0, 0), rfl, ⟨fun _ => ⟨RX6, mns 524 (by decide +kernel) rfl⟩, fun h => by cases h⟩, fun _ => ⟨mgd 526 (by decide +kernel) rfl, mgd 24 (by decide +kernel) rfl⟩, fun h => absurd h (by decide), fun h => absurd h (by decide), by decide⟩
theorem ca_6_166 : cfact 6 166 1 44 := ⟨(yX3_whatStandsInTheWay, cX3_whatStandsInTheWay, 2, (some FieldType.int), 1, 3, 0, 0), rfl, ⟨fun _ => ⟨RX6, mns 528 (by decide +kernel) rfl⟩, fun h => by cases h⟩, fun _ => ⟨mgd 530 (by decide +kernel) rfl, mgd 25 (by decide +kernel) rfl⟩, fun h => absurd h (by decide), fun h => absurd h (by decide), by decide⟩
theorem ca_6_170 : cfact 6 170 1 10 := ⟨(yX2_width, cX2_width, 4, (some FieldType.int), 0, 2, 0, 0), rfl, ⟨fun _ => ⟨RX6, mns 586 (by decide +kernel) rfl⟩, fun h => by cases h⟩, fun _ => ⟨mgd 383 (by decide +kernel) rfl, mgd 2 (by decide +kernel) rfl⟩, fun h => absurd h (by decide), fun h => absurd h (by decide), by decide⟩
theorem ca_6_175 : cfact 6 175 1 23 := ⟨(yX2_sum, cX2_sum, 3, (some FieldType.int), 0, 2, 0, 0), rfl, ⟨fun _ => ⟨RX6, mns 599 (by decide +kernel) rfl⟩, fun h => by cases h⟩, fun _ => ⟨mgd 439 (by decide +kernel) rfl, mgd 11 (by decide +kernel) rfl⟩, fun h => absurd h (by decide), fun h => absurd h (by decide), by decide⟩
theorem ca_6_181 : cfact 6 181 2 63 := ⟨(yX6_errorOfDecidedStrip, cX6_errorOfDecidedStrip, 1, (some FieldType.int), 1, 6, 0, 0), rfl, ⟨fun h => (by cases h), fun _ => mgd 616 (by decide +kernel) rfl⟩, fun h => absurd h (by decide), fun _ => mgd 617 (by decide +kernel) rfl, fun h => absurd h (by decide), by decide⟩
theorem ca_6_184 : cfact 6 184 1 64 := ⟨(yX1_search, cX1_search, 7, (some FieldType.int), 2, 1, 0, 0), rfl, ⟨fun _ => ⟨RX6, mns 619 (by decide +kernel) rfl⟩, fun h => by cases h⟩, fun _ => ⟨mgd 621 (by decide +kernel) rfl, mgd 36 (by decide +kernel) rfl⟩, fun h => absurd h (by decide), fun h => absurd h (by decide), by decide⟩
theorem ca_6_188 : cfact 6 188 1 45 := ⟨(yX3_load, cX3_load, 3, none, 1, 3, 0, 0), rfl, ⟨fun _ => ⟨RX6, mns 666 (by decide +kernel) rfl⟩, fun h => by cases h⟩, fun _ => ⟨mgd 535 (by decide +kernel) rfl, mgd 26 (by decide +kernel) rfl⟩, fun h => absurd h (by decide), fun h => absurd h (by decide), by decide⟩
theorem ca_6_191 : cfact 6 191 1 52 := ⟨(yX3_firstStep, cX3_firstStep, 5, (some FieldType.int), 0, 3, 0, 0), rfl, ⟨fun _ => ⟨RX6, mns 667 (by decide +kernel) rfl⟩, fun h => by cases h⟩, fun _ => ⟨mgd 571 (by decide +kernel) rfl, mgd 33 (by decide +kernel) rfl⟩, fun h => absurd h (by decide), fun h => absurd h (by decide), by decide⟩
theorem ca_6_194 : cfact 6 194 1 51 := ⟨(yX3_reduce, cX3_reduce, 3, (some FieldType.int), 0, 3, 0, 0), rfl, ⟨fun _ => ⟨RX6, mns 672 (by decide +kernel) rfl⟩, fun h => by cases h⟩, fun _ => ⟨mgd 567 (by decide +kernel) rfl, mgd 32 (by decide +kernel) rfl⟩, fun h => absurd h (by decide), fun h => absurd h (by decide), by decide⟩
theorem ca_6_197 : cfact 6 197 1 76 := ⟨(yX3_countWays, cX3_countWays, 4, (some FieldType.int), 1, 3, 0, 0), rfl, ⟨fun _ => ⟨RX6, mns 677 (by decide +kernel) rfl⟩, fun h => by cases h⟩, fun _ => ⟨mgd 679 (by decide +kernel) rfl, mgd 45 (by decide +kernel) rfl⟩, fun h => absurd h (by decide), fun h => absurd h (by decide), by decide⟩
theorem ca_6_200 : cfact 6 200 1 81 := ⟨(yX3_fewestChanges, cX3_fewestChanges, 5, (some FieldType.int), 1, 3, 0, 0), rfl, ⟨fun _ => ⟨RX6, mns 695 (by decide +kernel) rfl⟩, fun h => by cases h⟩, fun _ => ⟨mgd 697 (by decide +kernel) rfl, mgd 47 (by decide +kernel) rfl⟩, fun h => absurd h (by decide), fun h => absurd h (by decide), by decide⟩
theorem ca_6_203 : cfact 6 203 1 13 := ⟨(yX2_placeOf, cX2_placeOf, 4, (some FieldType.int), 1, 2, 0, 0), rfl, ⟨fun _ => ⟨RX6, mns 703 (by decide +kernel) rfl⟩, fun h => by cases h⟩, fun _ => ⟨mgd 397 (by decide +kernel) rfl, mgd 4 (by decide +kernel) rfl⟩, fun h => absurd h (by decide), fun h => absurd h (by decide), by decide⟩
theorem ca_6_210 : cfact 6 210 1 86 := ⟨(yX2_thickness, cX2_thickness, 3, (some FieldType.int), 0, 2, 0, 0), rfl, ⟨fun _ => ⟨RX6, mns 717 (by decide +kernel) rfl⟩, fun h => by cases h⟩, fun _ => ⟨mgd 719 (by decide +kernel) rfl, mgd 48 (by decide +kernel) rfl⟩, fun h => absurd h (by decide), fun h => absurd h (by decide), by decide⟩
theorem ca_6_213 : cfact 6 213 1 91 := ⟨(yX2_reflection, cX2_reflection, 4, (some FieldType.int), 0, 2, 0, 0), rfl, ⟨fun _ => ⟨RX6, mns 737 (by decide +kernel) rfl⟩, fun h => by cases h⟩, fun _ => ⟨mgd 739 (by decide +kernel) rfl, mgd 52 (by decide +kernel) rfl⟩, fun h => absurd h (by decide), fun h => absurd h (by decide), by decide⟩
theorem ca_6_219 : cfact 6 219 1 93 := ⟨(yX4_write, cX4_write, 2, none, 1, 4, 0, 0), rfl, ⟨fun _ => ⟨RX6, mns 748 (by decide +kernel) rfl⟩, fun h => by cases h⟩, fun _ => ⟨mgd 750 (by decide +kernel) rfl, mgd 53 (by decide +kernel) rfl⟩, fun h => absurd h (by decide), fun h => absurd h (by decide), by decide⟩
theorem ca_6_222 : cfact 6 222 1 95 := ⟨(yX4_faultPosition, cX4_faultPosition, 2, (some FieldType.int), 0, 4, 0, 0), rfl, ⟨fun _ => ⟨RX6, mns 757 (by decide +kernel) rfl⟩, fun h => by cases h⟩, fun _ => ⟨mgd 759 (by decide +kernel) rfl, mgd 54 (by decide +kernel) rfl⟩, fun h => absurd h (by decide), fun h => absurd h (by decide), by decide⟩
theorem ca_6_225 : cfact 6 225 1 106 := ⟨(yX4_clear, cX4_clear, 1, none, 0, 4, 0, 0), rfl, ⟨fun _ => ⟨RX6, mns 802 (by decide +kernel) rfl⟩, fun h => by cases h⟩, fun _ => ⟨mgd 804 (by decide +kernel) rfl, mgd 65 (by decide +kernel) rfl⟩, fun h => absurd h (by decide), fun h => absurd h (by decide), by decide⟩
theorem ca_6_228 : cfact 6 228 1 17 := ⟨(yX5_copyFrom, cX5_copyFrom, 5, none, 1, 5, 0, 0), rfl, ⟨fun _ => ⟨RX6, mns 806 (by decide +kernel) rfl⟩, fun h => by cases h⟩, fun _ => ⟨mgd 416 (by decide +kernel) rfl, mgd 8 (by decide +kernel) rfl⟩, fun h => absurd h (by decide), fun h => absurd h (by decide), by decide⟩
theorem ca_6_233 : cfact 6 233 1 96 := ⟨(yX4_rewind, cX4_rewind, 1, none, 0, 4, 0, 0), rfl, ⟨fun _ => ⟨RX6, mns 807 (by decide +kernel) rfl⟩, fun h => by cases h⟩, fun _ => ⟨mgd 763 (by decide +kernel) rfl, mgd 55 (by decide +kernel) rfl⟩, fun h => absurd h (by decide), fun h => absurd h (by decide), by decide⟩
theorem ca_6_236 : cfact 6 236 1 97 := ⟨(yX4_takeCommand, cX4_takeCommand, 1, (some FieldType.boolean), 0, 4, 0, 0), rfl, ⟨fun _ => ⟨RX6, mns 808 (by decide +kernel) rfl⟩, fun h => by cases h⟩, fun _ => ⟨mgd 767 (by decide +kernel) rfl, mgd 56 (by decide +kernel) rfl⟩, fun h => absurd h (by decide), fun h => absurd h (by decide), by decide⟩
theorem ca_6_239 : cfact 6 239 0 107 := ⟨(yX6_perform, cX6_perform, 1, (some FieldType.int), 0, 6, 0, 0), rfl, ⟨fun h => (by cases h), fun _ => mgd 809 (by decide +kernel) rfl⟩, fun _ => ⟨mgd 811 (by decide +kernel) rfl, mgd 66 (by decide +kernel) rfl⟩, fun h => absurd h (by decide), fun h => absurd h (by decide), by decide⟩
theorem ca_6_242 : cfact 6 242 1 100 := ⟨(yX4_takeSign, cX4_takeSign, 2, (some FieldType.boolean), 1, 4, 0, 0), rfl, ⟨fun _ => ⟨RX6, mns 823 (by decide +kernel) rfl⟩, fun h => by cases h⟩, fun _ => ⟨mgd 780 (by decide +kernel) rfl, mgd 59 (by decide +kernel) rfl⟩, fun h => absurd h (by decide), fun h => absurd h (by decide), by decide⟩
theorem ca_6_252 : cfact 6 252 1 111 := ⟨(yX5_countOfKind, cX5_countOfKind, 5, (some FieldType.int), 1, 5, 0, 0), rfl, ⟨fun _ => ⟨RX6, mns 832 (by decide +kernel) rfl⟩, fun h => by cases h⟩, fun _ => ⟨mgd 834 (by decide +kernel) rfl, mgd 68 (by decide +kernel) rfl⟩, fun h => absurd h (by decide), fun h => absurd h (by decide), by decide⟩
theorem ca_6_255 : cfact 6 255 1 112 := ⟨(yX5_foldedCount, cX5_foldedCount, 4, (some FieldType.int), 0, 5, 0, 0), rfl, ⟨fun _ => ⟨RX6, mns 836 (by decide +kernel) rfl⟩, fun h => by cases h⟩, fun _ => ⟨mgd 838 (by decide +kernel) rfl, mgd 69 (by decide +kernel) rfl⟩, fun h => absurd h (by decide), fun h => absurd h (by decide), by decide⟩
theorem ca_6_258 : cfact 6 258 1 113 := ⟨(yX5_panelCount, cX5_panelCount, 4, (some FieldType.int), 0, 5, 0, 0), rfl, ⟨fun _ => ⟨RX6, mns 840 (by decide +kernel) rfl⟩, fun h => by cases h⟩, fun _ => ⟨mgd 842 (by decide +kernel) rfl, mgd 70 (by decide +kernel) rfl⟩, fun h => absurd h (by decide), fun h => absurd h (by decide), by decide⟩
theorem ca_6_261 : cfact 6 261 1 114 := ⟨(yX5_creasesOf, cX5_creasesOf, 5, (some FieldType.int), 1, 5, 0, 0), rfl, ⟨fun _ => ⟨RX6, mns 844 (by decide +kernel) rfl⟩, fun h => by cases h⟩, fun _ => ⟨mgd 846 (by decide +kernel) rfl, mgd 71 (by decide +kernel) rfl⟩, fun h => absurd h (by decide), fun h => absurd h (by decide), by decide⟩
theorem ca_6_265 : cfact 6 265 2 116 := ⟨(yX6_bitsOf, cX6_bitsOf, 4, (some FieldType.int), 1, 6, 0, 0), rfl, ⟨fun h => (by cases h), fun _ => mgd 853 (by decide +kernel) rfl⟩, fun h => absurd h (by decide), fun _ => mgd 854 (by decide +kernel) rfl, fun h => absurd h (by decide), by decide⟩
theorem ca_6_269 : cfact 6 269 1 118 := ⟨(yX0_pop, cX0_pop, 3, none, 1, 0, 0, 0), rfl, ⟨fun _ => ⟨RX6, mns 861 (by decide +kernel) rfl⟩, fun h => by cases h⟩, fun _ => ⟨mgd 863 (by decide +kernel) rfl, mgd 72 (by decide +kernel) rfl⟩, fun h => absurd h (by decide), fun h => absurd h (by decide), by decide⟩
theorem ca_6_275 : cfact 6 275 1 121 := ⟨(yX0_clear, cX0_clear, 1, none, 0, 0, 0, 0), rfl, ⟨fun _ => ⟨RX6, mns 873 (by decide +kernel) rfl⟩, fun h => by cases h⟩, fun _ => ⟨mgd 875 (by decide +kernel) rfl, mgd 73 (by decide +kernel) rfl⟩, fun h => absurd h (by decide), fun h => absurd h (by decide), by decide⟩
theorem ca_6_284 : cfact 6 284 0 20 := ⟨(yX6_add, cX6_add, 4, (some FieldType.int), 3, 6, 0, 0), rfl, ⟨fun h => (by cases h), fun _ => mgd 813 (by decide +kernel) rfl⟩, fun _ => ⟨mgd 427 (by decide +kernel) rfl, mgd 428 (by decide +kernel) rfl⟩, fun h => absurd h (by decide), fun h => absurd h (by decide), by decide⟩
theorem ca_6_288 : cfact 6 288 0 108 := ⟨(yX6_withCreasesAsTold, cX6_withCreasesAsTold, 3, (some FieldType.int), 1, 6, 0, 0), rfl, ⟨fun h => (by cases h), fun _ => mgd 814 (by decide +kernel) rfl⟩, fun _ => ⟨mgd 816 (by decide +kernel) rfl, mgd 67 (by decide +kernel) rfl⟩, fun h => absurd h (by decide), fun h => absurd h (by decide), by decide⟩
theorem ca_6_294 : cfact 6 294 0 28 := ⟨(yX6_mark, cX6_mark, 6, (some FieldType.int), 3, 6, 0, 0), rfl, ⟨fun h => (by cases h), fun _ => mgd 818 (by decide +kernel) rfl⟩, fun _ => ⟨mgd 457 (by decide +kernel) rfl, mgd 458 (by decide +kernel) rfl⟩, fun h => absurd h (by decide), fun h => absurd h (by decide), by decide⟩
theorem ca_6_297 : cfact 6 297 0 30 := ⟨(yX6_turn, cX6_turn, 3, (some FieldType.int), 1, 6, 0, 0), rfl, ⟨fun h => (by cases h), fun _ => mgd 819 (by decide +kernel) rfl⟩, fun _ => ⟨mgd 469 (by decide +kernel) rfl, mgd 470 (by decide +kernel) rfl⟩, fun h => absurd h (by decide), fun h => absurd h (by decide), by decide⟩
theorem ca_6_300 : cfact 6 300 0 41 := ⟨(yX6_fold, cX6_fold, 6, (some FieldType.int), 1, 6, 0, 0), rfl, ⟨fun h => (by cases h), fun _ => mgd 820 (by decide +kernel) rfl⟩, fun _ => ⟨mgd 516 (by decide +kernel) rfl, mgd 517 (by decide +kernel) rfl⟩, fun h => absurd h (by decide), fun h => absurd h (by decide), by decide⟩
theorem ca_6_303 : cfact 6 303 0 56 := ⟨(yX6_unfold, cX6_unfold, 3, (some FieldType.int), 1, 6, 0, 0), rfl, ⟨fun h => (by cases h), fun _ => mgd 821 (by decide +kernel) rfl⟩, fun _ => ⟨mgd 588 (by decide +kernel) rfl, mgd 589 (by decide +kernel) rfl⟩, fun h => absurd h (by decide), fun h => absurd h (by decide), by decide⟩
theorem ca_6_306 : cfact 6 306 0 57 := ⟨(yX6_drop, cX6_drop, 2, (some FieldType.int), 1, 6, 0, 0), rfl, ⟨fun h => (by cases h), fun _ => mgd 822 (by decide +kernel) rfl⟩, fun _ => ⟨mgd 592 (by decide +kernel) rfl, mgd 593 (by decide +kernel) rfl⟩, fun h => absurd h (by decide), fun h => absurd h (by decide), by decide⟩
theorem cal6_ok : ∀ q ∈ cal6, cfact 6 q.1 q.2.1 q.2.2 := List.forall_mem_cons.mpr ⟨ca_6_1, List.forall_mem_cons.mpr ⟨ca_6_9, List.forall_mem_cons.mpr ⟨ca_6_24, List.forall_mem_cons.mpr ⟨ca_6_31, List.forall_mem_cons.mpr ⟨ca_6_38, List.forall_mem_cons.mpr ⟨ca_6_45, List.forall_mem_cons.mpr ⟨ca_6_52, List.forall_mem_cons.mpr ⟨ca_6_64, List.forall_mem_cons.mpr ⟨ca_6_68, List.forall_mem_cons.mpr ⟨ca_6_72, List.forall_mem_cons.mpr ⟨ca_6_79, List.forall_mem_cons.mpr ⟨ca_6_83, List.forall_mem_cons.mpr ⟨ca_6_90, List.forall_mem_cons.mpr ⟨ca_6_94, List.forall_mem_cons.mpr ⟨ca_6_98, List.forall_mem_cons.mpr ⟨ca_6_101, List.forall_mem_cons.mpr ⟨ca_6_112, List.forall_mem_cons.mpr ⟨ca_6_116, List.forall_mem_cons.mpr ⟨ca_6_120, List.forall_mem_cons.mpr ⟨ca_6_123, List.forall_mem_cons.mpr ⟨ca_6_126, List.forall_mem_cons.mpr ⟨ca_6_133, List.forall_mem_cons.mpr ⟨ca_6_136, List.forall_mem_cons.mpr ⟨ca_6_140, List.forall_mem_cons.mpr ⟨ca_6_144, List.forall_mem_cons.mpr ⟨ca_6_147, List.forall_mem_cons.mpr ⟨ca_6_151, List.forall_mem_cons.mpr ⟨ca_6_156, List.forall_mem_cons.mpr ⟨ca_6_159, List.forall_mem_cons.mpr ⟨ca_6_163, List.forall_mem_cons.mpr ⟨ca_6_166, List.forall_mem_cons.mpr ⟨ca_6_170, List.forall_mem_cons.mpr ⟨ca_6_175, List.forall_mem_cons.mpr ⟨ca_6_181, List.forall_mem_cons.mpr ⟨ca_6_184, List.forall_mem_cons.mpr ⟨ca_6_188, List.forall_mem_cons.mpr ⟨ca_6_191, List.forall_mem_cons.mpr ⟨ca_6_194, List.forall_mem_cons.mpr ⟨ca_6_197, List.forall_mem_cons.mpr ⟨ca_6_200, List.forall_mem_cons.mpr ⟨ca_6_203, List.forall_mem_cons.mpr ⟨ca_6_210, List.forall_mem_cons.mpr ⟨ca_6_213, List.forall_mem_cons.mpr ⟨ca_6_219, List.forall_mem_cons.mpr ⟨ca_6_222, List.forall_mem_cons.mpr ⟨ca_6_225, List.forall_mem_cons.mpr ⟨ca_6_228, List.forall_mem_cons.mpr ⟨ca_6_233, List.forall_mem_cons.mpr ⟨ca_6_236, List.forall_mem_cons.mpr ⟨ca_6_239, List.forall_mem_cons.mpr ⟨ca_6_242, List.forall_mem_cons.mpr ⟨ca_6_252, List.forall_mem_cons.mpr ⟨ca_6_255, List.forall_mem_cons.mpr ⟨ca_6_258, List.forall_mem_cons.mpr ⟨ca_6_261, List.forall_mem_cons.mpr ⟨ca_6_265, List.forall_mem_cons.mpr ⟨ca_6_269, List.forall_mem_cons.mpr ⟨ca_6_275, List.forall_mem_cons.mpr ⟨ca_6_284, List.forall_mem_cons.mpr ⟨ca_6_288, List.forall_mem_cons.mpr ⟨ca_6_294, List.forall_mem_cons.mpr ⟨ca_6_297, List.forall_mem_cons.mpr ⟨ca_6_300, List.forall_mem_cons.mpr ⟨ca_6_303, List.forall_mem_cons.mpr ⟨ca_6_306, fun _ h => absurd h List.not_mem_nil⟩⟩⟩⟩⟩⟩⟩⟩⟩⟩⟩⟩⟩⟩⟩⟩⟩⟩⟩⟩⟩⟩⟩⟩⟩⟩⟩⟩⟩⟩⟩⟩⟩⟩⟩⟩⟩⟩⟩⟩⟩⟩⟩⟩⟩⟩⟩⟩⟩⟩⟩⟩⟩⟩⟩⟩⟩⟩⟩⟩⟩⟩⟩⟩⟩
def cal7 : List (Nat × Nat × Nat) := [(3, 6, 0), (54, 2, 125), (61, 2, 127), (65, 0, 140), (74, 2, 135), (78, 0, 137), (81, 0, 138), (85, 0, 144), (88, 0, 136), (92, 0, 146), (95, 2, 129), (98, 0, 131), (101, 0, 134), (104, 0, 128), (107, 0, 130), (111, 0, 132), (114, 0, 133), (117, 0, 124), (120, 0, 126), (124, 0, 139), (127, 0, 143), (130, 0, 145), (133, 0, 142), (136, 0, 149), (139, 0, 148), (142, 0, 152), (145, 0, 151), (148, 0, 155), (152, 0, 154), (155, 2, 158), (158, 0, 157), (168, 0, 168), (172, 0, 170), (175, 0, 171), (178, 2, 173), (181, 0, 172), (184, 0, 174), (187, 0, 167), (190, 0, 169), (193, 0, 166), (196, 0, 164), (199, 0, 165), (203, 0, 161), (206, 0, 162), (209, 0, 163), (212, 0, 160), (215, 0, 180), (219, 0, 178), (222, 0, 179), (225, 0, 186), (228, 0, 185), (231, 0, 184), (234, 0, 183), (237, 0, 189), (240, 0, 188), (243, 0, 191), (246, 0, 193), (249, 0, 195), (258, 0, 204), (261, 0, 205), (264, 0, 203), (267, 0, 202), (273, 0, 206), (276, 0, 201), (279, 0, 199), (282, 0, 200), (285, 0, 209), (288, 0, 212), (297, 0, 218), (309, 2, 222), (312, 0, 220), (315, 0, 223), (324, 0, 219), (327, 0, 221), (330, 0, 224), (333, 0, 217), (336, 0, 227), (339, 0, 226), (342, 0, 216), (345, 0, 225), (348, 0, 194), (351, 0, 230), (354, 0, 231), (357, 2, 237)]
theorem ca_7_3 : cfact 7 3 6 0 := mgd 882 (by decide +kernel) rfl
theorem ca_7_54 : cfact 7 54 2 125 := ⟨(yX7_copies, cX7_copies, 5, none, 4, 7, 0, 0), rfl, ⟨fun h => (by cases h), fun _ => mgd 983 (by decide +kernel) rfl⟩, fun h => absurd h (by decide), fun _ => mgd 984 (by decide +kernel) rfl, fun h => absurd h (by decide), by decide⟩
theorem ca_7_61 : cfact 7 61 2 127 := ⟨(yX7_isIn, cX7_isIn, 3, (some FieldType.boolean), 3, 7, 0, 0), rfl, ⟨fun h => (by cases h), fun _ => mgd 990 (by decide +kernel) rfl⟩, fun h => absurd h (by decide), fun _ => mgd 991 (by decide +kernel) rfl, fun h => absurd h (by decide), by decide⟩
theorem ca_7_65 : cfact 7 65 0 140 := ⟨(yX7_changed, cX7_changed, 2, none, 0, 7, 0, 0), rfl, ⟨fun h => (by cases h), fun _ => mgd 1039 (by decide +kernel) rfl⟩, fun _ => ⟨mgd 1041 (by decide +kernel) rfl, mgd 86 (by decide +kernel) rfl⟩, fun h => absurd h (by decide), fun h => absurd h (by decide), by decide⟩
theorem ca_7_74 : cfact 7 74 2 135 := ⟨(yX7_at, cX7_at, 2, (some FieldType.int), 2, 7, 0, 0), rfl, ⟨fun h => (by cases h), fun _ => mgd 1020 (by decide +kernel) rfl⟩, fun h => absurd h (by decide), fun _ => mgd 1021 (by decide +kernel) rfl, fun h => absurd h (by decide), by decide⟩
theorem ca_7_78 : cfact 7 78 0 137 := ⟨(yX7_of, cX7_of, 3, (some FieldType.int), 2, 7, 0, 0), rfl, ⟨fun h => (by cases h), fun _ => mgd 1027 (by decide +kernel) rfl⟩, fun _ => ⟨mgd 1029 (by decide +kernel) rfl, mgd 83 (by decide +kernel) rfl⟩, fun h => absurd h (by decide), fun h => absurd h (by decide), by decide⟩
theorem ca_7_81 : cfact 7 81 0 138 := ⟨(yX7_isCorner, cX7_isCorner, 2, (some FieldType.boolean), 1, 7, 0, 0), rfl, ⟨fun h => (by cases h), fun _ => mgd 1031 (by decide +kernel) rfl⟩, fun _ => ⟨mgd 1033 (by decide +kernel) rfl, mgd 84 (by decide +kernel) rfl⟩, fun h => absurd h (by decide), fun h => absurd h (by decide), by decide⟩
theorem ca_7_85 : cfact 7 85 0 144 := ⟨(yX7_isPiece, cX7_isPiece, 2, (some FieldType.boolean), 1, 7, 0, 0), rfl, ⟨fun h => (by cases h), fun _ => mgd 1055 (by decide +kernel) rfl⟩, fun _ => ⟨mgd 1057 (by decide +kernel) rfl, mgd 89 (by decide +kernel) rfl⟩, fun h => absurd h (by decide), fun h => absurd h (by decide), by decide⟩
theorem ca_7_88 : cfact 7 88 0 136 := ⟨(yX7_creases, cX7_creases, 2, (some FieldType.int), 1, 7, 0, 0), rfl, ⟨fun h => (by cases h), fun _ => mgd 1023 (by decide +kernel) rfl⟩, fun _ => ⟨mgd 1025 (by decide +kernel) rfl, mgd 82 (by decide +kernel) rfl⟩, fun h => absurd h (by decide), fun h => absurd h (by decide), by decide⟩
theorem ca_7_92 : cfact 7 92 0 146 := ⟨(yX7_creaseOf, cX7_creaseOf, 3, (some FieldType.int), 2, 7, 0, 0), rfl, ⟨fun h => (by cases h), fun _ => mgd 1063 (by decide +kernel) rfl⟩, fun _ => ⟨mgd 1065 (by decide +kernel) rfl, mgd 91 (by decide +kernel) rfl⟩, fun h => absurd h (by decide), fun h => absurd h (by decide), by decide⟩
theorem ca_7_95 : cfact 7 95 2 129 := ⟨(yX7_digits, cX7_digits, 3, (some FieldType.int), 1, 7, 0, 0), rfl, ⟨fun h => (by cases h), fun _ => mgd 997 (by decide +kernel) rfl⟩, fun h => absurd h (by decide), fun _ => mgd 998 (by decide +kernel) rfl, fun h => absurd h (by decide), by decide⟩
theorem ca_7_98 : cfact 7 98 0 131 := ⟨(yX7_sumOfNew, cX7_sumOfNew, 4, (some FieldType.int), 1, 7, 0, 0), rfl, ⟨fun h => (by cases h), fun _ => mgd 1004 (by decide +kernel) rfl⟩, fun _ => ⟨mgd 1006 (by decide +kernel) rfl, mgd 78 (by decide +kernel) rfl⟩, fun h => absurd h (by decide), fun h => absurd h (by decide), by decide⟩
theorem ca_7_101 : cfact 7 101 0 134 := ⟨(yX7_refuses, cX7_refuses, 3, (some FieldType.int), 2, 7, 0, 0), rfl, ⟨fun h => (by cases h), fun _ => mgd 1016 (by decide +kernel) rfl⟩, fun _ => ⟨mgd 1018 (by decide +kernel) rfl, mgd 81 (by decide +kernel) rfl⟩, fun h => absurd h (by decide), fun h => absurd h (by decide), by decide⟩
theorem ca_7_104 : cfact 7 104 0 128 := ⟨(yX7_laysSizes, cX7_laysSizes, 6, (some FieldType.int), 1, 7, 0, 0), rfl, ⟨fun h => (by cases h), fun _ => mgd 993 (by decide +kernel) rfl⟩, fun _ => ⟨mgd 995 (by decide +kernel) rfl, mgd 76 (by decide +kernel) rfl⟩, fun h => absurd h (by decide), fun h => absurd h (by decide), by decide⟩
theorem ca_7_107 : cfact 7 107 0 130 := ⟨(yX7_areSizes, cX7_areSizes, 3, (some FieldType.boolean), 2, 7, 0, 0), rfl, ⟨fun h => (by cases h), fun _ => mgd 1000 (by decide +kernel) rfl⟩, fun _ => ⟨mgd 1002 (by decide +kernel) rfl, mgd 77 (by decide +kernel) rfl⟩, fun h => absurd h (by decide), fun h => absurd h (by decide), by decide⟩
theorem ca_7_111 : cfact 7 111 0 132 := ⟨(yX7_laysCreases, cX7_laysCreases, 6, (some FieldType.boolean), 2, 7, 0, 0), rfl, ⟨fun h => (by cases h), fun _ => mgd 1008 (by decide +kernel) rfl⟩, fun _ => ⟨mgd 1010 (by decide +kernel) rfl, mgd 79 (by decide +kernel) rfl⟩, fun h => absurd h (by decide), fun h => absurd h (by decide), by decide⟩
theorem ca_7_114 : cfact 7 114 0 133 := ⟨(yX7_adds, cX7_adds, 5, (some FieldType.int), 2, 7, 0, 0), rfl, ⟨fun h => (by cases h), fun _ => mgd 1012 (by decide +kernel) rfl⟩, fun _ => ⟨mgd 1014 (by decide +kernel) rfl, mgd 80 (by decide +kernel) rfl⟩, fun h => absurd h (by decide), fun h => absurd h (by decide), by decide⟩
theorem ca_7_117 : cfact 7 117 0 124 := ⟨(yX7_keeps, cX7_keeps, 1, none, 0, 7, 0, 0), rfl, ⟨fun h => (by cases h), fun _ => mgd 979 (by decide +kernel) rfl⟩, fun _ => ⟨mgd 981 (by decide +kernel) rfl, mgd 74 (by decide +kernel) rfl⟩, fun h => absurd h (by decide), fun h => absurd h (by decide), by decide⟩
theorem ca_7_120 : cfact 7 120 0 126 := ⟨(yX7_addsTold, cX7_addsTold, 5, (some FieldType.int), 3, 7, 0, 0), rfl, ⟨fun h => (by cases h), fun _ => mgd 986 (by decide +kernel) rfl⟩, fun _ => ⟨mgd 988 (by decide +kernel) rfl, mgd 75 (by decide +kernel) rfl⟩, fun h => absurd h (by decide), fun h => absurd h (by decide), by decide⟩
theorem ca_7_124 : cfact 7 124 0 139 := ⟨(yX7_ends, cX7_ends, 2, (some FieldType.int), 1, 7, 0, 0), rfl, ⟨fun h => (by cases h), fun _ => mgd 1035 (by decide +kernel) rfl⟩, fun _ => ⟨mgd 1037 (by decide +kernel) rfl, mgd 85 (by decide +kernel) rfl⟩, fun h => absurd h (by decide), fun h => absurd h (by decide), by decide⟩
theorem ca_7_127 : cfact 7 127 0 143 := ⟨(yX7_isCrease, cX7_isCrease, 3, (some FieldType.boolean), 2, 7, 0, 0), rfl, ⟨fun h => (by cases h), fun _ => mgd 1051 (by decide +kernel) rfl⟩, fun _ => ⟨mgd 1053 (by decide +kernel) rfl, mgd 88 (by decide +kernel) rfl⟩, fun h => absurd h (by decide), fun h => absurd h (by decide), by decide⟩
theorem ca_7_130 : cfact 7 130 0 145 := ⟨(yX7_isFolded, cX7_isFolded, 2, (some FieldType.boolean), 1, 7, 0, 0), rfl, ⟨fun h => (by cases h), fun _ => mgd 1059 (by decide +kernel) rfl⟩, fun _ => ⟨mgd 1061 (by decide +kernel) rfl, mgd 90 (by decide +kernel) rfl⟩, fun h => absurd h (by decide), fun h => absurd h (by decide), by decide⟩
theorem ca_7_133 : cfact 7 133 0 142 := ⟨(yX7_marks, cX7_marks, 5, (some FieldType.int), 3, 7, 0, 0), rfl, ⟨fun h => (by cases h), fun _ => mgd 1047 (by decide +kernel) rfl⟩, fun _ => ⟨mgd 1049 (by decide +kernel) rfl, mgd 87 (by decide +kernel) rfl⟩, fun h => absurd h (by decide), fun h => absurd h (by decide), by decide⟩
theorem ca_7_136 : cfact 7 136 0 149 := ⟨(yX7_countOf, cX7_countOf, 5, (some FieldType.int), 2, 7, 0, 0), rfl, ⟨fun h => (by cases h), fun _ => mgd 1075 (by decide +kernel) rfl⟩, fun _ => ⟨mgd 1077 (by decide +kernel) rfl, mgd 93 (by decide +kernel) rfl⟩, fun h => absurd h (by decide), fun h => absurd h (by decide), by decide⟩
theorem ca_7_139 : cfact 7 139 0 148 := ⟨(yX7_turns, cX7_turns, 4, (some FieldType.int), 1, 7, 0, 0), rfl, ⟨fun h => (by cases h), fun _ => mgd 1071 (by decide +kernel) rfl⟩, fun _ => ⟨mgd 1073 (by decide +kernel) rfl, mgd 92 (by decide +kernel) rfl⟩, fun h => absurd h (by decide), fun h => absurd h (by decide), by decide⟩
theorem ca_7_142 : cfact 7 142 0 152 := ⟨(yX7_sizeOf, cX7_sizeOf, 3, (some FieldType.int), 2, 7, 0, 0), rfl, ⟨fun h => (by cases h), fun _ => mgd 1087 (by decide +kernel) rfl⟩, fun _ => ⟨mgd 1089 (by decide +kernel) rfl, mgd 95 (by decide +kernel) rfl⟩, fun h => absurd h (by decide), fun h => absurd h (by decide), by decide⟩
theorem ca_7_145 : cfact 7 145 0 151 := ⟨(yX7_rotates, cX7_rotates, 6, (some FieldType.int), 2, 7, 0, 0), rfl, ⟨fun h => (by cases h), fun _ => mgd 1083 (by decide +kernel) rfl⟩, fun _ => ⟨mgd 1085 (by decide +kernel) rfl, mgd 94 (by decide +kernel) rfl⟩, fun h => absurd h (by decide), fun h => absurd h (by decide), by decide⟩
theorem ca_7_148 : cfact 7 148 0 155 := ⟨(yX7_goes, cX7_goes, 3, none, 1, 7, 0, 0), rfl, ⟨fun h => (by cases h), fun _ => mgd 1099 (by decide +kernel) rfl⟩, fun _ => ⟨mgd 1101 (by decide +kernel) rfl, mgd 97 (by decide +kernel) rfl⟩, fun h => absurd h (by decide), fun h => absurd h (by decide), by decide⟩
theorem ca_7_152 : cfact 7 152 0 154 := ⟨(yX7_joins, cX7_joins, 7, (some FieldType.int), 3, 7, 0, 0), rfl, ⟨fun h => (by cases h), fun _ => mgd 1095 (by decide +kernel) rfl⟩, fun _ => ⟨mgd 1097 (by decide +kernel) rfl, mgd 96 (by decide +kernel) rfl⟩, fun h => absurd h (by decide), fun h => absurd h (by decide), by decide⟩
theorem ca_7_155 : cfact 7 155 2 158 := ⟨(yX7_lesser, cX7_lesser, 2, (some FieldType.int), 2, 7, 0, 0), rfl, ⟨fun h => (by cases h), fun _ => mgd 1111 (by decide +kernel) rfl⟩, fun h => absurd h (by decide), fun _ => mgd 1112 (by decide +kernel) rfl, fun h => absurd h (by decide), by decide⟩
theorem ca_7_158 : cfact 7 158 0 157 := ⟨(yX7_cuts, cX7_cuts, 7, (some FieldType.int), 2, 7, 0, 0), rfl, ⟨fun h => (by cases h), fun _ => mgd 1107 (by decide +kernel) rfl⟩, fun _ => ⟨mgd 1109 (by decide +kernel) rfl, mgd 98 (by decide +kernel) rfl⟩, fun h => absurd h (by decide), fun h => absurd h (by decide), by decide⟩
theorem ca_7_168 : cfact 7 168 0 168 := ⟨(yX7_crimped, cX7_crimped, 6, (some FieldType.int), 0, 7, 0, 0), rfl, ⟨fun h => (by cases h), fun _ => mgd 1150 (by decide +kernel) rfl⟩, fun _ => ⟨mgd 1152 (by decide +kernel) rfl, mgd 107 (by decide +kernel) rfl⟩, fun h => absurd h (by decide), fun h => absurd h (by decide), by decide⟩
theorem ca_7_172 : cfact 7 172 0 170 := ⟨(yX7_dropsSize, cX7_dropsSize, 3, none, 1, 7, 0, 0), rfl, ⟨fun h => (by cases h), fun _ => mgd 1158 (by decide +kernel) rfl⟩, fun _ => ⟨mgd 1160 (by decide +kernel) rfl, mgd 109 (by decide +kernel) rfl⟩, fun h => absurd h (by decide), fun h => absurd h (by decide), by decide⟩
theorem ca_7_175 : cfact 7 175 0 171 := ⟨(yX7_dropsCrease, cX7_dropsCrease, 3, none, 1, 7, 0, 0), rfl, ⟨fun h => (by cases h), fun _ => mgd 1162 (by decide +kernel) rfl⟩, fun _ => ⟨mgd 1164 (by decide +kernel) rfl, mgd 110 (by decide +kernel) rfl⟩, fun h => absurd h (by decide), fun h => absurd h (by decide), by decide⟩
theorem ca_7_178 : cfact 7 178 2 173 := ⟨(yX7_greater, cX7_greater, 2, (some FieldType.int), 2, 7, 0, 0), rfl, ⟨fun h => (by cases h), fun _ => mgd 1170 (by decide +kernel) rfl⟩, fun h => absurd h (by decide), fun _ => mgd 1171 (by decide +kernel) rfl, fun h => absurd h (by decide), by decide⟩
theorem ca_7_181 : cfact 7 181 0 172 := ⟨(yX7_crimpsCorner, cX7_crimpsCorner, 6, none, 1, 7, 0, 0), rfl, ⟨fun h => (by cases h), fun _ => mgd 1166 (by decide +kernel) rfl⟩, fun _ => ⟨mgd 1168 (by decide +kernel) rfl, mgd 111 (by decide +kernel) rfl⟩, fun h => absurd h (by decide), fun h => absurd h (by decide), by decide⟩
theorem ca_7_184 : cfact 7 184 0 174 := ⟨(yX7_crimpsStrip, cX7_crimpsStrip, 2, none, 1, 7, 0, 0), rfl, ⟨fun h => (by cases h), fun _ => mgd 1173 (by decide +kernel) rfl⟩, fun _ => ⟨mgd 1175 (by decide +kernel) rfl, mgd 112 (by decide +kernel) rfl⟩, fun h => absurd h (by decide), fun h => absurd h (by decide), by decide⟩
theorem ca_7_187 : cfact 7 187 0 167 := ⟨(yX7_stepNow, cX7_stepNow, 2, (some FieldType.int), 0, 7, 0, 0), rfl, ⟨fun h => (by cases h), fun _ => mgd 1146 (by decide +kernel) rfl⟩, fun _ => ⟨mgd 1148 (by decide +kernel) rfl, mgd 106 (by decide +kernel) rfl⟩, fun h => absurd h (by decide), fun h => absurd h (by decide), by decide⟩
theorem ca_7_190 : cfact 7 190 0 169 := ⟨(yX7_makes, cX7_makes, 2, none, 1, 7, 0, 0), rfl, ⟨fun h => (by cases h), fun _ => mgd 1154 (by decide +kernel) rfl⟩, fun _ => ⟨mgd 1156 (by decide +kernel) rfl, mgd 108 (by decide +kernel) rfl⟩, fun h => absurd h (by decide), fun h => absurd h (by decide), by decide⟩
theorem ca_7_193 : cfact 7 193 0 166 := ⟨(yX7_reduces, cX7_reduces, 3, (some FieldType.int), 0, 7, 0, 0), rfl, ⟨fun h => (by cases h), fun _ => mgd 1142 (by decide +kernel) rfl⟩, fun _ => ⟨mgd 1144 (by decide +kernel) rfl, mgd 105 (by decide +kernel) rfl⟩, fun h => absurd h (by decide), fun h => absurd h (by decide), by decide⟩
theorem ca_7_196 : cfact 7 196 0 164 := ⟨(yX7_lays, cX7_lays, 3, none, 1, 7, 0, 0), rfl, ⟨fun h => (by cases h), fun _ => mgd 1134 (by decide +kernel) rfl⟩, fun _ => ⟨mgd 1136 (by decide +kernel) rfl, mgd 103 (by decide +kernel) rfl⟩, fun h => absurd h (by decide), fun h => absurd h (by decide), by decide⟩
theorem ca_7_199 : cfact 7 199 0 165 := ⟨(yX7_folds, cX7_folds, 2, (some FieldType.boolean), 0, 7, 0, 0), rfl, ⟨fun h => (by cases h), fun _ => mgd 1138 (by decide +kernel) rfl⟩, fun _ => ⟨mgd 1140 (by decide +kernel) rfl, mgd 104 (by decide +kernel) rfl⟩, fun h => absurd h (by decide), fun h => absurd h (by decide), by decide⟩
theorem ca_7_203 : cfact 7 203 0 161 := ⟨(yX7_evenAngles, cX7_evenAngles, 4, (some FieldType.int), 1, 7, 0, 0), rfl, ⟨fun h => (by cases h), fun _ => mgd 1122 (by decide +kernel) rfl⟩, fun _ => ⟨mgd 1124 (by decide +kernel) rfl, mgd 100 (by decide +kernel) rfl⟩, fun h => absurd h (by decide), fun h => absurd h (by decide), by decide⟩
theorem ca_7_206 : cfact 7 206 0 162 := ⟨(yX7_hasSharp, cX7_hasSharp, 6, (some FieldType.boolean), 1, 7, 0, 0), rfl, ⟨fun h => (by cases h), fun _ => mgd 1126 (by decide +kernel) rfl⟩, fun _ => ⟨mgd 1128 (by decide +kernel) rfl, mgd 101 (by decide +kernel) rfl⟩, fun h => absurd h (by decide), fun h => absurd h (by decide), by decide⟩
theorem ca_7_209 : cfact 7 209 0 163 := ⟨(yX7_foldsNow, cX7_foldsNow, 2, (some FieldType.boolean), 1, 7, 0, 0), rfl, ⟨fun h => (by cases h), fun _ => mgd 1130 (by decide +kernel) rfl⟩, fun _ => ⟨mgd 1132 (by decide +kernel) rfl, mgd 102 (by decide +kernel) rfl⟩, fun h => absurd h (by decide), fun h => absurd h (by decide), by decide⟩
theorem ca_7_212 : cfact 7 212 0 160 := ⟨(yX7_whyNot, cX7_whyNot, 3, (some FieldType.int), 1, 7, 0, 0), rfl, ⟨fun h => (by cases h), fun _ => mgd 1118 (by decide +kernel) rfl⟩, fun _ => ⟨mgd 1120 (by decide +kernel) rfl, mgd 99 (by decide +kernel) rfl⟩, fun h => absurd h (by decide), fun h => absurd h (by decide), by decide⟩
theorem ca_7_215 : cfact 7 215 0 180 := ⟨(yX7_laysBy, cX7_laysBy, 4, none, 2, 7, 0, 0), rfl, ⟨fun h => (by cases h), fun _ => mgd 1197 (by decide +kernel) rfl⟩, fun _ => ⟨mgd 1199 (by decide +kernel) rfl, mgd 115 (by decide +kernel) rfl⟩, fun h => absurd h (by decide), fun h => absurd h (by decide), by decide⟩
theorem ca_7_219 : cfact 7 219 0 178 := ⟨(yX7_otherwise, cX7_otherwise, 6, (some FieldType.int), 2, 7, 0, 0), rfl, ⟨fun h => (by cases h), fun _ => mgd 1189 (by decide +kernel) rfl⟩, fun _ => ⟨mgd 1191 (by decide +kernel) rfl, mgd 113 (by decide +kernel) rfl⟩, fun h => absurd h (by decide), fun h => absurd h (by decide), by decide⟩
theorem ca_7_222 : cfact 7 222 0 179 := ⟨(yX7_foldsBy, cX7_foldsBy, 3, (some FieldType.boolean), 2, 7, 0, 0), rfl, ⟨fun h => (by cases h), fun _ => mgd 1193 (by decide +kernel) rfl⟩, fun _ => ⟨mgd 1195 (by decide +kernel) rfl, mgd 114 (by decide +kernel) rfl⟩, fun h => absurd h (by decide), fun h => absurd h (by decide), by decide⟩
theorem ca_7_225 : cfact 7 225 0 186 := ⟨(yX7_placeOf, cX7_placeOf, 5, (some FieldType.int), 2, 7, 0, 0), rfl, ⟨fun h => (by cases h), fun _ => mgd 1221 (by decide +kernel) rfl⟩, fun _ => ⟨mgd 1223 (by decide +kernel) rfl, mgd 119 (by decide +kernel) rfl⟩, fun h => absurd h (by decide), fun h => absurd h (by decide), by decide⟩
theorem ca_7_228 : cfact 7 228 0 185 := ⟨(yX7_widthOf, cX7_widthOf, 5, (some FieldType.int), 1, 7, 0, 0), rfl, ⟨fun h => (by cases h), fun _ => mgd 1217 (by decide +kernel) rfl⟩, fun _ => ⟨mgd 1219 (by decide +kernel) rfl, mgd 118 (by decide +kernel) rfl⟩, fun h => absurd h (by decide), fun h => absurd h (by decide), by decide⟩
theorem ca_7_231 : cfact 7 231 0 184 := ⟨(yX7_used, cX7_used, 3, (some FieldType.int), 0, 7, 0, 0), rfl, ⟨fun h => (by cases h), fun _ => mgd 1213 (by decide +kernel) rfl⟩, fun _ => ⟨mgd 1215 (by decide +kernel) rfl, mgd 117 (by decide +kernel) rfl⟩, fun h => absurd h (by decide), fun h => absurd h (by decide), by decide⟩
theorem ca_7_234 : cfact 7 234 0 183 := ⟨(yX7_stages, cX7_stages, 3, (some FieldType.int), 1, 7, 0, 0), rfl, ⟨fun h => (by cases h), fun _ => mgd 1209 (by decide +kernel) rfl⟩, fun _ => ⟨mgd 1211 (by decide +kernel) rfl, mgd 116 (by decide +kernel) rfl⟩, fun h => absurd h (by decide), fun h => absurd h (by decide), by decide⟩
theorem ca_7_237 : cfact 7 237 0 189 := ⟨(yX7_lowestOpen, cX7_lowestOpen, 3, (some FieldType.int), 1, 7, 0, 0), rfl, ⟨fun h => (by cases h), fun _ => mgd 1233 (by decide +kernel) rfl⟩, fun _ => ⟨mgd 1235 (by decide +kernel) rfl, mgd 121 (by decide +kernel) rfl⟩, fun h => absurd h (by decide), fun h => absurd h (by decide), by decide⟩
theorem ca_7_240 : cfact 7 240 0 188 := ⟨(yX7_foldsOnStage, cX7_foldsOnStage, 4, (some FieldType.int), 1, 7, 0, 0), rfl, ⟨fun h => (by cases h), fun _ => mgd 1229 (by decide +kernel) rfl⟩, fun _ => ⟨mgd 1231 (by decide +kernel) rfl, mgd 120 (by decide +kernel) rfl⟩, fun h => absurd h (by decide), fun h => absurd h (by decide), by decide⟩
theorem ca_7_243 : cfact 7 243 0 191 := ⟨(yX7_unfolds, cX7_unfolds, 2, (some FieldType.int), 1, 7, 0, 0), rfl, ⟨fun h => (by cases h), fun _ => mgd 1241 (by decide +kernel) rfl⟩, fun _ => ⟨mgd 1243 (by decide +kernel) rfl, mgd 122 (by decide +kernel) rfl⟩, fun h => absurd h (by decide), fun h => absurd h (by decide), by decide⟩
theorem ca_7_246 : cfact 7 246 0 193 := ⟨(yX7_drops, cX7_drops, 2, (some FieldType.int), 1, 7, 0, 0), rfl, ⟨fun h => (by cases h), fun _ => mgd 1249 (by decide +kernel) rfl⟩, fun _ => ⟨mgd 1251 (by decide +kernel) rfl, mgd 123 (by decide +kernel) rfl⟩, fun h => absurd h (by decide), fun h => absurd h (by decide), by decide⟩
theorem ca_7_249 : cfact 7 249 0 195 := ⟨(yX7_sumOf, cX7_sumOf, 4, (some FieldType.int), 1, 7, 0, 0), rfl, ⟨fun h => (by cases h), fun _ => mgd 1257 (by decide +kernel) rfl⟩, fun _ => ⟨mgd 1259 (by decide +kernel) rfl, mgd 124 (by decide +kernel) rfl⟩, fun h => absurd h (by decide), fun h => absurd h (by decide), by decide⟩
theorem ca_7_258 : cfact 7 258 0 204 := ⟨(yX7_reachesOver, cX7_reachesOver, 3, (some FieldType.boolean), 2, 7, 0, 0), rfl, ⟨fun h => (by cases h), fun _ => mgd 1293 (by decide +kernel) rfl⟩, fun _ => ⟨mgd 1295 (by decide +kernel) rfl, mgd 130 (by decide +kernel) rfl⟩, fun h => absurd h (by decide), fun h => absurd h (by decide), by decide⟩
theorem ca_7_261 : cfact 7 261 0 205 := ⟨(yX7_isBetween, cX7_isBetween, 5, (some FieldType.boolean), 2, 7, 0, 0), rfl, ⟨fun h => (by cases h), fun _ => mgd 1297 (by decide +kernel) rfl⟩, fun _ => ⟨mgd 1299 (by decide +kernel) rfl, mgd 131 (by decide +kernel) rfl⟩, fun h => absurd h (by decide), fun h => absurd h (by decide), by decide⟩
theorem ca_7_264 : cfact 7 264 0 203 := ⟨(yX7_collides, cX7_collides, 4, (some FieldType.boolean), 1, 7, 0, 0), rfl, ⟨fun h => (by cases h), fun _ => mgd 1289 (by decide +kernel) rfl⟩, fun _ => ⟨mgd 1291 (by decide +kernel) rfl, mgd 129 (by decide +kernel) rfl⟩, fun h => absurd h (by decide), fun h => absurd h (by decide), by decide⟩
theorem ca_7_267 : cfact 7 267 0 202 := ⟨(yX7_isPossible, cX7_isPossible, 2, (some FieldType.boolean), 0, 7, 0, 0), rfl, ⟨fun h => (by cases h), fun _ => mgd 1285 (by decide +kernel) rfl⟩, fun _ => ⟨mgd 1287 (by decide +kernel) rfl, mgd 128 (by decide +kernel) rfl⟩, fun h => absurd h (by decide), fun h => absurd h (by decide), by decide⟩
theorem ca_7_273 : cfact 7 273 0 206 := ⟨(yX7_isAbove, cX7_isAbove, 2, (some FieldType.boolean), 1, 7, 0, 0), rfl, ⟨fun h => (by cases h), fun _ => mgd 1301 (by decide +kernel) rfl⟩, fun _ => ⟨mgd 1303 (by decide +kernel) rfl, mgd 132 (by decide +kernel) rfl⟩, fun h => absurd h (by decide), fun h => absurd h (by decide), by decide⟩
theorem ca_7_276 : cfact 7 276 0 201 := ⟨(yX7_gives, cX7_gives, 3, none, 1, 7, 0, 0), rfl, ⟨fun h => (by cases h), fun _ => mgd 1281 (by decide +kernel) rfl⟩, fun _ => ⟨mgd 1283 (by decide +kernel) rfl, mgd 127 (by decide +kernel) rfl⟩, fun h => absurd h (by decide), fun h => absurd h (by decide), by decide⟩
theorem ca_7_279 : cfact 7 279 0 199 := ⟨(yX7_wrongStrip, cX7_wrongStrip, 2, (some FieldType.int), 1, 7, 0, 0), rfl, ⟨fun h => (by cases h), fun _ => mgd 1273 (by decide +kernel) rfl⟩, fun _ => ⟨mgd 1275 (by decide +kernel) rfl, mgd 125 (by decide +kernel) rfl⟩, fun h => absurd h (by decide), fun h => absurd h (by decide), by decide⟩
theorem ca_7_282 : cfact 7 282 0 200 := ⟨(yX7_ordersOf, cX7_ordersOf, 3, (some FieldType.int), 1, 7, 0, 0), rfl, ⟨fun h => (by cases h), fun _ => mgd 1277 (by decide +kernel) rfl⟩, fun _ => ⟨mgd 1279 (by decide +kernel) rfl, mgd 126 (by decide +kernel) rfl⟩, fun h => absurd h (by decide), fun h => absurd h (by decide), by decide⟩
theorem ca_7_285 : cfact 7 285 0 209 := ⟨(yX7_isStripWithout, cX7_isStripWithout, 4, (some FieldType.boolean), 3, 7, 0, 0), rfl, ⟨fun h => (by cases h), fun _ => mgd 1313 (by decide +kernel) rfl⟩, fun _ => ⟨mgd 1315 (by decide +kernel) rfl, mgd 133 (by decide +kernel) rfl⟩, fun h => absurd h (by decide), fun h => absurd h (by decide), by decide⟩
theorem ca_7_288 : cfact 7 288 0 212 := ⟨(yX7_overAt, cX7_overAt, 7, (some FieldType.int), 2, 7, 0, 0), rfl, ⟨fun h => (by cases h), fun _ => mgd 1325 (by decide +kernel) rfl⟩, fun _ => ⟨mgd 1327 (by decide +kernel) rfl, mgd 134 (by decide +kernel) rfl⟩, fun h => absurd h (by decide), fun h => absurd h (by decide), by decide⟩
theorem ca_7_297 : cfact 7 297 0 218 := ⟨(yX7_sign, cX7_sign, 1, (some FieldType.int), 0, 7, 0, 0), rfl, ⟨fun h => (by cases h), fun _ => mgd 1349 (by decide +kernel) rfl⟩, fun _ => ⟨mgd 1351 (by decide +kernel) rfl, mgd 137 (by decide +kernel) rfl⟩, fun h => absurd h (by decide), fun h => absurd h (by decide), by decide⟩
theorem ca_7_309 : cfact 7 309 2 222 := ⟨(yX7_kindOf, cX7_kindOf, 1, (some FieldType.int), 1, 7, 0, 0), rfl, ⟨fun h => (by cases h), fun _ => mgd 1365 (by decide +kernel) rfl⟩, fun h => absurd h (by decide), fun _ => mgd 1366 (by decide +kernel) rfl, fun h => absurd h (by decide), by decide⟩
theorem ca_7_312 : cfact 7 312 0 220 := ⟨(yX7_takes, cX7_takes, 3, (some FieldType.boolean), 1, 7, 0, 0), rfl, ⟨fun h => (by cases h), fun _ => mgd 1357 (by decide +kernel) rfl⟩, fun _ => ⟨mgd 1359 (by decide +kernel) rfl, mgd 139 (by decide +kernel) rfl⟩, fun h => absurd h (by decide), fun h => absurd h (by decide), by decide⟩
theorem ca_7_315 : cfact 7 315 0 223 := ⟨(yX7_digit, cX7_digit, 1, (some FieldType.int), 0, 7, 0, 0), rfl, ⟨fun h => (by cases h), fun _ => mgd 1368 (by decide +kernel) rfl⟩, fun _ => ⟨mgd 1370 (by decide +kernel) rfl, mgd 141 (by decide +kernel) rfl⟩, fun h => absurd h (by decide), fun h => absurd h (by decide), by decide⟩
theorem ca_7_324 : cfact 7 324 0 219 := ⟨(yX7_readsSizes, cX7_readsSizes, 2, (some FieldType.boolean), 0, 7, 0, 0), rfl, ⟨fun h => (by cases h), fun _ => mgd 1353 (by decide +kernel) rfl⟩, fun _ => ⟨mgd 1355 (by decide +kernel) rfl, mgd 138 (by decide +kernel) rfl⟩, fun h => absurd h (by decide), fun h => absurd h (by decide), by decide⟩
theorem ca_7_327 : cfact 7 327 0 221 := ⟨(yX7_readsSigns, cX7_readsSigns, 1, (some FieldType.boolean), 0, 7, 0, 0), rfl, ⟨fun h => (by cases h), fun _ => mgd 1361 (by decide +kernel) rfl⟩, fun _ => ⟨mgd 1363 (by decide +kernel) rfl, mgd 140 (by decide +kernel) rfl⟩, fun h => absurd h (by decide), fun h => absurd h (by decide), by decide⟩
theorem ca_7_330 : cfact 7 330 0 224 := ⟨(yX7_readsMark, cX7_readsMark, 1, (some FieldType.boolean), 0, 7, 0, 0), rfl, ⟨fun h => (by cases h), fun _ => mgd 1372 (by decide +kernel) rfl⟩, fun _ => ⟨mgd 1374 (by decide +kernel) rfl, mgd 142 (by decide +kernel) rfl⟩, fun h => absurd h (by decide), fun h => absurd h (by decide), by decide⟩
theorem ca_7_333 : cfact 7 333 0 217 := ⟨(yX7_readsCommand, cX7_readsCommand, 1, (some FieldType.boolean), 0, 7, 0, 0), rfl, ⟨fun h => (by cases h), fun _ => mgd 1345 (by decide +kernel) rfl⟩, fun _ => ⟨mgd 1347 (by decide +kernel) rfl, mgd 136 (by decide +kernel) rfl⟩, fun h => absurd h (by decide), fun h => absurd h (by decide), by decide⟩
theorem ca_7_336 : cfact 7 336 0 227 := ⟨(yX7_addsSigned, cX7_addsSigned, 3, (some FieldType.int), 0, 7, 0, 0), rfl, ⟨fun h => (by cases h), fun _ => mgd 1384 (by decide +kernel) rfl⟩, fun _ => ⟨mgd 1386 (by decide +kernel) rfl, mgd 145 (by decide +kernel) rfl⟩, fun h => absurd h (by decide), fun h => absurd h (by decide), by decide⟩
theorem ca_7_339 : cfact 7 339 0 226 := ⟨(yX7_does, cX7_does, 1, (some FieldType.int), 0, 7, 0, 0), rfl, ⟨fun h => (by cases h), fun _ => mgd 1380 (by decide +kernel) rfl⟩, fun _ => ⟨mgd 1382 (by decide +kernel) rfl, mgd 144 (by decide +kernel) rfl⟩, fun h => absurd h (by decide), fun h => absurd h (by decide), by decide⟩
theorem ca_7_342 : cfact 7 342 0 216 := ⟨(yX7_isText, cX7_isText, 2, (some FieldType.boolean), 0, 7, 0, 0), rfl, ⟨fun h => (by cases h), fun _ => mgd 1341 (by decide +kernel) rfl⟩, fun _ => ⟨mgd 1343 (by decide +kernel) rfl, mgd 135 (by decide +kernel) rfl⟩, fun h => absurd h (by decide), fun h => absurd h (by decide), by decide⟩
theorem ca_7_345 : cfact 7 345 0 225 := ⟨(yX7_doesAll, cX7_doesAll, 4, (some FieldType.int), 0, 7, 0, 0), rfl, ⟨fun h => (by cases h), fun _ => mgd 1376 (by decide +kernel) rfl⟩, fun _ => ⟨mgd 1378 (by decide +kernel) rfl, mgd 143 (by decide +kernel) rfl⟩, fun h => absurd h (by decide), fun h => absurd h (by decide), by decide⟩
theorem ca_7_348 : cfact 7 348 0 194 := ⟨(yX7_piece, cX7_piece, 3, (some FieldType.int), 2, 7, 0, 0), rfl, ⟨fun h => (by cases h), fun _ => mgd 1400 (by decide +kernel) rfl⟩, fun _ => ⟨mgd 1254 (by decide +kernel) rfl, mgd 1255 (by decide +kernel) rfl⟩, fun h => absurd h (by decide), fun h => absurd h (by decide), by decide⟩
theorem ca_7_351 : cfact 7 351 0 230 := ⟨(yX7_allOf, cX7_allOf, 4, (some FieldType.int), 1, 7, 0, 0), rfl, ⟨fun h => (by cases h), fun _ => mgd 1396 (by decide +kernel) rfl⟩, fun _ => ⟨mgd 1398 (by decide +kernel) rfl, mgd 146 (by decide +kernel) rfl⟩, fun h => absurd h (by decide), fun h => absurd h (by decide), by decide⟩
theorem ca_7_354 : cfact 7 354 0 231 := ⟨(yX7_panelsOfAll, cX7_panelsOfAll, 3, (some FieldType.int), 0, 7, 0, 0), rfl, ⟨fun h => (by cases h), fun _ => mgd 1401 (by decide +kernel) rfl⟩, fun _ => ⟨mgd 1403 (by decide +kernel) rfl, mgd 147 (by decide +kernel) rfl⟩, fun h => absurd h (by decide), fun h => absurd h (by decide), by decide⟩
theorem ca_7_357 : cfact 7 357 2 237 := ⟨(yJxf58ca_floatToIntBits_5c35a, cJxf58ca_floatToIntBits_5c35a, 1, (some FieldType.int), 1, 10, 0, 0), rfl, ⟨fun h => (by cases h), fun _ => mgd 1409 (by decide +kernel) rfl⟩, fun h => absurd h (by decide), fun _ => mgd 1410 (by decide +kernel) rfl, fun h => absurd h (by decide), by decide⟩
theorem cal7_ok : ∀ q ∈ cal7, cfact 7 q.1 q.2.1 q.2.2 := List.forall_mem_cons.mpr ⟨ca_7_3, List.forall_mem_cons.mpr ⟨ca_7_54, List.forall_mem_cons.mpr ⟨ca_7_61, List.forall_mem_cons.mpr ⟨ca_7_65, List.forall_mem_cons.mpr ⟨ca_7_74, List.forall_mem_cons.mpr ⟨ca_7_78, List.forall_mem_cons.mpr ⟨ca_7_81, List.forall_mem_cons.mpr ⟨ca_7_85, List.forall_mem_cons.mpr ⟨ca_7_88, List.forall_mem_cons.mpr ⟨ca_7_92, List.forall_mem_cons.mpr ⟨ca_7_95, List.forall_mem_cons.mpr ⟨ca_7_98, List.forall_mem_cons.mpr ⟨ca_7_101, List.forall_mem_cons.mpr ⟨ca_7_104, List.forall_mem_cons.mpr ⟨ca_7_107, List.forall_mem_cons.mpr ⟨ca_7_111, List.forall_mem_cons.mpr ⟨ca_7_114, List.forall_mem_cons.mpr ⟨ca_7_117, List.forall_mem_cons.mpr ⟨ca_7_120, List.forall_mem_cons.mpr ⟨ca_7_124, List.forall_mem_cons.mpr ⟨ca_7_127, List.forall_mem_cons.mpr ⟨ca_7_130, List.forall_mem_cons.mpr ⟨ca_7_133, List.forall_mem_cons.mpr ⟨ca_7_136, List.forall_mem_cons.mpr ⟨ca_7_139, List.forall_mem_cons.mpr ⟨ca_7_142, List.forall_mem_cons.mpr ⟨ca_7_145, List.forall_mem_cons.mpr ⟨ca_7_148, List.forall_mem_cons.mpr ⟨ca_7_152, List.forall_mem_cons.mpr ⟨ca_7_155, List.forall_mem_cons.mpr ⟨ca_7_158, List.forall_mem_cons.mpr ⟨ca_7_168, List.forall_mem_cons.mpr ⟨ca_7_172, List.forall_mem_cons.mpr ⟨ca_7_175, List.forall_mem_cons.mpr ⟨ca_7_178, List.forall_mem_cons.mpr ⟨ca_7_181, List.forall_mem_cons.mpr ⟨ca_7_184, List.forall_mem_cons.mpr ⟨ca_7_187, List.forall_mem_cons.mpr ⟨ca_7_190, List.forall_mem_cons.mpr ⟨ca_7_193, List.forall_mem_cons.mpr ⟨ca_7_196, List.forall_mem_cons.mpr ⟨ca_7_199, List.forall_mem_cons.mpr ⟨ca_7_203, List.forall_mem_cons.mpr ⟨ca_7_206, List.forall_mem_cons.mpr ⟨ca_7_209, List.forall_mem_cons.mpr ⟨ca_7_212, List.forall_mem_cons.mpr ⟨ca_7_215, List.forall_mem_cons.mpr ⟨ca_7_219, List.forall_mem_cons.mpr ⟨ca_7_222, List.forall_mem_cons.mpr ⟨ca_7_225, List.forall_mem_cons.mpr ⟨ca_7_228, List.forall_mem_cons.mpr ⟨ca_7_231, List.forall_mem_cons.mpr ⟨ca_7_234, List.forall_mem_cons.mpr ⟨ca_7_237, List.forall_mem_cons.mpr ⟨ca_7_240, List.forall_mem_cons.mpr ⟨ca_7_243, List.forall_mem_cons.mpr ⟨ca_7_246, List.forall_mem_cons.mpr ⟨ca_7_249, List.forall_mem_cons.mpr ⟨ca_7_258, List.forall_mem_cons.mpr ⟨ca_7_261, List.forall_mem_cons.mpr ⟨ca_7_264, List.forall_mem_cons.mpr ⟨ca_7_267, List.forall_mem_cons.mpr ⟨ca_7_273, List.forall_mem_cons.mpr ⟨ca_7_276, List.forall_mem_cons.mpr ⟨ca_7_279, List.forall_mem_cons.mpr ⟨ca_7_282, List.forall_mem_cons.mpr ⟨ca_7_285, List.forall_mem_cons.mpr ⟨ca_7_288, List.forall_mem_cons.mpr ⟨ca_7_297, List.forall_mem_cons.mpr ⟨ca_7_309, List.forall_mem_cons.mpr ⟨ca_7_312, List.forall_mem_cons.mpr ⟨ca_7_315, List.forall_mem_cons.mpr ⟨ca_7_324, List.forall_mem_cons.mpr ⟨ca_7_327, List.forall_mem_cons.mpr ⟨ca_7_330, List.forall_mem_cons.mpr ⟨ca_7_333, List.forall_mem_cons.mpr ⟨ca_7_336, List.forall_mem_cons.mpr ⟨ca_7_339, List.forall_mem_cons.mpr ⟨ca_7_342, List.forall_mem_cons.mpr ⟨ca_7_345, List.forall_mem_cons.mpr ⟨ca_7_348, List.forall_mem_cons.mpr ⟨ca_7_351, List.forall_mem_cons.mpr ⟨ca_7_354, List.forall_mem_cons.mpr ⟨ca_7_357, fun _ h => absurd h List.not_mem_nil⟩⟩⟩⟩⟩⟩⟩⟩⟩⟩⟩⟩⟩⟩⟩⟩⟩⟩⟩⟩⟩⟩⟩⟩⟩⟩⟩⟩⟩⟩⟩⟩⟩⟩⟩⟩⟩⟩⟩⟩⟩⟩⟩⟩⟩⟩⟩⟩⟩⟩⟩⟩⟩⟩⟩⟩⟩⟩⟩⟩⟩⟩⟩⟩⟩⟩⟩⟩⟩⟩⟩⟩⟩⟩⟩⟩⟩⟩⟩⟩⟩⟩⟩⟩
def cal8 : List (Nat × Nat × Nat) := [(9, 4, 0), (12, 4, 122), (13, 0, 7), (17, 0, 182), (18, 0, 20), (22, 0, 123), (23, 0, 28), (26, 0, 141), (27, 0, 30), (30, 0, 147), (31, 0, 33), (35, 0, 150), (36, 0, 36), (39, 0, 153), (40, 0, 39), (43, 0, 156), (44, 0, 41), (47, 0, 187), (48, 0, 56), (51, 0, 190), (52, 0, 57), (55, 0, 192), (56, 0, 58), (59, 0, 194), (60, 0, 59), (63, 0, 196), (64, 0, 60), (67, 0, 197), (68, 0, 61), (71, 0, 159), (72, 0, 62), (75, 0, 198), (76, 0, 73), (79, 0, 175), (80, 0, 74), (83, 0, 176), (84, 0, 75), (87, 0, 177), (88, 0, 80), (91, 0, 181), (92, 0, 82), (95, 0, 210), (96, 0, 83), (99, 0, 208), (100, 0, 84), (103, 0, 207), (104, 0, 85), (107, 0, 211), (108, 0, 90), (111, 0, 213), (112, 0, 92), (115, 0, 214), (116, 0, 94), (120, 0, 215), (121, 0, 109), (124, 0, 228), (125, 0, 110), (128, 0, 229), (129, 0, 115), (132, 0, 232), (133, 0, 117), (136, 0, 233), (137, 0, 119), (140, 0, 234), (141, 0, 120), (144, 0, 235)]
theorem ca_8_9 : cfact 8 9 4 0 := ⟨(yX6_init, cX6_init, 1, none, 0, 6, 300, 2149), rfl, ⟨fun h => (by cases h), fun _ => mgd 161 (by decide +kernel) rfl⟩, fun h => absurd h (by decide), fun h => absurd h (by decide), fun _ => ⟨mgd 162 (by decide +kernel) rfl, rfl⟩, by decide⟩
theorem ca_8_12 : cfact 8 12 4 122 := ⟨(yX7_init, cX7_init, 1, none, 0, 7, 13, 1846), rfl, ⟨fun h => (by cases h), fun _ => mgd 879 (by decide +kernel) rfl⟩, fun h => absurd h (by decide), fun h => absurd h (by decide), fun _ => ⟨mgd 880 (by decide +kernel) rfl, rfl⟩, by decide⟩
theorem ca_8_13 : cfact 8 13 0 7 := ⟨(yX6_stage, cX6_stage, 4, (some FieldType.int), 1, 6, 0, 0), rfl, ⟨fun h => (by cases h), fun _ => mgd 369 (by decide +kernel) rfl⟩, fun _ => ⟨mgd 370 (by decide +kernel) rfl, mgd 371 (by decide +kernel) rfl⟩, fun h => absurd h (by decide), fun h => absurd h (by decide), by decide⟩
theorem ca_8_17 : cfact 8 17 0 182 := ⟨(yX7_stage, cX7_stage, 2, (some FieldType.int), 1, 7, 0, 0), rfl, ⟨fun h => (by cases h), fun _ => mgd 1205 (by decide +kernel) rfl⟩, fun _ => ⟨mgd 1206 (by decide +kernel) rfl, mgd 1207 (by decide +kernel) rfl⟩, fun h => absurd h (by decide), fun h => absurd h (by decide), by decide⟩
theorem ca_8_18 : cfact 8 18 0 20 := ⟨(yX6_add, cX6_add, 4, (some FieldType.int), 3, 6, 0, 0), rfl, ⟨fun h => (by cases h), fun _ => mgd 426 (by decide +kernel) rfl⟩, fun _ => ⟨mgd 427 (by decide +kernel) rfl, mgd 428 (by decide +kernel) rfl⟩, fun h => absurd h (by decide), fun h => absurd h (by decide), by decide⟩
theorem ca_8_22 : cfact 8 22 0 123 := ⟨(yX7_add, cX7_add, 4, (some FieldType.int), 3, 7, 0, 0), rfl, ⟨fun h => (by cases h), fun _ => mgd 975 (by decide +kernel) rfl⟩, fun _ => ⟨mgd 976 (by decide +kernel) rfl, mgd 977 (by decide +kernel) rfl⟩, fun h => absurd h (by decide), fun h => absurd h (by decide), by decide⟩
theorem ca_8_23 : cfact 8 23 0 28 := ⟨(yX6_mark, cX6_mark, 6, (some FieldType.int), 3, 6, 0, 0), rfl, ⟨fun h => (by cases h), fun _ => mgd 456 (by decide +kernel) rfl⟩, fun _ => ⟨mgd 457 (by decide +kernel) rfl, mgd 458 (by decide +kernel) rfl⟩, fun h => absurd h (by decide), fun h => absurd h (by decide), by decide⟩
theorem ca_8_26 : cfact 8 26 0 141 := ⟨(yX7_mark, cX7_mark, 4, (some FieldType.int), 3, 7, 0, 0), rfl, ⟨fun h => (by cases h), fun _ => mgd 1043 (by decide +kernel) rfl⟩, fun _ => ⟨mgd 1044 (by decide +kernel) rfl, mgd 1045 (by decide +kernel) rfl⟩, fun h => absurd h (by decide), fun h => absurd h (by decide), by decide⟩
theorem ca_8_27 : cfact 8 27 0 30 := ⟨(yX6_turn, cX6_turn, 3, (some FieldType.int), 1, 6, 0, 0), rfl, ⟨fun h => (by cases h), fun _ => mgd 468 (by decide +kernel) rfl⟩, fun _ => ⟨mgd 469 (by decide +kernel) rfl, mgd 470 (by decide +kernel) rfl⟩, fun h => absurd h (by decide), fun h => absurd h (by decide), by decide⟩
theorem ca_8_30 : cfact 8 30 0 147 := ⟨(yX7_turn, cX7_turn, 2, (some FieldType.int), 1, 7, 0, 0), rfl, ⟨fun h => (by cases h), fun _ => mgd 1067 (by decide +kernel) rfl⟩, fun _ => ⟨mgd 1068 (by decide +kernel) rfl, mgd 1069 (by decide +kernel) rfl⟩, fun h => absurd h (by decide), fun h => absurd h (by decide), by decide⟩
theorem ca_8_31 : cfact 8 31 0 33 := ⟨(yX6_rotate, cX6_rotate, 4, (some FieldType.int), 2, 6, 0, 0), rfl, ⟨fun h => (by cases h), fun _ => mgd 481 (by decide +kernel) rfl⟩, fun _ => ⟨mgd 482 (by decide +kernel) rfl, mgd 483 (by decide +kernel) rfl⟩, fun h => absurd h (by decide), fun h => absurd h (by decide), by decide⟩
theorem ca_8_35 : cfact 8 35 0 150 := ⟨(yX7_rotate, cX7_rotate, 3, (some FieldType.int), 2, 7, 0, 0), rfl, ⟨fun h => (by cases h), fun _ => mgd 1079 (by decide +kernel) rfl⟩, fun _ => ⟨mgd 1080 (by decide +kernel) rfl, mgd 1081 (by decide +kernel) rfl⟩, fun h => absurd h (by decide), fun h => absurd h (by decide), by decide⟩
theorem ca_8_36 : cfact 8 36 0 36 := ⟨(yX6_join, cX6_join, 7, (some FieldType.int), 3, 6, 0, 0), rfl, ⟨fun h => (by cases h), fun _ => mgd 494 (by decide +kernel) rfl⟩, fun _ => ⟨mgd 495 (by decide +kernel) rfl, mgd 496 (by decide +kernel) rfl⟩, fun h => absurd h (by decide), fun h => absurd h (by decide), by decide⟩
theorem ca_8_39 : cfact 8 39 0 153 := ⟨(yX7_join, cX7_join, 4, (some FieldType.int), 3, 7, 0, 0), rfl, ⟨fun h => (by cases h), fun _ => mgd 1091 (by decide +kernel) rfl⟩, fun _ => ⟨mgd 1092 (by decide +kernel) rfl, mgd 1093 (by decide +kernel) rfl⟩, fun h => absurd h (by decide), fun h => absurd h (by decide), by decide⟩
theorem ca_8_40 : cfact 8 40 0 39 := ⟨(yX6_cut, cX6_cut, 6, (some FieldType.int), 2, 6, 0, 0), rfl, ⟨fun h => (by cases h), fun _ => mgd 506 (by decide +kernel) rfl⟩, fun _ => ⟨mgd 507 (by decide +kernel) rfl, mgd 508 (by decide +kernel) rfl⟩, fun h => absurd h (by decide), fun h => absurd h (by decide), by decide⟩
theorem ca_8_43 : cfact 8 43 0 156 := ⟨(yX7_cut, cX7_cut, 3, (some FieldType.int), 2, 7, 0, 0), rfl, ⟨fun h => (by cases h), fun _ => mgd 1103 (by decide +kernel) rfl⟩, fun _ => ⟨mgd 1104 (by decide +kernel) rfl, mgd 1105 (by decide +kernel) rfl⟩, fun h => absurd h (by decide), fun h => absurd h (by decide), by decide⟩
theorem ca_8_44 : cfact 8 44 0 41 := ⟨(yX6_fold, cX6_fold, 6, (some FieldType.int), 1, 6, 0, 0), rfl, ⟨fun h => (by cases h), fun _ => mgd 515 (by decide +kernel) rfl⟩, fun _ => ⟨mgd 516 (by decide +kernel) rfl, mgd 517 (by decide +kernel) rfl⟩, fun h => absurd h (by decide), fun h => absurd h (by decide), by decide⟩
theorem ca_8_47 : cfact 8 47 0 187 := ⟨(yX7_fold, cX7_fold, 2, (some FieldType.int), 1, 7, 0, 0), rfl, ⟨fun h => (by cases h), fun _ => mgd 1225 (by decide +kernel) rfl⟩, fun _ => ⟨mgd 1226 (by decide +kernel) rfl, mgd 1227 (by decide +kernel) rfl⟩, fun h => absurd h (by decide), fun h => absurd h (by decide), by decide⟩
theorem ca_8_48 : cfact 8 48 0 56 := ⟨(yX6_unfold, cX6_unfold, 3, (some FieldType.int), 1, 6, 0, 0), rfl, ⟨fun h => (by cases h), fun _ => mgd 587 (by decide +kernel) rfl⟩, fun _ => ⟨mgd 588 (by decide +kernel) rfl, mgd 589 (by decide +kernel) rfl⟩, fun h => absurd h (by decide), fun h => absurd h (by decide), by decide⟩
theorem ca_8_51 : cfact 8 51 0 190 := ⟨(yX7_unfold, cX7_unfold, 2, (some FieldType.int), 1, 7, 0, 0), rfl, ⟨fun h => (by cases h), fun _ => mgd 1237 (by decide +kernel) rfl⟩, fun _ => ⟨mgd 1238 (by decide +kernel) rfl, mgd 1239 (by decide +kernel) rfl⟩, fun h => absurd h (by decide), fun h => absurd h (by decide), by decide⟩
theorem ca_8_52 : cfact 8 52 0 57 := ⟨(yX6_drop, cX6_drop, 2, (some FieldType.int), 1, 6, 0, 0), rfl, ⟨fun h => (by cases h), fun _ => mgd 591 (by decide +kernel) rfl⟩, fun _ => ⟨mgd 592 (by decide +kernel) rfl, mgd 593 (by decide +kernel) rfl⟩, fun h => absurd h (by decide), fun h => absurd h (by decide), by decide⟩
theorem ca_8_55 : cfact 8 55 0 192 := ⟨(yX7_drop, cX7_drop, 2, (some FieldType.int), 1, 7, 0, 0), rfl, ⟨fun h => (by cases h), fun _ => mgd 1245 (by decide +kernel) rfl⟩, fun _ => ⟨mgd 1246 (by decide +kernel) rfl, mgd 1247 (by decide +kernel) rfl⟩, fun h => absurd h (by decide), fun h => absurd h (by decide), by decide⟩
theorem ca_8_56 : cfact 8 56 0 58 := ⟨(yX6_piece, cX6_piece, 4, (some FieldType.int), 2, 6, 0, 0), rfl, ⟨fun h => (by cases h), fun _ => mgd 595 (by decide +kernel) rfl⟩, fun _ => ⟨mgd 596 (by decide +kernel) rfl, mgd 597 (by decide +kernel) rfl⟩, fun h => absurd h (by decide), fun h => absurd h (by decide), by decide⟩
theorem ca_8_59 : cfact 8 59 0 194 := ⟨(yX7_piece, cX7_piece, 3, (some FieldType.int), 2, 7, 0, 0), rfl, ⟨fun h => (by cases h), fun _ => mgd 1253 (by decide +kernel) rfl⟩, fun _ => ⟨mgd 1254 (by decide +kernel) rfl, mgd 1255 (by decide +kernel) rfl⟩, fun h => absurd h (by decide), fun h => absurd h (by decide), by decide⟩
theorem ca_8_60 : cfact 8 60 0 59 := ⟨(yX6_size, cX6_size, 4, (some FieldType.int), 2, 6, 0, 0), rfl, ⟨fun h => (by cases h), fun _ => mgd 600 (by decide +kernel) rfl⟩, fun _ => ⟨mgd 601 (by decide +kernel) rfl, mgd 602 (by decide +kernel) rfl⟩, fun h => absurd h (by decide), fun h => absurd h (by decide), by decide⟩
theorem ca_8_63 : cfact 8 63 0 196 := ⟨(yX7_size, cX7_size, 3, (some FieldType.int), 2, 7, 0, 0), rfl, ⟨fun h => (by cases h), fun _ => mgd 1261 (by decide +kernel) rfl⟩, fun _ => ⟨mgd 1262 (by decide +kernel) rfl, mgd 1263 (by decide +kernel) rfl⟩, fun h => absurd h (by decide), fun h => absurd h (by decide), by decide⟩
theorem ca_8_64 : cfact 8 64 0 60 := ⟨(yX6_crease, cX6_crease, 4, (some FieldType.int), 2, 6, 0, 0), rfl, ⟨fun h => (by cases h), fun _ => mgd 604 (by decide +kernel) rfl⟩, fun _ => ⟨mgd 605 (by decide +kernel) rfl, mgd 606 (by decide +kernel) rfl⟩, fun h => absurd h (by decide), fun h => absurd h (by decide), by decide⟩
theorem ca_8_67 : cfact 8 67 0 197 := ⟨(yX7_crease, cX7_crease, 3, (some FieldType.int), 2, 7, 0, 0), rfl, ⟨fun h => (by cases h), fun _ => mgd 1265 (by decide +kernel) rfl⟩, fun _ => ⟨mgd 1266 (by decide +kernel) rfl, mgd 1267 (by decide +kernel) rfl⟩, fun h => absurd h (by decide), fun h => absurd h (by decide), by decide⟩
theorem ca_8_68 : cfact 8 68 0 61 := ⟨(yX6_why, cX6_why, 3, (some FieldType.int), 1, 6, 0, 0), rfl, ⟨fun h => (by cases h), fun _ => mgd 608 (by decide +kernel) rfl⟩, fun _ => ⟨mgd 609 (by decide +kernel) rfl, mgd 610 (by decide +kernel) rfl⟩, fun h => absurd h (by decide), fun h => absurd h (by decide), by decide⟩
theorem ca_8_71 : cfact 8 71 0 159 := ⟨(yX7_why, cX7_why, 2, (some FieldType.int), 1, 7, 0, 0), rfl, ⟨fun h => (by cases h), fun _ => mgd 1114 (by decide +kernel) rfl⟩, fun _ => ⟨mgd 1115 (by decide +kernel) rfl, mgd 1116 (by decide +kernel) rfl⟩, fun h => absurd h (by decide), fun h => absurd h (by decide), by decide⟩
theorem ca_8_72 : cfact 8 72 0 62 := ⟨(yX6_foldsAgain, cX6_foldsAgain, 4, (some FieldType.int), 1, 6, 0, 0), rfl, ⟨fun h => (by cases h), fun _ => mgd 612 (by decide +kernel) rfl⟩, fun _ => ⟨mgd 613 (by decide +kernel) rfl, mgd 614 (by decide +kernel) rfl⟩, fun h => absurd h (by decide), fun h => absurd h (by decide), by decide⟩
theorem ca_8_75 : cfact 8 75 0 198 := ⟨(yX7_foldsAgain, cX7_foldsAgain, 3, (some FieldType.int), 1, 7, 0, 0), rfl, ⟨fun h => (by cases h), fun _ => mgd 1269 (by decide +kernel) rfl⟩, fun _ => ⟨mgd 1270 (by decide +kernel) rfl, mgd 1271 (by decide +kernel) rfl⟩, fun h => absurd h (by decide), fun h => absurd h (by decide), by decide⟩
theorem ca_8_76 : cfact 8 76 0 73 := ⟨(yX6_step, cX6_step, 4, (some FieldType.int), 1, 6, 0, 0), rfl, ⟨fun h => (by cases h), fun _ => mgd 662 (by decide +kernel) rfl⟩, fun _ => ⟨mgd 663 (by decide +kernel) rfl, mgd 664 (by decide +kernel) rfl⟩, fun h => absurd h (by decide), fun h => absurd h (by decide), by decide⟩
theorem ca_8_79 : cfact 8 79 0 175 := ⟨(yX7_step, cX7_step, 3, (some FieldType.int), 1, 7, 0, 0), rfl, ⟨fun h => (by cases h), fun _ => mgd 1177 (by decide +kernel) rfl⟩, fun _ => ⟨mgd 1178 (by decide +kernel) rfl, mgd 1179 (by decide +kernel) rfl⟩, fun h => absurd h (by decide), fun h => absurd h (by decide), by decide⟩
theorem ca_8_80 : cfact 8 80 0 74 := ⟨(yX6_steps, cX6_steps, 3, (some FieldType.int), 1, 6, 0, 0), rfl, ⟨fun h => (by cases h), fun _ => mgd 668 (by decide +kernel) rfl⟩, fun _ => ⟨mgd 669 (by decide +kernel) rfl, mgd 670 (by decide +kernel) rfl⟩, fun h => absurd h (by decide), fun h => absurd h (by decide), by decide⟩
theorem ca_8_83 : cfact 8 83 0 176 := ⟨(yX7_steps, cX7_steps, 2, (some FieldType.int), 1, 7, 0, 0), rfl, ⟨fun h => (by cases h), fun _ => mgd 1181 (by decide +kernel) rfl⟩, fun _ => ⟨mgd 1182 (by decide +kernel) rfl, mgd 1183 (by decide +kernel) rfl⟩, fun h => absurd h (by decide), fun h => absurd h (by decide), by decide⟩
theorem ca_8_84 : cfact 8 84 0 75 := ⟨(yX6_ways, cX6_ways, 3, (some FieldType.int), 1, 6, 0, 0), rfl, ⟨fun h => (by cases h), fun _ => mgd 673 (by decide +kernel) rfl⟩, fun _ => ⟨mgd 674 (by decide +kernel) rfl, mgd 675 (by decide +kernel) rfl⟩, fun h => absurd h (by decide), fun h => absurd h (by decide), by decide⟩
theorem ca_8_87 : cfact 8 87 0 177 := ⟨(yX7_ways, cX7_ways, 4, (some FieldType.int), 1, 7, 0, 0), rfl, ⟨fun h => (by cases h), fun _ => mgd 1185 (by decide +kernel) rfl⟩, fun _ => ⟨mgd 1186 (by decide +kernel) rfl, mgd 1187 (by decide +kernel) rfl⟩, fun h => absurd h (by decide), fun h => absurd h (by decide), by decide⟩
theorem ca_8_88 : cfact 8 88 0 80 := ⟨(yX6_fewest, cX6_fewest, 3, (some FieldType.int), 1, 6, 0, 0), rfl, ⟨fun h => (by cases h), fun _ => mgd 691 (by decide +kernel) rfl⟩, fun _ => ⟨mgd 692 (by decide +kernel) rfl, mgd 693 (by decide +kernel) rfl⟩, fun h => absurd h (by decide), fun h => absurd h (by decide), by decide⟩
theorem ca_8_91 : cfact 8 91 0 181 := ⟨(yX7_fewest, cX7_fewest, 5, (some FieldType.int), 1, 7, 0, 0), rfl, ⟨fun h => (by cases h), fun _ => mgd 1201 (by decide +kernel) rfl⟩, fun _ => ⟨mgd 1202 (by decide +kernel) rfl, mgd 1203 (by decide +kernel) rfl⟩, fun h => absurd h (by decide), fun h => absurd h (by decide), by decide⟩
theorem ca_8_92 : cfact 8 92 0 82 := ⟨(yX6_place, cX6_place, 4, (some FieldType.int), 2, 6, 0, 0), rfl, ⟨fun h => (by cases h), fun _ => mgd 699 (by decide +kernel) rfl⟩, fun _ => ⟨mgd 700 (by decide +kernel) rfl, mgd 701 (by decide +kernel) rfl⟩, fun h => absurd h (by decide), fun h => absurd h (by decide), by decide⟩
theorem ca_8_95 : cfact 8 95 0 210 := ⟨(yX7_place, cX7_place, 3, (some FieldType.int), 2, 7, 0, 0), rfl, ⟨fun h => (by cases h), fun _ => mgd 1317 (by decide +kernel) rfl⟩, fun _ => ⟨mgd 1318 (by decide +kernel) rfl, mgd 1319 (by decide +kernel) rfl⟩, fun h => absurd h (by decide), fun h => absurd h (by decide), by decide⟩
theorem ca_8_96 : cfact 8 96 0 83 := ⟨(yX6_layer, cX6_layer, 5, (some FieldType.int), 2, 6, 0, 0), rfl, ⟨fun h => (by cases h), fun _ => mgd 704 (by decide +kernel) rfl⟩, fun _ => ⟨mgd 705 (by decide +kernel) rfl, mgd 706 (by decide +kernel) rfl⟩, fun h => absurd h (by decide), fun h => absurd h (by decide), by decide⟩
theorem ca_8_99 : cfact 8 99 0 208 := ⟨(yX7_layer, cX7_layer, 4, (some FieldType.int), 2, 7, 0, 0), rfl, ⟨fun h => (by cases h), fun _ => mgd 1309 (by decide +kernel) rfl⟩, fun _ => ⟨mgd 1310 (by decide +kernel) rfl, mgd 1311 (by decide +kernel) rfl⟩, fun h => absurd h (by decide), fun h => absurd h (by decide), by decide⟩
theorem ca_8_100 : cfact 8 100 0 84 := ⟨(yX6_orders, cX6_orders, 4, (some FieldType.int), 1, 6, 0, 0), rfl, ⟨fun h => (by cases h), fun _ => mgd 708 (by decide +kernel) rfl⟩, fun _ => ⟨mgd 709 (by decide +kernel) rfl, mgd 710 (by decide +kernel) rfl⟩, fun h => absurd h (by decide), fun h => absurd h (by decide), by decide⟩
theorem ca_8_103 : cfact 8 103 0 207 := ⟨(yX7_orders, cX7_orders, 3, (some FieldType.int), 1, 7, 0, 0), rfl, ⟨fun h => (by cases h), fun _ => mgd 1305 (by decide +kernel) rfl⟩, fun _ => ⟨mgd 1306 (by decide +kernel) rfl, mgd 1307 (by decide +kernel) rfl⟩, fun h => absurd h (by decide), fun h => absurd h (by decide), by decide⟩
theorem ca_8_104 : cfact 8 104 0 85 := ⟨(yX6_thickest, cX6_thickest, 3, (some FieldType.int), 1, 6, 0, 0), rfl, ⟨fun h => (by cases h), fun _ => mgd 713 (by decide +kernel) rfl⟩, fun _ => ⟨mgd 714 (by decide +kernel) rfl, mgd 715 (by decide +kernel) rfl⟩, fun h => absurd h (by decide), fun h => absurd h (by decide), by decide⟩
theorem ca_8_107 : cfact 8 107 0 211 := ⟨(yX7_thickest, cX7_thickest, 7, (some FieldType.int), 1, 7, 0, 0), rfl, ⟨fun h => (by cases h), fun _ => mgd 1321 (by decide +kernel) rfl⟩, fun _ => ⟨mgd 1322 (by decide +kernel) rfl, mgd 1323 (by decide +kernel) rfl⟩, fun h => absurd h (by decide), fun h => absurd h (by decide), by decide⟩
theorem ca_8_108 : cfact 8 108 0 90 := ⟨(yX6_reflected, cX6_reflected, 3, (some FieldType.int), 1, 6, 0, 0), rfl, ⟨fun h => (by cases h), fun _ => mgd 733 (by decide +kernel) rfl⟩, fun _ => ⟨mgd 734 (by decide +kernel) rfl, mgd 735 (by decide +kernel) rfl⟩, fun h => absurd h (by decide), fun h => absurd h (by decide), by decide⟩
theorem ca_8_111 : cfact 8 111 0 213 := ⟨(yX7_reflected, cX7_reflected, 5, (some FieldType.int), 1, 7, 0, 0), rfl, ⟨fun h => (by cases h), fun _ => mgd 1329 (by decide +kernel) rfl⟩, fun _ => ⟨mgd 1330 (by decide +kernel) rfl, mgd 1331 (by decide +kernel) rfl⟩, fun h => absurd h (by decide), fun h => absurd h (by decide), by decide⟩
theorem ca_8_112 : cfact 8 112 0 92 := ⟨(yX6_append, cX6_append, 2, (some FieldType.int), 1, 6, 0, 0), rfl, ⟨fun h => (by cases h), fun _ => mgd 744 (by decide +kernel) rfl⟩, fun _ => ⟨mgd 745 (by decide +kernel) rfl, mgd 746 (by decide +kernel) rfl⟩, fun h => absurd h (by decide), fun h => absurd h (by decide), by decide⟩
theorem ca_8_115 : cfact 8 115 0 214 := ⟨(yX7_append, cX7_append, 2, (some FieldType.int), 1, 7, 0, 0), rfl, ⟨fun h => (by cases h), fun _ => mgd 1333 (by decide +kernel) rfl⟩, fun _ => ⟨mgd 1334 (by decide +kernel) rfl, mgd 1335 (by decide +kernel) rfl⟩, fun h => absurd h (by decide), fun h => absurd h (by decide), by decide⟩
theorem ca_8_116 : cfact 8 116 0 94 := ⟨(yX6_read, cX6_read, 4, (some FieldType.int), 0, 6, 0, 0), rfl, ⟨fun h => (by cases h), fun _ => mgd 753 (by decide +kernel) rfl⟩, fun _ => ⟨mgd 754 (by decide +kernel) rfl, mgd 755 (by decide +kernel) rfl⟩, fun h => absurd h (by decide), fun h => absurd h (by decide), by decide⟩
theorem ca_8_120 : cfact 8 120 0 215 := ⟨(yX7_read, cX7_read, 2, (some FieldType.int), 0, 7, 0, 0), rfl, ⟨fun h => (by cases h), fun _ => mgd 1337 (by decide +kernel) rfl⟩, fun _ => ⟨mgd 1338 (by decide +kernel) rfl, mgd 1339 (by decide +kernel) rfl⟩, fun h => absurd h (by decide), fun h => absurd h (by decide), by decide⟩
theorem ca_8_121 : cfact 8 121 0 109 := ⟨(yX6_refusal, cX6_refusal, 2, (some FieldType.int), 1, 6, 0, 0), rfl, ⟨fun h => (by cases h), fun _ => mgd 824 (by decide +kernel) rfl⟩, fun _ => ⟨mgd 825 (by decide +kernel) rfl, mgd 826 (by decide +kernel) rfl⟩, fun h => absurd h (by decide), fun h => absurd h (by decide), by decide⟩
theorem ca_8_124 : cfact 8 124 0 228 := ⟨(yX7_refusal, cX7_refusal, 2, (some FieldType.int), 1, 7, 0, 0), rfl, ⟨fun h => (by cases h), fun _ => mgd 1388 (by decide +kernel) rfl⟩, fun _ => ⟨mgd 1389 (by decide +kernel) rfl, mgd 1390 (by decide +kernel) rfl⟩, fun h => absurd h (by decide), fun h => absurd h (by decide), by decide⟩
theorem ca_8_125 : cfact 8 125 0 110 := ⟨(yX6_account, cX6_account, 2, (some FieldType.int), 1, 6, 0, 0), rfl, ⟨fun h => (by cases h), fun _ => mgd 828 (by decide +kernel) rfl⟩, fun _ => ⟨mgd 829 (by decide +kernel) rfl, mgd 830 (by decide +kernel) rfl⟩, fun h => absurd h (by decide), fun h => absurd h (by decide), by decide⟩
theorem ca_8_128 : cfact 8 128 0 229 := ⟨(yX7_account, cX7_account, 2, (some FieldType.int), 1, 7, 0, 0), rfl, ⟨fun h => (by cases h), fun _ => mgd 1392 (by decide +kernel) rfl⟩, fun _ => ⟨mgd 1393 (by decide +kernel) rfl, mgd 1394 (by decide +kernel) rfl⟩, fun h => absurd h (by decide), fun h => absurd h (by decide), by decide⟩
theorem ca_8_129 : cfact 8 129 0 115 := ⟨(yX6_share, cX6_share, 3, (some FieldType.int), 0, 6, 0, 0), rfl, ⟨fun h => (by cases h), fun _ => mgd 849 (by decide +kernel) rfl⟩, fun _ => ⟨mgd 850 (by decide +kernel) rfl, mgd 851 (by decide +kernel) rfl⟩, fun h => absurd h (by decide), fun h => absurd h (by decide), by decide⟩
theorem ca_8_132 : cfact 8 132 0 232 := ⟨(yX7_share, cX7_share, 1, (some FieldType.int), 0, 7, 0, 0), rfl, ⟨fun h => (by cases h), fun _ => mgd 1405 (by decide +kernel) rfl⟩, fun _ => ⟨mgd 1406 (by decide +kernel) rfl, mgd 1407 (by decide +kernel) rfl⟩, fun h => absurd h (by decide), fun h => absurd h (by decide), by decide⟩
theorem ca_8_133 : cfact 8 133 0 117 := ⟨(yX6_undo, cX6_undo, 1, (some FieldType.int), 0, 6, 0, 0), rfl, ⟨fun h => (by cases h), fun _ => mgd 857 (by decide +kernel) rfl⟩, fun _ => ⟨mgd 858 (by decide +kernel) rfl, mgd 859 (by decide +kernel) rfl⟩, fun h => absurd h (by decide), fun h => absurd h (by decide), by decide⟩
theorem ca_8_136 : cfact 8 136 0 233 := ⟨(yX7_undo, cX7_undo, 1, (some FieldType.int), 0, 7, 0, 0), rfl, ⟨fun h => (by cases h), fun _ => mgd 1419 (by decide +kernel) rfl⟩, fun _ => ⟨mgd 1420 (by decide +kernel) rfl, mgd 1421 (by decide +kernel) rfl⟩, fun h => absurd h (by decide), fun h => absurd h (by decide), by decide⟩
theorem ca_8_137 : cfact 8 137 0 119 := ⟨(yX6_save, cX6_save, 1, (some FieldType.int), 0, 6, 0, 0), rfl, ⟨fun h => (by cases h), fun _ => mgd 865 (by decide +kernel) rfl⟩, fun _ => ⟨mgd 866 (by decide +kernel) rfl, mgd 867 (by decide +kernel) rfl⟩, fun h => absurd h (by decide), fun h => absurd h (by decide), by decide⟩
theorem ca_8_140 : cfact 8 140 0 234 := ⟨(yX7_save, cX7_save, 1, (some FieldType.int), 0, 7, 0, 0), rfl, ⟨fun h => (by cases h), fun _ => mgd 1423 (by decide +kernel) rfl⟩, fun _ => ⟨mgd 1424 (by decide +kernel) rfl, mgd 1425 (by decide +kernel) rfl⟩, fun h => absurd h (by decide), fun h => absurd h (by decide), by decide⟩
theorem ca_8_141 : cfact 8 141 0 120 := ⟨(yX6_restore, cX6_restore, 1, (some FieldType.int), 0, 6, 0, 0), rfl, ⟨fun h => (by cases h), fun _ => mgd 869 (by decide +kernel) rfl⟩, fun _ => ⟨mgd 870 (by decide +kernel) rfl, mgd 871 (by decide +kernel) rfl⟩, fun h => absurd h (by decide), fun h => absurd h (by decide), by decide⟩
theorem ca_8_144 : cfact 8 144 0 235 := ⟨(yX7_restore, cX7_restore, 1, (some FieldType.int), 0, 7, 0, 0), rfl, ⟨fun h => (by cases h), fun _ => mgd 1427 (by decide +kernel) rfl⟩, fun _ => ⟨mgd 1428 (by decide +kernel) rfl, mgd 1429 (by decide +kernel) rfl⟩, fun h => absurd h (by decide), fun h => absurd h (by decide), by decide⟩
theorem cal8_ok : ∀ q ∈ cal8, cfact 8 q.1 q.2.1 q.2.2 := List.forall_mem_cons.mpr ⟨ca_8_9, List.forall_mem_cons.mpr ⟨ca_8_12, List.forall_mem_cons.mpr ⟨ca_8_13, List.forall_mem_cons.mpr ⟨ca_8_17, List.forall_mem_cons.mpr ⟨ca_8_18, List.forall_mem_cons.mpr ⟨ca_8_22, List.forall_mem_cons.mpr ⟨ca_8_23, List.forall_mem_cons.mpr ⟨ca_8_26, List.forall_mem_cons.mpr ⟨ca_8_27, List.forall_mem_cons.mpr ⟨ca_8_30, List.forall_mem_cons.mpr ⟨ca_8_31, List.forall_mem_cons.mpr ⟨ca_8_35, List.forall_mem_cons.mpr ⟨ca_8_36, List.forall_mem_cons.mpr ⟨ca_8_39, List.forall_mem_cons.mpr ⟨ca_8_40, List.forall_mem_cons.mpr ⟨ca_8_43, List.forall_mem_cons.mpr ⟨ca_8_44, List.forall_mem_cons.mpr ⟨ca_8_47, List.forall_mem_cons.mpr ⟨ca_8_48, List.forall_mem_cons.mpr ⟨ca_8_51, List.forall_mem_cons.mpr ⟨ca_8_52, List.forall_mem_cons.mpr ⟨ca_8_55, List.forall_mem_cons.mpr ⟨ca_8_56, List.forall_mem_cons.mpr ⟨ca_8_59, List.forall_mem_cons.mpr ⟨ca_8_60, List.forall_mem_cons.mpr ⟨ca_8_63, List.forall_mem_cons.mpr ⟨ca_8_64, List.forall_mem_cons.mpr ⟨ca_8_67, List.forall_mem_cons.mpr ⟨ca_8_68, List.forall_mem_cons.mpr ⟨ca_8_71, List.forall_mem_cons.mpr ⟨ca_8_72, List.forall_mem_cons.mpr ⟨ca_8_75, List.forall_mem_cons.mpr ⟨ca_8_76, List.forall_mem_cons.mpr ⟨ca_8_79, List.forall_mem_cons.mpr ⟨ca_8_80, List.forall_mem_cons.mpr ⟨ca_8_83, List.forall_mem_cons.mpr ⟨ca_8_84, List.forall_mem_cons.mpr ⟨ca_8_87, List.forall_mem_cons.mpr ⟨ca_8_88, List.forall_mem_cons.mpr ⟨ca_8_91, List.forall_mem_cons.mpr ⟨ca_8_92, List.forall_mem_cons.mpr ⟨ca_8_95, List.forall_mem_cons.mpr ⟨ca_8_96, List.forall_mem_cons.mpr ⟨ca_8_99, List.forall_mem_cons.mpr ⟨ca_8_100, List.forall_mem_cons.mpr ⟨ca_8_103, List.forall_mem_cons.mpr ⟨ca_8_104, List.forall_mem_cons.mpr ⟨ca_8_107, List.forall_mem_cons.mpr ⟨ca_8_108, List.forall_mem_cons.mpr ⟨ca_8_111, List.forall_mem_cons.mpr ⟨ca_8_112, List.forall_mem_cons.mpr ⟨ca_8_115, List.forall_mem_cons.mpr ⟨ca_8_116, List.forall_mem_cons.mpr ⟨ca_8_120, List.forall_mem_cons.mpr ⟨ca_8_121, List.forall_mem_cons.mpr ⟨ca_8_124, List.forall_mem_cons.mpr ⟨ca_8_125, List.forall_mem_cons.mpr ⟨ca_8_128, List.forall_mem_cons.mpr ⟨ca_8_129, List.forall_mem_cons.mpr ⟨ca_8_132, List.forall_mem_cons.mpr ⟨ca_8_133, List.forall_mem_cons.mpr ⟨ca_8_136, List.forall_mem_cons.mpr ⟨ca_8_137, List.forall_mem_cons.mpr ⟨ca_8_140, List.forall_mem_cons.mpr ⟨ca_8_141, List.forall_mem_cons.mpr ⟨ca_8_144, fun _ h => absurd h List.not_mem_nil⟩⟩⟩⟩⟩⟩⟩⟩⟩⟩⟩⟩⟩⟩⟩⟩⟩⟩⟩⟩⟩⟩⟩⟩⟩⟩⟩⟩⟩⟩⟩⟩⟩⟩⟩⟩⟩⟩⟩⟩⟩⟩⟩⟩⟩⟩⟩⟩⟩⟩⟩⟩⟩⟩⟩⟩⟩⟩⟩⟩⟩⟩⟩⟩⟩⟩
def cal9 : List (Nat × Nat × Nat) := []
theorem cal9_ok : ∀ q ∈ cal9, cfact 9 q.1 q.2.1 q.2.2 := fun _ h => absurd h List.not_mem_nil
def cal10 : List (Nat × Nat × Nat) := [(59, 2, 238), (74, 10, 0)]
theorem ca_10_59 : cfact 10 59 2 238 := ⟨(yJxf58ca_isNaN_12338, cJxf58ca_isNaN_12338, 1, (some FieldType.boolean), 1, 10, 0, 0), rfl, ⟨fun h => (by cases h), fun _ => mgd 1412 (by decide +kernel) rfl⟩, fun h => absurd h (by decide), fun _ => mgd 1413 (by decide +kernel) rfl, fun h => absurd h (by decide), by decide⟩
theorem ca_10_74 : cfact 10 74 10 0 := mgd 1415 (by decide +kernel) rfl
theorem cal10_ok : ∀ q ∈ cal10, cfact 10 q.1 q.2.1 q.2.2 := List.forall_mem_cons.mpr ⟨ca_10_59, List.forall_mem_cons.mpr ⟨ca_10_74, fun _ h => absurd h List.not_mem_nil⟩⟩
def mcalL : Nat → List (Nat × Nat × Nat)
  | 0 => cal0
  | 1 => cal1
  | 2 => cal2
  | 3 => cal3
  | 4 => cal4
  | 5 => cal5
  | 6 => cal6
  | 7 => cal7
  | 8 => cal8
  | 9 => cal9
  | 10 => cal10
  | _ => []
theorem mcalL_ok (o : Nat) : ∀ q ∈ mcalL o, cfact o q.1 q.2.1 q.2.2 := match o with
  | 0 => cal0_ok
  | 1 => cal1_ok
  | 2 => cal2_ok
  | 3 => cal3_ok
  | 4 => cal4_ok
  | 5 => cal5_ok
  | 6 => cal6_ok
  | 7 => cal7_ok
  | 8 => cal8_ok
  | 9 => cal9_ok
  | 10 => cal10_ok
  | _ + 11 => fun _ h => absurd h List.not_mem_nil
def mcal (o i : Nat) : Option (Nat × Nat) := ((mcalL o).find? (fun q => q.1 == i)).map (fun q => q.2)
theorem mcal_ok {o i kd k : Nat} (h : mcal o i = some (kd, k)) : cfact o i kd k := by
  unfold mcal at h
  cases hf : (mcalL o).find? (fun q => q.1 == i) with
  | none => rw [hf] at h; cases h
  | some q =>
    rw [hf] at h
    have h1 := List.find?_some hf
    have h2 := mcalL_ok o q (List.mem_of_find?_eq_some hf)
    obtain ⟨i', kd', k'⟩ := q
    simp only [Option.map_some, Option.some.injEq, Prod.mk.injEq] at h
    simp only [beq_iff_eq] at h1
    obtain ⟨rfl, rfl⟩ := h
    subst h1
    exact h2
end
section
/-! M: a small machine over a pool of cells that stand at base, base + 1, ..; what it computes the JVM does (this part: the pool and the simple instructions) -/
def msh (base b : Nat) : Value → Value
  | .ref k => .ref (base + k)
  | .long _ => .ref b
  | v => v
def mint : Value → Int32
  | .int x => x
  | _ => 0
def mref (base : Nat) : Value → Option Nat
  | .ref k => some (base + k)
  | _ => none
abbrev mP : Type := List (Nat × List Value)
def mE (ca : Nat → ClassId) (base b : Nat) (q : Nat × List Value) : va_E :=
  if q.1 < 8 then .inr (q.1, q.2.map (msh base b))
  else if q.1 < 10 then .inl (ca q.1, q.2.length, .inl (fun j => mint (q.2.getD j .null)))
  else .inl (ca q.1, q.2.length, .inr (.inr (.inr (.inr (fun j => mref base (q.2.getD j .null))))))
def mW (ca : Nat → ClassId) (base b : Nat) : Nat → mP → va_W
  | _, [] => []
  | i, q :: P => (base + i, mE ca base b q) :: mW ca base b (i + 1) P
theorem mW_get (ca : Nat → ClassId) (base b : Nat) : ∀ (P : mP) (i k : Nat), (mW ca base b i P)[k]? = (P[k]?).map (fun q => (base + (i + k), mE ca base b q))
  | [], i, k => by simp [mW]
  | q :: P, i, 0 => by simp [mW]
  | q :: P, i, k + 1 => by
    simp only [mW, List.getElem?_cons_succ]
    rw [mW_get ca base b P (i + 1) k, show i + 1 + k = i + (k + 1) by omega]
theorem mW_set (ca : Nat → ClassId) (base b : Nat) : ∀ (P : mP) (i k : Nat) (q : Nat × List Value), (mW ca base b i P).set k (base + (i + k), mE ca base b q) = mW ca base b i (P.set k q)
  | [], i, k, q => by simp [mW]
  | p :: P, i, 0, q => by simp [mW]
  | p :: P, i, k + 1, q => by
    simp only [mW, List.set_cons_succ]
    rw [show i + (k + 1) = (i + 1) + k by omega, mW_set ca base b P (i + 1) k q]
theorem mW_app (ca : Nat → ClassId) (base b : Nat) : ∀ (P : mP) (i : Nat) (q : Nat × List Value), mW ca base b i (P ++ [q]) = mW ca base b i P ++ [(base + (i + P.length), mE ca base b q)]
  | [], i, q => by simp [mW]
  | p :: P, i, q => by
    simp only [mW, List.cons_append, List.length_cons]
    rw [mW_app ca base b P (i + 1) q, show i + 1 + P.length = i + (P.length + 1) by omega]
theorem mW_D (ca : Nat → ClassId) (base b : Nat) (P : mP) : va_D (fun q => base ≤ q) (mW ca base b 0 P) := by
  refine ⟨fun i j p q hi hj e => ?_, fun k q hk => ?_⟩
  · rw [mW_get] at hi hj
    obtain ⟨x, -, rfl⟩ := Option.map_eq_some_iff.mp hi
    obtain ⟨y, -, rfl⟩ := Option.map_eq_some_iff.mp hj
    dsimp only at e
    omega
  · rw [mW_get] at hk
    obtain ⟨x, -, rfl⟩ := Option.map_eq_some_iff.mp hk
    dsimp only
    omega
def mH (ca : Nat → ClassId) (dC : Nat → ClassId) (dI : Nat → Nat → Nat) (base b : Nat) (P : mP) (H : Heap) : Prop := va_P (dC, dI) vwCl (mW ca base b 0 P) H ∧ H.size = base + P.length
abbrev mT (ca : Nat → ClassId) : List (ClassId × FieldType) := [(ca 8, .int), (ca 9, .boolean), (ca 10, .object RX2), (ca 11, .object RX5)]
def mU (ca : Nat → ClassId) (dC : Nat → ClassId) (dI : Nat → Nat → Nat) (U : State) : Prop := va_K (dC, dI) vwCl (mT ca) U ∧ (∀ w ∈ lw_nests, va_Nw w U) ∧ va_AO RX2 U ∧ va_AO RX5 U
/-- what holds all along a method's body: the machine, the code, its class, the words, the tables, where the pool begins -/
def mX (p : Program) (s : State) (m : MethodId) (args : Array Value) (meth : Method) (c : Code) (cc : ByteArray) (nL o : Nat) (ini : Bool) (ca dC : Nat → ClassId) (dI : Nat → Nat → Nat) (base : Nat) : Prop :=
  p.tables.exec = Jvm.exec ∧ c.code = cc ∧ c.maxLocals = nL ∧ s.vm.findClass (cN o) = some m.cls ∧ (∀ w ∈ lw_good, w.before args s = true) ∧ mU ca dC dI s ∧ base ≤ s.heap.size ∧ (ini = true → meth.name = "<init>")
def mLs (base b : Nat) (L : List (Nat × Value)) : List (Nat × Value) := L.map (fun q => (q.1, msh base b q.2))
def mget (L : List (Nat × Value)) (i : Nat) : Option Value := (L.find? (fun q => q.1 == i)).map (fun q => q.2)
def mput (i : Nat) (v : Value) (L : List (Nat × Value)) : List (Nat × Value) := (i, v) :: L.filter (fun q => !(q.1 == i) && !(q.1 + 1 == i && (msh 0 0 q.2).category == 2))
theorem msh_cat (base b : Nat) (v : Value) : (msh base b v).category = (msh 0 0 v).category := by cases v <;> rfl
theorem mput_ls (base b i : Nat) (v : Value) (L : List (Nat × Value)) : mLs base b (mput i v L) = (i, msh base b v) :: (mLs base b L).filter (fun q => !(q.1 == i) && !(q.1 + 1 == i && q.2.category == 2)) := by
  unfold mLs mput
  simp only [List.map_cons, List.filter_map]
  congr 2
  refine List.filter_congr (fun q _ => ?_)
  simp only [Function.comp, msh_cat]
theorem mget_mem {L : List (Nat × Value)} {i : Nat} {v : Value} (h : mget L i = some v) : (i, v) ∈ L := by
  unfold mget at h
  obtain ⟨⟨j, w⟩, h1, h2⟩ := Option.map_eq_some_iff.mp h
  dsimp only at h2
  subst h2
  have h3 := List.find?_some h1
  simp only [beq_iff_eq] at h3
  subst h3
  exact List.mem_of_find?_eq_some h1
theorem mget_ls {base b : Nat} {L : List (Nat × Value)} {i : Nat} {v : Value} (h : mget L i = some v) : (i, msh base b v) ∈ mLs base b L := List.mem_map.mpr ⟨(i, v), mget_mem h, rfl⟩
theorem mget_at {base b nL : Nat} {ls : Array Slot} {L : List (Nat × Value)} {i : Nat} {v : Value} (hl : lv_has ls nL (mLs base b L)) (h : mget L i = some v) : ls[i]? = some (.val (msh base b v)) := hl.2.2 _ (mget_ls h)
def mgI (L : List (Nat × Value)) (i : Nat) : Option Int32 := match mget L i with
  | some (.int x) => some x
  | _ => none
theorem mgI_get {L : List (Nat × Value)} {i : Nat} {x : Int32} (h : mgI L i = some x) : mget L i = some (.int x) := by
  unfold mgI at h
  split at h
  · rename_i y e
    cases h
    exact e
  · cases h
/-- the machine's own steps -/
def MW (p : Program) (l : Launch) (e : Env) (R : Room) (s : State) (m : MethodId) (args : Array Value) (below : List Frame) (meth : Method) (c : Code) (nL : Nat) (ca dC : Nat → ClassId) (dI : Nat → Nat → Nat) (base b : Nat) (Q : State → Prop) (pc : Nat) (L : List (Nat × Value)) (st : List Value) (P : mP) (cz sz : Nat) : Prop :=
  ∀ (ls : Array Slot) (H : Heap) (locs : List Loc), lv_has ls nL (mLs base b L) → mH ca dC dI base b P H → va_S (fun q => base ≤ q) s.heap H locs → W p l e R s m args below meth c H locs cz sz Q (F0 m pc ls (st.map (msh base b)))
/-- loads, constants, stores, goto -/
def mA (cc : ByteArray) (nL pc : Nat) (L : List (Nat × Value)) (st : List Value) : Option (Nat × List (Nat × Value) × List Value) :=
  match decode cc pc with
  | .ok (.iload_n k, 1) => (mgI L k).map (fun x => (pc + 1, L, .int x :: st))
  | .ok (.iload i, 2) => (mgI L i).map (fun x => (pc + 2, L, .int x :: st))
  | .ok (.aload_n k, 1) => match mget L k with
    | some (.ref x) => some (pc + 1, L, .ref x :: st)
    | some (.long z) => some (pc + 1, L, .long z :: st)
    | some .null => some (pc + 1, L, .null :: st)
    | _ => none
  | .ok (.aload i, 2) => match mget L i with
    | some (.ref x) => some (pc + 2, L, .ref x :: st)
    | some (.long z) => some (pc + 2, L, .long z :: st)
    | some .null => some (pc + 2, L, .null :: st)
    | _ => none
  | .ok (.iconst n, 1) => some (pc + 1, L, .int (Int32.ofInt n) :: st)
  | .ok (.bipush n, 2) => some (pc + 2, L, .int (Int8.ofInt n).toInt32 :: st)
  | .ok (.sipush n, 3) => some (pc + 3, L, .int (Int16.ofInt n).toInt32 :: st)
  | .ok (.aconst_null, 1) => some (pc + 1, L, .null :: st)
  | .ok (.istore_n k, 1) => match st with
    | .int x :: r => if (k : Nat) < nL then some (pc + 1, mput k (.int x) L, r) else none
    | _ => none
  | .ok (.istore i, 2) => match st with
    | .int x :: r => if i < nL then some (pc + 2, mput i (.int x) L, r) else none
    | _ => none
  | .ok (.astore_n k, 1) => match st with
    | .ref x :: r => if (k : Nat) < nL then some (pc + 1, mput k (.ref x) L, r) else none
    | .null :: r => if (k : Nat) < nL then some (pc + 1, mput k .null L, r) else none
    | _ => none
  | .ok (.astore i, 2) => match st with
    | .ref x :: r => if i < nL then some (pc + 2, mput i (.ref x) L, r) else none
    | .null :: r => if i < nL then some (pc + 2, mput i .null L, r) else none
    | _ => none
  | .ok (.iinc i n, 3) => if i < nL then (mgI L i).map (fun x => (pc + 3, mput i (.int (x + Int32.ofInt n)) L, st)) else none
  | .ok (.fload_n k, 1) => match mget L k with
    | some (.float x) => some (pc + 1, L, .float x :: st)
    | _ => none
  | .ok (.fstore_n k, 1) => match st with
    | .float x :: r => if (k : Nat) < nL then some (pc + 1, mput k (.float x) L, r) else none
    | _ => none
  | .ok (.goto off, 3) => if 0 ≤ (pc : Int) + off then some (((pc : Int) + off).toNat, L, st) else none
  | _ => none
section MR
variable {p : Program} {l : Launch} {e : Env} {R : Room} {s : State} {m : MethodId} {args : Array Value} {below : List Frame} {meth : Method} {c : Code} {Q : State → Prop}
variable {cc : ByteArray} {nL o base b : Nat} {ini : Bool} {ca dC : Nat → ClassId} {dI : Nat → Nat → Nat} {pc : Nat} {L : List (Nat × Value)} {st : List Value} {P : mP} {cz sz : Nat}
set_option maxHeartbeats 4000000 in
theorem mA_ok (X : mX p s m args meth c cc nL o ini ca dC dI base) {z : Nat × List (Nat × Value) × List Value} (h : mA cc nL pc L st = some z) (kk : MW p l e R s m args below meth c nL ca dC dI base b Q z.1 z.2.1 z.2.2 P cz sz) : MW p l e R s m args below meth c nL ca dC dI base b Q pc L st P cz sz := by
  obtain ⟨hx, hb, -, -, -, -, -, -⟩ := X
  intro ls H locs hl hH hS
  unfold mA at h
  split at h
  · rename_i k heq
    obtain ⟨x, h1, rfl⟩ := Option.map_eq_some_iff.mp h
    exact lv_iload_n hx hb heq rfl (mget_at hl (mgI_get h1)) (kk ls H locs hl hH hS)
  · rename_i i heq
    obtain ⟨x, h1, rfl⟩ := Option.map_eq_some_iff.mp h
    exact lv_iload hx hb heq (mget_at hl (mgI_get h1)) (kk ls H locs hl hH hS)
  · rename_i k heq
    split at h
    · rename_i x h1
      cases h
      exact lv_aload_n hx hb heq rfl (mget_at hl h1) (kk ls H locs hl hH hS)
    · rename_i x h1
      cases h
      exact lv_aload_n hx hb heq rfl (mget_at hl h1) (kk ls H locs hl hH hS)
    · rename_i h1
      cases h
      exact lv_aload_nN hx hb heq rfl (mget_at hl h1) (kk ls H locs hl hH hS)
    · cases h
  · rename_i i heq
    split at h
    · rename_i x h1
      cases h
      exact lv_aload hx hb heq (mget_at hl h1) (kk ls H locs hl hH hS)
    · rename_i x h1
      cases h
      exact lv_aload hx hb heq (mget_at hl h1) (kk ls H locs hl hH hS)
    · rename_i h1
      cases h
      exact lv_aloadN hx hb heq (mget_at hl h1) (kk ls H locs hl hH hS)
    · cases h
  · rename_i n heq
    cases h
    exact lv_iconst hx hb heq rfl (kk ls H locs hl hH hS)
  · rename_i n heq
    cases h
    exact lv_bipush hx hb heq rfl (kk ls H locs hl hH hS)
  · rename_i n heq
    cases h
    exact lv_sipush hx hb heq rfl (kk ls H locs hl hH hS)
  · rename_i heq
    cases h
    exact lv_null hx hb heq (kk ls H locs hl hH hS)
  · rename_i k heq
    split at h
    · rename_i x r
      split at h
      · rename_i hk
        cases h
        exact lv_istore_n hx hb heq rfl hl hk (mput_ls base b k (.int x) L).symm (fun ls' h' => kk ls' H locs h' hH hS)
      · cases h
    · cases h
  · rename_i i heq
    split at h
    · rename_i x r
      split at h
      · rename_i hk
        cases h
        exact lv_istore hx hb heq hl hk (mput_ls base b i (.int x) L).symm (fun ls' h' => kk ls' H locs h' hH hS)
      · cases h
    · cases h
  · rename_i k heq
    split at h
    · rename_i x r
      split at h
      · rename_i hk
        cases h
        exact lv_astore_n hx hb heq rfl hl hk (mput_ls base b k (.ref x) L).symm (fun ls' h' => kk ls' H locs h' hH hS)
      · cases h
    · rename_i r
      split at h
      · rename_i hk
        cases h
        exact lv_astore_nN hx hb heq rfl hl hk (mput_ls base b k .null L).symm (fun ls' h' => kk ls' H locs h' hH hS)
      · cases h
    · cases h
  · rename_i i heq
    split at h
    · rename_i x r
      split at h
      · rename_i hk
        cases h
        exact lv_astore hx hb heq hl hk (mput_ls base b i (.ref x) L).symm (fun ls' h' => kk ls' H locs h' hH hS)
      · cases h
    · rename_i r
      split at h
      · rename_i hk
        cases h
        exact lv_astoreN hx hb heq hl hk (mput_ls base b i .null L).symm (fun ls' h' => kk ls' H locs h' hH hS)
      · cases h
    · cases h
  · rename_i i n heq
    split at h
    · rename_i hk
      obtain ⟨x, h1, rfl⟩ := Option.map_eq_some_iff.mp h
      obtain ⟨k, hk2⟩ := List.getElem?_of_mem (mget_ls (base := base) (b := b) (mgI_get h1))
      exact lv_iinc hx hb heq hl hk2 rfl hk (mput_ls base b i (.int (x + Int32.ofInt n)) L).symm (fun ls' h' => kk ls' H locs h' hH hS)
    · cases h
  · rename_i k heq
    split at h
    · rename_i x h1
      cases h
      exact lv_fload_n hx hb heq rfl (mget_at hl h1) (kk ls H locs hl hH hS)
    · cases h
  · rename_i k heq
    split at h
    · rename_i x r
      split at h
      · rename_i hk
        cases h
        exact lv_fstore_n hx hb heq rfl hl hk (mput_ls base b k (.float x) L).symm (fun ls' h' => kk ls' H locs h' hH hS)
      · cases h
    · cases h
  · rename_i off heq
    split at h
    · rename_i hk
      cases h
      exact lv_goto hx hb heq (by omega) (kk ls H locs hl hH hS)
    · cases h
  · cases h
end MR
end
section
/-! M: arithmetic, the stack, branches, switches -/
def mjmp (q : Prop) [Decidable q] (pc : Nat) (off : Int) (r : List Value) : Option (Nat × List Value) :=
  if 0 ≤ (pc : Int) + off then (if q then some (((pc : Int) + off).toNat, r) else some (pc + 3, r)) else none
theorem mjmp_ok {q : Prop} [Decidable q] {pc : Nat} {off : Int} {r : List Value} {z : Nat × List Value} (h : mjmp q pc off r = some z) : ∃ t : Nat, (pc : Int) + off = (t : Int) ∧ ((q ∧ z = (t, r)) ∨ (¬ q ∧ z = (pc + 3, r))) := by
  unfold mjmp at h
  split at h
  · rename_i h0
    refine ⟨((pc : Int) + off).toNat, by omega, ?_⟩
    split at h
    · rename_i hq
      exact Or.inl ⟨hq, (Option.some.inj h).symm⟩
    · rename_i hq
      exact Or.inr ⟨hq, (Option.some.inj h).symm⟩
  · cases h
def mif1 (q : Int32 → Prop) [∀ x, Decidable (q x)] (pc : Nat) (off : Int) (st : List Value) : Option (Nat × List Value) := match st with
  | .int x :: r => mjmp (q x) pc off r
  | _ => none
theorem mif1_ok {q : Int32 → Prop} [∀ x, Decidable (q x)] {pc : Nat} {off : Int} {st : List Value} {z : Nat × List Value} (h : mif1 q pc off st = some z) : ∃ (x : Int32) (r : List Value) (t : Nat), st = .int x :: r ∧ (pc : Int) + off = (t : Int) ∧ ((q x ∧ z = (t, r)) ∨ (¬ q x ∧ z = (pc + 3, r))) := by
  unfold mif1 at h
  split at h
  · rename_i x r
    obtain ⟨t, h1, h2⟩ := mjmp_ok h
    exact ⟨x, r, t, rfl, h1, h2⟩
  · cases h
def mif2 (q : Int32 → Int32 → Prop) [∀ x y, Decidable (q x y)] (pc : Nat) (off : Int) (st : List Value) : Option (Nat × List Value) := match st with
  | .int y :: .int x :: r => mjmp (q x y) pc off r
  | _ => none
theorem mif2_ok {q : Int32 → Int32 → Prop} [∀ x y, Decidable (q x y)] {pc : Nat} {off : Int} {st : List Value} {z : Nat × List Value} (h : mif2 q pc off st = some z) : ∃ (x y : Int32) (r : List Value) (t : Nat), st = .int y :: .int x :: r ∧ (pc : Int) + off = (t : Int) ∧ ((q x y ∧ z = (t, r)) ∨ (¬ q x y ∧ z = (pc + 3, r))) := by
  unfold mif2 at h
  split at h
  · rename_i y x r
    obtain ⟨t, h1, h2⟩ := mjmp_ok h
    exact ⟨x, y, r, t, rfl, h1, h2⟩
  · cases h
def mbin (f : Int32 → Int32 → Int32) (pc : Nat) (st : List Value) : Option (Nat × List Value) := match st with
  | .int y :: .int x :: r => some (pc + 1, .int (f x y) :: r)
  | _ => none
theorem mbin_ok {f : Int32 → Int32 → Int32} {pc : Nat} {st : List Value} {z : Nat × List Value} (h : mbin f pc st = some z) : ∃ (x y : Int32) (r : List Value), st = .int y :: .int x :: r ∧ z = (pc + 1, .int (f x y) :: r) := by
  unfold mbin at h
  split at h
  · rename_i y x r
    exact ⟨x, y, r, rfl, (Option.some.inj h).symm⟩
  · cases h
def mbinD (f : Int32 → Int32 → Int32) (pc : Nat) (st : List Value) : Option (Nat × List Value) := match st with
  | .int y :: .int x :: r => if y = 0 then none else some (pc + 1, .int (f x y) :: r)
  | _ => none
theorem mbinD_ok {f : Int32 → Int32 → Int32} {pc : Nat} {st : List Value} {z : Nat × List Value} (h : mbinD f pc st = some z) : ∃ (x y : Int32) (r : List Value), st = .int y :: .int x :: r ∧ ¬ y = 0 ∧ z = (pc + 1, .int (f x y) :: r) := by
  unfold mbinD at h
  split at h
  · rename_i y x r
    split at h
    · cases h
    · rename_i hy
      exact ⟨x, y, r, rfl, hy, (Option.some.inj h).symm⟩
  · cases h
def mcat (v : Value) : Nat := (msh 0 0 v).category
def mtab (pc : Nat) (dflt lo hi : Int) (offs : Array Int) (x : Int32) (r : List Value) : Option (Nat × List Value) :=
  if x.toInt < lo ∨ hi < x.toInt then (if 0 ≤ (pc : Int) + dflt then some (((pc : Int) + dflt).toNat, r) else none)
  else match offs[(x.toInt - lo).toNat]? with
    | some off => if 0 ≤ (pc : Int) + off then some (((pc : Int) + off).toNat, r) else none
    | none => none
def mlok (pc : Nat) (dflt : Int) (ps : Array (Int × Int)) (x : Int32) (r : List Value) : Option (Nat × List Value) :=
  if (ps.toList.zip (ps.toList.drop 1)).all (fun (a, next) => a.1 < next.1) = true then (if 0 ≤ (pc : Int) + Op.lookupswitch.offset ps.toList dflt x.toInt then some (((pc : Int) + Op.lookupswitch.offset ps.toList dflt x.toInt).toNat, r) else none) else none
def mS (cc : ByteArray) (pc : Nat) (st : List Value) : Option (Nat × List Value) :=
  match decode cc pc with
  | .ok (.iadd, 1) => mbin (fun x y => x + y) pc st
  | .ok (.isub, 1) => mbin (fun x y => x - y) pc st
  | .ok (.imul, 1) => mbin (fun x y => x * y) pc st
  | .ok (.iand, 1) => mbin (fun x y => x &&& y) pc st
  | .ok (.ishl, 1) => mbin (fun x y => x <<< (y &&& 31)) pc st
  | .ok (.ishr, 1) => mbin (fun x y => x >>> (y &&& 31)) pc st
  | .ok (.idiv, 1) => mbinD (fun x y => x / y) pc st
  | .ok (.irem, 1) => mbinD (fun x y => x - x / y * y) pc st
  | .ok (.ineg, 1) => match st with
    | .int x :: r => some (pc + 1, .int (-x) :: r)
    | _ => none
  | .ok (.ixor, 1) => mbin (fun x y => x ^^^ y) pc st
  | .ok (.i2f, 1) => match st with
    | .int x :: r => some (pc + 1, .float (FP.i2f x) :: r)
    | _ => none
  | .ok (.fdiv, 1) => match st with
    | .float y :: .float x :: r => if FP.fdiv x y &&& 0x7fffffff ≤ 0x7f800000 then some (pc + 1, .float (FP.fdiv x y) :: r) else none
    | _ => none
  | .ok (.fmul, 1) => match st with
    | .float y :: .float x :: r => if FP.fmul x y &&& 0x7fffffff ≤ 0x7f800000 then some (pc + 1, .float (FP.fmul x y) :: r) else none
    | _ => none
  | .ok (.fsub, 1) => match st with
    | .float y :: .float x :: r => if FP.fsub x y &&& 0x7fffffff ≤ 0x7f800000 then some (pc + 1, .float (FP.fsub x y) :: r) else none
    | _ => none
  | .ok (.fcmp op, 1) => match st with
    | .float y :: .float x :: r => some (pc + 1, .int (Op.cmpValue (FP.fcmp x y) op) :: r)
    | _ => none
  | .ok (.f2i, 1) => match st with
    | .float x :: r => some (pc + 1, .int (FP.f2i x) :: r)
    | _ => none
  | .ok (.fconst 0, 1) => some (pc + 1, .float FP.fconst0 :: st)
  | .ok (.fconst 1, 1) => some (pc + 1, .float FP.fconst1 :: st)
  | .ok (.fconst 2, 1) => some (pc + 1, .float FP.fconst2 :: st)
  | .ok (.dup, 1) => match st with
    | v :: r => if mcat v = 1 then some (pc + 1, v :: v :: r) else none
    | _ => none
  | .ok (.pop, 1) => match st with
    | v :: r => if mcat v = 1 then some (pc + 1, r) else none
    | _ => none
  | .ok (.dup2, 1) => match st with
    | v :: w :: r => if mcat v = 1 ∧ mcat w = 1 then some (pc + 1, v :: w :: v :: w :: r) else none
    | _ => none
  | .ok (.ifCond .eq off, 3) => mif1 (fun x => x = 0) pc off st
  | .ok (.ifCond .ne off, 3) => mif1 (fun x => ¬ x = 0) pc off st
  | .ok (.ifCond .lt off, 3) => mif1 (fun x => x < 0) pc off st
  | .ok (.ifCond .ge off, 3) => mif1 (fun x => 0 ≤ x) pc off st
  | .ok (.ifCond .gt off, 3) => mif1 (fun x => 0 < x) pc off st
  | .ok (.ifCond .le off, 3) => mif1 (fun x => x ≤ 0) pc off st
  | .ok (.if_icmp .eq off, 3) => mif2 (fun x y => x = y) pc off st
  | .ok (.if_icmp .ne off, 3) => mif2 (fun x y => ¬ x = y) pc off st
  | .ok (.if_icmp .lt off, 3) => mif2 (fun x y => x < y) pc off st
  | .ok (.if_icmp .ge off, 3) => mif2 (fun x y => y ≤ x) pc off st
  | .ok (.if_icmp .gt off, 3) => mif2 (fun x y => y < x) pc off st
  | .ok (.if_icmp .le off, 3) => mif2 (fun x y => x ≤ y) pc off st
  | .ok (.ifnull off, 3) => match st with
    | .ref _ :: r => some (pc + 3, r)
    | .null :: r => if 0 ≤ (pc : Int) + off then some (((pc : Int) + off).toNat, r) else none
    | _ => none
  | .ok (.ifnonnull off, 3) => match st with
    | .ref _ :: r => if 0 ≤ (pc : Int) + off then some (((pc : Int) + off).toNat, r) else none
    | .null :: r => some (pc + 3, r)
    | _ => none
  | .ok (.tableswitch dflt lo hi offs, _) => match st with
    | .int x :: r => mtab pc dflt lo hi offs x r
    | _ => none
  | .ok (.lookupswitch dflt ps, _) => match st with
    | .int x :: r => mlok pc dflt ps x r
    | _ => none
  | _ => none
section MR
variable {p : Program} {l : Launch} {e : Env} {R : Room} {s : State} {m : MethodId} {args : Array Value} {below : List Frame} {meth : Method} {c : Code} {Q : State → Prop}
variable {cc : ByteArray} {nL o base b : Nat} {ini : Bool} {ca dC : Nat → ClassId} {dI : Nat → Nat → Nat} {pc : Nat} {L : List (Nat × Value)} {st : List Value} {P : mP} {cz sz : Nat}
theorem mcat1 {v : Value} (h : mcat v = 1) (base b : Nat) : (msh base b v).category = 1 := (msh_cat base b v).trans h
set_option maxHeartbeats 4000000 in
theorem mS_ok (X : mX p s m args meth c cc nL o ini ca dC dI base) {z : Nat × List Value} (h : mS cc pc st = some z) (kk : MW p l e R s m args below meth c nL ca dC dI base b Q z.1 L z.2 P cz sz) : MW p l e R s m args below meth c nL ca dC dI base b Q pc L st P cz sz := by
  obtain ⟨hx, hb, -, -, -, -, -, -⟩ := X
  intro ls H locs hl hH hS
  have kk := kk ls H locs hl hH hS
  unfold mS at h
  split at h
  · rename_i heq
    obtain ⟨x, y, r, rfl, rfl⟩ := mbin_ok h
    exact lv_iadd hx hb heq kk
  · rename_i heq
    obtain ⟨x, y, r, rfl, rfl⟩ := mbin_ok h
    exact lv_isub hx hb heq kk
  · rename_i heq
    obtain ⟨x, y, r, rfl, rfl⟩ := mbin_ok h
    exact lv_imul hx hb heq kk
  · rename_i heq
    obtain ⟨x, y, r, rfl, rfl⟩ := mbin_ok h
    exact lv_iand hx hb heq kk
  · rename_i heq
    obtain ⟨x, y, r, rfl, rfl⟩ := mbin_ok h
    exact lv_ishl hx hb heq kk
  · rename_i heq
    obtain ⟨x, y, r, rfl, rfl⟩ := mbin_ok h
    exact lv_ishr hx hb heq kk
  · rename_i heq
    obtain ⟨x, y, r, rfl, hy, rfl⟩ := mbinD_ok h
    exact lv_idiv hx hb heq hy kk
  · rename_i heq
    obtain ⟨x, y, r, rfl, hy, rfl⟩ := mbinD_ok h
    exact lv_irem hx hb heq hy kk
  · rename_i heq
    split at h
    · cases h
      exact lv_ineg hx hb heq kk
    · cases h
  · rename_i heq
    obtain ⟨x, y, r, rfl, rfl⟩ := mbin_ok h
    exact lv_ixor hx hb heq kk
  · rename_i heq
    split at h
    · cases h
      exact lv_i2f hx hb heq kk
    · cases h
  · rename_i heq
    split at h
    · split at h
      · rename_i hv
        cases h
        exact lv_fdiv hx hb heq hv kk
      · cases h
    · cases h
  · rename_i heq
    split at h
    · split at h
      · rename_i hv
        cases h
        exact lv_fmul hx hb heq hv kk
      · cases h
    · cases h
  · rename_i heq
    split at h
    · split at h
      · rename_i hv
        cases h
        exact lv_fsub hx hb heq hv kk
      · cases h
    · cases h
  · rename_i op heq
    split at h
    · cases h
      exact lv_fcmp hx hb heq kk
    · cases h
  · rename_i heq
    split at h
    · cases h
      exact lv_f2i hx hb heq kk
    · cases h
  · rename_i heq
    cases h
    exact lv_fconst0 hx hb heq kk
  · rename_i heq
    cases h
    exact lv_fconst1 hx hb heq kk
  · rename_i heq
    cases h
    exact lv_fconst2 hx hb heq kk
  · rename_i heq
    split at h
    · split at h
      · rename_i hv
        cases h
        exact lv_dup hx hb heq (mcat1 hv base b) kk
      · cases h
    · cases h
  · rename_i heq
    split at h
    · split at h
      · rename_i hv
        cases h
        exact lv_pop hx hb heq (mcat1 hv base b) kk
      · cases h
    · cases h
  · rename_i heq
    split at h
    · split at h
      · rename_i hv
        cases h
        exact lv_dup2_11 hx hb heq (mcat1 hv.1 base b) (mcat1 hv.2 base b) kk
      · cases h
    · cases h
  · rename_i off heq
    obtain ⟨x, r, t, rfl, ht, ⟨hq, rfl⟩ | ⟨hq, rfl⟩⟩ := mif1_ok h
    · exact lv_if_eq hx hb heq ht (fun _ => kk) (fun q => absurd hq q)
    · exact lv_if_eq hx hb heq ht (fun q => absurd q hq) (fun _ => kk)
  · rename_i off heq
    obtain ⟨x, r, t, rfl, ht, ⟨hq, rfl⟩ | ⟨hq, rfl⟩⟩ := mif1_ok h
    · exact lv_if_ne hx hb heq ht (fun _ => kk) (fun q => absurd q hq)
    · exact lv_if_ne hx hb heq ht (fun q => absurd q hq) (fun _ => kk)
  · rename_i off heq
    obtain ⟨x, r, t, rfl, ht, ⟨hq, rfl⟩ | ⟨hq, rfl⟩⟩ := mif1_ok h
    · exact lv_if_lt hx hb heq ht (fun _ => kk) (fun q => absurd hq q)
    · exact lv_if_lt hx hb heq ht (fun q => absurd q hq) (fun _ => kk)
  · rename_i off heq
    obtain ⟨x, r, t, rfl, ht, ⟨hq, rfl⟩ | ⟨hq, rfl⟩⟩ := mif1_ok h
    · exact lv_if_ge hx hb heq ht (fun _ => kk) (fun q => absurd hq q)
    · exact lv_if_ge hx hb heq ht (fun q => absurd q hq) (fun _ => kk)
  · rename_i off heq
    obtain ⟨x, r, t, rfl, ht, ⟨hq, rfl⟩ | ⟨hq, rfl⟩⟩ := mif1_ok h
    · exact lv_if_gt hx hb heq ht (fun _ => kk) (fun q => absurd hq q)
    · exact lv_if_gt hx hb heq ht (fun q => absurd q hq) (fun _ => kk)
  · rename_i off heq
    obtain ⟨x, r, t, rfl, ht, ⟨hq, rfl⟩ | ⟨hq, rfl⟩⟩ := mif1_ok h
    · exact lv_if_le hx hb heq ht (fun _ => kk) (fun q => absurd hq q)
    · exact lv_if_le hx hb heq ht (fun q => absurd q hq) (fun _ => kk)
  · rename_i off heq
    obtain ⟨x, y, r, t, rfl, ht, ⟨hq, rfl⟩ | ⟨hq, rfl⟩⟩ := mif2_ok h
    · exact lv_icmp_eq hx hb heq ht (fun _ => kk) (fun q => absurd hq q)
    · exact lv_icmp_eq hx hb heq ht (fun q => absurd q hq) (fun _ => kk)
  · rename_i off heq
    obtain ⟨x, y, r, t, rfl, ht, ⟨hq, rfl⟩ | ⟨hq, rfl⟩⟩ := mif2_ok h
    · exact lv_icmp_ne hx hb heq ht (fun _ => kk) (fun q => absurd q hq)
    · exact lv_icmp_ne hx hb heq ht (fun q => absurd q hq) (fun _ => kk)
  · rename_i off heq
    obtain ⟨x, y, r, t, rfl, ht, ⟨hq, rfl⟩ | ⟨hq, rfl⟩⟩ := mif2_ok h
    · exact lv_icmp_lt hx hb heq ht (fun _ => kk) (fun q => absurd hq q)
    · exact lv_icmp_lt hx hb heq ht (fun q => absurd q hq) (fun _ => kk)
  · rename_i off heq
    obtain ⟨x, y, r, t, rfl, ht, ⟨hq, rfl⟩ | ⟨hq, rfl⟩⟩ := mif2_ok h
    · exact lv_icmp_ge hx hb heq ht (fun _ => kk) (fun q => absurd hq q)
    · exact lv_icmp_ge hx hb heq ht (fun q => absurd q hq) (fun _ => kk)
  · rename_i off heq
    obtain ⟨x, y, r, t, rfl, ht, ⟨hq, rfl⟩ | ⟨hq, rfl⟩⟩ := mif2_ok h
    · exact lv_icmp_gt hx hb heq ht (fun _ => kk) (fun q => absurd hq q)
    · exact lv_icmp_gt hx hb heq ht (fun q => absurd q hq) (fun _ => kk)
  · rename_i off heq
    obtain ⟨x, y, r, t, rfl, ht, ⟨hq, rfl⟩ | ⟨hq, rfl⟩⟩ := mif2_ok h
    · exact lv_icmp_le hx hb heq ht (fun _ => kk) (fun q => absurd hq q)
    · exact lv_icmp_le hx hb heq ht (fun q => absurd q hq) (fun _ => kk)
  · rename_i off heq
    split at h
    · cases h
      exact lv_ifnull hx hb heq kk
    · split at h
      · cases h
        exact lv_ifnullN hx hb heq (by omega) kk
      · cases h
    · cases h
  · rename_i off heq
    split at h
    · split at h
      · cases h
        exact lv_ifnonnull hx hb heq (by omega) kk
      · cases h
    · cases h
      exact lv_ifnonnullN hx hb heq kk
    · cases h
  · rename_i dflt lo hi offs len heq
    split at h
    · rename_i x r
      unfold mtab at h
      split at h
      · rename_i h1
        split at h
        · cases h
          exact lv_tableOut hx hb heq h1 (by omega) kk
        · cases h
      · rename_i h1
        split at h
        · rename_i off ho
          split at h
          · cases h
            exact lv_tableIn hx hb heq (fun q => h1 (Or.inl q)) (fun q => h1 (Or.inr q)) ho (by omega) kk
          · cases h
        · cases h
    · cases h
  · rename_i dflt ps len heq
    split at h
    · rename_i x r
      unfold mlok at h
      split at h
      · rename_i h1
        split at h
        · cases h
          exact lv_lookup hx hb heq h1 rfl (by omega) kk
        · cases h
      · cases h
    · cases h
  · cases h
end MR
end
section
/-! M: fields, arrays, new cells -/
def mfit : FieldType → Value → Bool
  | .int, .int _ => true
  | .boolean, .int x => x == 0 || x == 1
  | .object _, .ref _ => true
  | .object _, .null => true
  | .array _, .ref _ => true
  | .array _, .null => true
  | _, _ => false
theorem mfit_ok {ty : FieldType} {v : Value} (h : mfit ty v = true) (base b : Nat) : narrow ty (msh base b v) = msh base b v ∧ fits ty (msh base b v) = true := by
  unfold mfit at h
  split at h
  · exact ⟨rfl, rfl⟩
  · rename_i x
    simp only [Bool.or_eq_true, beq_iff_eq] at h
    rcases h with rfl | rfl <;> exact ⟨rfl, rfl⟩
  · exact ⟨rfl, rfl⟩
  · exact ⟨rfl, rfl⟩
  · exact ⟨rfl, rfl⟩
  · exact ⟨rfl, rfl⟩
  · cases h
theorem mE_obj {ca : Nat → ClassId} {base b ci : Nat} {vs : List Value} (h : ci < 8) : mE ca base b (ci, vs) = .inr (ci, vs.map (msh base b)) := by simp [mE, h]
theorem mE_int {ca : Nat → ClassId} {base b : Nat} {vs : List Value} : mE ca base b (8, vs) = .inl (ca 8, vs.length, .inl (fun j => mint (vs.getD j .null))) := by simp [mE]
theorem mE_bool {ca : Nat → ClassId} {base b : Nat} {vs : List Value} : mE ca base b (9, vs) = .inl (ca 9, vs.length, .inl (fun j => mint (vs.getD j .null))) := by simp [mE]
theorem mE_refP {ca : Nat → ClassId} {base b : Nat} {vs : List Value} : mE ca base b (10, vs) = .inl (ca 10, vs.length, .inr (.inr (.inr (.inr (fun j => mref base (vs.getD j .null)))))) := by simp [mE]
theorem mE_refS {ca : Nat → ClassId} {base b : Nat} {vs : List Value} : mE ca base b (11, vs) = .inl (ca 11, vs.length, .inr (.inr (.inr (.inr (fun j => mref base (vs.getD j .null)))))) := by simp [mE]
theorem mW_at {ca : Nat → ClassId} {base b a : Nat} {P : mP} {q : Nat × List Value} (h : P[a]? = some q) : (mW ca base b 0 P)[a]? = some (base + a, mE ca base b q) := by rw [mW_get, h, Nat.zero_add]; rfl
theorem mH_set {ca dC : Nat → ClassId} {dI : Nat → Nat → Nat} {base b a : Nat} {P : mP} {H H1 H0 : Heap} {locs : List Loc} {q0 q : Nat × List Value} (hH : mH ca dC dI base b P H) (ha : P[a]? = some q0) (hS : va_S (fun x => base ≤ x) H0 H locs) (he : va_at (dC, dI) vwCl (base + a, mE ca base b q) H1) (z : H1.size = H.size) (oq : ∀ x : Nat, x ≠ base + a → H1[x]? = H[x]?) (k : Nat) : mH ca dC dI base b (P.set a q) H1 ∧ va_S (fun x => base ≤ x) H0 H1 (locs ++ [⟨base + a, k⟩]) := by
  refine ⟨⟨?_, by rw [z, hH.2, List.length_set]⟩, hS.put z oq (Nat.le_add_right base a)⟩
  have h1 := hH.1.set (mW_D ca base b P) (mW_at ha) he oq
  have h2 := mW_set ca base b P 0 a q
  rw [Nat.zero_add] at h2
  rw [h2] at h1
  exact h1
theorem mH_app {ca dC : Nat → ClassId} {dI : Nat → Nat → Nat} {base b : Nat} {P : mP} {H H1 H0 : Heap} {locs : List Loc} {q : Nat × List Value} (hH : mH ca dC dI base b P H) (hS : va_S (fun x => base ≤ x) H0 H locs) (he : va_at (dC, dI) vwCl (base + P.length, mE ca base b q) H1) (z : H1.size = H.size + 1) (o1 : ∀ x : Nat, x < H.size → H1[x]? = H[x]?) : mH ca dC dI base b (P ++ [q]) H1 ∧ va_S (fun x => base ≤ x) H0 H1 locs := by
  refine ⟨⟨?_, by rw [z, hH.2, List.length_append]; rfl⟩, Nat.le_trans hS.1 (by omega), fun x h1 h2 => (o1 x (Nat.lt_of_lt_of_le h1 hS.1)).trans (hS.2.1 x h1 h2), hS.2.2⟩
  rw [mW_app, Nat.zero_add]
  refine (hH.1.kept (fun k x hx => o1 x.1 (hH.1 k x hx).lt)).app (fun k x hx => ?_)
  have hz : k < 1 := (List.getElem?_eq_some_iff.mp hx).1
  rw [show k = 0 by omega] at hx
  cases hx
  exact he
section MR
variable {p : Program} {l : Launch} {e : Env} {R : Room} {s : State} {m : MethodId} {args : Array Value} {below : List Frame} {meth : Method} {c : Code} {Q : State → Prop}
variable {cc : ByteArray} {nL o base b : Nat} {ini : Bool} {ca dC : Nat → ClassId} {dI : Nat → Nat → Nat} {pc : Nat} {L : List (Nat × Value)} {r : List Value} {P : mP} {cz sz : Nat}
theorem mr_get (X : mX p s m args meth c cc nL o ini ca dC dI base) {i ci k a : Nat} {nest : Bool} {vs : List Value} {v : Value} (hf : mfld o i = some (ci, k, nest)) (ha : P[a]? = some (ci, vs)) (hv : vs[k]? = some v) (hdg : decode cc pc = .ok (.getfield i, 3)) (kk : MW p l e R s m args below meth c nL ca dC dI base b Q (pc + 3) L (v :: r) P cz sz) : MW p l e R s m args below meth c nL ca dC dI base b Q pc L (.ref a :: r) P cz sz := by
  obtain ⟨hx, hb, -, hown, hts, ⟨hK, hN, -, -⟩, -, -⟩ := X
  obtain ⟨hci, hk, hn1, hn0⟩ := mfld_ok hf
  obtain ⟨hc, hlay, -, -, -, -, -⟩ := cl_ok ci hci
  intro ls H locs hl hH hS
  have kk := kk ls H locs hl hH hS
  have he : (mW ca base b 0 P)[a]? = some (base + a, .inr (ci, vs.map (msh base b))) := by rw [mW_at ha, mE_obj hci]
  have hv' : (vs.map (msh base b))[k]? = some (msh base b v) := by rw [List.getElem?_map, hv]; rfl
  cases nest with
  | true =>
    obtain ⟨host, hw⟩ := hn1 rfl
    exact va_getN hx hb hts hlay hown hK hH.1 a he hc k hk (va_Nw.use rfl (hN _ hw)) (fun _ h => h) hv' hdg kk
  | false => exact va_get hx hb hts hlay hown hK hH.1 a he hc k hk (hts _ (hn0 rfl)) (fun _ h => h) hv' hdg kk
theorem mr_put (X : mX p s m args meth c cc nL o ini ca dC dI base) {i ci k a : Nat} {nest : Bool} {vs : List Value} {v : Value} (hf : mfld o i = some (ci, k, nest)) (ha : P[a]? = some (ci, vs)) (hl0 : k < vs.length) (hfit : mfit (cY ci k) v = true) (hfin : (cT ci k).2.2.2 = false ∨ (nest = false ∧ ini = true ∧ ci = o)) (hdg : decode cc pc = .ok (.putfield i, 3)) (kk : MW p l e R s m args below meth c nL ca dC dI base b Q (pc + 3) L r (P.set a (ci, vs.set k v)) cz sz) : MW p l e R s m args below meth c nL ca dC dI base b Q pc L (v :: .ref a :: r) P cz sz := by
  obtain ⟨hx, hb, -, hown, hts, ⟨hK, hN, -, -⟩, -, hini⟩ := X
  obtain ⟨hci, hk, hn1, hn0⟩ := mfld_ok hf
  obtain ⟨hc, hlay, hty, hnm, -, -, hdecl⟩ := cl_ok ci hci
  intro ls H locs hl hH hS
  have he : (mW ca base b 0 P)[a]? = some (base + a, .inr (ci, vs.map (msh base b))) := by rw [mW_at ha, mE_obj hci]
  obtain ⟨hn, hfi⟩ := mfit_ok hfit base b
  have hd := hty k hk
  have hap := va_apart (own := cN o) hts hlay (cY ci) hty hnm hK hc
  obtain ⟨rr, h1, cell, q1, q2, q3, q4⟩ := hH.1 a _ he
  have hr : rr = (cN ci, cT ci, cS ci) := Option.some.inj (h1.symm.trans hc)
  subst hr
  obtain ⟨hSl, hfc, kC, hkC, hkind⟩ := hK.1 ci _ hc
  obtain ⟨cf, kf, fi, f, hi, hsl⟩ := hSl k hk
  have hlayk := hts _ (hlay _ (u_in_lay hk))
  have hst := (u_facts hfc hkC (u_lays hts hlay hk) hi).1
  have hslot := k2_hasslot (q4 k hk)
  have fin : ∀ H' : Heap, H'[base + a]? = some (cell.setSlot f.slot (msh base b v)) → H'.size = H.size → (∀ q : Nat, q ≠ base + a → H'[q]? = H[q]?) → W p l e R s m args below meth c H' (locs ++ [⟨base + a, f.slot⟩]) cz sz Q (F0 m (pc + 3) ls (r.map (msh base b))) := by
    intro H' e1 e2 e3
    have hat : va_at (dC, dI) vwCl (base + a, mE ca base b (ci, vs.set k v)) H' := by
      rw [mE_obj hci, List.map_set]
      rw [hsl] at e1
      exact ⟨_, hc, t_OB.to (V := updV (vp_V (vs.map (msh base b))) k (msh base b v)) ⟨_, e1, q2, q3, t_set q4 hap hk _⟩ (fun j _ => vp_updV_set (by rw [List.length_map]; exact hl0) _ j)⟩
    obtain ⟨hH', hS'⟩ := mH_set hH ha hS hat e2 e3 f.slot
    exact kk ls H' _ hl hH' hS'
  by_cases hfl : (cT ci k).2.2.2 = true
  · obtain ⟨rfl, hi2, rfl⟩ : nest = false ∧ ini = true ∧ ci = o := hfin.resolve_left (by rw [hfl]; decide)
    unfold u_lay at hlayk
    rw [if_pos hfl] at hlayk
    have hcf : m.cls = cf := by
      obtain ⟨_, _, c', _, _, _, -, -, hf', -, -, -, hown2, -⟩ := Cond.laysFinal_spec hlayk
      have e1 : c' = cf := by
        have := hi.symm.trans hf'
        simp at this
        exact this.1.symm
      rw [hdecl k hk] at hown2
      rw [← e1]
      exact Option.some.inj (hown.symm.trans hown2)
    have h6 := u_fits hfc hkC hkind (Or.inr hlayk) hi hd hn hfi
    exact W.putFinK hx hb hown (hts _ (hn0 rfl)) hi hst hcf (hini hi2) (by rw [q2]; exact h6) q1 q3 (by rw [hsl]; exact k2_hasslot (q4 k hk)) rfl rfl hdg fin
  · have hfl0 : (cT ci k).2.2.2 = false := by simpa using hfl
    unfold u_lay at hlayk
    rw [if_neg hfl] at hlayk
    have h6 := u_store hfc hkC hkind hlayk hi hd hn hfi
    cases nest with
    | true =>
      obtain ⟨host, hw⟩ := hn1 rfl
      exact va_WputK hx hb (f := f) hown (va_Nw.use rfl (hN _ hw)) hi hst (by rw [q2]; exact h6) q1 q3 (by rw [hsl]; exact k2_hasslot (q4 k hk)) rfl rfl hdg fin
    | false => exact W.putK hx hb (f := f) ⟨hown, hts _ (hn0 rfl), ⟨_, _, _, hi⟩, hst⟩ (by rw [q2]; exact h6) q1 q3 (by rw [hsl]; exact k2_hasslot (q4 k hk)) rfl rfl hdg fin
theorem mr_iald (X : mX p s m args meth c cc nL o ini ca dC dI base) {a : Nat} {vs : List Value} {i : Int32} (ha : P[a]? = some (8, vs)) (hin : vp_in i vs.length) (hdg : decode cc pc = .ok (.iaload, 1)) (kk : MW p l e R s m args below meth c nL ca dC dI base b Q (pc + 1) L (.int (mint (vs.getD i.toNatClampNeg .null)) :: r) P cz sz) : MW p l e R s m args below meth c nL ca dC dI base b Q pc L (.int i :: .ref a :: r) P cz sz := by
  obtain ⟨hx, hb, -, hown, hts, ⟨hK, -, -, -⟩, -, -⟩ := X
  intro ls H locs hl hH hS
  exact va_iald (f := fun j => mint (vs.getD j .null)) hx hb hK hH.1 a 0 (by rw [mW_at ha, mE_int]) rfl hin hdg (kk ls H locs hl hH hS)
theorem mr_zald (X : mX p s m args meth c cc nL o ini ca dC dI base) {a : Nat} {vs : List Value} {i : Int32} (ha : P[a]? = some (9, vs)) (hin : vp_in i vs.length) (hdg : decode cc pc = .ok (.baload, 1)) (kk : MW p l e R s m args below meth c nL ca dC dI base b Q (pc + 1) L (.int (mint (vs.getD i.toNatClampNeg .null)) :: r) P cz sz) : MW p l e R s m args below meth c nL ca dC dI base b Q pc L (.int i :: .ref a :: r) P cz sz := by
  obtain ⟨hx, hb, -, hown, hts, ⟨hK, -, -, -⟩, -, -⟩ := X
  intro ls H locs hl hH hS
  exact va_zald (f := fun j => mint (vs.getD j .null)) hx hb hK hH.1 a 1 (by rw [mW_at ha, mE_bool]) rfl hin hdg (kk ls H locs hl hH hS)
def mnul : Value → Value
  | .ref k => .ref k
  | _ => .null
theorem mnul_sh (base b : Nat) (v : Value) : va_rf (mref base v) = msh base b (mnul v) := by cases v <;> rfl
theorem mr_aald (X : mX p s m args meth c cc nL o ini ca dC dI base) {a kd : Nat} {vs : List Value} {i : Int32} (hkd : kd = 10 ∨ kd = 11) (ha : P[a]? = some (kd, vs)) (hin : vp_in i vs.length) (hdg : decode cc pc = .ok (.aaload, 1)) (kk : MW p l e R s m args below meth c nL ca dC dI base b Q (pc + 1) L (mnul (vs.getD i.toNatClampNeg .null) :: r) P cz sz) : MW p l e R s m args below meth c nL ca dC dI base b Q pc L (.int i :: .ref a :: r) P cz sz := by
  obtain ⟨hx, hb, -, hown, hts, ⟨hK, -, -, -⟩, -, -⟩ := X
  intro ls H locs hl hH hS
  have kk := kk ls H locs hl hH hS
  rw [List.map_cons, ← mnul_sh] at kk
  rcases hkd with rfl | rfl
  · exact va_aldq (f := fun j => mref base (vs.getD j .null)) hx hb hK hH.1 a 2 (by rw [mW_at ha, mE_refP]) rfl hin hdg kk
  · exact va_aldq (f := fun j => mref base (vs.getD j .null)) hx hb hK hH.1 a 3 (by rw [mW_at ha, mE_refS]) rfl hin hdg kk
theorem mr_alen (X : mX p s m args meth c cc nL o ini ca dC dI base) {a kd : Nat} {vs : List Value} (hkd : kd = 8 ∨ kd = 9 ∨ kd = 10 ∨ kd = 11) (ha : P[a]? = some (kd, vs)) (hdg : decode cc pc = .ok (.arraylength, 1)) (kk : MW p l e R s m args below meth c nL ca dC dI base b Q (pc + 1) L (.int (Int32.ofNat vs.length) :: r) P cz sz) : MW p l e R s m args below meth c nL ca dC dI base b Q pc L (.ref a :: r) P cz sz := by
  obtain ⟨hx, hb, -, hown, hts, ⟨hK, -, -, -⟩, -, -⟩ := X
  intro ls H locs hl hH hS
  have kk := kk ls H locs hl hH hS
  rcases hkd with rfl | rfl | rfl | rfl
  · exact va_alen (x := (vs.length, (.inl (fun j => mint (vs.getD j .null))))) hx hb hK hH.1 a 0 (by rw [mW_at ha, mE_int]) rfl rfl hdg kk
  · exact va_alen (x := (vs.length, (.inl (fun j => mint (vs.getD j .null))))) hx hb hK hH.1 a 1 (by rw [mW_at ha, mE_bool]) rfl rfl hdg kk
  · exact va_alen (x := (vs.length, (.inr (.inr (.inr (.inr (fun j => mref base (vs.getD j .null)))))))) hx hb hK hH.1 a 2 (by rw [mW_at ha, mE_refP]) rfl rfl hdg kk
  · exact va_alen (x := (vs.length, (.inr (.inr (.inr (.inr (fun j => mref base (vs.getD j .null)))))))) hx hb hK hH.1 a 3 (by rw [mW_at ha, mE_refS]) rfl rfl hdg kk
theorem mset_int {vs : List Value} {n : Nat} {x : Int32} (hlt : n < vs.length) : updV (fun j => Value.int (mint (vs.getD j .null))) n (.int x) = fun j => Value.int (mint ((vs.set n (.int x)).getD j .null)) := by
  funext q
  by_cases hq : q = n
  · subst hq
    simp [updV, List.getD, hlt, mint]
  · simp [updV, hq, List.getD, List.getElem?_set_ne (Ne.symm hq)]
theorem mset_ref {base : Nat} {vs : List Value} {n k : Nat} (hlt : n < vs.length) : updV (fun j => va_rf (mref base (vs.getD j .null))) n (.ref (base + k)) = fun j => va_rf (mref base ((vs.set n (.ref k)).getD j .null)) := by
  funext q
  by_cases hq : q = n
  · subst hq
    simp [updV, List.getD, hlt, mref, va_rf]
  · simp [updV, hq, List.getD, List.getElem?_set_ne (Ne.symm hq)]
theorem mr_iast (X : mX p s m args meth c cc nL o ini ca dC dI base) {a : Nat} {vs : List Value} {i x : Int32} (ha : P[a]? = some (8, vs)) (hin : vp_in i vs.length) (hdg : decode cc pc = .ok (.iastore, 1)) (kk : MW p l e R s m args below meth c nL ca dC dI base b Q (pc + 1) L r (P.set a (8, vs.set i.toNatClampNeg (.int x))) cz sz) : MW p l e R s m args below meth c nL ca dC dI base b Q pc L (.int x :: .int i :: .ref a :: r) P cz sz := by
  obtain ⟨hx, hb, -, hown, hts, ⟨hK, -, -, -⟩, -, -⟩ := X
  intro ls H locs hl hH hS
  have hlt : i.toNatClampNeg < vs.length := Nat.not_le.mp fun q => hin (Or.inr q)
  have he := hH.1 a _ ((mW_at ha).trans (by rw [mE_int]))
  refine W.iast hx hb he ((hK.2 0 _ rfl).1 vs.length (fun j => .int (mint (vs.getD j .null)))) (fun q => by cases q) (by show ¬ (i < 0 ∨ (arrV _ _ _).slots.size ≤ _); rw [arrV_size]; exact hin) rfl rfl hdg fun H1 e1 z oq => ?_
  have hat : va_at (dC, dI) vwCl (base + a, mE ca base b (8, vs.set i.toNatClampNeg (.int x))) H1 := by
    rw [mE_int]
    show H1[base + a]? = some (vp_cell _ _)
    rw [e1, vp_cell_i, vp_cell_i, arrV_store, List.length_set]
    exact congrArg (fun f => some (arrV (ca 8) vs.length f)) (mset_int hlt)
  obtain ⟨hH', hS'⟩ := mH_set hH ha hS hat z oq i.toNatClampNeg
  exact kk ls H1 _ hl hH' hS'
theorem mr_zast (X : mX p s m args meth c cc nL o ini ca dC dI base) {a : Nat} {vs : List Value} {i x : Int32} (hx01 : x = 0 ∨ x = 1) (ha : P[a]? = some (9, vs)) (hin : vp_in i vs.length) (hdg : decode cc pc = .ok (.bastore, 1)) (kk : MW p l e R s m args below meth c nL ca dC dI base b Q (pc + 1) L r (P.set a (9, vs.set i.toNatClampNeg (.int x))) cz sz) : MW p l e R s m args below meth c nL ca dC dI base b Q pc L (.int x :: .int i :: .ref a :: r) P cz sz := by
  obtain ⟨hx, hb, -, hown, hts, ⟨hK, -, -, -⟩, -, -⟩ := X
  intro ls H locs hl hH hS
  have hlt : i.toNatClampNeg < vs.length := Nat.not_le.mp fun q => hin (Or.inr q)
  have he := hH.1 a _ ((mW_at ha).trans (by rw [mE_bool]))
  have hnar : narrow .boolean (.int x) = .int x := by rcases hx01 with rfl | rfl <;> decide
  refine W.zast hx hb he ((hK.2 1 _ rfl).1 vs.length (fun j => .int (mint (vs.getD j .null)))) (fun q => by cases q) (by show ¬ (i < 0 ∨ (arrV _ _ _).slots.size ≤ _); rw [arrV_size]; exact hin) rfl rfl hdg fun H1 e1 z oq => ?_
  have hat : va_at (dC, dI) vwCl (base + a, mE ca base b (9, vs.set i.toNatClampNeg (.int x))) H1 := by
    rw [mE_bool]
    show H1[base + a]? = some (vp_cell _ _)
    rw [e1, vp_cell_i, vp_cell_i, arrV_store, List.length_set]
    first
      | (rw [hnar]; exact congrArg (fun f => some (arrV (ca 9) vs.length f)) (mset_int hlt))
      | exact congrArg (fun f => some (arrV (ca 9) vs.length f)) (mset_int hlt)
  obtain ⟨hH', hS'⟩ := mH_set hH ha hS hat z oq i.toNatClampNeg
  exact kk ls H1 _ hl hH' hS'
theorem mr_aast (X : mX p s m args meth c cc nL o ini ca dC dI base) {a kd ci k : Nat} {vs us : List Value} {i : Int32} (hkd : (kd = 10 ∧ ci = 2) ∨ (kd = 11 ∧ ci = 5)) (ha : P[a]? = some (kd, vs)) (hk : P[k]? = some (ci, us)) (hin : vp_in i vs.length) (hdg : decode cc pc = .ok (.aastore, 1)) (kk : MW p l e R s m args below meth c nL ca dC dI base b Q (pc + 1) L r (P.set a (kd, vs.set i.toNatClampNeg (.ref k))) cz sz) : MW p l e R s m args below meth c nL ca dC dI base b Q pc L (.ref k :: .int i :: .ref a :: r) P cz sz := by
  obtain ⟨hx, hb, -, hown, hts, ⟨hK, -, -, -⟩, -, -⟩ := X
  intro ls H locs hl hH hS
  have hlt : i.toNatClampNeg < vs.length := Nat.not_le.mp fun q => hin (Or.inr q)
  have h0 : ¬ i < 0 := fun q => hin (Or.inl q)
  have key : ∀ (t0 : Nat) (rr : vw_C), ci < 8 → vwCl[ci]? = some rr → (mT ca)[t0]? = some (ca kd, .object rr.1) → mE ca base b (kd, vs) = .inl (ca kd, vs.length, .inr (.inr (.inr (.inr (fun j => mref base (vs.getD j .null)))))) → mE ca base b (kd, vs.set i.toNatClampNeg (.ref k)) = .inl (ca kd, (vs.set i.toNatClampNeg (.ref k)).length, .inr (.inr (.inr (.inr (fun j => mref base ((vs.set i.toNatClampNeg (.ref k)).getD j .null)))))) → W p l e R s m args below meth c H locs cz sz Q (F0 m pc ls ((Value.ref k :: .int i :: .ref a :: r).map (msh base b))) := by
    intro t0 rr hci hc ht hE hE2
    have he := hH.1 a _ ((mW_at ha).trans (by rw [hE]))
    obtain ⟨r', hr', cellV, g1, g2, g3, -⟩ := hH.1 k _ ((mW_at hk).trans (by rw [mE_obj hci]))
    have hcls := (hK.1 ci rr hc).2
    obtain ⟨kA, comp, k1, k2, k3, -⟩ := (hK.2 t0 _ ht).2
    have hcomp : comp = dC ci := Option.some.inj (k3.symm.trans hcls.1)
    subst hcomp
    obtain ⟨kC, hkC, -⟩ := hcls.2
    refine W.aast hx hb he (fun q h => by cases h) (fun h => by cases h) k1 k2 rfl hkC ⟨h0, by show _ < (arrV _ _ _).slots.size; rw [arrV_size]; exact hlt⟩ g1 (fun q h => by rw [g3] at h; cases h) (by rw [g2]; exact hkC) (by rw [g2]; exact va_assign hcls) rfl rfl hdg fun H1 e1 z oq => ?_
    have hat : va_at (dC, dI) vwCl (base + a, mE ca base b (kd, vs.set i.toNatClampNeg (.ref k))) H1 := by
      rw [hE2]
      show H1[base + a]? = some (vp_cell _ _)
      rw [e1, vp_cell_q, vp_cell_q, arrV_store, List.length_set]
      exact congrArg (fun f => some (arrV (ca kd) vs.length f)) (mset_ref hlt)
    obtain ⟨hH', hS'⟩ := mH_set hH ha hS hat z oq i.toNatClampNeg
    exact kk ls H1 _ hl hH' hS'
  rcases hkd with ⟨rfl, rfl⟩ | ⟨rfl, rfl⟩
  · exact key 2 (RX2, TX2, 5) (by decide) rfl rfl mE_refP mE_refP
  · exact key 3 (RX5, TX5, 4) (by decide) rfl rfl mE_refS mE_refS
end MR
end
section
/-! M: new cells; what moves from a state to a callee's -/
def mdef : Nat → List Value
  | 0 => [.null, .int 0, .int 0, .int 0]
  | 1 => [.int 0, .null, .null, .null]
  | 2 => [.int 0, .int 0, .int 0, .null, .null]
  | 3 => [.int 0, .int 0, .null, .null]
  | 4 => [.null, .int 0, .int 0, .int 0, .int 0, .int 0, .int 0, .int 0]
  | 5 => [.null, .int 0, .int 0, .int 0]
  | 6 => [.null, .null, .null, .null, .null, .null, .null, .null, .int 0, .int 0, .int 0, .int 0, .int 0]
  | _ => [.null, .null, .null, .null, .int 0, .int 0, .int 0, .int 0, .int 0, .null, .null, .null, .null, .int 0, .int 0, .null, .null, .null, .null, .int 0, .int 0, .int 0, .null, .int 0, .int 0, .int 0, .int 0, .int 0, .int 0, .int 0]
theorem mdef_sh (base b ci : Nat) (h : ci < 8) : (mdef ci).map (msh base b) = mdef ci := match ci, h with
  | 0, _ => rfl
  | 1, _ => rfl
  | 2, _ => rfl
  | 3, _ => rfl
  | 4, _ => rfl
  | 5, _ => rfl
  | 6, _ => rfl
  | 7, _ => rfl
  | k + 8, h => absurd h (by omega)
set_option maxRecDepth 20000 in
theorem mdef_ok (ci : Nat) (h : ci < 8) : ∀ j, j < cS ci → defaultValue (cY ci j) = vp_V (mdef ci) j := match ci, h with
  | 0, _ => by decide +kernel
  | 1, _ => by decide +kernel
  | 2, _ => by decide +kernel
  | 3, _ => by decide +kernel
  | 4, _ => by decide +kernel
  | 5, _ => by decide +kernel
  | 6, _ => by decide +kernel
  | 7, _ => by decide +kernel
  | k + 8, h => absurd h (by omega)
theorem mnest_warm {w : Cond} (hw : mNest w = true) {s U : State} (hW : s.WarmedH U.vm) (h : va_Nw w s) : va_Nw w U := by
  unfold mNest at hw
  split at hw
  · exact va_Nw.warmM hW h
  · exact va_Nw.warmF hW h
  · cases hw
theorem mnest_same {w : Cond} (hw : mNest w = true) {u U : State} (hv : u.vm = U.vm) (h : va_Nw w u) : va_Nw w U := by
  unfold mNest at hw
  split at hw
  · exact va_Nw.same rfl hv h
  · exact va_Nw.same rfl hv h
  · cases hw
theorem mU_warm {ca dC : Nat → ClassId} {dI : Nat → Nat → Nat} {s U : State} (hW : s.WarmedH U.vm) (h : mU ca dC dI s) : mU ca dC dI U :=
  ⟨va_K.moved hW.alike h.1, fun w hw => mnest_warm (List.mem_filter.mp hw).2 hW (h.2.1 w hw), h.2.2.1.moved hW.alike, h.2.2.2.moved hW.alike⟩
theorem mU_same {ca dC : Nat → ClassId} {dI : Nat → Nat → Nat} {s U : State} (hv : s.vm = U.vm) (h : mU ca dC dI s) : mU ca dC dI U :=
  have ha : s.vm.Alike U.vm := hv ▸ Vm.Alike.refl s.vm
  ⟨va_K.moved ha h.1, fun w hw => mnest_same (List.mem_filter.mp hw).2 hv (h.2.1 w hw), h.2.2.1.moved ha, h.2.2.2.moved ha⟩
theorem mgoodIn {ws : List Cond} (h : ∀ w ∈ ws, w ∈ lw_good) : GoodIn lw_good ws := fun w hw => ⟨h w hw, good_of_word (List.mem_filter.mp (h w hw)).2⟩
section MR
variable {p : Program} {l : Launch} {e : Env} {R : Room} {s : State} {m : MethodId} {args : Array Value} {below : List Frame} {meth : Method} {c : Code} {Q : State → Prop}
variable {cc : ByteArray} {nL o base b : Nat} {ini : Bool} {ca dC : Nat → ClassId} {dI : Nat → Nat → Nat} {pc : Nat} {L : List (Nat × Value)} {r : List Value} {P : mP} {cz sz : Nat}
theorem mr_new (X : mX p s m args meth c cc nL o ini ca dC dI base) {i ci : Nat} (hc0 : mcls o i = some ci) (hcells : cz + 1 ≤ R.cells) (hslots : sz + cS ci ≤ R.slots) (hdg : decode cc pc = .ok (.new i, 3)) (kk : MW p l e R s m args below meth c nL ca dC dI base b Q (pc + 3) L (.ref P.length :: r) (P ++ [(ci, mdef ci)]) (cz + 1) (sz + cS ci)) : MW p l e R s m args below meth c nL ca dC dI base b Q pc L r P cz sz := by
  obtain ⟨hx, hb, -, hown, hts, ⟨hK, -, -, -⟩, -, -⟩ := X
  obtain ⟨hci, hcw⟩ := mcls_ok hc0
  obtain ⟨hc, hlay, hty, -, hinst, hinit, -⟩ := cl_ok ci hci
  intro ls H locs hl hH hS
  have hKn := hK.1 ci _ hc
  refine W.newcK hx hb hown (hts _ hcw) (hts _ hinst) (hts _ hinit) rfl hdg hcells hslots hKn.2.1 hH.2 fun H1 kC hkC e1 z1 o1 => ?_
  have hat : va_at (dC, dI) vwCl (base + P.length, mE ca base b (ci, mdef ci)) H1 := by
    rw [mE_obj hci, mdef_sh base b ci hci]
    exact ⟨_, hc, (u_born (cY ci) hts hlay hKn hkC e1 hty).to (mdef_ok ci hci)⟩
  obtain ⟨hH', hS'⟩ := mH_app hH hS hat (by rw [z1, hH.2]) (fun x hx => o1 x (by rw [← hH.2]; exact hx))
  exact kk ls H1 locs hl hH' hS'
theorem mrep_int (N : Nat) : (fun j => Value.int (mint ((List.replicate N (Value.int 0)).getD j .null))) = fun _ => Value.int 0 := by
  funext j
  by_cases h : j < N
  · simp [List.getD, h, mint]
  · simp [List.getD, h, mint]
theorem mrep_ref (base N : Nat) : (fun j => va_rf (mref base ((List.replicate N Value.null).getD j .null))) = fun _ => Value.null := by
  funext j
  by_cases h : j < N
  · simp [List.getD, h, mref, va_rf]
  · simp [List.getD, h, mref, va_rf]
theorem marr_word : Cond.arrayClass .int ∈ lw_good ∧ Cond.arrayClass .boolean ∈ lw_good := ⟨by decide +kernel, by decide +kernel⟩
theorem mr_newi (X : mX p s m args meth c cc nL o ini ca dC dI base) {n : Int32} (hn : ¬ n < 0) (hN : n.toNatClampNeg ≤ 100000) (hcells : cz + 1 ≤ R.cells) (hslots : sz + n.toNatClampNeg ≤ R.slots) (hdg : decode cc pc = .ok (.newarray .int, 2)) (kk : MW p l e R s m args below meth c nL ca dC dI base b Q (pc + 2) L (.ref P.length :: r) (P ++ [(8, List.replicate n.toNatClampNeg (.int 0))]) (cz + 1) (sz + n.toNatClampNeg)) : MW p l e R s m args below meth c nL ca dC dI base b Q pc L (.int n :: r) P cz sz := by
  obtain ⟨hx, hb, -, hown, hts, ⟨hK, -, -, -⟩, -, -⟩ := X
  intro ls H locs hl hH hS
  have hby : n.toNatClampNeg * componentBytes (newarray.typeOf .int) ≤ 536870912 := by
    show n.toNatClampNeg * 4 ≤ 536870912
    omega
  refine va_newaK (atype := .int) hx hb (hts _ marr_word.1) rfl hdg rfl hn rfl hby hcells hslots hH.2 fun H1 cA e1 z1 o1 hAr hNm => ?_
  have hca : cA = ca 8 := Option.some.inj (hNm.symm.trans (hK.2 0 _ rfl).2)
  subst hca
  have hat : va_at (dC, dI) vwCl (base + P.length, mE ca base b (8, List.replicate n.toNatClampNeg (.int 0))) H1 := by
    rw [mE_int]
    show H1[base + P.length]? = some (vp_cell _ _)
    rw [e1, vp_cell_i, List.length_replicate]
    exact congrArg (fun f => some (arrV (ca 8) n.toNatClampNeg f)) (mrep_int _).symm
  obtain ⟨hH', hS'⟩ := mH_app hH hS hat (by rw [z1, hH.2]) (fun x hx => o1 x (by rw [← hH.2]; exact hx))
  exact kk ls H1 locs hl hH' hS'
theorem mr_newz (X : mX p s m args meth c cc nL o ini ca dC dI base) {n : Int32} (hn : ¬ n < 0) (hN : n.toNatClampNeg ≤ 100000) (hcells : cz + 1 ≤ R.cells) (hslots : sz + n.toNatClampNeg ≤ R.slots) (hdg : decode cc pc = .ok (.newarray .boolean, 2)) (kk : MW p l e R s m args below meth c nL ca dC dI base b Q (pc + 2) L (.ref P.length :: r) (P ++ [(9, List.replicate n.toNatClampNeg (.int 0))]) (cz + 1) (sz + n.toNatClampNeg)) : MW p l e R s m args below meth c nL ca dC dI base b Q pc L (.int n :: r) P cz sz := by
  obtain ⟨hx, hb, -, hown, hts, ⟨hK, -, -, -⟩, -, -⟩ := X
  intro ls H locs hl hH hS
  have hby : n.toNatClampNeg * componentBytes (newarray.typeOf .boolean) ≤ 536870912 := by
    show n.toNatClampNeg * 1 ≤ 536870912
    omega
  refine va_newaK (atype := .boolean) hx hb (hts _ marr_word.2) rfl hdg rfl hn rfl hby hcells hslots hH.2 fun H1 cA e1 z1 o1 hAr hNm => ?_
  have hca : cA = ca 9 := Option.some.inj (hNm.symm.trans (hK.2 1 _ rfl).2)
  subst hca
  have hat : va_at (dC, dI) vwCl (base + P.length, mE ca base b (9, List.replicate n.toNatClampNeg (.int 0))) H1 := by
    rw [mE_bool]
    show H1[base + P.length]? = some (vp_cell _ _)
    rw [e1, vp_cell_i, List.length_replicate]
    exact congrArg (fun f => some (arrV (ca 9) n.toNatClampNeg f)) (mrep_int _).symm
  obtain ⟨hH', hS'⟩ := mH_app hH hS hat (by rw [z1, hH.2]) (fun x hx => o1 x (by rw [← hH.2]; exact hx))
  exact kk ls H1 locs hl hH' hS'
theorem mr_anew (X : mX p s m args meth c cc nL o ini ca dC dI base) {i ci kd : Nat} (hkd : (kd = 10 ∧ ci = 2) ∨ (kd = 11 ∧ ci = 5)) (hc0 : mcls o i = some ci) {n : Int32} (hn : ¬ n < 0) (hN : n.toNatClampNeg ≤ 100000) (hcells : cz + 1 ≤ R.cells) (hslots : sz + n.toNatClampNeg ≤ R.slots) (hdg : decode cc pc = .ok (.anewarray i, 3)) (kk : MW p l e R s m args below meth c nL ca dC dI base b Q (pc + 3) L (.ref P.length :: r) (P ++ [(kd, List.replicate n.toNatClampNeg .null)]) (cz + 1) (sz + n.toNatClampNeg)) : MW p l e R s m args below meth c nL ca dC dI base b Q pc L (.int n :: r) P cz sz := by
  obtain ⟨hx, hb, -, hown, hts, ⟨hK, -, ho2, ho5⟩, -, -⟩ := X
  obtain ⟨hci, hcw⟩ := mcls_ok hc0
  intro ls H locs hl hH hS
  have hby : n.toNatClampNeg * 4 ≤ 536870912 := by omega
  have key : ∀ (t0 : Nat) (C : String), cN ci = C → va_AO C s → (mT ca)[t0]? = some (ca kd, .object C) → mE ca base b (kd, List.replicate n.toNatClampNeg .null) = .inl (ca kd, (List.replicate n.toNatClampNeg Value.null).length, .inr (.inr (.inr (.inr (fun j => mref base ((List.replicate n.toNatClampNeg Value.null).getD j .null)))))) → W p l e R s m args below meth c H locs cz sz Q (F0 m pc ls ((Value.int n :: r).map (msh base b))) := by
    intro t0 C hC hov ht hE
    subst hC
    refine W.anew hx hb hown (hts _ hcw) (va_AO.use hov) rfl hdg rfl hn hby hcells hslots fun cA kA comp f1 f2 f3 f4 => ?_
    generalize hH1 : H.push ({ cls := cA, slots := Array.replicate n.toNatClampNeg .null, vm := .none } : Cell) = H1
    have z1 : H1.size = H.size + 1 := by rw [← hH1, Array.size_push]
    have e1 : H1[H.size]? = some (arrV cA n.toNatClampNeg (fun _ => .null)) := by rw [← hH1, Array.getElem?_push_size, ← arrV_new]
    have o1 : ∀ q : Nat, q < H.size → H1[q]? = H[q]? := fun q hq => by rw [← hH1, Array.getElem?_push, if_neg (Nat.ne_of_lt hq)]
    obtain ⟨kA', comp', -, -, -, k4⟩ := (hK.2 t0 _ ht).2
    have hca : cA = ca kd := Option.some.inj (f1.symm.trans k4)
    subst hca
    have hat : va_at (dC, dI) vwCl (base + P.length, mE ca base b (kd, List.replicate n.toNatClampNeg .null)) H1 := by
      rw [hE]
      show H1[base + P.length]? = some (vp_cell _ _)
      rw [← hH.2, e1, vp_cell_q, List.length_replicate]
      exact congrArg (fun f => some (arrV (ca kd) n.toNatClampNeg f)) (mrep_ref base _).symm
    obtain ⟨hH', hS'⟩ := mH_app hH hS hat z1 o1
    have kk := kk ls H1 locs hl hH' hS'
    rw [List.map_cons, show msh base b (.ref P.length) = .ref H.size by rw [hH.2]; rfl] at kk
    exact kk
  rcases hkd with ⟨rfl, rfl⟩ | ⟨rfl, rfl⟩
  · exact key 2 RX2 rfl ho2 rfl mE_refP
  · exact key 3 RX5 rfl ho5 rfl mE_refS
end MR
end
section
/-! M: calls -/
abbrev mQ : Type := MethodName × ByteArray × Nat × Option FieldType × Nat × Nat × Nat × Nat
def mws (q : mQ) : List Cond := .code q.1 q.2.1 q.2.2.1 q.2.2.2.1 :: lw_good
def mrm (d : Nat) (q : mQ) : Room := { frames := d, cells := q.2.2.2.2.2.2.1, slots := q.2.2.2.2.2.2.2, locals := 40 * d }
def mPc (ca dC : Nat → ClassId) (dI : Nat → Nat → Nat) (base b : Nat) (As : List Value) (P : mP) : Array Value → State → Prop := va_Pc (As.map (msh base b)) (fun U => mU ca dC dI U ∧ mH ca dC dI base b P U.heap)
def mQc (ca dC : Nat → ClassId) (dI : Nat → Nat → Nat) (base b : Nat) (r : Option Value) (P' : mP) : Array Value → State → Outcome → State → Prop := fun _ st oc t => (oc = .returned (r.map (msh base b)) ∧ mH ca dC dI base b P' t.heap) ∧ va_F (fun x => base ≤ x) st t
/-- the contract of a method for one run of M: from a heap that holds P with the arguments As it ends with r, the heap holds P' -/
def mMet (d k : Nat) (As : List Value) (P : mP) (r : Option Value) (P' : mP) : Prop := ∀ q : mQ, mtL[k]? = some q → ∀ (l : Launch) (ca dC : Nat → ClassId) (dI : Nat → Nat → Nat) (base b : Nat), Met l q.1 (mws q) (mrm d q) (mPc ca dC dI base b As P) (mQc ca dC dI base b r P') q.2.2.2.2.2.2.1 q.2.2.2.2.2.2.2 (fun x => base ≤ x)
theorem mPc_blind (ca dC : Nat → ClassId) (dI : Nat → Nat → Nat) (base b : Nat) (As : List Value) (P : mP) : FrameBlind (mPc ca dC dI base b As P) := fun a U g mk h => by
  obtain ⟨h1, h2, h3⟩ := h
  exact ⟨h1, mU_same (s := U) (U := U.calling g mk a) rfl h2, h3⟩
theorem mtL_mem {k : Nat} {q : mQ} (h : mtL[k]? = some q) : mfact q := mtL_ok q (List.mem_of_getElem? h)
section MR
variable {p : Program} {l : Launch} {e : Env} {R : Room} {s : State} {m : MethodId} {args : Array Value} {below : List Frame} {meth : Method} {c : Code} {Q : State → Prop}
variable {cc : ByteArray} {nL o base b : Nat} {ini : Bool} {ca dC : Nat → ClassId} {dI : Nat → Nat → Nat} {pc : Nat} {L : List (Nat × Value)} {rest : List Value} {P : mP} {cz sz : Nat}
theorem mr_run {H : Heap} {locs : List Loc} {mc ms : Nat} {ls : Array Slot} {st0 : List Value} {r : Option Value} {P' : mP} {aa : Array Value} (hr : va_Run p l e R s m args below meth c H locs cz sz mc ms (F0 m pc ls st0) (rest.map (msh base b)) (mQc ca dC dI base b r P' aa) (fun x => base ≤ x)) (hS : va_S (fun x => base ≤ x) s.heap H locs)
    (kk : ∀ (H1 : Heap) (locs1 : List Loc), mH ca dC dI base b P' H1 → va_S (fun x => base ≤ x) s.heap H1 locs1 → W p l e R s m args below meth c H1 locs1 (cz + mc) (sz + ms) Q (F0 m (pc + 3) ls ((r.toList ++ rest).map (msh base b)))) : W p l e R s m args below meth c H locs cz sz Q (F0 m pc ls st0) := by
  intro T hT X
  obtain ⟨v, st₀, t, T', Lc, h0, X', hL, e1, e2, ⟨⟨hv, hp⟩, hz, hk⟩, st⟩ := hr T hT X
  cases hv
  rw [h0] at hz hk
  have hS' : va_S (fun x => base ≤ x) s.heap T'.heap (locs ++ Lc) := ⟨Nat.le_trans hS.1 (by rw [e1]; exact hz), fun q h1 h2 => by rw [e1, hk q (Nat.lt_of_lt_of_le h1 hS.1) h2]; exact hS.2.1 q h1 h2, fun q hq => (List.mem_append.mp hq).elim (hS.2.2 q) (hL q)⟩
  obtain ⟨t2, a1, b1⟩ := kk T'.heap (locs ++ Lc) (by rw [e1]; exact hp) hS' T' rfl X'
  refine ⟨t2, st t2 ?_, b1⟩
  have hh : (r.toList ++ rest).map (msh base b) = (r.map (msh base b)).toList ++ rest.map (msh base b) := by cases r <;> rfl
  rw [hh] at a1
  exact a1
set_option maxHeartbeats 4000000 in
/-- a call on an object, or a static one: kinds 0 to 5 -/
theorem mr_call (X : mX p s m args meth c cc nL o ini ca dC dI base) {i kd k d : Nat} {q : mQ} {As : List Value} {r : Option Value} {P' : mP} (hc : mcal o i = some (kd, k)) (hq : mtL[k]? = some q) (hcon : mMet d k As P r P') (hRf : d + 1 ≤ R.frames) (hRl : 39 + 40 * d ≤ R.locals) (hcells : cz + q.2.2.2.2.2.2.1 ≤ R.cells) (hslots : sz + q.2.2.2.2.2.2.2 ≤ R.slots) (hcat : (rest.map mcat).sum ≤ 8)
    (hk : (kd < 2 ∧ (∃ (a : Nat) (As' vs : List Value), As = .ref a :: As' ∧ As'.length = q.2.2.2.2.1 ∧ q.2.2.2.2.2.1 < 8 ∧ P[a]? = some (q.2.2.2.2.2.1, vs)) ∧ decode cc pc = .ok (.invokevirtual i, 3)) ∨ ((kd = 2 ∨ kd = 3) ∧ As.length = q.2.2.2.2.1 ∧ decode cc pc = .ok (.invokestatic i, 3)) ∨ ((kd = 4 ∨ kd = 5) ∧ q.2.2.2.1 = none ∧ (∃ (a : Nat) (As' : List Value), As = .ref a :: As' ∧ As'.length = q.2.2.2.2.1) ∧ decode cc pc = .ok (.invokespecial i, 3)))
    (kk : MW p l e R s m args below meth c nL ca dC dI base b Q (pc + 3) L (r.toList ++ rest) P' (cz + q.2.2.2.2.2.2.1) (sz + q.2.2.2.2.2.2.2)) : MW p l e R s m args below meth c nL ca dC dI base b Q pc L (As.reverse ++ rest) P cz sz := by
  obtain ⟨hx, hb, hml, hown, hts, hU, -, -⟩ := X
  have hf := mcal_ok hc
  have hmq := mtL_mem hq
  have hcon := hcon q hq l ca dC dI base b
  obtain ⟨y, bytes, maxL, ret, n, o', mc, ms⟩ := q
  obtain ⟨hpl, hcode, hinit, hcls, hml20, hn, hy1, hy2⟩ := hmq
  dsimp only at hcells hslots hk kk hcon
  have hkd : kd < 6 := by rcases hk with ⟨h, -⟩ | ⟨h | h, -⟩ | ⟨h | h, -⟩ <;> omega
  obtain ⟨q2, hq2, hlink, hv01, hst, hi45, -⟩ : ∃ q, mtL[k]? = some q ∧ mlink o i q.1 (kd % 2 == 1) ∧ (kd < 2 → Cond.instanceMethod q.1 ∈ lw_good ∧ Cond.selects q.1.cls q.1 q.1 ∈ lw_good) ∧ (kd = 2 ∨ kd = 3 → Cond.static q.1 ∈ lw_good) ∧ (kd = 4 ∨ kd = 5 → Cond.instanceMethod q.1 ∈ lw_good ∧ q.1.name = "<init>") ∧ kd < 6 := by
    match kd, hkd, hf with
    | 0, _, hf => exact hf
    | 1, _, hf => exact hf
    | 2, _, hf => exact hf
    | 3, _, hf => exact hf
    | 4, _, hf => exact hf
    | 5, _, hf => exact hf
  have hq3 := Option.some.inj (hq.symm.trans hq2)
  subst hq3
  dsimp only at hlink hv01 hst hi45
  have hsum : ((rest.map (msh base b)).map fun v => v.category).sum ≤ 8 := by
    rw [List.map_map]
    have : ((fun v : Value => v.category) ∘ msh base b) = mcat := funext fun v => msh_cat base b v
    rw [this]
    exact hcat
  have hGw : GoodIn lw_good (mws (y, bytes, maxL, ret, n, o', mc, ms)) := mgoodIn (fun w hw => (List.mem_cons.mp hw).elim (fun h => h ▸ hcode) id)
  have hR : d + 1 ≤ R.frames ∧ 8 + (maxL + 11) + 40 * d ≤ R.locals := ⟨hRf, by omega⟩
  intro ls H locs hl hH hS
  have hpre : ∀ U : State, U.heap = H → s.WarmedH U.vm → mPc ca dC dI base b As P (As.map (msh base b)).toArray U := fun U hU1 hW => ⟨rfl, mU_warm hW hU, by rw [hU1]; exact hH⟩
  have hKK : ∀ (H1 : Heap) (locs1 : List Loc), mH ca dC dI base b P' H1 → va_S (fun x => base ≤ x) s.heap H1 locs1 → W p l e R s m args below meth c H1 locs1 (cz + mc) (sz + ms) Q (F0 m (pc + 3) ls ((r.toList ++ rest).map (msh base b))) := fun H1 locs1 h1 h2 => kk ls H1 locs1 hl h1 h2
  have S0 : CallFix p m c cc nL s args lw_good (cN o) := ⟨hx, hb, hml, hown, hts⟩
  have hrm : ∀ (j : Nat) (hj : (F0 m pc ls [] : JFrame).monitorRoom = j), True := fun _ _ => trivial
  rcases hk with ⟨hk0, ⟨a, As', vs, rfl, hlen, ho8, haP⟩, hdg⟩ | ⟨hk0, hlen, hdg⟩ | ⟨hk0, hret, ⟨a, As', rfl, hlen⟩, hdg⟩
  · obtain ⟨hin, hsel⟩ := hv01 hk0
    obtain ⟨hco, -, -, -, -, -, -⟩ := cl_ok o' ho8
    have he : (mW ca base b 0 P)[a]? = some (base + a, .inr (o', vs.map (msh base b))) := by rw [mW_at haP, mE_obj ho8]
    have hrecv := va_recv hU.1 hH.1 hco he
    dsimp only at hrecv
    rw [← hcls] at hrecv
    have hstack : ((Value.ref a :: As').reverse ++ rest).map (msh base b) = (As'.map (msh base b)).reverse ++ Value.ref (base + a) :: rest.map (msh base b) := by simp [msh]
    rw [hstack]
    match kd, hk0, hlink with
    | 0, _, hlink =>
      refine mr_run (P' := P') (r := r) (mc := mc) (ms := ms) (va_runV (As := As'.map (msh base b)) (rest := rest.map (msh base b)) S0 hcon (cwV n hts (mgoodIn fun w hw => ?_) rfl rfl rfl ⟨rfl, hy1, hy2, hn⟩ hR) ⟨mPc_blind ca dC dI base b _ P, hrecv, hpre⟩ rfl (by rw [List.length_map]; exact hlen) hl.1 rfl (lv_room hsum) hdg ⟨hcells, hslots⟩) hS hKK
      unfold wsV at hw
      rcases List.mem_append.mp hw with hw | hw
      · simp only [List.mem_cons, List.not_mem_nil, or_false] at hw
        rcases hw with rfl | rfl | rfl | rfl
        · exact hlink.2 rfl
        · exact hin
        · exact hsel
        · exact hinit
      · exact (hGw w hw).1
    | 1, _, hlink =>
      obtain ⟨host, hw⟩ := hlink.1 rfl
      exact mr_run (P' := P') (r := r) (mc := mc) (ms := ms) (va_runVN (As := As'.map (msh base b)) (rest := rest.map (msh base b)) S0 hcon ⟨va_cnB n hts hGw rfl rfl rfl (hU.2.1 _ hw) (hts _ hinit) ⟨hy1, hy2, hn⟩ hR, hts _ hin, hts _ hsel⟩ ⟨mPc_blind ca dC dI base b _ P, hrecv, hpre⟩ rfl (by rw [List.length_map]; exact hlen) hl.1 rfl (lv_room hsum) hdg ⟨hcells, hslots⟩) hS hKK
    | kd + 2, h, _ => exact absurd h (by omega)
  · have hstat := hst hk0
    have hstack : (As.reverse ++ rest).map (msh base b) = (As.map (msh base b)).reverse ++ rest.map (msh base b) := by simp
    rw [hstack]
    rcases hk0 with rfl | rfl
    · refine mr_run (P' := P') (r := r) (mc := mc) (ms := ms) (va_runS (As := As.map (msh base b)) (rest := rest.map (msh base b)) S0 hcon (va_cwS n hts (mgoodIn fun w hw => ?_) rfl rfl rfl ⟨hy1, hy2, hn⟩ hR) ⟨mPc_blind ca dC dI base b _ P, hpre⟩ rfl (by rw [List.length_map]; exact hlen) hl.1 rfl (lv_room hsum) hdg ⟨hcells, hslots⟩) hS hKK
      unfold va_wsS at hw
      rcases List.mem_append.mp hw with hw | hw
      · simp only [List.mem_cons, List.not_mem_nil, or_false] at hw
        rcases hw with rfl | rfl | rfl
        · exact hlink.2 rfl
        · exact hstat
        · exact hinit
      · exact (hGw w hw).1
    · obtain ⟨host, hw⟩ := hlink.1 rfl
      exact mr_run (P' := P') (r := r) (mc := mc) (ms := ms) (va_runSN (As := As.map (msh base b)) (rest := rest.map (msh base b)) S0 hcon ⟨va_cnB n hts hGw rfl rfl rfl (hU.2.1 _ hw) (hts _ hinit) ⟨hy1, hy2, hn⟩ hR, hts _ hstat, trivial⟩ ⟨mPc_blind ca dC dI base b _ P, hpre⟩ rfl (by rw [List.length_map]; exact hlen) hl.1 rfl (lv_room hsum) hdg ⟨hcells, hslots⟩) hS hKK
  · obtain ⟨hin, hnm⟩ := hi45 hk0
    subst hret
    have hstack : ((Value.ref a :: As').reverse ++ rest).map (msh base b) = (As'.map (msh base b)).reverse ++ Value.ref (base + a) :: rest.map (msh base b) := by simp [msh]
    rw [hstack]
    rcases hk0 with rfl | rfl
    · exact mr_run (P' := P') (r := r) (mc := mc) (ms := ms) (va_runI (As := As'.map (msh base b)) (rest := rest.map (msh base b)) S0 hcon (cwI n hts hGw rfl rfl rfl (hts _ hinit) (hts _ (hlink.2 rfl)) (hts _ hin) hnm ⟨hy1, hy2, hn⟩ hR) ⟨mPc_blind ca dC dI base b _ P, hpre⟩ rfl (by rw [List.length_map]; exact hlen) hl.1 rfl (lv_room hsum) hdg ⟨hcells, hslots⟩) hS hKK
    · obtain ⟨host, hw⟩ := hlink.1 rfl
      exact mr_run (P' := P') (r := r) (mc := mc) (ms := ms) (va_runIN (As := As'.map (msh base b)) (rest := rest.map (msh base b)) S0 hcon ⟨va_cnB n hts hGw rfl rfl rfl (hU.2.1 _ hw) (hts _ hinit) ⟨hy1, hy2, hn⟩ hR, hnm, hts _ hin⟩ ⟨mPc_blind ca dC dI base b _ P, hpre⟩ rfl (by rw [List.length_map]; exact hlen) hl.1 rfl (lv_room hsum) hdg ⟨hcells, hslots⟩) hS hKK
theorem mr_obj (X : mX p s m args meth c cc nL o ini ca dC dI base) {i k a : Nat} (hc : mcal o i = some (6, k)) (hRf : 1 ≤ R.frames) (hRl : 39 ≤ R.locals) (hcat : (rest.map mcat).sum ≤ 8) (hdg : decode cc pc = .ok (.invokespecial i, 3)) (kk : MW p l e R s m args below meth c nL ca dC dI base b Q (pc + 3) L rest P cz sz) : MW p l e R s m args below meth c nL ca dC dI base b Q pc L (.ref a :: rest) P cz sz := by
  obtain ⟨hx, hb, hml, hown, hts, hU, -, -⟩ := X
  have hf : Cond.methodLink (cN o) i objectInit ∈ lw_good := mcal_ok hc
  have hsum : ((rest.map (msh base b)).map fun v => v.category).sum ≤ 8 := by
    rw [List.map_map]
    have : ((fun v : Value => v.category) ∘ msh base b) = mcat := funext fun v => msh_cat base b v
    rw [this]
    exact hcat
  intro ls H locs hl hH hS
  refine W.objInit hx hb hown (hts _ hf) (hts _ mobj.1) (hts _ mobj.2) rfl (by rw [hml]; exact hl.1) rfl hdg hRf ?_ (kk ls H locs hl hH hS)
  show 2 * 0 + _ + 12 ≤ _
  omega
theorem mr_math (X : mX p s m args meth c cc nL o ini ca dC dI base) {i k kd : Nat} {x y : Int32} (hc : mcal o i = some (kd, k)) (hkd : kd = 7 ∨ kd = 8) (hRf : 1 ≤ R.frames) (hRl : 39 ≤ R.locals) (hcz : cz ≤ R.cells) (hsz : sz ≤ R.slots) (hcat : (rest.map mcat).sum ≤ 8) (hdg : decode cc pc = .ok (.invokestatic i, 3)) (kk : MW p l e R s m args below meth c nL ca dC dI base b Q (pc + 3) L (.int (if kd = 7 then (if x < y then y else x) else (if y < x then y else x)) :: rest) P cz sz) : MW p l e R s m args below meth c nL ca dC dI base b Q pc L (.int y :: .int x :: rest) P cz sz := by
  obtain ⟨hx, hb, hml, hown, hts, hU, -, -⟩ := X
  have hf := mcal_ok hc
  have hsum : ((rest.map (msh base b)).map fun v => v.category).sum ≤ 8 := by
    rw [List.map_map]
    have : ((fun v : Value => v.category) ∘ msh base b) = mcat := funext fun v => msh_cat base b v
    rw [this]
    exact hcat
  intro ls H locs hl hH hS
  have kk := kk ls H locs hl hH hS
  rcases hkd with rfl | rfl
  · exact va_mmax hx hb (hml.trans hl.1.symm) hown (hts _ hf) (hts _ mmath_max.1) (hts _ mmath_max.2.1) (hts _ mmath_max.2.2) hRf (by omega) hcz hsz hdg kk
  · exact va_mmin hx hb (hml.trans hl.1.symm) hown (hts _ hf) (hts _ mmath_min.1) (hts _ mmath_min.2.1) (hts _ mmath_min.2.2) hRf (by omega) hcz hsz hdg kk
theorem mr_nat (X : mX p s m args meth c cc nL o ini ca dC dI base) {i k : Nat} {x : UInt32} (hc : mcal o i = some (10, k)) (hRf : 1 ≤ R.frames) (hRl : 39 ≤ R.locals) (hcat : (rest.map mcat).sum ≤ 8) (hdg : decode cc pc = .ok (.invokestatic i, 3)) (kk : MW p l e R s m args below meth c nL ca dC dI base b Q (pc + 3) L (.int x.toInt32 :: rest) P cz sz) : MW p l e R s m args below meth c nL ca dC dI base b Q pc L (.float x :: rest) P cz sz := by
  obtain ⟨hx, hb, hml, hown, hts, hU, -, -⟩ := X
  have hf := mcal_ok hc
  have hsum : ((rest.map (msh base b)).map fun v => v.category).sum ≤ 8 := by
    rw [List.map_map]
    have : ((fun v : Value => v.category) ∘ msh base b) = mcat := funext fun v => msh_cat base b v
    rw [this]
    exact hcat
  intro ls H locs hl hH hS
  exact vn_f2i hx hb (hml.trans hl.1.symm) hown (hts _ hf) (hts _ mnat.1) (hts _ mnat.2.1) (hts _ mnat.2.2) hRf (by omega) hdg (kk ls H locs hl hH hS)
theorem lv_ldcwf {ls : Array Slot} {H : Heap} {locs : List Loc} {st0 : List Value} (hexec : p.tables.exec = Jvm.exec) (hb : c.code = cc) {own : String} {index : Nat} {v : UInt32} (hown : s.vm.findClass own = some m.cls) (hconst : (Jvm.Cond.constantFloat own index v).before args s = true) (hdg : decode cc pc = .ok (.ldc_w index, 3)) (k : W p l e R s m args below meth c H locs cz sz Q (F0 m (pc + 3) ls (.float v :: st0))) : W p l e R s m args below meth c H locs cz sz Q (F0 m pc ls st0) := by
  intro T hT X
  obtain ⟨t, a, b⟩ := k T hT X
  refine ⟨t, ?_, b⟩
  obtain ⟨k, cf, hk, hcf, hcp⟩ := Cond.constantFloat_spec hown hconst
  obtain ⟨k', hk', he⟩ := X.warmed.alike.2.2 _ _ hk
  jvm_step X.here [X.here.top, hexec, hb, hdg, ldc_w.wp_float (s := T) (f := F0 m pc ls st0) X.here.top hk' (by rw [he]; exact hcf) hcp]
  exact a
theorem mr_abs (X : mX p s m args meth c cc nL o ini ca dC dI base) {i k : Nat} {x : Int32} (hc : mcal o i = some (9, k)) (hRf : 1 ≤ R.frames) (hRl : 39 ≤ R.locals) (hcz : cz ≤ R.cells) (hsz : sz ≤ R.slots) (hcat : (rest.map mcat).sum ≤ 8) (hdg : decode cc pc = .ok (.invokestatic i, 3)) (kk : MW p l e R s m args below meth c nL ca dC dI base b Q (pc + 3) L (.int (if 0 ≤ x then x else 0 - x) :: rest) P cz sz) : MW p l e R s m args below meth c nL ca dC dI base b Q pc L (.int x :: rest) P cz sz := by
  obtain ⟨hx, hb, hml, hown, hts, hU, -, -⟩ := X
  have hf := mcal_ok hc
  have hsum : ((rest.map (msh base b)).map fun v => v.category).sum ≤ 8 := by
    rw [List.map_map]
    have : ((fun v : Value => v.category) ∘ msh base b) = mcat := funext fun v => msh_cat base b v
    rw [this]
    exact hcat
  intro ls H locs hl hH hS
  exact va_mabs hx hb (hml.trans hl.1.symm) hown (hts _ hf) (hts _ mmath_abs.1) (hts _ mmath_abs.2.1) (hts _ mmath_abs.2.2) hRf (by omega) hcz hsz hdg (kk ls H locs hl hH hS)
end MR
end
section
/-! M's run, and that the JVM does what it computes -/
def mB (cc : ByteArray) (o : Nat) (ini : Bool) (pc : Nat) (st : List Value) (P : mP) : Option (Nat × List Value × mP) :=
  match decode cc pc with
  | .ok (.getfield i, 3) => match st with
    | .ref a :: r => match mfld o i with
      | some (ci, k, _) => match P[a]? with
        | some (c, vs) => if c = ci then (vs[k]?).map (fun v => (pc + 3, v :: r, P)) else none
        | none => none
      | none => none
    | _ => none
  | .ok (.putfield i, 3) => match st with
    | v :: .ref a :: r => match mfld o i with
      | some (ci, k, nest) => match P[a]? with
        | some (c, vs) => if c = ci ∧ k < vs.length ∧ mfit (cY ci k) v = true ∧ ((cT ci k).2.2.2 = false ∨ (nest = false ∧ ini = true ∧ ci = o)) then some (pc + 3, r, P.set a (c, vs.set k v)) else none
        | none => none
      | none => none
    | _ => none
  | .ok (.iaload, 1) => match st with
    | .int i :: .ref a :: r => match P[a]? with
      | some (kd, vs) => if kd = 8 ∧ ¬ (i < 0 ∨ vs.length ≤ i.toNatClampNeg) then some (pc + 1, .int (mint (vs.getD i.toNatClampNeg .null)) :: r, P) else none
      | none => none
    | _ => none
  | .ok (.baload, 1) => match st with
    | .int i :: .ref a :: r => match P[a]? with
      | some (kd, vs) => if kd = 9 ∧ ¬ (i < 0 ∨ vs.length ≤ i.toNatClampNeg) then some (pc + 1, .int (mint (vs.getD i.toNatClampNeg .null)) :: r, P) else none
      | none => none
    | _ => none
  | .ok (.aaload, 1) => match st with
    | .int i :: .ref a :: r => match P[a]? with
      | some (kd, vs) => if (kd = 10 ∨ kd = 11) ∧ ¬ (i < 0 ∨ vs.length ≤ i.toNatClampNeg) then some (pc + 1, mnul (vs.getD i.toNatClampNeg .null) :: r, P) else none
      | none => none
    | _ => none
  | .ok (.arraylength, 1) => match st with
    | .ref a :: r => match P[a]? with
      | some (kd, vs) => if kd = 8 ∨ kd = 9 ∨ kd = 10 ∨ kd = 11 then some (pc + 1, .int (Int32.ofNat vs.length) :: r, P) else none
      | none => none
    | _ => none
  | .ok (.iastore, 1) => match st with
    | .int x :: .int i :: .ref a :: r => match P[a]? with
      | some (kd, vs) => if kd = 8 ∧ ¬ (i < 0 ∨ vs.length ≤ i.toNatClampNeg) then some (pc + 1, r, P.set a (8, vs.set i.toNatClampNeg (.int x))) else none
      | none => none
    | _ => none
  | .ok (.bastore, 1) => match st with
    | .int x :: .int i :: .ref a :: r => match P[a]? with
      | some (kd, vs) => if (kd = 9 ∧ ¬ (i < 0 ∨ vs.length ≤ i.toNatClampNeg)) ∧ (x = 0 ∨ x = 1) then some (pc + 1, r, P.set a (9, vs.set i.toNatClampNeg (.int x))) else none
      | none => none
    | _ => none
  | .ok (.aastore, 1) => match st with
    | .ref k :: .int i :: .ref a :: r => match P[a]? with
      | some (kd, vs) => match P[k]? with
        | some (ci, _) => if ((kd = 10 ∧ ci = 2) ∨ (kd = 11 ∧ ci = 5)) ∧ ¬ (i < 0 ∨ vs.length ≤ i.toNatClampNeg) then some (pc + 1, r, P.set a (kd, vs.set i.toNatClampNeg (.ref k))) else none
        | none => none
      | none => none
    | _ => none
  | .ok (.ldc i, 2) => (mldcI o i).map (fun v => (pc + 2, .int v :: st, P))
  | .ok (.ldc_w i, 3) => (mldcF o i).map (fun v => (pc + 3, .float v :: st, P))
  | _ => none
def mN (cc : ByteArray) (o : Nat) (pc : Nat) (st : List Value) (P : mP) : Option (Nat × List Value × mP × Nat × Nat) :=
  match decode cc pc with
  | .ok (.new i, 3) => (mcls o i).map (fun ci => (pc + 3, .ref P.length :: st, P ++ [(ci, mdef ci)], 1, cS ci))
  | .ok (.newarray .int, 2) => match st with
    | .int n :: r => if ¬ n < 0 ∧ n.toNatClampNeg ≤ 100000 then some (pc + 2, .ref P.length :: r, P ++ [(8, List.replicate n.toNatClampNeg (.int 0))], 1, n.toNatClampNeg) else none
    | _ => none
  | .ok (.newarray .boolean, 2) => match st with
    | .int n :: r => if ¬ n < 0 ∧ n.toNatClampNeg ≤ 100000 then some (pc + 2, .ref P.length :: r, P ++ [(9, List.replicate n.toNatClampNeg (.int 0))], 1, n.toNatClampNeg) else none
    | _ => none
  | .ok (.anewarray i, 3) => match st with
    | .int n :: r => if ¬ n < 0 ∧ n.toNatClampNeg ≤ 100000 then (if mcls o i = some 2 then some (pc + 3, .ref P.length :: r, P ++ [(10, List.replicate n.toNatClampNeg .null)], 1, n.toNatClampNeg) else if mcls o i = some 5 then some (pc + 3, .ref P.length :: r, P ++ [(11, List.replicate n.toNatClampNeg .null)], 1, n.toNatClampNeg) else none) else none
    | _ => none
  | _ => none
abbrev mCall : Type := Nat → List Value → mP → Option (Option Value × mP)
def mC (call : mCall) (cc : ByteArray) (o : Nat) (pc : Nat) (st : List Value) (P : mP) : Option (Nat × List Value × mP × Nat × Nat) :=
  match decode cc pc with
  | .ok (.invokevirtual i, 3) => match mcal o i with
    | some (kd, k) => match mtL[k]? with
      | some q => match st.drop q.2.2.2.2.1 with
        | .ref a :: rest => match P[a]? with
          | some (ci, _) => if kd < 2 ∧ (rest.map mcat).sum ≤ 8 ∧ ci = q.2.2.2.2.2.1 ∧ q.2.2.2.2.2.1 < 8 then (call k (.ref a :: (st.take q.2.2.2.2.1).reverse) P).map (fun z => (pc + 3, z.1.toList ++ rest, z.2, q.2.2.2.2.2.2.1, q.2.2.2.2.2.2.2)) else none
          | none => none
        | _ => none
      | none => none
    | none => none
  | .ok (.invokestatic i, 3) => match mcal o i with
    | some (kd, k) =>
      if kd = 2 ∨ kd = 3 then match mtL[k]? with
        | some q => if q.2.2.2.2.1 ≤ st.length ∧ ((st.drop q.2.2.2.2.1).map mcat).sum ≤ 8 then (call k (st.take q.2.2.2.2.1).reverse P).map (fun z => (pc + 3, z.1.toList ++ st.drop q.2.2.2.2.1, z.2, q.2.2.2.2.2.2.1, q.2.2.2.2.2.2.2)) else none
        | none => none
      else if kd = 7 ∨ kd = 8 then match st with
        | .int y :: .int x :: rest => if (rest.map mcat).sum ≤ 8 then some (pc + 3, .int (if kd = 7 then (if x < y then y else x) else (if y < x then y else x)) :: rest, P, 0, 0) else none
        | _ => none
      else if kd = 9 then match st with
        | .int x :: rest => if (rest.map mcat).sum ≤ 8 then some (pc + 3, .int (if 0 ≤ x then x else 0 - x) :: rest, P, 0, 0) else none
        | _ => none
      else if kd = 10 then match st with
        | .float x :: rest => if (rest.map mcat).sum ≤ 8 then some (pc + 3, .int x.toInt32 :: rest, P, 0, 0) else none
        | _ => none
      else none
    | none => none
  | .ok (.invokespecial i, 3) => match mcal o i with
    | some (kd, k) =>
      if kd = 6 then match st with
        | .ref _ :: rest => if (rest.map mcat).sum ≤ 8 then some (pc + 3, rest, P, 0, 0) else none
        | _ => none
      else if kd = 4 ∨ kd = 5 then match mtL[k]? with
        | some q => match st.drop q.2.2.2.2.1 with
          | .ref a :: rest => if q.2.2.2.1 = none ∧ (rest.map mcat).sum ≤ 8 then (call k (.ref a :: (st.take q.2.2.2.2.1).reverse) P).map (fun z => (pc + 3, z.1.toList ++ rest, z.2, q.2.2.2.2.2.2.1, q.2.2.2.2.2.2.2)) else none
          | _ => none
        | none => none
      else none
    | none => none
  | _ => none
/-- the law's own reads of the script (which stands as .long 0) -/
def mK (scr : Option (List Int32)) (cc : ByteArray) (pc : Nat) (st : List Value) : Option (Nat × List Value) :=
  match scr with
  | none => none
  | some xs => match decode cc pc with
    | .ok (.arraylength, 1) => match st with
      | .long _ :: r => some (pc + 1, .int (Int32.ofNat xs.length) :: r)
      | _ => none
    | .ok (.iaload, 1) => match st with
      | .int i :: .long _ :: r => if i < 0 ∨ xs.length ≤ i.toNatClampNeg then none else some (pc + 1, .int (xs.getD i.toNatClampNeg 0) :: r)
      | _ => none
    | _ => none
def mret (cc : ByteArray) (ret : Option FieldType) (pc : Nat) (st : List Value) : Option (Option Value) :=
  match decode cc pc with
  | .ok (.return_, 1) => match st with
    | [] => if ret = none then some none else none
    | _ => none
  | .ok (.ireturn, 1) => match st with
    | [.int x] => if ret = some .int ∨ (ret = some .boolean ∧ (x = 0 ∨ x = 1)) then some (some (.int x)) else none
    | _ => none
  | .ok (.areturn, 1) => match st with
    | [.ref a] => match ret with
      | some (.object _) => some (some (.ref a))
      | _ => none
    | [.null] => match ret with
      | some (.object _) => some (some .null)
      | _ => none
    | _ => none
  | _ => none
def mexec (call : mCall) (scr : Option (List Int32)) (cc : ByteArray) (nL o : Nat) (ini : Bool) (ret : Option FieldType) (mcM msM : Nat) : Nat → Nat → List (Nat × Value) → List Value → mP → Nat → Nat → Option (Option Value × mP)
  | 0, _, _, _, _, _, _ => none
  | f + 1, pc, L, st, P, cz, sz => match mA cc nL pc L st with
    | some z => mexec call scr cc nL o ini ret mcM msM f z.1 z.2.1 z.2.2 P cz sz
    | none => match mS cc pc st with
      | some z => mexec call scr cc nL o ini ret mcM msM f z.1 L z.2 P cz sz
      | none => match mB cc o ini pc st P with
        | some z => mexec call scr cc nL o ini ret mcM msM f z.1 L z.2.1 z.2.2 cz sz
        | none => match mC call cc o pc st P with
          | some z => if cz + z.2.2.2.1 ≤ mcM ∧ sz + z.2.2.2.2 ≤ msM then mexec call scr cc nL o ini ret mcM msM f z.1 L z.2.1 z.2.2.1 (cz + z.2.2.2.1) (sz + z.2.2.2.2) else none
          | none => match mN cc o pc st P with
            | some z => if cz + z.2.2.2.1 ≤ mcM ∧ sz + z.2.2.2.2 ≤ msM then mexec call scr cc nL o ini ret mcM msM f z.1 L z.2.1 z.2.2.1 (cz + z.2.2.2.1) (sz + z.2.2.2.2) else none
            | none => match mK scr cc pc st with
              | some z => mexec call scr cc nL o ini ret mcM msM f z.1 L z.2 P cz sz
              | none => (mret cc ret pc st).map (fun r => (r, P))
section MR
variable {p : Program} {l : Launch} {e : Env} {R : Room} {s : State} {m : MethodId} {args : Array Value} {below : List Frame} {meth : Method} {c : Code} {Q : State → Prop}
variable {cc : ByteArray} {nL o base b : Nat} {ini : Bool} {ca dC : Nat → ClassId} {dI : Nat → Nat → Nat} {pc : Nat} {L : List (Nat × Value)} {st : List Value} {P : mP} {cz sz : Nat}
set_option maxHeartbeats 4000000 in
theorem mB_ok (X : mX p s m args meth c cc nL o ini ca dC dI base) {z : Nat × List Value × mP} (h : mB cc o ini pc st P = some z) (kk : MW p l e R s m args below meth c nL ca dC dI base b Q z.1 L z.2.1 z.2.2 cz sz) : MW p l e R s m args below meth c nL ca dC dI base b Q pc L st P cz sz := by
  unfold mB at h
  split at h
  · rename_i i heq
    split at h
    · rename_i a r
      split at h
      · rename_i ci k nest hf
        split at h
        · rename_i c0 vs ha
          split at h
          · rename_i hc
            subst hc
            obtain ⟨v, hv, rfl⟩ := Option.map_eq_some_iff.mp h
            exact mr_get X hf ha hv heq kk
          · cases h
        · cases h
      · cases h
    · cases h
  · rename_i i heq
    split at h
    · rename_i v a r
      split at h
      · rename_i ci k nest hf
        split at h
        · rename_i c0 vs ha
          split at h
          · rename_i hc
            obtain ⟨rfl, h1, h2, h3⟩ := hc
            cases h
            exact mr_put X hf ha h1 h2 h3 heq kk
          · cases h
        · cases h
      · cases h
    · cases h
  · rename_i heq
    split at h
    · rename_i i a r
      split at h
      · rename_i kd vs ha
        split at h
        · rename_i hc
          obtain ⟨rfl, h1⟩ := hc
          cases h
          exact mr_iald X ha h1 heq kk
        · cases h
      · cases h
    · cases h
  · rename_i heq
    split at h
    · rename_i i a r
      split at h
      · rename_i kd vs ha
        split at h
        · rename_i hc
          obtain ⟨rfl, h1⟩ := hc
          cases h
          exact mr_zald X ha h1 heq kk
        · cases h
      · cases h
    · cases h
  · rename_i heq
    split at h
    · rename_i i a r
      split at h
      · rename_i kd vs ha
        split at h
        · rename_i hc
          cases h
          exact mr_aald X hc.1 ha hc.2 heq kk
        · cases h
      · cases h
    · cases h
  · rename_i heq
    split at h
    · rename_i a r
      split at h
      · rename_i kd vs ha
        split at h
        · rename_i hc
          cases h
          exact mr_alen X hc ha heq kk
        · cases h
      · cases h
    · cases h
  · rename_i heq
    split at h
    · rename_i x i a r
      split at h
      · rename_i kd vs ha
        split at h
        · rename_i hc
          obtain ⟨rfl, h1⟩ := hc
          cases h
          exact mr_iast X ha h1 heq kk
        · cases h
      · cases h
    · cases h
  · rename_i heq
    split at h
    · rename_i x i a r
      split at h
      · rename_i kd vs ha
        split at h
        · rename_i hc
          obtain ⟨⟨rfl, h1⟩, h2⟩ := hc
          cases h
          exact mr_zast X h2 ha h1 heq kk
        · cases h
      · cases h
    · cases h
  · rename_i heq
    split at h
    · rename_i k i a r
      split at h
      · rename_i kd vs ha
        split at h
        · rename_i ci us hk
          split at h
          · rename_i hc
            cases h
            exact mr_aast X hc.1 ha hk hc.2 heq kk
          · cases h
        · cases h
      · cases h
    · cases h
  · rename_i i heq
    obtain ⟨v, hv, rfl⟩ := Option.map_eq_some_iff.mp h
    obtain ⟨hx, hb, hml, hown, hts, hU, -, -⟩ := X
    intro ls H locs hl hH hS
    exact lv_ldc hx hb hown (hts _ (mldcI_ok hv)) heq (kk ls H locs hl hH hS)
  · rename_i i heq
    obtain ⟨v, hv, rfl⟩ := Option.map_eq_some_iff.mp h
    obtain ⟨hx, hb, hml, hown, hts, hU, -, -⟩ := X
    intro ls H locs hl hH hS
    exact lv_ldcwf hx hb hown (hts _ (mldcF_ok hv)) heq (kk ls H locs hl hH hS)
  · cases h
set_option maxHeartbeats 4000000 in
theorem mN_ok (X : mX p s m args meth c cc nL o ini ca dC dI base) {z : Nat × List Value × mP × Nat × Nat} (h : mN cc o pc st P = some z) (hcz : cz + z.2.2.2.1 ≤ R.cells) (hsz : sz + z.2.2.2.2 ≤ R.slots) (kk : MW p l e R s m args below meth c nL ca dC dI base b Q z.1 L z.2.1 z.2.2.1 (cz + z.2.2.2.1) (sz + z.2.2.2.2)) : MW p l e R s m args below meth c nL ca dC dI base b Q pc L st P cz sz := by
  unfold mN at h
  split at h
  · rename_i i heq
    obtain ⟨ci, hc, rfl⟩ := Option.map_eq_some_iff.mp h
    exact mr_new X hc hcz hsz heq kk
  · rename_i heq
    split at h
    · split at h
      · rename_i hc
        cases h
        exact mr_newi X hc.1 hc.2 hcz hsz heq kk
      · cases h
    · cases h
  · rename_i heq
    split at h
    · split at h
      · rename_i hc
        cases h
        exact mr_newz X hc.1 hc.2 hcz hsz heq kk
      · cases h
    · cases h
  · rename_i i heq
    split at h
    · split at h
      · rename_i hc
        split at h
        · rename_i h2
          cases h
          exact mr_anew X (Or.inl ⟨rfl, rfl⟩) h2 hc.1 hc.2 hcz hsz heq kk
        · split at h
          · rename_i h2
            cases h
            exact mr_anew X (Or.inr ⟨rfl, rfl⟩) h2 hc.1 hc.2 hcz hsz heq kk
          · cases h
      · cases h
    · cases h
  · cases h
theorem mtake {n : Nat} {st rest : List Value} {a : Nat} (h : st.drop n = .ref a :: rest) : st = (.ref a :: (st.take n).reverse).reverse ++ rest ∧ ((st.take n).reverse).length = n := by
  have h1 := List.take_append_drop n st
  have h2 : n < st.length := by
    rcases Nat.lt_or_ge n st.length with q | q
    · exact q
    · rw [List.drop_eq_nil_of_le q] at h
      cases h
  refine ⟨?_, by rw [List.length_reverse, List.length_take]; omega⟩
  rw [h] at h1
  simpa using h1.symm
set_option maxHeartbeats 4000000 in
theorem mC_ok (X : mX p s m args meth c cc nL o ini ca dC dI base) {call : mCall} {d : Nat} (hcall : ∀ k As P r P', call k As P = some (r, P') → mMet d k As P r P') (hRf : d + 1 ≤ R.frames) (hRl : 39 + 40 * d ≤ R.locals) {z : Nat × List Value × mP × Nat × Nat} (h : mC call cc o pc st P = some z) (hcz : cz + z.2.2.2.1 ≤ R.cells) (hsz : sz + z.2.2.2.2 ≤ R.slots) (kk : MW p l e R s m args below meth c nL ca dC dI base b Q z.1 L z.2.1 z.2.2.1 (cz + z.2.2.2.1) (sz + z.2.2.2.2)) : MW p l e R s m args below meth c nL ca dC dI base b Q pc L st P cz sz := by
  unfold mC at h
  split at h
  · rename_i i heq
    split at h
    · rename_i kd k hc
      split at h
      · rename_i q hq
        split at h
        · rename_i a rest hd
          split at h
          · rename_i ci vs ha
            split at h
            · rename_i hh
              obtain ⟨h1, h2, rfl, h4⟩ := hh
              obtain ⟨⟨r, P'⟩, hr, rfl⟩ := Option.map_eq_some_iff.mp h
              obtain ⟨e1, e2⟩ := mtake hd
              rw [e1]
              exact mr_call X hc hq (hcall _ _ _ _ _ hr) hRf hRl hcz hsz h2 (Or.inl ⟨h1, ⟨a, _, vs, rfl, e2, h4, ha⟩, heq⟩) kk
            · cases h
          · cases h
        · cases h
      · cases h
    · cases h
  · rename_i i heq
    split at h
    · rename_i kd k hc
      split at h
      · rename_i hk
        split at h
        · rename_i q hq
          split at h
          · rename_i hh
            obtain ⟨⟨r, P'⟩, hr, rfl⟩ := Option.map_eq_some_iff.mp h
            have e1 : st = ((st.take q.2.2.2.2.1).reverse).reverse ++ st.drop q.2.2.2.2.1 := by rw [List.reverse_reverse, List.take_append_drop]
            have kk := mr_call (L := L) (cz := cz) (sz := sz) (rest := st.drop q.2.2.2.2.1) X hc hq (hcall _ _ _ _ _ hr) hRf hRl hcz hsz hh.2 (Or.inr (Or.inl ⟨hk, by rw [List.length_reverse, List.length_take]; omega, heq⟩)) kk
            rw [← e1] at kk
            exact kk
          · cases h
        · cases h
      · split at h
        · rename_i hk
          split at h
          · rename_i y x rest
            split at h
            · rename_i hh
              cases h
              exact mr_math X hc hk (by omega) (by omega) (by simpa using hcz) (by simpa using hsz) hh heq kk
            · cases h
          · cases h
        · split at h
          · rename_i hk
            split at h
            · rename_i x rest
              split at h
              · rename_i hh
                subst hk
                cases h
                exact mr_abs X hc (by omega) (by omega) (by simpa using hcz) (by simpa using hsz) hh heq kk
              · cases h
            · cases h
          · split at h
            · rename_i hk
              split at h
              · rename_i x rest
                split at h
                · rename_i hh
                  subst hk
                  cases h
                  exact mr_nat X hc (by omega) (by omega) hh heq kk
                · cases h
              · cases h
            · cases h
    · cases h
  · rename_i i heq
    split at h
    · rename_i kd k hc
      split at h
      · rename_i hk
        subst hk
        split at h
        · rename_i a rest
          split at h
          · rename_i hh
            cases h
            exact mr_obj X hc (by omega) (by omega) hh heq kk
          · cases h
        · cases h
      · split at h
        · rename_i hk
          split at h
          · rename_i q hq
            split at h
            · rename_i a rest hd
              split at h
              · rename_i hh
                obtain ⟨⟨r, P'⟩, hr, rfl⟩ := Option.map_eq_some_iff.mp h
                obtain ⟨e1, e2⟩ := mtake hd
                rw [e1]
                exact mr_call X hc hq (hcall _ _ _ _ _ hr) hRf hRl hcz hsz hh.2 (Or.inr (Or.inr ⟨hk, hh.1, ⟨a, _, rfl, e2⟩, heq⟩)) kk
              · cases h
            · cases h
          · cases h
        · cases h
    · cases h
  · cases h
theorem mK_ok (X : mX p s m args meth c cc nL o ini ca dC dI base) {scr : Option (List Int32)} (hscr : ∀ xs, scr = some xs → va_X b xs.length (fun j => xs.getD j 0) s s.heap ∧ b < s.heap.size ∧ b < base) {z : Nat × List Value} (h : mK scr cc pc st = some z) (kk : MW p l e R s m args below meth c nL ca dC dI base b Q z.1 L z.2 P cz sz) : MW p l e R s m args below meth c nL ca dC dI base b Q pc L st P cz sz := by
  obtain ⟨hx, hb, -, -, -, -, -, -⟩ := X
  intro ls H locs hl hH hS
  have kk := kk ls H locs hl hH hS
  unfold mK at h
  split at h
  · cases h
  · rename_i xs
    obtain ⟨hX, hbl, hbb⟩ := hscr xs rfl
    have hbA : ¬ (fun x : Nat => base ≤ x) b := Nat.not_le.mpr hbb
    split at h
    · rename_i heq
      split at h
      · cases h
        exact va_slen hx hb hX hbl hbA hS heq kk
      · cases h
    · rename_i heq
      split at h
      · split at h
        · cases h
        · rename_i hin
          cases h
          exact va_sld hx hb hX hbl hbA hS hin heq kk
      · cases h
    · cases h
set_option maxHeartbeats 4000000 in
/-- M's run is the machine's -/
theorem mexec_ok (X : mX p s m args meth c cc nL o ini ca dC dI base) {call : mCall} {d : Nat} {scr : Option (List Int32)} {ret : Option FieldType} {mcM msM : Nat} (hscr : ∀ xs, scr = some xs → va_X b xs.length (fun j => xs.getD j 0) s s.heap ∧ b < s.heap.size ∧ b < base) (hcall : ∀ k As P r P', call k As P = some (r, P') → mMet d k As P r P') (hRf : d + 1 ≤ R.frames) (hRl : 39 + 40 * d ≤ R.locals) (hRc : mcM ≤ R.cells) (hRs : msM ≤ R.slots) {r : Option Value} {P' : mP}
    (fin : ∀ (pc : Nat) (L : List (Nat × Value)) (st : List Value) (cz sz : Nat), cz ≤ mcM → sz ≤ msM → mret cc ret pc st = some r → MW p l e R s m args below meth c nL ca dC dI base b Q pc L st P' cz sz) :
    ∀ (f pc : Nat) (L : List (Nat × Value)) (st : List Value) (P : mP) (cz sz : Nat), cz ≤ mcM → sz ≤ msM → mexec call scr cc nL o ini ret mcM msM f pc L st P cz sz = some (r, P') → MW p l e R s m args below meth c nL ca dC dI base b Q pc L st P cz sz := by
  intro f
  induction f with
  | zero => intro pc L st P cz sz h1 h2 h; cases h
  | succ f ih =>
    intro pc L st P cz sz h1 h2 h
    unfold mexec at h
    split at h
    · rename_i z hz
      exact mA_ok X hz (ih _ _ _ _ _ _ h1 h2 h)
    · split at h
      · rename_i z hz
        exact mS_ok X hz (ih _ _ _ _ _ _ h1 h2 h)
      · split at h
        · rename_i z hz
          exact mB_ok X hz (ih _ _ _ _ _ _ h1 h2 h)
        · split at h
          · rename_i z hz
            split at h
            · rename_i hc
              exact mC_ok X hcall hRf hRl hz (Nat.le_trans hc.1 hRc) (Nat.le_trans hc.2 hRs) (ih _ _ _ _ _ _ hc.1 hc.2 h)
            · cases h
          · split at h
            · rename_i z hz
              split at h
              · rename_i hc
                exact mN_ok X hz (Nat.le_trans hc.1 hRc) (Nat.le_trans hc.2 hRs) (ih _ _ _ _ _ _ hc.1 hc.2 h)
              · cases h
            · split at h
              · rename_i z hz
                exact mK_ok X hscr hz (ih _ _ _ _ _ _ h1 h2 h)
              · obtain ⟨r', hr, e1⟩ := Option.map_eq_some_iff.mp h
                cases e1
                exact fin pc L st cz sz h1 h2 hr
end MR
end
section
/-! every method's contract at once: what mcall computes, the JVM does; and the law's start -/
def mLargs : Nat → List Value → List (Nat × Value)
  | _, [] => []
  | i, v :: vs => (i, v) :: mLargs (i + 1) vs
theorem mLargs_ok (base b : Nat) : ∀ (vs : List Value) (i : Nat), (vs.all (fun v => mcat v == 1)) = true → lv_args i (vs.map (msh base b)) = mLs base b (mLargs i vs)
  | [], i, _ => rfl
  | v :: vs, i, h => by
    simp only [List.all_cons, Bool.and_eq_true, beq_iff_eq] at h
    have hv : ¬ (msh base b v).category = 2 := by rw [mcat1 h.1]; decide
    simp only [List.map_cons, lv_args, mLargs, mLs, if_neg hv]
    rw [mLargs_ok base b vs (i + 1) h.2]
    rfl
theorem lg_len (base b : Nat) : ∀ (vs : List Value), (vs.all (fun v => mcat v == 1)) = true → (lg_sl (vs.map (msh base b))).length = vs.length
  | [], _ => rfl
  | v :: vs, h => by
    simp only [List.all_cons, Bool.and_eq_true, beq_iff_eq] at h
    have hv : ¬ (msh base b v).category = 2 := by rw [mcat1 h.1]; decide
    have ih := lg_len base b vs h.2
    unfold lg_sl at ih ⊢
    simp only [List.map_cons, List.flatMap_cons, if_neg hv, List.length_append, List.length_cons, List.length_nil, ih]
    omega
def mcall (F : Nat) : Nat → Nat → List Value → mP → Option (Option Value × mP)
  | 0, _, _, _ => none
  | d + 1, k, As, P => match mtL[k]? with
    | some q => if As.length ≤ q.2.2.1 ∧ As.all (fun v => mcat v == 1) = true then mexec (mcall F d) none q.2.1 q.2.2.1 q.2.2.2.2.2.1 (q.1.name == "<init>") q.2.2.2.1 q.2.2.2.2.2.2.1 q.2.2.2.2.2.2.2 F 0 (mLargs 0 As) [] P 0 0 else none
    | none => none
/-- a method's contract by a walk of its body, for JDK classes' methods too -/
theorem mMet_ofWF {l : Launch} {y : MethodName} {ws ws' : List Cond} {rm : Room} {Pc : Array Value → State → Prop} {Qc : Array Value → State → Outcome → State → Prop} {mc ms : Nat} {free : Addr → Prop} {cc : ByteArray} {maxL : Nat} {ret : Option FieldType} (hy : plainFor y = true) (hw : ws = Cond.code y cc maxL ret :: ws') (hW : ∀ (p : Program) (e : Env) (s : State) (m : MethodId) (args : Array Value) (below : List Frame) (meth : Method) (c : Code) (s1 : State), BodyLoose p l y (headSpec ws rm) cc maxL ret e s m args below meth c s1 → c.maxLocals = maxL → Pc args s → W p l e (headSpec ws rm).room s m args below meth c s.heap [] 0 0 (MQ below Qc args s mc ms free) (entryFrame m args maxL)) : Met l y ws rm Pc Qc mc ms free := by
  refine MetFree.of_bodySF (code := cc) (maxLocals := maxL) (ret := ret) hy (fun args s m h hn => ?_) (fun p e s m args below meth c s1 B hml hP _ => ?_)
  · have hc : Cond.code y cc maxL ret ∈ ws := hw ▸ List.mem_cons_self
    obtain ⟨meth, c, h1, h2, h3, h4, h5, h6, -, -⟩ := Cond.code_spec hn (atoms_spec (ws := ws) h _ hc)
    exact ⟨meth, c, h1, h2, h3, h4, h5, h6⟩
  · have hh : s1.heap = s.heap := by rw [B.state]; rfl
    obtain ⟨t, h1, o, h2, h3, h4⟩ := hW p e s m args below meth c s1 B hml hP s1 hh (Stand.of_body B)
    exact ⟨t, o, h1, h2, h3, h4⟩
set_option maxHeartbeats 4000000 in
theorem mcall_ok (F : Nat) : ∀ (d k : Nat) (As : List Value) (P : mP) (r : Option Value) (P' : mP), mcall F d k As P = some (r, P') → mMet d k As P r P' := by
  intro d
  induction d with
  | zero => intro k As P r P' h; cases h
  | succ d ih =>
    intro k As P r P' h q hq l ca dC dI base b
    unfold mcall at h
    rw [hq] at h
    dsimp only at h
    split at h
    · rename_i hA
      obtain ⟨hA1, hA2⟩ := hA
      obtain ⟨y, cc, nL, ret, n, o, mc, ms⟩ := q
      obtain ⟨hpl, hcode, hinit, hcls, hml20, hn, hy1, hy2⟩ := mtL_mem hq
      dsimp only at h hA1 ⊢
      refine mMet_ofWF (cc := cc) (maxL := nL) (ret := ret) hpl rfl ?_
      intro p e s m args below meth c s₁ B hml hv
      obtain ⟨rfl, hU, hH⟩ := hv
      have hts : ∀ w ∈ lw_good, w.before (As.map (msh base b)).toArray s = true := fun w h => atoms_spec (ws := mws (y, cc, nL, ret, n, o, mc, ms)) B.pre w (List.mem_cons_of_mem _ h)
      have hown : s.vm.findClass (cN o) = some m.cls := hcls ▸ findClass_of_methodNamed B.named
      have hlocks := B.notSynchronized
      have hr := B.returns
      have X : mX p s m (As.map (msh base b)).toArray meth c cc nL o (y.name == "<init>") ca dC dI base := ⟨B.exec, B.bytes, hml, hown, hts, hU, by rw [hH.2]; omega, fun hb => (name_of_methodNamed B.named B.method).1.trans (by simpa using hb)⟩
      rw [lg_entry_eq]
      have hl := lv_entry (As.map (msh base b)) (n := nL) (by rw [lg_len base b As hA2]; exact hA1)
      rw [mLargs_ok base b As 0 hA2] at hl
      refine mexec_ok (R := mrm (d + 1) (y, cc, nL, ret, n, o, mc, ms)) (Q := MQ below (mQc ca dC dI base b r P') (As.map (msh base b)).toArray s mc ms (fun x => base ≤ x)) X (d := d) (scr := none) (ret := ret) (mcM := mc) (msM := ms) (fun xs h => by cases h) ih (Nat.le_refl _) ?_ (Nat.le_refl _) (Nat.le_refl _) ?_ F 0 (mLargs 0 As) [] P 0 0 (Nat.zero_le _) (Nat.zero_le _) h _ s.heap [] hl hH va_S.rf
      · show 39 + 40 * d ≤ 40 * (d + 1)
        omega
      · intro pc L st cz sz h1 h2 hret ls H locs hl hH' hS
        refine W.widen h1 h2 ?_
        unfold mret at hret
        split at hret
        · rename_i heq
          split at hret
          · split at hret
            · rename_i hrt
              cases hret
              exact W.vret B.exec B.bytes (hr.trans hrt) (fun t ht hW => ⟨⟨rfl, by rw [ht]; exact hH'⟩, hS.F ht⟩) hS.2.2 heq
            · cases hret
          · cases hret
        · rename_i heq
          split at hret
          · rename_i x
            split at hret
            · rename_i hrt
              cases hret
              rcases hrt with hrt | ⟨hrt, hx⟩
              · exact W.zret (ty := .int) B.exec B.bytes (hr.trans hrt) rfl (fun t ht hW => ⟨⟨rfl, by rw [ht]; exact hH'⟩, hS.F ht⟩) hS.2.2 heq
              · exact W.zret (ty := .boolean) B.exec B.bytes (hr.trans hrt) (by rcases hx with rfl | rfl <;> rfl) (fun t ht hW => ⟨⟨rfl, by rw [ht]; exact hH'⟩, hS.F ht⟩) hS.2.2 heq
            · cases hret
          · cases hret
        · rename_i heq
          split at hret
          · rename_i a
            split at hret
            · rename_i C
              cases hret
              exact W.aret B.exec B.bytes hr (Or.inl ⟨C, rfl⟩) (Or.inr ⟨_, rfl⟩) (fun t ht hW => ⟨⟨rfl, by rw [ht]; exact hH'⟩, hS.F ht⟩) hS.2.2 heq
            · cases hret
          · split at hret
            · rename_i C
              cases hret
              exact W.aret B.exec B.bytes hr (Or.inl ⟨C, rfl⟩) (Or.inl rfl) (fun t ht hW => ⟨⟨rfl, by rw [ht]; exact hH'⟩, hS.F ht⟩) hS.2.2 heq
            · cases hret
          · cases hret
        · cases hret
    · cases h
theorem mstart {args : Array Value} {s : State} (hts : ∀ w ∈ lw_tbl, w.before args s = true) : ∃ (ca dC : Nat → ClassId) (dI : Nat → Nat → Nat), mU ca dC dI s := by
  have hg : ∀ w ∈ lw_good, w.before args s = true := fun w h => hts w (List.mem_filter.mp h).1
  have hk : ∀ ci : Nat, ∃ (cC : ClassId) (iS : Nat → Nat), ci < 8 → u_Kn s (cN ci) (cT ci) (cS ci) cC iS := fun ci => by
    by_cases h : ci < 8
    · obtain ⟨-, hlay, -, -, hinst, -, -⟩ := cl_ok ci h
      obtain ⟨cC, iS, hK⟩ := u_known hg hlay (hg _ hinst)
      exact ⟨cC, iS, fun _ => hK⟩
    · exact ⟨0, fun _ => 0, fun q => absurd q h⟩
  have ho2 : va_AO RX2 s := va_AO.of (hts (.arrayOver (.object RX2)) (by decide +kernel))
  have ho5 : va_AO RX5 s := va_AO.of (hts (.arrayOver (.object RX5)) (by decide +kernel))
  obtain ⟨cI, kI, compI, i1, i2, i3⟩ := Cond.arrayClass_spec (hg _ marr_word.1)
  obtain ⟨cZ, kZ, compZ, z1, z2, z3⟩ := Cond.arrayClass_spec (hg _ marr_word.2)
  obtain ⟨compP, cP, kP, p1, p2, p3, p4, p5⟩ := Cond.arrayOver_spec ho2
  obtain ⟨compS, cS', kS, s1, s2, s3, s4, s5⟩ := Cond.arrayOver_spec ho5
  refine ⟨fun k => if k = 8 then cI else if k = 9 then cZ else if k = 10 then cP else cS', fun k => Classical.choose (hk k), fun k => Classical.choose (Classical.choose_spec (hk k)), ⟨⟨fun c q hq => ?_, fun k q hq => ?_⟩, fun w hw => ?_, ho2, ho5⟩⟩
  · have hc : c < 8 := (List.getElem?_eq_some_iff.mp hq).1
    obtain ⟨h1, -⟩ := cl_ok c hc
    have h2 := Option.some.inj (hq.symm.trans h1)
    subst h2
    exact Classical.choose_spec (Classical.choose_spec (hk c)) hc
  · have hk4 : k < 4 := (List.getElem?_eq_some_iff.mp hq).1
    match k, hk4, hq with
    | 0, _, hq => cases hq; exact ⟨fun N z => ⟨(fun k h => by cases h), kI, i2, compI, i3⟩, i1⟩
    | 1, _, hq => cases hq; exact ⟨fun N z => ⟨(fun k h => by cases h), kZ, z2, compZ, z3⟩, z1⟩
    | 2, _, hq => cases hq; exact ⟨fun N z => ⟨(fun k h => by cases h), kP, p3, compP, p4⟩, kP, compP, p3, p4, p1, p5⟩
    | 3, _, hq => cases hq; exact ⟨fun N z => ⟨(fun k h => by cases h), kS, s3, compS, s4⟩, kS, compS, s3, s4, s1, s5⟩
  · have h1 := hts w (List.mem_filter.mp hw).1
    have h2 := (List.mem_filter.mp hw).2
    unfold mNest at h2
    split at h2
    · exact va_Nw.of rfl h1
    · exact va_Nw.of rfl h1
    · cases h2
end
section
/-! M's runs grow with fuel and depth; 'Ev': a call of M ends so; 'MEv': a run of M from a place of a method's body ends so -/
theorem mC_mono {call call' : mCall} (hc : ∀ k As P z, call k As P = some z → call' k As P = some z) {cc : ByteArray} {o pc : Nat} {st : List Value} {P : mP} {z : Nat × List Value × mP × Nat × Nat} (h : mC call cc o pc st P = some z) : mC call' cc o pc st P = some z := by
  unfold mC at h ⊢
  split at h
  · rename_i i heq
    try rw [heq]
    try dsimp only
    split at h
    · rename_i kd k h1
      try rw [h1]
      try dsimp only
      split at h
      · rename_i q h2
        try rw [h2]
        try dsimp only
        split at h
        · rename_i a rest h3
          try rw [h3]
          try dsimp only
          split at h
          · rename_i ci vs h4
            try rw [h4]
            try dsimp only
            split at h
            · rename_i h5
              try rw [if_pos h5]
              obtain ⟨w, hw, rfl⟩ := Option.map_eq_some_iff.mp h
              rw [hc _ _ _ _ hw]
              rfl
            · cases h
          · cases h
        · cases h
      · cases h
    · cases h
  · rename_i i heq
    try rw [heq]
    try dsimp only
    split at h
    · rename_i kd k h1
      try rw [h1]
      try dsimp only
      split at h
      · rename_i hk
        try rw [if_pos hk]
        split at h
        · rename_i q h2
          try rw [h2]
          try dsimp only
          split at h
          · rename_i h5
            try rw [if_pos h5]
            obtain ⟨w, hw, rfl⟩ := Option.map_eq_some_iff.mp h
            rw [hc _ _ _ _ hw]
            rfl
          · cases h
        · cases h
      · rename_i hk
        try rw [if_neg hk]
        exact h
    · cases h
  · rename_i i heq
    try rw [heq]
    try dsimp only
    split at h
    · rename_i kd k h1
      try rw [h1]
      try dsimp only
      split at h
      · rename_i hk
        try rw [if_pos hk]
        exact h
      · rename_i hk
        try rw [if_neg hk]
        split at h
        · rename_i hk2
          try rw [if_pos hk2]
          split at h
          · rename_i q h2
            try rw [h2]
            try dsimp only
            split at h
            · rename_i a rest h3
              try rw [h3]
              try dsimp only
              split at h
              · rename_i h5
                try rw [if_pos h5]
                obtain ⟨w, hw, rfl⟩ := Option.map_eq_some_iff.mp h
                rw [hc _ _ _ _ hw]
                rfl
              · cases h
            · cases h
          · cases h
        · cases h
    · cases h
  · cases h
theorem mC_none {call : mCall} {cc : ByteArray} {o pc : Nat} {st : List Value} {P : mP} (hA : ∀ i, decode cc pc ≠ .ok (.invokevirtual i, 3)) (hB : ∀ i, decode cc pc ≠ .ok (.invokestatic i, 3)) (hD : ∀ i, decode cc pc ≠ .ok (.invokespecial i, 3)) : mC call cc o pc st P = none := by
  unfold mC
  split
  · rename_i i heq; exact absurd heq (hA i)
  · rename_i i heq; exact absurd heq (hB i)
  · rename_i i heq; exact absurd heq (hD i)
  · rfl
/-- where mC says nothing of a call that may come later, the other groups say nothing either -/
theorem mC_call {cc : ByteArray} {o pc : Nat} {st : List Value} {P : mP} {scr : Option (List Int32)} {ret : Option FieldType} (h : (∃ i, decode cc pc = .ok (.invokevirtual i, 3)) ∨ (∃ i, decode cc pc = .ok (.invokestatic i, 3)) ∨ (∃ i, decode cc pc = .ok (.invokespecial i, 3))) : mN cc o pc st P = none ∧ mK scr cc pc st = none ∧ mret cc ret pc st = none := by
  rcases h with ⟨i, h⟩ | ⟨i, h⟩ | ⟨i, h⟩ <;> refine ⟨by unfold mN; rw [h], ?_, by unfold mret; rw [h]⟩ <;> unfold mK <;> cases scr <;> first | rfl | (dsimp only; rw [h])
theorem mexec_mono {call call' : mCall} (hc : ∀ k As P z, call k As P = some z → call' k As P = some z) {scr : Option (List Int32)} {cc : ByteArray} {nL o : Nat} {ini : Bool} {ret : Option FieldType} {mcM msM : Nat} : ∀ (f f' : Nat) (pc : Nat) (L : List (Nat × Value)) (st : List Value) (P : mP) (cz sz : Nat) (z : Option Value × mP), f ≤ f' → mexec call scr cc nL o ini ret mcM msM f pc L st P cz sz = some z → mexec call' scr cc nL o ini ret mcM msM f' pc L st P cz sz = some z := by
  intro f
  induction f with
  | zero => intro f' pc L st P cz sz z _ h; cases h
  | succ f ih =>
    intro f' pc L st P cz sz z hf h
    obtain ⟨g, rfl⟩ : ∃ g, f' = g + 1 := ⟨f' - 1, by omega⟩
    have hg : f ≤ g := by omega
    unfold mexec at h ⊢
    split at h
    · rename_i w hw
      try rw [hw]
      exact ih g _ _ _ _ _ _ _ hg h
    · rename_i hw
      try rw [hw]
      try dsimp only
      split at h
      · rename_i w hw
        try rw [hw]
        exact ih g _ _ _ _ _ _ _ hg h
      · rename_i hw
        try rw [hw]
        try dsimp only
        split at h
        · rename_i w hw
          try rw [hw]
          exact ih g _ _ _ _ _ _ _ hg h
        · rename_i hw
          try rw [hw]
          try dsimp only
          split at h
          · rename_i w hw
            rw [mC_mono hc hw]
            try dsimp only
            split at h
            · rename_i h5
              try rw [if_pos h5]
              exact ih g _ _ _ _ _ _ _ hg h
            · cases h
          · rename_i hw
            by_cases hcl : (∃ i, decode cc pc = .ok (.invokevirtual i, 3)) ∨ (∃ i, decode cc pc = .ok (.invokestatic i, 3)) ∨ (∃ i, decode cc pc = .ok (.invokespecial i, 3))
            · obtain ⟨e1, e2, e3⟩ := mC_call (o := o) (st := st) (P := P) (scr := scr) (ret := ret) hcl
              rw [e1, e2, e3] at h
              cases h
            · have hn : mC call' cc o pc st P = none := mC_none (fun i q => hcl (Or.inl ⟨i, q⟩)) (fun i q => hcl (Or.inr (Or.inl ⟨i, q⟩))) (fun i q => hcl (Or.inr (Or.inr ⟨i, q⟩)))
              rw [hn]
              try dsimp only
              split at h
              · rename_i w hw
                try rw [hw]
                try dsimp only
                split at h
                · rename_i h5
                  try rw [if_pos h5]
                  exact ih g _ _ _ _ _ _ _ hg h
                · cases h
              · rename_i hw
                try rw [hw]
                try dsimp only
                split at h
                · rename_i w hw
                  try rw [hw]
                  exact ih g _ _ _ _ _ _ _ hg h
                · rename_i hw
                  try rw [hw]
                  exact h
theorem mcall_mono {F F' : Nat} (hF : F ≤ F') : ∀ (d d' k : Nat) (As : List Value) (P : mP) (z : Option Value × mP), d ≤ d' → mcall F d k As P = some z → mcall F' d' k As P = some z := by
  intro d
  induction d with
  | zero => intro d' k As P z _ h; cases h
  | succ d ih =>
    intro d' k As P z hd h
    obtain ⟨g, rfl⟩ : ∃ g, d' = g + 1 := ⟨d' - 1, by omega⟩
    unfold mcall at h ⊢
    split at h
    · rename_i q hq
      try rw [hq]
      try dsimp only
      split at h
      · rename_i hA
        try rw [if_pos hA]
        exact mexec_mono (fun k As P z => ih g k As P z (by omega)) _ _ _ _ _ _ _ _ _ hF h
      · cases h
    · cases h
def Ev (d k : Nat) (As : List Value) (P : mP) (r : Option Value) (P' : mP) : Prop := ∃ F, mcall F d k As P = some (r, P')
theorem Ev.mono {d d' k : Nat} {As : List Value} {P P' : mP} {r : Option Value} (h : Ev d k As P r P') (hd : d ≤ d') : Ev d' k As P r P' := by
  obtain ⟨F, h⟩ := h
  exact ⟨F, mcall_mono (Nat.le_refl F) _ _ _ _ _ _ hd h⟩
def MEv (d : Nat) (scr : Option (List Int32)) (q : mQ) (pc : Nat) (L : List (Nat × Value)) (st : List Value) (P : mP) (cz sz : Nat) (r : Option Value) (P' : mP) : Prop := ∃ F f, mexec (mcall F d) scr q.2.1 q.2.2.1 q.2.2.2.2.2.1 (q.1.name == "<init>") q.2.2.2.1 q.2.2.2.2.2.2.1 q.2.2.2.2.2.2.2 f pc L st P cz sz = some (r, P')
theorem Ev.of {d k : Nat} {q : mQ} {As : List Value} {P P' : mP} {r : Option Value} (hq : mtL[k]? = some q) (hA : As.length ≤ q.2.2.1) (hB : As.all (fun v => mcat v == 1) = true) (h : MEv d none q 0 (mLargs 0 As) [] P 0 0 r P') : Ev (d + 1) k As P r P' := by
  obtain ⟨F, f, h⟩ := h
  refine ⟨max F f, ?_⟩
  unfold mcall
  rw [hq]
  dsimp only
  rw [if_pos ⟨hA, hB⟩]
  exact mexec_mono (fun k As P z => mcall_mono (Nat.le_max_left F f) d d k As P z (Nat.le_refl d)) _ _ _ _ _ _ _ _ _ (Nat.le_max_right F f) h
section ME
variable {d : Nat} {scr : Option (List Int32)} {q : mQ} {pc : Nat} {L : List (Nat × Value)} {st : List Value} {P P' : mP} {cz sz : Nat} {r : Option Value}
theorem me_A {z : Nat × List (Nat × Value) × List Value} (h : mA q.2.1 q.2.2.1 pc L st = some z) (kk : MEv d scr q z.1 z.2.1 z.2.2 P cz sz r P') : MEv d scr q pc L st P cz sz r P' := by
  obtain ⟨F, f, hh⟩ := kk
  refine ⟨F, f + 1, ?_⟩
  unfold mexec
  rw [h]
  exact hh
theorem me_S {z : Nat × List Value} (hA : mA q.2.1 q.2.2.1 pc L st = none) (h : mS q.2.1 pc st = some z) (kk : MEv d scr q z.1 L z.2 P cz sz r P') : MEv d scr q pc L st P cz sz r P' := by
  obtain ⟨F, f, hh⟩ := kk
  refine ⟨F, f + 1, ?_⟩
  unfold mexec
  rw [hA, h]
  exact hh
theorem me_B {z : Nat × List Value × mP} (hA : mA q.2.1 q.2.2.1 pc L st = none) (hS : mS q.2.1 pc st = none) (h : mB q.2.1 q.2.2.2.2.2.1 (q.1.name == "<init>") pc st P = some z) (kk : MEv d scr q z.1 L z.2.1 z.2.2 cz sz r P') : MEv d scr q pc L st P cz sz r P' := by
  obtain ⟨F, f, hh⟩ := kk
  refine ⟨F, f + 1, ?_⟩
  unfold mexec
  rw [hA, hS, h]
  exact hh
theorem me_K {z : Nat × List Value} (hA : mA q.2.1 q.2.2.1 pc L st = none) (hS : mS q.2.1 pc st = none) (hB : mB q.2.1 q.2.2.2.2.2.1 (q.1.name == "<init>") pc st P = none) (hC : ∀ call, mC call q.2.1 q.2.2.2.2.2.1 pc st P = none) (hN : mN q.2.1 q.2.2.2.2.2.1 pc st P = none) (h : mK scr q.2.1 pc st = some z) (kk : MEv d scr q z.1 L z.2 P cz sz r P') : MEv d scr q pc L st P cz sz r P' := by
  obtain ⟨F, f, hh⟩ := kk
  refine ⟨F, f + 1, ?_⟩
  unfold mexec
  rw [hA, hS, hB, hC, hN, h]
  exact hh
theorem me_R (hA : mA q.2.1 q.2.2.1 pc L st = none) (hS : mS q.2.1 pc st = none) (hB : mB q.2.1 q.2.2.2.2.2.1 (q.1.name == "<init>") pc st P = none) (hC : ∀ call, mC call q.2.1 q.2.2.2.2.2.1 pc st P = none) (hN : mN q.2.1 q.2.2.2.2.2.1 pc st P = none) (hK : mK scr q.2.1 pc st = none) (h : mret q.2.1 q.2.2.2.1 pc st = some r) : MEv d scr q pc L st P cz sz r P := by
  refine ⟨0, 1, ?_⟩
  unfold mexec
  rw [hA, hS, hB, hC, hN, hK, h]
  rfl
theorem me_C {P1 : mP} {k : Nat} {As : List Value} {r1 : Option Value} {z : Nat × List Value × mP × Nat × Nat} (hA : mA q.2.1 q.2.2.1 pc L st = none) (hS : mS q.2.1 pc st = none) (hB : mB q.2.1 q.2.2.2.2.2.1 (q.1.name == "<init>") pc st P = none) (hev : Ev d k As P r1 P1) (h : ∀ call : mCall, call k As P = some (r1, P1) → mC call q.2.1 q.2.2.2.2.2.1 pc st P = some z) (hz : cz + z.2.2.2.1 ≤ q.2.2.2.2.2.2.1 ∧ sz + z.2.2.2.2 ≤ q.2.2.2.2.2.2.2) (kk : MEv d scr q z.1 L z.2.1 z.2.2.1 (cz + z.2.2.2.1) (sz + z.2.2.2.2) r P') : MEv d scr q pc L st P cz sz r P' := by
  obtain ⟨F, f, hh⟩ := kk
  obtain ⟨F', h'⟩ := hev
  refine ⟨max F F', f + 1, ?_⟩
  unfold mexec
  rw [hA, hS, hB, h _ (mcall_mono (Nat.le_max_right F F') d d _ _ _ _ (Nat.le_refl d) h')]
  dsimp only
  rw [if_pos hz]
  exact mexec_mono (fun k As P z => mcall_mono (Nat.le_max_left F F') d d k As P z (Nat.le_refl d)) _ _ _ _ _ _ _ _ _ (Nat.le_refl f) hh
end ME
end
section
/-! rows of M for branches, calls, fields of an unknown pool -/
section ME
variable {d : Nat} {scr : Option (List Int32)} {q : mQ} {pc : Nat} {L : List (Nat × Value)} {st rest : List Value} {P P1 P' : mP} {cz sz : Nat} {r r1 : Option Value}
theorem mjmp_t {c : Prop} [Decidable c] {pc t : Nat} {off : Int} {r : List Value} (h : c) (ht : (pc : Int) + off = (t : Int)) : mjmp c pc off r = some (t, r) := by
  unfold mjmp
  rw [if_pos (by omega), if_pos h]
  congr 2
  omega
theorem mjmp_f {c : Prop} [Decidable c] {pc t : Nat} {off : Int} {r : List Value} (h : ¬ c) (ht : (pc : Int) + off = (t : Int)) : mjmp c pc off r = some (pc + 3, r) := by
  unfold mjmp
  rw [if_pos (by omega), if_neg h]
/-- a branch whose condition is not known: both ways -/
theorem me_br {c : Prop} [Decidable c] {off : Int} {t : Nat} (hA : mA q.2.1 q.2.2.1 pc L st = none) (h : mS q.2.1 pc st = mjmp c pc off rest) (ht : (pc : Int) + off = (t : Int)) (kt : c → MEv d scr q t L rest P cz sz r P') (kf : ¬ c → MEv d scr q (pc + 3) L rest P cz sz r P') : MEv d scr q pc L st P cz sz r P' := by
  by_cases hc : c
  · exact me_S (z := (t, rest)) hA (h.trans (mjmp_t hc ht)) (kt hc)
  · exact me_S (z := (pc + 3, rest)) hA (h.trans (mjmp_f hc ht)) (kf hc)
/-- a call on an object -/
theorem me_callv {i kd k a : Nat} {q' : mQ} {As vs : List Value} (hd : decode q.2.1 pc = .ok (.invokevirtual i, 3)) (hc : mcal q.2.2.2.2.2.1 i = some (kd, k)) (hq : mtL[k]? = some q') (hkd : kd < 2) (hn : As.length = q'.2.2.2.2.1) (hP : P[a]? = some (q'.2.2.2.2.2.1, vs)) (ho : q'.2.2.2.2.2.1 < 8) (hcat : (rest.map mcat).sum ≤ 8) (hst : st = As.reverse ++ .ref a :: rest) (hz : q'.2.2.2.2.2.2.1 = 0 ∧ q'.2.2.2.2.2.2.2 = 0) (hcz : cz ≤ q.2.2.2.2.2.2.1 ∧ sz ≤ q.2.2.2.2.2.2.2) (hev : Ev d k (.ref a :: As) P r1 P1) (kk : MEv d scr q (pc + 3) L (r1.toList ++ rest) P1 cz sz r P') : MEv d scr q pc L st P cz sz r P' := by
  refine me_C (z := (pc + 3, r1.toList ++ rest, P1, q'.2.2.2.2.2.2.1, q'.2.2.2.2.2.2.2)) (by unfold mA; rw [hd]) (by unfold mS; rw [hd]) (by unfold mB; rw [hd]) hev (fun call hcall => ?_) (by dsimp only; rw [hz.1, hz.2]; exact hcz) (by dsimp only; rw [hz.1, hz.2]; exact kk)
  have e1 : st.drop q'.2.2.2.2.1 = .ref a :: rest := by rw [hst, ← hn]; simp
  have e2 : (st.take q'.2.2.2.2.1).reverse = As := by rw [hst, ← hn]; simp
  simp only [mC, hd, hc, hq, e1, hP]
  rw [if_pos ⟨hkd, hcat, trivial, ho⟩, e2, hcall]
  rfl
/-- a static call -/
theorem me_calls {i kd k : Nat} {q' : mQ} {As : List Value} (hd : decode q.2.1 pc = .ok (.invokestatic i, 3)) (hc : mcal q.2.2.2.2.2.1 i = some (kd, k)) (hq : mtL[k]? = some q') (hkd : kd = 2 ∨ kd = 3) (hn : As.length = q'.2.2.2.2.1) (hcat : (rest.map mcat).sum ≤ 8) (hst : st = As.reverse ++ rest) (hz : q'.2.2.2.2.2.2.1 = 0 ∧ q'.2.2.2.2.2.2.2 = 0) (hcz : cz ≤ q.2.2.2.2.2.2.1 ∧ sz ≤ q.2.2.2.2.2.2.2) (hev : Ev d k As P r1 P1) (kk : MEv d scr q (pc + 3) L (r1.toList ++ rest) P1 cz sz r P') : MEv d scr q pc L st P cz sz r P' := by
  refine me_C (z := (pc + 3, r1.toList ++ rest, P1, q'.2.2.2.2.2.2.1, q'.2.2.2.2.2.2.2)) (by unfold mA; rw [hd]) (by unfold mS; rw [hd]) (by unfold mB; rw [hd]) hev (fun call hcall => ?_) (by dsimp only; rw [hz.1, hz.2]; exact hcz) (by dsimp only; rw [hz.1, hz.2]; exact kk)
  have e1 : st.drop q'.2.2.2.2.1 = rest := by rw [hst, ← hn]; simp
  have e2 : (st.take q'.2.2.2.2.1).reverse = As := by rw [hst, ← hn]; simp
  have e3 : q'.2.2.2.2.1 ≤ st.length := by rw [hst, ← hn]; simp
  simp only [mC, hd, hc, hq, e1]
  rw [if_pos hkd, if_pos ⟨e3, hcat⟩, e2, hcall]
  rfl
/-- a constructor -/
theorem me_calli {i kd k a : Nat} {q' : mQ} {As : List Value} (hd : decode q.2.1 pc = .ok (.invokespecial i, 3)) (hc : mcal q.2.2.2.2.2.1 i = some (kd, k)) (hq : mtL[k]? = some q') (hkd : kd = 4 ∨ kd = 5) (hn : As.length = q'.2.2.2.2.1) (hret : q'.2.2.2.1 = none) (hcat : (rest.map mcat).sum ≤ 8) (hst : st = As.reverse ++ .ref a :: rest) (hcz : cz + q'.2.2.2.2.2.2.1 ≤ q.2.2.2.2.2.2.1 ∧ sz + q'.2.2.2.2.2.2.2 ≤ q.2.2.2.2.2.2.2) (hev : Ev d k (.ref a :: As) P none P1) (kk : MEv d scr q (pc + 3) L rest P1 (cz + q'.2.2.2.2.2.2.1) (sz + q'.2.2.2.2.2.2.2) r P') : MEv d scr q pc L st P cz sz r P' := by
  refine me_C (z := (pc + 3, rest, P1, q'.2.2.2.2.2.2.1, q'.2.2.2.2.2.2.2)) (by unfold mA; rw [hd]) (by unfold mS; rw [hd]) (by unfold mB; rw [hd]) hev (fun call hcall => ?_) hcz kk
  have e1 : st.drop q'.2.2.2.2.1 = .ref a :: rest := by rw [hst, ← hn]; simp
  have e2 : (st.take q'.2.2.2.2.1).reverse = As := by rw [hst, ← hn]; simp
  have h6 : ¬ kd = 6 := by omega
  simp only [mC, hd, hc, hq, e1]
  rw [if_neg h6, if_pos hkd, if_pos ⟨hret, hcat⟩, e2, hcall]
  rfl
/-- Object's constructor -/
theorem me_obj {i k a : Nat} (hd : decode q.2.1 pc = .ok (.invokespecial i, 3)) (hc : mcal q.2.2.2.2.2.1 i = some (6, k)) (hcat : (rest.map mcat).sum ≤ 8) (hst : st = .ref a :: rest) (hcz : cz ≤ q.2.2.2.2.2.2.1 ∧ sz ≤ q.2.2.2.2.2.2.2) (kk : MEv d scr q (pc + 3) L rest P cz sz r P') : MEv d scr q pc L st P cz sz r P' := by
  obtain ⟨F, f, hh⟩ := kk
  refine ⟨F, f + 1, ?_⟩
  have hC : mC (mcall F d) q.2.1 q.2.2.2.2.2.1 pc st P = some (pc + 3, rest, P, 0, 0) := by
    simp only [mC, hd, hc, hst]
    rw [if_pos trivial, if_pos hcat]
  unfold mexec
  rw [show mA q.2.1 q.2.2.1 pc L st = none by unfold mA; rw [hd], show mS q.2.1 pc st = none by unfold mS; rw [hd], show mB q.2.1 q.2.2.2.2.2.1 (q.1.name == "<init>") pc st P = none by unfold mB; rw [hd], hC]
  try dsimp only
  rw [Nat.add_zero, Nat.add_zero, if_pos hcz]
  exact hh
/-- a new cell -/
theorem me_new {z : Nat × List Value × mP × Nat × Nat} (hA : mA q.2.1 q.2.2.1 pc L st = none) (hS : mS q.2.1 pc st = none) (hB : mB q.2.1 q.2.2.2.2.2.1 (q.1.name == "<init>") pc st P = none) (hC : ∀ call, mC call q.2.1 q.2.2.2.2.2.1 pc st P = none) (h : mN q.2.1 q.2.2.2.2.2.1 pc st P = some z) (hcz : cz + z.2.2.2.1 ≤ q.2.2.2.2.2.2.1 ∧ sz + z.2.2.2.2 ≤ q.2.2.2.2.2.2.2) (kk : MEv d scr q z.1 L z.2.1 z.2.2.1 (cz + z.2.2.2.1) (sz + z.2.2.2.2) r P') : MEv d scr q pc L st P cz sz r P' := by
  obtain ⟨F, f, hh⟩ := kk
  refine ⟨F, f + 1, ?_⟩
  unfold mexec
  rw [hA, hS, hB, hC, h]
  try dsimp only
  rw [if_pos hcz]
  exact hh
/-- a field's value, its object known -/
theorem me_get {i ci k a : Nat} {nest : Bool} {vs : List Value} {v : Value} (hd : decode q.2.1 pc = .ok (.getfield i, 3)) (hf : mfld q.2.2.2.2.2.1 i = some (ci, k, nest)) (ha : P[a]? = some (ci, vs)) (hv : vs[k]? = some v) (kk : MEv d scr q (pc + 3) L (v :: rest) P cz sz r P') : MEv d scr q pc L (.ref a :: rest) P cz sz r P' := by
  refine me_B (z := (pc + 3, v :: rest, P)) (by unfold mA; rw [hd]) (by unfold mS; rw [hd]) ?_ kk
  simp only [mB, hd, hf, ha, hv, if_true, Option.map_some]
theorem me_put {i ci k a : Nat} {nest : Bool} {vs : List Value} {v : Value} (hd : decode q.2.1 pc = .ok (.putfield i, 3)) (hf : mfld q.2.2.2.2.2.1 i = some (ci, k, nest)) (ha : P[a]? = some (ci, vs)) (hl : k < vs.length) (hfit : mfit (cY ci k) v = true) (hfin : (cT ci k).2.2.2 = false ∨ (nest = false ∧ (q.1.name == "<init>") = true ∧ ci = q.2.2.2.2.2.1)) (kk : MEv d scr q (pc + 3) L rest (P.set a (ci, vs.set k v)) cz sz r P') : MEv d scr q pc L (v :: .ref a :: rest) P cz sz r P' := by
  refine me_B (z := (pc + 3, rest, P.set a (ci, vs.set k v))) (by unfold mA; rw [hd]) (by unfold mS; rw [hd]) ?_ kk
  simp only [mB, hd, hf, ha]
  exact if_pos ⟨trivial, hl, hfit, hfin⟩
theorem me_iald {a : Nat} {vs : List Value} {i : Int32} (hd : decode q.2.1 pc = .ok (.iaload, 1)) (ha : P[a]? = some (8, vs)) (hi : ¬ (i < 0 ∨ vs.length ≤ i.toNatClampNeg)) (kk : MEv d scr q (pc + 1) L (.int (mint (vs.getD i.toNatClampNeg .null)) :: rest) P cz sz r P') : MEv d scr q pc L (.int i :: .ref a :: rest) P cz sz r P' := by
  refine me_B (z := (pc + 1, _, P)) (by unfold mA; rw [hd]) (by unfold mS; rw [hd]) ?_ kk
  simp only [mB, hd, ha]
  exact if_pos ⟨trivial, hi⟩
theorem me_iast {a : Nat} {vs : List Value} {i x : Int32} (hd : decode q.2.1 pc = .ok (.iastore, 1)) (ha : P[a]? = some (8, vs)) (hi : ¬ (i < 0 ∨ vs.length ≤ i.toNatClampNeg)) (kk : MEv d scr q (pc + 1) L rest (P.set a (8, vs.set i.toNatClampNeg (.int x))) cz sz r P') : MEv d scr q pc L (.int x :: .int i :: .ref a :: rest) P cz sz r P' := by
  refine me_B (z := (pc + 1, _, _)) (by unfold mA; rw [hd]) (by unfold mS; rw [hd]) ?_ kk
  simp only [mB, hd, ha]
  exact if_pos ⟨trivial, hi⟩
theorem me_alen {a kd : Nat} {vs : List Value} (hd : decode q.2.1 pc = .ok (.arraylength, 1)) (ha : P[a]? = some (kd, vs)) (hk : kd = 8 ∨ kd = 9 ∨ kd = 10 ∨ kd = 11) (kk : MEv d scr q (pc + 1) L (.int (Int32.ofNat vs.length) :: rest) P cz sz r P') : MEv d scr q pc L (.ref a :: rest) P cz sz r P' := by
  refine me_B (z := (pc + 1, _, P)) (by unfold mA; rw [hd]) (by unfold mS; rw [hd]) ?_ kk
  simp only [mB, hd, ha]
  exact if_pos hk
end ME
end
section
/-! the same with a post: 'EvP', 'MEvP' -/
def EvP (d k : Nat) (As : List Value) (P : mP) (Φ : Option Value → mP → Prop) : Prop := ∃ r P', Φ r P' ∧ Ev d k As P r P'
def MEvP (d : Nat) (scr : Option (List Int32)) (q : mQ) (pc : Nat) (L : List (Nat × Value)) (st : List Value) (P : mP) (cz sz : Nat) (Φ : Option Value → mP → Prop) : Prop := ∃ r P', Φ r P' ∧ MEv d scr q pc L st P cz sz r P'
theorem EvP.mono {d d' k : Nat} {As : List Value} {P : mP} {Φ : Option Value → mP → Prop} (hd : d ≤ d') (h : EvP d k As P Φ) : EvP d' k As P Φ := by
  obtain ⟨r, P', h1, h2⟩ := h
  exact ⟨r, P', h1, h2.mono hd⟩
theorem EvP.post {d k : Nat} {As : List Value} {P : mP} {Φ Ψ : Option Value → mP → Prop} (h : EvP d k As P Φ) (hi : ∀ r P', Φ r P' → Ψ r P') : EvP d k As P Ψ := by
  obtain ⟨r, P', h1, h2⟩ := h
  exact ⟨r, P', hi r P' h1, h2⟩
theorem EvP.of {d k : Nat} {q : mQ} {As : List Value} {P : mP} {Φ : Option Value → mP → Prop} (hq : mtL[k]? = some q) (hA : As.length ≤ q.2.2.1) (hB : As.all (fun v => mcat v == 1) = true) (h : MEvP d none q 0 (mLargs 0 As) [] P 0 0 Φ) : EvP (d + 1) k As P Φ := by
  obtain ⟨r, P', h1, h2⟩ := h
  exact ⟨r, P', h1, Ev.of hq hA hB h2⟩
theorem mset_ne {P : mP} {a j : Nat} {c : Option (Nat × List Value)} {x : Nat × List Value} (h : P[j]? = c) (hn : a ≠ j) : (P.set a x)[j]? = c := by rw [List.getElem?_set_ne hn]; exact h
theorem mset_eq {P : mP} {a : Nat} {c x : Nat × List Value} (h : P[a]? = some c) : (P.set a x)[a]? = some x := List.getElem?_set_self (List.getElem?_eq_some_iff.mp h).1
section MP
variable {d : Nat} {scr : Option (List Int32)} {q : mQ} {pc : Nat} {L : List (Nat × Value)} {st rest : List Value} {P P1 : mP} {cz sz : Nat} {Φ : Option Value → mP → Prop}
theorem mp_A {z : Nat × List (Nat × Value) × List Value} (h : mA q.2.1 q.2.2.1 pc L st = some z) (kk : MEvP d scr q z.1 z.2.1 z.2.2 P cz sz Φ) : MEvP d scr q pc L st P cz sz Φ := by
  obtain ⟨r, P', h1, h2⟩ := kk
  exact ⟨r, P', h1, me_A h h2⟩
theorem mp_S {z : Nat × List Value} (hA : mA q.2.1 q.2.2.1 pc L st = none) (h : mS q.2.1 pc st = some z) (kk : MEvP d scr q z.1 L z.2 P cz sz Φ) : MEvP d scr q pc L st P cz sz Φ := by
  obtain ⟨r, P', h1, h2⟩ := kk
  exact ⟨r, P', h1, me_S hA h h2⟩
theorem mp_B {z : Nat × List Value × mP} (hA : mA q.2.1 q.2.2.1 pc L st = none) (hS : mS q.2.1 pc st = none) (h : mB q.2.1 q.2.2.2.2.2.1 (q.1.name == "<init>") pc st P = some z) (kk : MEvP d scr q z.1 L z.2.1 z.2.2 cz sz Φ) : MEvP d scr q pc L st P cz sz Φ := by
  obtain ⟨r, P', h1, h2⟩ := kk
  exact ⟨r, P', h1, me_B hA hS h h2⟩
theorem mp_K {z : Nat × List Value} (hA : mA q.2.1 q.2.2.1 pc L st = none) (hS : mS q.2.1 pc st = none) (hB : mB q.2.1 q.2.2.2.2.2.1 (q.1.name == "<init>") pc st P = none) (hC : ∀ call, mC call q.2.1 q.2.2.2.2.2.1 pc st P = none) (hN : mN q.2.1 q.2.2.2.2.2.1 pc st P = none) (h : mK scr q.2.1 pc st = some z) (kk : MEvP d scr q z.1 L z.2 P cz sz Φ) : MEvP d scr q pc L st P cz sz Φ := by
  obtain ⟨r, P', h1, h2⟩ := kk
  exact ⟨r, P', h1, me_K hA hS hB hC hN h h2⟩
theorem mp_R {r : Option Value} (hΦ : Φ r P) (hA : mA q.2.1 q.2.2.1 pc L st = none) (hS : mS q.2.1 pc st = none) (hB : mB q.2.1 q.2.2.2.2.2.1 (q.1.name == "<init>") pc st P = none) (hC : ∀ call, mC call q.2.1 q.2.2.2.2.2.1 pc st P = none) (hN : mN q.2.1 q.2.2.2.2.2.1 pc st P = none) (hK : mK scr q.2.1 pc st = none) (h : mret q.2.1 q.2.2.2.1 pc st = some r) : MEvP d scr q pc L st P cz sz Φ := ⟨r, P, hΦ, me_R hA hS hB hC hN hK h⟩
theorem mp_br {c : Prop} [Decidable c] {off : Int} {t : Nat} (hA : mA q.2.1 q.2.2.1 pc L st = none) (h : mS q.2.1 pc st = mjmp c pc off rest) (ht : (pc : Int) + off = (t : Int)) (kt : c → MEvP d scr q t L rest P cz sz Φ) (kf : ¬ c → MEvP d scr q (pc + 3) L rest P cz sz Φ) : MEvP d scr q pc L st P cz sz Φ := by
  by_cases hc : c
  · exact mp_S (z := (t, rest)) hA (h.trans (mjmp_t hc ht)) (kt hc)
  · exact mp_S (z := (pc + 3, rest)) hA (h.trans (mjmp_f hc ht)) (kf hc)
theorem mp_brt {c : Prop} [Decidable c] {off : Int} {t : Nat} (hc : c) (hA : mA q.2.1 q.2.2.1 pc L st = none) (h : mS q.2.1 pc st = mjmp c pc off rest) (ht : (pc : Int) + off = (t : Int)) (kt : MEvP d scr q t L rest P cz sz Φ) : MEvP d scr q pc L st P cz sz Φ := mp_S (z := (t, rest)) hA (h.trans (mjmp_t hc ht)) kt
theorem mp_brf {c : Prop} [Decidable c] {off : Int} {t : Nat} (hc : ¬ c) (hA : mA q.2.1 q.2.2.1 pc L st = none) (h : mS q.2.1 pc st = mjmp c pc off rest) (ht : (pc : Int) + off = (t : Int)) (kf : MEvP d scr q (pc + 3) L rest P cz sz Φ) : MEvP d scr q pc L st P cz sz Φ := mp_S (z := (pc + 3, rest)) hA (h.trans (mjmp_f hc ht)) kf
theorem mp_callv {i kd k a : Nat} {q' : mQ} {As vs : List Value} {Ψ : Option Value → mP → Prop} (hd : decode q.2.1 pc = .ok (.invokevirtual i, 3)) (hc : mcal q.2.2.2.2.2.1 i = some (kd, k)) (hq : mtL[k]? = some q') (hkd : kd < 2) (hn : As.length = q'.2.2.2.2.1) (hP : P[a]? = some (q'.2.2.2.2.2.1, vs)) (ho : q'.2.2.2.2.2.1 < 8) (hcat : (rest.map mcat).sum ≤ 8) (hst : st = As.reverse ++ .ref a :: rest) (hz : q'.2.2.2.2.2.2.1 = 0 ∧ q'.2.2.2.2.2.2.2 = 0) (hcz : cz ≤ q.2.2.2.2.2.2.1 ∧ sz ≤ q.2.2.2.2.2.2.2) (hev : EvP d k (.ref a :: As) P Ψ) (kk : ∀ (r1 : Option Value) (P1 : mP), Ψ r1 P1 → MEvP d scr q (pc + 3) L (r1.toList ++ rest) P1 cz sz Φ) : MEvP d scr q pc L st P cz sz Φ := by
  obtain ⟨r1, P1, g1, g2⟩ := hev
  obtain ⟨r, P', h1, h2⟩ := kk r1 P1 g1
  exact ⟨r, P', h1, me_callv hd hc hq hkd hn hP ho hcat hst hz hcz g2 h2⟩
theorem mp_calls {i kd k : Nat} {q' : mQ} {As : List Value} {Ψ : Option Value → mP → Prop} (hd : decode q.2.1 pc = .ok (.invokestatic i, 3)) (hc : mcal q.2.2.2.2.2.1 i = some (kd, k)) (hq : mtL[k]? = some q') (hkd : kd = 2 ∨ kd = 3) (hn : As.length = q'.2.2.2.2.1) (hcat : (rest.map mcat).sum ≤ 8) (hst : st = As.reverse ++ rest) (hz : q'.2.2.2.2.2.2.1 = 0 ∧ q'.2.2.2.2.2.2.2 = 0) (hcz : cz ≤ q.2.2.2.2.2.2.1 ∧ sz ≤ q.2.2.2.2.2.2.2) (hev : EvP d k As P Ψ) (kk : ∀ (r1 : Option Value) (P1 : mP), Ψ r1 P1 → MEvP d scr q (pc + 3) L (r1.toList ++ rest) P1 cz sz Φ) : MEvP d scr q pc L st P cz sz Φ := by
  obtain ⟨r1, P1, g1, g2⟩ := hev
  obtain ⟨r, P', h1, h2⟩ := kk r1 P1 g1
  exact ⟨r, P', h1, me_calls hd hc hq hkd hn hcat hst hz hcz g2 h2⟩
theorem mp_calli {i kd k a : Nat} {q' : mQ} {As : List Value} {Ψ : mP → Prop} (hd : decode q.2.1 pc = .ok (.invokespecial i, 3)) (hc : mcal q.2.2.2.2.2.1 i = some (kd, k)) (hq : mtL[k]? = some q') (hkd : kd = 4 ∨ kd = 5) (hn : As.length = q'.2.2.2.2.1) (hret : q'.2.2.2.1 = none) (hcat : (rest.map mcat).sum ≤ 8) (hst : st = As.reverse ++ .ref a :: rest) (hcz : cz + q'.2.2.2.2.2.2.1 ≤ q.2.2.2.2.2.2.1 ∧ sz + q'.2.2.2.2.2.2.2 ≤ q.2.2.2.2.2.2.2) (hev : EvP d k (.ref a :: As) P (fun r1 P1 => r1 = none ∧ Ψ P1)) (kk : ∀ (P1 : mP), Ψ P1 → MEvP d scr q (pc + 3) L rest P1 (cz + q'.2.2.2.2.2.2.1) (sz + q'.2.2.2.2.2.2.2) Φ) : MEvP d scr q pc L st P cz sz Φ := by
  obtain ⟨r1, P1, ⟨rfl, g1⟩, g2⟩ := hev
  obtain ⟨r, P', h1, h2⟩ := kk P1 g1
  exact ⟨r, P', h1, me_calli hd hc hq hkd hn hret hcat hst hcz g2 h2⟩
theorem mp_obj {i k a : Nat} (hd : decode q.2.1 pc = .ok (.invokespecial i, 3)) (hc : mcal q.2.2.2.2.2.1 i = some (6, k)) (hcat : (rest.map mcat).sum ≤ 8) (hst : st = .ref a :: rest) (hcz : cz ≤ q.2.2.2.2.2.2.1 ∧ sz ≤ q.2.2.2.2.2.2.2) (kk : MEvP d scr q (pc + 3) L rest P cz sz Φ) : MEvP d scr q pc L st P cz sz Φ := by
  obtain ⟨r, P', h1, h2⟩ := kk
  exact ⟨r, P', h1, me_obj hd hc hcat hst hcz h2⟩
theorem mp_new {z : Nat × List Value × mP × Nat × Nat} (hA : mA q.2.1 q.2.2.1 pc L st = none) (hS : mS q.2.1 pc st = none) (hB : mB q.2.1 q.2.2.2.2.2.1 (q.1.name == "<init>") pc st P = none) (hC : ∀ call, mC call q.2.1 q.2.2.2.2.2.1 pc st P = none) (h : mN q.2.1 q.2.2.2.2.2.1 pc st P = some z) (hcz : cz + z.2.2.2.1 ≤ q.2.2.2.2.2.2.1 ∧ sz + z.2.2.2.2 ≤ q.2.2.2.2.2.2.2) (kk : MEvP d scr q z.1 L z.2.1 z.2.2.1 (cz + z.2.2.2.1) (sz + z.2.2.2.2) Φ) : MEvP d scr q pc L st P cz sz Φ := by
  obtain ⟨r, P', h1, h2⟩ := kk
  exact ⟨r, P', h1, me_new hA hS hB hC h hcz h2⟩
theorem mp_get {i ci k a : Nat} {nest : Bool} {vs : List Value} {v : Value} (hd : decode q.2.1 pc = .ok (.getfield i, 3)) (hf : mfld q.2.2.2.2.2.1 i = some (ci, k, nest)) (ha : P[a]? = some (ci, vs)) (hv : vs[k]? = some v) (kk : MEvP d scr q (pc + 3) L (v :: rest) P cz sz Φ) : MEvP d scr q pc L (.ref a :: rest) P cz sz Φ := by
  obtain ⟨r, P', h1, h2⟩ := kk
  exact ⟨r, P', h1, me_get hd hf ha hv h2⟩
theorem mp_put {i ci k a : Nat} {nest : Bool} {vs : List Value} {v : Value} (hd : decode q.2.1 pc = .ok (.putfield i, 3)) (hf : mfld q.2.2.2.2.2.1 i = some (ci, k, nest)) (ha : P[a]? = some (ci, vs)) (hl : k < vs.length) (hfit : mfit (cY ci k) v = true) (hfin : (cT ci k).2.2.2 = false ∨ (nest = false ∧ (q.1.name == "<init>") = true ∧ ci = q.2.2.2.2.2.1)) (kk : MEvP d scr q (pc + 3) L rest (P.set a (ci, vs.set k v)) cz sz Φ) : MEvP d scr q pc L (v :: .ref a :: rest) P cz sz Φ := by
  obtain ⟨r, P', h1, h2⟩ := kk
  exact ⟨r, P', h1, me_put hd hf ha hl hfit hfin h2⟩
theorem mp_iald {a : Nat} {vs : List Value} {i : Int32} (hd : decode q.2.1 pc = .ok (.iaload, 1)) (ha : P[a]? = some (8, vs)) (hi : ¬ (i < 0 ∨ vs.length ≤ i.toNatClampNeg)) (kk : MEvP d scr q (pc + 1) L (.int (mint (vs.getD i.toNatClampNeg .null)) :: rest) P cz sz Φ) : MEvP d scr q pc L (.int i :: .ref a :: rest) P cz sz Φ := by
  obtain ⟨r, P', h1, h2⟩ := kk
  exact ⟨r, P', h1, me_iald hd ha hi h2⟩
theorem mp_iast {a : Nat} {vs : List Value} {i x : Int32} (hd : decode q.2.1 pc = .ok (.iastore, 1)) (ha : P[a]? = some (8, vs)) (hi : ¬ (i < 0 ∨ vs.length ≤ i.toNatClampNeg)) (kk : MEvP d scr q (pc + 1) L rest (P.set a (8, vs.set i.toNatClampNeg (.int x))) cz sz Φ) : MEvP d scr q pc L (.int x :: .int i :: .ref a :: rest) P cz sz Φ := by
  obtain ⟨r, P', h1, h2⟩ := kk
  exact ⟨r, P', h1, me_iast hd ha hi h2⟩
theorem mp_alen {a kd : Nat} {vs : List Value} (hd : decode q.2.1 pc = .ok (.arraylength, 1)) (ha : P[a]? = some (kd, vs)) (hk : kd = 8 ∨ kd = 9 ∨ kd = 10 ∨ kd = 11) (kk : MEvP d scr q (pc + 1) L (.int (Int32.ofNat vs.length) :: rest) P cz sz Φ) : MEvP d scr q pc L (.ref a :: rest) P cz sz Φ := by
  obtain ⟨r, P', h1, h2⟩ := kk
  exact ⟨r, P', h1, me_alen hd ha hk h2⟩
end MP
end
section
/-! M's groups, an instruction a row -/
section AR
variable {cc : ByteArray} {nL pc : Nat} {L L' : List (Nat × Value)} {st r : List Value}
theorem a_iload_n {k : Fin 4} {x : Int32} (hd : decode cc pc = .ok (.iload_n k, 1)) (hg : mget L k = some (.int x)) : mA cc nL pc L st = some (pc + 1, L, .int x :: st) := by simp only [mA, hd, mgI, hg, Option.map_some]
theorem a_iload {i : Nat} {x : Int32} (hd : decode cc pc = .ok (.iload i, 2)) (hg : mget L i = some (.int x)) : mA cc nL pc L st = some (pc + 2, L, .int x :: st) := by simp only [mA, hd, mgI, hg, Option.map_some]
theorem a_aload_n {k : Fin 4} {x : Nat} (hd : decode cc pc = .ok (.aload_n k, 1)) (hg : mget L k = some (.ref x)) : mA cc nL pc L st = some (pc + 1, L, .ref x :: st) := by simp only [mA, hd, hg]
theorem a_aload_nN {k : Fin 4} (hd : decode cc pc = .ok (.aload_n k, 1)) (hg : mget L k = some .null) : mA cc nL pc L st = some (pc + 1, L, .null :: st) := by simp only [mA, hd, hg]
theorem a_aload_nT {k : Fin 4} {z : Int64} (hd : decode cc pc = .ok (.aload_n k, 1)) (hg : mget L k = some (.long z)) : mA cc nL pc L st = some (pc + 1, L, .long z :: st) := by simp only [mA, hd, hg]
theorem a_aload {i : Nat} {x : Nat} (hd : decode cc pc = .ok (.aload i, 2)) (hg : mget L i = some (.ref x)) : mA cc nL pc L st = some (pc + 2, L, .ref x :: st) := by simp only [mA, hd, hg]
theorem a_aloadN {i : Nat} (hd : decode cc pc = .ok (.aload i, 2)) (hg : mget L i = some .null) : mA cc nL pc L st = some (pc + 2, L, .null :: st) := by simp only [mA, hd, hg]
theorem a_iconst {n : Int} {v : Int32} (hd : decode cc pc = .ok (.iconst n, 1)) (hv : Int32.ofInt n = v) : mA cc nL pc L st = some (pc + 1, L, .int v :: st) := by simp only [mA, hd, hv]
theorem a_bipush {n : Int} {v : Int32} (hd : decode cc pc = .ok (.bipush n, 2)) (hv : (Int8.ofInt n).toInt32 = v) : mA cc nL pc L st = some (pc + 2, L, .int v :: st) := by simp only [mA, hd, hv]
theorem a_sipush {n : Int} {v : Int32} (hd : decode cc pc = .ok (.sipush n, 3)) (hv : (Int16.ofInt n).toInt32 = v) : mA cc nL pc L st = some (pc + 3, L, .int v :: st) := by simp only [mA, hd, hv]
theorem a_null (hd : decode cc pc = .ok (.aconst_null, 1)) : mA cc nL pc L st = some (pc + 1, L, .null :: st) := by simp only [mA, hd]
theorem a_istore_n {k : Fin 4} {x : Int32} (hd : decode cc pc = .ok (.istore_n k, 1)) (hk : (k : Nat) < nL) (hL : mput k (.int x) L = L') : mA cc nL pc L (.int x :: r) = some (pc + 1, L', r) := by simp only [mA, hd, hL]; rw [if_pos hk]
theorem a_istore {i : Nat} {x : Int32} (hd : decode cc pc = .ok (.istore i, 2)) (hk : i < nL) (hL : mput i (.int x) L = L') : mA cc nL pc L (.int x :: r) = some (pc + 2, L', r) := by simp only [mA, hd, hL]; rw [if_pos hk]
theorem a_astore_n {k : Fin 4} {x : Nat} (hd : decode cc pc = .ok (.astore_n k, 1)) (hk : (k : Nat) < nL) (hL : mput k (.ref x) L = L') : mA cc nL pc L (.ref x :: r) = some (pc + 1, L', r) := by simp only [mA, hd, hL]; rw [if_pos hk]
theorem a_astore_nN {k : Fin 4} (hd : decode cc pc = .ok (.astore_n k, 1)) (hk : (k : Nat) < nL) (hL : mput k .null L = L') : mA cc nL pc L (.null :: r) = some (pc + 1, L', r) := by simp only [mA, hd, hL]; rw [if_pos hk]
theorem a_astore {i : Nat} {x : Nat} (hd : decode cc pc = .ok (.astore i, 2)) (hk : i < nL) (hL : mput i (.ref x) L = L') : mA cc nL pc L (.ref x :: r) = some (pc + 2, L', r) := by simp only [mA, hd, hL]; rw [if_pos hk]
theorem a_astoreN {i : Nat} (hd : decode cc pc = .ok (.astore i, 2)) (hk : i < nL) (hL : mput i .null L = L') : mA cc nL pc L (.null :: r) = some (pc + 2, L', r) := by simp only [mA, hd, hL]; rw [if_pos hk]
theorem a_iinc {i : Nat} {n : Int} {x v : Int32} (hd : decode cc pc = .ok (.iinc i n, 3)) (hk : i < nL) (hg : mget L i = some (.int x)) (hv : x + Int32.ofInt n = v) (hL : mput i (.int v) L = L') : mA cc nL pc L st = some (pc + 3, L', st) := by
  simp only [mA, hd, mgI, hg, Option.map_some, hv, hL]
  rw [if_pos hk]
theorem a_goto {off : Int} {t : Nat} (hd : decode cc pc = .ok (.goto off, 3)) (ht : (pc : Int) + off = (t : Int)) : mA cc nL pc L st = some (t, L, st) := by
  simp only [mA, hd]
  rw [if_pos (by omega)]
  congr 2
  omega
theorem s_iadd {x y v : Int32} (hd : decode cc pc = .ok (.iadd, 1)) (hv : x + y = v) : mA cc nL pc L (.int y :: .int x :: r) = none ∧ mS cc pc (.int y :: .int x :: r) = some (pc + 1, .int v :: r) := ⟨by simp only [mA, hd], by simp only [mS, hd, mbin, hv]⟩
theorem s_isub {x y v : Int32} (hd : decode cc pc = .ok (.isub, 1)) (hv : x - y = v) : mA cc nL pc L (.int y :: .int x :: r) = none ∧ mS cc pc (.int y :: .int x :: r) = some (pc + 1, .int v :: r) := ⟨by simp only [mA, hd], by simp only [mS, hd, mbin, hv]⟩
theorem s_imul {x y v : Int32} (hd : decode cc pc = .ok (.imul, 1)) (hv : x * y = v) : mA cc nL pc L (.int y :: .int x :: r) = none ∧ mS cc pc (.int y :: .int x :: r) = some (pc + 1, .int v :: r) := ⟨by simp only [mA, hd], by simp only [mS, hd, mbin, hv]⟩
theorem s_iand {x y v : Int32} (hd : decode cc pc = .ok (.iand, 1)) (hv : x &&& y = v) : mA cc nL pc L (.int y :: .int x :: r) = none ∧ mS cc pc (.int y :: .int x :: r) = some (pc + 1, .int v :: r) := ⟨by simp only [mA, hd], by simp only [mS, hd, mbin, hv]⟩
theorem s_ishl {x y v : Int32} (hd : decode cc pc = .ok (.ishl, 1)) (hv : x <<< (y &&& 31) = v) : mA cc nL pc L (.int y :: .int x :: r) = none ∧ mS cc pc (.int y :: .int x :: r) = some (pc + 1, .int v :: r) := ⟨by simp only [mA, hd], by simp only [mS, hd, mbin, hv]⟩
theorem s_ishr {x y v : Int32} (hd : decode cc pc = .ok (.ishr, 1)) (hv : x >>> (y &&& 31) = v) : mA cc nL pc L (.int y :: .int x :: r) = none ∧ mS cc pc (.int y :: .int x :: r) = some (pc + 1, .int v :: r) := ⟨by simp only [mA, hd], by simp only [mS, hd, mbin, hv]⟩
theorem s_idiv {x y v : Int32} (hd : decode cc pc = .ok (.idiv, 1)) (hy : ¬ y = 0) (hv : x / y = v) : mA cc nL pc L (.int y :: .int x :: r) = none ∧ mS cc pc (.int y :: .int x :: r) = some (pc + 1, .int v :: r) := ⟨by simp only [mA, hd], by simp only [mS, hd, mbinD, hv]; rw [if_neg hy]⟩
theorem s_irem {x y v : Int32} (hd : decode cc pc = .ok (.irem, 1)) (hy : ¬ y = 0) (hv : x - x / y * y = v) : mA cc nL pc L (.int y :: .int x :: r) = none ∧ mS cc pc (.int y :: .int x :: r) = some (pc + 1, .int v :: r) := ⟨by simp only [mA, hd], by simp only [mS, hd, mbinD, hv]; rw [if_neg hy]⟩
theorem s_ineg {x v : Int32} (hd : decode cc pc = .ok (.ineg, 1)) (hv : -x = v) : mA cc nL pc L (.int x :: r) = none ∧ mS cc pc (.int x :: r) = some (pc + 1, .int v :: r) := ⟨by simp only [mA, hd], by simp only [mS, hd, hv]⟩
theorem s_dup {v : Value} (hd : decode cc pc = .ok (.dup, 1)) (hv : mcat v = 1) : mA cc nL pc L (v :: r) = none ∧ mS cc pc (v :: r) = some (pc + 1, v :: v :: r) := ⟨by simp only [mA, hd], by simp only [mS, hd]; rw [if_pos hv]⟩
theorem s_pop {v : Value} (hd : decode cc pc = .ok (.pop, 1)) (hv : mcat v = 1) : mA cc nL pc L (v :: r) = none ∧ mS cc pc (v :: r) = some (pc + 1, r) := ⟨by simp only [mA, hd], by simp only [mS, hd]; rw [if_pos hv]⟩
theorem s_dup2 {v w : Value} (hd : decode cc pc = .ok (.dup2, 1)) (hv : mcat v = 1 ∧ mcat w = 1) : mA cc nL pc L (v :: w :: r) = none ∧ mS cc pc (v :: w :: r) = some (pc + 1, v :: w :: v :: w :: r) := ⟨by simp only [mA, hd], by simp only [mS, hd]; rw [if_pos hv]⟩
theorem s_ifnullR {a : Nat} {off : Int} (hd : decode cc pc = .ok (.ifnull off, 3)) : mA cc nL pc L (.ref a :: r) = none ∧ mS cc pc (.ref a :: r) = some (pc + 3, r) := ⟨by simp only [mA, hd], by simp only [mS, hd]⟩
theorem s_ifnullN {off : Int} {t : Nat} (hd : decode cc pc = .ok (.ifnull off, 3)) (ht : (pc : Int) + off = (t : Int)) : mA cc nL pc L (.null :: r) = none ∧ mS cc pc (.null :: r) = some (t, r) := ⟨by simp only [mA, hd], by
  simp only [mS, hd]
  rw [if_pos (by omega)]
  congr 2
  omega⟩
theorem s_ifnonnullN {off : Int} (hd : decode cc pc = .ok (.ifnonnull off, 3)) : mA cc nL pc L (.null :: r) = none ∧ mS cc pc (.null :: r) = some (pc + 3, r) := ⟨by simp only [mA, hd], by simp only [mS, hd]⟩
theorem s_ifnonnullR {a : Nat} {off : Int} {t : Nat} (hd : decode cc pc = .ok (.ifnonnull off, 3)) (ht : (pc : Int) + off = (t : Int)) : mA cc nL pc L (.ref a :: r) = none ∧ mS cc pc (.ref a :: r) = some (t, r) := ⟨by simp only [mA, hd], by
  simp only [mS, hd]
  rw [if_pos (by omega)]
  congr 2
  omega⟩
theorem j_if_eq {x : Int32} {off : Int} (hd : decode cc pc = .ok (.ifCond .eq off, 3)) : mA cc nL pc L (.int x :: r) = none ∧ mS cc pc (.int x :: r) = mjmp (x = 0) pc off r := ⟨by simp only [mA, hd], by simp only [mS, hd, mif1]⟩
theorem j_if_ne {x : Int32} {off : Int} (hd : decode cc pc = .ok (.ifCond .ne off, 3)) : mA cc nL pc L (.int x :: r) = none ∧ mS cc pc (.int x :: r) = mjmp (¬ x = 0) pc off r := ⟨by simp only [mA, hd], by simp only [mS, hd, mif1]⟩
theorem j_if_lt {x : Int32} {off : Int} (hd : decode cc pc = .ok (.ifCond .lt off, 3)) : mA cc nL pc L (.int x :: r) = none ∧ mS cc pc (.int x :: r) = mjmp (x < 0) pc off r := ⟨by simp only [mA, hd], by simp only [mS, hd, mif1]⟩
theorem j_if_ge {x : Int32} {off : Int} (hd : decode cc pc = .ok (.ifCond .ge off, 3)) : mA cc nL pc L (.int x :: r) = none ∧ mS cc pc (.int x :: r) = mjmp (0 ≤ x) pc off r := ⟨by simp only [mA, hd], by simp only [mS, hd, mif1]⟩
theorem j_if_gt {x : Int32} {off : Int} (hd : decode cc pc = .ok (.ifCond .gt off, 3)) : mA cc nL pc L (.int x :: r) = none ∧ mS cc pc (.int x :: r) = mjmp (0 < x) pc off r := ⟨by simp only [mA, hd], by simp only [mS, hd, mif1]⟩
theorem j_if_le {x : Int32} {off : Int} (hd : decode cc pc = .ok (.ifCond .le off, 3)) : mA cc nL pc L (.int x :: r) = none ∧ mS cc pc (.int x :: r) = mjmp (x ≤ 0) pc off r := ⟨by simp only [mA, hd], by simp only [mS, hd, mif1]⟩
theorem j_icmp_eq {x y : Int32} {off : Int} (hd : decode cc pc = .ok (.if_icmp .eq off, 3)) : mA cc nL pc L (.int y :: .int x :: r) = none ∧ mS cc pc (.int y :: .int x :: r) = mjmp (x = y) pc off r := ⟨by simp only [mA, hd], by simp only [mS, hd, mif2]⟩
theorem j_icmp_ne {x y : Int32} {off : Int} (hd : decode cc pc = .ok (.if_icmp .ne off, 3)) : mA cc nL pc L (.int y :: .int x :: r) = none ∧ mS cc pc (.int y :: .int x :: r) = mjmp (¬ x = y) pc off r := ⟨by simp only [mA, hd], by simp only [mS, hd, mif2]⟩
theorem j_icmp_lt {x y : Int32} {off : Int} (hd : decode cc pc = .ok (.if_icmp .lt off, 3)) : mA cc nL pc L (.int y :: .int x :: r) = none ∧ mS cc pc (.int y :: .int x :: r) = mjmp (x < y) pc off r := ⟨by simp only [mA, hd], by simp only [mS, hd, mif2]⟩
theorem j_icmp_ge {x y : Int32} {off : Int} (hd : decode cc pc = .ok (.if_icmp .ge off, 3)) : mA cc nL pc L (.int y :: .int x :: r) = none ∧ mS cc pc (.int y :: .int x :: r) = mjmp (y ≤ x) pc off r := ⟨by simp only [mA, hd], by simp only [mS, hd, mif2]⟩
theorem j_icmp_gt {x y : Int32} {off : Int} (hd : decode cc pc = .ok (.if_icmp .gt off, 3)) : mA cc nL pc L (.int y :: .int x :: r) = none ∧ mS cc pc (.int y :: .int x :: r) = mjmp (y < x) pc off r := ⟨by simp only [mA, hd], by simp only [mS, hd, mif2]⟩
theorem j_icmp_le {x y : Int32} {off : Int} (hd : decode cc pc = .ok (.if_icmp .le off, 3)) : mA cc nL pc L (.int y :: .int x :: r) = none ∧ mS cc pc (.int y :: .int x :: r) = mjmp (x ≤ y) pc off r := ⟨by simp only [mA, hd], by simp only [mS, hd, mif2]⟩
theorem s_tabIn {dflt lo hi : Int} {offs : Array Int} {len t : Nat} {x : Int32} {off : Int} (hd : decode cc pc = .ok (.tableswitch dflt lo hi offs, len)) (h1 : ¬ (x.toInt < lo ∨ hi < x.toInt)) (ho : offs[(x.toInt - lo).toNat]? = some off) (ht : (pc : Int) + off = (t : Int)) : mA cc nL pc L (.int x :: r) = none ∧ mS cc pc (.int x :: r) = some (t, r) := ⟨by simp only [mA, hd], by
  simp only [mS, hd, mtab]
  rw [if_neg h1, ho]
  dsimp only
  rw [if_pos (by omega)]
  congr 2
  omega⟩
theorem s_tabOut {dflt lo hi : Int} {offs : Array Int} {len t : Nat} {x : Int32} (hd : decode cc pc = .ok (.tableswitch dflt lo hi offs, len)) (h1 : x.toInt < lo ∨ hi < x.toInt) (ht : (pc : Int) + dflt = (t : Int)) : mA cc nL pc L (.int x :: r) = none ∧ mS cc pc (.int x :: r) = some (t, r) := ⟨by simp only [mA, hd], by
  simp only [mS, hd, mtab]
  rw [if_pos h1, if_pos (by omega)]
  congr 2
  omega⟩
end AR
section MP
variable {d : Nat} {scr : Option (List Int32)} {q : mQ} {pc : Nat} {L : List (Nat × Value)} {st rest : List Value} {P P1 P' : mP} {cz sz : Nat} {r : Option Value} {Φ : Option Value → mP → Prop}
theorem me_T {z : Nat × List Value} (h : mA q.2.1 q.2.2.1 pc L st = none ∧ mS q.2.1 pc st = some z) (kk : MEv d scr q z.1 L z.2 P cz sz r P') : MEv d scr q pc L st P cz sz r P' := me_S h.1 h.2 kk
theorem mp_T {z : Nat × List Value} (h : mA q.2.1 q.2.2.1 pc L st = none ∧ mS q.2.1 pc st = some z) (kk : MEvP d scr q z.1 L z.2 P cz sz Φ) : MEvP d scr q pc L st P cz sz Φ := mp_S h.1 h.2 kk
theorem me_a {pc' : Nat} {L' : List (Nat × Value)} {st' : List Value} (h : mA q.2.1 q.2.2.1 pc L st = some (pc', L', st')) (kk : MEv d scr q pc' L' st' P cz sz r P') : MEv d scr q pc L st P cz sz r P' := me_A h kk
theorem mp_a {pc' : Nat} {L' : List (Nat × Value)} {st' : List Value} (h : mA q.2.1 q.2.2.1 pc L st = some (pc', L', st')) (kk : MEvP d scr q pc' L' st' P cz sz Φ) : MEvP d scr q pc L st P cz sz Φ := mp_A h kk
theorem me_t {pc' : Nat} {st' : List Value} (h : mA q.2.1 q.2.2.1 pc L st = none ∧ mS q.2.1 pc st = some (pc', st')) (kk : MEv d scr q pc' L st' P cz sz r P') : MEv d scr q pc L st P cz sz r P' := me_T h kk
theorem mp_t {pc' : Nat} {st' : List Value} (h : mA q.2.1 q.2.2.1 pc L st = none ∧ mS q.2.1 pc st = some (pc', st')) (kk : MEvP d scr q pc' L st' P cz sz Φ) : MEvP d scr q pc L st P cz sz Φ := mp_T h kk
theorem mpe (n : Nat) (h : pc = n) (kk : MEv d scr q n L st P cz sz r P') : MEv d scr q pc L st P cz sz r P' := h ▸ kk
theorem mpp (n : Nat) (h : pc = n) (kk : MEvP d scr q n L st P cz sz Φ) : MEvP d scr q pc L st P cz sz Φ := h ▸ kk
theorem me_Tt {c : Prop} [Decidable c] {off : Int} {t : Nat} (h : mA q.2.1 q.2.2.1 pc L st = none ∧ mS q.2.1 pc st = mjmp c pc off rest) (hc : c) (ht : (pc : Int) + off = (t : Int)) (kt : MEv d scr q t L rest P cz sz r P') : MEv d scr q pc L st P cz sz r P' := me_S (z := (t, rest)) h.1 (h.2.trans (mjmp_t hc ht)) kt
theorem me_Tf {c : Prop} [Decidable c] {off : Int} {t : Nat} (h : mA q.2.1 q.2.2.1 pc L st = none ∧ mS q.2.1 pc st = mjmp c pc off rest) (hc : ¬ c) (ht : (pc : Int) + off = (t : Int)) (kt : MEv d scr q (pc + 3) L rest P cz sz r P') : MEv d scr q pc L st P cz sz r P' := me_S (z := (pc + 3, rest)) h.1 (h.2.trans (mjmp_f hc ht)) kt
theorem mp_Tb {c : Prop} [Decidable c] {off : Int} {t : Nat} (h : mA q.2.1 q.2.2.1 pc L st = none ∧ mS q.2.1 pc st = mjmp c pc off rest) (ht : (pc : Int) + off = (t : Int)) (kt : c → MEvP d scr q t L rest P cz sz Φ) (kf : ¬ c → MEvP d scr q (pc + 3) L rest P cz sz Φ) : MEvP d scr q pc L st P cz sz Φ := mp_br h.1 h.2 ht kt kf
theorem mp_Tt {c : Prop} [Decidable c] {off : Int} {t : Nat} (h : mA q.2.1 q.2.2.1 pc L st = none ∧ mS q.2.1 pc st = mjmp c pc off rest) (hc : c) (ht : (pc : Int) + off = (t : Int)) (kt : MEvP d scr q t L rest P cz sz Φ) : MEvP d scr q pc L st P cz sz Φ := mp_brt hc h.1 h.2 ht kt
theorem mp_Tf {c : Prop} [Decidable c] {off : Int} {t : Nat} (h : mA q.2.1 q.2.2.1 pc L st = none ∧ mS q.2.1 pc st = mjmp c pc off rest) (hc : ¬ c) (ht : (pc : Int) + off = (t : Int)) (kf : MEvP d scr q (pc + 3) L rest P cz sz Φ) : MEvP d scr q pc L st P cz sz Φ := mp_brf hc h.1 h.2 ht kf
theorem mp_ret (hΦ : Φ none P) (hd : decode q.2.1 pc = .ok (.return_, 1)) (hr : q.2.2.2.1 = none) : MEvP d none q pc L [] P cz sz Φ := by
  refine mp_R hΦ (by simp only [mA, hd]) (by simp only [mS, hd]) (by simp only [mB, hd]) (fun call => by simp only [mC, hd]) (by simp only [mN, hd]) rfl ?_
  simp only [mret, hd, hr]
  rfl
theorem mp_iret {x : Int32} (hΦ : Φ (some (.int x)) P) (hd : decode q.2.1 pc = .ok (.ireturn, 1)) (hr : q.2.2.2.1 = some .int ∨ (q.2.2.2.1 = some .boolean ∧ (x = 0 ∨ x = 1))) : MEvP d none q pc L [.int x] P cz sz Φ := by
  refine mp_R hΦ (by simp only [mA, hd]) (by simp only [mS, hd]) (by simp only [mB, hd]) (fun call => by simp only [mC, hd]) (by simp only [mN, hd]) rfl ?_
  simp only [mret, hd]
  rw [if_pos hr]
theorem mp_aret {a : Nat} {C : String} (hΦ : Φ (some (.ref a)) P) (hd : decode q.2.1 pc = .ok (.areturn, 1)) (hr : q.2.2.2.1 = some (.object C)) : MEvP d none q pc L [.ref a] P cz sz Φ := by
  refine mp_R hΦ (by simp only [mA, hd]) (by simp only [mS, hd]) (by simp only [mB, hd]) (fun call => by simp only [mC, hd]) (by simp only [mN, hd]) rfl ?_
  simp only [mret, hd, hr]
theorem mp_aretN {C : String} (hΦ : Φ (some .null) P) (hd : decode q.2.1 pc = .ok (.areturn, 1)) (hr : q.2.2.2.1 = some (.object C)) : MEvP d none q pc L [.null] P cz sz Φ := by
  refine mp_R hΦ (by simp only [mA, hd]) (by simp only [mS, hd]) (by simp only [mB, hd]) (fun call => by simp only [mC, hd]) (by simp only [mN, hd]) rfl ?_
  simp only [mret, hd, hr]
end MP
end
section
/-! rows of M over a pool that ends in a known stretch: X ++ l, X of length x -/
theorem mseg {X l : mP} {x j : Nat} {c : Option (Nat × List Value)} (hx : X.length = x) (h : l[j]? = c) : (X ++ l)[x + j]? = c := by
  rw [List.getElem?_append_right (by omega), ← h, hx, Nat.add_sub_cancel_left]
theorem mseg_set {X l : mP} {x j : Nat} {c : Nat × List Value} (hx : X.length = x) : (X ++ l).set (x + j) c = X ++ l.set j c := by
  rw [List.set_append_right _ _ (by omega), hx, Nat.add_sub_cancel_left]
section MS
variable {d : Nat} {scr : Option (List Int32)} {q : mQ} {pc : Nat} {L : List (Nat × Value)} {st rest : List Value} {X l l' : mP} {x cz sz : Nat} {r : Option Value} {P' : mP}
theorem ms_get {i ci k j : Nat} {nest : Bool} {vs : List Value} {v : Value} (hx : X.length = x) (hd : decode q.2.1 pc = .ok (.getfield i, 3)) (hf : mfld q.2.2.2.2.2.1 i = some (ci, k, nest)) (hj : l[j]? = some (ci, vs)) (hv : vs[k]? = some v) (kk : MEv d scr q (pc + 3) L (v :: rest) (X ++ l) cz sz r P') : MEv d scr q pc L (.ref (x + j) :: rest) (X ++ l) cz sz r P' := me_get hd hf (mseg hx hj) hv kk
theorem ms_put {i ci k j : Nat} {nest : Bool} {vs : List Value} {v : Value} (hx : X.length = x) (hd : decode q.2.1 pc = .ok (.putfield i, 3)) (hf : mfld q.2.2.2.2.2.1 i = some (ci, k, nest)) (hj : l[j]? = some (ci, vs)) (hl : k < vs.length) (hfit : mfit (cY ci k) v = true) (hfin : (cT ci k).2.2.2 = false ∨ (nest = false ∧ (q.1.name == "<init>") = true ∧ ci = q.2.2.2.2.2.1)) (hl' : l.set j (ci, vs.set k v) = l') (kk : MEv d scr q (pc + 3) L rest (X ++ l') cz sz r P') : MEv d scr q pc L (v :: .ref (x + j) :: rest) (X ++ l) cz sz r P' := me_put hd hf (mseg hx hj) hl hfit hfin (by rw [mseg_set hx, hl']; exact kk)
theorem ms_alen {kd j : Nat} {vs : List Value} {n : Int32} (hx : X.length = x) (hd : decode q.2.1 pc = .ok (.arraylength, 1)) (hj : l[j]? = some (kd, vs)) (hk : kd = 8 ∨ kd = 9 ∨ kd = 10 ∨ kd = 11) (hn : Int32.ofNat vs.length = n) (kk : MEv d scr q (pc + 1) L (.int n :: rest) (X ++ l) cz sz r P') : MEv d scr q pc L (.ref (x + j) :: rest) (X ++ l) cz sz r P' := me_alen hd (mseg hx hj) hk (by rw [hn]; exact kk)
theorem ms_new {i ci k : Nat} (hx : X.length = x) (hd : decode q.2.1 pc = .ok (.new i, 3)) (hc : mcls q.2.2.2.2.2.1 i = some ci) (hk : l.length = k) (hz : cz + 1 ≤ q.2.2.2.2.2.2.1 ∧ sz + cS ci ≤ q.2.2.2.2.2.2.2) (kk : MEv d scr q (pc + 3) L (.ref (x + k) :: st) (X ++ (l ++ [(ci, mdef ci)])) (cz + 1) (sz + cS ci) r P') : MEv d scr q pc L st (X ++ l) cz sz r P' := by
  have e1 : (X ++ l).length = x + k := by rw [List.length_append, hx, hk]
  refine me_new (z := (pc + 3, .ref (x + k) :: st, X ++ (l ++ [(ci, mdef ci)]), 1, cS ci)) (by unfold mA; rw [hd]) (by unfold mS; rw [hd]) (by unfold mB; rw [hd]) (fun call => by unfold mC; rw [hd]) ?_ hz kk
  simp only [mN, hd, hc, Option.map_some, e1, List.append_assoc]
theorem ms_newi {k N : Nat} {n : Int32} (hx : X.length = x) (hd : decode q.2.1 pc = .ok (.newarray .int, 2)) (hn : ¬ n < 0) (hN : n.toNatClampNeg = N) (hN2 : N ≤ 100000) (hk : l.length = k) (hz : cz + 1 ≤ q.2.2.2.2.2.2.1 ∧ sz + N ≤ q.2.2.2.2.2.2.2) (kk : MEv d scr q (pc + 2) L (.ref (x + k) :: rest) (X ++ (l ++ [(8, List.replicate N (.int 0))])) (cz + 1) (sz + N) r P') : MEv d scr q pc L (.int n :: rest) (X ++ l) cz sz r P' := by
  have e1 : (X ++ l).length = x + k := by rw [List.length_append, hx, hk]
  refine me_new (z := (pc + 2, .ref (x + k) :: rest, X ++ (l ++ [(8, List.replicate N (.int 0))]), 1, N)) (by unfold mA; rw [hd]) (by unfold mS; rw [hd]) (by unfold mB; rw [hd]) (fun call => by unfold mC; rw [hd]) ?_ hz kk
  simp only [mN, hd, hN, e1, List.append_assoc]
  rw [if_pos ⟨hn, hN2⟩]
theorem ms_newz {k N : Nat} {n : Int32} (hx : X.length = x) (hd : decode q.2.1 pc = .ok (.newarray .boolean, 2)) (hn : ¬ n < 0) (hN : n.toNatClampNeg = N) (hN2 : N ≤ 100000) (hk : l.length = k) (hz : cz + 1 ≤ q.2.2.2.2.2.2.1 ∧ sz + N ≤ q.2.2.2.2.2.2.2) (kk : MEv d scr q (pc + 2) L (.ref (x + k) :: rest) (X ++ (l ++ [(9, List.replicate N (.int 0))])) (cz + 1) (sz + N) r P') : MEv d scr q pc L (.int n :: rest) (X ++ l) cz sz r P' := by
  have e1 : (X ++ l).length = x + k := by rw [List.length_append, hx, hk]
  refine me_new (z := (pc + 2, .ref (x + k) :: rest, X ++ (l ++ [(9, List.replicate N (.int 0))]), 1, N)) (by unfold mA; rw [hd]) (by unfold mS; rw [hd]) (by unfold mB; rw [hd]) (fun call => by unfold mC; rw [hd]) ?_ hz kk
  simp only [mN, hd, hN, e1, List.append_assoc]
  rw [if_pos ⟨hn, hN2⟩]
theorem ms_anew {i k N kd ci : Nat} {n : Int32} (hx : X.length = x) (hd : decode q.2.1 pc = .ok (.anewarray i, 3)) (hc : mcls q.2.2.2.2.2.1 i = some ci) (hkd : (kd = 10 ∧ ci = 2) ∨ (kd = 11 ∧ ci = 5)) (hn : ¬ n < 0) (hN : n.toNatClampNeg = N) (hN2 : N ≤ 100000) (hk : l.length = k) (hz : cz + 1 ≤ q.2.2.2.2.2.2.1 ∧ sz + N ≤ q.2.2.2.2.2.2.2) (kk : MEv d scr q (pc + 3) L (.ref (x + k) :: rest) (X ++ (l ++ [(kd, List.replicate N .null)])) (cz + 1) (sz + N) r P') : MEv d scr q pc L (.int n :: rest) (X ++ l) cz sz r P' := by
  have e1 : (X ++ l).length = x + k := by rw [List.length_append, hx, hk]
  refine me_new (z := (pc + 3, .ref (x + k) :: rest, X ++ (l ++ [(kd, List.replicate N .null)]), 1, N)) (by unfold mA; rw [hd]) (by unfold mS; rw [hd]) (by unfold mB; rw [hd]) (fun call => by unfold mC; rw [hd]) ?_ hz kk
  rcases hkd with ⟨rfl, rfl⟩ | ⟨rfl, rfl⟩
  · simp only [mN, hd, hN, e1, List.append_assoc, hc]
    rw [if_pos ⟨hn, hN2⟩]
    rfl
  · simp only [mN, hd, hN, e1, List.append_assoc, hc]
    rw [if_pos ⟨hn, hN2⟩]
    rfl
theorem ms_aast {k j kd ci : Nat} {vs us : List Value} {i : Int32} (hx : X.length = x) (hd : decode q.2.1 pc = .ok (.aastore, 1)) (hj : l[j]? = some (kd, vs)) (hk : l[k]? = some (ci, us)) (hkd : (kd = 10 ∧ ci = 2) ∨ (kd = 11 ∧ ci = 5)) {N : Nat} (hN : vs.length = N) (hi : ¬ (i < 0 ∨ N ≤ i.toNatClampNeg)) (hl' : l.set j (kd, vs.set i.toNatClampNeg (.ref (x + k))) = l') (kk : MEv d scr q (pc + 1) L rest (X ++ l') cz sz r P') : MEv d scr q pc L (.ref (x + k) :: .int i :: .ref (x + j) :: rest) (X ++ l) cz sz r P' := by
  subst hN
  refine me_B (z := (pc + 1, rest, X ++ l')) (by unfold mA; rw [hd]) (by unfold mS; rw [hd]) ?_ kk
  simp only [mB, hd, mseg hx hj, mseg hx hk]
  rw [if_pos ⟨hkd, hi⟩, mseg_set hx, hl']
theorem ms_iast {j N : Nat} {vs : List Value} {i y : Int32} (hx : X.length = x) (hd : decode q.2.1 pc = .ok (.iastore, 1)) (hj : l[j]? = some (8, vs)) (hN : vs.length = N) (hi : ¬ (i < 0 ∨ N ≤ i.toNatClampNeg)) (hl' : l.set j (8, vs.set i.toNatClampNeg (.int y)) = l') (kk : MEv d scr q (pc + 1) L rest (X ++ l') cz sz r P') : MEv d scr q pc L (.int y :: .int i :: .ref (x + j) :: rest) (X ++ l) cz sz r P' := by
  subst hN
  exact me_iast hd (mseg hx hj) hi (by rw [mseg_set hx, hl']; exact kk)
theorem ms_init {i kd k j : Nat} {q' : mQ} (hd : decode q.2.1 pc = .ok (.invokespecial i, 3)) (hc : mcal q.2.2.2.2.2.1 i = some (kd, k)) (hq : mtL[k]? = some q') (hkd : kd = 4 ∨ kd = 5) (hn : 0 = q'.2.2.2.2.1) (hret : q'.2.2.2.1 = none) (hcat : (rest.map mcat).sum ≤ 8) (hcz : cz + q'.2.2.2.2.2.2.1 ≤ q.2.2.2.2.2.2.1 ∧ sz + q'.2.2.2.2.2.2.2 ≤ q.2.2.2.2.2.2.2) (hev : Ev d k [.ref j] (X ++ l) none (X ++ l')) (kk : MEv d scr q (pc + 3) L rest (X ++ l') (cz + q'.2.2.2.2.2.2.1) (sz + q'.2.2.2.2.2.2.2) r P') : MEv d scr q pc L (.ref j :: rest) (X ++ l) cz sz r P' := me_calli (As := []) hd hc hq hkd hn hret hcat rfl hcz hev kk
theorem ms_ret (hd : decode q.2.1 pc = .ok (.return_, 1)) (hr : q.2.2.2.1 = none) (he : X ++ l = P') : MEv d none q pc L [] (X ++ l) cz sz none P' := by
  subst he
  refine me_R (by unfold mA; rw [hd]) (by unfold mS; rw [hd]) (by unfold mB; rw [hd]) (fun call => by unfold mC; rw [hd]) (by unfold mN; rw [hd]) rfl ?_
  simp only [mret, hd, hr]
  rfl
end MS
end
section
theorem dX0_init_0 : decode cX0_init 0 = .ok (.aload_n 0, 1) := by decide +kernel
theorem dX0_init_1 : decode cX0_init 1 = .ok (.invokespecial 3, 3) := by decide +kernel
theorem dX0_init_4 : decode cX0_init 4 = .ok (.aload_n 0, 1) := by decide +kernel
theorem dX0_init_5 : decode cX0_init 5 = .ok (.bipush 8, 2) := by decide +kernel
theorem dX0_init_7 : decode cX0_init 7 = .ok (.anewarray 9, 3) := by decide +kernel
theorem dX0_init_10 : decode cX0_init 10 = .ok (.putfield 11, 3) := by decide +kernel
theorem dX0_init_13 : decode cX0_init 13 = .ok (.iconst 0, 1) := by decide +kernel
theorem dX0_init_14 : decode cX0_init 14 = .ok (.istore_n 1, 1) := by decide +kernel
theorem dX0_init_15 : decode cX0_init 15 = .ok (.iload_n 1, 1) := by decide +kernel
theorem dX0_init_16 : decode cX0_init 16 = .ok (.aload_n 0, 1) := by decide +kernel
theorem dX0_init_17 : decode cX0_init 17 = .ok (.getfield 11, 3) := by decide +kernel
theorem dX0_init_20 : decode cX0_init 20 = .ok (.arraylength, 1) := by decide +kernel
theorem dX0_init_21 : decode cX0_init 21 = .ok (.if_icmp .ge 22, 3) := by decide +kernel
theorem dX0_init_24 : decode cX0_init 24 = .ok (.aload_n 0, 1) := by decide +kernel
theorem dX0_init_25 : decode cX0_init 25 = .ok (.getfield 11, 3) := by decide +kernel
theorem dX0_init_28 : decode cX0_init 28 = .ok (.iload_n 1, 1) := by decide +kernel
theorem dX0_init_29 : decode cX0_init 29 = .ok (.new 9, 3) := by decide +kernel
theorem dX0_init_32 : decode cX0_init 32 = .ok (.dup, 1) := by decide +kernel
theorem dX0_init_33 : decode cX0_init 33 = .ok (.invokespecial 17, 3) := by decide +kernel
theorem dX0_init_36 : decode cX0_init 36 = .ok (.aastore, 1) := by decide +kernel
theorem dX0_init_37 : decode cX0_init 37 = .ok (.iinc 1 1, 3) := by decide +kernel
theorem dX0_init_40 : decode cX0_init 40 = .ok (.goto (-25), 3) := by decide +kernel
theorem dX0_init_43 : decode cX0_init 43 = .ok (.return_, 1) := by decide +kernel
theorem dX1_init_0 : decode cX1_init 0 = .ok (.aload_n 0, 1) := by decide +kernel
theorem dX1_init_1 : decode cX1_init 1 = .ok (.invokespecial 3, 3) := by decide +kernel
theorem dX1_init_4 : decode cX1_init 4 = .ok (.aload_n 0, 1) := by decide +kernel
theorem dX1_init_5 : decode cX1_init 5 = .ok (.bipush 8, 2) := by decide +kernel
theorem dX1_init_7 : decode cX1_init 7 = .ok (.newarray .int, 2) := by decide +kernel
theorem dX1_init_9 : decode cX1_init 9 = .ok (.putfield 9, 3) := by decide +kernel
theorem dX1_init_12 : decode cX1_init 12 = .ok (.aload_n 0, 1) := by decide +kernel
theorem dX1_init_13 : decode cX1_init 13 = .ok (.bipush 8, 2) := by decide +kernel
theorem dX1_init_15 : decode cX1_init 15 = .ok (.newarray .int, 2) := by decide +kernel
theorem dX1_init_17 : decode cX1_init 17 = .ok (.putfield 15, 3) := by decide +kernel
theorem dX1_init_20 : decode cX1_init 20 = .ok (.aload_n 0, 1) := by decide +kernel
theorem dX1_init_21 : decode cX1_init 21 = .ok (.bipush 8, 2) := by decide +kernel
theorem dX1_init_23 : decode cX1_init 23 = .ok (.newarray .int, 2) := by decide +kernel
theorem dX1_init_25 : decode cX1_init 25 = .ok (.putfield 18, 3) := by decide +kernel
theorem dX1_init_28 : decode cX1_init 28 = .ok (.return_, 1) := by decide +kernel
theorem dX2_init_0 : decode cX2_init 0 = .ok (.aload_n 0, 1) := by decide +kernel
theorem dX2_init_1 : decode cX2_init 1 = .ok (.invokespecial 3, 3) := by decide +kernel
theorem dX2_init_4 : decode cX2_init 4 = .ok (.aload_n 0, 1) := by decide +kernel
theorem dX2_init_5 : decode cX2_init 5 = .ok (.bipush 8, 2) := by decide +kernel
theorem dX2_init_7 : decode cX2_init 7 = .ok (.newarray .int, 2) := by decide +kernel
theorem dX2_init_9 : decode cX2_init 9 = .ok (.putfield 9, 3) := by decide +kernel
theorem dX2_init_12 : decode cX2_init 12 = .ok (.aload_n 0, 1) := by decide +kernel
theorem dX2_init_13 : decode cX2_init 13 = .ok (.bipush 8, 2) := by decide +kernel
theorem dX2_init_15 : decode cX2_init 15 = .ok (.newarray .int, 2) := by decide +kernel
theorem dX2_init_17 : decode cX2_init 17 = .ok (.putfield 15, 3) := by decide +kernel
theorem dX2_init_20 : decode cX2_init 20 = .ok (.return_, 1) := by decide +kernel
theorem dX3_init_0 : decode cX3_init 0 = .ok (.aload_n 0, 1) := by decide +kernel
theorem dX3_init_1 : decode cX3_init 1 = .ok (.invokespecial 3, 3) := by decide +kernel
theorem dX3_init_4 : decode cX3_init 4 = .ok (.aload_n 0, 1) := by decide +kernel
theorem dX3_init_5 : decode cX3_init 5 = .ok (.bipush 8, 2) := by decide +kernel
theorem dX3_init_7 : decode cX3_init 7 = .ok (.newarray .int, 2) := by decide +kernel
theorem dX3_init_9 : decode cX3_init 9 = .ok (.putfield 9, 3) := by decide +kernel
theorem dX3_init_12 : decode cX3_init 12 = .ok (.aload_n 0, 1) := by decide +kernel
theorem dX3_init_13 : decode cX3_init 13 = .ok (.bipush 8, 2) := by decide +kernel
theorem dX3_init_15 : decode cX3_init 15 = .ok (.newarray .int, 2) := by decide +kernel
theorem dX3_init_17 : decode cX3_init 17 = .ok (.putfield 15, 3) := by decide +kernel
theorem dX3_init_20 : decode cX3_init 20 = .ok (.return_, 1) := by decide +kernel
theorem dX4_init_0 : decode cX4_init 0 = .ok (.aload_n 0, 1) := by decide +kernel
theorem dX4_init_1 : decode cX4_init 1 = .ok (.invokespecial 3, 3) := by decide +kernel
theorem dX4_init_4 : decode cX4_init 4 = .ok (.aload_n 0, 1) := by decide +kernel
theorem dX4_init_5 : decode cX4_init 5 = .ok (.bipush 80, 2) := by decide +kernel
theorem dX4_init_7 : decode cX4_init 7 = .ok (.newarray .int, 2) := by decide +kernel
theorem dX4_init_9 : decode cX4_init 9 = .ok (.putfield 9, 3) := by decide +kernel
theorem dX4_init_12 : decode cX4_init 12 = .ok (.return_, 1) := by decide +kernel
theorem dX5_init_0 : decode cX5_init 0 = .ok (.aload_n 0, 1) := by decide +kernel
theorem dX5_init_1 : decode cX5_init 1 = .ok (.invokespecial 3, 3) := by decide +kernel
theorem dX5_init_4 : decode cX5_init 4 = .ok (.aload_n 0, 1) := by decide +kernel
theorem dX5_init_5 : decode cX5_init 5 = .ok (.bipush 8, 2) := by decide +kernel
theorem dX5_init_7 : decode cX5_init 7 = .ok (.anewarray 9, 3) := by decide +kernel
theorem dX5_init_10 : decode cX5_init 10 = .ok (.putfield 11, 3) := by decide +kernel
theorem dX5_init_13 : decode cX5_init 13 = .ok (.aload_n 0, 1) := by decide +kernel
theorem dX5_init_14 : decode cX5_init 14 = .ok (.bipush 30, 2) := by decide +kernel
theorem dX5_init_16 : decode cX5_init 16 = .ok (.putfield 17, 3) := by decide +kernel
theorem dX5_init_19 : decode cX5_init 19 = .ok (.iconst 0, 1) := by decide +kernel
theorem dX5_init_20 : decode cX5_init 20 = .ok (.istore_n 1, 1) := by decide +kernel
theorem dX5_init_21 : decode cX5_init 21 = .ok (.iload_n 1, 1) := by decide +kernel
theorem dX5_init_22 : decode cX5_init 22 = .ok (.aload_n 0, 1) := by decide +kernel
theorem dX5_init_23 : decode cX5_init 23 = .ok (.getfield 11, 3) := by decide +kernel
theorem dX5_init_26 : decode cX5_init 26 = .ok (.arraylength, 1) := by decide +kernel
theorem dX5_init_27 : decode cX5_init 27 = .ok (.if_icmp .ge 22, 3) := by decide +kernel
theorem dX5_init_30 : decode cX5_init 30 = .ok (.aload_n 0, 1) := by decide +kernel
theorem dX5_init_31 : decode cX5_init 31 = .ok (.getfield 11, 3) := by decide +kernel
theorem dX5_init_34 : decode cX5_init 34 = .ok (.iload_n 1, 1) := by decide +kernel
theorem dX5_init_35 : decode cX5_init 35 = .ok (.new 9, 3) := by decide +kernel
theorem dX5_init_38 : decode cX5_init 38 = .ok (.dup, 1) := by decide +kernel
theorem dX5_init_39 : decode cX5_init 39 = .ok (.invokespecial 21, 3) := by decide +kernel
theorem dX5_init_42 : decode cX5_init 42 = .ok (.aastore, 1) := by decide +kernel
theorem dX5_init_43 : decode cX5_init 43 = .ok (.iinc 1 1, 3) := by decide +kernel
theorem dX5_init_46 : decode cX5_init 46 = .ok (.goto (-25), 3) := by decide +kernel
theorem dX5_init_49 : decode cX5_init 49 = .ok (.return_, 1) := by decide +kernel
theorem dX6_init_0 : decode cX6_init 0 = .ok (.aload_n 0, 1) := by decide +kernel
theorem dX6_init_1 : decode cX6_init 1 = .ok (.invokespecial 1, 3) := by decide +kernel
theorem dX6_init_4 : decode cX6_init 4 = .ok (.aload_n 0, 1) := by decide +kernel
theorem dX6_init_5 : decode cX6_init 5 = .ok (.new 7, 3) := by decide +kernel
theorem dX6_init_8 : decode cX6_init 8 = .ok (.dup, 1) := by decide +kernel
theorem dX6_init_9 : decode cX6_init 9 = .ok (.invokespecial 9, 3) := by decide +kernel
theorem dX6_init_12 : decode cX6_init 12 = .ok (.putfield 10, 3) := by decide +kernel
theorem dX6_init_15 : decode cX6_init 15 = .ok (.aload_n 0, 1) := by decide +kernel
theorem dX6_init_16 : decode cX6_init 16 = .ok (.new 7, 3) := by decide +kernel
theorem dX6_init_19 : decode cX6_init 19 = .ok (.dup, 1) := by decide +kernel
theorem dX6_init_20 : decode cX6_init 20 = .ok (.invokespecial 9, 3) := by decide +kernel
theorem dX6_init_23 : decode cX6_init 23 = .ok (.putfield 16, 3) := by decide +kernel
theorem dX6_init_26 : decode cX6_init 26 = .ok (.aload_n 0, 1) := by decide +kernel
theorem dX6_init_27 : decode cX6_init 27 = .ok (.new 7, 3) := by decide +kernel
theorem dX6_init_30 : decode cX6_init 30 = .ok (.dup, 1) := by decide +kernel
theorem dX6_init_31 : decode cX6_init 31 = .ok (.invokespecial 9, 3) := by decide +kernel
theorem dX6_init_34 : decode cX6_init 34 = .ok (.putfield 19, 3) := by decide +kernel
theorem dX6_init_37 : decode cX6_init 37 = .ok (.aload_n 0, 1) := by decide +kernel
theorem dX6_init_38 : decode cX6_init 38 = .ok (.new 22, 3) := by decide +kernel
theorem dX6_init_41 : decode cX6_init 41 = .ok (.dup, 1) := by decide +kernel
theorem dX6_init_42 : decode cX6_init 42 = .ok (.invokespecial 24, 3) := by decide +kernel
theorem dX6_init_45 : decode cX6_init 45 = .ok (.putfield 25, 3) := by decide +kernel
theorem dX6_init_48 : decode cX6_init 48 = .ok (.aload_n 0, 1) := by decide +kernel
theorem dX6_init_49 : decode cX6_init 49 = .ok (.new 29, 3) := by decide +kernel
theorem dX6_init_52 : decode cX6_init 52 = .ok (.dup, 1) := by decide +kernel
theorem dX6_init_53 : decode cX6_init 53 = .ok (.invokespecial 31, 3) := by decide +kernel
theorem dX6_init_56 : decode cX6_init 56 = .ok (.putfield 32, 3) := by decide +kernel
theorem dX6_init_59 : decode cX6_init 59 = .ok (.aload_n 0, 1) := by decide +kernel
theorem dX6_init_60 : decode cX6_init 60 = .ok (.new 36, 3) := by decide +kernel
theorem dX6_init_63 : decode cX6_init 63 = .ok (.dup, 1) := by decide +kernel
theorem dX6_init_64 : decode cX6_init 64 = .ok (.invokespecial 38, 3) := by decide +kernel
theorem dX6_init_67 : decode cX6_init 67 = .ok (.putfield 39, 3) := by decide +kernel
theorem dX6_init_70 : decode cX6_init 70 = .ok (.aload_n 0, 1) := by decide +kernel
theorem dX6_init_71 : decode cX6_init 71 = .ok (.new 43, 3) := by decide +kernel
theorem dX6_init_74 : decode cX6_init 74 = .ok (.dup, 1) := by decide +kernel
theorem dX6_init_75 : decode cX6_init 75 = .ok (.invokespecial 45, 3) := by decide +kernel
theorem dX6_init_78 : decode cX6_init 78 = .ok (.putfield 46, 3) := by decide +kernel
theorem dX6_init_81 : decode cX6_init 81 = .ok (.aload_n 0, 1) := by decide +kernel
theorem dX6_init_82 : decode cX6_init 82 = .ok (.new 50, 3) := by decide +kernel
theorem dX6_init_85 : decode cX6_init 85 = .ok (.dup, 1) := by decide +kernel
theorem dX6_init_86 : decode cX6_init 86 = .ok (.invokespecial 52, 3) := by decide +kernel
theorem dX6_init_89 : decode cX6_init 89 = .ok (.putfield 53, 3) := by decide +kernel
theorem dX6_init_92 : decode cX6_init 92 = .ok (.aload_n 0, 1) := by decide +kernel
theorem dX6_init_93 : decode cX6_init 93 = .ok (.sipush (-1004), 3) := by decide +kernel
theorem dX6_init_96 : decode cX6_init 96 = .ok (.putfield 57, 3) := by decide +kernel
theorem dX6_init_99 : decode cX6_init 99 = .ok (.aload_n 0, 1) := by decide +kernel
theorem dX6_init_100 : decode cX6_init 100 = .ok (.sipush (-1004), 3) := by decide +kernel
theorem dX6_init_103 : decode cX6_init 103 = .ok (.putfield 61, 3) := by decide +kernel
theorem dX6_init_106 : decode cX6_init 106 = .ok (.return_, 1) := by decide +kernel
/-! what the constructors make (written by a program) -/
def q_2 : mQ := (yX2_init, cX2_init, 1, none, 0, 2, 2, 16)
theorem qm_2 : mtL[2]? = some q_2 := rfl

def rPiece (x : Nat) : mP := [(2, [.int 0, .int 0, .int 0, .ref (x + 1), .ref (x + 2)]), (8, List.replicate 8 (.int 0)), (8, List.replicate 8 (.int 0))]
set_option maxRecDepth 100000 in
set_option maxHeartbeats 4000000 in
theorem ec_2 {X : mP} {x : Nat} (hx : X.length = x) : Ev 1 2 [.ref (x + 0)] (X ++ [(2, mdef 2)]) none (X ++ rPiece x) := by
  refine Ev.of qm_2 (Nat.le_of_ble_eq_true rfl) rfl ?_
  show MEv _ none q_2 0 [(0, .ref (x + 0))] [] _ 0 0 none _
  refine me_a (a_aload_n dX2_init_0 rfl) (mpe 1 rfl ?_)
  refine me_obj (i := 3) (k := 0) dX2_init_1 rfl (Nat.le_of_ble_eq_true rfl) rfl ⟨Nat.le_of_ble_eq_true rfl, Nat.le_of_ble_eq_true rfl⟩ (mpe 4 rfl ?_)
  refine me_a (a_aload_n dX2_init_4 rfl) (mpe 5 rfl ?_)
  refine me_a (a_bipush (v := 8) dX2_init_5 rfl) (mpe 7 rfl ?_)
  refine ms_newi (k := 1) (N := 8) hx dX2_init_7 (by decide) rfl (by decide) rfl ⟨Nat.le_of_ble_eq_true rfl, Nat.le_of_ble_eq_true rfl⟩ (mpe 9 rfl ?_)
  refine ms_put (i := 9) (j := 0) (l' := [(2, [.int 0, .int 0, .int 0, .ref (x + 1), .null]), (8, List.replicate 8 (.int 0))]) hx dX2_init_9 rfl rfl (Nat.le_of_ble_eq_true rfl) rfl (Or.inr ⟨rfl, rfl, rfl⟩) rfl (mpe 12 rfl ?_)
  refine me_a (a_aload_n dX2_init_12 rfl) (mpe 13 rfl ?_)
  refine me_a (a_bipush (v := 8) dX2_init_13 rfl) (mpe 15 rfl ?_)
  refine ms_newi (k := 2) (N := 8) hx dX2_init_15 (by decide) rfl (by decide) rfl ⟨Nat.le_of_ble_eq_true rfl, Nat.le_of_ble_eq_true rfl⟩ (mpe 17 rfl ?_)
  refine ms_put (i := 15) (j := 0) (l' := [(2, [.int 0, .int 0, .int 0, .ref (x + 1), .ref (x + 2)]), (8, List.replicate 8 (.int 0)), (8, List.replicate 8 (.int 0))]) hx dX2_init_17 rfl rfl (Nat.le_of_ble_eq_true rfl) rfl (Or.inr ⟨rfl, rfl, rfl⟩) rfl (mpe 20 rfl ?_)
  exact ms_ret dX2_init_20 rfl rfl
theorem ei_2 {X l : mP} {x k : Nat} (hx : X.length = x) (hk : l.length = k) : Ev 1 2 [.ref (x + k)] (X ++ (l ++ [(2, mdef 2)])) none (X ++ (l ++ rPiece (x + k))) := by
  have h := ec_2 (X := X ++ l) (x := x + k) (by rw [List.length_append, hx, hk])
  rw [List.append_assoc, List.append_assoc] at h
  exact h
def q_1 : mQ := (yX5_init, cX5_init, 2, none, 0, 5, 25, 176)
theorem qm_1 : mtL[1]? = some q_1 := rfl

def rState (x : Nat) : mP := [(5, [.ref (x + 1), .int 0, .int 30, .int 0]), (10, [.ref (x + 2), .ref (x + 5), .ref (x + 8), .ref (x + 11), .ref (x + 14), .ref (x + 17), .ref (x + 20), .ref (x + 23)]), (2, [.int 0, .int 0, .int 0, .ref (x + 3), .ref (x + 4)]), (8, List.replicate 8 (.int 0)), (8, List.replicate 8 (.int 0)), (2, [.int 0, .int 0, .int 0, .ref (x + 6), .ref (x + 7)]), (8, List.replicate 8 (.int 0)), (8, List.replicate 8 (.int 0)), (2, [.int 0, .int 0, .int 0, .ref (x + 9), .ref (x + 10)]), (8, List.replicate 8 (.int 0)), (8, List.replicate 8 (.int 0)), (2, [.int 0, .int 0, .int 0, .ref (x + 12), .ref (x + 13)]), (8, List.replicate 8 (.int 0)), (8, List.replicate 8 (.int 0)), (2, [.int 0, .int 0, .int 0, .ref (x + 15), .ref (x + 16)]), (8, List.replicate 8 (.int 0)), (8, List.replicate 8 (.int 0)), (2, [.int 0, .int 0, .int 0, .ref (x + 18), .ref (x + 19)]), (8, List.replicate 8 (.int 0)), (8, List.replicate 8 (.int 0)), (2, [.int 0, .int 0, .int 0, .ref (x + 21), .ref (x + 22)]), (8, List.replicate 8 (.int 0)), (8, List.replicate 8 (.int 0)), (2, [.int 0, .int 0, .int 0, .ref (x + 24), .ref (x + 25)]), (8, List.replicate 8 (.int 0)), (8, List.replicate 8 (.int 0))]
set_option maxRecDepth 100000 in
set_option maxHeartbeats 4000000 in
theorem ec_1 {X : mP} {x : Nat} (hx : X.length = x) : Ev 2 1 [.ref (x + 0)] (X ++ [(5, mdef 5)]) none (X ++ rState x) := by
  refine Ev.of qm_1 (Nat.le_of_ble_eq_true rfl) rfl ?_
  show MEv _ none q_1 0 [(0, .ref (x + 0))] [] _ 0 0 none _
  refine me_a (a_aload_n dX5_init_0 rfl) (mpe 1 rfl ?_)
  refine me_obj (i := 3) (k := 0) dX5_init_1 rfl (Nat.le_of_ble_eq_true rfl) rfl ⟨Nat.le_of_ble_eq_true rfl, Nat.le_of_ble_eq_true rfl⟩ (mpe 4 rfl ?_)
  refine me_a (a_aload_n dX5_init_4 rfl) (mpe 5 rfl ?_)
  refine me_a (a_bipush (v := 8) dX5_init_5 rfl) (mpe 7 rfl ?_)
  refine ms_anew (i := 9) (kd := 10) (ci := 2) (k := 1) (N := 8) hx dX5_init_7 rfl (by decide) (by decide) rfl (by decide) rfl ⟨Nat.le_of_ble_eq_true rfl, Nat.le_of_ble_eq_true rfl⟩ (mpe 10 rfl ?_)
  refine ms_put (i := 11) (j := 0) (l' := [(5, [.ref (x + 1), .int 0, .int 0, .int 0]), (10, [.null, .null, .null, .null, .null, .null, .null, .null])]) hx dX5_init_10 rfl rfl (Nat.le_of_ble_eq_true rfl) rfl (Or.inr ⟨rfl, rfl, rfl⟩) rfl (mpe 13 rfl ?_)
  refine me_a (a_aload_n dX5_init_13 rfl) (mpe 14 rfl ?_)
  refine me_a (a_bipush (v := 30) dX5_init_14 rfl) (mpe 16 rfl ?_)
  refine ms_put (i := 17) (j := 0) (l' := [(5, [.ref (x + 1), .int 0, .int 30, .int 0]), (10, [.null, .null, .null, .null, .null, .null, .null, .null])]) hx dX5_init_16 rfl rfl (Nat.le_of_ble_eq_true rfl) rfl (Or.inl rfl) rfl (mpe 19 rfl ?_)
  refine me_a (a_iconst (v := 0) dX5_init_19 rfl) (mpe 20 rfl ?_)
  refine me_a (a_istore_n (L' := [(1, .int 0), (0, .ref (x + 0))]) dX5_init_20 (by decide) rfl) (mpe 21 rfl ?_)
  refine me_a (a_iload_n dX5_init_21 rfl) (mpe 22 rfl ?_)
  refine me_a (a_aload_n dX5_init_22 rfl) (mpe 23 rfl ?_)
  refine ms_get (i := 11) (j := 0) (v := .ref (x + 1)) hx dX5_init_23 rfl rfl rfl (mpe 26 rfl ?_)
  refine ms_alen (j := 1) (n := 8) hx dX5_init_26 rfl (by decide) rfl (mpe 27 rfl ?_)
  refine me_Tf (t := 49) (j_icmp_ge dX5_init_27) (by decide) (by decide) (mpe 30 rfl ?_)
  refine me_a (a_aload_n dX5_init_30 rfl) (mpe 31 rfl ?_)
  refine ms_get (i := 11) (j := 0) (v := .ref (x + 1)) hx dX5_init_31 rfl rfl rfl (mpe 34 rfl ?_)
  refine me_a (a_iload_n dX5_init_34 rfl) (mpe 35 rfl ?_)
  refine ms_new (i := 9) (ci := 2) (k := 2) hx dX5_init_35 rfl rfl ⟨Nat.le_of_ble_eq_true rfl, Nat.le_of_ble_eq_true rfl⟩ (mpe 38 rfl ?_)
  refine me_t (s_dup dX5_init_38 rfl) (mpe 39 rfl ?_)
  refine ms_init (i := 21) (q' := q_2) (l' := [(5, [.ref (x + 1), .int 0, .int 30, .int 0]), (10, [.null, .null, .null, .null, .null, .null, .null, .null]), (2, [.int 0, .int 0, .int 0, .ref (x + 3), .ref (x + 4)]), (8, List.replicate 8 (.int 0)), (8, List.replicate 8 (.int 0))]) dX5_init_39 rfl qm_2 (by decide) rfl rfl (Nat.le_of_ble_eq_true rfl) ⟨Nat.le_of_ble_eq_true rfl, Nat.le_of_ble_eq_true rfl⟩ ((ei_2 (l := [(5, [.ref (x + 1), .int 0, .int 30, .int 0]), (10, [.null, .null, .null, .null, .null, .null, .null, .null])]) hx rfl).mono (by decide)) (mpe 42 rfl ?_)
  refine ms_aast (k := 2) (j := 1) (N := 8) (l' := [(5, [.ref (x + 1), .int 0, .int 30, .int 0]), (10, [.ref (x + 2), .null, .null, .null, .null, .null, .null, .null]), (2, [.int 0, .int 0, .int 0, .ref (x + 3), .ref (x + 4)]), (8, List.replicate 8 (.int 0)), (8, List.replicate 8 (.int 0))]) hx dX5_init_42 rfl rfl (by decide) rfl (by decide) rfl (mpe 43 rfl ?_)
  refine me_a (a_iinc (v := 1) (L' := [(1, .int 1), (0, .ref (x + 0))]) dX5_init_43 (by decide) rfl rfl rfl) (mpe 46 rfl ?_)
  refine me_a (a_goto (t := 21) dX5_init_46 (by decide)) (mpe 21 rfl ?_)
  refine me_a (a_iload_n dX5_init_21 rfl) (mpe 22 rfl ?_)
  refine me_a (a_aload_n dX5_init_22 rfl) (mpe 23 rfl ?_)
  refine ms_get (i := 11) (j := 0) (v := .ref (x + 1)) hx dX5_init_23 rfl rfl rfl (mpe 26 rfl ?_)
  refine ms_alen (j := 1) (n := 8) hx dX5_init_26 rfl (by decide) rfl (mpe 27 rfl ?_)
  refine me_Tf (t := 49) (j_icmp_ge dX5_init_27) (by decide) (by decide) (mpe 30 rfl ?_)
  refine me_a (a_aload_n dX5_init_30 rfl) (mpe 31 rfl ?_)
  refine ms_get (i := 11) (j := 0) (v := .ref (x + 1)) hx dX5_init_31 rfl rfl rfl (mpe 34 rfl ?_)
  refine me_a (a_iload_n dX5_init_34 rfl) (mpe 35 rfl ?_)
  refine ms_new (i := 9) (ci := 2) (k := 5) hx dX5_init_35 rfl rfl ⟨Nat.le_of_ble_eq_true rfl, Nat.le_of_ble_eq_true rfl⟩ (mpe 38 rfl ?_)
  refine me_t (s_dup dX5_init_38 rfl) (mpe 39 rfl ?_)
  refine ms_init (i := 21) (q' := q_2) (l' := [(5, [.ref (x + 1), .int 0, .int 30, .int 0]), (10, [.ref (x + 2), .null, .null, .null, .null, .null, .null, .null]), (2, [.int 0, .int 0, .int 0, .ref (x + 3), .ref (x + 4)]), (8, List.replicate 8 (.int 0)), (8, List.replicate 8 (.int 0)), (2, [.int 0, .int 0, .int 0, .ref (x + 6), .ref (x + 7)]), (8, List.replicate 8 (.int 0)), (8, List.replicate 8 (.int 0))]) dX5_init_39 rfl qm_2 (by decide) rfl rfl (Nat.le_of_ble_eq_true rfl) ⟨Nat.le_of_ble_eq_true rfl, Nat.le_of_ble_eq_true rfl⟩ ((ei_2 (l := [(5, [.ref (x + 1), .int 0, .int 30, .int 0]), (10, [.ref (x + 2), .null, .null, .null, .null, .null, .null, .null]), (2, [.int 0, .int 0, .int 0, .ref (x + 3), .ref (x + 4)]), (8, List.replicate 8 (.int 0)), (8, List.replicate 8 (.int 0))]) hx rfl).mono (by decide)) (mpe 42 rfl ?_)
  refine ms_aast (k := 5) (j := 1) (N := 8) (l' := [(5, [.ref (x + 1), .int 0, .int 30, .int 0]), (10, [.ref (x + 2), .ref (x + 5), .null, .null, .null, .null, .null, .null]), (2, [.int 0, .int 0, .int 0, .ref (x + 3), .ref (x + 4)]), (8, List.replicate 8 (.int 0)), (8, List.replicate 8 (.int 0)), (2, [.int 0, .int 0, .int 0, .ref (x + 6), .ref (x + 7)]), (8, List.replicate 8 (.int 0)), (8, List.replicate 8 (.int 0))]) hx dX5_init_42 rfl rfl (by decide) rfl (by decide) rfl (mpe 43 rfl ?_)
  refine me_a (a_iinc (v := 2) (L' := [(1, .int 2), (0, .ref (x + 0))]) dX5_init_43 (by decide) rfl rfl rfl) (mpe 46 rfl ?_)
  refine me_a (a_goto (t := 21) dX5_init_46 (by decide)) (mpe 21 rfl ?_)
  refine me_a (a_iload_n dX5_init_21 rfl) (mpe 22 rfl ?_)
  refine me_a (a_aload_n dX5_init_22 rfl) (mpe 23 rfl ?_)
  refine ms_get (i := 11) (j := 0) (v := .ref (x + 1)) hx dX5_init_23 rfl rfl rfl (mpe 26 rfl ?_)
  refine ms_alen (j := 1) (n := 8) hx dX5_init_26 rfl (by decide) rfl (mpe 27 rfl ?_)
  refine me_Tf (t := 49) (j_icmp_ge dX5_init_27) (by decide) (by decide) (mpe 30 rfl ?_)
  refine me_a (a_aload_n dX5_init_30 rfl) (mpe 31 rfl ?_)
  refine ms_get (i := 11) (j := 0) (v := .ref (x + 1)) hx dX5_init_31 rfl rfl rfl (mpe 34 rfl ?_)
  refine me_a (a_iload_n dX5_init_34 rfl) (mpe 35 rfl ?_)
  refine ms_new (i := 9) (ci := 2) (k := 8) hx dX5_init_35 rfl rfl ⟨Nat.le_of_ble_eq_true rfl, Nat.le_of_ble_eq_true rfl⟩ (mpe 38 rfl ?_)
  refine me_t (s_dup dX5_init_38 rfl) (mpe 39 rfl ?_)
  refine ms_init (i := 21) (q' := q_2) (l' := [(5, [.ref (x + 1), .int 0, .int 30, .int 0]), (10, [.ref (x + 2), .ref (x + 5), .null, .null, .null, .null, .null, .null]), (2, [.int 0, .int 0, .int 0, .ref (x + 3), .ref (x + 4)]), (8, List.replicate 8 (.int 0)), (8, List.replicate 8 (.int 0)), (2, [.int 0, .int 0, .int 0, .ref (x + 6), .ref (x + 7)]), (8, List.replicate 8 (.int 0)), (8, List.replicate 8 (.int 0)), (2, [.int 0, .int 0, .int 0, .ref (x + 9), .ref (x + 10)]), (8, List.replicate 8 (.int 0)), (8, List.replicate 8 (.int 0))]) dX5_init_39 rfl qm_2 (by decide) rfl rfl (Nat.le_of_ble_eq_true rfl) ⟨Nat.le_of_ble_eq_true rfl, Nat.le_of_ble_eq_true rfl⟩ ((ei_2 (l := [(5, [.ref (x + 1), .int 0, .int 30, .int 0]), (10, [.ref (x + 2), .ref (x + 5), .null, .null, .null, .null, .null, .null]), (2, [.int 0, .int 0, .int 0, .ref (x + 3), .ref (x + 4)]), (8, List.replicate 8 (.int 0)), (8, List.replicate 8 (.int 0)), (2, [.int 0, .int 0, .int 0, .ref (x + 6), .ref (x + 7)]), (8, List.replicate 8 (.int 0)), (8, List.replicate 8 (.int 0))]) hx rfl).mono (by decide)) (mpe 42 rfl ?_)
  refine ms_aast (k := 8) (j := 1) (N := 8) (l' := [(5, [.ref (x + 1), .int 0, .int 30, .int 0]), (10, [.ref (x + 2), .ref (x + 5), .ref (x + 8), .null, .null, .null, .null, .null]), (2, [.int 0, .int 0, .int 0, .ref (x + 3), .ref (x + 4)]), (8, List.replicate 8 (.int 0)), (8, List.replicate 8 (.int 0)), (2, [.int 0, .int 0, .int 0, .ref (x + 6), .ref (x + 7)]), (8, List.replicate 8 (.int 0)), (8, List.replicate 8 (.int 0)), (2, [.int 0, .int 0, .int 0, .ref (x + 9), .ref (x + 10)]), (8, List.replicate 8 (.int 0)), (8, List.replicate 8 (.int 0))]) hx dX5_init_42 rfl rfl (by decide) rfl (by decide) rfl (mpe 43 rfl ?_)
  refine me_a (a_iinc (v := 3) (L' := [(1, .int 3), (0, .ref (x + 0))]) dX5_init_43 (by decide) rfl rfl rfl) (mpe 46 rfl ?_)
  refine me_a (a_goto (t := 21) dX5_init_46 (by decide)) (mpe 21 rfl ?_)
  refine me_a (a_iload_n dX5_init_21 rfl) (mpe 22 rfl ?_)
  refine me_a (a_aload_n dX5_init_22 rfl) (mpe 23 rfl ?_)
  refine ms_get (i := 11) (j := 0) (v := .ref (x + 1)) hx dX5_init_23 rfl rfl rfl (mpe 26 rfl ?_)
  refine ms_alen (j := 1) (n := 8) hx dX5_init_26 rfl (by decide) rfl (mpe 27 rfl ?_)
  refine me_Tf (t := 49) (j_icmp_ge dX5_init_27) (by decide) (by decide) (mpe 30 rfl ?_)
  refine me_a (a_aload_n dX5_init_30 rfl) (mpe 31 rfl ?_)
  refine ms_get (i := 11) (j := 0) (v := .ref (x + 1)) hx dX5_init_31 rfl rfl rfl (mpe 34 rfl ?_)
  refine me_a (a_iload_n dX5_init_34 rfl) (mpe 35 rfl ?_)
  refine ms_new (i := 9) (ci := 2) (k := 11) hx dX5_init_35 rfl rfl ⟨Nat.le_of_ble_eq_true rfl, Nat.le_of_ble_eq_true rfl⟩ (mpe 38 rfl ?_)
  refine me_t (s_dup dX5_init_38 rfl) (mpe 39 rfl ?_)
  refine ms_init (i := 21) (q' := q_2) (l' := [(5, [.ref (x + 1), .int 0, .int 30, .int 0]), (10, [.ref (x + 2), .ref (x + 5), .ref (x + 8), .null, .null, .null, .null, .null]), (2, [.int 0, .int 0, .int 0, .ref (x + 3), .ref (x + 4)]), (8, List.replicate 8 (.int 0)), (8, List.replicate 8 (.int 0)), (2, [.int 0, .int 0, .int 0, .ref (x + 6), .ref (x + 7)]), (8, List.replicate 8 (.int 0)), (8, List.replicate 8 (.int 0)), (2, [.int 0, .int 0, .int 0, .ref (x + 9), .ref (x + 10)]), (8, List.replicate 8 (.int 0)), (8, List.replicate 8 (.int 0)), (2, [.int 0, .int 0, .int 0, .ref (x + 12), .ref (x + 13)]), (8, List.replicate 8 (.int 0)), (8, List.replicate 8 (.int 0))]) dX5_init_39 rfl qm_2 (by decide) rfl rfl (Nat.le_of_ble_eq_true rfl) ⟨Nat.le_of_ble_eq_true rfl, Nat.le_of_ble_eq_true rfl⟩ ((ei_2 (l := [(5, [.ref (x + 1), .int 0, .int 30, .int 0]), (10, [.ref (x + 2), .ref (x + 5), .ref (x + 8), .null, .null, .null, .null, .null]), (2, [.int 0, .int 0, .int 0, .ref (x + 3), .ref (x + 4)]), (8, List.replicate 8 (.int 0)), (8, List.replicate 8 (.int 0)), (2, [.int 0, .int 0, .int 0, .ref (x + 6), .ref (x + 7)]), (8, List.replicate 8 (.int 0)), (8, List.replicate 8 (.int 0)), (2, [.int 0, .int 0, .int 0, .ref (x + 9), .ref (x + 10)]), (8, List.replicate 8 (.int 0)), (8, List.replicate 8 (.int 0))]) hx rfl).mono (by decide)) (mpe 42 rfl ?_)
  refine ms_aast (k := 11) (j := 1) (N := 8) (l' := [(5, [.ref (x + 1), .int 0, .int 30, .int 0]), (10, [.ref (x + 2), .ref (x + 5), .ref (x + 8), .ref (x + 11), .null, .null, .null, .null]), (2, [.int 0, .int 0, .int 0, .ref (x + 3), .ref (x + 4)]), (8, List.replicate 8 (.int 0)), (8, List.replicate 8 (.int 0)), (2, [.int 0, .int 0, .int 0, .ref (x + 6), .ref (x + 7)]), (8, List.replicate 8 (.int 0)), (8, List.replicate 8 (.int 0)), (2, [.int 0, .int 0, .int 0, .ref (x + 9), .ref (x + 10)]), (8, List.replicate 8 (.int 0)), (8, List.replicate 8 (.int 0)), (2, [.int 0, .int 0, .int 0, .ref (x + 12), .ref (x + 13)]), (8, List.replicate 8 (.int 0)), (8, List.replicate 8 (.int 0))]) hx dX5_init_42 rfl rfl (by decide) rfl (by decide) rfl (mpe 43 rfl ?_)
  refine me_a (a_iinc (v := 4) (L' := [(1, .int 4), (0, .ref (x + 0))]) dX5_init_43 (by decide) rfl rfl rfl) (mpe 46 rfl ?_)
  refine me_a (a_goto (t := 21) dX5_init_46 (by decide)) (mpe 21 rfl ?_)
  refine me_a (a_iload_n dX5_init_21 rfl) (mpe 22 rfl ?_)
  refine me_a (a_aload_n dX5_init_22 rfl) (mpe 23 rfl ?_)
  refine ms_get (i := 11) (j := 0) (v := .ref (x + 1)) hx dX5_init_23 rfl rfl rfl (mpe 26 rfl ?_)
  refine ms_alen (j := 1) (n := 8) hx dX5_init_26 rfl (by decide) rfl (mpe 27 rfl ?_)
  refine me_Tf (t := 49) (j_icmp_ge dX5_init_27) (by decide) (by decide) (mpe 30 rfl ?_)
  refine me_a (a_aload_n dX5_init_30 rfl) (mpe 31 rfl ?_)
  refine ms_get (i := 11) (j := 0) (v := .ref (x + 1)) hx dX5_init_31 rfl rfl rfl (mpe 34 rfl ?_)
  refine me_a (a_iload_n dX5_init_34 rfl) (mpe 35 rfl ?_)
  refine ms_new (i := 9) (ci := 2) (k := 14) hx dX5_init_35 rfl rfl ⟨Nat.le_of_ble_eq_true rfl, Nat.le_of_ble_eq_true rfl⟩ (mpe 38 rfl ?_)
  refine me_t (s_dup dX5_init_38 rfl) (mpe 39 rfl ?_)
  refine ms_init (i := 21) (q' := q_2) (l' := [(5, [.ref (x + 1), .int 0, .int 30, .int 0]), (10, [.ref (x + 2), .ref (x + 5), .ref (x + 8), .ref (x + 11), .null, .null, .null, .null]), (2, [.int 0, .int 0, .int 0, .ref (x + 3), .ref (x + 4)]), (8, List.replicate 8 (.int 0)), (8, List.replicate 8 (.int 0)), (2, [.int 0, .int 0, .int 0, .ref (x + 6), .ref (x + 7)]), (8, List.replicate 8 (.int 0)), (8, List.replicate 8 (.int 0)), (2, [.int 0, .int 0, .int 0, .ref (x + 9), .ref (x + 10)]), (8, List.replicate 8 (.int 0)), (8, List.replicate 8 (.int 0)), (2, [.int 0, .int 0, .int 0, .ref (x + 12), .ref (x + 13)]), (8, List.replicate 8 (.int 0)), (8, List.replicate 8 (.int 0)), (2, [.int 0, .int 0, .int 0, .ref (x + 15), .ref (x + 16)]), (8, List.replicate 8 (.int 0)), (8, List.replicate 8 (.int 0))]) dX5_init_39 rfl qm_2 (by decide) rfl rfl (Nat.le_of_ble_eq_true rfl) ⟨Nat.le_of_ble_eq_true rfl, Nat.le_of_ble_eq_true rfl⟩ ((ei_2 (l := [(5, [.ref (x + 1), .int 0, .int 30, .int 0]), (10, [.ref (x + 2), .ref (x + 5), .ref (x + 8), .ref (x + 11), .null, .null, .null, .null]), (2, [.int 0, .int 0, .int 0, .ref (x + 3), .ref (x + 4)]), (8, List.replicate 8 (.int 0)), (8, List.replicate 8 (.int 0)), (2, [.int 0, .int 0, .int 0, .ref (x + 6), .ref (x + 7)]), (8, List.replicate 8 (.int 0)), (8, List.replicate 8 (.int 0)), (2, [.int 0, .int 0, .int 0, .ref (x + 9), .ref (x + 10)]), (8, List.replicate 8 (.int 0)), (8, List.replicate 8 (.int 0)), (2, [.int 0, .int 0, .int 0, .ref (x + 12), .ref (x + 13)]), (8, List.replicate 8 (.int 0)), (8, List.replicate 8 (.int 0))]) hx rfl).mono (by decide)) (mpe 42 rfl ?_)
  refine ms_aast (k := 14) (j := 1) (N := 8) (l' := [(5, [.ref (x + 1), .int 0, .int 30, .int 0]), (10, [.ref (x + 2), .ref (x + 5), .ref (x + 8), .ref (x + 11), .ref (x + 14), .null, .null, .null]), (2, [.int 0, .int 0, .int 0, .ref (x + 3), .ref (x + 4)]), (8, List.replicate 8 (.int 0)), (8, List.replicate 8 (.int 0)), (2, [.int 0, .int 0, .int 0, .ref (x + 6), .ref (x + 7)]), (8, List.replicate 8 (.int 0)), (8, List.replicate 8 (.int 0)), (2, [.int 0, .int 0, .int 0, .ref (x + 9), .ref (x + 10)]), (8, List.replicate 8 (.int 0)), (8, List.replicate 8 (.int 0)), (2, [.int 0, .int 0, .int 0, .ref (x + 12), .ref (x + 13)]), (8, List.replicate 8 (.int 0)), (8, List.replicate 8 (.int 0)), (2, [.int 0, .int 0, .int 0, .ref (x + 15), .ref (x + 16)]), (8, List.replicate 8 (.int 0)), (8, List.replicate 8 (.int 0))]) hx dX5_init_42 rfl rfl (by decide) rfl (by decide) rfl (mpe 43 rfl ?_)
  refine me_a (a_iinc (v := 5) (L' := [(1, .int 5), (0, .ref (x + 0))]) dX5_init_43 (by decide) rfl rfl rfl) (mpe 46 rfl ?_)
  refine me_a (a_goto (t := 21) dX5_init_46 (by decide)) (mpe 21 rfl ?_)
  refine me_a (a_iload_n dX5_init_21 rfl) (mpe 22 rfl ?_)
  refine me_a (a_aload_n dX5_init_22 rfl) (mpe 23 rfl ?_)
  refine ms_get (i := 11) (j := 0) (v := .ref (x + 1)) hx dX5_init_23 rfl rfl rfl (mpe 26 rfl ?_)
  refine ms_alen (j := 1) (n := 8) hx dX5_init_26 rfl (by decide) rfl (mpe 27 rfl ?_)
  refine me_Tf (t := 49) (j_icmp_ge dX5_init_27) (by decide) (by decide) (mpe 30 rfl ?_)
  refine me_a (a_aload_n dX5_init_30 rfl) (mpe 31 rfl ?_)
  refine ms_get (i := 11) (j := 0) (v := .ref (x + 1)) hx dX5_init_31 rfl rfl rfl (mpe 34 rfl ?_)
  refine me_a (a_iload_n dX5_init_34 rfl) (mpe 35 rfl ?_)
  refine ms_new (i := 9) (ci := 2) (k := 17) hx dX5_init_35 rfl rfl ⟨Nat.le_of_ble_eq_true rfl, Nat.le_of_ble_eq_true rfl⟩ (mpe 38 rfl ?_)
  refine me_t (s_dup dX5_init_38 rfl) (mpe 39 rfl ?_)
  refine ms_init (i := 21) (q' := q_2) (l' := [(5, [.ref (x + 1), .int 0, .int 30, .int 0]), (10, [.ref (x + 2), .ref (x + 5), .ref (x + 8), .ref (x + 11), .ref (x + 14), .null, .null, .null]), (2, [.int 0, .int 0, .int 0, .ref (x + 3), .ref (x + 4)]), (8, List.replicate 8 (.int 0)), (8, List.replicate 8 (.int 0)), (2, [.int 0, .int 0, .int 0, .ref (x + 6), .ref (x + 7)]), (8, List.replicate 8 (.int 0)), (8, List.replicate 8 (.int 0)), (2, [.int 0, .int 0, .int 0, .ref (x + 9), .ref (x + 10)]), (8, List.replicate 8 (.int 0)), (8, List.replicate 8 (.int 0)), (2, [.int 0, .int 0, .int 0, .ref (x + 12), .ref (x + 13)]), (8, List.replicate 8 (.int 0)), (8, List.replicate 8 (.int 0)), (2, [.int 0, .int 0, .int 0, .ref (x + 15), .ref (x + 16)]), (8, List.replicate 8 (.int 0)), (8, List.replicate 8 (.int 0)), (2, [.int 0, .int 0, .int 0, .ref (x + 18), .ref (x + 19)]), (8, List.replicate 8 (.int 0)), (8, List.replicate 8 (.int 0))]) dX5_init_39 rfl qm_2 (by decide) rfl rfl (Nat.le_of_ble_eq_true rfl) ⟨Nat.le_of_ble_eq_true rfl, Nat.le_of_ble_eq_true rfl⟩ ((ei_2 (l := [(5, [.ref (x + 1), .int 0, .int 30, .int 0]), (10, [.ref (x + 2), .ref (x + 5), .ref (x + 8), .ref (x + 11), .ref (x + 14), .null, .null, .null]), (2, [.int 0, .int 0, .int 0, .ref (x + 3), .ref (x + 4)]), (8, List.replicate 8 (.int 0)), (8, List.replicate 8 (.int 0)), (2, [.int 0, .int 0, .int 0, .ref (x + 6), .ref (x + 7)]), (8, List.replicate 8 (.int 0)), (8, List.replicate 8 (.int 0)), (2, [.int 0, .int 0, .int 0, .ref (x + 9), .ref (x + 10)]), (8, List.replicate 8 (.int 0)), (8, List.replicate 8 (.int 0)), (2, [.int 0, .int 0, .int 0, .ref (x + 12), .ref (x + 13)]), (8, List.replicate 8 (.int 0)), (8, List.replicate 8 (.int 0)), (2, [.int 0, .int 0, .int 0, .ref (x + 15), .ref (x + 16)]), (8, List.replicate 8 (.int 0)), (8, List.replicate 8 (.int 0))]) hx rfl).mono (by decide)) (mpe 42 rfl ?_)
  refine ms_aast (k := 17) (j := 1) (N := 8) (l' := [(5, [.ref (x + 1), .int 0, .int 30, .int 0]), (10, [.ref (x + 2), .ref (x + 5), .ref (x + 8), .ref (x + 11), .ref (x + 14), .ref (x + 17), .null, .null]), (2, [.int 0, .int 0, .int 0, .ref (x + 3), .ref (x + 4)]), (8, List.replicate 8 (.int 0)), (8, List.replicate 8 (.int 0)), (2, [.int 0, .int 0, .int 0, .ref (x + 6), .ref (x + 7)]), (8, List.replicate 8 (.int 0)), (8, List.replicate 8 (.int 0)), (2, [.int 0, .int 0, .int 0, .ref (x + 9), .ref (x + 10)]), (8, List.replicate 8 (.int 0)), (8, List.replicate 8 (.int 0)), (2, [.int 0, .int 0, .int 0, .ref (x + 12), .ref (x + 13)]), (8, List.replicate 8 (.int 0)), (8, List.replicate 8 (.int 0)), (2, [.int 0, .int 0, .int 0, .ref (x + 15), .ref (x + 16)]), (8, List.replicate 8 (.int 0)), (8, List.replicate 8 (.int 0)), (2, [.int 0, .int 0, .int 0, .ref (x + 18), .ref (x + 19)]), (8, List.replicate 8 (.int 0)), (8, List.replicate 8 (.int 0))]) hx dX5_init_42 rfl rfl (by decide) rfl (by decide) rfl (mpe 43 rfl ?_)
  refine me_a (a_iinc (v := 6) (L' := [(1, .int 6), (0, .ref (x + 0))]) dX5_init_43 (by decide) rfl rfl rfl) (mpe 46 rfl ?_)
  refine me_a (a_goto (t := 21) dX5_init_46 (by decide)) (mpe 21 rfl ?_)
  refine me_a (a_iload_n dX5_init_21 rfl) (mpe 22 rfl ?_)
  refine me_a (a_aload_n dX5_init_22 rfl) (mpe 23 rfl ?_)
  refine ms_get (i := 11) (j := 0) (v := .ref (x + 1)) hx dX5_init_23 rfl rfl rfl (mpe 26 rfl ?_)
  refine ms_alen (j := 1) (n := 8) hx dX5_init_26 rfl (by decide) rfl (mpe 27 rfl ?_)
  refine me_Tf (t := 49) (j_icmp_ge dX5_init_27) (by decide) (by decide) (mpe 30 rfl ?_)
  refine me_a (a_aload_n dX5_init_30 rfl) (mpe 31 rfl ?_)
  refine ms_get (i := 11) (j := 0) (v := .ref (x + 1)) hx dX5_init_31 rfl rfl rfl (mpe 34 rfl ?_)
  refine me_a (a_iload_n dX5_init_34 rfl) (mpe 35 rfl ?_)
  refine ms_new (i := 9) (ci := 2) (k := 20) hx dX5_init_35 rfl rfl ⟨Nat.le_of_ble_eq_true rfl, Nat.le_of_ble_eq_true rfl⟩ (mpe 38 rfl ?_)
  refine me_t (s_dup dX5_init_38 rfl) (mpe 39 rfl ?_)
  refine ms_init (i := 21) (q' := q_2) (l' := [(5, [.ref (x + 1), .int 0, .int 30, .int 0]), (10, [.ref (x + 2), .ref (x + 5), .ref (x + 8), .ref (x + 11), .ref (x + 14), .ref (x + 17), .null, .null]), (2, [.int 0, .int 0, .int 0, .ref (x + 3), .ref (x + 4)]), (8, List.replicate 8 (.int 0)), (8, List.replicate 8 (.int 0)), (2, [.int 0, .int 0, .int 0, .ref (x + 6), .ref (x + 7)]), (8, List.replicate 8 (.int 0)), (8, List.replicate 8 (.int 0)), (2, [.int 0, .int 0, .int 0, .ref (x + 9), .ref (x + 10)]), (8, List.replicate 8 (.int 0)), (8, List.replicate 8 (.int 0)), (2, [.int 0, .int 0, .int 0, .ref (x + 12), .ref (x + 13)]), (8, List.replicate 8 (.int 0)), (8, List.replicate 8 (.int 0)), (2, [.int 0, .int 0, .int 0, .ref (x + 15), .ref (x + 16)]), (8, List.replicate 8 (.int 0)), (8, List.replicate 8 (.int 0)), (2, [.int 0, .int 0, .int 0, .ref (x + 18), .ref (x + 19)]), (8, List.replicate 8 (.int 0)), (8, List.replicate 8 (.int 0)), (2, [.int 0, .int 0, .int 0, .ref (x + 21), .ref (x + 22)]), (8, List.replicate 8 (.int 0)), (8, List.replicate 8 (.int 0))]) dX5_init_39 rfl qm_2 (by decide) rfl rfl (Nat.le_of_ble_eq_true rfl) ⟨Nat.le_of_ble_eq_true rfl, Nat.le_of_ble_eq_true rfl⟩ ((ei_2 (l := [(5, [.ref (x + 1), .int 0, .int 30, .int 0]), (10, [.ref (x + 2), .ref (x + 5), .ref (x + 8), .ref (x + 11), .ref (x + 14), .ref (x + 17), .null, .null]), (2, [.int 0, .int 0, .int 0, .ref (x + 3), .ref (x + 4)]), (8, List.replicate 8 (.int 0)), (8, List.replicate 8 (.int 0)), (2, [.int 0, .int 0, .int 0, .ref (x + 6), .ref (x + 7)]), (8, List.replicate 8 (.int 0)), (8, List.replicate 8 (.int 0)), (2, [.int 0, .int 0, .int 0, .ref (x + 9), .ref (x + 10)]), (8, List.replicate 8 (.int 0)), (8, List.replicate 8 (.int 0)), (2, [.int 0, .int 0, .int 0, .ref (x + 12), .ref (x + 13)]), (8, List.replicate 8 (.int 0)), (8, List.replicate 8 (.int 0)), (2, [.int 0, .int 0, .int 0, .ref (x + 15), .ref (x + 16)]), (8, List.replicate 8 (.int 0)), (8, List.replicate 8 (.int 0)), (2, [.int 0, .int 0, .int 0, .ref (x + 18), .ref (x + 19)]), (8, List.replicate 8 (.int 0)), (8, List.replicate 8 (.int 0))]) hx rfl).mono (by decide)) (mpe 42 rfl ?_)
  refine ms_aast (k := 20) (j := 1) (N := 8) (l' := [(5, [.ref (x + 1), .int 0, .int 30, .int 0]), (10, [.ref (x + 2), .ref (x + 5), .ref (x + 8), .ref (x + 11), .ref (x + 14), .ref (x + 17), .ref (x + 20), .null]), (2, [.int 0, .int 0, .int 0, .ref (x + 3), .ref (x + 4)]), (8, List.replicate 8 (.int 0)), (8, List.replicate 8 (.int 0)), (2, [.int 0, .int 0, .int 0, .ref (x + 6), .ref (x + 7)]), (8, List.replicate 8 (.int 0)), (8, List.replicate 8 (.int 0)), (2, [.int 0, .int 0, .int 0, .ref (x + 9), .ref (x + 10)]), (8, List.replicate 8 (.int 0)), (8, List.replicate 8 (.int 0)), (2, [.int 0, .int 0, .int 0, .ref (x + 12), .ref (x + 13)]), (8, List.replicate 8 (.int 0)), (8, List.replicate 8 (.int 0)), (2, [.int 0, .int 0, .int 0, .ref (x + 15), .ref (x + 16)]), (8, List.replicate 8 (.int 0)), (8, List.replicate 8 (.int 0)), (2, [.int 0, .int 0, .int 0, .ref (x + 18), .ref (x + 19)]), (8, List.replicate 8 (.int 0)), (8, List.replicate 8 (.int 0)), (2, [.int 0, .int 0, .int 0, .ref (x + 21), .ref (x + 22)]), (8, List.replicate 8 (.int 0)), (8, List.replicate 8 (.int 0))]) hx dX5_init_42 rfl rfl (by decide) rfl (by decide) rfl (mpe 43 rfl ?_)
  refine me_a (a_iinc (v := 7) (L' := [(1, .int 7), (0, .ref (x + 0))]) dX5_init_43 (by decide) rfl rfl rfl) (mpe 46 rfl ?_)
  refine me_a (a_goto (t := 21) dX5_init_46 (by decide)) (mpe 21 rfl ?_)
  refine me_a (a_iload_n dX5_init_21 rfl) (mpe 22 rfl ?_)
  refine me_a (a_aload_n dX5_init_22 rfl) (mpe 23 rfl ?_)
  refine ms_get (i := 11) (j := 0) (v := .ref (x + 1)) hx dX5_init_23 rfl rfl rfl (mpe 26 rfl ?_)
  refine ms_alen (j := 1) (n := 8) hx dX5_init_26 rfl (by decide) rfl (mpe 27 rfl ?_)
  refine me_Tf (t := 49) (j_icmp_ge dX5_init_27) (by decide) (by decide) (mpe 30 rfl ?_)
  refine me_a (a_aload_n dX5_init_30 rfl) (mpe 31 rfl ?_)
  refine ms_get (i := 11) (j := 0) (v := .ref (x + 1)) hx dX5_init_31 rfl rfl rfl (mpe 34 rfl ?_)
  refine me_a (a_iload_n dX5_init_34 rfl) (mpe 35 rfl ?_)
  refine ms_new (i := 9) (ci := 2) (k := 23) hx dX5_init_35 rfl rfl ⟨Nat.le_of_ble_eq_true rfl, Nat.le_of_ble_eq_true rfl⟩ (mpe 38 rfl ?_)
  refine me_t (s_dup dX5_init_38 rfl) (mpe 39 rfl ?_)
  refine ms_init (i := 21) (q' := q_2) (l' := [(5, [.ref (x + 1), .int 0, .int 30, .int 0]), (10, [.ref (x + 2), .ref (x + 5), .ref (x + 8), .ref (x + 11), .ref (x + 14), .ref (x + 17), .ref (x + 20), .null]), (2, [.int 0, .int 0, .int 0, .ref (x + 3), .ref (x + 4)]), (8, List.replicate 8 (.int 0)), (8, List.replicate 8 (.int 0)), (2, [.int 0, .int 0, .int 0, .ref (x + 6), .ref (x + 7)]), (8, List.replicate 8 (.int 0)), (8, List.replicate 8 (.int 0)), (2, [.int 0, .int 0, .int 0, .ref (x + 9), .ref (x + 10)]), (8, List.replicate 8 (.int 0)), (8, List.replicate 8 (.int 0)), (2, [.int 0, .int 0, .int 0, .ref (x + 12), .ref (x + 13)]), (8, List.replicate 8 (.int 0)), (8, List.replicate 8 (.int 0)), (2, [.int 0, .int 0, .int 0, .ref (x + 15), .ref (x + 16)]), (8, List.replicate 8 (.int 0)), (8, List.replicate 8 (.int 0)), (2, [.int 0, .int 0, .int 0, .ref (x + 18), .ref (x + 19)]), (8, List.replicate 8 (.int 0)), (8, List.replicate 8 (.int 0)), (2, [.int 0, .int 0, .int 0, .ref (x + 21), .ref (x + 22)]), (8, List.replicate 8 (.int 0)), (8, List.replicate 8 (.int 0)), (2, [.int 0, .int 0, .int 0, .ref (x + 24), .ref (x + 25)]), (8, List.replicate 8 (.int 0)), (8, List.replicate 8 (.int 0))]) dX5_init_39 rfl qm_2 (by decide) rfl rfl (Nat.le_of_ble_eq_true rfl) ⟨Nat.le_of_ble_eq_true rfl, Nat.le_of_ble_eq_true rfl⟩ ((ei_2 (l := [(5, [.ref (x + 1), .int 0, .int 30, .int 0]), (10, [.ref (x + 2), .ref (x + 5), .ref (x + 8), .ref (x + 11), .ref (x + 14), .ref (x + 17), .ref (x + 20), .null]), (2, [.int 0, .int 0, .int 0, .ref (x + 3), .ref (x + 4)]), (8, List.replicate 8 (.int 0)), (8, List.replicate 8 (.int 0)), (2, [.int 0, .int 0, .int 0, .ref (x + 6), .ref (x + 7)]), (8, List.replicate 8 (.int 0)), (8, List.replicate 8 (.int 0)), (2, [.int 0, .int 0, .int 0, .ref (x + 9), .ref (x + 10)]), (8, List.replicate 8 (.int 0)), (8, List.replicate 8 (.int 0)), (2, [.int 0, .int 0, .int 0, .ref (x + 12), .ref (x + 13)]), (8, List.replicate 8 (.int 0)), (8, List.replicate 8 (.int 0)), (2, [.int 0, .int 0, .int 0, .ref (x + 15), .ref (x + 16)]), (8, List.replicate 8 (.int 0)), (8, List.replicate 8 (.int 0)), (2, [.int 0, .int 0, .int 0, .ref (x + 18), .ref (x + 19)]), (8, List.replicate 8 (.int 0)), (8, List.replicate 8 (.int 0)), (2, [.int 0, .int 0, .int 0, .ref (x + 21), .ref (x + 22)]), (8, List.replicate 8 (.int 0)), (8, List.replicate 8 (.int 0))]) hx rfl).mono (by decide)) (mpe 42 rfl ?_)
  refine ms_aast (k := 23) (j := 1) (N := 8) (l' := [(5, [.ref (x + 1), .int 0, .int 30, .int 0]), (10, [.ref (x + 2), .ref (x + 5), .ref (x + 8), .ref (x + 11), .ref (x + 14), .ref (x + 17), .ref (x + 20), .ref (x + 23)]), (2, [.int 0, .int 0, .int 0, .ref (x + 3), .ref (x + 4)]), (8, List.replicate 8 (.int 0)), (8, List.replicate 8 (.int 0)), (2, [.int 0, .int 0, .int 0, .ref (x + 6), .ref (x + 7)]), (8, List.replicate 8 (.int 0)), (8, List.replicate 8 (.int 0)), (2, [.int 0, .int 0, .int 0, .ref (x + 9), .ref (x + 10)]), (8, List.replicate 8 (.int 0)), (8, List.replicate 8 (.int 0)), (2, [.int 0, .int 0, .int 0, .ref (x + 12), .ref (x + 13)]), (8, List.replicate 8 (.int 0)), (8, List.replicate 8 (.int 0)), (2, [.int 0, .int 0, .int 0, .ref (x + 15), .ref (x + 16)]), (8, List.replicate 8 (.int 0)), (8, List.replicate 8 (.int 0)), (2, [.int 0, .int 0, .int 0, .ref (x + 18), .ref (x + 19)]), (8, List.replicate 8 (.int 0)), (8, List.replicate 8 (.int 0)), (2, [.int 0, .int 0, .int 0, .ref (x + 21), .ref (x + 22)]), (8, List.replicate 8 (.int 0)), (8, List.replicate 8 (.int 0)), (2, [.int 0, .int 0, .int 0, .ref (x + 24), .ref (x + 25)]), (8, List.replicate 8 (.int 0)), (8, List.replicate 8 (.int 0))]) hx dX5_init_42 rfl rfl (by decide) rfl (by decide) rfl (mpe 43 rfl ?_)
  refine me_a (a_iinc (v := 8) (L' := [(1, .int 8), (0, .ref (x + 0))]) dX5_init_43 (by decide) rfl rfl rfl) (mpe 46 rfl ?_)
  refine me_a (a_goto (t := 21) dX5_init_46 (by decide)) (mpe 21 rfl ?_)
  refine me_a (a_iload_n dX5_init_21 rfl) (mpe 22 rfl ?_)
  refine me_a (a_aload_n dX5_init_22 rfl) (mpe 23 rfl ?_)
  refine ms_get (i := 11) (j := 0) (v := .ref (x + 1)) hx dX5_init_23 rfl rfl rfl (mpe 26 rfl ?_)
  refine ms_alen (j := 1) (n := 8) hx dX5_init_26 rfl (by decide) rfl (mpe 27 rfl ?_)
  refine me_Tt (t := 49) (j_icmp_ge dX5_init_27) (by decide) (by decide) (mpe 49 rfl ?_)
  exact ms_ret dX5_init_49 rfl rfl
theorem ei_1 {X l : mP} {x k : Nat} (hx : X.length = x) (hk : l.length = k) : Ev 2 1 [.ref (x + k)] (X ++ (l ++ [(5, mdef 5)])) none (X ++ (l ++ rState (x + k))) := by
  have h := ec_1 (X := X ++ l) (x := x + k) (by rw [List.length_append, hx, hk])
  rw [List.append_assoc, List.append_assoc] at h
  exact h
def q_3 : mQ := (yX0_init, cX0_init, 2, none, 0, 0, 209, 1448)
theorem qm_3 : mtL[3]? = some q_3 := rfl

def rHist (x : Nat) : mP := [(0, [.ref (x + 1), .int 0, .int 0, .int 0]), (11, [.ref (x + 2), .ref (x + 28), .ref (x + 54), .ref (x + 80), .ref (x + 106), .ref (x + 132), .ref (x + 158), .ref (x + 184)])] ++ rState (x + 2) ++ rState (x + 28) ++ rState (x + 54) ++ rState (x + 80) ++ rState (x + 106) ++ rState (x + 132) ++ rState (x + 158) ++ rState (x + 184)
set_option maxRecDepth 100000 in
set_option maxHeartbeats 4000000 in
theorem ec_3 {X : mP} {x : Nat} (hx : X.length = x) : Ev 3 3 [.ref (x + 0)] (X ++ [(0, mdef 0)]) none (X ++ rHist x) := by
  refine Ev.of qm_3 (Nat.le_of_ble_eq_true rfl) rfl ?_
  show MEv _ none q_3 0 [(0, .ref (x + 0))] [] _ 0 0 none _
  refine me_a (a_aload_n dX0_init_0 rfl) (mpe 1 rfl ?_)
  refine me_obj (i := 3) (k := 0) dX0_init_1 rfl (Nat.le_of_ble_eq_true rfl) rfl ⟨Nat.le_of_ble_eq_true rfl, Nat.le_of_ble_eq_true rfl⟩ (mpe 4 rfl ?_)
  refine me_a (a_aload_n dX0_init_4 rfl) (mpe 5 rfl ?_)
  refine me_a (a_bipush (v := 8) dX0_init_5 rfl) (mpe 7 rfl ?_)
  refine ms_anew (i := 9) (kd := 11) (ci := 5) (k := 1) (N := 8) hx dX0_init_7 rfl (by decide) (by decide) rfl (by decide) rfl ⟨Nat.le_of_ble_eq_true rfl, Nat.le_of_ble_eq_true rfl⟩ (mpe 10 rfl ?_)
  refine ms_put (i := 11) (j := 0) (l' := [(0, [.ref (x + 1), .int 0, .int 0, .int 0]), (11, [.null, .null, .null, .null, .null, .null, .null, .null])]) hx dX0_init_10 rfl rfl (Nat.le_of_ble_eq_true rfl) rfl (Or.inr ⟨rfl, rfl, rfl⟩) rfl (mpe 13 rfl ?_)
  refine me_a (a_iconst (v := 0) dX0_init_13 rfl) (mpe 14 rfl ?_)
  refine me_a (a_istore_n (L' := [(1, .int 0), (0, .ref (x + 0))]) dX0_init_14 (by decide) rfl) (mpe 15 rfl ?_)
  refine me_a (a_iload_n dX0_init_15 rfl) (mpe 16 rfl ?_)
  refine me_a (a_aload_n dX0_init_16 rfl) (mpe 17 rfl ?_)
  refine ms_get (i := 11) (j := 0) (v := .ref (x + 1)) hx dX0_init_17 rfl rfl rfl (mpe 20 rfl ?_)
  refine ms_alen (j := 1) (n := 8) hx dX0_init_20 rfl (by decide) rfl (mpe 21 rfl ?_)
  refine me_Tf (t := 43) (j_icmp_ge dX0_init_21) (by decide) (by decide) (mpe 24 rfl ?_)
  refine me_a (a_aload_n dX0_init_24 rfl) (mpe 25 rfl ?_)
  refine ms_get (i := 11) (j := 0) (v := .ref (x + 1)) hx dX0_init_25 rfl rfl rfl (mpe 28 rfl ?_)
  refine me_a (a_iload_n dX0_init_28 rfl) (mpe 29 rfl ?_)
  refine ms_new (i := 9) (ci := 5) (k := 2) hx dX0_init_29 rfl rfl ⟨Nat.le_of_ble_eq_true rfl, Nat.le_of_ble_eq_true rfl⟩ (mpe 32 rfl ?_)
  refine me_t (s_dup dX0_init_32 rfl) (mpe 33 rfl ?_)
  refine ms_init (i := 17) (q' := q_1) (l' := [(0, [.ref (x + 1), .int 0, .int 0, .int 0]), (11, [.null, .null, .null, .null, .null, .null, .null, .null])] ++ rState (x + 2)) dX0_init_33 rfl qm_1 (by decide) rfl rfl (Nat.le_of_ble_eq_true rfl) ⟨Nat.le_of_ble_eq_true rfl, Nat.le_of_ble_eq_true rfl⟩ ((ei_1 (l := [(0, [.ref (x + 1), .int 0, .int 0, .int 0]), (11, [.null, .null, .null, .null, .null, .null, .null, .null])]) hx rfl).mono (by decide)) (mpe 36 rfl ?_)
  refine ms_aast (k := 2) (j := 1) (N := 8) (l' := [(0, [.ref (x + 1), .int 0, .int 0, .int 0]), (11, [.ref (x + 2), .null, .null, .null, .null, .null, .null, .null])] ++ rState (x + 2)) hx dX0_init_36 rfl rfl (by decide) rfl (by decide) rfl (mpe 37 rfl ?_)
  refine me_a (a_iinc (v := 1) (L' := [(1, .int 1), (0, .ref (x + 0))]) dX0_init_37 (by decide) rfl rfl rfl) (mpe 40 rfl ?_)
  refine me_a (a_goto (t := 15) dX0_init_40 (by decide)) (mpe 15 rfl ?_)
  refine me_a (a_iload_n dX0_init_15 rfl) (mpe 16 rfl ?_)
  refine me_a (a_aload_n dX0_init_16 rfl) (mpe 17 rfl ?_)
  refine ms_get (i := 11) (j := 0) (v := .ref (x + 1)) hx dX0_init_17 rfl rfl rfl (mpe 20 rfl ?_)
  refine ms_alen (j := 1) (n := 8) hx dX0_init_20 rfl (by decide) rfl (mpe 21 rfl ?_)
  refine me_Tf (t := 43) (j_icmp_ge dX0_init_21) (by decide) (by decide) (mpe 24 rfl ?_)
  refine me_a (a_aload_n dX0_init_24 rfl) (mpe 25 rfl ?_)
  refine ms_get (i := 11) (j := 0) (v := .ref (x + 1)) hx dX0_init_25 rfl rfl rfl (mpe 28 rfl ?_)
  refine me_a (a_iload_n dX0_init_28 rfl) (mpe 29 rfl ?_)
  refine ms_new (i := 9) (ci := 5) (k := 28) hx dX0_init_29 rfl rfl ⟨Nat.le_of_ble_eq_true rfl, Nat.le_of_ble_eq_true rfl⟩ (mpe 32 rfl ?_)
  refine me_t (s_dup dX0_init_32 rfl) (mpe 33 rfl ?_)
  refine ms_init (i := 17) (q' := q_1) (l' := [(0, [.ref (x + 1), .int 0, .int 0, .int 0]), (11, [.ref (x + 2), .null, .null, .null, .null, .null, .null, .null])] ++ rState (x + 2) ++ rState (x + 28)) dX0_init_33 rfl qm_1 (by decide) rfl rfl (Nat.le_of_ble_eq_true rfl) ⟨Nat.le_of_ble_eq_true rfl, Nat.le_of_ble_eq_true rfl⟩ ((ei_1 (l := [(0, [.ref (x + 1), .int 0, .int 0, .int 0]), (11, [.ref (x + 2), .null, .null, .null, .null, .null, .null, .null])] ++ rState (x + 2)) hx rfl).mono (by decide)) (mpe 36 rfl ?_)
  refine ms_aast (k := 28) (j := 1) (N := 8) (l' := [(0, [.ref (x + 1), .int 0, .int 0, .int 0]), (11, [.ref (x + 2), .ref (x + 28), .null, .null, .null, .null, .null, .null])] ++ rState (x + 2) ++ rState (x + 28)) hx dX0_init_36 rfl rfl (by decide) rfl (by decide) rfl (mpe 37 rfl ?_)
  refine me_a (a_iinc (v := 2) (L' := [(1, .int 2), (0, .ref (x + 0))]) dX0_init_37 (by decide) rfl rfl rfl) (mpe 40 rfl ?_)
  refine me_a (a_goto (t := 15) dX0_init_40 (by decide)) (mpe 15 rfl ?_)
  refine me_a (a_iload_n dX0_init_15 rfl) (mpe 16 rfl ?_)
  refine me_a (a_aload_n dX0_init_16 rfl) (mpe 17 rfl ?_)
  refine ms_get (i := 11) (j := 0) (v := .ref (x + 1)) hx dX0_init_17 rfl rfl rfl (mpe 20 rfl ?_)
  refine ms_alen (j := 1) (n := 8) hx dX0_init_20 rfl (by decide) rfl (mpe 21 rfl ?_)
  refine me_Tf (t := 43) (j_icmp_ge dX0_init_21) (by decide) (by decide) (mpe 24 rfl ?_)
  refine me_a (a_aload_n dX0_init_24 rfl) (mpe 25 rfl ?_)
  refine ms_get (i := 11) (j := 0) (v := .ref (x + 1)) hx dX0_init_25 rfl rfl rfl (mpe 28 rfl ?_)
  refine me_a (a_iload_n dX0_init_28 rfl) (mpe 29 rfl ?_)
  refine ms_new (i := 9) (ci := 5) (k := 54) hx dX0_init_29 rfl rfl ⟨Nat.le_of_ble_eq_true rfl, Nat.le_of_ble_eq_true rfl⟩ (mpe 32 rfl ?_)
  refine me_t (s_dup dX0_init_32 rfl) (mpe 33 rfl ?_)
  refine ms_init (i := 17) (q' := q_1) (l' := [(0, [.ref (x + 1), .int 0, .int 0, .int 0]), (11, [.ref (x + 2), .ref (x + 28), .null, .null, .null, .null, .null, .null])] ++ rState (x + 2) ++ rState (x + 28) ++ rState (x + 54)) dX0_init_33 rfl qm_1 (by decide) rfl rfl (Nat.le_of_ble_eq_true rfl) ⟨Nat.le_of_ble_eq_true rfl, Nat.le_of_ble_eq_true rfl⟩ ((ei_1 (l := [(0, [.ref (x + 1), .int 0, .int 0, .int 0]), (11, [.ref (x + 2), .ref (x + 28), .null, .null, .null, .null, .null, .null])] ++ rState (x + 2) ++ rState (x + 28)) hx rfl).mono (by decide)) (mpe 36 rfl ?_)
  refine ms_aast (k := 54) (j := 1) (N := 8) (l' := [(0, [.ref (x + 1), .int 0, .int 0, .int 0]), (11, [.ref (x + 2), .ref (x + 28), .ref (x + 54), .null, .null, .null, .null, .null])] ++ rState (x + 2) ++ rState (x + 28) ++ rState (x + 54)) hx dX0_init_36 rfl rfl (by decide) rfl (by decide) rfl (mpe 37 rfl ?_)
  refine me_a (a_iinc (v := 3) (L' := [(1, .int 3), (0, .ref (x + 0))]) dX0_init_37 (by decide) rfl rfl rfl) (mpe 40 rfl ?_)
  refine me_a (a_goto (t := 15) dX0_init_40 (by decide)) (mpe 15 rfl ?_)
  refine me_a (a_iload_n dX0_init_15 rfl) (mpe 16 rfl ?_)
  refine me_a (a_aload_n dX0_init_16 rfl) (mpe 17 rfl ?_)
  refine ms_get (i := 11) (j := 0) (v := .ref (x + 1)) hx dX0_init_17 rfl rfl rfl (mpe 20 rfl ?_)
  refine ms_alen (j := 1) (n := 8) hx dX0_init_20 rfl (by decide) rfl (mpe 21 rfl ?_)
  refine me_Tf (t := 43) (j_icmp_ge dX0_init_21) (by decide) (by decide) (mpe 24 rfl ?_)
  refine me_a (a_aload_n dX0_init_24 rfl) (mpe 25 rfl ?_)
  refine ms_get (i := 11) (j := 0) (v := .ref (x + 1)) hx dX0_init_25 rfl rfl rfl (mpe 28 rfl ?_)
  refine me_a (a_iload_n dX0_init_28 rfl) (mpe 29 rfl ?_)
  refine ms_new (i := 9) (ci := 5) (k := 80) hx dX0_init_29 rfl rfl ⟨Nat.le_of_ble_eq_true rfl, Nat.le_of_ble_eq_true rfl⟩ (mpe 32 rfl ?_)
  refine me_t (s_dup dX0_init_32 rfl) (mpe 33 rfl ?_)
  refine ms_init (i := 17) (q' := q_1) (l' := [(0, [.ref (x + 1), .int 0, .int 0, .int 0]), (11, [.ref (x + 2), .ref (x + 28), .ref (x + 54), .null, .null, .null, .null, .null])] ++ rState (x + 2) ++ rState (x + 28) ++ rState (x + 54) ++ rState (x + 80)) dX0_init_33 rfl qm_1 (by decide) rfl rfl (Nat.le_of_ble_eq_true rfl) ⟨Nat.le_of_ble_eq_true rfl, Nat.le_of_ble_eq_true rfl⟩ ((ei_1 (l := [(0, [.ref (x + 1), .int 0, .int 0, .int 0]), (11, [.ref (x + 2), .ref (x + 28), .ref (x + 54), .null, .null, .null, .null, .null])] ++ rState (x + 2) ++ rState (x + 28) ++ rState (x + 54)) hx rfl).mono (by decide)) (mpe 36 rfl ?_)
  refine ms_aast (k := 80) (j := 1) (N := 8) (l' := [(0, [.ref (x + 1), .int 0, .int 0, .int 0]), (11, [.ref (x + 2), .ref (x + 28), .ref (x + 54), .ref (x + 80), .null, .null, .null, .null])] ++ rState (x + 2) ++ rState (x + 28) ++ rState (x + 54) ++ rState (x + 80)) hx dX0_init_36 rfl rfl (by decide) rfl (by decide) rfl (mpe 37 rfl ?_)
  refine me_a (a_iinc (v := 4) (L' := [(1, .int 4), (0, .ref (x + 0))]) dX0_init_37 (by decide) rfl rfl rfl) (mpe 40 rfl ?_)
  refine me_a (a_goto (t := 15) dX0_init_40 (by decide)) (mpe 15 rfl ?_)
  refine me_a (a_iload_n dX0_init_15 rfl) (mpe 16 rfl ?_)
  refine me_a (a_aload_n dX0_init_16 rfl) (mpe 17 rfl ?_)
  refine ms_get (i := 11) (j := 0) (v := .ref (x + 1)) hx dX0_init_17 rfl rfl rfl (mpe 20 rfl ?_)
  refine ms_alen (j := 1) (n := 8) hx dX0_init_20 rfl (by decide) rfl (mpe 21 rfl ?_)
  refine me_Tf (t := 43) (j_icmp_ge dX0_init_21) (by decide) (by decide) (mpe 24 rfl ?_)
  refine me_a (a_aload_n dX0_init_24 rfl) (mpe 25 rfl ?_)
  refine ms_get (i := 11) (j := 0) (v := .ref (x + 1)) hx dX0_init_25 rfl rfl rfl (mpe 28 rfl ?_)
  refine me_a (a_iload_n dX0_init_28 rfl) (mpe 29 rfl ?_)
  refine ms_new (i := 9) (ci := 5) (k := 106) hx dX0_init_29 rfl rfl ⟨Nat.le_of_ble_eq_true rfl, Nat.le_of_ble_eq_true rfl⟩ (mpe 32 rfl ?_)
  refine me_t (s_dup dX0_init_32 rfl) (mpe 33 rfl ?_)
  refine ms_init (i := 17) (q' := q_1) (l' := [(0, [.ref (x + 1), .int 0, .int 0, .int 0]), (11, [.ref (x + 2), .ref (x + 28), .ref (x + 54), .ref (x + 80), .null, .null, .null, .null])] ++ rState (x + 2) ++ rState (x + 28) ++ rState (x + 54) ++ rState (x + 80) ++ rState (x + 106)) dX0_init_33 rfl qm_1 (by decide) rfl rfl (Nat.le_of_ble_eq_true rfl) ⟨Nat.le_of_ble_eq_true rfl, Nat.le_of_ble_eq_true rfl⟩ ((ei_1 (l := [(0, [.ref (x + 1), .int 0, .int 0, .int 0]), (11, [.ref (x + 2), .ref (x + 28), .ref (x + 54), .ref (x + 80), .null, .null, .null, .null])] ++ rState (x + 2) ++ rState (x + 28) ++ rState (x + 54) ++ rState (x + 80)) hx rfl).mono (by decide)) (mpe 36 rfl ?_)
  refine ms_aast (k := 106) (j := 1) (N := 8) (l' := [(0, [.ref (x + 1), .int 0, .int 0, .int 0]), (11, [.ref (x + 2), .ref (x + 28), .ref (x + 54), .ref (x + 80), .ref (x + 106), .null, .null, .null])] ++ rState (x + 2) ++ rState (x + 28) ++ rState (x + 54) ++ rState (x + 80) ++ rState (x + 106)) hx dX0_init_36 rfl rfl (by decide) rfl (by decide) rfl (mpe 37 rfl ?_)
  refine me_a (a_iinc (v := 5) (L' := [(1, .int 5), (0, .ref (x + 0))]) dX0_init_37 (by decide) rfl rfl rfl) (mpe 40 rfl ?_)
  refine me_a (a_goto (t := 15) dX0_init_40 (by decide)) (mpe 15 rfl ?_)
  refine me_a (a_iload_n dX0_init_15 rfl) (mpe 16 rfl ?_)
  refine me_a (a_aload_n dX0_init_16 rfl) (mpe 17 rfl ?_)
  refine ms_get (i := 11) (j := 0) (v := .ref (x + 1)) hx dX0_init_17 rfl rfl rfl (mpe 20 rfl ?_)
  refine ms_alen (j := 1) (n := 8) hx dX0_init_20 rfl (by decide) rfl (mpe 21 rfl ?_)
  refine me_Tf (t := 43) (j_icmp_ge dX0_init_21) (by decide) (by decide) (mpe 24 rfl ?_)
  refine me_a (a_aload_n dX0_init_24 rfl) (mpe 25 rfl ?_)
  refine ms_get (i := 11) (j := 0) (v := .ref (x + 1)) hx dX0_init_25 rfl rfl rfl (mpe 28 rfl ?_)
  refine me_a (a_iload_n dX0_init_28 rfl) (mpe 29 rfl ?_)
  refine ms_new (i := 9) (ci := 5) (k := 132) hx dX0_init_29 rfl rfl ⟨Nat.le_of_ble_eq_true rfl, Nat.le_of_ble_eq_true rfl⟩ (mpe 32 rfl ?_)
  refine me_t (s_dup dX0_init_32 rfl) (mpe 33 rfl ?_)
  refine ms_init (i := 17) (q' := q_1) (l' := [(0, [.ref (x + 1), .int 0, .int 0, .int 0]), (11, [.ref (x + 2), .ref (x + 28), .ref (x + 54), .ref (x + 80), .ref (x + 106), .null, .null, .null])] ++ rState (x + 2) ++ rState (x + 28) ++ rState (x + 54) ++ rState (x + 80) ++ rState (x + 106) ++ rState (x + 132)) dX0_init_33 rfl qm_1 (by decide) rfl rfl (Nat.le_of_ble_eq_true rfl) ⟨Nat.le_of_ble_eq_true rfl, Nat.le_of_ble_eq_true rfl⟩ ((ei_1 (l := [(0, [.ref (x + 1), .int 0, .int 0, .int 0]), (11, [.ref (x + 2), .ref (x + 28), .ref (x + 54), .ref (x + 80), .ref (x + 106), .null, .null, .null])] ++ rState (x + 2) ++ rState (x + 28) ++ rState (x + 54) ++ rState (x + 80) ++ rState (x + 106)) hx rfl).mono (by decide)) (mpe 36 rfl ?_)
  refine ms_aast (k := 132) (j := 1) (N := 8) (l' := [(0, [.ref (x + 1), .int 0, .int 0, .int 0]), (11, [.ref (x + 2), .ref (x + 28), .ref (x + 54), .ref (x + 80), .ref (x + 106), .ref (x + 132), .null, .null])] ++ rState (x + 2) ++ rState (x + 28) ++ rState (x + 54) ++ rState (x + 80) ++ rState (x + 106) ++ rState (x + 132)) hx dX0_init_36 rfl rfl (by decide) rfl (by decide) rfl (mpe 37 rfl ?_)
  refine me_a (a_iinc (v := 6) (L' := [(1, .int 6), (0, .ref (x + 0))]) dX0_init_37 (by decide) rfl rfl rfl) (mpe 40 rfl ?_)
  refine me_a (a_goto (t := 15) dX0_init_40 (by decide)) (mpe 15 rfl ?_)
  refine me_a (a_iload_n dX0_init_15 rfl) (mpe 16 rfl ?_)
  refine me_a (a_aload_n dX0_init_16 rfl) (mpe 17 rfl ?_)
  refine ms_get (i := 11) (j := 0) (v := .ref (x + 1)) hx dX0_init_17 rfl rfl rfl (mpe 20 rfl ?_)
  refine ms_alen (j := 1) (n := 8) hx dX0_init_20 rfl (by decide) rfl (mpe 21 rfl ?_)
  refine me_Tf (t := 43) (j_icmp_ge dX0_init_21) (by decide) (by decide) (mpe 24 rfl ?_)
  refine me_a (a_aload_n dX0_init_24 rfl) (mpe 25 rfl ?_)
  refine ms_get (i := 11) (j := 0) (v := .ref (x + 1)) hx dX0_init_25 rfl rfl rfl (mpe 28 rfl ?_)
  refine me_a (a_iload_n dX0_init_28 rfl) (mpe 29 rfl ?_)
  refine ms_new (i := 9) (ci := 5) (k := 158) hx dX0_init_29 rfl rfl ⟨Nat.le_of_ble_eq_true rfl, Nat.le_of_ble_eq_true rfl⟩ (mpe 32 rfl ?_)
  refine me_t (s_dup dX0_init_32 rfl) (mpe 33 rfl ?_)
  refine ms_init (i := 17) (q' := q_1) (l' := [(0, [.ref (x + 1), .int 0, .int 0, .int 0]), (11, [.ref (x + 2), .ref (x + 28), .ref (x + 54), .ref (x + 80), .ref (x + 106), .ref (x + 132), .null, .null])] ++ rState (x + 2) ++ rState (x + 28) ++ rState (x + 54) ++ rState (x + 80) ++ rState (x + 106) ++ rState (x + 132) ++ rState (x + 158)) dX0_init_33 rfl qm_1 (by decide) rfl rfl (Nat.le_of_ble_eq_true rfl) ⟨Nat.le_of_ble_eq_true rfl, Nat.le_of_ble_eq_true rfl⟩ ((ei_1 (l := [(0, [.ref (x + 1), .int 0, .int 0, .int 0]), (11, [.ref (x + 2), .ref (x + 28), .ref (x + 54), .ref (x + 80), .ref (x + 106), .ref (x + 132), .null, .null])] ++ rState (x + 2) ++ rState (x + 28) ++ rState (x + 54) ++ rState (x + 80) ++ rState (x + 106) ++ rState (x + 132)) hx rfl).mono (by decide)) (mpe 36 rfl ?_)
  refine ms_aast (k := 158) (j := 1) (N := 8) (l' := [(0, [.ref (x + 1), .int 0, .int 0, .int 0]), (11, [.ref (x + 2), .ref (x + 28), .ref (x + 54), .ref (x + 80), .ref (x + 106), .ref (x + 132), .ref (x + 158), .null])] ++ rState (x + 2) ++ rState (x + 28) ++ rState (x + 54) ++ rState (x + 80) ++ rState (x + 106) ++ rState (x + 132) ++ rState (x + 158)) hx dX0_init_36 rfl rfl (by decide) rfl (by decide) rfl (mpe 37 rfl ?_)
  refine me_a (a_iinc (v := 7) (L' := [(1, .int 7), (0, .ref (x + 0))]) dX0_init_37 (by decide) rfl rfl rfl) (mpe 40 rfl ?_)
  refine me_a (a_goto (t := 15) dX0_init_40 (by decide)) (mpe 15 rfl ?_)
  refine me_a (a_iload_n dX0_init_15 rfl) (mpe 16 rfl ?_)
  refine me_a (a_aload_n dX0_init_16 rfl) (mpe 17 rfl ?_)
  refine ms_get (i := 11) (j := 0) (v := .ref (x + 1)) hx dX0_init_17 rfl rfl rfl (mpe 20 rfl ?_)
  refine ms_alen (j := 1) (n := 8) hx dX0_init_20 rfl (by decide) rfl (mpe 21 rfl ?_)
  refine me_Tf (t := 43) (j_icmp_ge dX0_init_21) (by decide) (by decide) (mpe 24 rfl ?_)
  refine me_a (a_aload_n dX0_init_24 rfl) (mpe 25 rfl ?_)
  refine ms_get (i := 11) (j := 0) (v := .ref (x + 1)) hx dX0_init_25 rfl rfl rfl (mpe 28 rfl ?_)
  refine me_a (a_iload_n dX0_init_28 rfl) (mpe 29 rfl ?_)
  refine ms_new (i := 9) (ci := 5) (k := 184) hx dX0_init_29 rfl rfl ⟨Nat.le_of_ble_eq_true rfl, Nat.le_of_ble_eq_true rfl⟩ (mpe 32 rfl ?_)
  refine me_t (s_dup dX0_init_32 rfl) (mpe 33 rfl ?_)
  refine ms_init (i := 17) (q' := q_1) (l' := [(0, [.ref (x + 1), .int 0, .int 0, .int 0]), (11, [.ref (x + 2), .ref (x + 28), .ref (x + 54), .ref (x + 80), .ref (x + 106), .ref (x + 132), .ref (x + 158), .null])] ++ rState (x + 2) ++ rState (x + 28) ++ rState (x + 54) ++ rState (x + 80) ++ rState (x + 106) ++ rState (x + 132) ++ rState (x + 158) ++ rState (x + 184)) dX0_init_33 rfl qm_1 (by decide) rfl rfl (Nat.le_of_ble_eq_true rfl) ⟨Nat.le_of_ble_eq_true rfl, Nat.le_of_ble_eq_true rfl⟩ ((ei_1 (l := [(0, [.ref (x + 1), .int 0, .int 0, .int 0]), (11, [.ref (x + 2), .ref (x + 28), .ref (x + 54), .ref (x + 80), .ref (x + 106), .ref (x + 132), .ref (x + 158), .null])] ++ rState (x + 2) ++ rState (x + 28) ++ rState (x + 54) ++ rState (x + 80) ++ rState (x + 106) ++ rState (x + 132) ++ rState (x + 158)) hx rfl).mono (by decide)) (mpe 36 rfl ?_)
  refine ms_aast (k := 184) (j := 1) (N := 8) (l' := [(0, [.ref (x + 1), .int 0, .int 0, .int 0]), (11, [.ref (x + 2), .ref (x + 28), .ref (x + 54), .ref (x + 80), .ref (x + 106), .ref (x + 132), .ref (x + 158), .ref (x + 184)])] ++ rState (x + 2) ++ rState (x + 28) ++ rState (x + 54) ++ rState (x + 80) ++ rState (x + 106) ++ rState (x + 132) ++ rState (x + 158) ++ rState (x + 184)) hx dX0_init_36 rfl rfl (by decide) rfl (by decide) rfl (mpe 37 rfl ?_)
  refine me_a (a_iinc (v := 8) (L' := [(1, .int 8), (0, .ref (x + 0))]) dX0_init_37 (by decide) rfl rfl rfl) (mpe 40 rfl ?_)
  refine me_a (a_goto (t := 15) dX0_init_40 (by decide)) (mpe 15 rfl ?_)
  refine me_a (a_iload_n dX0_init_15 rfl) (mpe 16 rfl ?_)
  refine me_a (a_aload_n dX0_init_16 rfl) (mpe 17 rfl ?_)
  refine ms_get (i := 11) (j := 0) (v := .ref (x + 1)) hx dX0_init_17 rfl rfl rfl (mpe 20 rfl ?_)
  refine ms_alen (j := 1) (n := 8) hx dX0_init_20 rfl (by decide) rfl (mpe 21 rfl ?_)
  refine me_Tt (t := 43) (j_icmp_ge dX0_init_21) (by decide) (by decide) (mpe 43 rfl ?_)
  exact ms_ret dX0_init_43 rfl rfl
theorem ei_3 {X l : mP} {x k : Nat} (hx : X.length = x) (hk : l.length = k) : Ev 3 3 [.ref (x + k)] (X ++ (l ++ [(0, mdef 0)])) none (X ++ (l ++ rHist (x + k))) := by
  have h := ec_3 (X := X ++ l) (x := x + k) (by rw [List.length_append, hx, hk])
  rw [List.append_assoc, List.append_assoc] at h
  exact h
def q_4 : mQ := (yX4_init, cX4_init, 1, none, 0, 4, 1, 80)
theorem qm_4 : mtL[4]? = some q_4 := rfl

def rScript (x : Nat) : mP := [(4, [.ref (x + 1), .int 0, .int 0, .int 0, .int 0, .int 0, .int 0, .int 0]), (8, List.replicate 80 (.int 0))]
set_option maxRecDepth 100000 in
set_option maxHeartbeats 4000000 in
theorem ec_4 {X : mP} {x : Nat} (hx : X.length = x) : Ev 1 4 [.ref (x + 0)] (X ++ [(4, mdef 4)]) none (X ++ rScript x) := by
  refine Ev.of qm_4 (Nat.le_of_ble_eq_true rfl) rfl ?_
  show MEv _ none q_4 0 [(0, .ref (x + 0))] [] _ 0 0 none _
  refine me_a (a_aload_n dX4_init_0 rfl) (mpe 1 rfl ?_)
  refine me_obj (i := 3) (k := 0) dX4_init_1 rfl (Nat.le_of_ble_eq_true rfl) rfl ⟨Nat.le_of_ble_eq_true rfl, Nat.le_of_ble_eq_true rfl⟩ (mpe 4 rfl ?_)
  refine me_a (a_aload_n dX4_init_4 rfl) (mpe 5 rfl ?_)
  refine me_a (a_bipush (v := 80) dX4_init_5 rfl) (mpe 7 rfl ?_)
  refine ms_newi (k := 1) (N := 80) hx dX4_init_7 (by decide) rfl (by decide) rfl ⟨Nat.le_of_ble_eq_true rfl, Nat.le_of_ble_eq_true rfl⟩ (mpe 9 rfl ?_)
  refine ms_put (i := 9) (j := 0) (l' := [(4, [.ref (x + 1), .int 0, .int 0, .int 0, .int 0, .int 0, .int 0, .int 0]), (8, List.replicate 80 (.int 0))]) hx dX4_init_9 rfl rfl (Nat.le_of_ble_eq_true rfl) rfl (Or.inr ⟨rfl, rfl, rfl⟩) rfl (mpe 12 rfl ?_)
  exact ms_ret dX4_init_12 rfl rfl
theorem ei_4 {X l : mP} {x k : Nat} (hx : X.length = x) (hk : l.length = k) : Ev 1 4 [.ref (x + k)] (X ++ (l ++ [(4, mdef 4)])) none (X ++ (l ++ rScript (x + k))) := by
  have h := ec_4 (X := X ++ l) (x := x + k) (by rw [List.length_append, hx, hk])
  rw [List.append_assoc, List.append_assoc] at h
  exact h
def q_5 : mQ := (yX3_init, cX3_init, 1, none, 0, 3, 2, 16)
theorem qm_5 : mtL[5]? = some q_5 := rfl

def rReducer (x : Nat) : mP := [(3, [.int 0, .int 0, .ref (x + 1), .ref (x + 2)]), (8, List.replicate 8 (.int 0)), (8, List.replicate 8 (.int 0))]
set_option maxRecDepth 100000 in
set_option maxHeartbeats 4000000 in
theorem ec_5 {X : mP} {x : Nat} (hx : X.length = x) : Ev 1 5 [.ref (x + 0)] (X ++ [(3, mdef 3)]) none (X ++ rReducer x) := by
  refine Ev.of qm_5 (Nat.le_of_ble_eq_true rfl) rfl ?_
  show MEv _ none q_5 0 [(0, .ref (x + 0))] [] _ 0 0 none _
  refine me_a (a_aload_n dX3_init_0 rfl) (mpe 1 rfl ?_)
  refine me_obj (i := 3) (k := 0) dX3_init_1 rfl (Nat.le_of_ble_eq_true rfl) rfl ⟨Nat.le_of_ble_eq_true rfl, Nat.le_of_ble_eq_true rfl⟩ (mpe 4 rfl ?_)
  refine me_a (a_aload_n dX3_init_4 rfl) (mpe 5 rfl ?_)
  refine me_a (a_bipush (v := 8) dX3_init_5 rfl) (mpe 7 rfl ?_)
  refine ms_newi (k := 1) (N := 8) hx dX3_init_7 (by decide) rfl (by decide) rfl ⟨Nat.le_of_ble_eq_true rfl, Nat.le_of_ble_eq_true rfl⟩ (mpe 9 rfl ?_)
  refine ms_put (i := 9) (j := 0) (l' := [(3, [.int 0, .int 0, .ref (x + 1), .null]), (8, List.replicate 8 (.int 0))]) hx dX3_init_9 rfl rfl (Nat.le_of_ble_eq_true rfl) rfl (Or.inr ⟨rfl, rfl, rfl⟩) rfl (mpe 12 rfl ?_)
  refine me_a (a_aload_n dX3_init_12 rfl) (mpe 13 rfl ?_)
  refine me_a (a_bipush (v := 8) dX3_init_13 rfl) (mpe 15 rfl ?_)
  refine ms_newi (k := 2) (N := 8) hx dX3_init_15 (by decide) rfl (by decide) rfl ⟨Nat.le_of_ble_eq_true rfl, Nat.le_of_ble_eq_true rfl⟩ (mpe 17 rfl ?_)
  refine ms_put (i := 15) (j := 0) (l' := [(3, [.int 0, .int 0, .ref (x + 1), .ref (x + 2)]), (8, List.replicate 8 (.int 0)), (8, List.replicate 8 (.int 0))]) hx dX3_init_17 rfl rfl (Nat.le_of_ble_eq_true rfl) rfl (Or.inr ⟨rfl, rfl, rfl⟩) rfl (mpe 20 rfl ?_)
  exact ms_ret dX3_init_20 rfl rfl
theorem ei_5 {X l : mP} {x k : Nat} (hx : X.length = x) (hk : l.length = k) : Ev 1 5 [.ref (x + k)] (X ++ (l ++ [(3, mdef 3)])) none (X ++ (l ++ rReducer (x + k))) := by
  have h := ec_5 (X := X ++ l) (x := x + k) (by rw [List.length_append, hx, hk])
  rw [List.append_assoc, List.append_assoc] at h
  exact h
def q_6 : mQ := (yX1_init, cX1_init, 1, none, 0, 1, 3, 24)
theorem qm_6 : mtL[6]? = some q_6 := rfl

def rLayers (x : Nat) : mP := [(1, [.int 0, .ref (x + 1), .ref (x + 2), .ref (x + 3)]), (8, List.replicate 8 (.int 0)), (8, List.replicate 8 (.int 0)), (8, List.replicate 8 (.int 0))]
set_option maxRecDepth 100000 in
set_option maxHeartbeats 4000000 in
theorem ec_6 {X : mP} {x : Nat} (hx : X.length = x) : Ev 1 6 [.ref (x + 0)] (X ++ [(1, mdef 1)]) none (X ++ rLayers x) := by
  refine Ev.of qm_6 (Nat.le_of_ble_eq_true rfl) rfl ?_
  show MEv _ none q_6 0 [(0, .ref (x + 0))] [] _ 0 0 none _
  refine me_a (a_aload_n dX1_init_0 rfl) (mpe 1 rfl ?_)
  refine me_obj (i := 3) (k := 0) dX1_init_1 rfl (Nat.le_of_ble_eq_true rfl) rfl ⟨Nat.le_of_ble_eq_true rfl, Nat.le_of_ble_eq_true rfl⟩ (mpe 4 rfl ?_)
  refine me_a (a_aload_n dX1_init_4 rfl) (mpe 5 rfl ?_)
  refine me_a (a_bipush (v := 8) dX1_init_5 rfl) (mpe 7 rfl ?_)
  refine ms_newi (k := 1) (N := 8) hx dX1_init_7 (by decide) rfl (by decide) rfl ⟨Nat.le_of_ble_eq_true rfl, Nat.le_of_ble_eq_true rfl⟩ (mpe 9 rfl ?_)
  refine ms_put (i := 9) (j := 0) (l' := [(1, [.int 0, .ref (x + 1), .null, .null]), (8, List.replicate 8 (.int 0))]) hx dX1_init_9 rfl rfl (Nat.le_of_ble_eq_true rfl) rfl (Or.inr ⟨rfl, rfl, rfl⟩) rfl (mpe 12 rfl ?_)
  refine me_a (a_aload_n dX1_init_12 rfl) (mpe 13 rfl ?_)
  refine me_a (a_bipush (v := 8) dX1_init_13 rfl) (mpe 15 rfl ?_)
  refine ms_newi (k := 2) (N := 8) hx dX1_init_15 (by decide) rfl (by decide) rfl ⟨Nat.le_of_ble_eq_true rfl, Nat.le_of_ble_eq_true rfl⟩ (mpe 17 rfl ?_)
  refine ms_put (i := 15) (j := 0) (l' := [(1, [.int 0, .ref (x + 1), .ref (x + 2), .null]), (8, List.replicate 8 (.int 0)), (8, List.replicate 8 (.int 0))]) hx dX1_init_17 rfl rfl (Nat.le_of_ble_eq_true rfl) rfl (Or.inr ⟨rfl, rfl, rfl⟩) rfl (mpe 20 rfl ?_)
  refine me_a (a_aload_n dX1_init_20 rfl) (mpe 21 rfl ?_)
  refine me_a (a_bipush (v := 8) dX1_init_21 rfl) (mpe 23 rfl ?_)
  refine ms_newi (k := 3) (N := 8) hx dX1_init_23 (by decide) rfl (by decide) rfl ⟨Nat.le_of_ble_eq_true rfl, Nat.le_of_ble_eq_true rfl⟩ (mpe 25 rfl ?_)
  refine ms_put (i := 18) (j := 0) (l' := [(1, [.int 0, .ref (x + 1), .ref (x + 2), .ref (x + 3)]), (8, List.replicate 8 (.int 0)), (8, List.replicate 8 (.int 0)), (8, List.replicate 8 (.int 0))]) hx dX1_init_25 rfl rfl (Nat.le_of_ble_eq_true rfl) rfl (Or.inr ⟨rfl, rfl, rfl⟩) rfl (mpe 28 rfl ?_)
  exact ms_ret dX1_init_28 rfl rfl
theorem ei_6 {X l : mP} {x k : Nat} (hx : X.length = x) (hk : l.length = k) : Ev 1 6 [.ref (x + k)] (X ++ (l ++ [(1, mdef 1)])) none (X ++ (l ++ rLayers (x + k))) := by
  have h := ec_6 (X := X ++ l) (x := x + k) (by rw [List.length_append, hx, hk])
  rw [List.append_assoc, List.append_assoc] at h
  exact h
def q_0 : mQ := (yX6_init, cX6_init, 1, none, 0, 6, 300, 2149)
theorem qm_0 : mtL[0]? = some q_0 := rfl

def rTheatre (x : Nat) : mP := [(6, [.ref (x + 1), .ref (x + 27), .ref (x + 53), .ref (x + 79), .ref (x + 289), .ref (x + 291), .ref (x + 294), .ref (x + 298), .int 0, .int (-1004), .int 0, .int 0, .int (-1004)])] ++ rState (x + 1) ++ rState (x + 27) ++ rState (x + 53) ++ rHist (x + 79) ++ rScript (x + 289) ++ rReducer (x + 291) ++ rLayers (x + 294) ++ rPiece (x + 298)
set_option maxRecDepth 100000 in
set_option maxHeartbeats 4000000 in
theorem ec_0 {X : mP} {x : Nat} (hx : X.length = x) : Ev 4 0 [.ref (x + 0)] (X ++ [(6, mdef 6)]) none (X ++ rTheatre x) := by
  refine Ev.of qm_0 (Nat.le_of_ble_eq_true rfl) rfl ?_
  show MEv _ none q_0 0 [(0, .ref (x + 0))] [] _ 0 0 none _
  refine me_a (a_aload_n dX6_init_0 rfl) (mpe 1 rfl ?_)
  refine me_obj (i := 1) (k := 0) dX6_init_1 rfl (Nat.le_of_ble_eq_true rfl) rfl ⟨Nat.le_of_ble_eq_true rfl, Nat.le_of_ble_eq_true rfl⟩ (mpe 4 rfl ?_)
  refine me_a (a_aload_n dX6_init_4 rfl) (mpe 5 rfl ?_)
  refine ms_new (i := 7) (ci := 5) (k := 1) hx dX6_init_5 rfl rfl ⟨Nat.le_of_ble_eq_true rfl, Nat.le_of_ble_eq_true rfl⟩ (mpe 8 rfl ?_)
  refine me_t (s_dup dX6_init_8 rfl) (mpe 9 rfl ?_)
  refine ms_init (i := 9) (q' := q_1) (l' := [(6, [.null, .null, .null, .null, .null, .null, .null, .null, .int 0, .int 0, .int 0, .int 0, .int 0])] ++ rState (x + 1)) dX6_init_9 rfl qm_1 (by decide) rfl rfl (Nat.le_of_ble_eq_true rfl) ⟨Nat.le_of_ble_eq_true rfl, Nat.le_of_ble_eq_true rfl⟩ ((ei_1 (l := [(6, [.null, .null, .null, .null, .null, .null, .null, .null, .int 0, .int 0, .int 0, .int 0, .int 0])]) hx rfl).mono (by decide)) (mpe 12 rfl ?_)
  refine ms_put (i := 10) (j := 0) (l' := [(6, [.ref (x + 1), .null, .null, .null, .null, .null, .null, .null, .int 0, .int 0, .int 0, .int 0, .int 0])] ++ rState (x + 1)) hx dX6_init_12 rfl rfl (Nat.le_of_ble_eq_true rfl) rfl (Or.inr ⟨rfl, rfl, rfl⟩) rfl (mpe 15 rfl ?_)
  refine me_a (a_aload_n dX6_init_15 rfl) (mpe 16 rfl ?_)
  refine ms_new (i := 7) (ci := 5) (k := 27) hx dX6_init_16 rfl rfl ⟨Nat.le_of_ble_eq_true rfl, Nat.le_of_ble_eq_true rfl⟩ (mpe 19 rfl ?_)
  refine me_t (s_dup dX6_init_19 rfl) (mpe 20 rfl ?_)
  refine ms_init (i := 9) (q' := q_1) (l' := [(6, [.ref (x + 1), .null, .null, .null, .null, .null, .null, .null, .int 0, .int 0, .int 0, .int 0, .int 0])] ++ rState (x + 1) ++ rState (x + 27)) dX6_init_20 rfl qm_1 (by decide) rfl rfl (Nat.le_of_ble_eq_true rfl) ⟨Nat.le_of_ble_eq_true rfl, Nat.le_of_ble_eq_true rfl⟩ ((ei_1 (l := [(6, [.ref (x + 1), .null, .null, .null, .null, .null, .null, .null, .int 0, .int 0, .int 0, .int 0, .int 0])] ++ rState (x + 1)) hx rfl).mono (by decide)) (mpe 23 rfl ?_)
  refine ms_put (i := 16) (j := 0) (l' := [(6, [.ref (x + 1), .ref (x + 27), .null, .null, .null, .null, .null, .null, .int 0, .int 0, .int 0, .int 0, .int 0])] ++ rState (x + 1) ++ rState (x + 27)) hx dX6_init_23 rfl rfl (Nat.le_of_ble_eq_true rfl) rfl (Or.inr ⟨rfl, rfl, rfl⟩) rfl (mpe 26 rfl ?_)
  refine me_a (a_aload_n dX6_init_26 rfl) (mpe 27 rfl ?_)
  refine ms_new (i := 7) (ci := 5) (k := 53) hx dX6_init_27 rfl rfl ⟨Nat.le_of_ble_eq_true rfl, Nat.le_of_ble_eq_true rfl⟩ (mpe 30 rfl ?_)
  refine me_t (s_dup dX6_init_30 rfl) (mpe 31 rfl ?_)
  refine ms_init (i := 9) (q' := q_1) (l' := [(6, [.ref (x + 1), .ref (x + 27), .null, .null, .null, .null, .null, .null, .int 0, .int 0, .int 0, .int 0, .int 0])] ++ rState (x + 1) ++ rState (x + 27) ++ rState (x + 53)) dX6_init_31 rfl qm_1 (by decide) rfl rfl (Nat.le_of_ble_eq_true rfl) ⟨Nat.le_of_ble_eq_true rfl, Nat.le_of_ble_eq_true rfl⟩ ((ei_1 (l := [(6, [.ref (x + 1), .ref (x + 27), .null, .null, .null, .null, .null, .null, .int 0, .int 0, .int 0, .int 0, .int 0])] ++ rState (x + 1) ++ rState (x + 27)) hx rfl).mono (by decide)) (mpe 34 rfl ?_)
  refine ms_put (i := 19) (j := 0) (l' := [(6, [.ref (x + 1), .ref (x + 27), .ref (x + 53), .null, .null, .null, .null, .null, .int 0, .int 0, .int 0, .int 0, .int 0])] ++ rState (x + 1) ++ rState (x + 27) ++ rState (x + 53)) hx dX6_init_34 rfl rfl (Nat.le_of_ble_eq_true rfl) rfl (Or.inr ⟨rfl, rfl, rfl⟩) rfl (mpe 37 rfl ?_)
  refine me_a (a_aload_n dX6_init_37 rfl) (mpe 38 rfl ?_)
  refine ms_new (i := 22) (ci := 0) (k := 79) hx dX6_init_38 rfl rfl ⟨Nat.le_of_ble_eq_true rfl, Nat.le_of_ble_eq_true rfl⟩ (mpe 41 rfl ?_)
  refine me_t (s_dup dX6_init_41 rfl) (mpe 42 rfl ?_)
  refine ms_init (i := 24) (q' := q_3) (l' := [(6, [.ref (x + 1), .ref (x + 27), .ref (x + 53), .null, .null, .null, .null, .null, .int 0, .int 0, .int 0, .int 0, .int 0])] ++ rState (x + 1) ++ rState (x + 27) ++ rState (x + 53) ++ rHist (x + 79)) dX6_init_42 rfl qm_3 (by decide) rfl rfl (Nat.le_of_ble_eq_true rfl) ⟨Nat.le_of_ble_eq_true rfl, Nat.le_of_ble_eq_true rfl⟩ ((ei_3 (l := [(6, [.ref (x + 1), .ref (x + 27), .ref (x + 53), .null, .null, .null, .null, .null, .int 0, .int 0, .int 0, .int 0, .int 0])] ++ rState (x + 1) ++ rState (x + 27) ++ rState (x + 53)) hx rfl).mono (by decide)) (mpe 45 rfl ?_)
  refine ms_put (i := 25) (j := 0) (l' := [(6, [.ref (x + 1), .ref (x + 27), .ref (x + 53), .ref (x + 79), .null, .null, .null, .null, .int 0, .int 0, .int 0, .int 0, .int 0])] ++ rState (x + 1) ++ rState (x + 27) ++ rState (x + 53) ++ rHist (x + 79)) hx dX6_init_45 rfl rfl (Nat.le_of_ble_eq_true rfl) rfl (Or.inr ⟨rfl, rfl, rfl⟩) rfl (mpe 48 rfl ?_)
  refine me_a (a_aload_n dX6_init_48 rfl) (mpe 49 rfl ?_)
  refine ms_new (i := 29) (ci := 4) (k := 289) hx dX6_init_49 rfl rfl ⟨Nat.le_of_ble_eq_true rfl, Nat.le_of_ble_eq_true rfl⟩ (mpe 52 rfl ?_)
  refine me_t (s_dup dX6_init_52 rfl) (mpe 53 rfl ?_)
  refine ms_init (i := 31) (q' := q_4) (l' := [(6, [.ref (x + 1), .ref (x + 27), .ref (x + 53), .ref (x + 79), .null, .null, .null, .null, .int 0, .int 0, .int 0, .int 0, .int 0])] ++ rState (x + 1) ++ rState (x + 27) ++ rState (x + 53) ++ rHist (x + 79) ++ rScript (x + 289)) dX6_init_53 rfl qm_4 (by decide) rfl rfl (Nat.le_of_ble_eq_true rfl) ⟨Nat.le_of_ble_eq_true rfl, Nat.le_of_ble_eq_true rfl⟩ ((ei_4 (l := [(6, [.ref (x + 1), .ref (x + 27), .ref (x + 53), .ref (x + 79), .null, .null, .null, .null, .int 0, .int 0, .int 0, .int 0, .int 0])] ++ rState (x + 1) ++ rState (x + 27) ++ rState (x + 53) ++ rHist (x + 79)) hx rfl).mono (by decide)) (mpe 56 rfl ?_)
  refine ms_put (i := 32) (j := 0) (l' := [(6, [.ref (x + 1), .ref (x + 27), .ref (x + 53), .ref (x + 79), .ref (x + 289), .null, .null, .null, .int 0, .int 0, .int 0, .int 0, .int 0])] ++ rState (x + 1) ++ rState (x + 27) ++ rState (x + 53) ++ rHist (x + 79) ++ rScript (x + 289)) hx dX6_init_56 rfl rfl (Nat.le_of_ble_eq_true rfl) rfl (Or.inr ⟨rfl, rfl, rfl⟩) rfl (mpe 59 rfl ?_)
  refine me_a (a_aload_n dX6_init_59 rfl) (mpe 60 rfl ?_)
  refine ms_new (i := 36) (ci := 3) (k := 291) hx dX6_init_60 rfl rfl ⟨Nat.le_of_ble_eq_true rfl, Nat.le_of_ble_eq_true rfl⟩ (mpe 63 rfl ?_)
  refine me_t (s_dup dX6_init_63 rfl) (mpe 64 rfl ?_)
  refine ms_init (i := 38) (q' := q_5) (l' := [(6, [.ref (x + 1), .ref (x + 27), .ref (x + 53), .ref (x + 79), .ref (x + 289), .null, .null, .null, .int 0, .int 0, .int 0, .int 0, .int 0])] ++ rState (x + 1) ++ rState (x + 27) ++ rState (x + 53) ++ rHist (x + 79) ++ rScript (x + 289) ++ rReducer (x + 291)) dX6_init_64 rfl qm_5 (by decide) rfl rfl (Nat.le_of_ble_eq_true rfl) ⟨Nat.le_of_ble_eq_true rfl, Nat.le_of_ble_eq_true rfl⟩ ((ei_5 (l := [(6, [.ref (x + 1), .ref (x + 27), .ref (x + 53), .ref (x + 79), .ref (x + 289), .null, .null, .null, .int 0, .int 0, .int 0, .int 0, .int 0])] ++ rState (x + 1) ++ rState (x + 27) ++ rState (x + 53) ++ rHist (x + 79) ++ rScript (x + 289)) hx rfl).mono (by decide)) (mpe 67 rfl ?_)
  refine ms_put (i := 39) (j := 0) (l' := [(6, [.ref (x + 1), .ref (x + 27), .ref (x + 53), .ref (x + 79), .ref (x + 289), .ref (x + 291), .null, .null, .int 0, .int 0, .int 0, .int 0, .int 0])] ++ rState (x + 1) ++ rState (x + 27) ++ rState (x + 53) ++ rHist (x + 79) ++ rScript (x + 289) ++ rReducer (x + 291)) hx dX6_init_67 rfl rfl (Nat.le_of_ble_eq_true rfl) rfl (Or.inr ⟨rfl, rfl, rfl⟩) rfl (mpe 70 rfl ?_)
  refine me_a (a_aload_n dX6_init_70 rfl) (mpe 71 rfl ?_)
  refine ms_new (i := 43) (ci := 1) (k := 294) hx dX6_init_71 rfl rfl ⟨Nat.le_of_ble_eq_true rfl, Nat.le_of_ble_eq_true rfl⟩ (mpe 74 rfl ?_)
  refine me_t (s_dup dX6_init_74 rfl) (mpe 75 rfl ?_)
  refine ms_init (i := 45) (q' := q_6) (l' := [(6, [.ref (x + 1), .ref (x + 27), .ref (x + 53), .ref (x + 79), .ref (x + 289), .ref (x + 291), .null, .null, .int 0, .int 0, .int 0, .int 0, .int 0])] ++ rState (x + 1) ++ rState (x + 27) ++ rState (x + 53) ++ rHist (x + 79) ++ rScript (x + 289) ++ rReducer (x + 291) ++ rLayers (x + 294)) dX6_init_75 rfl qm_6 (by decide) rfl rfl (Nat.le_of_ble_eq_true rfl) ⟨Nat.le_of_ble_eq_true rfl, Nat.le_of_ble_eq_true rfl⟩ ((ei_6 (l := [(6, [.ref (x + 1), .ref (x + 27), .ref (x + 53), .ref (x + 79), .ref (x + 289), .ref (x + 291), .null, .null, .int 0, .int 0, .int 0, .int 0, .int 0])] ++ rState (x + 1) ++ rState (x + 27) ++ rState (x + 53) ++ rHist (x + 79) ++ rScript (x + 289) ++ rReducer (x + 291)) hx rfl).mono (by decide)) (mpe 78 rfl ?_)
  refine ms_put (i := 46) (j := 0) (l' := [(6, [.ref (x + 1), .ref (x + 27), .ref (x + 53), .ref (x + 79), .ref (x + 289), .ref (x + 291), .ref (x + 294), .null, .int 0, .int 0, .int 0, .int 0, .int 0])] ++ rState (x + 1) ++ rState (x + 27) ++ rState (x + 53) ++ rHist (x + 79) ++ rScript (x + 289) ++ rReducer (x + 291) ++ rLayers (x + 294)) hx dX6_init_78 rfl rfl (Nat.le_of_ble_eq_true rfl) rfl (Or.inr ⟨rfl, rfl, rfl⟩) rfl (mpe 81 rfl ?_)
  refine me_a (a_aload_n dX6_init_81 rfl) (mpe 82 rfl ?_)
  refine ms_new (i := 50) (ci := 2) (k := 298) hx dX6_init_82 rfl rfl ⟨Nat.le_of_ble_eq_true rfl, Nat.le_of_ble_eq_true rfl⟩ (mpe 85 rfl ?_)
  refine me_t (s_dup dX6_init_85 rfl) (mpe 86 rfl ?_)
  refine ms_init (i := 52) (q' := q_2) (l' := [(6, [.ref (x + 1), .ref (x + 27), .ref (x + 53), .ref (x + 79), .ref (x + 289), .ref (x + 291), .ref (x + 294), .null, .int 0, .int 0, .int 0, .int 0, .int 0])] ++ rState (x + 1) ++ rState (x + 27) ++ rState (x + 53) ++ rHist (x + 79) ++ rScript (x + 289) ++ rReducer (x + 291) ++ rLayers (x + 294) ++ rPiece (x + 298)) dX6_init_86 rfl qm_2 (by decide) rfl rfl (Nat.le_of_ble_eq_true rfl) ⟨Nat.le_of_ble_eq_true rfl, Nat.le_of_ble_eq_true rfl⟩ ((ei_2 (l := [(6, [.ref (x + 1), .ref (x + 27), .ref (x + 53), .ref (x + 79), .ref (x + 289), .ref (x + 291), .ref (x + 294), .null, .int 0, .int 0, .int 0, .int 0, .int 0])] ++ rState (x + 1) ++ rState (x + 27) ++ rState (x + 53) ++ rHist (x + 79) ++ rScript (x + 289) ++ rReducer (x + 291) ++ rLayers (x + 294)) hx rfl).mono (by decide)) (mpe 89 rfl ?_)
  refine ms_put (i := 53) (j := 0) (l' := [(6, [.ref (x + 1), .ref (x + 27), .ref (x + 53), .ref (x + 79), .ref (x + 289), .ref (x + 291), .ref (x + 294), .ref (x + 298), .int 0, .int 0, .int 0, .int 0, .int 0])] ++ rState (x + 1) ++ rState (x + 27) ++ rState (x + 53) ++ rHist (x + 79) ++ rScript (x + 289) ++ rReducer (x + 291) ++ rLayers (x + 294) ++ rPiece (x + 298)) hx dX6_init_89 rfl rfl (Nat.le_of_ble_eq_true rfl) rfl (Or.inr ⟨rfl, rfl, rfl⟩) rfl (mpe 92 rfl ?_)
  refine me_a (a_aload_n dX6_init_92 rfl) (mpe 93 rfl ?_)
  refine me_a (a_sipush (v := -1004) dX6_init_93 rfl) (mpe 96 rfl ?_)
  refine ms_put (i := 57) (j := 0) (l' := [(6, [.ref (x + 1), .ref (x + 27), .ref (x + 53), .ref (x + 79), .ref (x + 289), .ref (x + 291), .ref (x + 294), .ref (x + 298), .int 0, .int (-1004), .int 0, .int 0, .int 0])] ++ rState (x + 1) ++ rState (x + 27) ++ rState (x + 53) ++ rHist (x + 79) ++ rScript (x + 289) ++ rReducer (x + 291) ++ rLayers (x + 294) ++ rPiece (x + 298)) hx dX6_init_96 rfl rfl (Nat.le_of_ble_eq_true rfl) rfl (Or.inl rfl) rfl (mpe 99 rfl ?_)
  refine me_a (a_aload_n dX6_init_99 rfl) (mpe 100 rfl ?_)
  refine me_a (a_sipush (v := -1004) dX6_init_100 rfl) (mpe 103 rfl ?_)
  refine ms_put (i := 61) (j := 0) (l' := [(6, [.ref (x + 1), .ref (x + 27), .ref (x + 53), .ref (x + 79), .ref (x + 289), .ref (x + 291), .ref (x + 294), .ref (x + 298), .int 0, .int (-1004), .int 0, .int 0, .int (-1004)])] ++ rState (x + 1) ++ rState (x + 27) ++ rState (x + 53) ++ rHist (x + 79) ++ rScript (x + 289) ++ rReducer (x + 291) ++ rLayers (x + 294) ++ rPiece (x + 298)) hx dX6_init_103 rfl rfl (Nat.le_of_ble_eq_true rfl) rfl (Or.inl rfl) rfl (mpe 106 rfl ?_)
  exact ms_ret dX6_init_106 rfl rfl
theorem ei_0 {X l : mP} {x k : Nat} (hx : X.length = x) (hk : l.length = k) : Ev 4 0 [.ref (x + k)] (X ++ (l ++ [(6, mdef 6)])) none (X ++ (l ++ rTheatre (x + k))) := by
  have h := ec_0 (X := X ++ l) (x := x + k) (by rw [List.length_append, hx, hk])
  rw [List.append_assoc, List.append_assoc] at h
  exact h
end
section
theorem dX7_init_0 : decode cX7_init 0 = .ok (.aload_n 0, 1) := by decide +kernel
theorem dX7_init_1 : decode cX7_init 1 = .ok (.invokespecial 3, 3) := by decide +kernel
theorem dX7_init_4 : decode cX7_init 4 = .ok (.aload_n 0, 1) := by decide +kernel
theorem dX7_init_5 : decode cX7_init 5 = .ok (.sipush 155, 3) := by decide +kernel
theorem dX7_init_8 : decode cX7_init 8 = .ok (.newarray .int, 2) := by decide +kernel
theorem dX7_init_10 : decode cX7_init 10 = .ok (.putfield 9, 3) := by decide +kernel
theorem dX7_init_13 : decode cX7_init 13 = .ok (.aload_n 0, 1) := by decide +kernel
theorem dX7_init_14 : decode cX7_init 14 = .ok (.sipush 155, 3) := by decide +kernel
theorem dX7_init_17 : decode cX7_init 17 = .ok (.newarray .int, 2) := by decide +kernel
theorem dX7_init_19 : decode cX7_init 19 = .ok (.putfield 13, 3) := by decide +kernel
theorem dX7_init_22 : decode cX7_init 22 = .ok (.aload_n 0, 1) := by decide +kernel
theorem dX7_init_23 : decode cX7_init 23 = .ok (.sipush 155, 3) := by decide +kernel
theorem dX7_init_26 : decode cX7_init 26 = .ok (.newarray .int, 2) := by decide +kernel
theorem dX7_init_28 : decode cX7_init 28 = .ok (.putfield 16, 3) := by decide +kernel
theorem dX7_init_31 : decode cX7_init 31 = .ok (.aload_n 0, 1) := by decide +kernel
theorem dX7_init_32 : decode cX7_init 32 = .ok (.sipush 1240, 3) := by decide +kernel
theorem dX7_init_35 : decode cX7_init 35 = .ok (.newarray .int, 2) := by decide +kernel
theorem dX7_init_37 : decode cX7_init 37 = .ok (.putfield 19, 3) := by decide +kernel
theorem dX7_init_40 : decode cX7_init 40 = .ok (.aload_n 0, 1) := by decide +kernel
theorem dX7_init_41 : decode cX7_init 41 = .ok (.bipush 8, 2) := by decide +kernel
theorem dX7_init_43 : decode cX7_init 43 = .ok (.newarray .int, 2) := by decide +kernel
theorem dX7_init_45 : decode cX7_init 45 = .ok (.putfield 22, 3) := by decide +kernel
theorem dX7_init_48 : decode cX7_init 48 = .ok (.aload_n 0, 1) := by decide +kernel
theorem dX7_init_49 : decode cX7_init 49 = .ok (.bipush 8, 2) := by decide +kernel
theorem dX7_init_51 : decode cX7_init 51 = .ok (.newarray .int, 2) := by decide +kernel
theorem dX7_init_53 : decode cX7_init 53 = .ok (.putfield 25, 3) := by decide +kernel
theorem dX7_init_56 : decode cX7_init 56 = .ok (.aload_n 0, 1) := by decide +kernel
theorem dX7_init_57 : decode cX7_init 57 = .ok (.bipush 8, 2) := by decide +kernel
theorem dX7_init_59 : decode cX7_init 59 = .ok (.newarray .int, 2) := by decide +kernel
theorem dX7_init_61 : decode cX7_init 61 = .ok (.putfield 28, 3) := by decide +kernel
theorem dX7_init_64 : decode cX7_init 64 = .ok (.aload_n 0, 1) := by decide +kernel
theorem dX7_init_65 : decode cX7_init 65 = .ok (.bipush 8, 2) := by decide +kernel
theorem dX7_init_67 : decode cX7_init 67 = .ok (.newarray .int, 2) := by decide +kernel
theorem dX7_init_69 : decode cX7_init 69 = .ok (.putfield 31, 3) := by decide +kernel
theorem dX7_init_72 : decode cX7_init 72 = .ok (.aload_n 0, 1) := by decide +kernel
theorem dX7_init_73 : decode cX7_init 73 = .ok (.bipush 7, 2) := by decide +kernel
theorem dX7_init_75 : decode cX7_init 75 = .ok (.newarray .int, 2) := by decide +kernel
theorem dX7_init_77 : decode cX7_init 77 = .ok (.putfield 34, 3) := by decide +kernel
theorem dX7_init_80 : decode cX7_init 80 = .ok (.aload_n 0, 1) := by decide +kernel
theorem dX7_init_81 : decode cX7_init 81 = .ok (.bipush 7, 2) := by decide +kernel
theorem dX7_init_83 : decode cX7_init 83 = .ok (.newarray .int, 2) := by decide +kernel
theorem dX7_init_85 : decode cX7_init 85 = .ok (.putfield 37, 3) := by decide +kernel
theorem dX7_init_88 : decode cX7_init 88 = .ok (.aload_n 0, 1) := by decide +kernel
theorem dX7_init_89 : decode cX7_init 89 = .ok (.bipush 8, 2) := by decide +kernel
theorem dX7_init_91 : decode cX7_init 91 = .ok (.newarray .int, 2) := by decide +kernel
theorem dX7_init_93 : decode cX7_init 93 = .ok (.putfield 40, 3) := by decide +kernel
theorem dX7_init_96 : decode cX7_init 96 = .ok (.aload_n 0, 1) := by decide +kernel
theorem dX7_init_97 : decode cX7_init 97 = .ok (.bipush 7, 2) := by decide +kernel
theorem dX7_init_99 : decode cX7_init 99 = .ok (.newarray .boolean, 2) := by decide +kernel
theorem dX7_init_101 : decode cX7_init 101 = .ok (.putfield 43, 3) := by decide +kernel
theorem dX7_init_104 : decode cX7_init 104 = .ok (.aload_n 0, 1) := by decide +kernel
theorem dX7_init_105 : decode cX7_init 105 = .ok (.bipush 80, 2) := by decide +kernel
theorem dX7_init_107 : decode cX7_init 107 = .ok (.newarray .int, 2) := by decide +kernel
theorem dX7_init_109 : decode cX7_init 109 = .ok (.putfield 47, 3) := by decide +kernel
theorem dX7_init_112 : decode cX7_init 112 = .ok (.aload_n 0, 1) := by decide +kernel
theorem dX7_init_113 : decode cX7_init 113 = .ok (.getfield 9, 3) := by decide +kernel
theorem dX7_init_116 : decode cX7_init 116 = .ok (.iconst 1, 1) := by decide +kernel
theorem dX7_init_117 : decode cX7_init 117 = .ok (.bipush 30, 2) := by decide +kernel
theorem dX7_init_119 : decode cX7_init 119 = .ok (.iastore, 1) := by decide +kernel
theorem dX7_init_120 : decode cX7_init 120 = .ok (.aload_n 0, 1) := by decide +kernel
theorem dX7_init_121 : decode cX7_init 121 = .ok (.sipush (-1004), 3) := by decide +kernel
theorem dX7_init_124 : decode cX7_init 124 = .ok (.putfield 50, 3) := by decide +kernel
theorem dX7_init_127 : decode cX7_init 127 = .ok (.return_, 1) := by decide +kernel
/-! what the constructor of the reference makes (written by a program) -/
def q_122 : mQ := (yX7_init, cX7_init, 1, none, 0, 7, 13, 1846)
theorem qm_122 : mtL[122]? = some q_122 := rfl

def rModel (x : Nat) : mP := [(7, [.ref (x + 1), .ref (x + 2), .ref (x + 3), .ref (x + 4), .int 0, .int 0, .int 0, .int (-1004), .int 0, .ref (x + 5), .ref (x + 6), .ref (x + 7), .ref (x + 8), .int 0, .int 0, .ref (x + 9), .ref (x + 10), .ref (x + 11), .ref (x + 12), .int 0, .int 0, .int 0, .ref (x + 13), .int 0, .int 0, .int 0, .int 0, .int 0, .int 0, .int 0]), (8, (List.replicate 155 (.int 0)).set 1 (.int 30)), (8, List.replicate 155 (.int 0)), (8, List.replicate 155 (.int 0)), (8, List.replicate 1240 (.int 0)), (8, List.replicate 8 (.int 0)), (8, List.replicate 8 (.int 0)), (8, List.replicate 8 (.int 0)), (8, List.replicate 8 (.int 0)), (8, List.replicate 7 (.int 0)), (8, List.replicate 7 (.int 0)), (8, List.replicate 8 (.int 0)), (9, List.replicate 7 (.int 0)), (8, List.replicate 80 (.int 0))]
set_option maxRecDepth 100000 in
set_option maxHeartbeats 4000000 in
theorem ec_122 {X : mP} {x : Nat} (hx : X.length = x) : Ev 1 122 [.ref (x + 0)] (X ++ [(7, mdef 7)]) none (X ++ rModel x) := by
  refine Ev.of qm_122 (Nat.le_of_ble_eq_true rfl) rfl ?_
  show MEv _ none q_122 0 [(0, .ref (x + 0))] [] _ 0 0 none _
  refine me_a (a_aload_n dX7_init_0 rfl) (mpe 1 rfl ?_)
  refine me_obj (i := 3) (k := 0) dX7_init_1 rfl (Nat.le_of_ble_eq_true rfl) rfl ⟨Nat.le_of_ble_eq_true rfl, Nat.le_of_ble_eq_true rfl⟩ (mpe 4 rfl ?_)
  refine me_a (a_aload_n dX7_init_4 rfl) (mpe 5 rfl ?_)
  refine me_a (a_sipush (v := 155) dX7_init_5 rfl) (mpe 8 rfl ?_)
  refine ms_newi (k := 1) (N := 155) hx dX7_init_8 (by decide) rfl (by decide) rfl ⟨Nat.le_of_ble_eq_true rfl, Nat.le_of_ble_eq_true rfl⟩ (mpe 10 rfl ?_)
  refine ms_put (i := 9) (j := 0) (l' := [(7, [.ref (x + 1), .null, .null, .null, .int 0, .int 0, .int 0, .int 0, .int 0, .null, .null, .null, .null, .int 0, .int 0, .null, .null, .null, .null, .int 0, .int 0, .int 0, .null, .int 0, .int 0, .int 0, .int 0, .int 0, .int 0, .int 0]), (8, List.replicate 155 (.int 0))]) hx dX7_init_10 rfl rfl (Nat.le_of_ble_eq_true rfl) rfl (Or.inr ⟨rfl, rfl, rfl⟩) rfl (mpe 13 rfl ?_)
  refine me_a (a_aload_n dX7_init_13 rfl) (mpe 14 rfl ?_)
  refine me_a (a_sipush (v := 155) dX7_init_14 rfl) (mpe 17 rfl ?_)
  refine ms_newi (k := 2) (N := 155) hx dX7_init_17 (by decide) rfl (by decide) rfl ⟨Nat.le_of_ble_eq_true rfl, Nat.le_of_ble_eq_true rfl⟩ (mpe 19 rfl ?_)
  refine ms_put (i := 13) (j := 0) (l' := [(7, [.ref (x + 1), .ref (x + 2), .null, .null, .int 0, .int 0, .int 0, .int 0, .int 0, .null, .null, .null, .null, .int 0, .int 0, .null, .null, .null, .null, .int 0, .int 0, .int 0, .null, .int 0, .int 0, .int 0, .int 0, .int 0, .int 0, .int 0]), (8, List.replicate 155 (.int 0)), (8, List.replicate 155 (.int 0))]) hx dX7_init_19 rfl rfl (Nat.le_of_ble_eq_true rfl) rfl (Or.inr ⟨rfl, rfl, rfl⟩) rfl (mpe 22 rfl ?_)
  refine me_a (a_aload_n dX7_init_22 rfl) (mpe 23 rfl ?_)
  refine me_a (a_sipush (v := 155) dX7_init_23 rfl) (mpe 26 rfl ?_)
  refine ms_newi (k := 3) (N := 155) hx dX7_init_26 (by decide) rfl (by decide) rfl ⟨Nat.le_of_ble_eq_true rfl, Nat.le_of_ble_eq_true rfl⟩ (mpe 28 rfl ?_)
  refine ms_put (i := 16) (j := 0) (l' := [(7, [.ref (x + 1), .ref (x + 2), .ref (x + 3), .null, .int 0, .int 0, .int 0, .int 0, .int 0, .null, .null, .null, .null, .int 0, .int 0, .null, .null, .null, .null, .int 0, .int 0, .int 0, .null, .int 0, .int 0, .int 0, .int 0, .int 0, .int 0, .int 0]), (8, List.replicate 155 (.int 0)), (8, List.replicate 155 (.int 0)), (8, List.replicate 155 (.int 0))]) hx dX7_init_28 rfl rfl (Nat.le_of_ble_eq_true rfl) rfl (Or.inr ⟨rfl, rfl, rfl⟩) rfl (mpe 31 rfl ?_)
  refine me_a (a_aload_n dX7_init_31 rfl) (mpe 32 rfl ?_)
  refine me_a (a_sipush (v := 1240) dX7_init_32 rfl) (mpe 35 rfl ?_)
  refine ms_newi (k := 4) (N := 1240) hx dX7_init_35 (by decide) rfl (by decide) rfl ⟨Nat.le_of_ble_eq_true rfl, Nat.le_of_ble_eq_true rfl⟩ (mpe 37 rfl ?_)
  refine ms_put (i := 19) (j := 0) (l' := [(7, [.ref (x + 1), .ref (x + 2), .ref (x + 3), .ref (x + 4), .int 0, .int 0, .int 0, .int 0, .int 0, .null, .null, .null, .null, .int 0, .int 0, .null, .null, .null, .null, .int 0, .int 0, .int 0, .null, .int 0, .int 0, .int 0, .int 0, .int 0, .int 0, .int 0]), (8, List.replicate 155 (.int 0)), (8, List.replicate 155 (.int 0)), (8, List.replicate 155 (.int 0)), (8, List.replicate 1240 (.int 0))]) hx dX7_init_37 rfl rfl (Nat.le_of_ble_eq_true rfl) rfl (Or.inr ⟨rfl, rfl, rfl⟩) rfl (mpe 40 rfl ?_)
  refine me_a (a_aload_n dX7_init_40 rfl) (mpe 41 rfl ?_)
  refine me_a (a_bipush (v := 8) dX7_init_41 rfl) (mpe 43 rfl ?_)
  refine ms_newi (k := 5) (N := 8) hx dX7_init_43 (by decide) rfl (by decide) rfl ⟨Nat.le_of_ble_eq_true rfl, Nat.le_of_ble_eq_true rfl⟩ (mpe 45 rfl ?_)
  refine ms_put (i := 22) (j := 0) (l' := [(7, [.ref (x + 1), .ref (x + 2), .ref (x + 3), .ref (x + 4), .int 0, .int 0, .int 0, .int 0, .int 0, .ref (x + 5), .null, .null, .null, .int 0, .int 0, .null, .null, .null, .null, .int 0, .int 0, .int 0, .null, .int 0, .int 0, .int 0, .int 0, .int 0, .int 0, .int 0]), (8, List.replicate 155 (.int 0)), (8, List.replicate 155 (.int 0)), (8, List.replicate 155 (.int 0)), (8, List.replicate 1240 (.int 0)), (8, List.replicate 8 (.int 0))]) hx dX7_init_45 rfl rfl (Nat.le_of_ble_eq_true rfl) rfl (Or.inr ⟨rfl, rfl, rfl⟩) rfl (mpe 48 rfl ?_)
  refine me_a (a_aload_n dX7_init_48 rfl) (mpe 49 rfl ?_)
  refine me_a (a_bipush (v := 8) dX7_init_49 rfl) (mpe 51 rfl ?_)
  refine ms_newi (k := 6) (N := 8) hx dX7_init_51 (by decide) rfl (by decide) rfl ⟨Nat.le_of_ble_eq_true rfl, Nat.le_of_ble_eq_true rfl⟩ (mpe 53 rfl ?_)
  refine ms_put (i := 25) (j := 0) (l' := [(7, [.ref (x + 1), .ref (x + 2), .ref (x + 3), .ref (x + 4), .int 0, .int 0, .int 0, .int 0, .int 0, .ref (x + 5), .ref (x + 6), .null, .null, .int 0, .int 0, .null, .null, .null, .null, .int 0, .int 0, .int 0, .null, .int 0, .int 0, .int 0, .int 0, .int 0, .int 0, .int 0]), (8, List.replicate 155 (.int 0)), (8, List.replicate 155 (.int 0)), (8, List.replicate 155 (.int 0)), (8, List.replicate 1240 (.int 0)), (8, List.replicate 8 (.int 0)), (8, List.replicate 8 (.int 0))]) hx dX7_init_53 rfl rfl (Nat.le_of_ble_eq_true rfl) rfl (Or.inr ⟨rfl, rfl, rfl⟩) rfl (mpe 56 rfl ?_)
  refine me_a (a_aload_n dX7_init_56 rfl) (mpe 57 rfl ?_)
  refine me_a (a_bipush (v := 8) dX7_init_57 rfl) (mpe 59 rfl ?_)
  refine ms_newi (k := 7) (N := 8) hx dX7_init_59 (by decide) rfl (by decide) rfl ⟨Nat.le_of_ble_eq_true rfl, Nat.le_of_ble_eq_true rfl⟩ (mpe 61 rfl ?_)
  refine ms_put (i := 28) (j := 0) (l' := [(7, [.ref (x + 1), .ref (x + 2), .ref (x + 3), .ref (x + 4), .int 0, .int 0, .int 0, .int 0, .int 0, .ref (x + 5), .ref (x + 6), .ref (x + 7), .null, .int 0, .int 0, .null, .null, .null, .null, .int 0, .int 0, .int 0, .null, .int 0, .int 0, .int 0, .int 0, .int 0, .int 0, .int 0]), (8, List.replicate 155 (.int 0)), (8, List.replicate 155 (.int 0)), (8, List.replicate 155 (.int 0)), (8, List.replicate 1240 (.int 0)), (8, List.replicate 8 (.int 0)), (8, List.replicate 8 (.int 0)), (8, List.replicate 8 (.int 0))]) hx dX7_init_61 rfl rfl (Nat.le_of_ble_eq_true rfl) rfl (Or.inr ⟨rfl, rfl, rfl⟩) rfl (mpe 64 rfl ?_)
  refine me_a (a_aload_n dX7_init_64 rfl) (mpe 65 rfl ?_)
  refine me_a (a_bipush (v := 8) dX7_init_65 rfl) (mpe 67 rfl ?_)
  refine ms_newi (k := 8) (N := 8) hx dX7_init_67 (by decide) rfl (by decide) rfl ⟨Nat.le_of_ble_eq_true rfl, Nat.le_of_ble_eq_true rfl⟩ (mpe 69 rfl ?_)
  refine ms_put (i := 31) (j := 0) (l' := [(7, [.ref (x + 1), .ref (x + 2), .ref (x + 3), .ref (x + 4), .int 0, .int 0, .int 0, .int 0, .int 0, .ref (x + 5), .ref (x + 6), .ref (x + 7), .ref (x + 8), .int 0, .int 0, .null, .null, .null, .null, .int 0, .int 0, .int 0, .null, .int 0, .int 0, .int 0, .int 0, .int 0, .int 0, .int 0]), (8, List.replicate 155 (.int 0)), (8, List.replicate 155 (.int 0)), (8, List.replicate 155 (.int 0)), (8, List.replicate 1240 (.int 0)), (8, List.replicate 8 (.int 0)), (8, List.replicate 8 (.int 0)), (8, List.replicate 8 (.int 0)), (8, List.replicate 8 (.int 0))]) hx dX7_init_69 rfl rfl (Nat.le_of_ble_eq_true rfl) rfl (Or.inr ⟨rfl, rfl, rfl⟩) rfl (mpe 72 rfl ?_)
  refine me_a (a_aload_n dX7_init_72 rfl) (mpe 73 rfl ?_)
  refine me_a (a_bipush (v := 7) dX7_init_73 rfl) (mpe 75 rfl ?_)
  refine ms_newi (k := 9) (N := 7) hx dX7_init_75 (by decide) rfl (by decide) rfl ⟨Nat.le_of_ble_eq_true rfl, Nat.le_of_ble_eq_true rfl⟩ (mpe 77 rfl ?_)
  refine ms_put (i := 34) (j := 0) (l' := [(7, [.ref (x + 1), .ref (x + 2), .ref (x + 3), .ref (x + 4), .int 0, .int 0, .int 0, .int 0, .int 0, .ref (x + 5), .ref (x + 6), .ref (x + 7), .ref (x + 8), .int 0, .int 0, .ref (x + 9), .null, .null, .null, .int 0, .int 0, .int 0, .null, .int 0, .int 0, .int 0, .int 0, .int 0, .int 0, .int 0]), (8, List.replicate 155 (.int 0)), (8, List.replicate 155 (.int 0)), (8, List.replicate 155 (.int 0)), (8, List.replicate 1240 (.int 0)), (8, List.replicate 8 (.int 0)), (8, List.replicate 8 (.int 0)), (8, List.replicate 8 (.int 0)), (8, List.replicate 8 (.int 0)), (8, List.replicate 7 (.int 0))]) hx dX7_init_77 rfl rfl (Nat.le_of_ble_eq_true rfl) rfl (Or.inr ⟨rfl, rfl, rfl⟩) rfl (mpe 80 rfl ?_)
  refine me_a (a_aload_n dX7_init_80 rfl) (mpe 81 rfl ?_)
  refine me_a (a_bipush (v := 7) dX7_init_81 rfl) (mpe 83 rfl ?_)
  refine ms_newi (k := 10) (N := 7) hx dX7_init_83 (by decide) rfl (by decide) rfl ⟨Nat.le_of_ble_eq_true rfl, Nat.le_of_ble_eq_true rfl⟩ (mpe 85 rfl ?_)
  refine ms_put (i := 37) (j := 0) (l' := [(7, [.ref (x + 1), .ref (x + 2), .ref (x + 3), .ref (x + 4), .int 0, .int 0, .int 0, .int 0, .int 0, .ref (x + 5), .ref (x + 6), .ref (x + 7), .ref (x + 8), .int 0, .int 0, .ref (x + 9), .ref (x + 10), .null, .null, .int 0, .int 0, .int 0, .null, .int 0, .int 0, .int 0, .int 0, .int 0, .int 0, .int 0]), (8, List.replicate 155 (.int 0)), (8, List.replicate 155 (.int 0)), (8, List.replicate 155 (.int 0)), (8, List.replicate 1240 (.int 0)), (8, List.replicate 8 (.int 0)), (8, List.replicate 8 (.int 0)), (8, List.replicate 8 (.int 0)), (8, List.replicate 8 (.int 0)), (8, List.replicate 7 (.int 0)), (8, List.replicate 7 (.int 0))]) hx dX7_init_85 rfl rfl (Nat.le_of_ble_eq_true rfl) rfl (Or.inr ⟨rfl, rfl, rfl⟩) rfl (mpe 88 rfl ?_)
  refine me_a (a_aload_n dX7_init_88 rfl) (mpe 89 rfl ?_)
  refine me_a (a_bipush (v := 8) dX7_init_89 rfl) (mpe 91 rfl ?_)
  refine ms_newi (k := 11) (N := 8) hx dX7_init_91 (by decide) rfl (by decide) rfl ⟨Nat.le_of_ble_eq_true rfl, Nat.le_of_ble_eq_true rfl⟩ (mpe 93 rfl ?_)
  refine ms_put (i := 40) (j := 0) (l' := [(7, [.ref (x + 1), .ref (x + 2), .ref (x + 3), .ref (x + 4), .int 0, .int 0, .int 0, .int 0, .int 0, .ref (x + 5), .ref (x + 6), .ref (x + 7), .ref (x + 8), .int 0, .int 0, .ref (x + 9), .ref (x + 10), .ref (x + 11), .null, .int 0, .int 0, .int 0, .null, .int 0, .int 0, .int 0, .int 0, .int 0, .int 0, .int 0]), (8, List.replicate 155 (.int 0)), (8, List.replicate 155 (.int 0)), (8, List.replicate 155 (.int 0)), (8, List.replicate 1240 (.int 0)), (8, List.replicate 8 (.int 0)), (8, List.replicate 8 (.int 0)), (8, List.replicate 8 (.int 0)), (8, List.replicate 8 (.int 0)), (8, List.replicate 7 (.int 0)), (8, List.replicate 7 (.int 0)), (8, List.replicate 8 (.int 0))]) hx dX7_init_93 rfl rfl (Nat.le_of_ble_eq_true rfl) rfl (Or.inr ⟨rfl, rfl, rfl⟩) rfl (mpe 96 rfl ?_)
  refine me_a (a_aload_n dX7_init_96 rfl) (mpe 97 rfl ?_)
  refine me_a (a_bipush (v := 7) dX7_init_97 rfl) (mpe 99 rfl ?_)
  refine ms_newz (k := 12) (N := 7) hx dX7_init_99 (by decide) rfl (by decide) rfl ⟨Nat.le_of_ble_eq_true rfl, Nat.le_of_ble_eq_true rfl⟩ (mpe 101 rfl ?_)
  refine ms_put (i := 43) (j := 0) (l' := [(7, [.ref (x + 1), .ref (x + 2), .ref (x + 3), .ref (x + 4), .int 0, .int 0, .int 0, .int 0, .int 0, .ref (x + 5), .ref (x + 6), .ref (x + 7), .ref (x + 8), .int 0, .int 0, .ref (x + 9), .ref (x + 10), .ref (x + 11), .ref (x + 12), .int 0, .int 0, .int 0, .null, .int 0, .int 0, .int 0, .int 0, .int 0, .int 0, .int 0]), (8, List.replicate 155 (.int 0)), (8, List.replicate 155 (.int 0)), (8, List.replicate 155 (.int 0)), (8, List.replicate 1240 (.int 0)), (8, List.replicate 8 (.int 0)), (8, List.replicate 8 (.int 0)), (8, List.replicate 8 (.int 0)), (8, List.replicate 8 (.int 0)), (8, List.replicate 7 (.int 0)), (8, List.replicate 7 (.int 0)), (8, List.replicate 8 (.int 0)), (9, List.replicate 7 (.int 0))]) hx dX7_init_101 rfl rfl (Nat.le_of_ble_eq_true rfl) rfl (Or.inr ⟨rfl, rfl, rfl⟩) rfl (mpe 104 rfl ?_)
  refine me_a (a_aload_n dX7_init_104 rfl) (mpe 105 rfl ?_)
  refine me_a (a_bipush (v := 80) dX7_init_105 rfl) (mpe 107 rfl ?_)
  refine ms_newi (k := 13) (N := 80) hx dX7_init_107 (by decide) rfl (by decide) rfl ⟨Nat.le_of_ble_eq_true rfl, Nat.le_of_ble_eq_true rfl⟩ (mpe 109 rfl ?_)
  refine ms_put (i := 47) (j := 0) (l' := [(7, [.ref (x + 1), .ref (x + 2), .ref (x + 3), .ref (x + 4), .int 0, .int 0, .int 0, .int 0, .int 0, .ref (x + 5), .ref (x + 6), .ref (x + 7), .ref (x + 8), .int 0, .int 0, .ref (x + 9), .ref (x + 10), .ref (x + 11), .ref (x + 12), .int 0, .int 0, .int 0, .ref (x + 13), .int 0, .int 0, .int 0, .int 0, .int 0, .int 0, .int 0]), (8, List.replicate 155 (.int 0)), (8, List.replicate 155 (.int 0)), (8, List.replicate 155 (.int 0)), (8, List.replicate 1240 (.int 0)), (8, List.replicate 8 (.int 0)), (8, List.replicate 8 (.int 0)), (8, List.replicate 8 (.int 0)), (8, List.replicate 8 (.int 0)), (8, List.replicate 7 (.int 0)), (8, List.replicate 7 (.int 0)), (8, List.replicate 8 (.int 0)), (9, List.replicate 7 (.int 0)), (8, List.replicate 80 (.int 0))]) hx dX7_init_109 rfl rfl (Nat.le_of_ble_eq_true rfl) rfl (Or.inr ⟨rfl, rfl, rfl⟩) rfl (mpe 112 rfl ?_)
  refine me_a (a_aload_n dX7_init_112 rfl) (mpe 113 rfl ?_)
  refine ms_get (i := 9) (j := 0) (v := .ref (x + 1)) hx dX7_init_113 rfl rfl rfl (mpe 116 rfl ?_)
  refine me_a (a_iconst (v := 1) dX7_init_116 rfl) (mpe 117 rfl ?_)
  refine me_a (a_bipush (v := 30) dX7_init_117 rfl) (mpe 119 rfl ?_)
  refine ms_iast (j := 1) (N := 155) (l' := [(7, [.ref (x + 1), .ref (x + 2), .ref (x + 3), .ref (x + 4), .int 0, .int 0, .int 0, .int 0, .int 0, .ref (x + 5), .ref (x + 6), .ref (x + 7), .ref (x + 8), .int 0, .int 0, .ref (x + 9), .ref (x + 10), .ref (x + 11), .ref (x + 12), .int 0, .int 0, .int 0, .ref (x + 13), .int 0, .int 0, .int 0, .int 0, .int 0, .int 0, .int 0]), (8, (List.replicate 155 (.int 0)).set 1 (.int 30)), (8, List.replicate 155 (.int 0)), (8, List.replicate 155 (.int 0)), (8, List.replicate 1240 (.int 0)), (8, List.replicate 8 (.int 0)), (8, List.replicate 8 (.int 0)), (8, List.replicate 8 (.int 0)), (8, List.replicate 8 (.int 0)), (8, List.replicate 7 (.int 0)), (8, List.replicate 7 (.int 0)), (8, List.replicate 8 (.int 0)), (9, List.replicate 7 (.int 0)), (8, List.replicate 80 (.int 0))]) hx dX7_init_119 rfl rfl (by decide) rfl (mpe 120 rfl ?_)
  refine me_a (a_aload_n dX7_init_120 rfl) (mpe 121 rfl ?_)
  refine me_a (a_sipush (v := -1004) dX7_init_121 rfl) (mpe 124 rfl ?_)
  refine ms_put (i := 50) (j := 0) (l' := [(7, [.ref (x + 1), .ref (x + 2), .ref (x + 3), .ref (x + 4), .int 0, .int 0, .int 0, .int (-1004), .int 0, .ref (x + 5), .ref (x + 6), .ref (x + 7), .ref (x + 8), .int 0, .int 0, .ref (x + 9), .ref (x + 10), .ref (x + 11), .ref (x + 12), .int 0, .int 0, .int 0, .ref (x + 13), .int 0, .int 0, .int 0, .int 0, .int 0, .int 0, .int 0]), (8, (List.replicate 155 (.int 0)).set 1 (.int 30)), (8, List.replicate 155 (.int 0)), (8, List.replicate 155 (.int 0)), (8, List.replicate 1240 (.int 0)), (8, List.replicate 8 (.int 0)), (8, List.replicate 8 (.int 0)), (8, List.replicate 8 (.int 0)), (8, List.replicate 8 (.int 0)), (8, List.replicate 7 (.int 0)), (8, List.replicate 7 (.int 0)), (8, List.replicate 8 (.int 0)), (9, List.replicate 7 (.int 0)), (8, List.replicate 80 (.int 0))]) hx dX7_init_124 rfl rfl (Nat.le_of_ble_eq_true rfl) rfl (Or.inl rfl) rfl (mpe 127 rfl ?_)
  exact ms_ret dX7_init_127 rfl rfl
theorem ei_122 {X l : mP} {x k : Nat} (hx : X.length = x) (hk : l.length = k) : Ev 1 122 [.ref (x + k)] (X ++ (l ++ [(7, mdef 7)])) none (X ++ (l ++ rModel (x + k))) := by
  have h := ec_122 (X := X ++ l) (x := x + k) (by rw [List.length_append, hx, hk])
  rw [List.append_assoc, List.append_assoc] at h
  exact h
end
section
/-! rows with their values told -/
section MP
variable {d : Nat} {scr : Option (List Int32)} {q : mQ} {pc : Nat} {L : List (Nat × Value)} {st rest : List Value} {P P1 P' : mP} {cz sz : Nat} {r : Option Value} {Φ : Option Value → mP → Prop}
theorem mp_ial {a N : Nat} {vs : List Value} {i v : Int32} (hd : decode q.2.1 pc = .ok (.iaload, 1)) (ha : P[a]? = some (8, vs)) (hN : vs.length = N) (hi : ¬ (i < 0 ∨ N ≤ i.toNatClampNeg)) (hv : mint (vs.getD i.toNatClampNeg .null) = v) (kk : MEvP d scr q (pc + 1) L (.int v :: rest) P cz sz Φ) : MEvP d scr q pc L (.int i :: .ref a :: rest) P cz sz Φ := by
  subst hN
  subst hv
  exact mp_iald hd ha hi kk
theorem mp_ias {a N : Nat} {vs : List Value} {i x : Int32} (hd : decode q.2.1 pc = .ok (.iastore, 1)) (ha : P[a]? = some (8, vs)) (hN : vs.length = N) (hi : ¬ (i < 0 ∨ N ≤ i.toNatClampNeg)) (kk : MEvP d scr q (pc + 1) L rest (P.set a (8, vs.set i.toNatClampNeg (.int x))) cz sz Φ) : MEvP d scr q pc L (.int x :: .int i :: .ref a :: rest) P cz sz Φ := by
  subst hN
  exact mp_iast hd ha hi kk
theorem mp_aal {a kd N : Nat} {vs : List Value} {i : Int32} {v : Value} (hd : decode q.2.1 pc = .ok (.aaload, 1)) (ha : P[a]? = some (kd, vs)) (hkd : kd = 10 ∨ kd = 11) (hN : vs.length = N) (hi : ¬ (i < 0 ∨ N ≤ i.toNatClampNeg)) (hv : mnul (vs.getD i.toNatClampNeg .null) = v) (kk : MEvP d scr q (pc + 1) L (v :: rest) P cz sz Φ) : MEvP d scr q pc L (.int i :: .ref a :: rest) P cz sz Φ := by
  subst hN
  subst hv
  refine mp_B (z := (pc + 1, _, P)) (by simp only [mA, hd]) (by simp only [mS, hd]) ?_ kk
  simp only [mB, hd, ha]
  rw [if_pos ⟨hkd, hi⟩]
theorem mp_len {a kd : Nat} {vs : List Value} {n : Int32} (hd : decode q.2.1 pc = .ok (.arraylength, 1)) (ha : P[a]? = some (kd, vs)) (hk : kd = 8 ∨ kd = 9 ∨ kd = 10 ∨ kd = 11) (hn : Int32.ofNat vs.length = n) (kk : MEvP d scr q (pc + 1) L (.int n :: rest) P cz sz Φ) : MEvP d scr q pc L (.ref a :: rest) P cz sz Φ := by
  subst hn
  exact mp_alen hd ha hk kk
theorem mp_math {i k kd : Nat} {x y v : Int32} (hd : decode q.2.1 pc = .ok (.invokestatic i, 3)) (hc : mcal q.2.2.2.2.2.1 i = some (kd, k)) (hkd : kd = 7 ∨ kd = 8) (hcat : (rest.map mcat).sum ≤ 8) (hv : (if kd = 7 then (if x < y then y else x) else (if y < x then y else x)) = v) (hcz : cz ≤ q.2.2.2.2.2.2.1 ∧ sz ≤ q.2.2.2.2.2.2.2) (kk : MEvP d scr q (pc + 3) L (.int v :: rest) P cz sz Φ) : MEvP d scr q pc L (.int y :: .int x :: rest) P cz sz Φ := by
  subst hv
  obtain ⟨r, P', h1, F, f, hh⟩ := kk
  refine ⟨r, P', h1, F, f + 1, ?_⟩
  have hC : mC (mcall F d) q.2.1 q.2.2.2.2.2.1 pc (.int y :: .int x :: rest) P = some (pc + 3, .int (if kd = 7 then (if x < y then y else x) else (if y < x then y else x)) :: rest, P, 0, 0) := by
    have h2 : ¬ (kd = 2 ∨ kd = 3) := by omega
    simp only [mC, hd, hc]
    rw [if_neg h2, if_pos hkd, if_pos hcat]
  unfold mexec
  rw [show mA q.2.1 q.2.2.1 pc L (.int y :: .int x :: rest) = none by simp only [mA, hd], show mS q.2.1 pc (.int y :: .int x :: rest) = none by simp only [mS, hd], show mB q.2.1 q.2.2.2.2.2.1 (q.1.name == "<init>") pc (.int y :: .int x :: rest) P = none by simp only [mB, hd], hC]
  dsimp only
  rw [Nat.add_zero, Nat.add_zero, if_pos hcz]
  exact hh
end MP
theorem s_lok {cc : ByteArray} {nL pc : Nat} {L : List (Nat × Value)} {r : List Value} {dflt : Int} {ps : Array (Int × Int)} {len t : Nat} {x : Int32} {off : Int} (hd : decode cc pc = .ok (.lookupswitch dflt ps, len)) (hp : (ps.toList.zip (ps.toList.drop 1)).all (fun (a, next) => a.1 < next.1) = true) (ho : Op.lookupswitch.offset ps.toList dflt x.toInt = off) (ht : (pc : Int) + off = (t : Int)) : mA cc nL pc L (.int x :: r) = none ∧ mS cc pc (.int x :: r) = some (t, r) := ⟨by simp only [mA, hd], by
  subst ho
  simp only [mS, hd, mlok]
  rw [if_pos hp, if_pos (by omega)]
  congr 2
  omega⟩
theorem i_lt0 {x : Int32} (h : ¬ x < 0) : 0 ≤ x := Int32.not_lt.mp h
/-- the fresh pool -/
def P0 : mP := [] ++ (([] ++ rTheatre (0 + 0)) ++ rModel (0 + 301))
/-- the reference's part of a pool is fresh -/
def MOD (P : mP) : Prop := ∀ j : Nat, 301 ≤ j → P[j]? = P0[j]?
theorem MOD.set {P : mP} {a : Nat} {c : Nat × List Value} (h : MOD P) (ha : a < 301) : MOD (P.set a c) := fun j hj => by rw [List.getElem?_set_ne (by omega)]; exact h j hj
theorem MOD.f {P : mP} {j : Nat} {c : Option (Nat × List Value)} (h : MOD P) (hj : 301 ≤ j) (hc : P0[j]? = c) : P[j]? = c := (h j hj).trans hc
theorem MOD.r : MOD P0 := fun _ _ => rfl
theorem MOD.ne {P P' : mP} {a : Nat} (h : MOD P) (g : ∀ j : Nat, j ≠ a → P'[j]? = P[j]?) (ha : a < 301) : MOD P' := fun j hj => (g j (by omega)).trans (h j hj)
theorem MOD.ne2 {P P' : mP} {a b : Nat} (h : MOD P) (g : ∀ j : Nat, j ≠ a → j ≠ b → P'[j]? = P[j]?) (ha : a < 301) (hb : b < 301) : MOD P' := fun j hj => (g j (by omega) (by omega)).trans (h j hj)
end
section
/-! cells of the fresh pool, by the kernel -/
theorem p0_0 : P0[0]? = some (6, [.ref 1, .ref 27, .ref 53, .ref 79, .ref 289, .ref 291, .ref 294, .ref 298, .int 0, .int (-1004), .int 0, .int 0, .int (-1004)]) := by decide +kernel
theorem p0_1 : P0[1]? = some (5, [.ref 2, .int 0, .int 30, .int 0]) := by decide +kernel
theorem p0_2 : P0[2]? = some (10, [.ref 3, .ref 6, .ref 9, .ref 12, .ref 15, .ref 18, .ref 21, .ref 24]) := by decide +kernel
theorem p0_27 : P0[27]? = some (5, [.ref 28, .int 0, .int 30, .int 0]) := by decide +kernel
theorem p0_28 : P0[28]? = some (10, [.ref 29, .ref 32, .ref 35, .ref 38, .ref 41, .ref 44, .ref 47, .ref 50]) := by decide +kernel
theorem p0_53 : P0[53]? = some (5, [.ref 54, .int 0, .int 30, .int 0]) := by decide +kernel
theorem p0_54 : P0[54]? = some (10, [.ref 55, .ref 58, .ref 61, .ref 64, .ref 67, .ref 70, .ref 73, .ref 76]) := by decide +kernel
theorem p0_79 : P0[79]? = some (0, [.ref 80, .int 0, .int 0, .int 0]) := by decide +kernel
theorem p0_80 : P0[80]? = some (11, [.ref 81, .ref 107, .ref 133, .ref 159, .ref 185, .ref 211, .ref 237, .ref 263]) := by decide +kernel
theorem p0_81 : P0[81]? = some (5, [.ref 82, .int 0, .int 30, .int 0]) := by decide +kernel
theorem p0_82 : P0[82]? = some (10, [.ref 83, .ref 86, .ref 89, .ref 92, .ref 95, .ref 98, .ref 101, .ref 104]) := by decide +kernel
theorem p0_289 : P0[289]? = some (4, [.ref 290, .int 0, .int 0, .int 0, .int 0, .int 0, .int 0, .int 0]) := by decide +kernel
theorem p0_290 : P0[290]? = some (8, List.replicate 80 (.int 0)) := by decide +kernel
theorem p0_291 : P0[291]? = some (3, [.int 0, .int 0, .ref 292, .ref 293]) := by decide +kernel
theorem p0_294 : P0[294]? = some (1, [.int 0, .ref 295, .ref 296, .ref 297]) := by decide +kernel
theorem p0_298 : P0[298]? = some (2, [.int 0, .int 0, .int 0, .ref 299, .ref 300]) := by decide +kernel
theorem p0_299 : P0[299]? = some (8, List.replicate 8 (.int 0)) := by decide +kernel
theorem p0_300 : P0[300]? = some (8, List.replicate 8 (.int 0)) := by decide +kernel
theorem p0_3 : P0[3]? = some (2, [.int 0, .int 0, .int 0, .ref 4, .ref 5]) := by decide +kernel
theorem p0_4 : P0[4]? = some (8, List.replicate 8 (.int 0)) := by decide +kernel
theorem p0_5 : P0[5]? = some (8, List.replicate 8 (.int 0)) := by decide +kernel
theorem p0_301 : P0[301]? = some (7, [.ref 302, .ref 303, .ref 304, .ref 305, .int 0, .int 0, .int 0, .int (-1004), .int 0, .ref 306, .ref 307, .ref 308, .ref 309, .int 0, .int 0, .ref 310, .ref 311, .ref 312, .ref 313, .int 0, .int 0, .int 0, .ref 314, .int 0, .int 0, .int 0, .int 0, .int 0, .int 0, .int 0]) := by decide +kernel
theorem p0_302 : P0[302]? = some (8, (List.replicate 155 (.int 0)).set 1 (.int 30)) := by decide +kernel
theorem p0_303 : P0[303]? = some (8, List.replicate 155 (.int 0)) := by decide +kernel
theorem p0_304 : P0[304]? = some (8, List.replicate 155 (.int 0)) := by decide +kernel
theorem p0_305 : P0[305]? = some (8, List.replicate 1240 (.int 0)) := by decide +kernel
theorem p0_306 : P0[306]? = some (8, List.replicate 8 (.int 0)) := by decide +kernel
theorem p0_307 : P0[307]? = some (8, List.replicate 8 (.int 0)) := by decide +kernel
theorem p0_308 : P0[308]? = some (8, List.replicate 8 (.int 0)) := by decide +kernel
theorem p0_309 : P0[309]? = some (8, List.replicate 8 (.int 0)) := by decide +kernel
theorem p0_310 : P0[310]? = some (8, List.replicate 7 (.int 0)) := by decide +kernel
theorem p0_311 : P0[311]? = some (8, List.replicate 7 (.int 0)) := by decide +kernel
theorem p0_312 : P0[312]? = some (8, List.replicate 8 (.int 0)) := by decide +kernel
theorem p0_314 : P0[314]? = some (8, List.replicate 80 (.int 0)) := by decide +kernel
end
section
/-! the locals' order is of no matter: M reads them by their numbers alone -/
def mleq (L L' : List (Nat × Value)) : Prop := (∀ q ∈ L, mcat q.2 = 1) ∧ (∀ q ∈ L', mcat q.2 = 1) ∧ ∀ i : Nat, mget L i = mget L' i
theorem mfind_filter {i j : Nat} (hij : ¬ i = j) : ∀ L : List (Nat × Value), (∀ q ∈ L, mcat q.2 = 1) → (L.filter (fun q => !(q.1 == i) && !(q.1 + 1 == i && (msh 0 0 q.2).category == 2))).find? (fun q => q.1 == j) = L.find? (fun q => q.1 == j)
  | [], _ => rfl
  | q :: L, h => by
    have ih := mfind_filter hij L (fun q hq => h q (List.mem_cons_of_mem _ hq))
    have hc : (msh 0 0 q.2).category = 1 := h q List.mem_cons_self
    by_cases hq : q.1 = i
    · have h1 : (!(q.1 == i) && !(q.1 + 1 == i && (msh 0 0 q.2).category == 2)) = false := by simp [hq]
      have h2 : (q.1 == j) = false := by simp [hq, hij]
      rw [List.filter_cons, h1, List.find?_cons, h2]
      exact ih
    · have h1 : (!(q.1 == i) && !(q.1 + 1 == i && (msh 0 0 q.2).category == 2)) = true := by simp [hq, hc]
      rw [List.filter_cons, h1, if_pos rfl, List.find?_cons, List.find?_cons, ih]
theorem mget_put {L : List (Nat × Value)} (h : ∀ q ∈ L, mcat q.2 = 1) (i j : Nat) (v : Value) : mget (mput i v L) j = if i = j then some v else mget L j := by
  unfold mget mput
  rw [List.find?_cons]
  by_cases hij : i = j
  · have : (i == j) = true := by simp [hij]
    rw [this, if_pos hij]
    rfl
  · have : (i == j) = false := by simp [hij]
    rw [this, if_neg hij]
    dsimp only
    rw [mfind_filter hij L h]
theorem mput_cat {L : List (Nat × Value)} (h : ∀ q ∈ L, mcat q.2 = 1) {i : Nat} {v : Value} (hv : mcat v = 1) : ∀ q ∈ mput i v L, mcat q.2 = 1 := by
  intro q hq
  unfold mput at hq
  rcases List.mem_cons.mp hq with rfl | hq
  · exact hv
  · exact h q (List.mem_filter.mp hq).1
theorem mleq.put {L L' : List (Nat × Value)} (h : mleq L L') {i : Nat} {v : Value} (hv : mcat v = 1) : mleq (mput i v L) (mput i v L') := by
  refine ⟨mput_cat h.1 hv, mput_cat h.2.1 hv, fun j => ?_⟩
  rw [mget_put h.1, mget_put h.2.1, h.2.2]
/-- two outcomes that are alike -/
def mAq (x y : Option (Nat × List (Nat × Value) × List Value)) : Prop := match x, y with
  | none, none => True
  | some a, some b => a.1 = b.1 ∧ mleq a.2.1 b.2.1 ∧ a.2.2 = b.2.2
  | _, _ => False
theorem mAq_map {L L' : List (Nat × Value)} {x : Option Int32} {f g : Int32 → Nat × List (Nat × Value) × List Value} (h : ∀ v, mAq (some (f v)) (some (g v))) : mAq (x.map f) (x.map g) := by
  cases x with
  | none => trivial
  | some v => exact h v
theorem mA_leq {cc : ByteArray} {nL pc : Nat} {L L' : List (Nat × Value)} {st : List Value} (h : mleq L L') : mAq (mA cc nL pc L st) (mA cc nL pc L' st) := by
  have hI : ∀ k, mgI L' k = mgI L k := fun k => by unfold mgI; rw [h.2.2 k]
  have hG : ∀ k, mget L' k = mget L k := fun k => (h.2.2 k).symm
  unfold mA
  cases decode cc pc with
  | error e => trivial
  | ok p =>
    obtain ⟨ins, n⟩ := p
    simp only [hI, hG]
    split
    · exact mAq_map (L := L) (L' := L') (fun v => ⟨rfl, h, rfl⟩)
    · exact mAq_map (L := L) (L' := L') (fun v => ⟨rfl, h, rfl⟩)
    · split <;> first | exact ⟨rfl, h, rfl⟩ | trivial
    · split <;> first | exact ⟨rfl, h, rfl⟩ | trivial
    · exact ⟨rfl, h, rfl⟩
    · exact ⟨rfl, h, rfl⟩
    · exact ⟨rfl, h, rfl⟩
    · exact ⟨rfl, h, rfl⟩
    · split
      · split <;> first | exact ⟨rfl, h.put rfl, rfl⟩ | trivial
      · trivial
    · split
      · split <;> first | exact ⟨rfl, h.put rfl, rfl⟩ | trivial
      · trivial
    · split
      · split <;> first | exact ⟨rfl, h.put rfl, rfl⟩ | trivial
      · split <;> first | exact ⟨rfl, h.put rfl, rfl⟩ | trivial
      · trivial
    · split
      · split <;> first | exact ⟨rfl, h.put rfl, rfl⟩ | trivial
      · split <;> first | exact ⟨rfl, h.put rfl, rfl⟩ | trivial
      · trivial
    · split
      · exact mAq_map (L := L) (L' := L') (fun v => ⟨rfl, h.put rfl, rfl⟩)
      · trivial
    · split <;> first | exact ⟨rfl, h, rfl⟩ | trivial
    · split
      · split <;> first | exact ⟨rfl, h.put rfl, rfl⟩ | trivial
      · trivial
    · split <;> first | exact ⟨rfl, h, rfl⟩ | trivial
    · trivial
theorem mexec_leq {call : mCall} {scr : Option (List Int32)} {cc : ByteArray} {nL o : Nat} {ini : Bool} {ret : Option FieldType} {mcM msM : Nat} : ∀ (f pc : Nat) (L L' : List (Nat × Value)) (st : List Value) (P : mP) (cz sz : Nat), mleq L L' → mexec call scr cc nL o ini ret mcM msM f pc L st P cz sz = mexec call scr cc nL o ini ret mcM msM f pc L' st P cz sz := by
  intro f
  induction f with
  | zero => intros; rfl
  | succ f ih =>
    intro pc L L' st P cz sz h
    have hA := mA_leq (cc := cc) (nL := nL) (pc := pc) (st := st) h
    unfold mexec
    cases h1 : mA cc nL pc L st with
    | some a =>
      cases h2 : mA cc nL pc L' st with
      | some b =>
        rw [h1, h2] at hA
        obtain ⟨e1, e2, e3⟩ := hA
        dsimp only
        rw [e1, e3]
        exact ih _ _ _ _ _ _ _ e2
      | none =>
        rw [h1, h2] at hA
        exact hA.elim
    | none =>
      cases h2 : mA cc nL pc L' st with
      | some b =>
        rw [h1, h2] at hA
        exact hA.elim
      | none =>
        dsimp only
        cases mS cc pc st with
        | some z => exact ih _ _ _ _ _ _ _ h
        | none =>
          dsimp only
          cases mB cc o ini pc st P with
          | some z => exact ih _ _ _ _ _ _ _ h
          | none =>
            dsimp only
            cases mC call cc o pc st P with
            | some z =>
              dsimp only
              split
              · exact ih _ _ _ _ _ _ _ h
              · rfl
            | none =>
              dsimp only
              cases mN cc o pc st P with
              | some z =>
                dsimp only
                split
                · exact ih _ _ _ _ _ _ _ h
                · rfl
              | none =>
                dsimp only
                cases mK scr cc pc st with
                | some z => exact ih _ _ _ _ _ _ _ h
                | none => rfl
theorem MEvP.perm {d : Nat} {scr : Option (List Int32)} {q : mQ} {pc : Nat} {L L' : List (Nat × Value)} {st : List Value} {P : mP} {cz sz : Nat} {Φ : Option Value → mP → Prop} (h : mleq L L') (k : MEvP d scr q pc L' st P cz sz Φ) : MEvP d scr q pc L st P cz sz Φ := by
  obtain ⟨r, P', h1, F, f, h2⟩ := k
  exact ⟨r, P', h1, F, f, (mexec_leq f pc L L' st P cz sz h).trans h2⟩
theorem mleq_mk {L L' : List (Nat × Value)} (h1 : L.all (fun q => mcat q.2 == 1) = true) (h2 : L'.all (fun q => mcat q.2 == 1) = true) (h3 : ∀ i : Nat, mget L i = mget L' i) : mleq L L' := ⟨fun q hq => beq_iff_eq.mp (List.all_eq_true.mp h1 q hq), fun q hq => beq_iff_eq.mp (List.all_eq_true.mp h2 q hq), h3⟩
/-! fewer locals: what runs with fewer runs with more -/
theorem mA_excl {cc : ByteArray} {nL pc : Nat} {L : List (Nat × Value)} {st : List Value} {z : Nat × List (Nat × Value) × List Value} (h : mA cc nL pc L st = some z) : (∀ st', mS cc pc st' = none) ∧ (∀ o ini st' P, mB cc o ini pc st' P = none) ∧ (∀ call o st' P, mC call cc o pc st' P = none) ∧ (∀ o st' P, mN cc o pc st' P = none) ∧ (∀ scr st', mK scr cc pc st' = none) ∧ (∀ ret st', mret cc ret pc st' = none) := by
  unfold mA at h
  split at h
  all_goals first
    | (cases h; done)
    | (rename_i heq
       refine ⟨fun _ => by simp only [mS, heq], fun _ _ _ _ => by simp only [mB, heq], fun _ _ _ _ => by simp only [mC, heq], fun _ _ _ => by simp only [mN, heq], fun scr _ => by cases scr <;> simp only [mK, heq], fun _ _ => by simp only [mret, heq]⟩)
def mle (L L' : List (Nat × Value)) : Prop := (∀ q ∈ L, mcat q.2 = 1) ∧ (∀ q ∈ L', mcat q.2 = 1) ∧ ∀ (i : Nat) (v : Value), mget L i = some v → mget L' i = some v
theorem mle.put {L L' : List (Nat × Value)} (h : mle L L') {i : Nat} {v : Value} (hv : mcat v = 1) : mle (mput i v L) (mput i v L') := by
  refine ⟨mput_cat h.1 hv, mput_cat h.2.1 hv, fun j w => ?_⟩
  rw [mget_put h.1, mget_put h.2.1]
  split
  · exact id
  · exact h.2.2 j w
def mAl (x y : Option (Nat × List (Nat × Value) × List Value)) : Prop := ∀ a, x = some a → ∃ b, y = some b ∧ a.1 = b.1 ∧ mle a.2.1 b.2.1 ∧ a.2.2 = b.2.2
theorem mAl_some {a b : Nat × List (Nat × Value) × List Value} (h1 : a.1 = b.1) (h2 : mle a.2.1 b.2.1) (h3 : a.2.2 = b.2.2) : mAl (some a) (some b) := by
  intro c hc
  cases hc
  exact ⟨b, rfl, h1, h2, h3⟩
theorem mgI_le {L L' : List (Nat × Value)} (h : mle L L') {i : Nat} {x : Int32} (hx : mgI L i = some x) : mgI L' i = some x := by
  have := h.2.2 i _ (mgI_get hx)
  unfold mgI
  rw [this]
theorem mAl_map {L L' : List (Nat × Value)} (h : mle L L') {i : Nat} {f g : Int32 → Nat × List (Nat × Value) × List Value} (hf : ∀ v, mAl (some (f v)) (some (g v))) : mAl ((mgI L i).map f) ((mgI L' i).map g) := by
  intro a ha
  obtain ⟨x, hx, rfl⟩ := Option.map_eq_some_iff.mp ha
  rw [mgI_le h hx]
  exact hf x _ rfl
theorem mA_le {cc : ByteArray} {nL pc : Nat} {L L' : List (Nat × Value)} {st : List Value} (h : mle L L') : mAl (mA cc nL pc L st) (mA cc nL pc L' st) := by
  have hG : ∀ i v, mget L i = some v → mget L' i = some v := h.2.2
  unfold mA
  cases decode cc pc with
  | error e => intro a ha; cases ha
  | ok p =>
    obtain ⟨ins, n⟩ := p
    split
    · exact mAl_map h (fun v => mAl_some rfl h rfl)
    · exact mAl_map h (fun v => mAl_some rfl h rfl)
    · intro a ha
      split at ha <;> first | (rename_i hx; cases ha; rw [hG _ _ hx]; exact ⟨_, rfl, rfl, h, rfl⟩) | cases ha
    · intro a ha
      split at ha <;> first | (rename_i hx; cases ha; rw [hG _ _ hx]; exact ⟨_, rfl, rfl, h, rfl⟩) | cases ha
    · exact mAl_some rfl h rfl
    · exact mAl_some rfl h rfl
    · exact mAl_some rfl h rfl
    · exact mAl_some rfl h rfl
    · split
      · split <;> first | exact mAl_some rfl (h.put rfl) rfl | (intro a ha; cases ha)
      · intro a ha; cases ha
    · split
      · split <;> first | exact mAl_some rfl (h.put rfl) rfl | (intro a ha; cases ha)
      · intro a ha; cases ha
    · split
      · split <;> first | exact mAl_some rfl (h.put rfl) rfl | (intro a ha; cases ha)
      · split <;> first | exact mAl_some rfl (h.put rfl) rfl | (intro a ha; cases ha)
      · intro a ha; cases ha
    · split
      · split <;> first | exact mAl_some rfl (h.put rfl) rfl | (intro a ha; cases ha)
      · split <;> first | exact mAl_some rfl (h.put rfl) rfl | (intro a ha; cases ha)
      · intro a ha; cases ha
    · split
      · exact mAl_map h (fun v => mAl_some rfl (h.put rfl) rfl)
      · intro a ha; cases ha
    · intro a ha
      split at ha <;> first | (rename_i hx; cases ha; rw [hG _ _ hx]; exact ⟨_, rfl, rfl, h, rfl⟩) | cases ha
    · split
      · split <;> first | exact mAl_some rfl (h.put rfl) rfl | (intro a ha; cases ha)
      · intro a ha; cases ha
    · split <;> first | exact mAl_some rfl h rfl | (intro a ha; cases ha)
    · intro a ha; cases ha
theorem mexec_le {call : mCall} {scr : Option (List Int32)} {cc : ByteArray} {nL o : Nat} {ini : Bool} {ret : Option FieldType} {mcM msM : Nat} {res : Option Value × mP} : ∀ (f pc : Nat) (L L' : List (Nat × Value)) (st : List Value) (P : mP) (cz sz : Nat), mle L L' → mexec call scr cc nL o ini ret mcM msM f pc L st P cz sz = some res → mexec call scr cc nL o ini ret mcM msM f pc L' st P cz sz = some res := by
  intro f
  induction f with
  | zero => intro pc L L' st P cz sz _ h; cases h
  | succ f ih =>
    intro pc L L' st P cz sz h hx
    have hA := mA_le (cc := cc) (nL := nL) (pc := pc) (st := st) h
    unfold mexec at hx ⊢
    cases h1 : mA cc nL pc L st with
    | some a =>
      obtain ⟨b, e0, e1, e2, e3⟩ := hA a h1
      rw [h1] at hx
      rw [e0]
      dsimp only at hx ⊢
      rw [← e1, ← e3]
      exact ih _ _ _ _ _ _ _ e2 hx
    | none =>
      rw [h1] at hx
      dsimp only at hx
      cases h2 : mA cc nL pc L' st with
      | some b =>
        obtain ⟨g1, g2, g3, g4, g5, g6⟩ := mA_excl h2
        rw [g1, g2, g3, g4, g5, g6] at hx
        cases hx
      | none =>
        dsimp only
        cases h3 : mS cc pc st with
        | some z =>
          rw [h3] at hx
          exact ih _ _ _ _ _ _ _ h hx
        | none =>
          rw [h3] at hx
          dsimp only at hx ⊢
          cases h4 : mB cc o ini pc st P with
          | some z =>
            rw [h4] at hx
            exact ih _ _ _ _ _ _ _ h hx
          | none =>
            rw [h4] at hx
            dsimp only at hx ⊢
            cases h5 : mC call cc o pc st P with
            | some z =>
              rw [h5] at hx
              dsimp only at hx ⊢
              split at hx
              · rename_i hc
                rw [if_pos hc]
                exact ih _ _ _ _ _ _ _ h hx
              · cases hx
            | none =>
              rw [h5] at hx
              dsimp only at hx ⊢
              cases h6 : mN cc o pc st P with
              | some z =>
                rw [h6] at hx
                dsimp only at hx ⊢
                split at hx
                · rename_i hc
                  rw [if_pos hc]
                  exact ih _ _ _ _ _ _ _ h hx
                · cases hx
              | none =>
                rw [h6] at hx
                dsimp only at hx ⊢
                cases h7 : mK scr cc pc st with
                | some z =>
                  rw [h7] at hx
                  exact ih _ _ _ _ _ _ _ h hx
                | none =>
                  rw [h7] at hx
                  exact hx
/-- every one of the fewer stands among the more -/
def mFew (L' : List (Nat × Value)) : List (Nat × Value) → Prop
  | [] => True
  | q :: L => mget L' q.1 = some q.2 ∧ mFew L' L
theorem mFew_mem {L' : List (Nat × Value)} : ∀ {L : List (Nat × Value)}, mFew L' L → ∀ q ∈ L, mget L' q.1 = some q.2
  | [], _, _, hq => by cases hq
  | q :: L, h, r, hr => by
    rcases List.mem_cons.mp hr with rfl | hr
    · exact h.1
    · exact mFew_mem h.2 r hr
theorem MEvP.less {d : Nat} {scr : Option (List Int32)} {q : mQ} {pc : Nat} {L L' : List (Nat × Value)} {st : List Value} {P : mP} {cz sz : Nat} {Φ : Option Value → mP → Prop} (h1 : L.all (fun q => mcat q.2 == 1) = true) (h2 : L'.all (fun q => mcat q.2 == 1) = true) (h : mFew L' L) (k : MEvP d scr q pc L st P cz sz Φ) : MEvP d scr q pc L' st P cz sz Φ := by
  have hm : mle L L' := ⟨fun q hq => beq_iff_eq.mp (List.all_eq_true.mp h1 q hq), fun q hq => beq_iff_eq.mp (List.all_eq_true.mp h2 q hq), fun i v hv => mFew_mem h (i, v) (mget_mem hv)⟩
  obtain ⟨r, P', h1, F, f, h2⟩ := k
  exact ⟨r, P', h1, F, f, mexec_le f pc L L' st P cz sz hm h2⟩
end
section
/-! a pool whose cells keep their kinds, their lengths, their refs and their ranges (written by a program) -/
def rlL : List Nat := [0, 31, 32, 33, 4, 5, 33, 4, 5, 33, 4, 5, 33, 4, 5, 33, 4, 5, 33, 4, 5, 33, 4, 5, 33, 4, 5, 1, 2, 3, 4, 5, 3, 4, 5, 3, 4, 5, 3, 4, 5, 3, 4, 5, 3, 4, 5, 3, 4, 5, 3, 4, 5, 1, 2, 3, 4, 5, 3, 4, 5, 3, 4, 5, 3, 4, 5, 3, 4, 5, 3, 4, 5, 3, 4, 5, 3, 4, 5, 6, 7, 1, 2, 3, 4, 5, 3, 4, 5, 3, 4, 5, 3, 4, 5, 3, 4, 5, 3, 4, 5, 3, 4, 5, 3, 4, 5, 1, 2, 3, 4, 5, 3, 4, 5, 3, 4, 5, 3, 4, 5, 3, 4, 5, 3, 4, 5, 3, 4, 5, 3, 4, 5, 1, 2, 3, 4, 5, 3, 4, 5, 3, 4, 5, 3, 4, 5, 3, 4, 5, 3, 4, 5, 3, 4, 5, 3, 4, 5, 1, 2, 3, 4, 5, 3, 4, 5, 3, 4, 5, 3, 4, 5, 3, 4, 5, 3, 4, 5, 3, 4, 5, 3, 4, 5, 1, 2, 3, 4, 5, 3, 4, 5, 3, 4, 5, 3, 4, 5, 3, 4, 5, 3, 4, 5, 3, 4, 5, 3, 4, 5, 1, 2, 3, 4, 5, 3, 4, 5, 3, 4, 5, 3, 4, 5, 3, 4, 5, 3, 4, 5, 3, 4, 5, 3, 4, 5, 1, 2, 3, 4, 5, 3, 4, 5, 3, 4, 5, 3, 4, 5, 3, 4, 5, 3, 4, 5, 3, 4, 5, 3, 4, 5, 1, 2, 3, 4, 5, 3, 4, 5, 3, 4, 5, 3, 4, 5, 3, 4, 5, 3, 4, 5, 3, 4, 5, 3, 4, 5, 8, 9, 10, 11, 12, 13, 14, 15, 16, 3, 4, 5, 17, 18, 19, 20, 21, 22, 23, 24, 25, 26, 27, 28, 29, 30]
def rl (a : Nat) : Nat := rlL.getD a 99
abbrev mSp : Type := Nat × Int × Int
def okV (s : mSp) : Value → Prop
  | .int x => s.1 = 0 ∧ s.2.1 ≤ x.toInt ∧ x.toInt ≤ s.2.2
  | .ref b => s.1 = rl b + 1
  | _ => False
def spF : mSp := (0, -2147483648, 2147483647)
def spOf (l : List mSp) (j : Nat) : mSp := l.getD j (99, 0, 0)
def ssp (j : Nat) : mSp := if j = 0 then (0, 0, 8) else if j < 3 then spF else if (j - 3) % 19 = 0 then (0, 0, 1) else if (j - 3) % 19 = 1 then (0, 0, 8) else spF
def rsp : Nat → Nat × Nat × (Nat → mSp)
  | 0 => (6, 13, spOf [(32, 0, 0), (2, 0, 0), (2, 0, 0), (7, 0, 0), (9, 0, 0), (11, 0, 0), (14, 0, 0), (4, 0, 0), (0, 0, 1), (0, -2147483648, 2147483647), (0, -2147483648, 2147483647), (0, -2147483648, 2147483647), (0, -2147483648, 2147483647)])
  | 1 => (5, 4, spOf [(3, 0, 0), (0, -2147483648, 2147483647), (0, -2147483648, 2147483647), (0, -2147483648, 2147483647)])
  | 2 => (10, 8, fun _ => (4, 0, 0))
  | 3 => (2, 5, spOf [(0, -2147483648, 2147483647), (0, 0, 8), (0, 0, 1), (5, 0, 0), (6, 0, 0)])
  | 4 => (8, 8, fun _ => spF)
  | 5 => (8, 8, fun _ => spF)
  | 6 => (0, 4, spOf [(8, 0, 0), (0, -2147483648, 2147483647), (0, -2147483648, 2147483647), (0, 0, 1)])
  | 7 => (11, 8, fun _ => (2, 0, 0))
  | 8 => (4, 8, spOf [(10, 0, 0), (0, 0, 80), (0, -2147483648, 2147483647), (0, -2147483648, 2147483647), (0, -2147483648, 2147483647), (0, -2147483648, 2147483647), (0, -2147483648, 2147483647), (0, -2147483648, 2147483647)])
  | 9 => (8, 80, fun _ => spF)
  | 10 => (3, 4, spOf [(0, -2147483648, 2147483647), (0, 0, 8), (12, 0, 0), (13, 0, 0)])
  | 11 => (8, 8, fun _ => spF)
  | 12 => (8, 8, fun _ => spF)
  | 13 => (1, 4, spOf [(0, 0, 8), (15, 0, 0), (16, 0, 0), (17, 0, 0)])
  | 14 => (8, 8, fun _ => spF)
  | 15 => (8, 8, fun _ => spF)
  | 16 => (8, 8, fun _ => spF)
  | 17 => (7, 30, spOf [(19, 0, 0), (20, 0, 0), (21, 0, 0), (22, 0, 0), (0, 0, 8), (0, -2147483648, 2147483647), (0, -2147483648, 2147483647), (0, -2147483648, 2147483647), (0, 0, 1), (23, 0, 0), (24, 0, 0), (25, 0, 0), (26, 0, 0), (0, 0, 8), (0, 0, 1), (27, 0, 0), (28, 0, 0), (29, 0, 0), (30, 0, 0), (0, 0, 7), (0, 0, 8), (0, -2147483648, 2147483647), (31, 0, 0), (0, 0, 80), (0, 0, 81), (0, -2147483648, 2147483647), (0, -2147483648, 2147483647), (0, -2147483648, 2147483647), (0, -2147483648, 2147483647), (0, -2147483648, 2147483647)])
  | 18 => (8, 155, ssp)
  | 19 => (8, 155, ssp)
  | 20 => (8, 155, ssp)
  | 21 => (8, 1240, fun j => ssp (j % 155))
  | 22 => (8, 8, fun _ => spF)
  | 23 => (8, 8, fun _ => spF)
  | 24 => (8, 8, fun _ => spF)
  | 25 => (8, 8, fun _ => spF)
  | 26 => (8, 7, fun _ => spF)
  | 27 => (8, 7, fun _ => spF)
  | 28 => (8, 8, fun _ => spF)
  | 29 => (9, 7, fun _ => (0, 0, 1))
  | 30 => (8, 80, fun _ => spF)
  | 31 => (5, 4, spOf [(33, 0, 0), (0, -2147483648, 2147483647), (0, -2147483648, 2147483647), (0, -2147483648, 2147483647)])
  | 32 => (10, 8, fun _ => (34, 0, 0))
  | 33 => (2, 5, spOf [(0, -2147483648, 2147483647), (0, 0, 8), (0, 0, 1), (5, 0, 0), (6, 0, 0)])
  | _ => (99, 0, fun _ => spF)
def okCell (r : Nat) (c : Nat × List Value) : Prop := c.1 = (rsp r).1 ∧ c.2.length = (rsp r).2.1 ∧ ∀ j : Nat, j < c.2.length → okV ((rsp r).2.2 j) (c.2.getD j .null)
def Typ (P : mP) : Prop := ∀ a : Nat, a < 315 → ∃ c, P[a]? = some c ∧ okCell (rl a) c
/-- the int that stands at entry j of cell a -/
def fv (P : mP) (a j : Nat) : Int32 := match P[a]? with
  | some c => mint (c.2.getD j .null)
  | none => 0
theorem rl_lt {a r : Nat} (h : rl a = r) (hr : r ≠ 99) : a < 315 := by
  unfold rl at h
  by_cases ha : a < 315
  · exact ha
  · have : rlL.getD a 99 = 99 := by
      have : rlL[a]? = none := List.getElem?_eq_none (by rw [show rlL.length = 315 by decide +kernel]; omega)
      rw [List.getD, this]
      rfl
    rw [this] at h
    exact absurd h.symm hr
theorem Typ.cell {P : mP} {a r : Nat} (h : Typ P) (hr : rl a = r) (hn : r ≠ 99) : ∃ vs, P[a]? = some ((rsp r).1, vs) ∧ vs.length = (rsp r).2.1 ∧ ∀ j : Nat, j < vs.length → okV ((rsp r).2.2 j) (vs.getD j .null) := by
  obtain ⟨⟨k, vs⟩, h1, h2, h3, h4⟩ := h a (rl_lt hr hn)
  subst hr
  dsimp only at h2 h3 h4
  exact ⟨vs, by rw [h1, h2], h3, h4⟩
theorem fv_at {P : mP} {a k : Nat} {vs : List Value} (h : P[a]? = some (k, vs)) (j : Nat) : fv P a j = mint (vs.getD j .null) := by
  unfold fv
  rw [h]
/-- an int entry: what stands there, and its range -/
theorem Typ.int {P : mP} {a r j : Nat} {lo hi : Int} (h : Typ P) (hr : rl a = r) (hn : r ≠ 99) (hj : j < (rsp r).2.1) (hs : (rsp r).2.2 j = (0, lo, hi)) : ∃ vs, P[a]? = some ((rsp r).1, vs) ∧ vs.length = (rsp r).2.1 ∧ vs[j]? = some (.int (fv P a j)) ∧ lo ≤ (fv P a j).toInt ∧ (fv P a j).toInt ≤ hi := by
  obtain ⟨vs, h1, h2, h3⟩ := h.cell hr hn
  have h4 := h3 j (by omega)
  have e : vs[j]? = some (vs.getD j .null) := by
    rw [List.getD_eq_getElem?_getD, List.getElem?_eq_getElem (by omega)]
    rfl
  rw [hs] at h4
  have f := fv_at h1 j
  cases hv : vs.getD j .null with
  | int x =>
    rw [hv] at h4 f e
    have f : fv P a j = x := f
    rw [f]
    exact ⟨vs, h1, h2, e, h4.2.1, h4.2.2⟩
  | ref b =>
    rw [hv] at h4
    exact absurd h4 (by simp [okV])
  | _ =>
    rw [hv] at h4
    exact absurd h4 (by simp [okV])
/-- the ref that stands at entry j of cell a -/
def rv (P : mP) (a j : Nat) : Nat := match P[a]? with
  | some c => (mref 0 (c.2.getD j .null)).getD 0
  | none => 0
/-- a ref entry -/
theorem Typ.ref {P : mP} {a r j t : Nat} {lo hi : Int} (h : Typ P) (hr : rl a = r) (hn : r ≠ 99) (hj : j < (rsp r).2.1) (hs : (rsp r).2.2 j = (t + 1, lo, hi)) : ∃ vs, P[a]? = some ((rsp r).1, vs) ∧ vs.length = (rsp r).2.1 ∧ vs[j]? = some (.ref (rv P a j)) ∧ rl (rv P a j) = t := by
  obtain ⟨vs, h1, h2, h3⟩ := h.cell hr hn
  have h4 := h3 j (by omega)
  have e : vs[j]? = some (vs.getD j .null) := by
    rw [List.getD_eq_getElem?_getD, List.getElem?_eq_getElem (by omega)]
    rfl
  rw [hs] at h4
  cases hv : vs.getD j .null with
  | int x =>
    rw [hv] at h4
    exact absurd h4.1 (by simp)
  | ref b =>
    rw [hv] at h4 e
    have f : rv P a j = b := by
      unfold rv
      rw [h1]
      dsimp only
      rw [hv]
      exact Nat.zero_add b
    rw [f]
    refine ⟨vs, h1, h2, e, ?_⟩
    have h5 : t + 1 = rl b + 1 := h4
    omega
  | _ =>
    rw [hv] at h4
    exact absurd h4 (by simp [okV])
/-- a store keeps it -/
theorem Typ.set {P : mP} {a r j : Nat} {v : Value} {vs : List Value} (h : Typ P) (hr : rl a = r) (hn : r ≠ 99) (hP : P[a]? = some ((rsp r).1, vs)) (hl : vs.length = (rsp r).2.1) (hv : okV ((rsp r).2.2 j) v) : Typ (P.set a ((rsp r).1, vs.set j v)) := by
  intro b hb
  obtain ⟨c, h1, h2⟩ := h b hb
  by_cases hba : b = a
  · subst hba
    refine ⟨_, mset_eq hP, ?_⟩
    rw [hr] at h2 ⊢
    rw [hP] at h1
    cases h1
    refine ⟨rfl, by rw [← hl]; exact List.length_set, fun i hi => ?_⟩
    dsimp only at hi ⊢
    rw [List.length_set] at hi
    by_cases hij : i = j
    · subst hij
      have : (vs.set i v).getD i .null = v := by simp [List.getD, hi]
      rw [this]
      exact hv
    · have : (vs.set j v).getD i .null = vs.getD i .null := by
        simp only [List.getD]
        rw [List.getElem?_set_ne (fun e => hij e.symm)]
      rw [this]
      exact h2.2.2 i hi
  · exact ⟨c, mset_ne h1 (fun e => hba e.symm), h2⟩
theorem fv_set {P : mP} {a k j : Nat} {x : Int32} {vs : List Value} (hP : P[a]? = some (k, vs)) (hj : j < vs.length) : fv (P.set a (k, vs.set j (.int x))) a j = x := by
  rw [fv_at (mset_eq hP)]
  simp [List.getD, hj, mint]
theorem fv_ne {P : mP} {a k j b i : Nat} {v : Value} {vs : List Value} (hP : P[a]? = some (k, vs)) (h : ¬ (b = a ∧ i = j)) : fv (P.set a (k, vs.set j v)) b i = fv P b i := by
  by_cases hb : b = a
  · subst hb
    rw [fv_at (mset_eq hP), fv_at hP]
    have : i ≠ j := fun e => h ⟨rfl, e⟩
    simp only [List.getD]
    rw [List.getElem?_set_ne (fun e => this e.symm)]
  · unfold fv
    rw [List.getElem?_set_ne (fun e => hb e.symm)]
section MT
variable {d : Nat} {scr : Option (List Int32)} {q : mQ} {pc : Nat} {L : List (Nat × Value)} {st rest : List Value} {P : mP} {cz sz : Nat} {Φ : Option Value → mP → Prop}
theorem mt_getI {i ci k a r : Nat} {nest : Bool} {lo hi : Int} (hT : Typ P) (hd : decode q.2.1 pc = .ok (.getfield i, 3)) (hf : mfld q.2.2.2.2.2.1 i = some (ci, k, nest)) (hr : rl a = r) (hn : r ≠ 99) (hk : (rsp r).1 = ci) (hl : k < (rsp r).2.1) (hs : (rsp r).2.2 k = (0, lo, hi)) (kk : lo ≤ (fv P a k).toInt → (fv P a k).toInt ≤ hi → MEvP d scr q (pc + 3) L (.int (fv P a k) :: rest) P cz sz Φ) : MEvP d scr q pc L (.ref a :: rest) P cz sz Φ := by
  obtain ⟨vs, h1, -, h3, h4, h5⟩ := hT.int hr hn hl hs
  subst hk
  exact mp_get hd hf h1 h3 (kk h4 h5)
theorem mt_getR {i ci k a r t : Nat} {nest : Bool} {lo hi : Int} (hT : Typ P) (hd : decode q.2.1 pc = .ok (.getfield i, 3)) (hf : mfld q.2.2.2.2.2.1 i = some (ci, k, nest)) (hr : rl a = r) (hn : r ≠ 99) (hk : (rsp r).1 = ci) (hl : k < (rsp r).2.1) (hs : (rsp r).2.2 k = (t + 1, lo, hi)) (kk : rl (rv P a k) = t → MEvP d scr q (pc + 3) L (.ref (rv P a k) :: rest) P cz sz Φ) : MEvP d scr q pc L (.ref a :: rest) P cz sz Φ := by
  obtain ⟨vs, h1, -, h3, h4⟩ := hT.ref hr hn hl hs
  subst hk
  exact mp_get hd hf h1 h3 (kk h4)
theorem mt_putI {i ci k a r : Nat} {nest : Bool} {x : Int32} {lo hi : Int} (hT : Typ P) (hd : decode q.2.1 pc = .ok (.putfield i, 3)) (hf : mfld q.2.2.2.2.2.1 i = some (ci, k, nest)) (hr : rl a = r) (hn : r ≠ 99) (hk : (rsp r).1 = ci) (hl : k < (rsp r).2.1) (hs : (rsp r).2.2 k = (0, lo, hi)) (hx : lo ≤ x.toInt ∧ x.toInt ≤ hi) (hfit : mfit (cY ci k) (.int x) = true) (hfin : (cT ci k).2.2.2 = false) (kk : ∀ P' : mP, Typ P' → fv P' a k = x → (∀ b j : Nat, ¬ (b = a ∧ j = k) → fv P' b j = fv P b j) → MEvP d scr q (pc + 3) L rest P' cz sz Φ) : MEvP d scr q pc L (.int x :: .ref a :: rest) P cz sz Φ := by
  obtain ⟨vs, h1, h2, h3, -, -⟩ := hT.int hr hn hl hs
  subst hk
  refine mp_put hd hf h1 (by omega) hfit (Or.inl hfin) (kk _ (hT.set hr hn h1 h2 ?_) (fv_set h1 (by omega)) (fun b j hb => fv_ne h1 hb))
  rw [hs]
  exact ⟨rfl, hx.1, hx.2⟩
theorem t_ix {i : Int32} {n : Nat} (h0 : 0 ≤ i.toInt) (h1 : i.toInt < n) : ¬ (i < 0 ∨ n ≤ i.toNatClampNeg) := by
  rintro (h | h)
  · rw [Int32.lt_iff_toInt_lt] at h
    have : (0 : Int32).toInt = 0 := rfl
    omega
  · have : i.toNatClampNeg = i.toInt.toNat := rfl
    omega
theorem mt_ial {a r n : Nat} {i : Int32} {lo hi : Int} (hT : Typ P) (hd : decode q.2.1 pc = .ok (.iaload, 1)) (hr : rl a = r) (hn : r ≠ 99) (hk : (rsp r).1 = 8) (hl : (rsp r).2.1 = n) (h0 : 0 ≤ i.toInt) (h1 : i.toInt < n) (hs : (rsp r).2.2 i.toInt.toNat = (0, lo, hi)) (kk : lo ≤ (fv P a i.toInt.toNat).toInt → (fv P a i.toInt.toNat).toInt ≤ hi → MEvP d scr q (pc + 1) L (.int (fv P a i.toInt.toNat) :: rest) P cz sz Φ) : MEvP d scr q pc L (.int i :: .ref a :: rest) P cz sz Φ := by
  obtain ⟨vs, g1, g2, g3, g4, g5⟩ := hT.int (j := i.toInt.toNat) hr hn (by omega) hs
  rw [hk] at g1
  refine mp_ial hd g1 (g2.trans hl) (t_ix h0 h1) ?_ (kk g4 g5)
  show mint (vs.getD i.toInt.toNat .null) = _
  rw [List.getD, g3]
  rfl
theorem mt_ias {a r n : Nat} {i x : Int32} {lo hi : Int} (hT : Typ P) (hd : decode q.2.1 pc = .ok (.iastore, 1)) (hr : rl a = r) (hn : r ≠ 99) (hk : (rsp r).1 = 8) (hl : (rsp r).2.1 = n) (h0 : 0 ≤ i.toInt) (h1 : i.toInt < n) (hs : (rsp r).2.2 i.toInt.toNat = (0, lo, hi)) (hx : lo ≤ x.toInt ∧ x.toInt ≤ hi) (kk : ∀ P' : mP, Typ P' → fv P' a i.toInt.toNat = x → (∀ b j : Nat, ¬ (b = a ∧ j = i.toInt.toNat) → fv P' b j = fv P b j) → MEvP d scr q (pc + 1) L rest P' cz sz Φ) : MEvP d scr q pc L (.int x :: .int i :: .ref a :: rest) P cz sz Φ := by
  obtain ⟨vs, g1, g2, g3, -, -⟩ := hT.int (j := i.toInt.toNat) hr hn (by omega) hs
  have hok : okV ((rsp r).2.2 i.toInt.toNat) (.int x) := by
    rw [hs]
    exact ⟨rfl, hx.1, hx.2⟩
  have hT' := hT.set hr hn g1 g2 hok
  rw [hk] at g1 hT'
  have e : i.toNatClampNeg = i.toInt.toNat := rfl
  exact mp_ias hd g1 (g2.trans hl) (t_ix h0 h1) (kk _ hT' (fv_set g1 (by omega)) (fun b j hb => fv_ne g1 hb))
theorem mt_len {a r n : Nat} (hT : Typ P) (hd : decode q.2.1 pc = .ok (.arraylength, 1)) (hr : rl a = r) (hn : r ≠ 99) (hk : (rsp r).1 = 8 ∨ (rsp r).1 = 9 ∨ (rsp r).1 = 10 ∨ (rsp r).1 = 11) (hl : (rsp r).2.1 = n) (kk : MEvP d scr q (pc + 1) L (.int (Int32.ofNat n) :: rest) P cz sz Φ) : MEvP d scr q pc L (.ref a :: rest) P cz sz Φ := by
  obtain ⟨vs, h1, h2, -⟩ := hT.cell hr hn
  exact mp_len hd h1 hk (by rw [h2, hl]) kk
theorem mt_aal {a r n t : Nat} {i : Int32} {lo hi : Int} (hT : Typ P) (hd : decode q.2.1 pc = .ok (.aaload, 1)) (hr : rl a = r) (hn : r ≠ 99) (hk : (rsp r).1 = 10 ∨ (rsp r).1 = 11) (hl : (rsp r).2.1 = n) (h0 : 0 ≤ i.toInt) (h1 : i.toInt < n) (hs : (rsp r).2.2 i.toInt.toNat = (t + 1, lo, hi)) (kk : rl (rv P a i.toInt.toNat) = t → MEvP d scr q (pc + 1) L (.ref (rv P a i.toInt.toNat) :: rest) P cz sz Φ) : MEvP d scr q pc L (.int i :: .ref a :: rest) P cz sz Φ := by
  obtain ⟨vs, g1, g2, g3, g4⟩ := hT.ref (j := i.toInt.toNat) hr hn (by omega) hs
  refine mp_aal hd g1 hk (g2.trans hl) (t_ix h0 h1) ?_ (kk g4)
  show mnul (vs.getD i.toInt.toNat .null) = _
  rw [List.getD, g3]
  rfl
/-- an entry, whatever its spec -/
theorem mt_ialX {a r n : Nat} {i : Int32} (hT : Typ P) (hd : decode q.2.1 pc = .ok (.iaload, 1)) (hr : rl a = r) (hn : r ≠ 99) (hk : (rsp r).1 = 8) (hl : (rsp r).2.1 = n) (h0 : 0 ≤ i.toInt) (h1 : i.toInt < n) (hs : ∀ j, ((rsp r).2.2 j).1 = 0) (kk : okV ((rsp r).2.2 i.toInt.toNat) (.int (fv P a i.toInt.toNat)) → MEvP d scr q (pc + 1) L (.int (fv P a i.toInt.toNat) :: rest) P cz sz Φ) : MEvP d scr q pc L (.int i :: .ref a :: rest) P cz sz Φ := by
  obtain ⟨vs, g1, g2, g3, g4, g5⟩ := hT.int (j := i.toInt.toNat) (lo := ((rsp r).2.2 i.toInt.toNat).2.1) (hi := ((rsp r).2.2 i.toInt.toNat).2.2) hr hn (by omega) (by
    have := hs i.toInt.toNat
    exact Prod.ext this rfl)
  rw [hk] at g1
  refine mp_ial hd g1 (g2.trans hl) (t_ix h0 h1) ?_ (kk ⟨hs _, g4, g5⟩)
  show mint (vs.getD i.toInt.toNat .null) = _
  rw [List.getD, g3]
  rfl
theorem mt_iasX {a r n : Nat} {i x : Int32} (hT : Typ P) (hd : decode q.2.1 pc = .ok (.iastore, 1)) (hr : rl a = r) (hn : r ≠ 99) (hk : (rsp r).1 = 8) (hl : (rsp r).2.1 = n) (h0 : 0 ≤ i.toInt) (h1 : i.toInt < n) (hok : okV ((rsp r).2.2 i.toInt.toNat) (.int x)) (kk : ∀ P' : mP, Typ P' → fv P' a i.toInt.toNat = x → (∀ b j : Nat, ¬ (b = a ∧ j = i.toInt.toNat) → fv P' b j = fv P b j) → MEvP d scr q (pc + 1) L rest P' cz sz Φ) : MEvP d scr q pc L (.int x :: .int i :: .ref a :: rest) P cz sz Φ := by
  obtain ⟨vs, g1, g2, -⟩ := hT.cell hr hn
  have hT' := hT.set (j := i.toInt.toNat) hr hn g1 g2 hok
  rw [hk] at g1 hT'
  have e : i.toNatClampNeg = i.toInt.toNat := rfl
  exact mp_ias hd g1 (g2.trans hl) (t_ix h0 h1) (kk _ hT' (fv_set g1 (by omega)) (fun b j hb => fv_ne g1 hb))
/-- a row of booleans -/
theorem mt_bal {a r n : Nat} {i : Int32} (hT : Typ P) (hd : decode q.2.1 pc = .ok (.baload, 1)) (hr : rl a = r) (hn : r ≠ 99) (hk : (rsp r).1 = 9) (hl : (rsp r).2.1 = n) (h0 : 0 ≤ i.toInt) (h1 : i.toInt < n) (hs : (rsp r).2.2 i.toInt.toNat = (0, 0, 1)) (kk : 0 ≤ (fv P a i.toInt.toNat).toInt → (fv P a i.toInt.toNat).toInt ≤ 1 → MEvP d scr q (pc + 1) L (.int (fv P a i.toInt.toNat) :: rest) P cz sz Φ) : MEvP d scr q pc L (.int i :: .ref a :: rest) P cz sz Φ := by
  obtain ⟨vs, g1, g2, g3, g4, g5⟩ := hT.int (j := i.toInt.toNat) hr hn (by omega) hs
  rw [hk] at g1
  have e : Value.int (mint (vs.getD i.toNatClampNeg .null)) = .int (fv P a i.toInt.toNat) := by
    show Value.int (mint (vs.getD i.toInt.toNat .null)) = _
    rw [List.getD, g3]
    rfl
  refine mp_B (z := (pc + 1, .int (fv P a i.toInt.toNat) :: rest, P)) (by simp only [mA, hd]) (by simp only [mS, hd]) ?_ (kk g4 g5)
  simp only [mB, hd, g1]
  rw [if_pos ⟨trivial, by rw [g2, hl]; exact t_ix h0 h1⟩, e]
theorem mt_bas {a r n : Nat} {i x : Int32} (hT : Typ P) (hd : decode q.2.1 pc = .ok (.bastore, 1)) (hr : rl a = r) (hn : r ≠ 99) (hk : (rsp r).1 = 9) (hl : (rsp r).2.1 = n) (h0 : 0 ≤ i.toInt) (h1 : i.toInt < n) (hs : (rsp r).2.2 i.toInt.toNat = (0, 0, 1)) (hx : x = 0 ∨ x = 1) (kk : ∀ P' : mP, Typ P' → fv P' a i.toInt.toNat = x → (∀ b j : Nat, ¬ (b = a ∧ j = i.toInt.toNat) → fv P' b j = fv P b j) → MEvP d scr q (pc + 1) L rest P' cz sz Φ) : MEvP d scr q pc L (.int x :: .int i :: .ref a :: rest) P cz sz Φ := by
  obtain ⟨vs, g1, g2, g3, -, -⟩ := hT.int (j := i.toInt.toNat) hr hn (by omega) hs
  have hok : okV ((rsp r).2.2 i.toInt.toNat) (.int x) := by
    rw [hs]
    rcases hx with rfl | rfl
    · exact ⟨rfl, by decide, by decide⟩
    · exact ⟨rfl, by decide, by decide⟩
  have hT' := hT.set hr hn g1 g2 hok
  rw [hk] at g1 hT'
  have e : i.toNatClampNeg = i.toInt.toNat := rfl
  refine mp_B (z := (pc + 1, rest, P.set a (9, vs.set i.toNatClampNeg (.int x)))) (by simp only [mA, hd]) (by simp only [mS, hd]) ?_ (kk _ hT' (fv_set g1 (by omega)) (fun b j hb => fv_ne g1 hb))
  simp only [mB, hd, g1]
  rw [if_pos ⟨⟨trivial, by rw [g2, hl]; exact t_ix h0 h1⟩, hx⟩]
/-- a ref into a row -/
theorem mt_aas {a r n t b ci : Nat} {i : Int32} {lo hi : Int} (hT : Typ P) (hd : decode q.2.1 pc = .ok (.aastore, 1)) (hr : rl a = r) (hn : r ≠ 99) (hb : rl b = t) (ht : t ≠ 99) (hk : ((rsp r).1 = 10 ∧ ci = 2) ∨ ((rsp r).1 = 11 ∧ ci = 5)) (hbk : (rsp t).1 = ci) (hl : (rsp r).2.1 = n) (h0 : 0 ≤ i.toInt) (h1 : i.toInt < n) (hs : (rsp r).2.2 i.toInt.toNat = (t + 1, lo, hi)) (hrow : ∀ j, ((rsp r).2.2 j).1 ≠ 0) (kk : ∀ P' : mP, Typ P' → (∀ b j : Nat, fv P' b j = fv P b j) → MEvP d scr q (pc + 1) L rest P' cz sz Φ) : MEvP d scr q pc L (.ref b :: .int i :: .ref a :: rest) P cz sz Φ := by
  obtain ⟨vs, g1, g2, g3⟩ := hT.cell hr hn
  obtain ⟨us, u1, -⟩ := hT.cell hb ht
  have hok : okV ((rsp r).2.2 i.toInt.toNat) (.ref b) := by
    rw [hs]
    show t + 1 = rl b + 1
    rw [hb]
  have hT' := hT.set hr hn g1 g2 hok
  have hv : ∀ j, mint (vs.getD j .null) = 0 := by
    intro j
    by_cases hj : j < vs.length
    · have := g3 j hj
      cases hv : vs.getD j .null with
      | int x =>
        rw [hv] at this
        exact absurd this.1 (hrow j)
      | _ => rfl
    · rw [List.getD, List.getElem?_eq_none (by omega)]
      rfl
  refine mp_B (z := (pc + 1, rest, P.set a ((rsp r).1, vs.set i.toNatClampNeg (.ref b)))) (by simp only [mA, hd]) (by simp only [mS, hd]) ?_ (kk _ hT' (fun b' j => ?_))
  · simp only [mB, hd, g1, u1]
    rw [if_pos ⟨by rw [hbk]; exact hk, by rw [g2, hl]; exact t_ix h0 h1⟩]
  · by_cases hab : b' = a
    · subst hab
      show fv (P.set b' ((rsp r).1, vs.set i.toInt.toNat (.ref b))) b' j = _
      rw [fv_at (mset_eq g1), fv_at g1, hv]
      by_cases hij : i.toInt.toNat = j
      · subst hij
        rw [List.getD, List.getElem?_set_self (by omega)]
        rfl
      · rw [List.getD, List.getElem?_set_ne hij]
        exact hv j
    · exact fv_ne g1 (fun e => hab e.1)
theorem mt_getU {i ci k a r t A : Nat} {nest : Bool} {lo hi : Int} (hT : Typ P) (hd : decode q.2.1 pc = .ok (.getfield i, 3)) (hf : mfld q.2.2.2.2.2.1 i = some (ci, k, nest)) (hr : rl a = r) (hn : r ≠ 99) (hk : (rsp r).1 = ci) (hl : k < (rsp r).2.1) (hs : (rsp r).2.2 k = (t + 1, lo, hi)) (hu : ∀ b : Nat, rl b = t → b = A) (kk : MEvP d scr q (pc + 3) L (.ref A :: rest) P cz sz Φ) : MEvP d scr q pc L (.ref a :: rest) P cz sz Φ := by
  obtain ⟨vs, h1, -, h3, h4⟩ := hT.ref hr hn hl hs
  subst hk
  rw [hu _ h4] at h3
  exact mp_get hd hf h1 h3 kk
end MT
/-- only at A stands a t in the list -/
def onlyAt (t A : Nat) : Nat → List Nat → Bool
  | _, [] => true
  | i, x :: l => (!(x == t) || i == A) && onlyAt t A (i + 1) l
theorem onlyAt_ok {t A : Nat} : ∀ (l : List Nat) (i k : Nat), onlyAt t A i l = true → l[k]? = some t → i + k = A
  | [], _, _, _, h => by cases h
  | x :: l, i, 0, h1, h2 => by
    cases h2
    simp only [onlyAt, Bool.and_eq_true, Bool.or_eq_true, Bool.not_eq_true', beq_eq_false_iff_ne, beq_iff_eq] at h1
    rcases h1.1 with h | h
    · exact absurd rfl h
    · omega
  | x :: l, i, k + 1, h1, h2 => by
    simp only [onlyAt, Bool.and_eq_true] at h1
    have := onlyAt_ok l (i + 1) k h1.2 (by simpa using h2)
    omega
theorem rl_un {t A : Nat} (ht : t ≠ 99) (h : onlyAt t A 0 rlL = true) (b : Nat) (hb : rl b = t) : b = A := by
  have h1 : rlL[b]? = some t := by
    unfold rl at hb
    rw [List.getD] at hb
    cases e : rlL[b]? with
    | none =>
      rw [e] at hb
      exact absurd hb.symm ht
    | some x =>
      rw [e] at hb
      exact congrArg some hb
  have := onlyAt_ok rlL 0 b h h1
  omega
/-- the number of a field, or of a row -/
def isO (r : Nat) : Bool := [0, 1, 3, 6, 8, 10, 13, 17, 31, 33].contains r
def ec (r j : Nat) : Nat := bif isO r then 64 * r + j else 64 * r
/-- nothing but W has changed -/
def KW (W : List Nat) (P P' : mP) : Prop := ∀ b j : Nat, W.contains (ec (rl b) j) = false → fv P' b j = fv P b j
theorem KW.refl {W : List Nat} {P : mP} : KW W P P := fun _ _ _ => rfl
theorem KW.trans {W W2 : List Nat} {P P1 P2 : mP} (h : KW W P P1) (g : KW W2 P1 P2) (hs : W2.all (fun x => W.contains x) = true) : KW W P P2 := by
  intro b j hb
  have h2 : W2.contains (ec (rl b) j) = false := by
    cases e : W2.contains (ec (rl b) j) with
    | false => rfl
    | true =>
      have := List.all_eq_true.mp hs _ (List.contains_iff_mem.mp e)
      rw [this] at hb
      cases hb
  exact (g b j h2).trans (h b j hb)
theorem KW.step {W : List Nat} {P Q Q' : mP} {a k r : Nat} (h : KW W P Q) (ha : rl a = r) (hc : W.contains (ec r k) = true) (f : ∀ b j : Nat, ¬ (b = a ∧ j = k) → fv Q' b j = fv Q b j) : KW W P Q' := by
  intro b j hb
  refine (f b j (fun e => ?_)).trans (h b j hb)
  rw [e.1, e.2, ha, hc] at hb
  cases hb
theorem KW.all {W : List Nat} {P Q Q' : mP} (h : KW W P Q) (f : ∀ b j : Nat, fv Q' b j = fv Q b j) : KW W P Q' := fun b j hb => (f b j).trans (h b j hb)
theorem KW.at {W : List Nat} {P P' : mP} {a r : Nat} (h : KW W P P') (j : Nat) (ha : rl a = r) (hc : W.contains (ec r j) = false) : fv P' a j = fv P a j := h a j (by rw [ha]; exact hc)
/-- other cells, other entries -/
theorem ne_r {a b j k r t : Nat} (ha : rl a = r) (hb : rl b = t) (h : (r == t) = false) : ¬ (a = b ∧ j = k) := by
  intro e
  rw [← ha, ← hb, e.1] at h
  simp at h
theorem ne_k {a b j k : Nat} (h : (j == k) = false) : ¬ (a = b ∧ j = k) := by
  intro e
  rw [e.2] at h
  simp at h
theorem ne_i {a b j k : Nat} (h : ¬ j = k) : ¬ (a = b ∧ j = k) := fun e => h e.2

theorem un_0 : ∀ b : Nat, rl b = 0 → b = 0 := rl_un (by decide) (by decide +kernel)
theorem rl_0 : rl 0 = 0 := by decide +kernel
theorem un_6 : ∀ b : Nat, rl b = 6 → b = 79 := rl_un (by decide) (by decide +kernel)
theorem rl_79 : rl 79 = 6 := by decide +kernel
theorem un_7 : ∀ b : Nat, rl b = 7 → b = 80 := rl_un (by decide) (by decide +kernel)
theorem rl_80 : rl 80 = 7 := by decide +kernel
theorem un_8 : ∀ b : Nat, rl b = 8 → b = 289 := rl_un (by decide) (by decide +kernel)
theorem rl_289 : rl 289 = 8 := by decide +kernel
theorem un_9 : ∀ b : Nat, rl b = 9 → b = 290 := rl_un (by decide) (by decide +kernel)
theorem rl_290 : rl 290 = 9 := by decide +kernel
theorem un_10 : ∀ b : Nat, rl b = 10 → b = 291 := rl_un (by decide) (by decide +kernel)
theorem rl_291 : rl 291 = 10 := by decide +kernel
theorem un_11 : ∀ b : Nat, rl b = 11 → b = 292 := rl_un (by decide) (by decide +kernel)
theorem rl_292 : rl 292 = 11 := by decide +kernel
theorem un_12 : ∀ b : Nat, rl b = 12 → b = 293 := rl_un (by decide) (by decide +kernel)
theorem rl_293 : rl 293 = 12 := by decide +kernel
theorem un_13 : ∀ b : Nat, rl b = 13 → b = 294 := rl_un (by decide) (by decide +kernel)
theorem rl_294 : rl 294 = 13 := by decide +kernel
theorem un_14 : ∀ b : Nat, rl b = 14 → b = 295 := rl_un (by decide) (by decide +kernel)
theorem rl_295 : rl 295 = 14 := by decide +kernel
theorem un_15 : ∀ b : Nat, rl b = 15 → b = 296 := rl_un (by decide) (by decide +kernel)
theorem rl_296 : rl 296 = 15 := by decide +kernel
theorem un_16 : ∀ b : Nat, rl b = 16 → b = 297 := rl_un (by decide) (by decide +kernel)
theorem rl_297 : rl 297 = 16 := by decide +kernel
theorem un_17 : ∀ b : Nat, rl b = 17 → b = 301 := rl_un (by decide) (by decide +kernel)
theorem rl_301 : rl 301 = 17 := by decide +kernel
theorem un_18 : ∀ b : Nat, rl b = 18 → b = 302 := rl_un (by decide) (by decide +kernel)
theorem rl_302 : rl 302 = 18 := by decide +kernel
theorem un_19 : ∀ b : Nat, rl b = 19 → b = 303 := rl_un (by decide) (by decide +kernel)
theorem rl_303 : rl 303 = 19 := by decide +kernel
theorem un_20 : ∀ b : Nat, rl b = 20 → b = 304 := rl_un (by decide) (by decide +kernel)
theorem rl_304 : rl 304 = 20 := by decide +kernel
theorem un_21 : ∀ b : Nat, rl b = 21 → b = 305 := rl_un (by decide) (by decide +kernel)
theorem rl_305 : rl 305 = 21 := by decide +kernel
theorem un_22 : ∀ b : Nat, rl b = 22 → b = 306 := rl_un (by decide) (by decide +kernel)
theorem rl_306 : rl 306 = 22 := by decide +kernel
theorem un_23 : ∀ b : Nat, rl b = 23 → b = 307 := rl_un (by decide) (by decide +kernel)
theorem rl_307 : rl 307 = 23 := by decide +kernel
theorem un_24 : ∀ b : Nat, rl b = 24 → b = 308 := rl_un (by decide) (by decide +kernel)
theorem rl_308 : rl 308 = 24 := by decide +kernel
theorem un_25 : ∀ b : Nat, rl b = 25 → b = 309 := rl_un (by decide) (by decide +kernel)
theorem rl_309 : rl 309 = 25 := by decide +kernel
theorem un_26 : ∀ b : Nat, rl b = 26 → b = 310 := rl_un (by decide) (by decide +kernel)
theorem rl_310 : rl 310 = 26 := by decide +kernel
theorem un_27 : ∀ b : Nat, rl b = 27 → b = 311 := rl_un (by decide) (by decide +kernel)
theorem rl_311 : rl 311 = 27 := by decide +kernel
theorem un_28 : ∀ b : Nat, rl b = 28 → b = 312 := rl_un (by decide) (by decide +kernel)
theorem rl_312 : rl 312 = 28 := by decide +kernel
theorem un_29 : ∀ b : Nat, rl b = 29 → b = 313 := rl_un (by decide) (by decide +kernel)
theorem rl_313 : rl 313 = 29 := by decide +kernel
theorem un_30 : ∀ b : Nat, rl b = 30 → b = 314 := rl_un (by decide) (by decide +kernel)
theorem rl_314 : rl 314 = 30 := by decide +kernel
theorem un_31 : ∀ b : Nat, rl b = 31 → b = 1 := rl_un (by decide) (by decide +kernel)
theorem rl_1 : rl 1 = 31 := by decide +kernel
theorem un_32 : ∀ b : Nat, rl b = 32 → b = 2 := rl_un (by decide) (by decide +kernel)
theorem rl_2 : rl 2 = 32 := by decide +kernel
end
section
/-! the fresh pool is typed -/
def okVb (s : mSp) : Value → Bool
  | .int x => s.1 == 0 && (decide (s.2.1 ≤ x.toInt) && decide (x.toInt ≤ s.2.2))
  | .ref b => s.1 == rl b + 1
  | _ => false
theorem okVb_ok {s : mSp} {v : Value} (h : okVb s v = true) : okV s v := by
  cases v with
  | int x =>
    simp only [okVb, Bool.and_eq_true, beq_iff_eq, decide_eq_true_eq] at h
    exact h
  | ref b =>
    simp only [okVb, beq_iff_eq] at h
    exact h
  | _ => simp [okVb] at h
def okVs (f : Nat → mSp) : Nat → List Value → Bool
  | _, [] => true
  | j, v :: vs => okVb (f j) v && okVs f (j + 1) vs
theorem okVs_ok {f : Nat → mSp} : ∀ (vs : List Value) (i : Nat), okVs f i vs = true → ∀ j : Nat, j < vs.length → okV (f (i + j)) (vs.getD j .null)
  | [], _, _, j, hj => absurd hj (Nat.not_lt_zero j)
  | v :: vs, i, h, 0, _ => by
    simp only [okVs, Bool.and_eq_true] at h
    exact okVb_ok h.1
  | v :: vs, i, h, j + 1, hj => by
    simp only [okVs, Bool.and_eq_true] at h
    have := okVs_ok vs (i + 1) h.2 j (by simpa using hj)
    rw [show i + (j + 1) = i + 1 + j by omega]
    simpa [List.getD] using this
def typb (P : mP) : Bool := (List.range 315).all (fun a => match P[a]? with
  | some c => c.1 == (rsp (rl a)).1 && (c.2.length == (rsp (rl a)).2.1 && okVs (rsp (rl a)).2.2 0 c.2)
  | none => false)
theorem typb_ok {P : mP} (h : typb P = true) : Typ P := by
  intro a ha
  have h1 := List.all_eq_true.mp h a (List.mem_range.mpr ha)
  cases hc : P[a]? with
  | none =>
    rw [hc] at h1
    cases h1
  | some c =>
    rw [hc] at h1
    simp only [Bool.and_eq_true, beq_iff_eq] at h1
    refine ⟨c, rfl, h1.1, h1.2.1, fun j hj => ?_⟩
    have := okVs_ok c.2 0 h1.2.2 j hj
    rwa [Nat.zero_add] at this
theorem typ0 : Typ P0 := typb_ok (by decide +kernel)
end
