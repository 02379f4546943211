section
-- ===== PART A: goes FIRST, ahead of the names: the tables' words, and 'selects' of the private methods out of them =====
/-- a private method of a class that the tables say can be made, by its rows of tables_1 -/
def lw_okq (q : MethodName × Nat) : Prop := (q.1.cls ≠ "java/lang/invoke/MethodHandle" ∧ q.1.cls ≠ "java/lang/invoke/VarHandle") ∧ Cond.instantiable q.1.cls q.2 ∈ tables_1 ∧ Cond.privateMethod q.1 ∈ tables_1 ∧ Cond.instanceMethod q.1 ∈ tables_1
theorem lw_p0 : lw_okq (⟨"MeshTurns", "learnRoutes", "()V"⟩, 10) := ⟨⟨by decide +kernel, by decide +kernel⟩, List.mem_of_getElem? (i := 13) (by decide +kernel), List.mem_of_getElem? (i := 203) (by decide +kernel), List.mem_of_getElem? (i := 204) (by decide +kernel)⟩
theorem lw_p1 : lw_okq (⟨"MeshTurns$Routes", "search", "(I)V"⟩, 6) := ⟨⟨by decide +kernel, by decide +kernel⟩, List.mem_of_getElem? (i := 132) (by decide +kernel), List.mem_of_getElem? (i := 231) (by decide +kernel), List.mem_of_getElem? (i := 232) (by decide +kernel)⟩
theorem lw_p2 : lw_okq (⟨"MeshTurns$Routes", "reach", "(IIII)V"⟩, 6) := ⟨⟨by decide +kernel, by decide +kernel⟩, List.mem_of_getElem? (i := 132) (by decide +kernel), List.mem_of_getElem? (i := 238) (by decide +kernel), List.mem_of_getElem? (i := 239) (by decide +kernel)⟩
theorem lw_p3 : lw_okq (⟨"MeshTurns$Routes", "stepBack", "(III)V"⟩, 6) := ⟨⟨by decide +kernel, by decide +kernel⟩, List.mem_of_getElem? (i := 132) (by decide +kernel), List.mem_of_getElem? (i := 242) (by decide +kernel), List.mem_of_getElem? (i := 243) (by decide +kernel)⟩
theorem lw_p4 : lw_okq (⟨"MeshTurns$Routes", "mayMove", "(II)Z"⟩, 6) := ⟨⟨by decide +kernel, by decide +kernel⟩, List.mem_of_getElem? (i := 132) (by decide +kernel), List.mem_of_getElem? (i := 250) (by decide +kernel), List.mem_of_getElem? (i := 251) (by decide +kernel)⟩
theorem lw_p5 : lw_okq (⟨"MeshTurns", "recordState", "()V"⟩, 10) := ⟨⟨by decide +kernel, by decide +kernel⟩, List.mem_of_getElem? (i := 13) (by decide +kernel), List.mem_of_getElem? (i := 298) (by decide +kernel), List.mem_of_getElem? (i := 299) (by decide +kernel)⟩
theorem lw_p6 : lw_okq (⟨"MeshTurns", "dropOldestState", "()V"⟩, 10) := ⟨⟨by decide +kernel, by decide +kernel⟩, List.mem_of_getElem? (i := 13) (by decide +kernel), List.mem_of_getElem? (i := 302) (by decide +kernel), List.mem_of_getElem? (i := 303) (by decide +kernel)⟩
theorem lw_p7 : lw_okq (⟨"MeshTurns", "linkError", "(III)I"⟩, 10) := ⟨⟨by decide +kernel, by decide +kernel⟩, List.mem_of_getElem? (i := 13) (by decide +kernel), List.mem_of_getElem? (i := 337) (by decide +kernel), List.mem_of_getElem? (i := 338) (by decide +kernel)⟩
theorem lw_p8 : lw_okq (⟨"MeshTurns", "changeLink", "(III)I"⟩, 10) := ⟨⟨by decide +kernel, by decide +kernel⟩, List.mem_of_getElem? (i := 13) (by decide +kernel), List.mem_of_getElem? (i := 349) (by decide +kernel), List.mem_of_getElem? (i := 350) (by decide +kernel)⟩
theorem lw_p9 : lw_okq (⟨"MeshTurns", "sendError", "(II)I"⟩, 10) := ⟨⟨by decide +kernel, by decide +kernel⟩, List.mem_of_getElem? (i := 13) (by decide +kernel), List.mem_of_getElem? (i := 364) (by decide +kernel), List.mem_of_getElem? (i := 365) (by decide +kernel)⟩
theorem lw_p10 : lw_okq (⟨"MeshTurns$State", "comesInside", "(I)Z"⟩, 6) := ⟨⟨by decide +kernel, by decide +kernel⟩, List.mem_of_getElem? (i := 21) (by decide +kernel), List.mem_of_getElem? (i := 398) (by decide +kernel), List.mem_of_getElem? (i := 399) (by decide +kernel)⟩
theorem lw_p11 : lw_okq (⟨"MeshTurns$State", "movesOn", "(LMeshTurns$Routes;I)Z"⟩, 6) := ⟨⟨by decide +kernel, by decide +kernel⟩, List.mem_of_getElem? (i := 21) (by decide +kernel), List.mem_of_getElem? (i := 406) (by decide +kernel), List.mem_of_getElem? (i := 407) (by decide +kernel)⟩
theorem lw_p12 : lw_okq (⟨"MeshTurns$Jam", "find", "(LMeshTurns$State;LMeshTurns$Routes;)V"⟩, 1) := ⟨⟨by decide +kernel, by decide +kernel⟩, List.mem_of_getElem? (i := 157) (by decide +kernel), List.mem_of_getElem? (i := 452) (by decide +kernel), List.mem_of_getElem? (i := 453) (by decide +kernel)⟩
theorem lw_p13 : lw_okq (⟨"MeshTurns$Jam", "canGoOn", "(LMeshTurns$State;LMeshTurns$Routes;I)Z"⟩, 1) := ⟨⟨by decide +kernel, by decide +kernel⟩, List.mem_of_getElem? (i := 157) (by decide +kernel), List.mem_of_getElem? (i := 456) (by decide +kernel), List.mem_of_getElem? (i := 457) (by decide +kernel)⟩
theorem lw_p14 : lw_okq (⟨"MeshTurns$Jam", "hasFreePacket", "(LMeshTurns$Packets;I)Z"⟩, 1) := ⟨⟨by decide +kernel, by decide +kernel⟩, List.mem_of_getElem? (i := 157) (by decide +kernel), List.mem_of_getElem? (i := 466) (by decide +kernel), List.mem_of_getElem? (i := 467) (by decide +kernel)⟩
theorem lw_p15 : lw_okq (⟨"MeshTurns", "linkState", "(II)I"⟩, 10) := ⟨⟨by decide +kernel, by decide +kernel⟩, List.mem_of_getElem? (i := 13) (by decide +kernel), List.mem_of_getElem? (i := 479) (by decide +kernel), List.mem_of_getElem? (i := 480) (by decide +kernel)⟩
def lw_privs_1 : List (MethodName × Nat) := [(⟨"MeshTurns", "learnRoutes", "()V"⟩, 10), (⟨"MeshTurns$Routes", "search", "(I)V"⟩, 6), (⟨"MeshTurns$Routes", "reach", "(IIII)V"⟩, 6), (⟨"MeshTurns$Routes", "stepBack", "(III)V"⟩, 6), (⟨"MeshTurns$Routes", "mayMove", "(II)Z"⟩, 6), (⟨"MeshTurns", "recordState", "()V"⟩, 10), (⟨"MeshTurns", "dropOldestState", "()V"⟩, 10), (⟨"MeshTurns", "linkError", "(III)I"⟩, 10), (⟨"MeshTurns", "changeLink", "(III)I"⟩, 10), (⟨"MeshTurns", "sendError", "(II)I"⟩, 10), (⟨"MeshTurns$State", "comesInside", "(I)Z"⟩, 6), (⟨"MeshTurns$State", "movesOn", "(LMeshTurns$Routes;I)Z"⟩, 6), (⟨"MeshTurns$Jam", "find", "(LMeshTurns$State;LMeshTurns$Routes;)V"⟩, 1), (⟨"MeshTurns$Jam", "canGoOn", "(LMeshTurns$State;LMeshTurns$Routes;I)Z"⟩, 1), (⟨"MeshTurns$Jam", "hasFreePacket", "(LMeshTurns$Packets;I)Z"⟩, 1), (⟨"MeshTurns", "linkState", "(II)I"⟩, 10)]
theorem lw_r1 : ∀ q ∈ lw_privs_1, lw_okq q := List.forall_mem_cons.mpr ⟨lw_p0, List.forall_mem_cons.mpr ⟨lw_p1, List.forall_mem_cons.mpr ⟨lw_p2, List.forall_mem_cons.mpr ⟨lw_p3, List.forall_mem_cons.mpr ⟨lw_p4, List.forall_mem_cons.mpr ⟨lw_p5, List.forall_mem_cons.mpr ⟨lw_p6, List.forall_mem_cons.mpr ⟨lw_p7, List.forall_mem_cons.mpr ⟨lw_p8, List.forall_mem_cons.mpr ⟨lw_p9, List.forall_mem_cons.mpr ⟨lw_p10, List.forall_mem_cons.mpr ⟨lw_p11, List.forall_mem_cons.mpr ⟨lw_p12, List.forall_mem_cons.mpr ⟨lw_p13, List.forall_mem_cons.mpr ⟨lw_p14, List.forall_mem_cons.mpr ⟨lw_p15, fun _ h => absurd h List.not_mem_nil⟩⟩⟩⟩⟩⟩⟩⟩⟩⟩⟩⟩⟩⟩⟩⟩
theorem lw_p16 : lw_okq (⟨"MeshTurns", "findWorstLink", "()I"⟩, 10) := ⟨⟨by decide +kernel, by decide +kernel⟩, List.mem_of_getElem? (i := 13) (by decide +kernel), List.mem_of_getElem? (i := 535) (by decide +kernel), List.mem_of_getElem? (i := 536) (by decide +kernel)⟩
theorem lw_p17 : lw_okq (⟨"MeshTurns", "pairsWithout", "(I)I"⟩, 10) := ⟨⟨by decide +kernel, by decide +kernel⟩, List.mem_of_getElem? (i := 13) (by decide +kernel), List.mem_of_getElem? (i := 549) (by decide +kernel), List.mem_of_getElem? (i := 550) (by decide +kernel)⟩
theorem lw_p18 : lw_okq (⟨"MeshTurns$Pad", "readOrder", "()Z"⟩, 7) := ⟨⟨by decide +kernel, by decide +kernel⟩, List.mem_of_getElem? (i := 168) (by decide +kernel), List.mem_of_getElem? (i := 596) (by decide +kernel), List.mem_of_getElem? (i := 597) (by decide +kernel)⟩
theorem lw_p19 : lw_okq (⟨"MeshTurns$Pad", "signHere", "()C"⟩, 7) := ⟨⟨by decide +kernel, by decide +kernel⟩, List.mem_of_getElem? (i := 168) (by decide +kernel), List.mem_of_getElem? (i := 600) (by decide +kernel), List.mem_of_getElem? (i := 601) (by decide +kernel)⟩
theorem lw_p20 : lw_okq (⟨"MeshTurns$Pad", "readNumber", "()I"⟩, 7) := ⟨⟨by decide +kernel, by decide +kernel⟩, List.mem_of_getElem? (i := 168) (by decide +kernel), List.mem_of_getElem? (i := 604) (by decide +kernel), List.mem_of_getElem? (i := 605) (by decide +kernel)⟩
theorem lw_p21 : lw_okq (⟨"MeshTurns$Pad", "readDigit", "()I"⟩, 7) := ⟨⟨by decide +kernel, by decide +kernel⟩, List.mem_of_getElem? (i := 168) (by decide +kernel), List.mem_of_getElem? (i := 608) (by decide +kernel), List.mem_of_getElem? (i := 609) (by decide +kernel)⟩
theorem lw_p22 : lw_okq (⟨"MeshTurns$Pad", "readSign", "(C)Z"⟩, 7) := ⟨⟨by decide +kernel, by decide +kernel⟩, List.mem_of_getElem? (i := 168) (by decide +kernel), List.mem_of_getElem? (i := 612) (by decide +kernel), List.mem_of_getElem? (i := 613) (by decide +kernel)⟩
theorem lw_p23 : lw_okq (⟨"MeshTurns$Pad", "readSide", "()I"⟩, 7) := ⟨⟨by decide +kernel, by decide +kernel⟩, List.mem_of_getElem? (i := 168) (by decide +kernel), List.mem_of_getElem? (i := 616) (by decide +kernel), List.mem_of_getElem? (i := 617) (by decide +kernel)⟩
theorem lw_p24 : lw_okq (⟨"MeshTurns", "obey", "(I)Z"⟩, 10) := ⟨⟨by decide +kernel, by decide +kernel⟩, List.mem_of_getElem? (i := 13) (by decide +kernel), List.mem_of_getElem? (i := 627) (by decide +kernel), List.mem_of_getElem? (i := 628) (by decide +kernel)⟩
theorem lw_p25 : lw_okq (⟨"MeshTurnsModel", "record", "()V"⟩, 18) := ⟨⟨by decide +kernel, by decide +kernel⟩, List.mem_of_getElem? (i := 646) (by decide +kernel), List.mem_of_getElem? (i := 714) (by decide +kernel), List.mem_of_getElem? (i := 715) (by decide +kernel)⟩
theorem lw_p26 : lw_okq (⟨"MeshTurnsModel", "forget", "()V"⟩, 18) := ⟨⟨by decide +kernel, by decide +kernel⟩, List.mem_of_getElem? (i := 646) (by decide +kernel), List.mem_of_getElem? (i := 718) (by decide +kernel), List.mem_of_getElem? (i := 719) (by decide +kernel)⟩
theorem lw_p27 : lw_okq (⟨"MeshTurnsModel", "boxes", "()I"⟩, 18) := ⟨⟨by decide +kernel, by decide +kernel⟩, List.mem_of_getElem? (i := 646) (by decide +kernel), List.mem_of_getElem? (i := 726) (by decide +kernel), List.mem_of_getElem? (i := 727) (by decide +kernel)⟩
theorem lw_p28 : lw_okq (⟨"MeshTurnsModel", "isBox", "(I)Z"⟩, 18) := ⟨⟨by decide +kernel, by decide +kernel⟩, List.mem_of_getElem? (i := 646) (by decide +kernel), List.mem_of_getElem? (i := 734) (by decide +kernel), List.mem_of_getElem? (i := 735) (by decide +kernel)⟩
theorem lw_p29 : lw_okq (⟨"MeshTurnsModel", "beside", "(II)I"⟩, 18) := ⟨⟨by decide +kernel, by decide +kernel⟩, List.mem_of_getElem? (i := 646) (by decide +kernel), List.mem_of_getElem? (i := 738) (by decide +kernel), List.mem_of_getElem? (i := 739) (by decide +kernel)⟩
theorem lw_p30 : lw_okq (⟨"MeshTurnsModel", "linkOf", "(II)I"⟩, 18) := ⟨⟨by decide +kernel, by decide +kernel⟩, List.mem_of_getElem? (i := 646) (by decide +kernel), List.mem_of_getElem? (i := 742) (by decide +kernel), List.mem_of_getElem? (i := 743) (by decide +kernel)⟩
theorem lw_p31 : lw_okq (⟨"MeshTurnsModel", "farOf", "(II)I"⟩, 18) := ⟨⟨by decide +kernel, by decide +kernel⟩, List.mem_of_getElem? (i := 646) (by decide +kernel), List.mem_of_getElem? (i := 750) (by decide +kernel), List.mem_of_getElem? (i := 751) (by decide +kernel)⟩
def lw_privs_2 : List (MethodName × Nat) := [(⟨"MeshTurns", "findWorstLink", "()I"⟩, 10), (⟨"MeshTurns", "pairsWithout", "(I)I"⟩, 10), (⟨"MeshTurns$Pad", "readOrder", "()Z"⟩, 7), (⟨"MeshTurns$Pad", "signHere", "()C"⟩, 7), (⟨"MeshTurns$Pad", "readNumber", "()I"⟩, 7), (⟨"MeshTurns$Pad", "readDigit", "()I"⟩, 7), (⟨"MeshTurns$Pad", "readSign", "(C)Z"⟩, 7), (⟨"MeshTurns$Pad", "readSide", "()I"⟩, 7), (⟨"MeshTurns", "obey", "(I)Z"⟩, 10), (⟨"MeshTurnsModel", "record", "()V"⟩, 18), (⟨"MeshTurnsModel", "forget", "()V"⟩, 18), (⟨"MeshTurnsModel", "boxes", "()I"⟩, 18), (⟨"MeshTurnsModel", "isBox", "(I)Z"⟩, 18), (⟨"MeshTurnsModel", "beside", "(II)I"⟩, 18), (⟨"MeshTurnsModel", "linkOf", "(II)I"⟩, 18), (⟨"MeshTurnsModel", "farOf", "(II)I"⟩, 18)]
theorem lw_r2 : ∀ q ∈ lw_privs_2, lw_okq q := List.forall_mem_cons.mpr ⟨lw_p16, List.forall_mem_cons.mpr ⟨lw_p17, List.forall_mem_cons.mpr ⟨lw_p18, List.forall_mem_cons.mpr ⟨lw_p19, List.forall_mem_cons.mpr ⟨lw_p20, List.forall_mem_cons.mpr ⟨lw_p21, List.forall_mem_cons.mpr ⟨lw_p22, List.forall_mem_cons.mpr ⟨lw_p23, List.forall_mem_cons.mpr ⟨lw_p24, List.forall_mem_cons.mpr ⟨lw_p25, List.forall_mem_cons.mpr ⟨lw_p26, List.forall_mem_cons.mpr ⟨lw_p27, List.forall_mem_cons.mpr ⟨lw_p28, List.forall_mem_cons.mpr ⟨lw_p29, List.forall_mem_cons.mpr ⟨lw_p30, List.forall_mem_cons.mpr ⟨lw_p31, fun _ h => absurd h List.not_mem_nil⟩⟩⟩⟩⟩⟩⟩⟩⟩⟩⟩⟩⟩⟩⟩⟩
theorem lw_p32 : lw_okq (⟨"MeshTurnsModel", "layFar", "(I)V"⟩, 18) := ⟨⟨by decide +kernel, by decide +kernel⟩, List.mem_of_getElem? (i := 646) (by decide +kernel), List.mem_of_getElem? (i := 754) (by decide +kernel), List.mem_of_getElem? (i := 755) (by decide +kernel)⟩
theorem lw_p33 : lw_okq (⟨"MeshTurnsModel", "moved", "(III)I"⟩, 18) := ⟨⟨by decide +kernel, by decide +kernel⟩, List.mem_of_getElem? (i := 646) (by decide +kernel), List.mem_of_getElem? (i := 758) (by decide +kernel), List.mem_of_getElem? (i := 759) (by decide +kernel)⟩
theorem lw_p34 : lw_okq (⟨"MeshTurnsModel", "isWhole", "(II)Z"⟩, 18) := ⟨⟨by decide +kernel, by decide +kernel⟩, List.mem_of_getElem? (i := 646) (by decide +kernel), List.mem_of_getElem? (i := 762) (by decide +kernel), List.mem_of_getElem? (i := 763) (by decide +kernel)⟩
theorem lw_p35 : lw_okq (⟨"MeshTurnsModel", "isDetour", "(III)Z"⟩, 18) := ⟨⟨by decide +kernel, by decide +kernel⟩, List.mem_of_getElem? (i := 646) (by decide +kernel), List.mem_of_getElem? (i := 766) (by decide +kernel), List.mem_of_getElem? (i := 767) (by decide +kernel)⟩
theorem lw_p36 : lw_okq (⟨"MeshTurnsModel", "apart", "(II)I"⟩, 18) := ⟨⟨by decide +kernel, by decide +kernel⟩, List.mem_of_getElem? (i := 646) (by decide +kernel), List.mem_of_getElem? (i := 770) (by decide +kernel), List.mem_of_getElem? (i := 771) (by decide +kernel)⟩
theorem lw_p37 : lw_okq (⟨"MeshTurnsModel", "book", "(III)V"⟩, 18) := ⟨⟨by decide +kernel, by decide +kernel⟩, List.mem_of_getElem? (i := 646) (by decide +kernel), List.mem_of_getElem? (i := 774) (by decide +kernel), List.mem_of_getElem? (i := 775) (by decide +kernel)⟩
theorem lw_p38 : lw_okq (⟨"MeshTurnsModel", "pass", "()V"⟩, 18) := ⟨⟨by decide +kernel, by decide +kernel⟩, List.mem_of_getElem? (i := 646) (by decide +kernel), List.mem_of_getElem? (i := 782) (by decide +kernel), List.mem_of_getElem? (i := 783) (by decide +kernel)⟩
theorem lw_p39 : lw_okq (⟨"MeshTurnsModel", "of", "(II)I"⟩, 18) := ⟨⟨by decide +kernel, by decide +kernel⟩, List.mem_of_getElem? (i := 646) (by decide +kernel), List.mem_of_getElem? (i := 786) (by decide +kernel), List.mem_of_getElem? (i := 787) (by decide +kernel)⟩
theorem lw_p40 : lw_okq (⟨"MeshTurnsModel", "hasRoom", "(I)Z"⟩, 18) := ⟨⟨by decide +kernel, by decide +kernel⟩, List.mem_of_getElem? (i := 646) (by decide +kernel), List.mem_of_getElem? (i := 790) (by decide +kernel), List.mem_of_getElem? (i := 791) (by decide +kernel)⟩
theorem lw_p41 : lw_okq (⟨"MeshTurnsModel", "insideOf", "(I)I"⟩, 18) := ⟨⟨by decide +kernel, by decide +kernel⟩, List.mem_of_getElem? (i := 646) (by decide +kernel), List.mem_of_getElem? (i := 794) (by decide +kernel), List.mem_of_getElem? (i := 795) (by decide +kernel)⟩
theorem lw_p42 : lw_okq (⟨"MeshTurnsModel", "goesTo", "(I)I"⟩, 18) := ⟨⟨by decide +kernel, by decide +kernel⟩, List.mem_of_getElem? (i := 646) (by decide +kernel), List.mem_of_getElem? (i := 798) (by decide +kernel), List.mem_of_getElem? (i := 799) (by decide +kernel)⟩
theorem lw_p43 : lw_okq (⟨"MeshTurnsModel", "laySides", "(I)I"⟩, 18) := ⟨⟨by decide +kernel, by decide +kernel⟩, List.mem_of_getElem? (i := 646) (by decide +kernel), List.mem_of_getElem? (i := 802) (by decide +kernel), List.mem_of_getElem? (i := 803) (by decide +kernel)⟩
theorem lw_p44 : lw_okq (⟨"MeshTurnsModel", "standing", "(I)I"⟩, 18) := ⟨⟨by decide +kernel, by decide +kernel⟩, List.mem_of_getElem? (i := 646) (by decide +kernel), List.mem_of_getElem? (i := 806) (by decide +kernel), List.mem_of_getElem? (i := 807) (by decide +kernel)⟩
theorem lw_p45 : lw_okq (⟨"MeshTurnsModel", "move", "(II)V"⟩, 18) := ⟨⟨by decide +kernel, by decide +kernel⟩, List.mem_of_getElem? (i := 646) (by decide +kernel), List.mem_of_getElem? (i := 810) (by decide +kernel), List.mem_of_getElem? (i := 811) (by decide +kernel)⟩
theorem lw_p46 : lw_okq (⟨"MeshTurnsModel", "isPacket", "(I)Z"⟩, 18) := ⟨⟨by decide +kernel, by decide +kernel⟩, List.mem_of_getElem? (i := 646) (by decide +kernel), List.mem_of_getElem? (i := 818) (by decide +kernel), List.mem_of_getElem? (i := 819) (by decide +kernel)⟩
theorem lw_p47 : lw_okq (⟨"MeshTurnsModel", "lengthOf", "(I)I"⟩, 18) := ⟨⟨by decide +kernel, by decide +kernel⟩, List.mem_of_getElem? (i := 646) (by decide +kernel), List.mem_of_getElem? (i := 822) (by decide +kernel), List.mem_of_getElem? (i := 823) (by decide +kernel)⟩
def lw_privs_3 : List (MethodName × Nat) := [(⟨"MeshTurnsModel", "layFar", "(I)V"⟩, 18), (⟨"MeshTurnsModel", "moved", "(III)I"⟩, 18), (⟨"MeshTurnsModel", "isWhole", "(II)Z"⟩, 18), (⟨"MeshTurnsModel", "isDetour", "(III)Z"⟩, 18), (⟨"MeshTurnsModel", "apart", "(II)I"⟩, 18), (⟨"MeshTurnsModel", "book", "(III)V"⟩, 18), (⟨"MeshTurnsModel", "pass", "()V"⟩, 18), (⟨"MeshTurnsModel", "of", "(II)I"⟩, 18), (⟨"MeshTurnsModel", "hasRoom", "(I)Z"⟩, 18), (⟨"MeshTurnsModel", "insideOf", "(I)I"⟩, 18), (⟨"MeshTurnsModel", "goesTo", "(I)I"⟩, 18), (⟨"MeshTurnsModel", "laySides", "(I)I"⟩, 18), (⟨"MeshTurnsModel", "standing", "(I)I"⟩, 18), (⟨"MeshTurnsModel", "move", "(II)V"⟩, 18), (⟨"MeshTurnsModel", "isPacket", "(I)Z"⟩, 18), (⟨"MeshTurnsModel", "lengthOf", "(I)I"⟩, 18)]
theorem lw_r3 : ∀ q ∈ lw_privs_3, lw_okq q := List.forall_mem_cons.mpr ⟨lw_p32, List.forall_mem_cons.mpr ⟨lw_p33, List.forall_mem_cons.mpr ⟨lw_p34, List.forall_mem_cons.mpr ⟨lw_p35, List.forall_mem_cons.mpr ⟨lw_p36, List.forall_mem_cons.mpr ⟨lw_p37, List.forall_mem_cons.mpr ⟨lw_p38, List.forall_mem_cons.mpr ⟨lw_p39, List.forall_mem_cons.mpr ⟨lw_p40, List.forall_mem_cons.mpr ⟨lw_p41, List.forall_mem_cons.mpr ⟨lw_p42, List.forall_mem_cons.mpr ⟨lw_p43, List.forall_mem_cons.mpr ⟨lw_p44, List.forall_mem_cons.mpr ⟨lw_p45, List.forall_mem_cons.mpr ⟨lw_p46, List.forall_mem_cons.mpr ⟨lw_p47, fun _ h => absurd h List.not_mem_nil⟩⟩⟩⟩⟩⟩⟩⟩⟩⟩⟩⟩⟩⟩⟩⟩
theorem lw_p48 : lw_okq (⟨"MeshTurnsModel", "layStuck", "()I"⟩, 18) := ⟨⟨by decide +kernel, by decide +kernel⟩, List.mem_of_getElem? (i := 646) (by decide +kernel), List.mem_of_getElem? (i := 826) (by decide +kernel), List.mem_of_getElem? (i := 827) (by decide +kernel)⟩
theorem lw_p49 : lw_okq (⟨"MeshTurnsModel", "isFree", "(I)Z"⟩, 18) := ⟨⟨by decide +kernel, by decide +kernel⟩, List.mem_of_getElem? (i := 646) (by decide +kernel), List.mem_of_getElem? (i := 830) (by decide +kernel), List.mem_of_getElem? (i := 831) (by decide +kernel)⟩
theorem lw_p50 : lw_okq (⟨"MeshTurnsModel", "packetsOf", "(II)I"⟩, 18) := ⟨⟨by decide +kernel, by decide +kernel⟩, List.mem_of_getElem? (i := 646) (by decide +kernel), List.mem_of_getElem? (i := 838) (by decide +kernel), List.mem_of_getElem? (i := 839) (by decide +kernel)⟩
theorem lw_p51 : lw_okq (⟨"MeshTurnsModel", "sum", "(I)I"⟩, 18) := ⟨⟨by decide +kernel, by decide +kernel⟩, List.mem_of_getElem? (i := 646) (by decide +kernel), List.mem_of_getElem? (i := 846) (by decide +kernel), List.mem_of_getElem? (i := 847) (by decide +kernel)⟩
theorem lw_p52 : lw_okq (⟨"MeshTurnsModel", "broken", "()I"⟩, 18) := ⟨⟨by decide +kernel, by decide +kernel⟩, List.mem_of_getElem? (i := 646) (by decide +kernel), List.mem_of_getElem? (i := 850) (by decide +kernel), List.mem_of_getElem? (i := 851) (by decide +kernel)⟩
theorem lw_p53 : lw_okq (⟨"MeshTurnsModel", "pairsNow", "()I"⟩, 18) := ⟨⟨by decide +kernel, by decide +kernel⟩, List.mem_of_getElem? (i := 646) (by decide +kernel), List.mem_of_getElem? (i := 866) (by decide +kernel), List.mem_of_getElem? (i := 867) (by decide +kernel)⟩
theorem lw_p54 : lw_okq (⟨"MeshTurnsModel", "keep", "()V"⟩, 18) := ⟨⟨by decide +kernel, by decide +kernel⟩, List.mem_of_getElem? (i := 646) (by decide +kernel), List.mem_of_getElem? (i := 882) (by decide +kernel), List.mem_of_getElem? (i := 883) (by decide +kernel)⟩
theorem lw_p55 : lw_okq (⟨"MeshTurnsModel", "comeBack", "()V"⟩, 18) := ⟨⟨by decide +kernel, by decide +kernel⟩, List.mem_of_getElem? (i := 646) (by decide +kernel), List.mem_of_getElem? (i := 886) (by decide +kernel), List.mem_of_getElem? (i := 887) (by decide +kernel)⟩
theorem lw_p56 : lw_okq (⟨"MeshTurnsModel", "faultOf", "()I"⟩, 18) := ⟨⟨by decide +kernel, by decide +kernel⟩, List.mem_of_getElem? (i := 646) (by decide +kernel), List.mem_of_getElem? (i := 907) (by decide +kernel), List.mem_of_getElem? (i := 908) (by decide +kernel)⟩
theorem lw_p57 : lw_okq (⟨"MeshTurnsModel", "readOne", "()V"⟩, 18) := ⟨⟨by decide +kernel, by decide +kernel⟩, List.mem_of_getElem? (i := 646) (by decide +kernel), List.mem_of_getElem? (i := 911) (by decide +kernel), List.mem_of_getElem? (i := 912) (by decide +kernel)⟩
theorem lw_p58 : lw_okq (⟨"MeshTurnsModel", "sign", "()I"⟩, 18) := ⟨⟨by decide +kernel, by decide +kernel⟩, List.mem_of_getElem? (i := 646) (by decide +kernel), List.mem_of_getElem? (i := 915) (by decide +kernel), List.mem_of_getElem? (i := 916) (by decide +kernel)⟩
theorem lw_p59 : lw_okq (⟨"MeshTurnsModel", "number", "()I"⟩, 18) := ⟨⟨by decide +kernel, by decide +kernel⟩, List.mem_of_getElem? (i := 646) (by decide +kernel), List.mem_of_getElem? (i := 919) (by decide +kernel), List.mem_of_getElem? (i := 920) (by decide +kernel)⟩
theorem lw_p60 : lw_okq (⟨"MeshTurnsModel", "side", "()I"⟩, 18) := ⟨⟨by decide +kernel, by decide +kernel⟩, List.mem_of_getElem? (i := 646) (by decide +kernel), List.mem_of_getElem? (i := 923) (by decide +kernel), List.mem_of_getElem? (i := 924) (by decide +kernel)⟩
theorem lw_p61 : lw_okq (⟨"MeshTurnsModel", "carry", "(I)I"⟩, 18) := ⟨⟨by decide +kernel, by decide +kernel⟩, List.mem_of_getElem? (i := 646) (by decide +kernel), List.mem_of_getElem? (i := 931) (by decide +kernel), List.mem_of_getElem? (i := 932) (by decide +kernel)⟩
def lw_privs_4 : List (MethodName × Nat) := [(⟨"MeshTurnsModel", "layStuck", "()I"⟩, 18), (⟨"MeshTurnsModel", "isFree", "(I)Z"⟩, 18), (⟨"MeshTurnsModel", "packetsOf", "(II)I"⟩, 18), (⟨"MeshTurnsModel", "sum", "(I)I"⟩, 18), (⟨"MeshTurnsModel", "broken", "()I"⟩, 18), (⟨"MeshTurnsModel", "pairsNow", "()I"⟩, 18), (⟨"MeshTurnsModel", "keep", "()V"⟩, 18), (⟨"MeshTurnsModel", "comeBack", "()V"⟩, 18), (⟨"MeshTurnsModel", "faultOf", "()I"⟩, 18), (⟨"MeshTurnsModel", "readOne", "()V"⟩, 18), (⟨"MeshTurnsModel", "sign", "()I"⟩, 18), (⟨"MeshTurnsModel", "number", "()I"⟩, 18), (⟨"MeshTurnsModel", "side", "()I"⟩, 18), (⟨"MeshTurnsModel", "carry", "(I)I"⟩, 18)]
theorem lw_r4 : ∀ q ∈ lw_privs_4, lw_okq q := List.forall_mem_cons.mpr ⟨lw_p48, List.forall_mem_cons.mpr ⟨lw_p49, List.forall_mem_cons.mpr ⟨lw_p50, List.forall_mem_cons.mpr ⟨lw_p51, List.forall_mem_cons.mpr ⟨lw_p52, List.forall_mem_cons.mpr ⟨lw_p53, List.forall_mem_cons.mpr ⟨lw_p54, List.forall_mem_cons.mpr ⟨lw_p55, List.forall_mem_cons.mpr ⟨lw_p56, List.forall_mem_cons.mpr ⟨lw_p57, List.forall_mem_cons.mpr ⟨lw_p58, List.forall_mem_cons.mpr ⟨lw_p59, List.forall_mem_cons.mpr ⟨lw_p60, List.forall_mem_cons.mpr ⟨lw_p61, fun _ h => absurd h List.not_mem_nil⟩⟩⟩⟩⟩⟩⟩⟩⟩⟩⟩⟩⟩⟩
def lw_privs : List (MethodName × Nat) := lw_privs_1 ++ (lw_privs_2 ++ (lw_privs_3 ++ (lw_privs_4)))
def lw_tbl : List Cond := k2_sels lw_privs ++ tables_1
theorem lw_privs_ok : ∀ q ∈ lw_privs, lw_okq q := by
  show ∀ q ∈ lw_privs_1 ++ (lw_privs_2 ++ (lw_privs_3 ++ (lw_privs_4))), lw_okq q
  exact List.forall_mem_append.mpr ⟨lw_r1, List.forall_mem_append.mpr ⟨lw_r2, List.forall_mem_append.mpr ⟨lw_r3, lw_r4⟩⟩⟩
end
section
/-! ===== BEGIN words of one list among another's, by their places ===== -/
theorem goodIn_r {big : List Cond} (ws : List Cond) (ps : List Nat) (hp : ws = ps.filterMap (fun i => big[i]?)) (h : ws.all goodWord = true) : GoodIn big ws := by
  intro w hw
  have h1 := List.all_eq_true.mp h w hw
  rw [hp] at hw
  obtain ⟨i, -, hi⟩ := List.mem_filterMap.mp hw
  have hm : w ∈ big := by first | exact List.mem_of_getElem? hi | exact List.getElem?_mem hi
  exact ⟨hm, good_of_word h1⟩
theorem goodIn_app {big a b : List Cond} (ha : GoodIn big a) (hb : GoodIn big b) : GoodIn big (a ++ b) := fun w h => (List.mem_append.mp h).elim (ha w) (hb w)
theorem goodIn_ca {big a b : List Cond} {c : Cond} (ha : GoodIn big (c :: a)) (hb : GoodIn big b) : GoodIn big (c :: (a ++ b)) := fun w h => (List.mem_cons.mp h).elim (fun e => ha w (List.mem_cons.mpr (Or.inl e))) (fun h => (List.mem_append.mp h).elim (fun h => ha w (List.mem_cons.mpr (Or.inr h))) (hb w))
theorem goodIn_sub {big ws : List Cond} (hm : ∀ w ∈ ws, w ∈ big) (h : ws.all goodWord = true) : GoodIn big ws := fun w hw => ⟨hm w hw, good_of_word (List.all_eq_true.mp h w hw)⟩
/-! ===== END ===== -/
/-! ===== BEGIN printed: names, fields, word lists, decode rows ===== -/
def RX0 : String := "MeshTurns$Grid"
def TX0 : u_T := fun k => match k with
  | 0 => ("MeshTurns$Grid", "columns", "I", false)
  | 1 => ("MeshTurns$Grid", "rows", "I", false)
  | _ => ("MeshTurns$Grid", "broken", "J", false)
def tyX0 : Nat → FieldType := fun k => match k with
  | 0 => .int
  | 1 => .int
  | _ => .long
abbrev wsX00 : List Cond := u_ws RX0 TX0 3
theorem nmX0 : ∀ a, a < 3 → ∀ b, b < 3 → a ≠ b → (TX0 a).2.1 ≠ (TX0 b).2.1 := by decide +kernel
theorem tyX0_ok : ∀ k, k < 3 → parseFieldDescriptor (TX0 k).2.2.1 = some (tyX0 k) := by decide +kernel
abbrev cX0_init : ByteArray := prog_2_method_1_code
def yX0_init : MethodName := ⟨RX0, "<init>", "()V"⟩
abbrev cX0_layOut : ByteArray := prog_2_method_2_code
def yX0_layOut : MethodName := ⟨RX0, "layOut", "(II)V"⟩
abbrev cX0_copyGrid : ByteArray := prog_2_method_3_code
def yX0_copyGrid : MethodName := ⟨RX0, "copyGrid", "(LMeshTurns$Grid;)V"⟩
abbrev cX0_boxes : ByteArray := prog_2_method_4_code
def yX0_boxes : MethodName := ⟨RX0, "boxes", "()I"⟩
abbrev cX0_has : ByteArray := prog_2_method_5_code
def yX0_has : MethodName := ⟨RX0, "has", "(I)Z"⟩
abbrev cX0_beside : ByteArray := prog_2_method_6_code
def yX0_beside : MethodName := ⟨RX0, "beside", "(II)I"⟩
abbrev cX0_distance : ByteArray := prog_2_method_7_code
def yX0_distance : MethodName := ⟨RX0, "distance", "(II)I"⟩
abbrev cX0_linkAt : ByteArray := prog_2_method_8_code
def yX0_linkAt : MethodName := ⟨RX0, "linkAt", "(II)I"⟩
abbrev cX0_boxOfLink : ByteArray := prog_2_method_9_code
def yX0_boxOfLink : MethodName := ⟨RX0, "boxOfLink", "(I)I"⟩
abbrev cX0_sideOfLink : ByteArray := prog_2_method_10_code
def yX0_sideOfLink : MethodName := ⟨RX0, "sideOfLink", "(I)I"⟩
abbrev cX0_isLink : ByteArray := prog_2_method_11_code
def yX0_isLink : MethodName := ⟨RX0, "isLink", "(I)Z"⟩
abbrev cX0_isWhole : ByteArray := prog_2_method_12_code
def yX0_isWhole : MethodName := ⟨RX0, "isWhole", "(I)Z"⟩
abbrev cX0_makeWhole : ByteArray := prog_2_method_13_code
def yX0_makeWhole : MethodName := ⟨RX0, "makeWhole", "(IZ)V"⟩
abbrev cX0_brokenLinks : ByteArray := prog_2_method_14_code
def yX0_brokenLinks : MethodName := ⟨RX0, "brokenLinks", "()I"⟩
def RX1 : String := "MeshTurns$Jam"
def TX1 : u_T := fun k => match k with
  | _ => ("MeshTurns$Jam", "stuck", "[Z", true)
def tyX1 : Nat → FieldType := fun k => match k with
  | _ => .array .boolean
abbrev wsX10 : List Cond := u_ws RX1 TX1 1
theorem nmX1 : ∀ a, a < 1 → ∀ b, b < 1 → a ≠ b → (TX1 a).2.1 ≠ (TX1 b).2.1 := by decide +kernel
theorem tyX1_ok : ∀ k, k < 1 → parseFieldDescriptor (TX1 k).2.2.1 = some (tyX1 k) := by decide +kernel
abbrev cX1_init : ByteArray := prog_3_method_1_code
def yX1_init : MethodName := ⟨RX1, "<init>", "()V"⟩
abbrev cX1_holds : ByteArray := prog_3_method_2_code
def yX1_holds : MethodName := ⟨RX1, "holds", "(LMeshTurns$State;LMeshTurns$Routes;I)Z"⟩
abbrev cX1_size : ByteArray := prog_3_method_3_code
def yX1_size : MethodName := ⟨RX1, "size", "(LMeshTurns$State;LMeshTurns$Routes;)I"⟩
abbrev cX1_find : ByteArray := prog_3_method_4_code
def yX1_find : MethodName := ⟨RX1, "find", "(LMeshTurns$State;LMeshTurns$Routes;)V"⟩
abbrev cX1_canGoOn : ByteArray := prog_3_method_5_code
def yX1_canGoOn : MethodName := ⟨RX1, "canGoOn", "(LMeshTurns$State;LMeshTurns$Routes;I)Z"⟩
abbrev cX1_hasFreePacket : ByteArray := prog_3_method_6_code
def yX1_hasFreePacket : MethodName := ⟨RX1, "hasFreePacket", "(LMeshTurns$Packets;I)Z"⟩
def RX2 : String := "MeshTurns$Packets"
def TX2 : u_T := fun k => match k with
  | 0 => ("MeshTurns$Packets", "sent", "I", false)
  | 1 => ("MeshTurns$Packets", "from", "[I", true)
  | 2 => ("MeshTurns$Packets", "to", "[I", true)
  | 3 => ("MeshTurns$Packets", "place", "[I", true)
  | 4 => ("MeshTurns$Packets", "box", "[I", true)
  | 5 => ("MeshTurns$Packets", "moves", "[I", true)
  | 6 => ("MeshTurns$Packets", "detours", "[I", true)
  | 7 => ("MeshTurns$Packets", "waits", "[I", true)
  | 8 => ("MeshTurns$Packets", "sentIn", "[I", true)
  | 9 => ("MeshTurns$Packets", "arrivedIn", "[I", true)
  | _ => ("MeshTurns$Packets", "turned", "[I", true)
def tyX2 : Nat → FieldType := fun k => match k with
  | 0 => .int
  | 1 => .array .int
  | 2 => .array .int
  | 3 => .array .int
  | 4 => .array .int
  | 5 => .array .int
  | 6 => .array .int
  | 7 => .array .int
  | 8 => .array .int
  | 9 => .array .int
  | _ => .array .int
abbrev wsX20 : List Cond := u_ws RX2 TX2 11
theorem nmX2 : ∀ a, a < 11 → ∀ b, b < 11 → a ≠ b → (TX2 a).2.1 ≠ (TX2 b).2.1 := by decide +kernel
theorem tyX2_ok : ∀ k, k < 11 → parseFieldDescriptor (TX2 k).2.2.1 = some (tyX2 k) := by decide +kernel
abbrev cX2_init : ByteArray := prog_4_method_1_code
def yX2_init : MethodName := ⟨RX2, "<init>", "()V"⟩
abbrev cX2_copyPackets : ByteArray := prog_4_method_2_code
def yX2_copyPackets : MethodName := ⟨RX2, "copyPackets", "(LMeshTurns$Packets;)V"⟩
abbrev cX2_has : ByteArray := prog_4_method_3_code
def yX2_has : MethodName := ⟨RX2, "has", "(I)Z"⟩
abbrev cX2_add : ByteArray := prog_4_method_4_code
def yX2_add : MethodName := ⟨RX2, "add", "(III)I"⟩
abbrev cX2_noteMove : ByteArray := prog_4_method_5_code
def yX2_noteMove : MethodName := ⟨RX2, "noteMove", "(IIIZ)V"⟩
abbrev cX2_countIn : ByteArray := prog_4_method_6_code
def yX2_countIn : MethodName := ⟨RX2, "countIn", "(I)I"⟩
abbrev cX2_countAt : ByteArray := prog_4_method_7_code
def yX2_countAt : MethodName := ⟨RX2, "countAt", "(II)I"⟩
abbrev cX2_sum : ByteArray := prog_4_method_8_code
def yX2_sum : MethodName := ⟨RX2, "sum", "([I)I"⟩
def RX3 : String := "MeshTurns$Pad"
def TX3 : u_T := fun k => match k with
  | 0 => ("MeshTurns$Pad", "signs", "[C", true)
  | 1 => ("MeshTurns$Pad", "length", "I", false)
  | 2 => ("MeshTurns$Pad", "orders", "I", false)
  | 3 => ("MeshTurns$Pad", "kinds", "[I", true)
  | 4 => ("MeshTurns$Pad", "firsts", "[I", true)
  | 5 => ("MeshTurns$Pad", "seconds", "[I", true)
  | _ => ("MeshTurns$Pad", "place", "I", false)
def tyX3 : Nat → FieldType := fun k => match k with
  | 0 => .array .char
  | 1 => .int
  | 2 => .int
  | 3 => .array .int
  | 4 => .array .int
  | 5 => .array .int
  | _ => .int
abbrev wsX30 : List Cond := u_ws RX3 TX3 7
theorem nmX3 : ∀ a, a < 7 → ∀ b, b < 7 → a ≠ b → (TX3 a).2.1 ≠ (TX3 b).2.1 := by decide +kernel
theorem tyX3_ok : ∀ k, k < 7 → parseFieldDescriptor (TX3 k).2.2.1 = some (tyX3 k) := by decide +kernel
abbrev cX3_init : ByteArray := prog_5_method_1_code
def yX3_init : MethodName := ⟨RX3, "<init>", "()V"⟩
abbrev cX3_countCharacters : ByteArray := prog_5_method_2_code
def yX3_countCharacters : MethodName := ⟨RX3, "countCharacters", "(J)I"⟩
abbrev cX3_fits : ByteArray := prog_5_method_3_code
def yX3_fits : MethodName := ⟨RX3, "fits", "(I)Z"⟩
abbrev cX3_append : ByteArray := prog_5_method_4_code
def yX3_append : MethodName := ⟨RX3, "append", "(JI)V"⟩
abbrev cX3_readOrders : ByteArray := prog_5_method_5_code
def yX3_readOrders : MethodName := ⟨RX3, "readOrders", "()I"⟩
abbrev cX3_readOrder : ByteArray := prog_5_method_6_code
def yX3_readOrder : MethodName := ⟨RX3, "readOrder", "()Z"⟩
abbrev cX3_signHere : ByteArray := prog_5_method_7_code
def yX3_signHere : MethodName := ⟨RX3, "signHere", "()C"⟩
abbrev cX3_readSign : ByteArray := prog_5_method_8_code
def yX3_readSign : MethodName := ⟨RX3, "readSign", "(C)Z"⟩
abbrev cX3_readNumber : ByteArray := prog_5_method_9_code
def yX3_readNumber : MethodName := ⟨RX3, "readNumber", "()I"⟩
abbrev cX3_readDigit : ByteArray := prog_5_method_10_code
def yX3_readDigit : MethodName := ⟨RX3, "readDigit", "()I"⟩
abbrev cX3_readSide : ByteArray := prog_5_method_11_code
def yX3_readSide : MethodName := ⟨RX3, "readSide", "()I"⟩
abbrev cX3_sideOfSign : ByteArray := prog_5_method_12_code
def yX3_sideOfSign : MethodName := ⟨RX3, "sideOfSign", "(C)I"⟩
def RX4 : String := "MeshTurns$Routes"
def TX4 : u_T := fun k => match k with
  | 0 => ("MeshTurns$Routes", "eastIsFirst", "Z", false)
  | 1 => ("MeshTurns$Routes", "open", "[I", true)
  | 2 => ("MeshTurns$Routes", "lengths", "[I", true)
  | 3 => ("MeshTurns$Routes", "numbers", "[I", true)
  | 4 => ("MeshTurns$Routes", "queue", "[I", true)
  | _ => ("MeshTurns$Routes", "queued", "I", false)
def tyX4 : Nat → FieldType := fun k => match k with
  | 0 => .boolean
  | 1 => .array .int
  | 2 => .array .int
  | 3 => .array .int
  | 4 => .array .int
  | _ => .int
abbrev wsX40 : List Cond := u_ws RX4 TX4 6
theorem nmX4 : ∀ a, a < 6 → ∀ b, b < 6 → a ≠ b → (TX4 a).2.1 ≠ (TX4 b).2.1 := by decide +kernel
theorem tyX4_ok : ∀ k, k < 6 → parseFieldDescriptor (TX4 k).2.2.1 = some (tyX4 k) := by decide +kernel
abbrev cX4_init : ByteArray := prog_6_method_1_code
def yX4_init : MethodName := ⟨RX4, "<init>", "()V"⟩
abbrev cX4_learn : ByteArray := prog_6_method_2_code
def yX4_learn : MethodName := ⟨RX4, "learn", "(LMeshTurns$Grid;I)V"⟩
abbrev cX4_boxBehind : ByteArray := prog_6_method_3_code
def yX4_boxBehind : MethodName := ⟨RX4, "boxBehind", "(II)I"⟩
abbrev cX4_length : ByteArray := prog_6_method_4_code
def yX4_length : MethodName := ⟨RX4, "length", "(III)I"⟩
abbrev cX4_lengthAfter : ByteArray := prog_6_method_5_code
def yX4_lengthAfter : MethodName := ⟨RX4, "lengthAfter", "(IIII)I"⟩
abbrev cX4_shortestWays : ByteArray := prog_6_method_6_code
def yX4_shortestWays : MethodName := ⟨RX4, "shortestWays", "(II)I"⟩
abbrev cX4_spot : ByteArray := prog_6_method_7_code
def yX4_spot : MethodName := ⟨RX4, "spot", "(II)I"⟩
abbrev cX4_mayMove : ByteArray := prog_6_method_8_code
def yX4_mayMove : MethodName := ⟨RX4, "mayMove", "(II)Z"⟩
abbrev cX4_search : ByteArray := prog_6_method_9_code
def yX4_search : MethodName := ⟨RX4, "search", "(I)V"⟩
abbrev cX4_stepBack : ByteArray := prog_6_method_10_code
def yX4_stepBack : MethodName := ⟨RX4, "stepBack", "(III)V"⟩
abbrev cX4_opposite : ByteArray := prog_6_method_11_code
def yX4_opposite : MethodName := ⟨RX4, "opposite", "(I)I"⟩
abbrev cX4_reach : ByteArray := prog_6_method_12_code
def yX4_reach : MethodName := ⟨RX4, "reach", "(IIII)V"⟩
def RX5 : String := "MeshTurns$State"
def TX5 : u_T := fun k => match k with
  | 0 => ("MeshTurns$State", "settings", "[I", true)
  | 1 => ("MeshTurns$State", "grid", "LMeshTurns$Grid;", true)
  | 2 => ("MeshTurns$State", "packets", "LMeshTurns$Packets;", true)
  | 3 => ("MeshTurns$State", "inside", "[I", true)
  | 4 => ("MeshTurns$State", "movesFrom", "[I", true)
  | _ => ("MeshTurns$State", "tick", "I", false)
def tyX5 : Nat → FieldType := fun k => match k with
  | 0 => .array .int
  | 1 => .object "MeshTurns$Grid"
  | 2 => .object "MeshTurns$Packets"
  | 3 => .array .int
  | 4 => .array .int
  | _ => .int
abbrev wsX50 : List Cond := u_ws RX5 TX5 6
theorem nmX5 : ∀ a, a < 6 → ∀ b, b < 6 → a ≠ b → (TX5 a).2.1 ≠ (TX5 b).2.1 := by decide +kernel
theorem tyX5_ok : ∀ k, k < 6 → parseFieldDescriptor (TX5 k).2.2.1 = some (tyX5 k) := by decide +kernel
abbrev cX5_init : ByteArray := prog_7_method_1_code
def yX5_init : MethodName := ⟨RX5, "<init>", "()V"⟩
abbrev cX5_copyState : ByteArray := prog_7_method_2_code
def yX5_copyState : MethodName := ⟨RX5, "copyState", "(LMeshTurns$State;LMeshTurns$State;)V"⟩
abbrev cX5_hasRoom : ByteArray := prog_7_method_3_code
def yX5_hasRoom : MethodName := ⟨RX5, "hasRoom", "(I)Z"⟩
abbrev cX5_wayLength : ByteArray := prog_7_method_4_code
def yX5_wayLength : MethodName := ⟨RX5, "wayLength", "(LMeshTurns$Routes;II)I"⟩
abbrev cX5_wayLengthOf : ByteArray := prog_7_method_5_code
def yX5_wayLengthOf : MethodName := ⟨RX5, "wayLengthOf", "(LMeshTurns$Routes;I)I"⟩
abbrev cX5_mostMoves : ByteArray := prog_7_method_6_code
def yX5_mostMoves : MethodName := ⟨RX5, "mostMoves", "(I)I"⟩
abbrev cX5_isPossible : ByteArray := prog_7_method_7_code
def yX5_isPossible : MethodName := ⟨RX5, "isPossible", "(LMeshTurns$Routes;II)Z"⟩
abbrev cX5_firstSide : ByteArray := prog_7_method_8_code
def yX5_firstSide : MethodName := ⟨RX5, "firstSide", "(LMeshTurns$Routes;IZ)I"⟩
abbrev cX5_letsIn : ByteArray := prog_7_method_9_code
def yX5_letsIn : MethodName := ⟨RX5, "letsIn", "(II)Z"⟩
abbrev cX5_connectedPairs : ByteArray := prog_7_method_10_code
def yX5_connectedPairs : MethodName := ⟨RX5, "connectedPairs", "(LMeshTurns$Routes;)I"⟩
abbrev cX5_passTicks : ByteArray := prog_7_method_11_code
def yX5_passTicks : MethodName := ⟨RX5, "passTicks", "(LMeshTurns$Routes;I)V"⟩
abbrev cX5_comesInside : ByteArray := prog_7_method_12_code
def yX5_comesInside : MethodName := ⟨RX5, "comesInside", "(I)Z"⟩
abbrev cX5_movesOn : ByteArray := prog_7_method_13_code
def yX5_movesOn : MethodName := ⟨RX5, "movesOn", "(LMeshTurns$Routes;I)Z"⟩
def RX6 : String := "MeshTurns"
def TX6 : u_T := fun k => match k with
  | 0 => ("MeshTurns", "now", "LMeshTurns$State;", true)
  | 1 => ("MeshTurns", "routes", "LMeshTurns$Routes;", true)
  | 2 => ("MeshTurns", "trial", "LMeshTurns$State;", true)
  | 3 => ("MeshTurns", "trialRoutes", "LMeshTurns$Routes;", true)
  | 4 => ("MeshTurns", "jam", "LMeshTurns$Jam;", true)
  | 5 => ("MeshTurns", "pad", "LMeshTurns$Pad;", true)
  | 6 => ("MeshTurns", "history", "[LMeshTurns$State;", true)
  | 7 => ("MeshTurns", "undoable", "I", false)
  | 8 => ("MeshTurns", "slots", "[LMeshTurns$State;", true)
  | _ => ("MeshTurns", "slotIsUsed", "[Z", true)
def tyX6 : Nat → FieldType := fun k => match k with
  | 0 => .object "MeshTurns$State"
  | 1 => .object "MeshTurns$Routes"
  | 2 => .object "MeshTurns$State"
  | 3 => .object "MeshTurns$Routes"
  | 4 => .object "MeshTurns$Jam"
  | 5 => .object "MeshTurns$Pad"
  | 6 => .array (.object "MeshTurns$State")
  | 7 => .int
  | 8 => .array (.object "MeshTurns$State")
  | _ => .array .boolean
abbrev wsX60 : List Cond := u_ws RX6 TX6 10
theorem nmX6 : ∀ a, a < 10 → ∀ b, b < 10 → a ≠ b → (TX6 a).2.1 ≠ (TX6 b).2.1 := by decide +kernel
theorem tyX6_ok : ∀ k, k < 10 → parseFieldDescriptor (TX6 k).2.2.1 = some (tyX6 k) := by decide +kernel
abbrev cX6_init : ByteArray := prog_1_method_1_code
def yX6_init : MethodName := ⟨RX6, "<init>", "()V"⟩
abbrev cX6_set : ByteArray := prog_1_method_2_code
def yX6_set : MethodName := ⟨RX6, "set", "(II)I"⟩
abbrev cX6_mesh : ByteArray := prog_1_method_3_code
def yX6_mesh : MethodName := ⟨RX6, "mesh", "(II)I"⟩
abbrev cX6_link : ByteArray := prog_1_method_4_code
def yX6_link : MethodName := ⟨RX6, "link", "(III)I"⟩
abbrev cX6_send : ByteArray := prog_1_method_5_code
def yX6_send : MethodName := ⟨RX6, "send", "(II)I"⟩
abbrev cX6_ticks : ByteArray := prog_1_method_6_code
def yX6_ticks : MethodName := ⟨RX6, "ticks", "(I)I"⟩
abbrev cX6_ofPacket : ByteArray := prog_1_method_7_code
def yX6_ofPacket : MethodName := ⟨RX6, "ofPacket", "(II)I"⟩
abbrev cX6_ofBox : ByteArray := prog_1_method_8_code
def yX6_ofBox : MethodName := ⟨RX6, "ofBox", "(II)I"⟩
abbrev cX6_count : ByteArray := prog_1_method_9_code
def yX6_count : MethodName := ⟨RX6, "count", "(I)I"⟩
abbrev cX6_leastWay : ByteArray := prog_1_method_10_code
def yX6_leastWay : MethodName := ⟨RX6, "leastWay", "(II)I"⟩
abbrev cX6_ways : ByteArray := prog_1_method_11_code
def yX6_ways : MethodName := ⟨RX6, "ways", "(II)I"⟩
abbrev cX6_pairs : ByteArray := prog_1_method_12_code
def yX6_pairs : MethodName := ⟨RX6, "pairs", "()I"⟩
abbrev cX6_worstLink : ByteArray := prog_1_method_13_code
def yX6_worstLink : MethodName := ⟨RX6, "worstLink", "(I)I"⟩
abbrev cX6_busiest : ByteArray := prog_1_method_14_code
def yX6_busiest : MethodName := ⟨RX6, "busiest", "(I)I"⟩
abbrev cX6_arrivesIn : ByteArray := prog_1_method_15_code
def yX6_arrivesIn : MethodName := ⟨RX6, "arrivesIn", "(I)I"⟩
abbrev cX6_arrivedBy : ByteArray := prog_1_method_16_code
def yX6_arrivedBy : MethodName := ⟨RX6, "arrivedBy", "(I)I"⟩
abbrev cX6_put : ByteArray := prog_1_method_17_code
def yX6_put : MethodName := ⟨RX6, "put", "(J)I"⟩
abbrev cX6_wipe : ByteArray := prog_1_method_18_code
def yX6_wipe : MethodName := ⟨RX6, "wipe", "()I"⟩
abbrev cX6_fault : ByteArray := prog_1_method_19_code
def yX6_fault : MethodName := ⟨RX6, "fault", "()I"⟩
abbrev cX6_carryOut : ByteArray := prog_1_method_20_code
def yX6_carryOut : MethodName := ⟨RX6, "carryOut", "()I"⟩
abbrev cX6_undo : ByteArray := prog_1_method_21_code
def yX6_undo : MethodName := ⟨RX6, "undo", "()I"⟩
abbrev cX6_save : ByteArray := prog_1_method_22_code
def yX6_save : MethodName := ⟨RX6, "save", "(I)I"⟩
abbrev cX6_restore : ByteArray := prog_1_method_23_code
def yX6_restore : MethodName := ⟨RX6, "restore", "(I)I"⟩
abbrev cX6_leastOfSetting : ByteArray := prog_1_method_24_code
def yX6_leastOfSetting : MethodName := ⟨RX6, "leastOfSetting", "(I)I"⟩
abbrev cX6_mostOfSetting : ByteArray := prog_1_method_25_code
def yX6_mostOfSetting : MethodName := ⟨RX6, "mostOfSetting", "(I)I"⟩
abbrev cX6_isLine : ByteArray := prog_1_method_26_code
def yX6_isLine : MethodName := ⟨RX6, "isLine", "(I)Z"⟩
abbrev cX6_isSide : ByteArray := prog_1_method_27_code
def yX6_isSide : MethodName := ⟨RX6, "isSide", "(I)Z"⟩
abbrev cX6_isTicks : ByteArray := prog_1_method_28_code
def yX6_isTicks : MethodName := ⟨RX6, "isTicks", "(I)Z"⟩
abbrev cX6_isSlot : ByteArray := prog_1_method_29_code
def yX6_isSlot : MethodName := ⟨RX6, "isSlot", "(I)Z"⟩
abbrev cX6_linkError : ByteArray := prog_1_method_30_code
def yX6_linkError : MethodName := ⟨RX6, "linkError", "(III)I"⟩
abbrev cX6_sendError : ByteArray := prog_1_method_31_code
def yX6_sendError : MethodName := ⟨RX6, "sendError", "(II)I"⟩
abbrev cX6_learnRoutes : ByteArray := prog_1_method_32_code
def yX6_learnRoutes : MethodName := ⟨RX6, "learnRoutes", "()V"⟩
abbrev cX6_changeLink : ByteArray := prog_1_method_33_code
def yX6_changeLink : MethodName := ⟨RX6, "changeLink", "(III)I"⟩
abbrev cX6_obey : ByteArray := prog_1_method_34_code
def yX6_obey : MethodName := ⟨RX6, "obey", "(I)Z"⟩
abbrev cX6_recordState : ByteArray := prog_1_method_35_code
def yX6_recordState : MethodName := ⟨RX6, "recordState", "()V"⟩
abbrev cX6_dropOldestState : ByteArray := prog_1_method_36_code
def yX6_dropOldestState : MethodName := ⟨RX6, "dropOldestState", "()V"⟩
abbrev cX6_linkState : ByteArray := prog_1_method_37_code
def yX6_linkState : MethodName := ⟨RX6, "linkState", "(II)I"⟩
abbrev cX6_findWorstLink : ByteArray := prog_1_method_38_code
def yX6_findWorstLink : MethodName := ⟨RX6, "findWorstLink", "()I"⟩
abbrev cX6_pairsWithout : ByteArray := prog_1_method_39_code
def yX6_pairsWithout : MethodName := ⟨RX6, "pairsWithout", "(I)I"⟩
def RX7 : String := "MeshTurnsModel"
def TX7 : u_T := fun k => match k with
  | 0 => ("MeshTurnsModel", "now", "[I", true)
  | 1 => ("MeshTurnsModel", "kept", "[I", true)
  | 2 => ("MeshTurnsModel", "history", "[I", true)
  | 3 => ("MeshTurnsModel", "undos", "I", false)
  | 4 => ("MeshTurnsModel", "saved", "[I", true)
  | 5 => ("MeshTurnsModel", "isSaved", "[Z", true)
  | 6 => ("MeshTurnsModel", "pad", "[I", true)
  | 7 => ("MeshTurnsModel", "signs", "I", false)
  | 8 => ("MeshTurnsModel", "isInText", "Z", false)
  | 9 => ("MeshTurnsModel", "far", "[I", true)
  | 10 => ("MeshTurnsModel", "many", "[I", true)
  | 11 => ("MeshTurnsModel", "isLaid", "[Z", true)
  | 12 => ("MeshTurnsModel", "sides", "[I", true)
  | 13 => ("MeshTurnsModel", "isStuck", "[Z", true)
  | 14 => ("MeshTurnsModel", "orders", "[I", true)
  | 15 => ("MeshTurnsModel", "read", "I", false)
  | 16 => ("MeshTurnsModel", "place", "I", false)
  | _ => ("MeshTurnsModel", "isWrong", "Z", false)
def tyX7 : Nat → FieldType := fun k => match k with
  | 0 => .array .int
  | 1 => .array .int
  | 2 => .array .int
  | 3 => .int
  | 4 => .array .int
  | 5 => .array .boolean
  | 6 => .array .int
  | 7 => .int
  | 8 => .boolean
  | 9 => .array .int
  | 10 => .array .int
  | 11 => .array .boolean
  | 12 => .array .int
  | 13 => .array .boolean
  | 14 => .array .int
  | 15 => .int
  | 16 => .int
  | _ => .boolean
abbrev wsX70 : List Cond := u_ws RX7 TX7 18
theorem nmX7 : ∀ a, a < 18 → ∀ b, b < 18 → a ≠ b → (TX7 a).2.1 ≠ (TX7 b).2.1 := by decide +kernel
theorem tyX7_ok : ∀ k, k < 18 → parseFieldDescriptor (TX7 k).2.2.1 = some (tyX7 k) := by decide +kernel
abbrev cX7_init : ByteArray := prog_9_method_1_code
def yX7_init : MethodName := ⟨RX7, "<init>", "()V"⟩
abbrev cX7_in : ByteArray := prog_9_method_2_code
def yX7_in : MethodName := ⟨RX7, "in", "(III)Z"⟩
abbrev cX7_record : ByteArray := prog_9_method_3_code
def yX7_record : MethodName := ⟨RX7, "record", "()V"⟩
abbrev cX7_keep : ByteArray := prog_9_method_4_code
def yX7_keep : MethodName := ⟨RX7, "keep", "()V"⟩
abbrev cX7_comeBack : ByteArray := prog_9_method_5_code
def yX7_comeBack : MethodName := ⟨RX7, "comeBack", "()V"⟩
abbrev cX7_boxes : ByteArray := prog_9_method_6_code
def yX7_boxes : MethodName := ⟨RX7, "boxes", "()I"⟩
abbrev cX7_isBox : ByteArray := prog_9_method_7_code
def yX7_isBox : MethodName := ⟨RX7, "isBox", "(I)Z"⟩
abbrev cX7_beside : ByteArray := prog_9_method_8_code
def yX7_beside : MethodName := ⟨RX7, "beside", "(II)I"⟩
abbrev cX7_linkOf : ByteArray := prog_9_method_9_code
def yX7_linkOf : MethodName := ⟨RX7, "linkOf", "(II)I"⟩
abbrev cX7_isWhole : ByteArray := prog_9_method_10_code
def yX7_isWhole : MethodName := ⟨RX7, "isWhole", "(II)Z"⟩
abbrev cX7_set : ByteArray := prog_9_method_11_code
def yX7_set : MethodName := ⟨RX7, "set", "(II)I"⟩
abbrev cX7_mesh : ByteArray := prog_9_method_12_code
def yX7_mesh : MethodName := ⟨RX7, "mesh", "(II)I"⟩
abbrev cX7_link : ByteArray := prog_9_method_13_code
def yX7_link : MethodName := ⟨RX7, "link", "(III)I"⟩
abbrev cX7_forget : ByteArray := prog_9_method_14_code
def yX7_forget : MethodName := ⟨RX7, "forget", "()V"⟩
abbrev cX7_apart : ByteArray := prog_9_method_15_code
def yX7_apart : MethodName := ⟨RX7, "apart", "(II)I"⟩
abbrev cX7_isDetour : ByteArray := prog_9_method_16_code
def yX7_isDetour : MethodName := ⟨RX7, "isDetour", "(III)Z"⟩
abbrev cX7_moved : ByteArray := prog_9_method_17_code
def yX7_moved : MethodName := ⟨RX7, "moved", "(III)I"⟩
abbrev cX7_layFar : ByteArray := prog_9_method_18_code
def yX7_layFar : MethodName := ⟨RX7, "layFar", "(I)V"⟩
abbrev cX7_farOf : ByteArray := prog_9_method_19_code
def yX7_farOf : MethodName := ⟨RX7, "farOf", "(II)I"⟩
abbrev cX7_isPacket : ByteArray := prog_9_method_20_code
def yX7_isPacket : MethodName := ⟨RX7, "isPacket", "(I)Z"⟩
abbrev cX7_of : ByteArray := prog_9_method_21_code
def yX7_of : MethodName := ⟨RX7, "of", "(II)I"⟩
abbrev cX7_book : ByteArray := prog_9_method_22_code
def yX7_book : MethodName := ⟨RX7, "book", "(III)V"⟩
abbrev cX7_standing : ByteArray := prog_9_method_23_code
def yX7_standing : MethodName := ⟨RX7, "standing", "(I)I"⟩
abbrev cX7_lengthOf : ByteArray := prog_9_method_24_code
def yX7_lengthOf : MethodName := ⟨RX7, "lengthOf", "(I)I"⟩
abbrev cX7_laySides : ByteArray := prog_9_method_25_code
def yX7_laySides : MethodName := ⟨RX7, "laySides", "(I)I"⟩
abbrev cX7_insideOf : ByteArray := prog_9_method_26_code
def yX7_insideOf : MethodName := ⟨RX7, "insideOf", "(I)I"⟩
abbrev cX7_hasRoom : ByteArray := prog_9_method_27_code
def yX7_hasRoom : MethodName := ⟨RX7, "hasRoom", "(I)Z"⟩
abbrev cX7_send : ByteArray := prog_9_method_28_code
def yX7_send : MethodName := ⟨RX7, "send", "(II)I"⟩
abbrev cX7_goesTo : ByteArray := prog_9_method_29_code
def yX7_goesTo : MethodName := ⟨RX7, "goesTo", "(I)I"⟩
abbrev cX7_move : ByteArray := prog_9_method_30_code
def yX7_move : MethodName := ⟨RX7, "move", "(II)V"⟩
abbrev cX7_pass : ByteArray := prog_9_method_31_code
def yX7_pass : MethodName := ⟨RX7, "pass", "()V"⟩
abbrev cX7_ticks : ByteArray := prog_9_method_32_code
def yX7_ticks : MethodName := ⟨RX7, "ticks", "(I)I"⟩
abbrev cX7_isFree : ByteArray := prog_9_method_33_code
def yX7_isFree : MethodName := ⟨RX7, "isFree", "(I)Z"⟩
abbrev cX7_layStuck : ByteArray := prog_9_method_34_code
def yX7_layStuck : MethodName := ⟨RX7, "layStuck", "()I"⟩
abbrev cX7_ofPacket : ByteArray := prog_9_method_35_code
def yX7_ofPacket : MethodName := ⟨RX7, "ofPacket", "(II)I"⟩
abbrev cX7_packetsOf : ByteArray := prog_9_method_36_code
def yX7_packetsOf : MethodName := ⟨RX7, "packetsOf", "(II)I"⟩
abbrev cX7_ofBox : ByteArray := prog_9_method_37_code
def yX7_ofBox : MethodName := ⟨RX7, "ofBox", "(II)I"⟩
abbrev cX7_sum : ByteArray := prog_9_method_38_code
def yX7_sum : MethodName := ⟨RX7, "sum", "(I)I"⟩
abbrev cX7_broken : ByteArray := prog_9_method_39_code
def yX7_broken : MethodName := ⟨RX7, "broken", "()I"⟩
abbrev cX7_count : ByteArray := prog_9_method_40_code
def yX7_count : MethodName := ⟨RX7, "count", "(I)I"⟩
abbrev cX7_leastWay : ByteArray := prog_9_method_41_code
def yX7_leastWay : MethodName := ⟨RX7, "leastWay", "(II)I"⟩
abbrev cX7_ways : ByteArray := prog_9_method_42_code
def yX7_ways : MethodName := ⟨RX7, "ways", "(II)I"⟩
abbrev cX7_pairsNow : ByteArray := prog_9_method_43_code
def yX7_pairsNow : MethodName := ⟨RX7, "pairsNow", "()I"⟩
abbrev cX7_pairs : ByteArray := prog_9_method_44_code
def yX7_pairs : MethodName := ⟨RX7, "pairs", "()I"⟩
abbrev cX7_worstLink : ByteArray := prog_9_method_45_code
def yX7_worstLink : MethodName := ⟨RX7, "worstLink", "(I)I"⟩
abbrev cX7_busiest : ByteArray := prog_9_method_46_code
def yX7_busiest : MethodName := ⟨RX7, "busiest", "(I)I"⟩
abbrev cX7_arrivesIn : ByteArray := prog_9_method_47_code
def yX7_arrivesIn : MethodName := ⟨RX7, "arrivesIn", "(I)I"⟩
abbrev cX7_arrivedBy : ByteArray := prog_9_method_48_code
def yX7_arrivedBy : MethodName := ⟨RX7, "arrivedBy", "(I)I"⟩
abbrev cX7_sign : ByteArray := prog_9_method_49_code
def yX7_sign : MethodName := ⟨RX7, "sign", "()I"⟩
abbrev cX7_number : ByteArray := prog_9_method_50_code
def yX7_number : MethodName := ⟨RX7, "number", "()I"⟩
abbrev cX7_side : ByteArray := prog_9_method_51_code
def yX7_side : MethodName := ⟨RX7, "side", "()I"⟩
abbrev cX7_readOne : ByteArray := prog_9_method_52_code
def yX7_readOne : MethodName := ⟨RX7, "readOne", "()V"⟩
abbrev cX7_faultOf : ByteArray := prog_9_method_53_code
def yX7_faultOf : MethodName := ⟨RX7, "faultOf", "()I"⟩
abbrev cX7_put : ByteArray := prog_9_method_54_code
def yX7_put : MethodName := ⟨RX7, "put", "(J)I"⟩
abbrev cX7_wipe : ByteArray := prog_9_method_55_code
def yX7_wipe : MethodName := ⟨RX7, "wipe", "()I"⟩
abbrev cX7_fault : ByteArray := prog_9_method_56_code
def yX7_fault : MethodName := ⟨RX7, "fault", "()I"⟩
abbrev cX7_carry : ByteArray := prog_9_method_57_code
def yX7_carry : MethodName := ⟨RX7, "carry", "(I)I"⟩
abbrev cX7_carryOut : ByteArray := prog_9_method_58_code
def yX7_carryOut : MethodName := ⟨RX7, "carryOut", "()I"⟩
abbrev cX7_undo : ByteArray := prog_9_method_59_code
def yX7_undo : MethodName := ⟨RX7, "undo", "()I"⟩
abbrev cX7_save : ByteArray := prog_9_method_60_code
def yX7_save : MethodName := ⟨RX7, "save", "(I)I"⟩
abbrev cX7_restore : ByteArray := prog_9_method_61_code
def yX7_restore : MethodName := ⟨RX7, "restore", "(I)I"⟩
def RJ13 : String := "java/lang/Long"
def TJ13 : u_T := fun k => match k with
  | _ => ("", "", "", false)
def tyJ13 : Nat → FieldType := fun k => match k with
  | _ => .int
abbrev wsJ130 : List Cond := u_ws RJ13 TJ13 0
theorem nmJ13 : ∀ a, a < 0 → ∀ b, b < 0 → a ≠ b → (TJ13 a).2.1 ≠ (TJ13 b).2.1 := by decide +kernel
theorem tyJ13_ok : ∀ k, k < 0 → parseFieldDescriptor (TJ13 k).2.2.1 = some (tyJ13 k) := by decide +kernel
abbrev cJ13_bitCount_95d88 : ByteArray := prog_10_method_50_code
def yJ13_bitCount_95d88 : MethodName := ⟨RJ13, "bitCount", "(J)I"⟩
def RJ9 : String := "java/lang/Math"
def TJ9 : u_T := fun k => match k with
  | _ => ("", "", "", false)
def tyJ9 : Nat → FieldType := fun k => match k with
  | _ => .int
abbrev wsJ90 : List Cond := u_ws RJ9 TJ9 0
theorem nmJ9 : ∀ a, a < 0 → ∀ b, b < 0 → a ≠ b → (TJ9 a).2.1 ≠ (TJ9 b).2.1 := by decide +kernel
theorem tyJ9_ok : ∀ k, k < 0 → parseFieldDescriptor (TJ9 k).2.2.1 = some (tyJ9 k) := by decide +kernel
abbrev cJ9_abs_0f7a4 : ByteArray := prog_11_method_59_code
def yJ9_abs_0f7a4 : MethodName := ⟨RJ9, "abs", "(I)I"⟩
abbrev cJ9_max_7cf53 : ByteArray := prog_11_method_65_code
def yJ9_max_7cf53 : MethodName := ⟨RJ9, "max", "(II)I"⟩
abbrev cJ9_min_7cf53 : ByteArray := prog_11_method_69_code
def yJ9_min_7cf53 : MethodName := ⟨RJ9, "min", "(II)I"⟩
def RJ10 : String := "java/lang/System"
def TJ10 : u_T := fun k => match k with
  | _ => ("", "", "", false)
def tyJ10 : Nat → FieldType := fun k => match k with
  | _ => .int
abbrev wsJ100 : List Cond := u_ws RJ10 TJ10 0
theorem nmJ10 : ∀ a, a < 0 → ∀ b, b < 0 → a ≠ b → (TJ10 a).2.1 ≠ (TJ10 b).2.1 := by decide +kernel
theorem tyJ10_ok : ∀ k, k < 0 → parseFieldDescriptor (TJ10 k).2.2.1 = some (tyJ10 k) := by decide +kernel
def RL : String := "MeshTurnsLaw"
abbrev cL_law : ByteArray := code
def yL_law : MethodName := ⟨RL, "law", "([I)Z"⟩
abbrev vwCl : List vw_C := [(RX0, TX0, 3), (RX1, TX1, 1), (RX2, TX2, 11), (RX3, TX3, 7), (RX4, TX4, 6), (RX5, TX5, 6), (RX6, TX6, 10), (RX7, TX7, 18)]
def wsL_law_r1 : List Cond := [Cond.classLink RL 7 RX6, Cond.instantiable RX6 10, Cond.initialized RX6, Cond.classLink RL 10 RX7, Cond.instantiable RX7 18, Cond.initialized RX7, Cond.constantLong RL 77 (4294967295), Cond.methodLink RL 9 yX6_init, Cond.instanceMethod yX6_init, Cond.code yX6_init cX6_init 2 none, Cond.methodLink RX6 3 objectInit, Cond.instanceMethod objectInit, Cond.code objectInit ⟨#[0xb1]⟩ 1 none, Cond.classLink RX6 9 RX5, Cond.instantiable RX5 6, Cond.initialized RX5, Cond.fieldLink RX6 12 "MeshTurns" "now" "LMeshTurns$State;", Cond.classLink RX6 16 RX4, Cond.instantiable RX4 6, Cond.initialized RX4, Cond.fieldLink RX6 19 "MeshTurns" "routes" "LMeshTurns$Routes;", Cond.fieldLink RX6 23 "MeshTurns" "trial" "LMeshTurns$State;", Cond.fieldLink RX6 26 "MeshTurns" "trialRoutes" "LMeshTurns$Routes;", Cond.classLink RX6 29 RX1]
def wsL_law_r2 : List Cond := [Cond.instantiable RX1 1, Cond.initialized RX1, Cond.fieldLink RX6 32 "MeshTurns" "jam" "LMeshTurns$Jam;", Cond.classLink RX6 36 RX3, Cond.instantiable RX3 7, Cond.initialized RX3, Cond.fieldLink RX6 39 "MeshTurns" "pad" "LMeshTurns$Pad;", Cond.fieldLink RX6 43 "MeshTurns" "history" "[LMeshTurns$State;", Cond.fieldLink RX6 47 "MeshTurns" "undoable" "I", Cond.fieldLink RX6 51 "MeshTurns" "slots" "[LMeshTurns$State;", Cond.arrayClass .boolean, Cond.fieldLink RX6 54 "MeshTurns" "slotIsUsed" "[Z", Cond.instanceMethod yX5_init, Cond.code yX5_init cX5_init 1 none, Cond.methodLink RX5 3 objectInit, Cond.arrayClass .int, Cond.fieldLink RX5 9 "MeshTurns$State" "settings" "[I", Cond.classLink RX5 15 RX0, Cond.instantiable RX0 3, Cond.initialized RX0, Cond.fieldLink RX5 18 "MeshTurns$State" "grid" "LMeshTurns$Grid;", Cond.classLink RX5 22 RX2, Cond.instantiable RX2 11, Cond.initialized RX2]
def wsL_law_r3 : List Cond := [Cond.fieldLink RX5 25 "MeshTurns$State" "packets" "LMeshTurns$Packets;", Cond.fieldLink RX5 29 "MeshTurns$State" "inside" "[I", Cond.fieldLink RX5 32 "MeshTurns$State" "movesFrom" "[I", Cond.fieldLink RX5 35 "MeshTurns$State" "tick" "I", Cond.instanceMethod yX0_init, Cond.code yX0_init cX0_init 1 none, Cond.methodLink RX0 3 objectInit, Cond.fieldLink RX0 9 "MeshTurns$Grid" "columns" "I", Cond.fieldLink RX0 15 "MeshTurns$Grid" "rows" "I", Cond.fieldLink RX0 18 "MeshTurns$Grid" "broken" "J", Cond.instanceMethod yX2_init, Cond.code yX2_init cX2_init 1 none, Cond.methodLink RX2 3 objectInit, Cond.fieldLink RX2 9 "MeshTurns$Packets" "sent" "I", Cond.fieldLink RX2 15 "MeshTurns$Packets" "from" "[I", Cond.fieldLink RX2 19 "MeshTurns$Packets" "to" "[I", Cond.fieldLink RX2 22 "MeshTurns$Packets" "place" "[I", Cond.fieldLink RX2 25 "MeshTurns$Packets" "box" "[I", Cond.fieldLink RX2 28 "MeshTurns$Packets" "moves" "[I", Cond.fieldLink RX2 31 "MeshTurns$Packets" "detours" "[I", Cond.fieldLink RX2 34 "MeshTurns$Packets" "waits" "[I", Cond.fieldLink RX2 37 "MeshTurns$Packets" "sentIn" "[I", Cond.fieldLink RX2 40 "MeshTurns$Packets" "arrivedIn" "[I", Cond.fieldLink RX2 43 "MeshTurns$Packets" "turned" "[I"]
def wsL_law_r4 : List Cond := [Cond.instanceMethod yX4_init, Cond.code yX4_init cX4_init 1 none, Cond.methodLink RX4 3 objectInit, Cond.fieldLink RX4 9 "MeshTurns$Routes" "eastIsFirst" "Z", Cond.fieldLink RX4 15 "MeshTurns$Routes" "open" "[I", Cond.fieldLink RX4 19 "MeshTurns$Routes" "lengths" "[I", Cond.fieldLink RX4 22 "MeshTurns$Routes" "numbers" "[I", Cond.fieldLink RX4 25 "MeshTurns$Routes" "queue" "[I", Cond.fieldLink RX4 28 "MeshTurns$Routes" "queued" "I", Cond.instanceMethod yX1_init, Cond.code yX1_init cX1_init 1 none, Cond.methodLink RX1 3 objectInit, Cond.fieldLink RX1 9 "MeshTurns$Jam" "stuck" "[Z", Cond.instanceMethod yX3_init, Cond.code yX3_init cX3_init 1 none, Cond.methodLink RX3 5 objectInit, Cond.arrayClass .char, Cond.fieldLink RX3 11 "MeshTurns$Pad" "signs" "[C", Cond.fieldLink RX3 15 "MeshTurns$Pad" "length" "I", Cond.fieldLink RX3 19 "MeshTurns$Pad" "orders" "I", Cond.fieldLink RX3 22 "MeshTurns$Pad" "kinds" "[I", Cond.fieldLink RX3 26 "MeshTurns$Pad" "firsts" "[I", Cond.fieldLink RX3 29 "MeshTurns$Pad" "seconds" "[I", Cond.fieldLink RX3 32 "MeshTurns$Pad" "place" "I"]
def wsL_law_r5 : List Cond := [Cond.methodLink RX6 58 yX6_learnRoutes, Cond.instanceMethod yX6_learnRoutes, Cond.selects RX6 yX6_learnRoutes yX6_learnRoutes, Cond.code yX6_learnRoutes cX6_learnRoutes 1 none, Cond.fieldLink RX6 88 "MeshTurns$State" "grid" "LMeshTurns$Grid;", Cond.fieldLink RX6 71 "MeshTurns$State" "settings" "[I", Cond.methodLink RX6 257 yX4_learn, Cond.instanceMethod yX4_learn, Cond.selects RX4 yX4_learn yX4_learn, Cond.code yX4_learn cX4_learn 8 none, Cond.methodLink RX4 32 yX0_boxes, Cond.instanceMethod yX0_boxes, Cond.selects RX0 yX0_boxes yX0_boxes, Cond.code yX0_boxes cX0_boxes 1 (some .int), Cond.methodLink RX4 38 yX0_linkAt, Cond.instanceMethod yX0_linkAt, Cond.selects RX0 yX0_linkAt yX0_linkAt, Cond.code yX0_linkAt cX0_linkAt 4 (some .int), Cond.methodLink RX0 32 Lib.Math.min.name, Cond.static Lib.Math.min.name, Cond.initialized "java/lang/Math", Cond.code Lib.Math.min.name Lib.Math.min.code 2 (some .int), Cond.methodLink RX0 28 yX0_beside, Cond.instanceMethod yX0_beside]
def wsL_law_r6 : List Cond := [Cond.selects RX0 yX0_beside yX0_beside, Cond.code yX0_beside cX0_beside 5 (some .int), Cond.methodLink RX4 42 yX0_isWhole, Cond.instanceMethod yX0_isWhole, Cond.selects RX0 yX0_isWhole yX0_isWhole, Cond.code yX0_isWhole cX0_isWhole 2 (some .boolean), Cond.methodLink RX4 46 yX0_beside, Cond.methodLink RX4 49 yX4_search, Cond.instanceMethod yX4_search, Cond.selects RX4 yX4_search yX4_search, Cond.code yX4_search cX4_search 3 none, Cond.methodLink RX4 53 yX4_spot, Cond.static yX4_spot, Cond.code yX4_spot cX4_spot 2 (some .int), Cond.methodLink RX4 67 yX4_reach, Cond.instanceMethod yX4_reach, Cond.selects RX4 yX4_reach yX4_reach, Cond.code yX4_reach cX4_reach 6 none, Cond.methodLink RX4 71 yX4_stepBack, Cond.instanceMethod yX4_stepBack, Cond.selects RX4 yX4_stepBack yX4_stepBack, Cond.code yX4_stepBack cX4_stepBack 9 none, Cond.methodLink RX4 56 yX4_boxBehind, Cond.instanceMethod yX4_boxBehind]
def wsL_law_r7 : List Cond := [Cond.selects RX4 yX4_boxBehind yX4_boxBehind, Cond.code yX4_boxBehind cX4_boxBehind 4 (some .int), Cond.methodLink RX4 59 yX4_mayMove, Cond.instanceMethod yX4_mayMove, Cond.selects RX4 yX4_mayMove yX4_mayMove, Cond.code yX4_mayMove cX4_mayMove 3 (some .boolean), Cond.methodLink RX4 75 yX4_opposite, Cond.static yX4_opposite, Cond.code yX4_opposite cX4_opposite 1 (some .int), Cond.methodLink RL 12 yX7_init, Cond.instanceMethod yX7_init, Cond.code yX7_init cX7_init 1 none, Cond.methodLink RX7 1 objectInit, Cond.fieldLink RX7 7 "MeshTurnsModel" "now" "[I", Cond.fieldLink RX7 13 "MeshTurnsModel" "kept" "[I", Cond.fieldLink RX7 16 "MeshTurnsModel" "history" "[I", Cond.fieldLink RX7 19 "MeshTurnsModel" "saved" "[I", Cond.fieldLink RX7 22 "MeshTurnsModel" "isSaved" "[Z", Cond.fieldLink RX7 26 "MeshTurnsModel" "pad" "[I", Cond.fieldLink RX7 29 "MeshTurnsModel" "far" "[I", Cond.fieldLink RX7 32 "MeshTurnsModel" "many" "[I", Cond.fieldLink RX7 35 "MeshTurnsModel" "isLaid" "[Z", Cond.fieldLink RX7 38 "MeshTurnsModel" "sides" "[I", Cond.fieldLink RX7 41 "MeshTurnsModel" "isStuck" "[Z"]
def wsL_law_r8 : List Cond := [Cond.fieldLink RX7 44 "MeshTurnsModel" "orders" "[I", Cond.methodLink RL 13 yX6_set, Cond.instanceMethod yX6_set, Cond.selects RX6 yX6_set yX6_set, Cond.code yX6_set cX6_set 4 (some .int), Cond.methodLink RX6 61 yX6_leastOfSetting, Cond.static yX6_leastOfSetting, Cond.code yX6_leastOfSetting cX6_leastOfSetting 1 (some .int), Cond.methodLink RX6 65 yX6_mostOfSetting, Cond.static yX6_mostOfSetting, Cond.code yX6_mostOfSetting cX6_mostOfSetting 1 (some .int), Cond.methodLink RX6 68 yX6_recordState, Cond.instanceMethod yX6_recordState, Cond.selects RX6 yX6_recordState yX6_recordState, Cond.code yX6_recordState cX6_recordState 1 none, Cond.methodLink RX6 280 yX6_dropOldestState, Cond.instanceMethod yX6_dropOldestState, Cond.selects RX6 yX6_dropOldestState yX6_dropOldestState, Cond.code yX6_dropOldestState cX6_dropOldestState 3 none, Cond.methodLink RX6 224 yX5_copyState, Cond.static yX5_copyState, Cond.code yX5_copyState cX5_copyState 2 none, Cond.methodLink RX5 39 arraycopyName, Cond.native arraycopyName]
def wsL_law_r9 : List Cond := [Cond.static arraycopyName, Cond.initialized "java/lang/System", Cond.methodLink RX5 45 yX0_copyGrid, Cond.instanceMethod yX0_copyGrid, Cond.selects RX0 yX0_copyGrid yX0_copyGrid, Cond.code yX0_copyGrid cX0_copyGrid 2 none, Cond.methodLink RX5 49 yX2_copyPackets, Cond.instanceMethod yX2_copyPackets, Cond.selects RX2 yX2_copyPackets yX2_copyPackets, Cond.code yX2_copyPackets cX2_copyPackets 2 none, Cond.methodLink RX2 46 arraycopyName, Cond.methodLink RL 17 yX7_set, Cond.instanceMethod yX7_set, Cond.selects RX7 yX7_set yX7_set, Cond.code yX7_set cX7_set 6 (some .int), Cond.methodLink RX7 59 yX7_in, Cond.static yX7_in, Cond.code yX7_in cX7_in 3 (some .boolean), Cond.methodLink RX7 70 yX7_record, Cond.instanceMethod yX7_record, Cond.selects RX7 yX7_record yX7_record, Cond.code yX7_record cX7_record 2 none, Cond.fieldLink RX7 47 "MeshTurnsModel" "isInText" "Z", Cond.fieldLink RX7 51 "MeshTurnsModel" "undos" "I"]
def wsL_law_r10 : List Cond := [Cond.methodLink RX7 73 yX7_forget, Cond.instanceMethod yX7_forget, Cond.selects RX7 yX7_forget yX7_forget, Cond.code yX7_forget cX7_forget 2 none, Cond.methodLink RL 18 yX6_mesh, Cond.instanceMethod yX6_mesh, Cond.selects RX6 yX6_mesh yX6_mesh, Cond.code yX6_mesh cX6_mesh 3 (some .int), Cond.fieldLink RX6 79 "MeshTurns$State" "packets" "LMeshTurns$Packets;", Cond.fieldLink RX6 83 "MeshTurns$Packets" "sent" "I", Cond.methodLink RX6 75 yX6_isLine, Cond.static yX6_isLine, Cond.code yX6_isLine cX6_isLine 1 (some .boolean), Cond.methodLink RX6 92 yX0_layOut, Cond.instanceMethod yX0_layOut, Cond.selects RX0 yX0_layOut yX0_layOut, Cond.code yX0_layOut cX0_layOut 3 none, Cond.methodLink RX6 98 yX0_boxes, Cond.methodLink RL 21 yX7_mesh, Cond.instanceMethod yX7_mesh, Cond.selects RX7 yX7_mesh yX7_mesh, Cond.code yX7_mesh cX7_mesh 4 (some .int), Cond.methodLink RX7 55 yX7_boxes, Cond.instanceMethod yX7_boxes]
def wsL_law_r11 : List Cond := [Cond.selects RX7 yX7_boxes yX7_boxes, Cond.code yX7_boxes cX7_boxes 1 (some .int), Cond.methodLink RL 22 yX6_link, Cond.instanceMethod yX6_link, Cond.selects RX6 yX6_link yX6_link, Cond.code yX6_link cX6_link 5 (some .int), Cond.methodLink RX6 102 yX6_linkError, Cond.instanceMethod yX6_linkError, Cond.selects RX6 yX6_linkError yX6_linkError, Cond.code yX6_linkError cX6_linkError 4 (some .int), Cond.methodLink RX6 171 yX0_has, Cond.instanceMethod yX0_has, Cond.selects RX0 yX0_has yX0_has, Cond.code yX0_has cX0_has 2 (some .boolean), Cond.methodLink RX6 251 yX6_isSide, Cond.static yX6_isSide, Cond.code yX6_isSide cX6_isSide 1 (some .boolean), Cond.methodLink RX6 254 yX0_beside, Cond.methodLink RX6 106 yX6_changeLink, Cond.instanceMethod yX6_changeLink, Cond.selects RX6 yX6_changeLink yX6_changeLink, Cond.code yX6_changeLink cX6_changeLink 6 (some .int), Cond.methodLink RX6 261 yX0_linkAt, Cond.methodLink RX6 264 yX0_isWhole]
def wsL_law_r12 : List Cond := [Cond.methodLink RX6 267 yX0_makeWhole, Cond.instanceMethod yX0_makeWhole, Cond.selects RX0 yX0_makeWhole yX0_makeWhole, Cond.code yX0_makeWhole cX0_makeWhole 5 none, Cond.constantLong RX0 41 (-1), Cond.methodLink RL 26 yX7_link, Cond.instanceMethod yX7_link, Cond.selects RX7 yX7_link yX7_link, Cond.code yX7_link cX7_link 6 (some .int), Cond.methodLink RX7 76 yX7_isBox, Cond.instanceMethod yX7_isBox, Cond.selects RX7 yX7_isBox yX7_isBox, Cond.code yX7_isBox cX7_isBox 2 (some .boolean), Cond.methodLink RX7 63 yX7_beside, Cond.instanceMethod yX7_beside, Cond.selects RX7 yX7_beside yX7_beside, Cond.code yX7_beside cX7_beside 6 (some .int), Cond.methodLink RX7 67 yX7_linkOf, Cond.instanceMethod yX7_linkOf, Cond.selects RX7 yX7_linkOf yX7_linkOf, Cond.code yX7_linkOf cX7_linkOf 4 (some .int), Cond.methodLink RL 27 yX6_send, Cond.instanceMethod yX6_send, Cond.selects RX6 yX6_send yX6_send]
def wsL_law_r13 : List Cond := [Cond.code yX6_send cX6_send 4 (some .int), Cond.fieldLink RX6 113 "MeshTurns$State" "tick" "I", Cond.methodLink RX6 109 yX6_sendError, Cond.instanceMethod yX6_sendError, Cond.selects RX6 yX6_sendError yX6_sendError, Cond.code yX6_sendError cX6_sendError 3 (some .int), Cond.methodLink RX6 201 yX5_wayLength, Cond.instanceMethod yX5_wayLength, Cond.selects RX5 yX5_wayLength yX5_wayLength, Cond.code yX5_wayLength cX5_wayLength 5 (some .int), Cond.methodLink RX5 53 yX4_length, Cond.instanceMethod yX4_length, Cond.selects RX4 yX4_length yX4_length, Cond.code yX4_length cX4_length 5 (some .int), Cond.methodLink RX5 59 yX0_distance, Cond.instanceMethod yX0_distance, Cond.selects RX0 yX0_distance yX0_distance, Cond.code yX0_distance cX0_distance 3 (some .int), Cond.methodLink RX0 22 Lib.Math.abs.name, Cond.static Lib.Math.abs.name, Cond.code Lib.Math.abs.name Lib.Math.abs.code 1 (some .int), Cond.methodLink RX6 116 yX2_add, Cond.instanceMethod yX2_add, Cond.selects RX2 yX2_add yX2_add]
def wsL_law_r14 : List Cond := [Cond.code yX2_add cX2_add 5 (some .int), Cond.methodLink RL 30 yX7_send, Cond.instanceMethod yX7_send, Cond.selects RX7 yX7_send yX7_send, Cond.code yX7_send cX7_send 5 (some .int), Cond.methodLink RX7 105 yX7_farOf, Cond.instanceMethod yX7_farOf, Cond.selects RX7 yX7_farOf yX7_farOf, Cond.code yX7_farOf cX7_farOf 3 (some .int), Cond.methodLink RX7 94 yX7_layFar, Cond.instanceMethod yX7_layFar, Cond.selects RX7 yX7_layFar yX7_layFar, Cond.code yX7_layFar cX7_layFar 10 none, Cond.methodLink RX7 90 yX7_moved, Cond.instanceMethod yX7_moved, Cond.selects RX7 yX7_moved yX7_moved, Cond.code yX7_moved cX7_moved 9 (some .int), Cond.methodLink RX7 83 yX7_isWhole, Cond.instanceMethod yX7_isWhole, Cond.selects RX7 yX7_isWhole yX7_isWhole, Cond.code yX7_isWhole cX7_isWhole 3 (some .boolean), Cond.methodLink RX7 87 yX7_isDetour, Cond.instanceMethod yX7_isDetour, Cond.selects RX7 yX7_isDetour yX7_isDetour]
def wsL_law_r15 : List Cond := [Cond.code yX7_isDetour cX7_isDetour 4 (some .boolean), Cond.methodLink RX7 80 yX7_apart, Cond.instanceMethod yX7_apart, Cond.selects RX7 yX7_apart yX7_apart, Cond.code yX7_apart cX7_apart 5 (some .int), Cond.methodLink RX7 111 yX7_book, Cond.instanceMethod yX7_book, Cond.selects RX7 yX7_book yX7_book, Cond.code yX7_book cX7_book 4 none, Cond.methodLink RL 31 yX6_ticks, Cond.instanceMethod yX6_ticks, Cond.selects RX6 yX6_ticks yX6_ticks, Cond.code yX6_ticks cX6_ticks 2 (some .int), Cond.methodLink RX6 119 yX6_isTicks, Cond.static yX6_isTicks, Cond.code yX6_isTicks cX6_isTicks 1 (some .boolean), Cond.methodLink RX6 122 yX5_passTicks, Cond.instanceMethod yX5_passTicks, Cond.selects RX5 yX5_passTicks yX5_passTicks, Cond.code yX5_passTicks cX5_passTicks 7 none, Cond.fieldLink RX5 110 "MeshTurns$Packets" "sent" "I", Cond.fieldLink RX5 88 "MeshTurns$Packets" "place" "[I", Cond.fieldLink RX5 120 "MeshTurns$Packets" "waits" "[I", Cond.methodLink RX5 113 yX5_comesInside]
def wsL_law_r16 : List Cond := [Cond.instanceMethod yX5_comesInside, Cond.selects RX5 yX5_comesInside yX5_comesInside, Cond.code yX5_comesInside cX5_comesInside 3 (some .boolean), Cond.fieldLink RX5 63 "MeshTurns$Packets" "box" "[I", Cond.methodLink RX5 98 yX5_hasRoom, Cond.instanceMethod yX5_hasRoom, Cond.selects RX5 yX5_hasRoom yX5_hasRoom, Cond.code yX5_hasRoom cX5_hasRoom 2 (some .boolean), Cond.methodLink RX5 116 yX5_movesOn, Cond.instanceMethod yX5_movesOn, Cond.selects RX5 yX5_movesOn yX5_movesOn, Cond.code yX5_movesOn cX5_movesOn 7 (some .boolean), Cond.fieldLink RX5 69 "MeshTurns$Packets" "to" "[I", Cond.fieldLink RX5 131 "MeshTurns$Packets" "arrivedIn" "[I", Cond.methodLink RX5 123 yX5_firstSide, Cond.instanceMethod yX5_firstSide, Cond.selects RX5 yX5_firstSide yX5_firstSide, Cond.code yX5_firstSide cX5_firstSide 9 (some .int), Cond.fieldLink RX5 66 "MeshTurns$Packets" "turned" "[I", Cond.methodLink RX5 72 yX5_mostMoves, Cond.instanceMethod yX5_mostMoves, Cond.selects RX5 yX5_mostMoves yX5_mostMoves, Cond.code yX5_mostMoves cX5_mostMoves 3 (some .int), Cond.fieldLink RX5 76 "MeshTurns$Packets" "detours" "[I"]
def wsL_law_r17 : List Cond := [Cond.methodLink RX5 79 Lib.Math.max.name, Cond.static Lib.Math.max.name, Cond.code Lib.Math.max.name Lib.Math.max.code 2 (some .int), Cond.methodLink RX5 84 yX4_lengthAfter, Cond.instanceMethod yX4_lengthAfter, Cond.selects RX4 yX4_lengthAfter yX4_lengthAfter, Cond.code yX4_lengthAfter cX4_lengthAfter 6 (some .int), Cond.methodLink RX4 63 yX4_length, Cond.methodLink RX5 91 yX4_boxBehind, Cond.methodLink RX5 94 yX5_letsIn, Cond.instanceMethod yX5_letsIn, Cond.selects RX5 yX5_letsIn yX5_letsIn, Cond.code yX5_letsIn cX5_letsIn 3 (some .boolean), Cond.methodLink RX5 127 yX2_noteMove, Cond.instanceMethod yX2_noteMove, Cond.selects RX2 yX2_noteMove yX2_noteMove, Cond.code yX2_noteMove cX2_noteMove 5 none, Cond.methodLink RL 35 yX7_ticks, Cond.instanceMethod yX7_ticks, Cond.selects RX7 yX7_ticks yX7_ticks, Cond.code yX7_ticks cX7_ticks 3 (some .int), Cond.methodLink RX7 128 yX7_pass, Cond.instanceMethod yX7_pass, Cond.selects RX7 yX7_pass yX7_pass]
def wsL_law_r18 : List Cond := [Cond.code yX7_pass cX7_pass 3 none, Cond.methodLink RX7 98 yX7_of, Cond.instanceMethod yX7_of, Cond.selects RX7 yX7_of yX7_of, Cond.code yX7_of cX7_of 3 (some .int), Cond.methodLink RX7 118 yX7_hasRoom, Cond.instanceMethod yX7_hasRoom, Cond.selects RX7 yX7_hasRoom yX7_hasRoom, Cond.code yX7_hasRoom cX7_hasRoom 2 (some .boolean), Cond.methodLink RX7 108 yX7_insideOf, Cond.instanceMethod yX7_insideOf, Cond.selects RX7 yX7_insideOf yX7_insideOf, Cond.code yX7_insideOf cX7_insideOf 4 (some .int), Cond.methodLink RX7 121 yX7_goesTo, Cond.instanceMethod yX7_goesTo, Cond.selects RX7 yX7_goesTo yX7_goesTo, Cond.code yX7_goesTo cX7_goesTo 5 (some .int), Cond.methodLink RX7 115 yX7_laySides, Cond.instanceMethod yX7_laySides, Cond.selects RX7 yX7_laySides yX7_laySides, Cond.code yX7_laySides cX7_laySides 8 (some .int), Cond.methodLink RX7 101 yX7_standing, Cond.instanceMethod yX7_standing, Cond.selects RX7 yX7_standing yX7_standing]
def wsL_law_r19 : List Cond := [Cond.code yX7_standing cX7_standing 2 (some .int), Cond.methodLink RX7 124 yX7_move, Cond.instanceMethod yX7_move, Cond.selects RX7 yX7_move yX7_move, Cond.code yX7_move cX7_move 6 none, Cond.methodLink RL 36 yX6_ofPacket, Cond.instanceMethod yX6_ofPacket, Cond.selects RX6 yX6_ofPacket yX6_ofPacket, Cond.code yX6_ofPacket cX6_ofPacket 4 (some .int), Cond.fieldLink RX6 129 "MeshTurns$Packets" "from" "[I", Cond.fieldLink RX6 132 "MeshTurns$Packets" "to" "[I", Cond.fieldLink RX6 135 "MeshTurns$Packets" "place" "[I", Cond.fieldLink RX6 138 "MeshTurns$Packets" "box" "[I", Cond.fieldLink RX6 141 "MeshTurns$Packets" "moves" "[I", Cond.fieldLink RX6 144 "MeshTurns$Packets" "detours" "[I", Cond.fieldLink RX6 147 "MeshTurns$Packets" "waits" "[I", Cond.fieldLink RX6 150 "MeshTurns$Packets" "sentIn" "[I", Cond.fieldLink RX6 153 "MeshTurns$Packets" "arrivedIn" "[I", Cond.fieldLink RX6 156 "MeshTurns$Packets" "turned" "[I", Cond.methodLink RX6 126 yX2_has, Cond.instanceMethod yX2_has, Cond.selects RX2 yX2_has yX2_has, Cond.code yX2_has cX2_has 2 (some .boolean), Cond.methodLink RX6 159 yX5_wayLengthOf]
def wsL_law_r20 : List Cond := [Cond.instanceMethod yX5_wayLengthOf, Cond.selects RX5 yX5_wayLengthOf yX5_wayLengthOf, Cond.code yX5_wayLengthOf cX5_wayLengthOf 4 (some .int), Cond.methodLink RX6 163 yX5_firstSide, Cond.methodLink RX6 167 yX1_holds, Cond.instanceMethod yX1_holds, Cond.selects RX1 yX1_holds yX1_holds, Cond.code yX1_holds cX1_holds 4 (some .boolean), Cond.fieldLink RX1 19 "MeshTurns$State" "packets" "LMeshTurns$Packets;", Cond.methodLink RX1 15 yX1_find, Cond.instanceMethod yX1_find, Cond.selects RX1 yX1_find yX1_find, Cond.code yX1_find cX1_find 7 none, Cond.fieldLink RX1 31 "MeshTurns$Packets" "sent" "I", Cond.fieldLink RX1 35 "MeshTurns$Packets" "place" "[I", Cond.methodLink RX1 39 yX1_canGoOn, Cond.instanceMethod yX1_canGoOn, Cond.selects RX1 yX1_canGoOn yX1_canGoOn, Cond.code yX1_canGoOn cX1_canGoOn 6 (some .boolean), Cond.fieldLink RX1 47 "MeshTurns$Packets" "box" "[I", Cond.methodLink RX1 43 yX5_isPossible, Cond.instanceMethod yX5_isPossible, Cond.selects RX5 yX5_isPossible yX5_isPossible, Cond.code yX5_isPossible cX5_isPossible 4 (some .boolean)]
def wsL_law_r21 : List Cond := [Cond.methodLink RX1 50 yX4_boxBehind, Cond.methodLink RX1 56 yX5_letsIn, Cond.methodLink RX1 60 yX1_hasFreePacket, Cond.instanceMethod yX1_hasFreePacket, Cond.selects RX1 yX1_hasFreePacket yX1_hasFreePacket, Cond.code yX1_hasFreePacket cX1_hasFreePacket 4 (some .boolean), Cond.methodLink RX1 25 yX2_has, Cond.methodLink RL 39 yX7_ofPacket, Cond.instanceMethod yX7_ofPacket, Cond.selects RX7 yX7_ofPacket yX7_ofPacket, Cond.code yX7_ofPacket cX7_ofPacket 3 (some .int), Cond.methodLink RX7 134 yX7_isPacket, Cond.instanceMethod yX7_isPacket, Cond.selects RX7 yX7_isPacket yX7_isPacket, Cond.code yX7_isPacket cX7_isPacket 2 (some .boolean), Cond.methodLink RX7 137 yX7_lengthOf, Cond.instanceMethod yX7_lengthOf, Cond.selects RX7 yX7_lengthOf yX7_lengthOf, Cond.code yX7_lengthOf cX7_lengthOf 2 (some .int), Cond.methodLink RX7 140 yX7_layStuck, Cond.instanceMethod yX7_layStuck, Cond.selects RX7 yX7_layStuck yX7_layStuck, Cond.code yX7_layStuck cX7_layStuck 4 (some .int), Cond.methodLink RX7 131 yX7_isFree]
def wsL_law_r22 : List Cond := [Cond.instanceMethod yX7_isFree, Cond.selects RX7 yX7_isFree yX7_isFree, Cond.code yX7_isFree cX7_isFree 7 (some .boolean), Cond.methodLink RL 40 yX6_ofBox, Cond.instanceMethod yX6_ofBox, Cond.selects RX6 yX6_ofBox yX6_ofBox, Cond.code yX6_ofBox cX6_ofBox 3 (some .int), Cond.fieldLink RX6 178 "MeshTurns$State" "movesFrom" "[I", Cond.methodLink RX6 172 yX2_countAt, Cond.instanceMethod yX2_countAt, Cond.selects RX2 yX2_countAt yX2_countAt, Cond.code yX2_countAt cX2_countAt 5 (some .int), Cond.methodLink RX6 175 yX6_linkState, Cond.instanceMethod yX6_linkState, Cond.selects RX6 yX6_linkState yX6_linkState, Cond.code yX6_linkState cX6_linkState 4 (some .int), Cond.methodLink RL 43 yX7_ofBox, Cond.instanceMethod yX7_ofBox, Cond.selects RX7 yX7_ofBox yX7_ofBox, Cond.code yX7_ofBox cX7_ofBox 3 (some .int), Cond.methodLink RX7 143 yX7_packetsOf, Cond.instanceMethod yX7_packetsOf, Cond.selects RX7 yX7_packetsOf yX7_packetsOf, Cond.code yX7_packetsOf cX7_packetsOf 5 (some .int)]
def wsL_law_r23 : List Cond := [Cond.methodLink RL 44 yX6_count, Cond.instanceMethod yX6_count, Cond.selects RX6 yX6_count yX6_count, Cond.code yX6_count cX6_count 3 (some .int), Cond.fieldLink RX6 181 "MeshTurns$Grid" "columns" "I", Cond.fieldLink RX6 198 "MeshTurns$Pad" "length" "I", Cond.methodLink RX6 184 yX2_countIn, Cond.instanceMethod yX2_countIn, Cond.selects RX2 yX2_countIn yX2_countIn, Cond.code yX2_countIn cX2_countIn 4 (some .int), Cond.methodLink RX6 187 yX2_sum, Cond.instanceMethod yX2_sum, Cond.selects RX2 yX2_sum yX2_sum, Cond.code yX2_sum cX2_sum 4 (some .int), Cond.methodLink RX6 191 yX1_size, Cond.instanceMethod yX1_size, Cond.selects RX1 yX1_size yX1_size, Cond.code yX1_size cX1_size 5 (some .int), Cond.methodLink RX6 195 yX0_brokenLinks, Cond.instanceMethod yX0_brokenLinks, Cond.selects RX0 yX0_brokenLinks yX0_brokenLinks, Cond.code yX0_brokenLinks cX0_brokenLinks 1 (some .int), Cond.methodLink RX0 43 yJ13_bitCount_95d88, Cond.static yJ13_bitCount_95d88]
def wsL_law_r24 : List Cond := [Cond.initialized RJ13, Cond.code yJ13_bitCount_95d88 cJ13_bitCount_95d88 2 (some .int), Cond.constantLong RJ13 314 (6148914691236517205), Cond.constantLong RJ13 316 (3689348814741910323), Cond.constantLong RJ13 318 (1085102592571150095), Cond.methodLink RL 47 yX7_count, Cond.instanceMethod yX7_count, Cond.selects RX7 yX7_count yX7_count, Cond.code yX7_count cX7_count 2 (some .int), Cond.fieldLink RX7 152 "MeshTurnsModel" "signs" "I", Cond.methodLink RX7 146 yX7_sum, Cond.instanceMethod yX7_sum, Cond.selects RX7 yX7_sum yX7_sum, Cond.code yX7_sum cX7_sum 4 (some .int), Cond.methodLink RX7 149 yX7_broken, Cond.instanceMethod yX7_broken, Cond.selects RX7 yX7_broken yX7_broken, Cond.code yX7_broken cX7_broken 3 (some .int), Cond.methodLink RL 48 yX6_leastWay, Cond.instanceMethod yX6_leastWay, Cond.selects RX6 yX6_leastWay yX6_leastWay, Cond.code yX6_leastWay cX6_leastWay 3 (some .int), Cond.methodLink RL 51 yX7_leastWay, Cond.instanceMethod yX7_leastWay]
def wsL_law_r25 : List Cond := [Cond.selects RX7 yX7_leastWay yX7_leastWay, Cond.code yX7_leastWay cX7_leastWay 3 (some .int), Cond.methodLink RL 52 yX6_ways, Cond.instanceMethod yX6_ways, Cond.selects RX6 yX6_ways yX6_ways, Cond.code yX6_ways cX6_ways 3 (some .int), Cond.methodLink RX6 205 yX4_shortestWays, Cond.instanceMethod yX4_shortestWays, Cond.selects RX4 yX4_shortestWays yX4_shortestWays, Cond.code yX4_shortestWays cX4_shortestWays 3 (some .int), Cond.methodLink RL 55 yX7_ways, Cond.instanceMethod yX7_ways, Cond.selects RX7 yX7_ways yX7_ways, Cond.code yX7_ways cX7_ways 3 (some .int), Cond.methodLink RL 56 yX6_pairs, Cond.instanceMethod yX6_pairs, Cond.selects RX6 yX6_pairs yX6_pairs, Cond.code yX6_pairs cX6_pairs 1 (some .int), Cond.methodLink RX6 208 yX5_connectedPairs, Cond.instanceMethod yX5_connectedPairs, Cond.selects RX5 yX5_connectedPairs yX5_connectedPairs, Cond.code yX5_connectedPairs cX5_connectedPairs 6 (some .int), Cond.methodLink RX5 102 yX0_boxes, Cond.methodLink RX5 106 yX5_wayLength]
def wsL_law_r26 : List Cond := [Cond.methodLink RL 60 yX7_pairs, Cond.instanceMethod yX7_pairs, Cond.selects RX7 yX7_pairs yX7_pairs, Cond.code yX7_pairs cX7_pairs 1 (some .int), Cond.methodLink RX7 155 yX7_pairsNow, Cond.instanceMethod yX7_pairsNow, Cond.selects RX7 yX7_pairsNow yX7_pairsNow, Cond.code yX7_pairsNow cX7_pairsNow 4 (some .int), Cond.methodLink RL 61 yX6_worstLink, Cond.instanceMethod yX6_worstLink, Cond.selects RX6 yX6_worstLink yX6_worstLink, Cond.code yX6_worstLink cX6_worstLink 3 (some .int), Cond.methodLink RX6 212 yX6_findWorstLink, Cond.instanceMethod yX6_findWorstLink, Cond.selects RX6 yX6_findWorstLink yX6_findWorstLink, Cond.code yX6_findWorstLink cX6_findWorstLink 5 (some .int), Cond.methodLink RX6 283 yX0_isLink, Cond.instanceMethod yX0_isLink, Cond.selects RX0 yX0_isLink yX0_isLink, Cond.code yX0_isLink cX0_isLink 2 (some .boolean), Cond.methodLink RX0 35 yX0_boxOfLink, Cond.static yX0_boxOfLink, Cond.code yX0_boxOfLink cX0_boxOfLink 1 (some .int), Cond.methodLink RX0 38 yX0_sideOfLink]
def wsL_law_r27 : List Cond := [Cond.static yX0_sideOfLink, Cond.code yX0_sideOfLink cX0_sideOfLink 1 (some .int), Cond.methodLink RX6 221 yX6_pairsWithout, Cond.instanceMethod yX6_pairsWithout, Cond.selects RX6 yX6_pairsWithout yX6_pairsWithout, Cond.code yX6_pairsWithout cX6_pairsWithout 2 (some .int), Cond.methodLink RX6 215 yX0_boxOfLink, Cond.methodLink RX6 218 yX0_sideOfLink, Cond.methodLink RL 64 yX7_worstLink, Cond.instanceMethod yX7_worstLink, Cond.selects RX7 yX7_worstLink yX7_worstLink, Cond.code yX7_worstLink cX7_worstLink 7 (some .int), Cond.methodLink RL 65 yX6_busiest, Cond.instanceMethod yX6_busiest, Cond.selects RX6 yX6_busiest yX6_busiest, Cond.code yX6_busiest cX6_busiest 4 (some .int), Cond.methodLink RL 68 yX7_busiest, Cond.instanceMethod yX7_busiest, Cond.selects RX7 yX7_busiest yX7_busiest, Cond.code yX7_busiest cX7_busiest 4 (some .int), Cond.methodLink RL 69 yX6_arrivesIn, Cond.instanceMethod yX6_arrivesIn, Cond.selects RX6 yX6_arrivesIn yX6_arrivesIn, Cond.code yX6_arrivesIn cX6_arrivesIn 3 (some .int)]
def wsL_law_r28 : List Cond := [Cond.methodLink RL 72 yX7_arrivesIn, Cond.instanceMethod yX7_arrivesIn, Cond.selects RX7 yX7_arrivesIn yX7_arrivesIn, Cond.code yX7_arrivesIn cX7_arrivesIn 4 (some .int), Cond.methodLink RX7 158 yX7_keep, Cond.instanceMethod yX7_keep, Cond.selects RX7 yX7_keep yX7_keep, Cond.code yX7_keep cX7_keep 2 none, Cond.methodLink RX7 161 yX7_comeBack, Cond.instanceMethod yX7_comeBack, Cond.selects RX7 yX7_comeBack yX7_comeBack, Cond.code yX7_comeBack cX7_comeBack 2 none, Cond.methodLink RL 73 yX6_arrivedBy, Cond.instanceMethod yX6_arrivedBy, Cond.selects RX6 yX6_arrivedBy yX6_arrivedBy, Cond.code yX6_arrivedBy cX6_arrivedBy 2 (some .int), Cond.methodLink RL 76 yX7_arrivedBy, Cond.instanceMethod yX7_arrivedBy, Cond.selects RX7 yX7_arrivedBy yX7_arrivedBy, Cond.code yX7_arrivedBy cX7_arrivedBy 3 (some .int), Cond.methodLink RL 79 yX6_put, Cond.instanceMethod yX6_put, Cond.selects RX6 yX6_put yX6_put, Cond.code yX6_put cX6_put 4 (some .int)]
def wsL_law_r29 : List Cond := [Cond.methodLink RX6 228 yX3_countCharacters, Cond.static yX3_countCharacters, Cond.code yX3_countCharacters cX3_countCharacters 7 (some .int), Cond.constantLong RX3 35 (255), Cond.methodLink RX6 232 yX3_fits, Cond.instanceMethod yX3_fits, Cond.selects RX3 yX3_fits yX3_fits, Cond.code yX3_fits cX3_fits 2 (some .boolean), Cond.methodLink RX6 235 yX3_append, Cond.instanceMethod yX3_append, Cond.selects RX3 yX3_append yX3_append, Cond.code yX3_append cX3_append 6 none, Cond.methodLink RX3 37 yX3_fits, Cond.methodLink RL 83 yX7_put, Cond.instanceMethod yX7_put, Cond.selects RX7 yX7_put yX7_put, Cond.code yX7_put cX7_put 7 (some .int), Cond.constantLong RX7 185 (255), Cond.methodLink RL 84 yX6_wipe, Cond.instanceMethod yX6_wipe, Cond.selects RX6 yX6_wipe yX6_wipe, Cond.code yX6_wipe cX6_wipe 2 (some .int), Cond.methodLink RL 87 yX7_wipe, Cond.instanceMethod yX7_wipe]
def wsL_law_r30 : List Cond := [Cond.selects RX7 yX7_wipe yX7_wipe, Cond.code yX7_wipe cX7_wipe 2 (some .int), Cond.methodLink RL 88 yX6_fault, Cond.instanceMethod yX6_fault, Cond.selects RX6 yX6_fault yX6_fault, Cond.code yX6_fault cX6_fault 1 (some .int), Cond.methodLink RX6 239 yX3_readOrders, Cond.instanceMethod yX3_readOrders, Cond.selects RX3 yX3_readOrders yX3_readOrders, Cond.code yX3_readOrders cX3_readOrders 2 (some .int), Cond.methodLink RX3 41 yX3_readOrder, Cond.instanceMethod yX3_readOrder, Cond.selects RX3 yX3_readOrder yX3_readOrder, Cond.code yX3_readOrder cX3_readOrder 4 (some .boolean), Cond.methodLink RX3 49 yX3_signHere, Cond.instanceMethod yX3_signHere, Cond.selects RX3 yX3_signHere yX3_signHere, Cond.code yX3_signHere cX3_signHere 1 (some .char), Cond.methodLink RX3 53 yX3_readNumber, Cond.instanceMethod yX3_readNumber, Cond.selects RX3 yX3_readNumber yX3_readNumber, Cond.code yX3_readNumber cX3_readNumber 3 (some .int), Cond.methodLink RX3 60 yX3_readDigit, Cond.instanceMethod yX3_readDigit]
def wsL_law_r31 : List Cond := [Cond.selects RX3 yX3_readDigit yX3_readDigit, Cond.code yX3_readDigit cX3_readDigit 2 (some .int), Cond.methodLink RX3 45 yX3_readSign, Cond.instanceMethod yX3_readSign, Cond.selects RX3 yX3_readSign yX3_readSign, Cond.code yX3_readSign cX3_readSign 2 (some .boolean), Cond.methodLink RX3 57 yX3_readSide, Cond.instanceMethod yX3_readSide, Cond.selects RX3 yX3_readSide yX3_readSide, Cond.code yX3_readSide cX3_readSide 3 (some .int), Cond.methodLink RX3 63 yX3_sideOfSign, Cond.static yX3_sideOfSign, Cond.code yX3_sideOfSign cX3_sideOfSign 1 (some .int), Cond.methodLink RL 91 yX7_fault, Cond.instanceMethod yX7_fault, Cond.selects RX7 yX7_fault yX7_fault, Cond.code yX7_fault cX7_fault 1 (some .int), Cond.methodLink RX7 187 yX7_faultOf, Cond.instanceMethod yX7_faultOf, Cond.selects RX7 yX7_faultOf yX7_faultOf, Cond.code yX7_faultOf cX7_faultOf 1 (some .int), Cond.fieldLink RX7 164 "MeshTurnsModel" "place" "I", Cond.fieldLink RX7 173 "MeshTurnsModel" "read" "I", Cond.fieldLink RX7 170 "MeshTurnsModel" "isWrong" "Z"]
def wsL_law_r32 : List Cond := [Cond.methodLink RX7 182 yX7_readOne, Cond.instanceMethod yX7_readOne, Cond.selects RX7 yX7_readOne yX7_readOne, Cond.code yX7_readOne cX7_readOne 3 none, Cond.methodLink RX7 167 yX7_sign, Cond.instanceMethod yX7_sign, Cond.selects RX7 yX7_sign yX7_sign, Cond.code yX7_sign cX7_sign 1 (some .int), Cond.methodLink RX7 176 yX7_number, Cond.instanceMethod yX7_number, Cond.selects RX7 yX7_number yX7_number, Cond.code yX7_number cX7_number 2 (some .int), Cond.methodLink RX7 179 yX7_side, Cond.instanceMethod yX7_side, Cond.selects RX7 yX7_side yX7_side, Cond.code yX7_side cX7_side 3 (some .int), Cond.methodLink RL 92 yX6_carryOut, Cond.instanceMethod yX6_carryOut, Cond.selects RX6 yX6_carryOut yX6_carryOut, Cond.code yX6_carryOut cX6_carryOut 2 (some .int), Cond.fieldLink RX6 242 "MeshTurns$Pad" "orders" "I", Cond.methodLink RX6 245 yX6_obey, Cond.instanceMethod yX6_obey, Cond.selects RX6 yX6_obey yX6_obey]
def wsL_law_r33 : List Cond := [Cond.code yX6_obey cX6_obey 4 (some .boolean), Cond.fieldLink RX6 271 "MeshTurns$Pad" "firsts" "[I", Cond.fieldLink RX6 274 "MeshTurns$Pad" "seconds" "[I", Cond.fieldLink RX6 277 "MeshTurns$Pad" "kinds" "[I", Cond.methodLink RL 95 yX7_carryOut, Cond.instanceMethod yX7_carryOut, Cond.selects RX7 yX7_carryOut yX7_carryOut, Cond.code yX7_carryOut cX7_carryOut 2 (some .int), Cond.methodLink RX7 199 yX7_carry, Cond.instanceMethod yX7_carry, Cond.selects RX7 yX7_carry yX7_carry, Cond.code yX7_carry cX7_carry 4 (some .int), Cond.methodLink RX7 190 yX7_send, Cond.methodLink RX7 193 yX7_link, Cond.methodLink RX7 196 yX7_ticks, Cond.methodLink RL 96 yX6_undo, Cond.instanceMethod yX6_undo, Cond.selects RX6 yX6_undo yX6_undo, Cond.code yX6_undo cX6_undo 1 (some .int), Cond.methodLink RL 99 yX7_undo, Cond.instanceMethod yX7_undo, Cond.selects RX7 yX7_undo yX7_undo, Cond.code yX7_undo cX7_undo 2 (some .int), Cond.methodLink RL 100 yX6_save]
def wsL_law_r34 : List Cond := [Cond.instanceMethod yX6_save, Cond.selects RX6 yX6_save yX6_save, Cond.code yX6_save cX6_save 2 (some .int), Cond.methodLink RX6 248 yX6_isSlot, Cond.static yX6_isSlot, Cond.code yX6_isSlot cX6_isSlot 1 (some .boolean), Cond.methodLink RL 103 yX7_save, Cond.instanceMethod yX7_save, Cond.selects RX7 yX7_save yX7_save, Cond.code yX7_save cX7_save 3 (some .int), Cond.methodLink RL 104 yX6_restore, Cond.instanceMethod yX6_restore, Cond.selects RX6 yX6_restore yX6_restore, Cond.code yX6_restore cX6_restore 2 (some .int), Cond.methodLink RL 107 yX7_restore, Cond.instanceMethod yX7_restore, Cond.selects RX7 yX7_restore yX7_restore, Cond.code yX7_restore cX7_restore 3 (some .int)]
def wsL_law : List Cond := (wsL_law_r1 ++ (wsL_law_r2 ++ (wsL_law_r3 ++ (wsL_law_r4 ++ (wsL_law_r5 ++ (wsL_law_r6 ++ (wsL_law_r7 ++ (wsL_law_r8 ++ (wsL_law_r9 ++ (wsL_law_r10 ++ (wsL_law_r11 ++ (wsL_law_r12 ++ (wsL_law_r13 ++ (wsL_law_r14 ++ (wsL_law_r15 ++ (wsL_law_r16 ++ (wsL_law_r17 ++ (wsL_law_r18 ++ (wsL_law_r19 ++ (wsL_law_r20 ++ (wsL_law_r21 ++ (wsL_law_r22 ++ (wsL_law_r23 ++ (wsL_law_r24 ++ (wsL_law_r25 ++ (wsL_law_r26 ++ (wsL_law_r27 ++ (wsL_law_r28 ++ (wsL_law_r29 ++ (wsL_law_r30 ++ (wsL_law_r31 ++ (wsL_law_r32 ++ (wsL_law_r33 ++ wsL_law_r34))))))))))))))))))))))))))))))))) ++ wsX60 ++ wsX70 ++ wsX50 ++ wsX40 ++ wsX10 ++ wsX30 ++ wsX00 ++ wsX20 ++ ([] : List Cond)
theorem zsub_1 : ∀ w ∈ wsL_law_r1, w ∈ wsL_law := fun _ h => List.mem_append_left _ (List.mem_append_left _ (List.mem_append_left _ (List.mem_append_left _ (List.mem_append_left _ (List.mem_append_left _ (List.mem_append_left _ (List.mem_append_left _ (List.mem_append_left _ (List.mem_append_left _ h)))))))))
theorem zsub_2 : ∀ w ∈ wsL_law_r2, w ∈ wsL_law := fun _ h => List.mem_append_left _ (List.mem_append_left _ (List.mem_append_left _ (List.mem_append_left _ (List.mem_append_left _ (List.mem_append_left _ (List.mem_append_left _ (List.mem_append_left _ (List.mem_append_left _ (List.mem_append_right _ (List.mem_append_left _ h))))))))))
theorem zsub_3 : ∀ w ∈ wsL_law_r3, w ∈ wsL_law := fun _ h => List.mem_append_left _ (List.mem_append_left _ (List.mem_append_left _ (List.mem_append_left _ (List.mem_append_left _ (List.mem_append_left _ (List.mem_append_left _ (List.mem_append_left _ (List.mem_append_left _ (List.mem_append_right _ (List.mem_append_right _ (List.mem_append_left _ h)))))))))))
theorem zsub_4 : ∀ w ∈ wsL_law_r4, w ∈ wsL_law := fun _ h => List.mem_append_left _ (List.mem_append_left _ (List.mem_append_left _ (List.mem_append_left _ (List.mem_append_left _ (List.mem_append_left _ (List.mem_append_left _ (List.mem_append_left _ (List.mem_append_left _ (List.mem_append_right _ (List.mem_append_right _ (List.mem_append_right _ (List.mem_append_left _ h))))))))))))
theorem zsub_5 : ∀ w ∈ wsL_law_r5, w ∈ wsL_law := fun _ h => List.mem_append_left _ (List.mem_append_left _ (List.mem_append_left _ (List.mem_append_left _ (List.mem_append_left _ (List.mem_append_left _ (List.mem_append_left _ (List.mem_append_left _ (List.mem_append_left _ (List.mem_append_right _ (List.mem_append_right _ (List.mem_append_right _ (List.mem_append_right _ (List.mem_append_left _ h)))))))))))))
theorem zsub_6 : ∀ w ∈ wsL_law_r6, w ∈ wsL_law := fun _ h => List.mem_append_left _ (List.mem_append_left _ (List.mem_append_left _ (List.mem_append_left _ (List.mem_append_left _ (List.mem_append_left _ (List.mem_append_left _ (List.mem_append_left _ (List.mem_append_left _ (List.mem_append_right _ (List.mem_append_right _ (List.mem_append_right _ (List.mem_append_right _ (List.mem_append_right _ (List.mem_append_left _ h))))))))))))))
theorem zsub_7 : ∀ w ∈ wsL_law_r7, w ∈ wsL_law := fun _ h => List.mem_append_left _ (List.mem_append_left _ (List.mem_append_left _ (List.mem_append_left _ (List.mem_append_left _ (List.mem_append_left _ (List.mem_append_left _ (List.mem_append_left _ (List.mem_append_left _ (List.mem_append_right _ (List.mem_append_right _ (List.mem_append_right _ (List.mem_append_right _ (List.mem_append_right _ (List.mem_append_right _ (List.mem_append_left _ h)))))))))))))))
theorem zsub_8 : ∀ w ∈ wsL_law_r8, w ∈ wsL_law := fun _ h => List.mem_append_left _ (List.mem_append_left _ (List.mem_append_left _ (List.mem_append_left _ (List.mem_append_left _ (List.mem_append_left _ (List.mem_append_left _ (List.mem_append_left _ (List.mem_append_left _ (List.mem_append_right _ (List.mem_append_right _ (List.mem_append_right _ (List.mem_append_right _ (List.mem_append_right _ (List.mem_append_right _ (List.mem_append_right _ (List.mem_append_left _ h))))))))))))))))
theorem zsub_9 : ∀ w ∈ wsL_law_r9, w ∈ wsL_law := fun _ h => List.mem_append_left _ (List.mem_append_left _ (List.mem_append_left _ (List.mem_append_left _ (List.mem_append_left _ (List.mem_append_left _ (List.mem_append_left _ (List.mem_append_left _ (List.mem_append_left _ (List.mem_append_right _ (List.mem_append_right _ (List.mem_append_right _ (List.mem_append_right _ (List.mem_append_right _ (List.mem_append_right _ (List.mem_append_right _ (List.mem_append_right _ (List.mem_append_left _ h)))))))))))))))))
theorem zsub_10 : ∀ w ∈ wsL_law_r10, w ∈ wsL_law := fun _ h => List.mem_append_left _ (List.mem_append_left _ (List.mem_append_left _ (List.mem_append_left _ (List.mem_append_left _ (List.mem_append_left _ (List.mem_append_left _ (List.mem_append_left _ (List.mem_append_left _ (List.mem_append_right _ (List.mem_append_right _ (List.mem_append_right _ (List.mem_append_right _ (List.mem_append_right _ (List.mem_append_right _ (List.mem_append_right _ (List.mem_append_right _ (List.mem_append_right _ (List.mem_append_left _ h))))))))))))))))))
theorem zsub_11 : ∀ w ∈ wsL_law_r11, w ∈ wsL_law := fun _ h => List.mem_append_left _ (List.mem_append_left _ (List.mem_append_left _ (List.mem_append_left _ (List.mem_append_left _ (List.mem_append_left _ (List.mem_append_left _ (List.mem_append_left _ (List.mem_append_left _ (List.mem_append_right _ (List.mem_append_right _ (List.mem_append_right _ (List.mem_append_right _ (List.mem_append_right _ (List.mem_append_right _ (List.mem_append_right _ (List.mem_append_right _ (List.mem_append_right _ (List.mem_append_right _ (List.mem_append_left _ h)))))))))))))))))))
theorem zsub_12 : ∀ w ∈ wsL_law_r12, w ∈ wsL_law := fun _ h => List.mem_append_left _ (List.mem_append_left _ (List.mem_append_left _ (List.mem_append_left _ (List.mem_append_left _ (List.mem_append_left _ (List.mem_append_left _ (List.mem_append_left _ (List.mem_append_left _ (List.mem_append_right _ (List.mem_append_right _ (List.mem_append_right _ (List.mem_append_right _ (List.mem_append_right _ (List.mem_append_right _ (List.mem_append_right _ (List.mem_append_right _ (List.mem_append_right _ (List.mem_append_right _ (List.mem_append_right _ (List.mem_append_left _ h))))))))))))))))))))
theorem zsub_13 : ∀ w ∈ wsL_law_r13, w ∈ wsL_law := fun _ h => List.mem_append_left _ (List.mem_append_left _ (List.mem_append_left _ (List.mem_append_left _ (List.mem_append_left _ (List.mem_append_left _ (List.mem_append_left _ (List.mem_append_left _ (List.mem_append_left _ (List.mem_append_right _ (List.mem_append_right _ (List.mem_append_right _ (List.mem_append_right _ (List.mem_append_right _ (List.mem_append_right _ (List.mem_append_right _ (List.mem_append_right _ (List.mem_append_right _ (List.mem_append_right _ (List.mem_append_right _ (List.mem_append_right _ (List.mem_append_left _ h)))))))))))))))))))))
theorem zsub_14 : ∀ w ∈ wsL_law_r14, w ∈ wsL_law := fun _ h => List.mem_append_left _ (List.mem_append_left _ (List.mem_append_left _ (List.mem_append_left _ (List.mem_append_left _ (List.mem_append_left _ (List.mem_append_left _ (List.mem_append_left _ (List.mem_append_left _ (List.mem_append_right _ (List.mem_append_right _ (List.mem_append_right _ (List.mem_append_right _ (List.mem_append_right _ (List.mem_append_right _ (List.mem_append_right _ (List.mem_append_right _ (List.mem_append_right _ (List.mem_append_right _ (List.mem_append_right _ (List.mem_append_right _ (List.mem_append_right _ (List.mem_append_left _ h))))))))))))))))))))))
theorem zsub_15 : ∀ w ∈ wsL_law_r15, w ∈ wsL_law := fun _ h => List.mem_append_left _ (List.mem_append_left _ (List.mem_append_left _ (List.mem_append_left _ (List.mem_append_left _ (List.mem_append_left _ (List.mem_append_left _ (List.mem_append_left _ (List.mem_append_left _ (List.mem_append_right _ (List.mem_append_right _ (List.mem_append_right _ (List.mem_append_right _ (List.mem_append_right _ (List.mem_append_right _ (List.mem_append_right _ (List.mem_append_right _ (List.mem_append_right _ (List.mem_append_right _ (List.mem_append_right _ (List.mem_append_right _ (List.mem_append_right _ (List.mem_append_right _ (List.mem_append_left _ h)))))))))))))))))))))))
theorem zsub_16 : ∀ w ∈ wsL_law_r16, w ∈ wsL_law := fun _ h => List.mem_append_left _ (List.mem_append_left _ (List.mem_append_left _ (List.mem_append_left _ (List.mem_append_left _ (List.mem_append_left _ (List.mem_append_left _ (List.mem_append_left _ (List.mem_append_left _ (List.mem_append_right _ (List.mem_append_right _ (List.mem_append_right _ (List.mem_append_right _ (List.mem_append_right _ (List.mem_append_right _ (List.mem_append_right _ (List.mem_append_right _ (List.mem_append_right _ (List.mem_append_right _ (List.mem_append_right _ (List.mem_append_right _ (List.mem_append_right _ (List.mem_append_right _ (List.mem_append_right _ (List.mem_append_left _ h))))))))))))))))))))))))
theorem zsub_17 : ∀ w ∈ wsL_law_r17, w ∈ wsL_law := fun _ h => List.mem_append_left _ (List.mem_append_left _ (List.mem_append_left _ (List.mem_append_left _ (List.mem_append_left _ (List.mem_append_left _ (List.mem_append_left _ (List.mem_append_left _ (List.mem_append_left _ (List.mem_append_right _ (List.mem_append_right _ (List.mem_append_right _ (List.mem_append_right _ (List.mem_append_right _ (List.mem_append_right _ (List.mem_append_right _ (List.mem_append_right _ (List.mem_append_right _ (List.mem_append_right _ (List.mem_append_right _ (List.mem_append_right _ (List.mem_append_right _ (List.mem_append_right _ (List.mem_append_right _ (List.mem_append_right _ (List.mem_append_left _ h)))))))))))))))))))))))))
theorem zsub_18 : ∀ w ∈ wsL_law_r18, w ∈ wsL_law := fun _ h => List.mem_append_left _ (List.mem_append_left _ (List.mem_append_left _ (List.mem_append_left _ (List.mem_append_left _ (List.mem_append_left _ (List.mem_append_left _ (List.mem_append_left _ (List.mem_append_left _ (List.mem_append_right _ (List.mem_append_right _ (List.mem_append_right _ (List.mem_append_right _ (List.mem_append_right _ (List.mem_append_right _ (List.mem_append_right _ (List.mem_append_right _ (List.mem_append_right _ (List.mem_append_right _ (List.mem_append_right _ (List.mem_append_right _ (List.mem_append_right _ (List.mem_append_right _ (List.mem_append_right _ (List.mem_append_right _ (List.mem_append_right _ (List.mem_append_left _ h))))))))))))))))))))))))))
theorem zsub_19 : ∀ w ∈ wsL_law_r19, w ∈ wsL_law := fun _ h => List.mem_append_left _ (List.mem_append_left _ (List.mem_append_left _ (List.mem_append_left _ (List.mem_append_left _ (List.mem_append_left _ (List.mem_append_left _ (List.mem_append_left _ (List.mem_append_left _ (List.mem_append_right _ (List.mem_append_right _ (List.mem_append_right _ (List.mem_append_right _ (List.mem_append_right _ (List.mem_append_right _ (List.mem_append_right _ (List.mem_append_right _ (List.mem_append_right _ (List.mem_append_right _ (List.mem_append_right _ (List.mem_append_right _ (List.mem_append_right _ (List.mem_append_right _ (List.mem_append_right _ (List.mem_append_right _ (List.mem_append_right _ (List.mem_append_right _ (List.mem_append_left _ h)))))))))))))))))))))))))))
theorem zsub_20 : ∀ w ∈ wsL_law_r20, w ∈ wsL_law := fun _ h => List.mem_append_left _ (List.mem_append_left _ (List.mem_append_left _ (List.mem_append_left _ (List.mem_append_left _ (List.mem_append_left _ (List.mem_append_left _ (List.mem_append_left _ (List.mem_append_left _ (List.mem_append_right _ (List.mem_append_right _ (List.mem_append_right _ (List.mem_append_right _ (List.mem_append_right _ (List.mem_append_right _ (List.mem_append_right _ (List.mem_append_right _ (List.mem_append_right _ (List.mem_append_right _ (List.mem_append_right _ (List.mem_append_right _ (List.mem_append_right _ (List.mem_append_right _ (List.mem_append_right _ (List.mem_append_right _ (List.mem_append_right _ (List.mem_append_right _ (List.mem_append_right _ (List.mem_append_left _ h))))))))))))))))))))))))))))
theorem zsub_21 : ∀ w ∈ wsL_law_r21, w ∈ wsL_law := fun _ h => List.mem_append_left _ (List.mem_append_left _ (List.mem_append_left _ (List.mem_append_left _ (List.mem_append_left _ (List.mem_append_left _ (List.mem_append_left _ (List.mem_append_left _ (List.mem_append_left _ (List.mem_append_right _ (List.mem_append_right _ (List.mem_append_right _ (List.mem_append_right _ (List.mem_append_right _ (List.mem_append_right _ (List.mem_append_right _ (List.mem_append_right _ (List.mem_append_right _ (List.mem_append_right _ (List.mem_append_right _ (List.mem_append_right _ (List.mem_append_right _ (List.mem_append_right _ (List.mem_append_right _ (List.mem_append_right _ (List.mem_append_right _ (List.mem_append_right _ (List.mem_append_right _ (List.mem_append_right _ (List.mem_append_left _ h)))))))))))))))))))))))))))))
theorem zsub_22 : ∀ w ∈ wsL_law_r22, w ∈ wsL_law := fun _ h => List.mem_append_left _ (List.mem_append_left _ (List.mem_append_left _ (List.mem_append_left _ (List.mem_append_left _ (List.mem_append_left _ (List.mem_append_left _ (List.mem_append_left _ (List.mem_append_left _ (List.mem_append_right _ (List.mem_append_right _ (List.mem_append_right _ (List.mem_append_right _ (List.mem_append_right _ (List.mem_append_right _ (List.mem_append_right _ (List.mem_append_right _ (List.mem_append_right _ (List.mem_append_right _ (List.mem_append_right _ (List.mem_append_right _ (List.mem_append_right _ (List.mem_append_right _ (List.mem_append_right _ (List.mem_append_right _ (List.mem_append_right _ (List.mem_append_right _ (List.mem_append_right _ (List.mem_append_right _ (List.mem_append_right _ (List.mem_append_left _ h))))))))))))))))))))))))))))))
theorem zsub_23 : ∀ w ∈ wsL_law_r23, w ∈ wsL_law := fun _ h => List.mem_append_left _ (List.mem_append_left _ (List.mem_append_left _ (List.mem_append_left _ (List.mem_append_left _ (List.mem_append_left _ (List.mem_append_left _ (List.mem_append_left _ (List.mem_append_left _ (List.mem_append_right _ (List.mem_append_right _ (List.mem_append_right _ (List.mem_append_right _ (List.mem_append_right _ (List.mem_append_right _ (List.mem_append_right _ (List.mem_append_right _ (List.mem_append_right _ (List.mem_append_right _ (List.mem_append_right _ (List.mem_append_right _ (List.mem_append_right _ (List.mem_append_right _ (List.mem_append_right _ (List.mem_append_right _ (List.mem_append_right _ (List.mem_append_right _ (List.mem_append_right _ (List.mem_append_right _ (List.mem_append_right _ (List.mem_append_right _ (List.mem_append_left _ h)))))))))))))))))))))))))))))))
theorem zsub_24 : ∀ w ∈ wsL_law_r24, w ∈ wsL_law := fun _ h => List.mem_append_left _ (List.mem_append_left _ (List.mem_append_left _ (List.mem_append_left _ (List.mem_append_left _ (List.mem_append_left _ (List.mem_append_left _ (List.mem_append_left _ (List.mem_append_left _ (List.mem_append_right _ (List.mem_append_right _ (List.mem_append_right _ (List.mem_append_right _ (List.mem_append_right _ (List.mem_append_right _ (List.mem_append_right _ (List.mem_append_right _ (List.mem_append_right _ (List.mem_append_right _ (List.mem_append_right _ (List.mem_append_right _ (List.mem_append_right _ (List.mem_append_right _ (List.mem_append_right _ (List.mem_append_right _ (List.mem_append_right _ (List.mem_append_right _ (List.mem_append_right _ (List.mem_append_right _ (List.mem_append_right _ (List.mem_append_right _ (List.mem_append_right _ (List.mem_append_left _ h))))))))))))))))))))))))))))))))
theorem zsub_25 : ∀ w ∈ wsL_law_r25, w ∈ wsL_law := fun _ h => List.mem_append_left _ (List.mem_append_left _ (List.mem_append_left _ (List.mem_append_left _ (List.mem_append_left _ (List.mem_append_left _ (List.mem_append_left _ (List.mem_append_left _ (List.mem_append_left _ (List.mem_append_right _ (List.mem_append_right _ (List.mem_append_right _ (List.mem_append_right _ (List.mem_append_right _ (List.mem_append_right _ (List.mem_append_right _ (List.mem_append_right _ (List.mem_append_right _ (List.mem_append_right _ (List.mem_append_right _ (List.mem_append_right _ (List.mem_append_right _ (List.mem_append_right _ (List.mem_append_right _ (List.mem_append_right _ (List.mem_append_right _ (List.mem_append_right _ (List.mem_append_right _ (List.mem_append_right _ (List.mem_append_right _ (List.mem_append_right _ (List.mem_append_right _ (List.mem_append_right _ (List.mem_append_left _ h)))))))))))))))))))))))))))))))))
theorem zsub_26 : ∀ w ∈ wsL_law_r26, w ∈ wsL_law := fun _ h => List.mem_append_left _ (List.mem_append_left _ (List.mem_append_left _ (List.mem_append_left _ (List.mem_append_left _ (List.mem_append_left _ (List.mem_append_left _ (List.mem_append_left _ (List.mem_append_left _ (List.mem_append_right _ (List.mem_append_right _ (List.mem_append_right _ (List.mem_append_right _ (List.mem_append_right _ (List.mem_append_right _ (List.mem_append_right _ (List.mem_append_right _ (List.mem_append_right _ (List.mem_append_right _ (List.mem_append_right _ (List.mem_append_right _ (List.mem_append_right _ (List.mem_append_right _ (List.mem_append_right _ (List.mem_append_right _ (List.mem_append_right _ (List.mem_append_right _ (List.mem_append_right _ (List.mem_append_right _ (List.mem_append_right _ (List.mem_append_right _ (List.mem_append_right _ (List.mem_append_right _ (List.mem_append_right _ (List.mem_append_left _ h))))))))))))))))))))))))))))))))))
theorem zsub_27 : ∀ w ∈ wsL_law_r27, w ∈ wsL_law := fun _ h => List.mem_append_left _ (List.mem_append_left _ (List.mem_append_left _ (List.mem_append_left _ (List.mem_append_left _ (List.mem_append_left _ (List.mem_append_left _ (List.mem_append_left _ (List.mem_append_left _ (List.mem_append_right _ (List.mem_append_right _ (List.mem_append_right _ (List.mem_append_right _ (List.mem_append_right _ (List.mem_append_right _ (List.mem_append_right _ (List.mem_append_right _ (List.mem_append_right _ (List.mem_append_right _ (List.mem_append_right _ (List.mem_append_right _ (List.mem_append_right _ (List.mem_append_right _ (List.mem_append_right _ (List.mem_append_right _ (List.mem_append_right _ (List.mem_append_right _ (List.mem_append_right _ (List.mem_append_right _ (List.mem_append_right _ (List.mem_append_right _ (List.mem_append_right _ (List.mem_append_right _ (List.mem_append_right _ (List.mem_append_right _ (List.mem_append_left _ h)))))))))))))))))))))))))))))))))))
theorem zsub_28 : ∀ w ∈ wsL_law_r28, w ∈ wsL_law := fun _ h => List.mem_append_left _ (List.mem_append_left _ (List.mem_append_left _ (List.mem_append_left _ (List.mem_append_left _ (List.mem_append_left _ (List.mem_append_left _ (List.mem_append_left _ (List.mem_append_left _ (List.mem_append_right _ (List.mem_append_right _ (List.mem_append_right _ (List.mem_append_right _ (List.mem_append_right _ (List.mem_append_right _ (List.mem_append_right _ (List.mem_append_right _ (List.mem_append_right _ (List.mem_append_right _ (List.mem_append_right _ (List.mem_append_right _ (List.mem_append_right _ (List.mem_append_right _ (List.mem_append_right _ (List.mem_append_right _ (List.mem_append_right _ (List.mem_append_right _ (List.mem_append_right _ (List.mem_append_right _ (List.mem_append_right _ (List.mem_append_right _ (List.mem_append_right _ (List.mem_append_right _ (List.mem_append_right _ (List.mem_append_right _ (List.mem_append_right _ (List.mem_append_left _ h))))))))))))))))))))))))))))))))))))
theorem zsub_29 : ∀ w ∈ wsL_law_r29, w ∈ wsL_law := fun _ h => List.mem_append_left _ (List.mem_append_left _ (List.mem_append_left _ (List.mem_append_left _ (List.mem_append_left _ (List.mem_append_left _ (List.mem_append_left _ (List.mem_append_left _ (List.mem_append_left _ (List.mem_append_right _ (List.mem_append_right _ (List.mem_append_right _ (List.mem_append_right _ (List.mem_append_right _ (List.mem_append_right _ (List.mem_append_right _ (List.mem_append_right _ (List.mem_append_right _ (List.mem_append_right _ (List.mem_append_right _ (List.mem_append_right _ (List.mem_append_right _ (List.mem_append_right _ (List.mem_append_right _ (List.mem_append_right _ (List.mem_append_right _ (List.mem_append_right _ (List.mem_append_right _ (List.mem_append_right _ (List.mem_append_right _ (List.mem_append_right _ (List.mem_append_right _ (List.mem_append_right _ (List.mem_append_right _ (List.mem_append_right _ (List.mem_append_right _ (List.mem_append_right _ (List.mem_append_left _ h)))))))))))))))))))))))))))))))))))))
theorem zsub_30 : ∀ w ∈ wsL_law_r30, w ∈ wsL_law := fun _ h => List.mem_append_left _ (List.mem_append_left _ (List.mem_append_left _ (List.mem_append_left _ (List.mem_append_left _ (List.mem_append_left _ (List.mem_append_left _ (List.mem_append_left _ (List.mem_append_left _ (List.mem_append_right _ (List.mem_append_right _ (List.mem_append_right _ (List.mem_append_right _ (List.mem_append_right _ (List.mem_append_right _ (List.mem_append_right _ (List.mem_append_right _ (List.mem_append_right _ (List.mem_append_right _ (List.mem_append_right _ (List.mem_append_right _ (List.mem_append_right _ (List.mem_append_right _ (List.mem_append_right _ (List.mem_append_right _ (List.mem_append_right _ (List.mem_append_right _ (List.mem_append_right _ (List.mem_append_right _ (List.mem_append_right _ (List.mem_append_right _ (List.mem_append_right _ (List.mem_append_right _ (List.mem_append_right _ (List.mem_append_right _ (List.mem_append_right _ (List.mem_append_right _ (List.mem_append_right _ (List.mem_append_left _ h))))))))))))))))))))))))))))))))))))))
theorem zsub_31 : ∀ w ∈ wsL_law_r31, w ∈ wsL_law := fun _ h => List.mem_append_left _ (List.mem_append_left _ (List.mem_append_left _ (List.mem_append_left _ (List.mem_append_left _ (List.mem_append_left _ (List.mem_append_left _ (List.mem_append_left _ (List.mem_append_left _ (List.mem_append_right _ (List.mem_append_right _ (List.mem_append_right _ (List.mem_append_right _ (List.mem_append_right _ (List.mem_append_right _ (List.mem_append_right _ (List.mem_append_right _ (List.mem_append_right _ (List.mem_append_right _ (List.mem_append_right _ (List.mem_append_right _ (List.mem_append_right _ (List.mem_append_right _ (List.mem_append_right _ (List.mem_append_right _ (List.mem_append_right _ (List.mem_append_right _ (List.mem_append_right _ (List.mem_append_right _ (List.mem_append_right _ (List.mem_append_right _ (List.mem_append_right _ (List.mem_append_right _ (List.mem_append_right _ (List.mem_append_right _ (List.mem_append_right _ (List.mem_append_right _ (List.mem_append_right _ (List.mem_append_right _ (List.mem_append_left _ h)))))))))))))))))))))))))))))))))))))))
theorem zsub_32 : ∀ w ∈ wsL_law_r32, w ∈ wsL_law := fun _ h => List.mem_append_left _ (List.mem_append_left _ (List.mem_append_left _ (List.mem_append_left _ (List.mem_append_left _ (List.mem_append_left _ (List.mem_append_left _ (List.mem_append_left _ (List.mem_append_left _ (List.mem_append_right _ (List.mem_append_right _ (List.mem_append_right _ (List.mem_append_right _ (List.mem_append_right _ (List.mem_append_right _ (List.mem_append_right _ (List.mem_append_right _ (List.mem_append_right _ (List.mem_append_right _ (List.mem_append_right _ (List.mem_append_right _ (List.mem_append_right _ (List.mem_append_right _ (List.mem_append_right _ (List.mem_append_right _ (List.mem_append_right _ (List.mem_append_right _ (List.mem_append_right _ (List.mem_append_right _ (List.mem_append_right _ (List.mem_append_right _ (List.mem_append_right _ (List.mem_append_right _ (List.mem_append_right _ (List.mem_append_right _ (List.mem_append_right _ (List.mem_append_right _ (List.mem_append_right _ (List.mem_append_right _ (List.mem_append_right _ (List.mem_append_left _ h))))))))))))))))))))))))))))))))))))))))
theorem zsub_33 : ∀ w ∈ wsL_law_r33, w ∈ wsL_law := fun _ h => List.mem_append_left _ (List.mem_append_left _ (List.mem_append_left _ (List.mem_append_left _ (List.mem_append_left _ (List.mem_append_left _ (List.mem_append_left _ (List.mem_append_left _ (List.mem_append_left _ (List.mem_append_right _ (List.mem_append_right _ (List.mem_append_right _ (List.mem_append_right _ (List.mem_append_right _ (List.mem_append_right _ (List.mem_append_right _ (List.mem_append_right _ (List.mem_append_right _ (List.mem_append_right _ (List.mem_append_right _ (List.mem_append_right _ (List.mem_append_right _ (List.mem_append_right _ (List.mem_append_right _ (List.mem_append_right _ (List.mem_append_right _ (List.mem_append_right _ (List.mem_append_right _ (List.mem_append_right _ (List.mem_append_right _ (List.mem_append_right _ (List.mem_append_right _ (List.mem_append_right _ (List.mem_append_right _ (List.mem_append_right _ (List.mem_append_right _ (List.mem_append_right _ (List.mem_append_right _ (List.mem_append_right _ (List.mem_append_right _ (List.mem_append_right _ (List.mem_append_left _ h)))))))))))))))))))))))))))))))))))))))))
theorem zsub_34 : ∀ w ∈ wsL_law_r34, w ∈ wsL_law := fun _ h => List.mem_append_left _ (List.mem_append_left _ (List.mem_append_left _ (List.mem_append_left _ (List.mem_append_left _ (List.mem_append_left _ (List.mem_append_left _ (List.mem_append_left _ (List.mem_append_left _ (List.mem_append_right _ (List.mem_append_right _ (List.mem_append_right _ (List.mem_append_right _ (List.mem_append_right _ (List.mem_append_right _ (List.mem_append_right _ (List.mem_append_right _ (List.mem_append_right _ (List.mem_append_right _ (List.mem_append_right _ (List.mem_append_right _ (List.mem_append_right _ (List.mem_append_right _ (List.mem_append_right _ (List.mem_append_right _ (List.mem_append_right _ (List.mem_append_right _ (List.mem_append_right _ (List.mem_append_right _ (List.mem_append_right _ (List.mem_append_right _ (List.mem_append_right _ (List.mem_append_right _ (List.mem_append_right _ (List.mem_append_right _ (List.mem_append_right _ (List.mem_append_right _ (List.mem_append_right _ (List.mem_append_right _ (List.mem_append_right _ (List.mem_append_right _ (List.mem_append_right _ (h))))))))))))))))))))))))))))))))))))))))))
theorem inlX0 : ∀ w ∈ wsX00, w ∈ wsL_law := fun _ h => List.mem_append_left _ (List.mem_append_left _ (List.mem_append_right _ h))
theorem inlX1 : ∀ w ∈ wsX10, w ∈ wsL_law := fun _ h => List.mem_append_left _ (List.mem_append_left _ (List.mem_append_left _ (List.mem_append_left _ (List.mem_append_right _ h))))
theorem inlX2 : ∀ w ∈ wsX20, w ∈ wsL_law := fun _ h => List.mem_append_left _ (List.mem_append_right _ h)
theorem inlX3 : ∀ w ∈ wsX30, w ∈ wsL_law := fun _ h => List.mem_append_left _ (List.mem_append_left _ (List.mem_append_left _ (List.mem_append_right _ h)))
theorem inlX4 : ∀ w ∈ wsX40, w ∈ wsL_law := fun _ h => List.mem_append_left _ (List.mem_append_left _ (List.mem_append_left _ (List.mem_append_left _ (List.mem_append_left _ (List.mem_append_right _ h)))))
theorem inlX5 : ∀ w ∈ wsX50, w ∈ wsL_law := fun _ h => List.mem_append_left _ (List.mem_append_left _ (List.mem_append_left _ (List.mem_append_left _ (List.mem_append_left _ (List.mem_append_left _ (List.mem_append_right _ h))))))
theorem inlX6 : ∀ w ∈ wsX60, w ∈ wsL_law := fun _ h => List.mem_append_left _ (List.mem_append_left _ (List.mem_append_left _ (List.mem_append_left _ (List.mem_append_left _ (List.mem_append_left _ (List.mem_append_left _ (List.mem_append_left _ (List.mem_append_right _ h))))))))
theorem inlX7 : ∀ w ∈ wsX70, w ∈ wsL_law := fun _ h => List.mem_append_left _ (List.mem_append_left _ (List.mem_append_left _ (List.mem_append_left _ (List.mem_append_left _ (List.mem_append_left _ (List.mem_append_left _ (List.mem_append_right _ h)))))))
theorem qk_RL_7 : Cond.classLink RL 7 RX6 ∈ wsL_law := zsub_1 _ (List.mem_of_getElem? (i := 0) rfl)
theorem qx_RX6 : Cond.instantiable RX6 10 ∈ wsL_law := zsub_1 _ (List.mem_of_getElem? (i := 1) rfl)
theorem qn_RX6 : Cond.initialized RX6 ∈ wsL_law := zsub_1 _ (List.mem_of_getElem? (i := 2) rfl)
theorem qk_RL_10 : Cond.classLink RL 10 RX7 ∈ wsL_law := zsub_1 _ (List.mem_of_getElem? (i := 3) rfl)
theorem qx_RX7 : Cond.instantiable RX7 18 ∈ wsL_law := zsub_1 _ (List.mem_of_getElem? (i := 4) rfl)
theorem qn_RX7 : Cond.initialized RX7 ∈ wsL_law := zsub_1 _ (List.mem_of_getElem? (i := 5) rfl)
theorem ql_RL_77 : Cond.constantLong RL 77 (4294967295) ∈ wsL_law := zsub_1 _ (List.mem_of_getElem? (i := 6) rfl)
theorem qm_RL_9 : Cond.methodLink RL 9 yX6_init ∈ wsL_law := zsub_1 _ (List.mem_of_getElem? (i := 7) rfl)
theorem qi_X6_init : Cond.instanceMethod yX6_init ∈ wsL_law := zsub_1 _ (List.mem_of_getElem? (i := 8) rfl)
theorem qc_X6_init : Cond.code yX6_init cX6_init 2 none ∈ wsL_law := zsub_1 _ (List.mem_of_getElem? (i := 9) rfl)
theorem qm_RX6_3 : Cond.methodLink RX6 3 objectInit ∈ wsL_law := zsub_1 _ (List.mem_of_getElem? (i := 10) rfl)
theorem qi_objectInit : Cond.instanceMethod objectInit ∈ wsL_law := zsub_1 _ (List.mem_of_getElem? (i := 11) rfl)
theorem qc_objectInit : Cond.code objectInit ⟨#[0xb1]⟩ 1 none ∈ wsL_law := zsub_1 _ (List.mem_of_getElem? (i := 12) rfl)
theorem qk_RX6_9 : Cond.classLink RX6 9 RX5 ∈ wsL_law := zsub_1 _ (List.mem_of_getElem? (i := 13) rfl)
theorem qx_RX5 : Cond.instantiable RX5 6 ∈ wsL_law := zsub_1 _ (List.mem_of_getElem? (i := 14) rfl)
theorem qn_RX5 : Cond.initialized RX5 ∈ wsL_law := zsub_1 _ (List.mem_of_getElem? (i := 15) rfl)
theorem qf_RX6_12 : Cond.fieldLink RX6 12 "MeshTurns" "now" "LMeshTurns$State;" ∈ wsL_law := zsub_1 _ (List.mem_of_getElem? (i := 16) rfl)
theorem qk_RX6_16 : Cond.classLink RX6 16 RX4 ∈ wsL_law := zsub_1 _ (List.mem_of_getElem? (i := 17) rfl)
theorem qx_RX4 : Cond.instantiable RX4 6 ∈ wsL_law := zsub_1 _ (List.mem_of_getElem? (i := 18) rfl)
theorem qn_RX4 : Cond.initialized RX4 ∈ wsL_law := zsub_1 _ (List.mem_of_getElem? (i := 19) rfl)
theorem qf_RX6_19 : Cond.fieldLink RX6 19 "MeshTurns" "routes" "LMeshTurns$Routes;" ∈ wsL_law := zsub_1 _ (List.mem_of_getElem? (i := 20) rfl)
theorem qf_RX6_23 : Cond.fieldLink RX6 23 "MeshTurns" "trial" "LMeshTurns$State;" ∈ wsL_law := zsub_1 _ (List.mem_of_getElem? (i := 21) rfl)
theorem qf_RX6_26 : Cond.fieldLink RX6 26 "MeshTurns" "trialRoutes" "LMeshTurns$Routes;" ∈ wsL_law := zsub_1 _ (List.mem_of_getElem? (i := 22) rfl)
theorem qk_RX6_29 : Cond.classLink RX6 29 RX1 ∈ wsL_law := zsub_1 _ (List.mem_of_getElem? (i := 23) rfl)
theorem qx_RX1 : Cond.instantiable RX1 1 ∈ wsL_law := zsub_2 _ (List.mem_of_getElem? (i := 0) rfl)
theorem qn_RX1 : Cond.initialized RX1 ∈ wsL_law := zsub_2 _ (List.mem_of_getElem? (i := 1) rfl)
theorem qf_RX6_32 : Cond.fieldLink RX6 32 "MeshTurns" "jam" "LMeshTurns$Jam;" ∈ wsL_law := zsub_2 _ (List.mem_of_getElem? (i := 2) rfl)
theorem qk_RX6_36 : Cond.classLink RX6 36 RX3 ∈ wsL_law := zsub_2 _ (List.mem_of_getElem? (i := 3) rfl)
theorem qx_RX3 : Cond.instantiable RX3 7 ∈ wsL_law := zsub_2 _ (List.mem_of_getElem? (i := 4) rfl)
theorem qn_RX3 : Cond.initialized RX3 ∈ wsL_law := zsub_2 _ (List.mem_of_getElem? (i := 5) rfl)
theorem qf_RX6_39 : Cond.fieldLink RX6 39 "MeshTurns" "pad" "LMeshTurns$Pad;" ∈ wsL_law := zsub_2 _ (List.mem_of_getElem? (i := 6) rfl)
theorem qf_RX6_43 : Cond.fieldLink RX6 43 "MeshTurns" "history" "[LMeshTurns$State;" ∈ wsL_law := zsub_2 _ (List.mem_of_getElem? (i := 7) rfl)
theorem qf_RX6_47 : Cond.fieldLink RX6 47 "MeshTurns" "undoable" "I" ∈ wsL_law := zsub_2 _ (List.mem_of_getElem? (i := 8) rfl)
theorem qf_RX6_51 : Cond.fieldLink RX6 51 "MeshTurns" "slots" "[LMeshTurns$State;" ∈ wsL_law := zsub_2 _ (List.mem_of_getElem? (i := 9) rfl)
theorem qa__boolean : Cond.arrayClass .boolean ∈ wsL_law := zsub_2 _ (List.mem_of_getElem? (i := 10) rfl)
theorem qf_RX6_54 : Cond.fieldLink RX6 54 "MeshTurns" "slotIsUsed" "[Z" ∈ wsL_law := zsub_2 _ (List.mem_of_getElem? (i := 11) rfl)
theorem qi_X5_init : Cond.instanceMethod yX5_init ∈ wsL_law := zsub_2 _ (List.mem_of_getElem? (i := 12) rfl)
theorem qc_X5_init : Cond.code yX5_init cX5_init 1 none ∈ wsL_law := zsub_2 _ (List.mem_of_getElem? (i := 13) rfl)
theorem qm_RX5_3 : Cond.methodLink RX5 3 objectInit ∈ wsL_law := zsub_2 _ (List.mem_of_getElem? (i := 14) rfl)
theorem qa__int : Cond.arrayClass .int ∈ wsL_law := zsub_2 _ (List.mem_of_getElem? (i := 15) rfl)
theorem qf_RX5_9 : Cond.fieldLink RX5 9 "MeshTurns$State" "settings" "[I" ∈ wsL_law := zsub_2 _ (List.mem_of_getElem? (i := 16) rfl)
theorem qk_RX5_15 : Cond.classLink RX5 15 RX0 ∈ wsL_law := zsub_2 _ (List.mem_of_getElem? (i := 17) rfl)
theorem qx_RX0 : Cond.instantiable RX0 3 ∈ wsL_law := zsub_2 _ (List.mem_of_getElem? (i := 18) rfl)
theorem qn_RX0 : Cond.initialized RX0 ∈ wsL_law := zsub_2 _ (List.mem_of_getElem? (i := 19) rfl)
theorem qf_RX5_18 : Cond.fieldLink RX5 18 "MeshTurns$State" "grid" "LMeshTurns$Grid;" ∈ wsL_law := zsub_2 _ (List.mem_of_getElem? (i := 20) rfl)
theorem qk_RX5_22 : Cond.classLink RX5 22 RX2 ∈ wsL_law := zsub_2 _ (List.mem_of_getElem? (i := 21) rfl)
theorem qx_RX2 : Cond.instantiable RX2 11 ∈ wsL_law := zsub_2 _ (List.mem_of_getElem? (i := 22) rfl)
theorem qn_RX2 : Cond.initialized RX2 ∈ wsL_law := zsub_2 _ (List.mem_of_getElem? (i := 23) rfl)
theorem qf_RX5_25 : Cond.fieldLink RX5 25 "MeshTurns$State" "packets" "LMeshTurns$Packets;" ∈ wsL_law := zsub_3 _ (List.mem_of_getElem? (i := 0) rfl)
theorem qf_RX5_29 : Cond.fieldLink RX5 29 "MeshTurns$State" "inside" "[I" ∈ wsL_law := zsub_3 _ (List.mem_of_getElem? (i := 1) rfl)
theorem qf_RX5_32 : Cond.fieldLink RX5 32 "MeshTurns$State" "movesFrom" "[I" ∈ wsL_law := zsub_3 _ (List.mem_of_getElem? (i := 2) rfl)
theorem qf_RX5_35 : Cond.fieldLink RX5 35 "MeshTurns$State" "tick" "I" ∈ wsL_law := zsub_3 _ (List.mem_of_getElem? (i := 3) rfl)
theorem qi_X0_init : Cond.instanceMethod yX0_init ∈ wsL_law := zsub_3 _ (List.mem_of_getElem? (i := 4) rfl)
theorem qc_X0_init : Cond.code yX0_init cX0_init 1 none ∈ wsL_law := zsub_3 _ (List.mem_of_getElem? (i := 5) rfl)
theorem qm_RX0_3 : Cond.methodLink RX0 3 objectInit ∈ wsL_law := zsub_3 _ (List.mem_of_getElem? (i := 6) rfl)
theorem qf_RX0_9 : Cond.fieldLink RX0 9 "MeshTurns$Grid" "columns" "I" ∈ wsL_law := zsub_3 _ (List.mem_of_getElem? (i := 7) rfl)
theorem qf_RX0_15 : Cond.fieldLink RX0 15 "MeshTurns$Grid" "rows" "I" ∈ wsL_law := zsub_3 _ (List.mem_of_getElem? (i := 8) rfl)
theorem qf_RX0_18 : Cond.fieldLink RX0 18 "MeshTurns$Grid" "broken" "J" ∈ wsL_law := zsub_3 _ (List.mem_of_getElem? (i := 9) rfl)
theorem qi_X2_init : Cond.instanceMethod yX2_init ∈ wsL_law := zsub_3 _ (List.mem_of_getElem? (i := 10) rfl)
theorem qc_X2_init : Cond.code yX2_init cX2_init 1 none ∈ wsL_law := zsub_3 _ (List.mem_of_getElem? (i := 11) rfl)
theorem qm_RX2_3 : Cond.methodLink RX2 3 objectInit ∈ wsL_law := zsub_3 _ (List.mem_of_getElem? (i := 12) rfl)
theorem qf_RX2_9 : Cond.fieldLink RX2 9 "MeshTurns$Packets" "sent" "I" ∈ wsL_law := zsub_3 _ (List.mem_of_getElem? (i := 13) rfl)
theorem qf_RX2_15 : Cond.fieldLink RX2 15 "MeshTurns$Packets" "from" "[I" ∈ wsL_law := zsub_3 _ (List.mem_of_getElem? (i := 14) rfl)
theorem qf_RX2_19 : Cond.fieldLink RX2 19 "MeshTurns$Packets" "to" "[I" ∈ wsL_law := zsub_3 _ (List.mem_of_getElem? (i := 15) rfl)
theorem qf_RX2_22 : Cond.fieldLink RX2 22 "MeshTurns$Packets" "place" "[I" ∈ wsL_law := zsub_3 _ (List.mem_of_getElem? (i := 16) rfl)
theorem qf_RX2_25 : Cond.fieldLink RX2 25 "MeshTurns$Packets" "box" "[I" ∈ wsL_law := zsub_3 _ (List.mem_of_getElem? (i := 17) rfl)
theorem qf_RX2_28 : Cond.fieldLink RX2 28 "MeshTurns$Packets" "moves" "[I" ∈ wsL_law := zsub_3 _ (List.mem_of_getElem? (i := 18) rfl)
theorem qf_RX2_31 : Cond.fieldLink RX2 31 "MeshTurns$Packets" "detours" "[I" ∈ wsL_law := zsub_3 _ (List.mem_of_getElem? (i := 19) rfl)
theorem qf_RX2_34 : Cond.fieldLink RX2 34 "MeshTurns$Packets" "waits" "[I" ∈ wsL_law := zsub_3 _ (List.mem_of_getElem? (i := 20) rfl)
theorem qf_RX2_37 : Cond.fieldLink RX2 37 "MeshTurns$Packets" "sentIn" "[I" ∈ wsL_law := zsub_3 _ (List.mem_of_getElem? (i := 21) rfl)
theorem qf_RX2_40 : Cond.fieldLink RX2 40 "MeshTurns$Packets" "arrivedIn" "[I" ∈ wsL_law := zsub_3 _ (List.mem_of_getElem? (i := 22) rfl)
theorem qf_RX2_43 : Cond.fieldLink RX2 43 "MeshTurns$Packets" "turned" "[I" ∈ wsL_law := zsub_3 _ (List.mem_of_getElem? (i := 23) rfl)
theorem qi_X4_init : Cond.instanceMethod yX4_init ∈ wsL_law := zsub_4 _ (List.mem_of_getElem? (i := 0) rfl)
theorem qc_X4_init : Cond.code yX4_init cX4_init 1 none ∈ wsL_law := zsub_4 _ (List.mem_of_getElem? (i := 1) rfl)
theorem qm_RX4_3 : Cond.methodLink RX4 3 objectInit ∈ wsL_law := zsub_4 _ (List.mem_of_getElem? (i := 2) rfl)
theorem qf_RX4_9 : Cond.fieldLink RX4 9 "MeshTurns$Routes" "eastIsFirst" "Z" ∈ wsL_law := zsub_4 _ (List.mem_of_getElem? (i := 3) rfl)
theorem qf_RX4_15 : Cond.fieldLink RX4 15 "MeshTurns$Routes" "open" "[I" ∈ wsL_law := zsub_4 _ (List.mem_of_getElem? (i := 4) rfl)
theorem qf_RX4_19 : Cond.fieldLink RX4 19 "MeshTurns$Routes" "lengths" "[I" ∈ wsL_law := zsub_4 _ (List.mem_of_getElem? (i := 5) rfl)
theorem qf_RX4_22 : Cond.fieldLink RX4 22 "MeshTurns$Routes" "numbers" "[I" ∈ wsL_law := zsub_4 _ (List.mem_of_getElem? (i := 6) rfl)
theorem qf_RX4_25 : Cond.fieldLink RX4 25 "MeshTurns$Routes" "queue" "[I" ∈ wsL_law := zsub_4 _ (List.mem_of_getElem? (i := 7) rfl)
theorem qf_RX4_28 : Cond.fieldLink RX4 28 "MeshTurns$Routes" "queued" "I" ∈ wsL_law := zsub_4 _ (List.mem_of_getElem? (i := 8) rfl)
theorem qi_X1_init : Cond.instanceMethod yX1_init ∈ wsL_law := zsub_4 _ (List.mem_of_getElem? (i := 9) rfl)
theorem qc_X1_init : Cond.code yX1_init cX1_init 1 none ∈ wsL_law := zsub_4 _ (List.mem_of_getElem? (i := 10) rfl)
theorem qm_RX1_3 : Cond.methodLink RX1 3 objectInit ∈ wsL_law := zsub_4 _ (List.mem_of_getElem? (i := 11) rfl)
theorem qf_RX1_9 : Cond.fieldLink RX1 9 "MeshTurns$Jam" "stuck" "[Z" ∈ wsL_law := zsub_4 _ (List.mem_of_getElem? (i := 12) rfl)
theorem qi_X3_init : Cond.instanceMethod yX3_init ∈ wsL_law := zsub_4 _ (List.mem_of_getElem? (i := 13) rfl)
theorem qc_X3_init : Cond.code yX3_init cX3_init 1 none ∈ wsL_law := zsub_4 _ (List.mem_of_getElem? (i := 14) rfl)
theorem qm_RX3_5 : Cond.methodLink RX3 5 objectInit ∈ wsL_law := zsub_4 _ (List.mem_of_getElem? (i := 15) rfl)
theorem qa__char : Cond.arrayClass .char ∈ wsL_law := zsub_4 _ (List.mem_of_getElem? (i := 16) rfl)
theorem qf_RX3_11 : Cond.fieldLink RX3 11 "MeshTurns$Pad" "signs" "[C" ∈ wsL_law := zsub_4 _ (List.mem_of_getElem? (i := 17) rfl)
theorem qf_RX3_15 : Cond.fieldLink RX3 15 "MeshTurns$Pad" "length" "I" ∈ wsL_law := zsub_4 _ (List.mem_of_getElem? (i := 18) rfl)
theorem qf_RX3_19 : Cond.fieldLink RX3 19 "MeshTurns$Pad" "orders" "I" ∈ wsL_law := zsub_4 _ (List.mem_of_getElem? (i := 19) rfl)
theorem qf_RX3_22 : Cond.fieldLink RX3 22 "MeshTurns$Pad" "kinds" "[I" ∈ wsL_law := zsub_4 _ (List.mem_of_getElem? (i := 20) rfl)
theorem qf_RX3_26 : Cond.fieldLink RX3 26 "MeshTurns$Pad" "firsts" "[I" ∈ wsL_law := zsub_4 _ (List.mem_of_getElem? (i := 21) rfl)
theorem qf_RX3_29 : Cond.fieldLink RX3 29 "MeshTurns$Pad" "seconds" "[I" ∈ wsL_law := zsub_4 _ (List.mem_of_getElem? (i := 22) rfl)
theorem qf_RX3_32 : Cond.fieldLink RX3 32 "MeshTurns$Pad" "place" "I" ∈ wsL_law := zsub_4 _ (List.mem_of_getElem? (i := 23) rfl)
theorem qm_RX6_58 : Cond.methodLink RX6 58 yX6_learnRoutes ∈ wsL_law := zsub_5 _ (List.mem_of_getElem? (i := 0) rfl)
theorem qi_X6_learnRoutes : Cond.instanceMethod yX6_learnRoutes ∈ wsL_law := zsub_5 _ (List.mem_of_getElem? (i := 1) rfl)
theorem qs_X6_learnRoutes : Cond.selects RX6 yX6_learnRoutes yX6_learnRoutes ∈ wsL_law := zsub_5 _ (List.mem_of_getElem? (i := 2) rfl)
theorem qc_X6_learnRoutes : Cond.code yX6_learnRoutes cX6_learnRoutes 1 none ∈ wsL_law := zsub_5 _ (List.mem_of_getElem? (i := 3) rfl)
theorem qf_RX6_88 : Cond.fieldLink RX6 88 "MeshTurns$State" "grid" "LMeshTurns$Grid;" ∈ wsL_law := zsub_5 _ (List.mem_of_getElem? (i := 4) rfl)
theorem qf_RX6_71 : Cond.fieldLink RX6 71 "MeshTurns$State" "settings" "[I" ∈ wsL_law := zsub_5 _ (List.mem_of_getElem? (i := 5) rfl)
theorem qm_RX6_257 : Cond.methodLink RX6 257 yX4_learn ∈ wsL_law := zsub_5 _ (List.mem_of_getElem? (i := 6) rfl)
theorem qi_X4_learn : Cond.instanceMethod yX4_learn ∈ wsL_law := zsub_5 _ (List.mem_of_getElem? (i := 7) rfl)
theorem qs_X4_learn : Cond.selects RX4 yX4_learn yX4_learn ∈ wsL_law := zsub_5 _ (List.mem_of_getElem? (i := 8) rfl)
theorem qc_X4_learn : Cond.code yX4_learn cX4_learn 8 none ∈ wsL_law := zsub_5 _ (List.mem_of_getElem? (i := 9) rfl)
theorem qm_RX4_32 : Cond.methodLink RX4 32 yX0_boxes ∈ wsL_law := zsub_5 _ (List.mem_of_getElem? (i := 10) rfl)
theorem qi_X0_boxes : Cond.instanceMethod yX0_boxes ∈ wsL_law := zsub_5 _ (List.mem_of_getElem? (i := 11) rfl)
theorem qs_X0_boxes : Cond.selects RX0 yX0_boxes yX0_boxes ∈ wsL_law := zsub_5 _ (List.mem_of_getElem? (i := 12) rfl)
theorem qc_X0_boxes : Cond.code yX0_boxes cX0_boxes 1 (some .int) ∈ wsL_law := zsub_5 _ (List.mem_of_getElem? (i := 13) rfl)
theorem qm_RX4_38 : Cond.methodLink RX4 38 yX0_linkAt ∈ wsL_law := zsub_5 _ (List.mem_of_getElem? (i := 14) rfl)
theorem qi_X0_linkAt : Cond.instanceMethod yX0_linkAt ∈ wsL_law := zsub_5 _ (List.mem_of_getElem? (i := 15) rfl)
theorem qs_X0_linkAt : Cond.selects RX0 yX0_linkAt yX0_linkAt ∈ wsL_law := zsub_5 _ (List.mem_of_getElem? (i := 16) rfl)
theorem qc_X0_linkAt : Cond.code yX0_linkAt cX0_linkAt 4 (some .int) ∈ wsL_law := zsub_5 _ (List.mem_of_getElem? (i := 17) rfl)
theorem qm_RX0_32 : Cond.methodLink RX0 32 Lib.Math.min.name ∈ wsL_law := zsub_5 _ (List.mem_of_getElem? (i := 18) rfl)
theorem qt_Math_min : Cond.static Lib.Math.min.name ∈ wsL_law := zsub_5 _ (List.mem_of_getElem? (i := 19) rfl)
theorem qn_java_lang_Math : Cond.initialized "java/lang/Math" ∈ wsL_law := zsub_5 _ (List.mem_of_getElem? (i := 20) rfl)
theorem qc_Math_min : Cond.code Lib.Math.min.name Lib.Math.min.code 2 (some .int) ∈ wsL_law := zsub_5 _ (List.mem_of_getElem? (i := 21) rfl)
theorem qm_RX0_28 : Cond.methodLink RX0 28 yX0_beside ∈ wsL_law := zsub_5 _ (List.mem_of_getElem? (i := 22) rfl)
theorem qi_X0_beside : Cond.instanceMethod yX0_beside ∈ wsL_law := zsub_5 _ (List.mem_of_getElem? (i := 23) rfl)
theorem qs_X0_beside : Cond.selects RX0 yX0_beside yX0_beside ∈ wsL_law := zsub_6 _ (List.mem_of_getElem? (i := 0) rfl)
theorem qc_X0_beside : Cond.code yX0_beside cX0_beside 5 (some .int) ∈ wsL_law := zsub_6 _ (List.mem_of_getElem? (i := 1) rfl)
theorem qm_RX4_42 : Cond.methodLink RX4 42 yX0_isWhole ∈ wsL_law := zsub_6 _ (List.mem_of_getElem? (i := 2) rfl)
theorem qi_X0_isWhole : Cond.instanceMethod yX0_isWhole ∈ wsL_law := zsub_6 _ (List.mem_of_getElem? (i := 3) rfl)
theorem qs_X0_isWhole : Cond.selects RX0 yX0_isWhole yX0_isWhole ∈ wsL_law := zsub_6 _ (List.mem_of_getElem? (i := 4) rfl)
theorem qc_X0_isWhole : Cond.code yX0_isWhole cX0_isWhole 2 (some .boolean) ∈ wsL_law := zsub_6 _ (List.mem_of_getElem? (i := 5) rfl)
theorem qm_RX4_46 : Cond.methodLink RX4 46 yX0_beside ∈ wsL_law := zsub_6 _ (List.mem_of_getElem? (i := 6) rfl)
theorem qm_RX4_49 : Cond.methodLink RX4 49 yX4_search ∈ wsL_law := zsub_6 _ (List.mem_of_getElem? (i := 7) rfl)
theorem qi_X4_search : Cond.instanceMethod yX4_search ∈ wsL_law := zsub_6 _ (List.mem_of_getElem? (i := 8) rfl)
theorem qs_X4_search : Cond.selects RX4 yX4_search yX4_search ∈ wsL_law := zsub_6 _ (List.mem_of_getElem? (i := 9) rfl)
theorem qc_X4_search : Cond.code yX4_search cX4_search 3 none ∈ wsL_law := zsub_6 _ (List.mem_of_getElem? (i := 10) rfl)
theorem qm_RX4_53 : Cond.methodLink RX4 53 yX4_spot ∈ wsL_law := zsub_6 _ (List.mem_of_getElem? (i := 11) rfl)
theorem qt_X4_spot : Cond.static yX4_spot ∈ wsL_law := zsub_6 _ (List.mem_of_getElem? (i := 12) rfl)
theorem qc_X4_spot : Cond.code yX4_spot cX4_spot 2 (some .int) ∈ wsL_law := zsub_6 _ (List.mem_of_getElem? (i := 13) rfl)
theorem qm_RX4_67 : Cond.methodLink RX4 67 yX4_reach ∈ wsL_law := zsub_6 _ (List.mem_of_getElem? (i := 14) rfl)
theorem qi_X4_reach : Cond.instanceMethod yX4_reach ∈ wsL_law := zsub_6 _ (List.mem_of_getElem? (i := 15) rfl)
theorem qs_X4_reach : Cond.selects RX4 yX4_reach yX4_reach ∈ wsL_law := zsub_6 _ (List.mem_of_getElem? (i := 16) rfl)
theorem qc_X4_reach : Cond.code yX4_reach cX4_reach 6 none ∈ wsL_law := zsub_6 _ (List.mem_of_getElem? (i := 17) rfl)
theorem qm_RX4_71 : Cond.methodLink RX4 71 yX4_stepBack ∈ wsL_law := zsub_6 _ (List.mem_of_getElem? (i := 18) rfl)
theorem qi_X4_stepBack : Cond.instanceMethod yX4_stepBack ∈ wsL_law := zsub_6 _ (List.mem_of_getElem? (i := 19) rfl)
theorem qs_X4_stepBack : Cond.selects RX4 yX4_stepBack yX4_stepBack ∈ wsL_law := zsub_6 _ (List.mem_of_getElem? (i := 20) rfl)
theorem qc_X4_stepBack : Cond.code yX4_stepBack cX4_stepBack 9 none ∈ wsL_law := zsub_6 _ (List.mem_of_getElem? (i := 21) rfl)
theorem qm_RX4_56 : Cond.methodLink RX4 56 yX4_boxBehind ∈ wsL_law := zsub_6 _ (List.mem_of_getElem? (i := 22) rfl)
theorem qi_X4_boxBehind : Cond.instanceMethod yX4_boxBehind ∈ wsL_law := zsub_6 _ (List.mem_of_getElem? (i := 23) rfl)
theorem qs_X4_boxBehind : Cond.selects RX4 yX4_boxBehind yX4_boxBehind ∈ wsL_law := zsub_7 _ (List.mem_of_getElem? (i := 0) rfl)
theorem qc_X4_boxBehind : Cond.code yX4_boxBehind cX4_boxBehind 4 (some .int) ∈ wsL_law := zsub_7 _ (List.mem_of_getElem? (i := 1) rfl)
theorem qm_RX4_59 : Cond.methodLink RX4 59 yX4_mayMove ∈ wsL_law := zsub_7 _ (List.mem_of_getElem? (i := 2) rfl)
theorem qi_X4_mayMove : Cond.instanceMethod yX4_mayMove ∈ wsL_law := zsub_7 _ (List.mem_of_getElem? (i := 3) rfl)
theorem qs_X4_mayMove : Cond.selects RX4 yX4_mayMove yX4_mayMove ∈ wsL_law := zsub_7 _ (List.mem_of_getElem? (i := 4) rfl)
theorem qc_X4_mayMove : Cond.code yX4_mayMove cX4_mayMove 3 (some .boolean) ∈ wsL_law := zsub_7 _ (List.mem_of_getElem? (i := 5) rfl)
theorem qm_RX4_75 : Cond.methodLink RX4 75 yX4_opposite ∈ wsL_law := zsub_7 _ (List.mem_of_getElem? (i := 6) rfl)
theorem qt_X4_opposite : Cond.static yX4_opposite ∈ wsL_law := zsub_7 _ (List.mem_of_getElem? (i := 7) rfl)
theorem qc_X4_opposite : Cond.code yX4_opposite cX4_opposite 1 (some .int) ∈ wsL_law := zsub_7 _ (List.mem_of_getElem? (i := 8) rfl)
theorem qm_RL_12 : Cond.methodLink RL 12 yX7_init ∈ wsL_law := zsub_7 _ (List.mem_of_getElem? (i := 9) rfl)
theorem qi_X7_init : Cond.instanceMethod yX7_init ∈ wsL_law := zsub_7 _ (List.mem_of_getElem? (i := 10) rfl)
theorem qc_X7_init : Cond.code yX7_init cX7_init 1 none ∈ wsL_law := zsub_7 _ (List.mem_of_getElem? (i := 11) rfl)
theorem qm_RX7_1 : Cond.methodLink RX7 1 objectInit ∈ wsL_law := zsub_7 _ (List.mem_of_getElem? (i := 12) rfl)
theorem qf_RX7_7 : Cond.fieldLink RX7 7 "MeshTurnsModel" "now" "[I" ∈ wsL_law := zsub_7 _ (List.mem_of_getElem? (i := 13) rfl)
theorem qf_RX7_13 : Cond.fieldLink RX7 13 "MeshTurnsModel" "kept" "[I" ∈ wsL_law := zsub_7 _ (List.mem_of_getElem? (i := 14) rfl)
theorem qf_RX7_16 : Cond.fieldLink RX7 16 "MeshTurnsModel" "history" "[I" ∈ wsL_law := zsub_7 _ (List.mem_of_getElem? (i := 15) rfl)
theorem qf_RX7_19 : Cond.fieldLink RX7 19 "MeshTurnsModel" "saved" "[I" ∈ wsL_law := zsub_7 _ (List.mem_of_getElem? (i := 16) rfl)
theorem qf_RX7_22 : Cond.fieldLink RX7 22 "MeshTurnsModel" "isSaved" "[Z" ∈ wsL_law := zsub_7 _ (List.mem_of_getElem? (i := 17) rfl)
theorem qf_RX7_26 : Cond.fieldLink RX7 26 "MeshTurnsModel" "pad" "[I" ∈ wsL_law := zsub_7 _ (List.mem_of_getElem? (i := 18) rfl)
theorem qf_RX7_29 : Cond.fieldLink RX7 29 "MeshTurnsModel" "far" "[I" ∈ wsL_law := zsub_7 _ (List.mem_of_getElem? (i := 19) rfl)
theorem qf_RX7_32 : Cond.fieldLink RX7 32 "MeshTurnsModel" "many" "[I" ∈ wsL_law := zsub_7 _ (List.mem_of_getElem? (i := 20) rfl)
theorem qf_RX7_35 : Cond.fieldLink RX7 35 "MeshTurnsModel" "isLaid" "[Z" ∈ wsL_law := zsub_7 _ (List.mem_of_getElem? (i := 21) rfl)
theorem qf_RX7_38 : Cond.fieldLink RX7 38 "MeshTurnsModel" "sides" "[I" ∈ wsL_law := zsub_7 _ (List.mem_of_getElem? (i := 22) rfl)
theorem qf_RX7_41 : Cond.fieldLink RX7 41 "MeshTurnsModel" "isStuck" "[Z" ∈ wsL_law := zsub_7 _ (List.mem_of_getElem? (i := 23) rfl)
theorem qf_RX7_44 : Cond.fieldLink RX7 44 "MeshTurnsModel" "orders" "[I" ∈ wsL_law := zsub_8 _ (List.mem_of_getElem? (i := 0) rfl)
theorem qm_RL_13 : Cond.methodLink RL 13 yX6_set ∈ wsL_law := zsub_8 _ (List.mem_of_getElem? (i := 1) rfl)
theorem qi_X6_set : Cond.instanceMethod yX6_set ∈ wsL_law := zsub_8 _ (List.mem_of_getElem? (i := 2) rfl)
theorem qs_X6_set : Cond.selects RX6 yX6_set yX6_set ∈ wsL_law := zsub_8 _ (List.mem_of_getElem? (i := 3) rfl)
theorem qc_X6_set : Cond.code yX6_set cX6_set 4 (some .int) ∈ wsL_law := zsub_8 _ (List.mem_of_getElem? (i := 4) rfl)
theorem qm_RX6_61 : Cond.methodLink RX6 61 yX6_leastOfSetting ∈ wsL_law := zsub_8 _ (List.mem_of_getElem? (i := 5) rfl)
theorem qt_X6_leastOfSetting : Cond.static yX6_leastOfSetting ∈ wsL_law := zsub_8 _ (List.mem_of_getElem? (i := 6) rfl)
theorem qc_X6_leastOfSetting : Cond.code yX6_leastOfSetting cX6_leastOfSetting 1 (some .int) ∈ wsL_law := zsub_8 _ (List.mem_of_getElem? (i := 7) rfl)
theorem qm_RX6_65 : Cond.methodLink RX6 65 yX6_mostOfSetting ∈ wsL_law := zsub_8 _ (List.mem_of_getElem? (i := 8) rfl)
theorem qt_X6_mostOfSetting : Cond.static yX6_mostOfSetting ∈ wsL_law := zsub_8 _ (List.mem_of_getElem? (i := 9) rfl)
theorem qc_X6_mostOfSetting : Cond.code yX6_mostOfSetting cX6_mostOfSetting 1 (some .int) ∈ wsL_law := zsub_8 _ (List.mem_of_getElem? (i := 10) rfl)
theorem qm_RX6_68 : Cond.methodLink RX6 68 yX6_recordState ∈ wsL_law := zsub_8 _ (List.mem_of_getElem? (i := 11) rfl)
theorem qi_X6_recordState : Cond.instanceMethod yX6_recordState ∈ wsL_law := zsub_8 _ (List.mem_of_getElem? (i := 12) rfl)
theorem qs_X6_recordState : Cond.selects RX6 yX6_recordState yX6_recordState ∈ wsL_law := zsub_8 _ (List.mem_of_getElem? (i := 13) rfl)
theorem qc_X6_recordState : Cond.code yX6_recordState cX6_recordState 1 none ∈ wsL_law := zsub_8 _ (List.mem_of_getElem? (i := 14) rfl)
theorem qm_RX6_280 : Cond.methodLink RX6 280 yX6_dropOldestState ∈ wsL_law := zsub_8 _ (List.mem_of_getElem? (i := 15) rfl)
theorem qi_X6_dropOldestState : Cond.instanceMethod yX6_dropOldestState ∈ wsL_law := zsub_8 _ (List.mem_of_getElem? (i := 16) rfl)
theorem qs_X6_dropOldestState : Cond.selects RX6 yX6_dropOldestState yX6_dropOldestState ∈ wsL_law := zsub_8 _ (List.mem_of_getElem? (i := 17) rfl)
theorem qc_X6_dropOldestState : Cond.code yX6_dropOldestState cX6_dropOldestState 3 none ∈ wsL_law := zsub_8 _ (List.mem_of_getElem? (i := 18) rfl)
theorem qm_RX6_224 : Cond.methodLink RX6 224 yX5_copyState ∈ wsL_law := zsub_8 _ (List.mem_of_getElem? (i := 19) rfl)
theorem qt_X5_copyState : Cond.static yX5_copyState ∈ wsL_law := zsub_8 _ (List.mem_of_getElem? (i := 20) rfl)
theorem qc_X5_copyState : Cond.code yX5_copyState cX5_copyState 2 none ∈ wsL_law := zsub_8 _ (List.mem_of_getElem? (i := 21) rfl)
theorem qm_RX5_39 : Cond.methodLink RX5 39 arraycopyName ∈ wsL_law := zsub_8 _ (List.mem_of_getElem? (i := 22) rfl)
theorem qv_arraycopyName : Cond.native arraycopyName ∈ wsL_law := zsub_8 _ (List.mem_of_getElem? (i := 23) rfl)
theorem qt_arraycopyName : Cond.static arraycopyName ∈ wsL_law := zsub_9 _ (List.mem_of_getElem? (i := 0) rfl)
theorem qn_java_lang_System : Cond.initialized "java/lang/System" ∈ wsL_law := zsub_9 _ (List.mem_of_getElem? (i := 1) rfl)
theorem qm_RX5_45 : Cond.methodLink RX5 45 yX0_copyGrid ∈ wsL_law := zsub_9 _ (List.mem_of_getElem? (i := 2) rfl)
theorem qi_X0_copyGrid : Cond.instanceMethod yX0_copyGrid ∈ wsL_law := zsub_9 _ (List.mem_of_getElem? (i := 3) rfl)
theorem qs_X0_copyGrid : Cond.selects RX0 yX0_copyGrid yX0_copyGrid ∈ wsL_law := zsub_9 _ (List.mem_of_getElem? (i := 4) rfl)
theorem qc_X0_copyGrid : Cond.code yX0_copyGrid cX0_copyGrid 2 none ∈ wsL_law := zsub_9 _ (List.mem_of_getElem? (i := 5) rfl)
theorem qm_RX5_49 : Cond.methodLink RX5 49 yX2_copyPackets ∈ wsL_law := zsub_9 _ (List.mem_of_getElem? (i := 6) rfl)
theorem qi_X2_copyPackets : Cond.instanceMethod yX2_copyPackets ∈ wsL_law := zsub_9 _ (List.mem_of_getElem? (i := 7) rfl)
theorem qs_X2_copyPackets : Cond.selects RX2 yX2_copyPackets yX2_copyPackets ∈ wsL_law := zsub_9 _ (List.mem_of_getElem? (i := 8) rfl)
theorem qc_X2_copyPackets : Cond.code yX2_copyPackets cX2_copyPackets 2 none ∈ wsL_law := zsub_9 _ (List.mem_of_getElem? (i := 9) rfl)
theorem qm_RX2_46 : Cond.methodLink RX2 46 arraycopyName ∈ wsL_law := zsub_9 _ (List.mem_of_getElem? (i := 10) rfl)
theorem qm_RL_17 : Cond.methodLink RL 17 yX7_set ∈ wsL_law := zsub_9 _ (List.mem_of_getElem? (i := 11) rfl)
theorem qi_X7_set : Cond.instanceMethod yX7_set ∈ wsL_law := zsub_9 _ (List.mem_of_getElem? (i := 12) rfl)
theorem qs_X7_set : Cond.selects RX7 yX7_set yX7_set ∈ wsL_law := zsub_9 _ (List.mem_of_getElem? (i := 13) rfl)
theorem qc_X7_set : Cond.code yX7_set cX7_set 6 (some .int) ∈ wsL_law := zsub_9 _ (List.mem_of_getElem? (i := 14) rfl)
theorem qm_RX7_59 : Cond.methodLink RX7 59 yX7_in ∈ wsL_law := zsub_9 _ (List.mem_of_getElem? (i := 15) rfl)
theorem qt_X7_in : Cond.static yX7_in ∈ wsL_law := zsub_9 _ (List.mem_of_getElem? (i := 16) rfl)
theorem qc_X7_in : Cond.code yX7_in cX7_in 3 (some .boolean) ∈ wsL_law := zsub_9 _ (List.mem_of_getElem? (i := 17) rfl)
theorem qm_RX7_70 : Cond.methodLink RX7 70 yX7_record ∈ wsL_law := zsub_9 _ (List.mem_of_getElem? (i := 18) rfl)
theorem qi_X7_record : Cond.instanceMethod yX7_record ∈ wsL_law := zsub_9 _ (List.mem_of_getElem? (i := 19) rfl)
theorem qs_X7_record : Cond.selects RX7 yX7_record yX7_record ∈ wsL_law := zsub_9 _ (List.mem_of_getElem? (i := 20) rfl)
theorem qc_X7_record : Cond.code yX7_record cX7_record 2 none ∈ wsL_law := zsub_9 _ (List.mem_of_getElem? (i := 21) rfl)
theorem qf_RX7_47 : Cond.fieldLink RX7 47 "MeshTurnsModel" "isInText" "Z" ∈ wsL_law := zsub_9 _ (List.mem_of_getElem? (i := 22) rfl)
theorem qf_RX7_51 : Cond.fieldLink RX7 51 "MeshTurnsModel" "undos" "I" ∈ wsL_law := zsub_9 _ (List.mem_of_getElem? (i := 23) rfl)
theorem qm_RX7_73 : Cond.methodLink RX7 73 yX7_forget ∈ wsL_law := zsub_10 _ (List.mem_of_getElem? (i := 0) rfl)
theorem qi_X7_forget : Cond.instanceMethod yX7_forget ∈ wsL_law := zsub_10 _ (List.mem_of_getElem? (i := 1) rfl)
theorem qs_X7_forget : Cond.selects RX7 yX7_forget yX7_forget ∈ wsL_law := zsub_10 _ (List.mem_of_getElem? (i := 2) rfl)
theorem qc_X7_forget : Cond.code yX7_forget cX7_forget 2 none ∈ wsL_law := zsub_10 _ (List.mem_of_getElem? (i := 3) rfl)
theorem qm_RL_18 : Cond.methodLink RL 18 yX6_mesh ∈ wsL_law := zsub_10 _ (List.mem_of_getElem? (i := 4) rfl)
theorem qi_X6_mesh : Cond.instanceMethod yX6_mesh ∈ wsL_law := zsub_10 _ (List.mem_of_getElem? (i := 5) rfl)
theorem qs_X6_mesh : Cond.selects RX6 yX6_mesh yX6_mesh ∈ wsL_law := zsub_10 _ (List.mem_of_getElem? (i := 6) rfl)
theorem qc_X6_mesh : Cond.code yX6_mesh cX6_mesh 3 (some .int) ∈ wsL_law := zsub_10 _ (List.mem_of_getElem? (i := 7) rfl)
theorem qf_RX6_79 : Cond.fieldLink RX6 79 "MeshTurns$State" "packets" "LMeshTurns$Packets;" ∈ wsL_law := zsub_10 _ (List.mem_of_getElem? (i := 8) rfl)
theorem qf_RX6_83 : Cond.fieldLink RX6 83 "MeshTurns$Packets" "sent" "I" ∈ wsL_law := zsub_10 _ (List.mem_of_getElem? (i := 9) rfl)
theorem qm_RX6_75 : Cond.methodLink RX6 75 yX6_isLine ∈ wsL_law := zsub_10 _ (List.mem_of_getElem? (i := 10) rfl)
theorem qt_X6_isLine : Cond.static yX6_isLine ∈ wsL_law := zsub_10 _ (List.mem_of_getElem? (i := 11) rfl)
theorem qc_X6_isLine : Cond.code yX6_isLine cX6_isLine 1 (some .boolean) ∈ wsL_law := zsub_10 _ (List.mem_of_getElem? (i := 12) rfl)
theorem qm_RX6_92 : Cond.methodLink RX6 92 yX0_layOut ∈ wsL_law := zsub_10 _ (List.mem_of_getElem? (i := 13) rfl)
theorem qi_X0_layOut : Cond.instanceMethod yX0_layOut ∈ wsL_law := zsub_10 _ (List.mem_of_getElem? (i := 14) rfl)
theorem qs_X0_layOut : Cond.selects RX0 yX0_layOut yX0_layOut ∈ wsL_law := zsub_10 _ (List.mem_of_getElem? (i := 15) rfl)
theorem qc_X0_layOut : Cond.code yX0_layOut cX0_layOut 3 none ∈ wsL_law := zsub_10 _ (List.mem_of_getElem? (i := 16) rfl)
theorem qm_RX6_98 : Cond.methodLink RX6 98 yX0_boxes ∈ wsL_law := zsub_10 _ (List.mem_of_getElem? (i := 17) rfl)
theorem qm_RL_21 : Cond.methodLink RL 21 yX7_mesh ∈ wsL_law := zsub_10 _ (List.mem_of_getElem? (i := 18) rfl)
theorem qi_X7_mesh : Cond.instanceMethod yX7_mesh ∈ wsL_law := zsub_10 _ (List.mem_of_getElem? (i := 19) rfl)
theorem qs_X7_mesh : Cond.selects RX7 yX7_mesh yX7_mesh ∈ wsL_law := zsub_10 _ (List.mem_of_getElem? (i := 20) rfl)
theorem qc_X7_mesh : Cond.code yX7_mesh cX7_mesh 4 (some .int) ∈ wsL_law := zsub_10 _ (List.mem_of_getElem? (i := 21) rfl)
theorem qm_RX7_55 : Cond.methodLink RX7 55 yX7_boxes ∈ wsL_law := zsub_10 _ (List.mem_of_getElem? (i := 22) rfl)
theorem qi_X7_boxes : Cond.instanceMethod yX7_boxes ∈ wsL_law := zsub_10 _ (List.mem_of_getElem? (i := 23) rfl)
theorem qs_X7_boxes : Cond.selects RX7 yX7_boxes yX7_boxes ∈ wsL_law := zsub_11 _ (List.mem_of_getElem? (i := 0) rfl)
theorem qc_X7_boxes : Cond.code yX7_boxes cX7_boxes 1 (some .int) ∈ wsL_law := zsub_11 _ (List.mem_of_getElem? (i := 1) rfl)
theorem qm_RL_22 : Cond.methodLink RL 22 yX6_link ∈ wsL_law := zsub_11 _ (List.mem_of_getElem? (i := 2) rfl)
theorem qi_X6_link : Cond.instanceMethod yX6_link ∈ wsL_law := zsub_11 _ (List.mem_of_getElem? (i := 3) rfl)
theorem qs_X6_link : Cond.selects RX6 yX6_link yX6_link ∈ wsL_law := zsub_11 _ (List.mem_of_getElem? (i := 4) rfl)
theorem qc_X6_link : Cond.code yX6_link cX6_link 5 (some .int) ∈ wsL_law := zsub_11 _ (List.mem_of_getElem? (i := 5) rfl)
theorem qm_RX6_102 : Cond.methodLink RX6 102 yX6_linkError ∈ wsL_law := zsub_11 _ (List.mem_of_getElem? (i := 6) rfl)
theorem qi_X6_linkError : Cond.instanceMethod yX6_linkError ∈ wsL_law := zsub_11 _ (List.mem_of_getElem? (i := 7) rfl)
theorem qs_X6_linkError : Cond.selects RX6 yX6_linkError yX6_linkError ∈ wsL_law := zsub_11 _ (List.mem_of_getElem? (i := 8) rfl)
theorem qc_X6_linkError : Cond.code yX6_linkError cX6_linkError 4 (some .int) ∈ wsL_law := zsub_11 _ (List.mem_of_getElem? (i := 9) rfl)
theorem qm_RX6_171 : Cond.methodLink RX6 171 yX0_has ∈ wsL_law := zsub_11 _ (List.mem_of_getElem? (i := 10) rfl)
theorem qi_X0_has : Cond.instanceMethod yX0_has ∈ wsL_law := zsub_11 _ (List.mem_of_getElem? (i := 11) rfl)
theorem qs_X0_has : Cond.selects RX0 yX0_has yX0_has ∈ wsL_law := zsub_11 _ (List.mem_of_getElem? (i := 12) rfl)
theorem qc_X0_has : Cond.code yX0_has cX0_has 2 (some .boolean) ∈ wsL_law := zsub_11 _ (List.mem_of_getElem? (i := 13) rfl)
theorem qm_RX6_251 : Cond.methodLink RX6 251 yX6_isSide ∈ wsL_law := zsub_11 _ (List.mem_of_getElem? (i := 14) rfl)
theorem qt_X6_isSide : Cond.static yX6_isSide ∈ wsL_law := zsub_11 _ (List.mem_of_getElem? (i := 15) rfl)
theorem qc_X6_isSide : Cond.code yX6_isSide cX6_isSide 1 (some .boolean) ∈ wsL_law := zsub_11 _ (List.mem_of_getElem? (i := 16) rfl)
theorem qm_RX6_254 : Cond.methodLink RX6 254 yX0_beside ∈ wsL_law := zsub_11 _ (List.mem_of_getElem? (i := 17) rfl)
theorem qm_RX6_106 : Cond.methodLink RX6 106 yX6_changeLink ∈ wsL_law := zsub_11 _ (List.mem_of_getElem? (i := 18) rfl)
theorem qi_X6_changeLink : Cond.instanceMethod yX6_changeLink ∈ wsL_law := zsub_11 _ (List.mem_of_getElem? (i := 19) rfl)
theorem qs_X6_changeLink : Cond.selects RX6 yX6_changeLink yX6_changeLink ∈ wsL_law := zsub_11 _ (List.mem_of_getElem? (i := 20) rfl)
theorem qc_X6_changeLink : Cond.code yX6_changeLink cX6_changeLink 6 (some .int) ∈ wsL_law := zsub_11 _ (List.mem_of_getElem? (i := 21) rfl)
theorem qm_RX6_261 : Cond.methodLink RX6 261 yX0_linkAt ∈ wsL_law := zsub_11 _ (List.mem_of_getElem? (i := 22) rfl)
theorem qm_RX6_264 : Cond.methodLink RX6 264 yX0_isWhole ∈ wsL_law := zsub_11 _ (List.mem_of_getElem? (i := 23) rfl)
theorem qm_RX6_267 : Cond.methodLink RX6 267 yX0_makeWhole ∈ wsL_law := zsub_12 _ (List.mem_of_getElem? (i := 0) rfl)
theorem qi_X0_makeWhole : Cond.instanceMethod yX0_makeWhole ∈ wsL_law := zsub_12 _ (List.mem_of_getElem? (i := 1) rfl)
theorem qs_X0_makeWhole : Cond.selects RX0 yX0_makeWhole yX0_makeWhole ∈ wsL_law := zsub_12 _ (List.mem_of_getElem? (i := 2) rfl)
theorem qc_X0_makeWhole : Cond.code yX0_makeWhole cX0_makeWhole 5 none ∈ wsL_law := zsub_12 _ (List.mem_of_getElem? (i := 3) rfl)
theorem ql_RX0_41 : Cond.constantLong RX0 41 (-1) ∈ wsL_law := zsub_12 _ (List.mem_of_getElem? (i := 4) rfl)
theorem qm_RL_26 : Cond.methodLink RL 26 yX7_link ∈ wsL_law := zsub_12 _ (List.mem_of_getElem? (i := 5) rfl)
theorem qi_X7_link : Cond.instanceMethod yX7_link ∈ wsL_law := zsub_12 _ (List.mem_of_getElem? (i := 6) rfl)
theorem qs_X7_link : Cond.selects RX7 yX7_link yX7_link ∈ wsL_law := zsub_12 _ (List.mem_of_getElem? (i := 7) rfl)
theorem qc_X7_link : Cond.code yX7_link cX7_link 6 (some .int) ∈ wsL_law := zsub_12 _ (List.mem_of_getElem? (i := 8) rfl)
theorem qm_RX7_76 : Cond.methodLink RX7 76 yX7_isBox ∈ wsL_law := zsub_12 _ (List.mem_of_getElem? (i := 9) rfl)
theorem qi_X7_isBox : Cond.instanceMethod yX7_isBox ∈ wsL_law := zsub_12 _ (List.mem_of_getElem? (i := 10) rfl)
theorem qs_X7_isBox : Cond.selects RX7 yX7_isBox yX7_isBox ∈ wsL_law := zsub_12 _ (List.mem_of_getElem? (i := 11) rfl)
theorem qc_X7_isBox : Cond.code yX7_isBox cX7_isBox 2 (some .boolean) ∈ wsL_law := zsub_12 _ (List.mem_of_getElem? (i := 12) rfl)
theorem qm_RX7_63 : Cond.methodLink RX7 63 yX7_beside ∈ wsL_law := zsub_12 _ (List.mem_of_getElem? (i := 13) rfl)
theorem qi_X7_beside : Cond.instanceMethod yX7_beside ∈ wsL_law := zsub_12 _ (List.mem_of_getElem? (i := 14) rfl)
theorem qs_X7_beside : Cond.selects RX7 yX7_beside yX7_beside ∈ wsL_law := zsub_12 _ (List.mem_of_getElem? (i := 15) rfl)
theorem qc_X7_beside : Cond.code yX7_beside cX7_beside 6 (some .int) ∈ wsL_law := zsub_12 _ (List.mem_of_getElem? (i := 16) rfl)
theorem qm_RX7_67 : Cond.methodLink RX7 67 yX7_linkOf ∈ wsL_law := zsub_12 _ (List.mem_of_getElem? (i := 17) rfl)
theorem qi_X7_linkOf : Cond.instanceMethod yX7_linkOf ∈ wsL_law := zsub_12 _ (List.mem_of_getElem? (i := 18) rfl)
theorem qs_X7_linkOf : Cond.selects RX7 yX7_linkOf yX7_linkOf ∈ wsL_law := zsub_12 _ (List.mem_of_getElem? (i := 19) rfl)
theorem qc_X7_linkOf : Cond.code yX7_linkOf cX7_linkOf 4 (some .int) ∈ wsL_law := zsub_12 _ (List.mem_of_getElem? (i := 20) rfl)
theorem qm_RL_27 : Cond.methodLink RL 27 yX6_send ∈ wsL_law := zsub_12 _ (List.mem_of_getElem? (i := 21) rfl)
theorem qi_X6_send : Cond.instanceMethod yX6_send ∈ wsL_law := zsub_12 _ (List.mem_of_getElem? (i := 22) rfl)
theorem qs_X6_send : Cond.selects RX6 yX6_send yX6_send ∈ wsL_law := zsub_12 _ (List.mem_of_getElem? (i := 23) rfl)
theorem qc_X6_send : Cond.code yX6_send cX6_send 4 (some .int) ∈ wsL_law := zsub_13 _ (List.mem_of_getElem? (i := 0) rfl)
theorem qf_RX6_113 : Cond.fieldLink RX6 113 "MeshTurns$State" "tick" "I" ∈ wsL_law := zsub_13 _ (List.mem_of_getElem? (i := 1) rfl)
theorem qm_RX6_109 : Cond.methodLink RX6 109 yX6_sendError ∈ wsL_law := zsub_13 _ (List.mem_of_getElem? (i := 2) rfl)
theorem qi_X6_sendError : Cond.instanceMethod yX6_sendError ∈ wsL_law := zsub_13 _ (List.mem_of_getElem? (i := 3) rfl)
theorem qs_X6_sendError : Cond.selects RX6 yX6_sendError yX6_sendError ∈ wsL_law := zsub_13 _ (List.mem_of_getElem? (i := 4) rfl)
theorem qc_X6_sendError : Cond.code yX6_sendError cX6_sendError 3 (some .int) ∈ wsL_law := zsub_13 _ (List.mem_of_getElem? (i := 5) rfl)
theorem qm_RX6_201 : Cond.methodLink RX6 201 yX5_wayLength ∈ wsL_law := zsub_13 _ (List.mem_of_getElem? (i := 6) rfl)
theorem qi_X5_wayLength : Cond.instanceMethod yX5_wayLength ∈ wsL_law := zsub_13 _ (List.mem_of_getElem? (i := 7) rfl)
theorem qs_X5_wayLength : Cond.selects RX5 yX5_wayLength yX5_wayLength ∈ wsL_law := zsub_13 _ (List.mem_of_getElem? (i := 8) rfl)
theorem qc_X5_wayLength : Cond.code yX5_wayLength cX5_wayLength 5 (some .int) ∈ wsL_law := zsub_13 _ (List.mem_of_getElem? (i := 9) rfl)
theorem qm_RX5_53 : Cond.methodLink RX5 53 yX4_length ∈ wsL_law := zsub_13 _ (List.mem_of_getElem? (i := 10) rfl)
theorem qi_X4_length : Cond.instanceMethod yX4_length ∈ wsL_law := zsub_13 _ (List.mem_of_getElem? (i := 11) rfl)
theorem qs_X4_length : Cond.selects RX4 yX4_length yX4_length ∈ wsL_law := zsub_13 _ (List.mem_of_getElem? (i := 12) rfl)
theorem qc_X4_length : Cond.code yX4_length cX4_length 5 (some .int) ∈ wsL_law := zsub_13 _ (List.mem_of_getElem? (i := 13) rfl)
theorem qm_RX5_59 : Cond.methodLink RX5 59 yX0_distance ∈ wsL_law := zsub_13 _ (List.mem_of_getElem? (i := 14) rfl)
theorem qi_X0_distance : Cond.instanceMethod yX0_distance ∈ wsL_law := zsub_13 _ (List.mem_of_getElem? (i := 15) rfl)
theorem qs_X0_distance : Cond.selects RX0 yX0_distance yX0_distance ∈ wsL_law := zsub_13 _ (List.mem_of_getElem? (i := 16) rfl)
theorem qc_X0_distance : Cond.code yX0_distance cX0_distance 3 (some .int) ∈ wsL_law := zsub_13 _ (List.mem_of_getElem? (i := 17) rfl)
theorem qm_RX0_22 : Cond.methodLink RX0 22 Lib.Math.abs.name ∈ wsL_law := zsub_13 _ (List.mem_of_getElem? (i := 18) rfl)
theorem qt_Math_abs : Cond.static Lib.Math.abs.name ∈ wsL_law := zsub_13 _ (List.mem_of_getElem? (i := 19) rfl)
theorem qc_Math_abs : Cond.code Lib.Math.abs.name Lib.Math.abs.code 1 (some .int) ∈ wsL_law := zsub_13 _ (List.mem_of_getElem? (i := 20) rfl)
theorem qm_RX6_116 : Cond.methodLink RX6 116 yX2_add ∈ wsL_law := zsub_13 _ (List.mem_of_getElem? (i := 21) rfl)
theorem qi_X2_add : Cond.instanceMethod yX2_add ∈ wsL_law := zsub_13 _ (List.mem_of_getElem? (i := 22) rfl)
theorem qs_X2_add : Cond.selects RX2 yX2_add yX2_add ∈ wsL_law := zsub_13 _ (List.mem_of_getElem? (i := 23) rfl)
theorem qc_X2_add : Cond.code yX2_add cX2_add 5 (some .int) ∈ wsL_law := zsub_14 _ (List.mem_of_getElem? (i := 0) rfl)
theorem qm_RL_30 : Cond.methodLink RL 30 yX7_send ∈ wsL_law := zsub_14 _ (List.mem_of_getElem? (i := 1) rfl)
theorem qi_X7_send : Cond.instanceMethod yX7_send ∈ wsL_law := zsub_14 _ (List.mem_of_getElem? (i := 2) rfl)
theorem qs_X7_send : Cond.selects RX7 yX7_send yX7_send ∈ wsL_law := zsub_14 _ (List.mem_of_getElem? (i := 3) rfl)
theorem qc_X7_send : Cond.code yX7_send cX7_send 5 (some .int) ∈ wsL_law := zsub_14 _ (List.mem_of_getElem? (i := 4) rfl)
theorem qm_RX7_105 : Cond.methodLink RX7 105 yX7_farOf ∈ wsL_law := zsub_14 _ (List.mem_of_getElem? (i := 5) rfl)
theorem qi_X7_farOf : Cond.instanceMethod yX7_farOf ∈ wsL_law := zsub_14 _ (List.mem_of_getElem? (i := 6) rfl)
theorem qs_X7_farOf : Cond.selects RX7 yX7_farOf yX7_farOf ∈ wsL_law := zsub_14 _ (List.mem_of_getElem? (i := 7) rfl)
theorem qc_X7_farOf : Cond.code yX7_farOf cX7_farOf 3 (some .int) ∈ wsL_law := zsub_14 _ (List.mem_of_getElem? (i := 8) rfl)
theorem qm_RX7_94 : Cond.methodLink RX7 94 yX7_layFar ∈ wsL_law := zsub_14 _ (List.mem_of_getElem? (i := 9) rfl)
theorem qi_X7_layFar : Cond.instanceMethod yX7_layFar ∈ wsL_law := zsub_14 _ (List.mem_of_getElem? (i := 10) rfl)
theorem qs_X7_layFar : Cond.selects RX7 yX7_layFar yX7_layFar ∈ wsL_law := zsub_14 _ (List.mem_of_getElem? (i := 11) rfl)
theorem qc_X7_layFar : Cond.code yX7_layFar cX7_layFar 10 none ∈ wsL_law := zsub_14 _ (List.mem_of_getElem? (i := 12) rfl)
theorem qm_RX7_90 : Cond.methodLink RX7 90 yX7_moved ∈ wsL_law := zsub_14 _ (List.mem_of_getElem? (i := 13) rfl)
theorem qi_X7_moved : Cond.instanceMethod yX7_moved ∈ wsL_law := zsub_14 _ (List.mem_of_getElem? (i := 14) rfl)
theorem qs_X7_moved : Cond.selects RX7 yX7_moved yX7_moved ∈ wsL_law := zsub_14 _ (List.mem_of_getElem? (i := 15) rfl)
theorem qc_X7_moved : Cond.code yX7_moved cX7_moved 9 (some .int) ∈ wsL_law := zsub_14 _ (List.mem_of_getElem? (i := 16) rfl)
theorem qm_RX7_83 : Cond.methodLink RX7 83 yX7_isWhole ∈ wsL_law := zsub_14 _ (List.mem_of_getElem? (i := 17) rfl)
theorem qi_X7_isWhole : Cond.instanceMethod yX7_isWhole ∈ wsL_law := zsub_14 _ (List.mem_of_getElem? (i := 18) rfl)
theorem qs_X7_isWhole : Cond.selects RX7 yX7_isWhole yX7_isWhole ∈ wsL_law := zsub_14 _ (List.mem_of_getElem? (i := 19) rfl)
theorem qc_X7_isWhole : Cond.code yX7_isWhole cX7_isWhole 3 (some .boolean) ∈ wsL_law := zsub_14 _ (List.mem_of_getElem? (i := 20) rfl)
theorem qm_RX7_87 : Cond.methodLink RX7 87 yX7_isDetour ∈ wsL_law := zsub_14 _ (List.mem_of_getElem? (i := 21) rfl)
theorem qi_X7_isDetour : Cond.instanceMethod yX7_isDetour ∈ wsL_law := zsub_14 _ (List.mem_of_getElem? (i := 22) rfl)
theorem qs_X7_isDetour : Cond.selects RX7 yX7_isDetour yX7_isDetour ∈ wsL_law := zsub_14 _ (List.mem_of_getElem? (i := 23) rfl)
theorem qc_X7_isDetour : Cond.code yX7_isDetour cX7_isDetour 4 (some .boolean) ∈ wsL_law := zsub_15 _ (List.mem_of_getElem? (i := 0) rfl)
theorem qm_RX7_80 : Cond.methodLink RX7 80 yX7_apart ∈ wsL_law := zsub_15 _ (List.mem_of_getElem? (i := 1) rfl)
theorem qi_X7_apart : Cond.instanceMethod yX7_apart ∈ wsL_law := zsub_15 _ (List.mem_of_getElem? (i := 2) rfl)
theorem qs_X7_apart : Cond.selects RX7 yX7_apart yX7_apart ∈ wsL_law := zsub_15 _ (List.mem_of_getElem? (i := 3) rfl)
theorem qc_X7_apart : Cond.code yX7_apart cX7_apart 5 (some .int) ∈ wsL_law := zsub_15 _ (List.mem_of_getElem? (i := 4) rfl)
theorem qm_RX7_111 : Cond.methodLink RX7 111 yX7_book ∈ wsL_law := zsub_15 _ (List.mem_of_getElem? (i := 5) rfl)
theorem qi_X7_book : Cond.instanceMethod yX7_book ∈ wsL_law := zsub_15 _ (List.mem_of_getElem? (i := 6) rfl)
theorem qs_X7_book : Cond.selects RX7 yX7_book yX7_book ∈ wsL_law := zsub_15 _ (List.mem_of_getElem? (i := 7) rfl)
theorem qc_X7_book : Cond.code yX7_book cX7_book 4 none ∈ wsL_law := zsub_15 _ (List.mem_of_getElem? (i := 8) rfl)
theorem qm_RL_31 : Cond.methodLink RL 31 yX6_ticks ∈ wsL_law := zsub_15 _ (List.mem_of_getElem? (i := 9) rfl)
theorem qi_X6_ticks : Cond.instanceMethod yX6_ticks ∈ wsL_law := zsub_15 _ (List.mem_of_getElem? (i := 10) rfl)
theorem qs_X6_ticks : Cond.selects RX6 yX6_ticks yX6_ticks ∈ wsL_law := zsub_15 _ (List.mem_of_getElem? (i := 11) rfl)
theorem qc_X6_ticks : Cond.code yX6_ticks cX6_ticks 2 (some .int) ∈ wsL_law := zsub_15 _ (List.mem_of_getElem? (i := 12) rfl)
theorem qm_RX6_119 : Cond.methodLink RX6 119 yX6_isTicks ∈ wsL_law := zsub_15 _ (List.mem_of_getElem? (i := 13) rfl)
theorem qt_X6_isTicks : Cond.static yX6_isTicks ∈ wsL_law := zsub_15 _ (List.mem_of_getElem? (i := 14) rfl)
theorem qc_X6_isTicks : Cond.code yX6_isTicks cX6_isTicks 1 (some .boolean) ∈ wsL_law := zsub_15 _ (List.mem_of_getElem? (i := 15) rfl)
theorem qm_RX6_122 : Cond.methodLink RX6 122 yX5_passTicks ∈ wsL_law := zsub_15 _ (List.mem_of_getElem? (i := 16) rfl)
theorem qi_X5_passTicks : Cond.instanceMethod yX5_passTicks ∈ wsL_law := zsub_15 _ (List.mem_of_getElem? (i := 17) rfl)
theorem qs_X5_passTicks : Cond.selects RX5 yX5_passTicks yX5_passTicks ∈ wsL_law := zsub_15 _ (List.mem_of_getElem? (i := 18) rfl)
theorem qc_X5_passTicks : Cond.code yX5_passTicks cX5_passTicks 7 none ∈ wsL_law := zsub_15 _ (List.mem_of_getElem? (i := 19) rfl)
theorem qf_RX5_110 : Cond.fieldLink RX5 110 "MeshTurns$Packets" "sent" "I" ∈ wsL_law := zsub_15 _ (List.mem_of_getElem? (i := 20) rfl)
theorem qf_RX5_88 : Cond.fieldLink RX5 88 "MeshTurns$Packets" "place" "[I" ∈ wsL_law := zsub_15 _ (List.mem_of_getElem? (i := 21) rfl)
theorem qf_RX5_120 : Cond.fieldLink RX5 120 "MeshTurns$Packets" "waits" "[I" ∈ wsL_law := zsub_15 _ (List.mem_of_getElem? (i := 22) rfl)
theorem qm_RX5_113 : Cond.methodLink RX5 113 yX5_comesInside ∈ wsL_law := zsub_15 _ (List.mem_of_getElem? (i := 23) rfl)
theorem qi_X5_comesInside : Cond.instanceMethod yX5_comesInside ∈ wsL_law := zsub_16 _ (List.mem_of_getElem? (i := 0) rfl)
theorem qs_X5_comesInside : Cond.selects RX5 yX5_comesInside yX5_comesInside ∈ wsL_law := zsub_16 _ (List.mem_of_getElem? (i := 1) rfl)
theorem qc_X5_comesInside : Cond.code yX5_comesInside cX5_comesInside 3 (some .boolean) ∈ wsL_law := zsub_16 _ (List.mem_of_getElem? (i := 2) rfl)
theorem qf_RX5_63 : Cond.fieldLink RX5 63 "MeshTurns$Packets" "box" "[I" ∈ wsL_law := zsub_16 _ (List.mem_of_getElem? (i := 3) rfl)
theorem qm_RX5_98 : Cond.methodLink RX5 98 yX5_hasRoom ∈ wsL_law := zsub_16 _ (List.mem_of_getElem? (i := 4) rfl)
theorem qi_X5_hasRoom : Cond.instanceMethod yX5_hasRoom ∈ wsL_law := zsub_16 _ (List.mem_of_getElem? (i := 5) rfl)
theorem qs_X5_hasRoom : Cond.selects RX5 yX5_hasRoom yX5_hasRoom ∈ wsL_law := zsub_16 _ (List.mem_of_getElem? (i := 6) rfl)
theorem qc_X5_hasRoom : Cond.code yX5_hasRoom cX5_hasRoom 2 (some .boolean) ∈ wsL_law := zsub_16 _ (List.mem_of_getElem? (i := 7) rfl)
theorem qm_RX5_116 : Cond.methodLink RX5 116 yX5_movesOn ∈ wsL_law := zsub_16 _ (List.mem_of_getElem? (i := 8) rfl)
theorem qi_X5_movesOn : Cond.instanceMethod yX5_movesOn ∈ wsL_law := zsub_16 _ (List.mem_of_getElem? (i := 9) rfl)
theorem qs_X5_movesOn : Cond.selects RX5 yX5_movesOn yX5_movesOn ∈ wsL_law := zsub_16 _ (List.mem_of_getElem? (i := 10) rfl)
theorem qc_X5_movesOn : Cond.code yX5_movesOn cX5_movesOn 7 (some .boolean) ∈ wsL_law := zsub_16 _ (List.mem_of_getElem? (i := 11) rfl)
theorem qf_RX5_69 : Cond.fieldLink RX5 69 "MeshTurns$Packets" "to" "[I" ∈ wsL_law := zsub_16 _ (List.mem_of_getElem? (i := 12) rfl)
theorem qf_RX5_131 : Cond.fieldLink RX5 131 "MeshTurns$Packets" "arrivedIn" "[I" ∈ wsL_law := zsub_16 _ (List.mem_of_getElem? (i := 13) rfl)
theorem qm_RX5_123 : Cond.methodLink RX5 123 yX5_firstSide ∈ wsL_law := zsub_16 _ (List.mem_of_getElem? (i := 14) rfl)
theorem qi_X5_firstSide : Cond.instanceMethod yX5_firstSide ∈ wsL_law := zsub_16 _ (List.mem_of_getElem? (i := 15) rfl)
theorem qs_X5_firstSide : Cond.selects RX5 yX5_firstSide yX5_firstSide ∈ wsL_law := zsub_16 _ (List.mem_of_getElem? (i := 16) rfl)
theorem qc_X5_firstSide : Cond.code yX5_firstSide cX5_firstSide 9 (some .int) ∈ wsL_law := zsub_16 _ (List.mem_of_getElem? (i := 17) rfl)
theorem qf_RX5_66 : Cond.fieldLink RX5 66 "MeshTurns$Packets" "turned" "[I" ∈ wsL_law := zsub_16 _ (List.mem_of_getElem? (i := 18) rfl)
theorem qm_RX5_72 : Cond.methodLink RX5 72 yX5_mostMoves ∈ wsL_law := zsub_16 _ (List.mem_of_getElem? (i := 19) rfl)
theorem qi_X5_mostMoves : Cond.instanceMethod yX5_mostMoves ∈ wsL_law := zsub_16 _ (List.mem_of_getElem? (i := 20) rfl)
theorem qs_X5_mostMoves : Cond.selects RX5 yX5_mostMoves yX5_mostMoves ∈ wsL_law := zsub_16 _ (List.mem_of_getElem? (i := 21) rfl)
theorem qc_X5_mostMoves : Cond.code yX5_mostMoves cX5_mostMoves 3 (some .int) ∈ wsL_law := zsub_16 _ (List.mem_of_getElem? (i := 22) rfl)
theorem qf_RX5_76 : Cond.fieldLink RX5 76 "MeshTurns$Packets" "detours" "[I" ∈ wsL_law := zsub_16 _ (List.mem_of_getElem? (i := 23) rfl)
theorem qm_RX5_79 : Cond.methodLink RX5 79 Lib.Math.max.name ∈ wsL_law := zsub_17 _ (List.mem_of_getElem? (i := 0) rfl)
theorem qt_Math_max : Cond.static Lib.Math.max.name ∈ wsL_law := zsub_17 _ (List.mem_of_getElem? (i := 1) rfl)
theorem qc_Math_max : Cond.code Lib.Math.max.name Lib.Math.max.code 2 (some .int) ∈ wsL_law := zsub_17 _ (List.mem_of_getElem? (i := 2) rfl)
theorem qm_RX5_84 : Cond.methodLink RX5 84 yX4_lengthAfter ∈ wsL_law := zsub_17 _ (List.mem_of_getElem? (i := 3) rfl)
theorem qi_X4_lengthAfter : Cond.instanceMethod yX4_lengthAfter ∈ wsL_law := zsub_17 _ (List.mem_of_getElem? (i := 4) rfl)
theorem qs_X4_lengthAfter : Cond.selects RX4 yX4_lengthAfter yX4_lengthAfter ∈ wsL_law := zsub_17 _ (List.mem_of_getElem? (i := 5) rfl)
theorem qc_X4_lengthAfter : Cond.code yX4_lengthAfter cX4_lengthAfter 6 (some .int) ∈ wsL_law := zsub_17 _ (List.mem_of_getElem? (i := 6) rfl)
theorem qm_RX4_63 : Cond.methodLink RX4 63 yX4_length ∈ wsL_law := zsub_17 _ (List.mem_of_getElem? (i := 7) rfl)
theorem qm_RX5_91 : Cond.methodLink RX5 91 yX4_boxBehind ∈ wsL_law := zsub_17 _ (List.mem_of_getElem? (i := 8) rfl)
theorem qm_RX5_94 : Cond.methodLink RX5 94 yX5_letsIn ∈ wsL_law := zsub_17 _ (List.mem_of_getElem? (i := 9) rfl)
theorem qi_X5_letsIn : Cond.instanceMethod yX5_letsIn ∈ wsL_law := zsub_17 _ (List.mem_of_getElem? (i := 10) rfl)
theorem qs_X5_letsIn : Cond.selects RX5 yX5_letsIn yX5_letsIn ∈ wsL_law := zsub_17 _ (List.mem_of_getElem? (i := 11) rfl)
theorem qc_X5_letsIn : Cond.code yX5_letsIn cX5_letsIn 3 (some .boolean) ∈ wsL_law := zsub_17 _ (List.mem_of_getElem? (i := 12) rfl)
theorem qm_RX5_127 : Cond.methodLink RX5 127 yX2_noteMove ∈ wsL_law := zsub_17 _ (List.mem_of_getElem? (i := 13) rfl)
theorem qi_X2_noteMove : Cond.instanceMethod yX2_noteMove ∈ wsL_law := zsub_17 _ (List.mem_of_getElem? (i := 14) rfl)
theorem qs_X2_noteMove : Cond.selects RX2 yX2_noteMove yX2_noteMove ∈ wsL_law := zsub_17 _ (List.mem_of_getElem? (i := 15) rfl)
theorem qc_X2_noteMove : Cond.code yX2_noteMove cX2_noteMove 5 none ∈ wsL_law := zsub_17 _ (List.mem_of_getElem? (i := 16) rfl)
theorem qm_RL_35 : Cond.methodLink RL 35 yX7_ticks ∈ wsL_law := zsub_17 _ (List.mem_of_getElem? (i := 17) rfl)
theorem qi_X7_ticks : Cond.instanceMethod yX7_ticks ∈ wsL_law := zsub_17 _ (List.mem_of_getElem? (i := 18) rfl)
theorem qs_X7_ticks : Cond.selects RX7 yX7_ticks yX7_ticks ∈ wsL_law := zsub_17 _ (List.mem_of_getElem? (i := 19) rfl)
theorem qc_X7_ticks : Cond.code yX7_ticks cX7_ticks 3 (some .int) ∈ wsL_law := zsub_17 _ (List.mem_of_getElem? (i := 20) rfl)
theorem qm_RX7_128 : Cond.methodLink RX7 128 yX7_pass ∈ wsL_law := zsub_17 _ (List.mem_of_getElem? (i := 21) rfl)
theorem qi_X7_pass : Cond.instanceMethod yX7_pass ∈ wsL_law := zsub_17 _ (List.mem_of_getElem? (i := 22) rfl)
theorem qs_X7_pass : Cond.selects RX7 yX7_pass yX7_pass ∈ wsL_law := zsub_17 _ (List.mem_of_getElem? (i := 23) rfl)
theorem qc_X7_pass : Cond.code yX7_pass cX7_pass 3 none ∈ wsL_law := zsub_18 _ (List.mem_of_getElem? (i := 0) rfl)
theorem qm_RX7_98 : Cond.methodLink RX7 98 yX7_of ∈ wsL_law := zsub_18 _ (List.mem_of_getElem? (i := 1) rfl)
theorem qi_X7_of : Cond.instanceMethod yX7_of ∈ wsL_law := zsub_18 _ (List.mem_of_getElem? (i := 2) rfl)
theorem qs_X7_of : Cond.selects RX7 yX7_of yX7_of ∈ wsL_law := zsub_18 _ (List.mem_of_getElem? (i := 3) rfl)
theorem qc_X7_of : Cond.code yX7_of cX7_of 3 (some .int) ∈ wsL_law := zsub_18 _ (List.mem_of_getElem? (i := 4) rfl)
theorem qm_RX7_118 : Cond.methodLink RX7 118 yX7_hasRoom ∈ wsL_law := zsub_18 _ (List.mem_of_getElem? (i := 5) rfl)
theorem qi_X7_hasRoom : Cond.instanceMethod yX7_hasRoom ∈ wsL_law := zsub_18 _ (List.mem_of_getElem? (i := 6) rfl)
theorem qs_X7_hasRoom : Cond.selects RX7 yX7_hasRoom yX7_hasRoom ∈ wsL_law := zsub_18 _ (List.mem_of_getElem? (i := 7) rfl)
theorem qc_X7_hasRoom : Cond.code yX7_hasRoom cX7_hasRoom 2 (some .boolean) ∈ wsL_law := zsub_18 _ (List.mem_of_getElem? (i := 8) rfl)
theorem qm_RX7_108 : Cond.methodLink RX7 108 yX7_insideOf ∈ wsL_law := zsub_18 _ (List.mem_of_getElem? (i := 9) rfl)
theorem qi_X7_insideOf : Cond.instanceMethod yX7_insideOf ∈ wsL_law := zsub_18 _ (List.mem_of_getElem? (i := 10) rfl)
theorem qs_X7_insideOf : Cond.selects RX7 yX7_insideOf yX7_insideOf ∈ wsL_law := zsub_18 _ (List.mem_of_getElem? (i := 11) rfl)
theorem qc_X7_insideOf : Cond.code yX7_insideOf cX7_insideOf 4 (some .int) ∈ wsL_law := zsub_18 _ (List.mem_of_getElem? (i := 12) rfl)
theorem qm_RX7_121 : Cond.methodLink RX7 121 yX7_goesTo ∈ wsL_law := zsub_18 _ (List.mem_of_getElem? (i := 13) rfl)
theorem qi_X7_goesTo : Cond.instanceMethod yX7_goesTo ∈ wsL_law := zsub_18 _ (List.mem_of_getElem? (i := 14) rfl)
theorem qs_X7_goesTo : Cond.selects RX7 yX7_goesTo yX7_goesTo ∈ wsL_law := zsub_18 _ (List.mem_of_getElem? (i := 15) rfl)
theorem qc_X7_goesTo : Cond.code yX7_goesTo cX7_goesTo 5 (some .int) ∈ wsL_law := zsub_18 _ (List.mem_of_getElem? (i := 16) rfl)
theorem qm_RX7_115 : Cond.methodLink RX7 115 yX7_laySides ∈ wsL_law := zsub_18 _ (List.mem_of_getElem? (i := 17) rfl)
theorem qi_X7_laySides : Cond.instanceMethod yX7_laySides ∈ wsL_law := zsub_18 _ (List.mem_of_getElem? (i := 18) rfl)
theorem qs_X7_laySides : Cond.selects RX7 yX7_laySides yX7_laySides ∈ wsL_law := zsub_18 _ (List.mem_of_getElem? (i := 19) rfl)
theorem qc_X7_laySides : Cond.code yX7_laySides cX7_laySides 8 (some .int) ∈ wsL_law := zsub_18 _ (List.mem_of_getElem? (i := 20) rfl)
theorem qm_RX7_101 : Cond.methodLink RX7 101 yX7_standing ∈ wsL_law := zsub_18 _ (List.mem_of_getElem? (i := 21) rfl)
theorem qi_X7_standing : Cond.instanceMethod yX7_standing ∈ wsL_law := zsub_18 _ (List.mem_of_getElem? (i := 22) rfl)
theorem qs_X7_standing : Cond.selects RX7 yX7_standing yX7_standing ∈ wsL_law := zsub_18 _ (List.mem_of_getElem? (i := 23) rfl)
theorem qc_X7_standing : Cond.code yX7_standing cX7_standing 2 (some .int) ∈ wsL_law := zsub_19 _ (List.mem_of_getElem? (i := 0) rfl)
theorem qm_RX7_124 : Cond.methodLink RX7 124 yX7_move ∈ wsL_law := zsub_19 _ (List.mem_of_getElem? (i := 1) rfl)
theorem qi_X7_move : Cond.instanceMethod yX7_move ∈ wsL_law := zsub_19 _ (List.mem_of_getElem? (i := 2) rfl)
theorem qs_X7_move : Cond.selects RX7 yX7_move yX7_move ∈ wsL_law := zsub_19 _ (List.mem_of_getElem? (i := 3) rfl)
theorem qc_X7_move : Cond.code yX7_move cX7_move 6 none ∈ wsL_law := zsub_19 _ (List.mem_of_getElem? (i := 4) rfl)
theorem qm_RL_36 : Cond.methodLink RL 36 yX6_ofPacket ∈ wsL_law := zsub_19 _ (List.mem_of_getElem? (i := 5) rfl)
theorem qi_X6_ofPacket : Cond.instanceMethod yX6_ofPacket ∈ wsL_law := zsub_19 _ (List.mem_of_getElem? (i := 6) rfl)
theorem qs_X6_ofPacket : Cond.selects RX6 yX6_ofPacket yX6_ofPacket ∈ wsL_law := zsub_19 _ (List.mem_of_getElem? (i := 7) rfl)
theorem qc_X6_ofPacket : Cond.code yX6_ofPacket cX6_ofPacket 4 (some .int) ∈ wsL_law := zsub_19 _ (List.mem_of_getElem? (i := 8) rfl)
theorem qf_RX6_129 : Cond.fieldLink RX6 129 "MeshTurns$Packets" "from" "[I" ∈ wsL_law := zsub_19 _ (List.mem_of_getElem? (i := 9) rfl)
theorem qf_RX6_132 : Cond.fieldLink RX6 132 "MeshTurns$Packets" "to" "[I" ∈ wsL_law := zsub_19 _ (List.mem_of_getElem? (i := 10) rfl)
theorem qf_RX6_135 : Cond.fieldLink RX6 135 "MeshTurns$Packets" "place" "[I" ∈ wsL_law := zsub_19 _ (List.mem_of_getElem? (i := 11) rfl)
theorem qf_RX6_138 : Cond.fieldLink RX6 138 "MeshTurns$Packets" "box" "[I" ∈ wsL_law := zsub_19 _ (List.mem_of_getElem? (i := 12) rfl)
theorem qf_RX6_141 : Cond.fieldLink RX6 141 "MeshTurns$Packets" "moves" "[I" ∈ wsL_law := zsub_19 _ (List.mem_of_getElem? (i := 13) rfl)
theorem qf_RX6_144 : Cond.fieldLink RX6 144 "MeshTurns$Packets" "detours" "[I" ∈ wsL_law := zsub_19 _ (List.mem_of_getElem? (i := 14) rfl)
theorem qf_RX6_147 : Cond.fieldLink RX6 147 "MeshTurns$Packets" "waits" "[I" ∈ wsL_law := zsub_19 _ (List.mem_of_getElem? (i := 15) rfl)
theorem qf_RX6_150 : Cond.fieldLink RX6 150 "MeshTurns$Packets" "sentIn" "[I" ∈ wsL_law := zsub_19 _ (List.mem_of_getElem? (i := 16) rfl)
theorem qf_RX6_153 : Cond.fieldLink RX6 153 "MeshTurns$Packets" "arrivedIn" "[I" ∈ wsL_law := zsub_19 _ (List.mem_of_getElem? (i := 17) rfl)
theorem qf_RX6_156 : Cond.fieldLink RX6 156 "MeshTurns$Packets" "turned" "[I" ∈ wsL_law := zsub_19 _ (List.mem_of_getElem? (i := 18) rfl)
theorem qm_RX6_126 : Cond.methodLink RX6 126 yX2_has ∈ wsL_law := zsub_19 _ (List.mem_of_getElem? (i := 19) rfl)
theorem qi_X2_has : Cond.instanceMethod yX2_has ∈ wsL_law := zsub_19 _ (List.mem_of_getElem? (i := 20) rfl)
theorem qs_X2_has : Cond.selects RX2 yX2_has yX2_has ∈ wsL_law := zsub_19 _ (List.mem_of_getElem? (i := 21) rfl)
theorem qc_X2_has : Cond.code yX2_has cX2_has 2 (some .boolean) ∈ wsL_law := zsub_19 _ (List.mem_of_getElem? (i := 22) rfl)
theorem qm_RX6_159 : Cond.methodLink RX6 159 yX5_wayLengthOf ∈ wsL_law := zsub_19 _ (List.mem_of_getElem? (i := 23) rfl)
theorem qi_X5_wayLengthOf : Cond.instanceMethod yX5_wayLengthOf ∈ wsL_law := zsub_20 _ (List.mem_of_getElem? (i := 0) rfl)
theorem qs_X5_wayLengthOf : Cond.selects RX5 yX5_wayLengthOf yX5_wayLengthOf ∈ wsL_law := zsub_20 _ (List.mem_of_getElem? (i := 1) rfl)
theorem qc_X5_wayLengthOf : Cond.code yX5_wayLengthOf cX5_wayLengthOf 4 (some .int) ∈ wsL_law := zsub_20 _ (List.mem_of_getElem? (i := 2) rfl)
theorem qm_RX6_163 : Cond.methodLink RX6 163 yX5_firstSide ∈ wsL_law := zsub_20 _ (List.mem_of_getElem? (i := 3) rfl)
theorem qm_RX6_167 : Cond.methodLink RX6 167 yX1_holds ∈ wsL_law := zsub_20 _ (List.mem_of_getElem? (i := 4) rfl)
theorem qi_X1_holds : Cond.instanceMethod yX1_holds ∈ wsL_law := zsub_20 _ (List.mem_of_getElem? (i := 5) rfl)
theorem qs_X1_holds : Cond.selects RX1 yX1_holds yX1_holds ∈ wsL_law := zsub_20 _ (List.mem_of_getElem? (i := 6) rfl)
theorem qc_X1_holds : Cond.code yX1_holds cX1_holds 4 (some .boolean) ∈ wsL_law := zsub_20 _ (List.mem_of_getElem? (i := 7) rfl)
theorem qf_RX1_19 : Cond.fieldLink RX1 19 "MeshTurns$State" "packets" "LMeshTurns$Packets;" ∈ wsL_law := zsub_20 _ (List.mem_of_getElem? (i := 8) rfl)
theorem qm_RX1_15 : Cond.methodLink RX1 15 yX1_find ∈ wsL_law := zsub_20 _ (List.mem_of_getElem? (i := 9) rfl)
theorem qi_X1_find : Cond.instanceMethod yX1_find ∈ wsL_law := zsub_20 _ (List.mem_of_getElem? (i := 10) rfl)
theorem qs_X1_find : Cond.selects RX1 yX1_find yX1_find ∈ wsL_law := zsub_20 _ (List.mem_of_getElem? (i := 11) rfl)
theorem qc_X1_find : Cond.code yX1_find cX1_find 7 none ∈ wsL_law := zsub_20 _ (List.mem_of_getElem? (i := 12) rfl)
theorem qf_RX1_31 : Cond.fieldLink RX1 31 "MeshTurns$Packets" "sent" "I" ∈ wsL_law := zsub_20 _ (List.mem_of_getElem? (i := 13) rfl)
theorem qf_RX1_35 : Cond.fieldLink RX1 35 "MeshTurns$Packets" "place" "[I" ∈ wsL_law := zsub_20 _ (List.mem_of_getElem? (i := 14) rfl)
theorem qm_RX1_39 : Cond.methodLink RX1 39 yX1_canGoOn ∈ wsL_law := zsub_20 _ (List.mem_of_getElem? (i := 15) rfl)
theorem qi_X1_canGoOn : Cond.instanceMethod yX1_canGoOn ∈ wsL_law := zsub_20 _ (List.mem_of_getElem? (i := 16) rfl)
theorem qs_X1_canGoOn : Cond.selects RX1 yX1_canGoOn yX1_canGoOn ∈ wsL_law := zsub_20 _ (List.mem_of_getElem? (i := 17) rfl)
theorem qc_X1_canGoOn : Cond.code yX1_canGoOn cX1_canGoOn 6 (some .boolean) ∈ wsL_law := zsub_20 _ (List.mem_of_getElem? (i := 18) rfl)
theorem qf_RX1_47 : Cond.fieldLink RX1 47 "MeshTurns$Packets" "box" "[I" ∈ wsL_law := zsub_20 _ (List.mem_of_getElem? (i := 19) rfl)
theorem qm_RX1_43 : Cond.methodLink RX1 43 yX5_isPossible ∈ wsL_law := zsub_20 _ (List.mem_of_getElem? (i := 20) rfl)
theorem qi_X5_isPossible : Cond.instanceMethod yX5_isPossible ∈ wsL_law := zsub_20 _ (List.mem_of_getElem? (i := 21) rfl)
theorem qs_X5_isPossible : Cond.selects RX5 yX5_isPossible yX5_isPossible ∈ wsL_law := zsub_20 _ (List.mem_of_getElem? (i := 22) rfl)
theorem qc_X5_isPossible : Cond.code yX5_isPossible cX5_isPossible 4 (some .boolean) ∈ wsL_law := zsub_20 _ (List.mem_of_getElem? (i := 23) rfl)
theorem qm_RX1_50 : Cond.methodLink RX1 50 yX4_boxBehind ∈ wsL_law := zsub_21 _ (List.mem_of_getElem? (i := 0) rfl)
theorem qm_RX1_56 : Cond.methodLink RX1 56 yX5_letsIn ∈ wsL_law := zsub_21 _ (List.mem_of_getElem? (i := 1) rfl)
theorem qm_RX1_60 : Cond.methodLink RX1 60 yX1_hasFreePacket ∈ wsL_law := zsub_21 _ (List.mem_of_getElem? (i := 2) rfl)
theorem qi_X1_hasFreePacket : Cond.instanceMethod yX1_hasFreePacket ∈ wsL_law := zsub_21 _ (List.mem_of_getElem? (i := 3) rfl)
theorem qs_X1_hasFreePacket : Cond.selects RX1 yX1_hasFreePacket yX1_hasFreePacket ∈ wsL_law := zsub_21 _ (List.mem_of_getElem? (i := 4) rfl)
theorem qc_X1_hasFreePacket : Cond.code yX1_hasFreePacket cX1_hasFreePacket 4 (some .boolean) ∈ wsL_law := zsub_21 _ (List.mem_of_getElem? (i := 5) rfl)
theorem qm_RX1_25 : Cond.methodLink RX1 25 yX2_has ∈ wsL_law := zsub_21 _ (List.mem_of_getElem? (i := 6) rfl)
theorem qm_RL_39 : Cond.methodLink RL 39 yX7_ofPacket ∈ wsL_law := zsub_21 _ (List.mem_of_getElem? (i := 7) rfl)
theorem qi_X7_ofPacket : Cond.instanceMethod yX7_ofPacket ∈ wsL_law := zsub_21 _ (List.mem_of_getElem? (i := 8) rfl)
theorem qs_X7_ofPacket : Cond.selects RX7 yX7_ofPacket yX7_ofPacket ∈ wsL_law := zsub_21 _ (List.mem_of_getElem? (i := 9) rfl)
theorem qc_X7_ofPacket : Cond.code yX7_ofPacket cX7_ofPacket 3 (some .int) ∈ wsL_law := zsub_21 _ (List.mem_of_getElem? (i := 10) rfl)
theorem qm_RX7_134 : Cond.methodLink RX7 134 yX7_isPacket ∈ wsL_law := zsub_21 _ (List.mem_of_getElem? (i := 11) rfl)
theorem qi_X7_isPacket : Cond.instanceMethod yX7_isPacket ∈ wsL_law := zsub_21 _ (List.mem_of_getElem? (i := 12) rfl)
theorem qs_X7_isPacket : Cond.selects RX7 yX7_isPacket yX7_isPacket ∈ wsL_law := zsub_21 _ (List.mem_of_getElem? (i := 13) rfl)
theorem qc_X7_isPacket : Cond.code yX7_isPacket cX7_isPacket 2 (some .boolean) ∈ wsL_law := zsub_21 _ (List.mem_of_getElem? (i := 14) rfl)
theorem qm_RX7_137 : Cond.methodLink RX7 137 yX7_lengthOf ∈ wsL_law := zsub_21 _ (List.mem_of_getElem? (i := 15) rfl)
theorem qi_X7_lengthOf : Cond.instanceMethod yX7_lengthOf ∈ wsL_law := zsub_21 _ (List.mem_of_getElem? (i := 16) rfl)
theorem qs_X7_lengthOf : Cond.selects RX7 yX7_lengthOf yX7_lengthOf ∈ wsL_law := zsub_21 _ (List.mem_of_getElem? (i := 17) rfl)
theorem qc_X7_lengthOf : Cond.code yX7_lengthOf cX7_lengthOf 2 (some .int) ∈ wsL_law := zsub_21 _ (List.mem_of_getElem? (i := 18) rfl)
theorem qm_RX7_140 : Cond.methodLink RX7 140 yX7_layStuck ∈ wsL_law := zsub_21 _ (List.mem_of_getElem? (i := 19) rfl)
theorem qi_X7_layStuck : Cond.instanceMethod yX7_layStuck ∈ wsL_law := zsub_21 _ (List.mem_of_getElem? (i := 20) rfl)
theorem qs_X7_layStuck : Cond.selects RX7 yX7_layStuck yX7_layStuck ∈ wsL_law := zsub_21 _ (List.mem_of_getElem? (i := 21) rfl)
theorem qc_X7_layStuck : Cond.code yX7_layStuck cX7_layStuck 4 (some .int) ∈ wsL_law := zsub_21 _ (List.mem_of_getElem? (i := 22) rfl)
theorem qm_RX7_131 : Cond.methodLink RX7 131 yX7_isFree ∈ wsL_law := zsub_21 _ (List.mem_of_getElem? (i := 23) rfl)
theorem qi_X7_isFree : Cond.instanceMethod yX7_isFree ∈ wsL_law := zsub_22 _ (List.mem_of_getElem? (i := 0) rfl)
theorem qs_X7_isFree : Cond.selects RX7 yX7_isFree yX7_isFree ∈ wsL_law := zsub_22 _ (List.mem_of_getElem? (i := 1) rfl)
theorem qc_X7_isFree : Cond.code yX7_isFree cX7_isFree 7 (some .boolean) ∈ wsL_law := zsub_22 _ (List.mem_of_getElem? (i := 2) rfl)
theorem qm_RL_40 : Cond.methodLink RL 40 yX6_ofBox ∈ wsL_law := zsub_22 _ (List.mem_of_getElem? (i := 3) rfl)
theorem qi_X6_ofBox : Cond.instanceMethod yX6_ofBox ∈ wsL_law := zsub_22 _ (List.mem_of_getElem? (i := 4) rfl)
theorem qs_X6_ofBox : Cond.selects RX6 yX6_ofBox yX6_ofBox ∈ wsL_law := zsub_22 _ (List.mem_of_getElem? (i := 5) rfl)
theorem qc_X6_ofBox : Cond.code yX6_ofBox cX6_ofBox 3 (some .int) ∈ wsL_law := zsub_22 _ (List.mem_of_getElem? (i := 6) rfl)
theorem qf_RX6_178 : Cond.fieldLink RX6 178 "MeshTurns$State" "movesFrom" "[I" ∈ wsL_law := zsub_22 _ (List.mem_of_getElem? (i := 7) rfl)
theorem qm_RX6_172 : Cond.methodLink RX6 172 yX2_countAt ∈ wsL_law := zsub_22 _ (List.mem_of_getElem? (i := 8) rfl)
theorem qi_X2_countAt : Cond.instanceMethod yX2_countAt ∈ wsL_law := zsub_22 _ (List.mem_of_getElem? (i := 9) rfl)
theorem qs_X2_countAt : Cond.selects RX2 yX2_countAt yX2_countAt ∈ wsL_law := zsub_22 _ (List.mem_of_getElem? (i := 10) rfl)
theorem qc_X2_countAt : Cond.code yX2_countAt cX2_countAt 5 (some .int) ∈ wsL_law := zsub_22 _ (List.mem_of_getElem? (i := 11) rfl)
theorem qm_RX6_175 : Cond.methodLink RX6 175 yX6_linkState ∈ wsL_law := zsub_22 _ (List.mem_of_getElem? (i := 12) rfl)
theorem qi_X6_linkState : Cond.instanceMethod yX6_linkState ∈ wsL_law := zsub_22 _ (List.mem_of_getElem? (i := 13) rfl)
theorem qs_X6_linkState : Cond.selects RX6 yX6_linkState yX6_linkState ∈ wsL_law := zsub_22 _ (List.mem_of_getElem? (i := 14) rfl)
theorem qc_X6_linkState : Cond.code yX6_linkState cX6_linkState 4 (some .int) ∈ wsL_law := zsub_22 _ (List.mem_of_getElem? (i := 15) rfl)
theorem qm_RL_43 : Cond.methodLink RL 43 yX7_ofBox ∈ wsL_law := zsub_22 _ (List.mem_of_getElem? (i := 16) rfl)
theorem qi_X7_ofBox : Cond.instanceMethod yX7_ofBox ∈ wsL_law := zsub_22 _ (List.mem_of_getElem? (i := 17) rfl)
theorem qs_X7_ofBox : Cond.selects RX7 yX7_ofBox yX7_ofBox ∈ wsL_law := zsub_22 _ (List.mem_of_getElem? (i := 18) rfl)
theorem qc_X7_ofBox : Cond.code yX7_ofBox cX7_ofBox 3 (some .int) ∈ wsL_law := zsub_22 _ (List.mem_of_getElem? (i := 19) rfl)
theorem qm_RX7_143 : Cond.methodLink RX7 143 yX7_packetsOf ∈ wsL_law := zsub_22 _ (List.mem_of_getElem? (i := 20) rfl)
theorem qi_X7_packetsOf : Cond.instanceMethod yX7_packetsOf ∈ wsL_law := zsub_22 _ (List.mem_of_getElem? (i := 21) rfl)
theorem qs_X7_packetsOf : Cond.selects RX7 yX7_packetsOf yX7_packetsOf ∈ wsL_law := zsub_22 _ (List.mem_of_getElem? (i := 22) rfl)
theorem qc_X7_packetsOf : Cond.code yX7_packetsOf cX7_packetsOf 5 (some .int) ∈ wsL_law := zsub_22 _ (List.mem_of_getElem? (i := 23) rfl)
theorem qm_RL_44 : Cond.methodLink RL 44 yX6_count ∈ wsL_law := zsub_23 _ (List.mem_of_getElem? (i := 0) rfl)
theorem qi_X6_count : Cond.instanceMethod yX6_count ∈ wsL_law := zsub_23 _ (List.mem_of_getElem? (i := 1) rfl)
theorem qs_X6_count : Cond.selects RX6 yX6_count yX6_count ∈ wsL_law := zsub_23 _ (List.mem_of_getElem? (i := 2) rfl)
theorem qc_X6_count : Cond.code yX6_count cX6_count 3 (some .int) ∈ wsL_law := zsub_23 _ (List.mem_of_getElem? (i := 3) rfl)
theorem qf_RX6_181 : Cond.fieldLink RX6 181 "MeshTurns$Grid" "columns" "I" ∈ wsL_law := zsub_23 _ (List.mem_of_getElem? (i := 4) rfl)
theorem qf_RX6_198 : Cond.fieldLink RX6 198 "MeshTurns$Pad" "length" "I" ∈ wsL_law := zsub_23 _ (List.mem_of_getElem? (i := 5) rfl)
theorem qm_RX6_184 : Cond.methodLink RX6 184 yX2_countIn ∈ wsL_law := zsub_23 _ (List.mem_of_getElem? (i := 6) rfl)
theorem qi_X2_countIn : Cond.instanceMethod yX2_countIn ∈ wsL_law := zsub_23 _ (List.mem_of_getElem? (i := 7) rfl)
theorem qs_X2_countIn : Cond.selects RX2 yX2_countIn yX2_countIn ∈ wsL_law := zsub_23 _ (List.mem_of_getElem? (i := 8) rfl)
theorem qc_X2_countIn : Cond.code yX2_countIn cX2_countIn 4 (some .int) ∈ wsL_law := zsub_23 _ (List.mem_of_getElem? (i := 9) rfl)
theorem qm_RX6_187 : Cond.methodLink RX6 187 yX2_sum ∈ wsL_law := zsub_23 _ (List.mem_of_getElem? (i := 10) rfl)
theorem qi_X2_sum : Cond.instanceMethod yX2_sum ∈ wsL_law := zsub_23 _ (List.mem_of_getElem? (i := 11) rfl)
theorem qs_X2_sum : Cond.selects RX2 yX2_sum yX2_sum ∈ wsL_law := zsub_23 _ (List.mem_of_getElem? (i := 12) rfl)
theorem qc_X2_sum : Cond.code yX2_sum cX2_sum 4 (some .int) ∈ wsL_law := zsub_23 _ (List.mem_of_getElem? (i := 13) rfl)
theorem qm_RX6_191 : Cond.methodLink RX6 191 yX1_size ∈ wsL_law := zsub_23 _ (List.mem_of_getElem? (i := 14) rfl)
theorem qi_X1_size : Cond.instanceMethod yX1_size ∈ wsL_law := zsub_23 _ (List.mem_of_getElem? (i := 15) rfl)
theorem qs_X1_size : Cond.selects RX1 yX1_size yX1_size ∈ wsL_law := zsub_23 _ (List.mem_of_getElem? (i := 16) rfl)
theorem qc_X1_size : Cond.code yX1_size cX1_size 5 (some .int) ∈ wsL_law := zsub_23 _ (List.mem_of_getElem? (i := 17) rfl)
theorem qm_RX6_195 : Cond.methodLink RX6 195 yX0_brokenLinks ∈ wsL_law := zsub_23 _ (List.mem_of_getElem? (i := 18) rfl)
theorem qi_X0_brokenLinks : Cond.instanceMethod yX0_brokenLinks ∈ wsL_law := zsub_23 _ (List.mem_of_getElem? (i := 19) rfl)
theorem qs_X0_brokenLinks : Cond.selects RX0 yX0_brokenLinks yX0_brokenLinks ∈ wsL_law := zsub_23 _ (List.mem_of_getElem? (i := 20) rfl)
theorem qc_X0_brokenLinks : Cond.code yX0_brokenLinks cX0_brokenLinks 1 (some .int) ∈ wsL_law := zsub_23 _ (List.mem_of_getElem? (i := 21) rfl)
theorem qm_RX0_43 : Cond.methodLink RX0 43 yJ13_bitCount_95d88 ∈ wsL_law := zsub_23 _ (List.mem_of_getElem? (i := 22) rfl)
theorem qt_J13_bitCount_95d88 : Cond.static yJ13_bitCount_95d88 ∈ wsL_law := zsub_23 _ (List.mem_of_getElem? (i := 23) rfl)
theorem qn_RJ13 : Cond.initialized RJ13 ∈ wsL_law := zsub_24 _ (List.mem_of_getElem? (i := 0) rfl)
theorem qc_J13_bitCount_95d88 : Cond.code yJ13_bitCount_95d88 cJ13_bitCount_95d88 2 (some .int) ∈ wsL_law := zsub_24 _ (List.mem_of_getElem? (i := 1) rfl)
theorem ql_RJ13_314 : Cond.constantLong RJ13 314 (6148914691236517205) ∈ wsL_law := zsub_24 _ (List.mem_of_getElem? (i := 2) rfl)
theorem ql_RJ13_316 : Cond.constantLong RJ13 316 (3689348814741910323) ∈ wsL_law := zsub_24 _ (List.mem_of_getElem? (i := 3) rfl)
theorem ql_RJ13_318 : Cond.constantLong RJ13 318 (1085102592571150095) ∈ wsL_law := zsub_24 _ (List.mem_of_getElem? (i := 4) rfl)
theorem qm_RL_47 : Cond.methodLink RL 47 yX7_count ∈ wsL_law := zsub_24 _ (List.mem_of_getElem? (i := 5) rfl)
theorem qi_X7_count : Cond.instanceMethod yX7_count ∈ wsL_law := zsub_24 _ (List.mem_of_getElem? (i := 6) rfl)
theorem qs_X7_count : Cond.selects RX7 yX7_count yX7_count ∈ wsL_law := zsub_24 _ (List.mem_of_getElem? (i := 7) rfl)
theorem qc_X7_count : Cond.code yX7_count cX7_count 2 (some .int) ∈ wsL_law := zsub_24 _ (List.mem_of_getElem? (i := 8) rfl)
theorem qf_RX7_152 : Cond.fieldLink RX7 152 "MeshTurnsModel" "signs" "I" ∈ wsL_law := zsub_24 _ (List.mem_of_getElem? (i := 9) rfl)
theorem qm_RX7_146 : Cond.methodLink RX7 146 yX7_sum ∈ wsL_law := zsub_24 _ (List.mem_of_getElem? (i := 10) rfl)
theorem qi_X7_sum : Cond.instanceMethod yX7_sum ∈ wsL_law := zsub_24 _ (List.mem_of_getElem? (i := 11) rfl)
theorem qs_X7_sum : Cond.selects RX7 yX7_sum yX7_sum ∈ wsL_law := zsub_24 _ (List.mem_of_getElem? (i := 12) rfl)
theorem qc_X7_sum : Cond.code yX7_sum cX7_sum 4 (some .int) ∈ wsL_law := zsub_24 _ (List.mem_of_getElem? (i := 13) rfl)
theorem qm_RX7_149 : Cond.methodLink RX7 149 yX7_broken ∈ wsL_law := zsub_24 _ (List.mem_of_getElem? (i := 14) rfl)
theorem qi_X7_broken : Cond.instanceMethod yX7_broken ∈ wsL_law := zsub_24 _ (List.mem_of_getElem? (i := 15) rfl)
theorem qs_X7_broken : Cond.selects RX7 yX7_broken yX7_broken ∈ wsL_law := zsub_24 _ (List.mem_of_getElem? (i := 16) rfl)
theorem qc_X7_broken : Cond.code yX7_broken cX7_broken 3 (some .int) ∈ wsL_law := zsub_24 _ (List.mem_of_getElem? (i := 17) rfl)
theorem qm_RL_48 : Cond.methodLink RL 48 yX6_leastWay ∈ wsL_law := zsub_24 _ (List.mem_of_getElem? (i := 18) rfl)
theorem qi_X6_leastWay : Cond.instanceMethod yX6_leastWay ∈ wsL_law := zsub_24 _ (List.mem_of_getElem? (i := 19) rfl)
theorem qs_X6_leastWay : Cond.selects RX6 yX6_leastWay yX6_leastWay ∈ wsL_law := zsub_24 _ (List.mem_of_getElem? (i := 20) rfl)
theorem qc_X6_leastWay : Cond.code yX6_leastWay cX6_leastWay 3 (some .int) ∈ wsL_law := zsub_24 _ (List.mem_of_getElem? (i := 21) rfl)
theorem qm_RL_51 : Cond.methodLink RL 51 yX7_leastWay ∈ wsL_law := zsub_24 _ (List.mem_of_getElem? (i := 22) rfl)
theorem qi_X7_leastWay : Cond.instanceMethod yX7_leastWay ∈ wsL_law := zsub_24 _ (List.mem_of_getElem? (i := 23) rfl)
theorem qs_X7_leastWay : Cond.selects RX7 yX7_leastWay yX7_leastWay ∈ wsL_law := zsub_25 _ (List.mem_of_getElem? (i := 0) rfl)
theorem qc_X7_leastWay : Cond.code yX7_leastWay cX7_leastWay 3 (some .int) ∈ wsL_law := zsub_25 _ (List.mem_of_getElem? (i := 1) rfl)
theorem qm_RL_52 : Cond.methodLink RL 52 yX6_ways ∈ wsL_law := zsub_25 _ (List.mem_of_getElem? (i := 2) rfl)
theorem qi_X6_ways : Cond.instanceMethod yX6_ways ∈ wsL_law := zsub_25 _ (List.mem_of_getElem? (i := 3) rfl)
theorem qs_X6_ways : Cond.selects RX6 yX6_ways yX6_ways ∈ wsL_law := zsub_25 _ (List.mem_of_getElem? (i := 4) rfl)
theorem qc_X6_ways : Cond.code yX6_ways cX6_ways 3 (some .int) ∈ wsL_law := zsub_25 _ (List.mem_of_getElem? (i := 5) rfl)
theorem qm_RX6_205 : Cond.methodLink RX6 205 yX4_shortestWays ∈ wsL_law := zsub_25 _ (List.mem_of_getElem? (i := 6) rfl)
theorem qi_X4_shortestWays : Cond.instanceMethod yX4_shortestWays ∈ wsL_law := zsub_25 _ (List.mem_of_getElem? (i := 7) rfl)
theorem qs_X4_shortestWays : Cond.selects RX4 yX4_shortestWays yX4_shortestWays ∈ wsL_law := zsub_25 _ (List.mem_of_getElem? (i := 8) rfl)
theorem qc_X4_shortestWays : Cond.code yX4_shortestWays cX4_shortestWays 3 (some .int) ∈ wsL_law := zsub_25 _ (List.mem_of_getElem? (i := 9) rfl)
theorem qm_RL_55 : Cond.methodLink RL 55 yX7_ways ∈ wsL_law := zsub_25 _ (List.mem_of_getElem? (i := 10) rfl)
theorem qi_X7_ways : Cond.instanceMethod yX7_ways ∈ wsL_law := zsub_25 _ (List.mem_of_getElem? (i := 11) rfl)
theorem qs_X7_ways : Cond.selects RX7 yX7_ways yX7_ways ∈ wsL_law := zsub_25 _ (List.mem_of_getElem? (i := 12) rfl)
theorem qc_X7_ways : Cond.code yX7_ways cX7_ways 3 (some .int) ∈ wsL_law := zsub_25 _ (List.mem_of_getElem? (i := 13) rfl)
theorem qm_RL_56 : Cond.methodLink RL 56 yX6_pairs ∈ wsL_law := zsub_25 _ (List.mem_of_getElem? (i := 14) rfl)
theorem qi_X6_pairs : Cond.instanceMethod yX6_pairs ∈ wsL_law := zsub_25 _ (List.mem_of_getElem? (i := 15) rfl)
theorem qs_X6_pairs : Cond.selects RX6 yX6_pairs yX6_pairs ∈ wsL_law := zsub_25 _ (List.mem_of_getElem? (i := 16) rfl)
theorem qc_X6_pairs : Cond.code yX6_pairs cX6_pairs 1 (some .int) ∈ wsL_law := zsub_25 _ (List.mem_of_getElem? (i := 17) rfl)
theorem qm_RX6_208 : Cond.methodLink RX6 208 yX5_connectedPairs ∈ wsL_law := zsub_25 _ (List.mem_of_getElem? (i := 18) rfl)
theorem qi_X5_connectedPairs : Cond.instanceMethod yX5_connectedPairs ∈ wsL_law := zsub_25 _ (List.mem_of_getElem? (i := 19) rfl)
theorem qs_X5_connectedPairs : Cond.selects RX5 yX5_connectedPairs yX5_connectedPairs ∈ wsL_law := zsub_25 _ (List.mem_of_getElem? (i := 20) rfl)
theorem qc_X5_connectedPairs : Cond.code yX5_connectedPairs cX5_connectedPairs 6 (some .int) ∈ wsL_law := zsub_25 _ (List.mem_of_getElem? (i := 21) rfl)
theorem qm_RX5_102 : Cond.methodLink RX5 102 yX0_boxes ∈ wsL_law := zsub_25 _ (List.mem_of_getElem? (i := 22) rfl)
theorem qm_RX5_106 : Cond.methodLink RX5 106 yX5_wayLength ∈ wsL_law := zsub_25 _ (List.mem_of_getElem? (i := 23) rfl)
theorem qm_RL_60 : Cond.methodLink RL 60 yX7_pairs ∈ wsL_law := zsub_26 _ (List.mem_of_getElem? (i := 0) rfl)
theorem qi_X7_pairs : Cond.instanceMethod yX7_pairs ∈ wsL_law := zsub_26 _ (List.mem_of_getElem? (i := 1) rfl)
theorem qs_X7_pairs : Cond.selects RX7 yX7_pairs yX7_pairs ∈ wsL_law := zsub_26 _ (List.mem_of_getElem? (i := 2) rfl)
theorem qc_X7_pairs : Cond.code yX7_pairs cX7_pairs 1 (some .int) ∈ wsL_law := zsub_26 _ (List.mem_of_getElem? (i := 3) rfl)
theorem qm_RX7_155 : Cond.methodLink RX7 155 yX7_pairsNow ∈ wsL_law := zsub_26 _ (List.mem_of_getElem? (i := 4) rfl)
theorem qi_X7_pairsNow : Cond.instanceMethod yX7_pairsNow ∈ wsL_law := zsub_26 _ (List.mem_of_getElem? (i := 5) rfl)
theorem qs_X7_pairsNow : Cond.selects RX7 yX7_pairsNow yX7_pairsNow ∈ wsL_law := zsub_26 _ (List.mem_of_getElem? (i := 6) rfl)
theorem qc_X7_pairsNow : Cond.code yX7_pairsNow cX7_pairsNow 4 (some .int) ∈ wsL_law := zsub_26 _ (List.mem_of_getElem? (i := 7) rfl)
theorem qm_RL_61 : Cond.methodLink RL 61 yX6_worstLink ∈ wsL_law := zsub_26 _ (List.mem_of_getElem? (i := 8) rfl)
theorem qi_X6_worstLink : Cond.instanceMethod yX6_worstLink ∈ wsL_law := zsub_26 _ (List.mem_of_getElem? (i := 9) rfl)
theorem qs_X6_worstLink : Cond.selects RX6 yX6_worstLink yX6_worstLink ∈ wsL_law := zsub_26 _ (List.mem_of_getElem? (i := 10) rfl)
theorem qc_X6_worstLink : Cond.code yX6_worstLink cX6_worstLink 3 (some .int) ∈ wsL_law := zsub_26 _ (List.mem_of_getElem? (i := 11) rfl)
theorem qm_RX6_212 : Cond.methodLink RX6 212 yX6_findWorstLink ∈ wsL_law := zsub_26 _ (List.mem_of_getElem? (i := 12) rfl)
theorem qi_X6_findWorstLink : Cond.instanceMethod yX6_findWorstLink ∈ wsL_law := zsub_26 _ (List.mem_of_getElem? (i := 13) rfl)
theorem qs_X6_findWorstLink : Cond.selects RX6 yX6_findWorstLink yX6_findWorstLink ∈ wsL_law := zsub_26 _ (List.mem_of_getElem? (i := 14) rfl)
theorem qc_X6_findWorstLink : Cond.code yX6_findWorstLink cX6_findWorstLink 5 (some .int) ∈ wsL_law := zsub_26 _ (List.mem_of_getElem? (i := 15) rfl)
theorem qm_RX6_283 : Cond.methodLink RX6 283 yX0_isLink ∈ wsL_law := zsub_26 _ (List.mem_of_getElem? (i := 16) rfl)
theorem qi_X0_isLink : Cond.instanceMethod yX0_isLink ∈ wsL_law := zsub_26 _ (List.mem_of_getElem? (i := 17) rfl)
theorem qs_X0_isLink : Cond.selects RX0 yX0_isLink yX0_isLink ∈ wsL_law := zsub_26 _ (List.mem_of_getElem? (i := 18) rfl)
theorem qc_X0_isLink : Cond.code yX0_isLink cX0_isLink 2 (some .boolean) ∈ wsL_law := zsub_26 _ (List.mem_of_getElem? (i := 19) rfl)
theorem qm_RX0_35 : Cond.methodLink RX0 35 yX0_boxOfLink ∈ wsL_law := zsub_26 _ (List.mem_of_getElem? (i := 20) rfl)
theorem qt_X0_boxOfLink : Cond.static yX0_boxOfLink ∈ wsL_law := zsub_26 _ (List.mem_of_getElem? (i := 21) rfl)
theorem qc_X0_boxOfLink : Cond.code yX0_boxOfLink cX0_boxOfLink 1 (some .int) ∈ wsL_law := zsub_26 _ (List.mem_of_getElem? (i := 22) rfl)
theorem qm_RX0_38 : Cond.methodLink RX0 38 yX0_sideOfLink ∈ wsL_law := zsub_26 _ (List.mem_of_getElem? (i := 23) rfl)
theorem qt_X0_sideOfLink : Cond.static yX0_sideOfLink ∈ wsL_law := zsub_27 _ (List.mem_of_getElem? (i := 0) rfl)
theorem qc_X0_sideOfLink : Cond.code yX0_sideOfLink cX0_sideOfLink 1 (some .int) ∈ wsL_law := zsub_27 _ (List.mem_of_getElem? (i := 1) rfl)
theorem qm_RX6_221 : Cond.methodLink RX6 221 yX6_pairsWithout ∈ wsL_law := zsub_27 _ (List.mem_of_getElem? (i := 2) rfl)
theorem qi_X6_pairsWithout : Cond.instanceMethod yX6_pairsWithout ∈ wsL_law := zsub_27 _ (List.mem_of_getElem? (i := 3) rfl)
theorem qs_X6_pairsWithout : Cond.selects RX6 yX6_pairsWithout yX6_pairsWithout ∈ wsL_law := zsub_27 _ (List.mem_of_getElem? (i := 4) rfl)
theorem qc_X6_pairsWithout : Cond.code yX6_pairsWithout cX6_pairsWithout 2 (some .int) ∈ wsL_law := zsub_27 _ (List.mem_of_getElem? (i := 5) rfl)
theorem qm_RX6_215 : Cond.methodLink RX6 215 yX0_boxOfLink ∈ wsL_law := zsub_27 _ (List.mem_of_getElem? (i := 6) rfl)
theorem qm_RX6_218 : Cond.methodLink RX6 218 yX0_sideOfLink ∈ wsL_law := zsub_27 _ (List.mem_of_getElem? (i := 7) rfl)
theorem qm_RL_64 : Cond.methodLink RL 64 yX7_worstLink ∈ wsL_law := zsub_27 _ (List.mem_of_getElem? (i := 8) rfl)
theorem qi_X7_worstLink : Cond.instanceMethod yX7_worstLink ∈ wsL_law := zsub_27 _ (List.mem_of_getElem? (i := 9) rfl)
theorem qs_X7_worstLink : Cond.selects RX7 yX7_worstLink yX7_worstLink ∈ wsL_law := zsub_27 _ (List.mem_of_getElem? (i := 10) rfl)
theorem qc_X7_worstLink : Cond.code yX7_worstLink cX7_worstLink 7 (some .int) ∈ wsL_law := zsub_27 _ (List.mem_of_getElem? (i := 11) rfl)
theorem qm_RL_65 : Cond.methodLink RL 65 yX6_busiest ∈ wsL_law := zsub_27 _ (List.mem_of_getElem? (i := 12) rfl)
theorem qi_X6_busiest : Cond.instanceMethod yX6_busiest ∈ wsL_law := zsub_27 _ (List.mem_of_getElem? (i := 13) rfl)
theorem qs_X6_busiest : Cond.selects RX6 yX6_busiest yX6_busiest ∈ wsL_law := zsub_27 _ (List.mem_of_getElem? (i := 14) rfl)
theorem qc_X6_busiest : Cond.code yX6_busiest cX6_busiest 4 (some .int) ∈ wsL_law := zsub_27 _ (List.mem_of_getElem? (i := 15) rfl)
theorem qm_RL_68 : Cond.methodLink RL 68 yX7_busiest ∈ wsL_law := zsub_27 _ (List.mem_of_getElem? (i := 16) rfl)
theorem qi_X7_busiest : Cond.instanceMethod yX7_busiest ∈ wsL_law := zsub_27 _ (List.mem_of_getElem? (i := 17) rfl)
theorem qs_X7_busiest : Cond.selects RX7 yX7_busiest yX7_busiest ∈ wsL_law := zsub_27 _ (List.mem_of_getElem? (i := 18) rfl)
theorem qc_X7_busiest : Cond.code yX7_busiest cX7_busiest 4 (some .int) ∈ wsL_law := zsub_27 _ (List.mem_of_getElem? (i := 19) rfl)
theorem qm_RL_69 : Cond.methodLink RL 69 yX6_arrivesIn ∈ wsL_law := zsub_27 _ (List.mem_of_getElem? (i := 20) rfl)
theorem qi_X6_arrivesIn : Cond.instanceMethod yX6_arrivesIn ∈ wsL_law := zsub_27 _ (List.mem_of_getElem? (i := 21) rfl)
theorem qs_X6_arrivesIn : Cond.selects RX6 yX6_arrivesIn yX6_arrivesIn ∈ wsL_law := zsub_27 _ (List.mem_of_getElem? (i := 22) rfl)
theorem qc_X6_arrivesIn : Cond.code yX6_arrivesIn cX6_arrivesIn 3 (some .int) ∈ wsL_law := zsub_27 _ (List.mem_of_getElem? (i := 23) rfl)
theorem qm_RL_72 : Cond.methodLink RL 72 yX7_arrivesIn ∈ wsL_law := zsub_28 _ (List.mem_of_getElem? (i := 0) rfl)
theorem qi_X7_arrivesIn : Cond.instanceMethod yX7_arrivesIn ∈ wsL_law := zsub_28 _ (List.mem_of_getElem? (i := 1) rfl)
theorem qs_X7_arrivesIn : Cond.selects RX7 yX7_arrivesIn yX7_arrivesIn ∈ wsL_law := zsub_28 _ (List.mem_of_getElem? (i := 2) rfl)
theorem qc_X7_arrivesIn : Cond.code yX7_arrivesIn cX7_arrivesIn 4 (some .int) ∈ wsL_law := zsub_28 _ (List.mem_of_getElem? (i := 3) rfl)
theorem qm_RX7_158 : Cond.methodLink RX7 158 yX7_keep ∈ wsL_law := zsub_28 _ (List.mem_of_getElem? (i := 4) rfl)
theorem qi_X7_keep : Cond.instanceMethod yX7_keep ∈ wsL_law := zsub_28 _ (List.mem_of_getElem? (i := 5) rfl)
theorem qs_X7_keep : Cond.selects RX7 yX7_keep yX7_keep ∈ wsL_law := zsub_28 _ (List.mem_of_getElem? (i := 6) rfl)
theorem qc_X7_keep : Cond.code yX7_keep cX7_keep 2 none ∈ wsL_law := zsub_28 _ (List.mem_of_getElem? (i := 7) rfl)
theorem qm_RX7_161 : Cond.methodLink RX7 161 yX7_comeBack ∈ wsL_law := zsub_28 _ (List.mem_of_getElem? (i := 8) rfl)
theorem qi_X7_comeBack : Cond.instanceMethod yX7_comeBack ∈ wsL_law := zsub_28 _ (List.mem_of_getElem? (i := 9) rfl)
theorem qs_X7_comeBack : Cond.selects RX7 yX7_comeBack yX7_comeBack ∈ wsL_law := zsub_28 _ (List.mem_of_getElem? (i := 10) rfl)
theorem qc_X7_comeBack : Cond.code yX7_comeBack cX7_comeBack 2 none ∈ wsL_law := zsub_28 _ (List.mem_of_getElem? (i := 11) rfl)
theorem qm_RL_73 : Cond.methodLink RL 73 yX6_arrivedBy ∈ wsL_law := zsub_28 _ (List.mem_of_getElem? (i := 12) rfl)
theorem qi_X6_arrivedBy : Cond.instanceMethod yX6_arrivedBy ∈ wsL_law := zsub_28 _ (List.mem_of_getElem? (i := 13) rfl)
theorem qs_X6_arrivedBy : Cond.selects RX6 yX6_arrivedBy yX6_arrivedBy ∈ wsL_law := zsub_28 _ (List.mem_of_getElem? (i := 14) rfl)
theorem qc_X6_arrivedBy : Cond.code yX6_arrivedBy cX6_arrivedBy 2 (some .int) ∈ wsL_law := zsub_28 _ (List.mem_of_getElem? (i := 15) rfl)
theorem qm_RL_76 : Cond.methodLink RL 76 yX7_arrivedBy ∈ wsL_law := zsub_28 _ (List.mem_of_getElem? (i := 16) rfl)
theorem qi_X7_arrivedBy : Cond.instanceMethod yX7_arrivedBy ∈ wsL_law := zsub_28 _ (List.mem_of_getElem? (i := 17) rfl)
theorem qs_X7_arrivedBy : Cond.selects RX7 yX7_arrivedBy yX7_arrivedBy ∈ wsL_law := zsub_28 _ (List.mem_of_getElem? (i := 18) rfl)
theorem qc_X7_arrivedBy : Cond.code yX7_arrivedBy cX7_arrivedBy 3 (some .int) ∈ wsL_law := zsub_28 _ (List.mem_of_getElem? (i := 19) rfl)
theorem qm_RL_79 : Cond.methodLink RL 79 yX6_put ∈ wsL_law := zsub_28 _ (List.mem_of_getElem? (i := 20) rfl)
theorem qi_X6_put : Cond.instanceMethod yX6_put ∈ wsL_law := zsub_28 _ (List.mem_of_getElem? (i := 21) rfl)
theorem qs_X6_put : Cond.selects RX6 yX6_put yX6_put ∈ wsL_law := zsub_28 _ (List.mem_of_getElem? (i := 22) rfl)
theorem qc_X6_put : Cond.code yX6_put cX6_put 4 (some .int) ∈ wsL_law := zsub_28 _ (List.mem_of_getElem? (i := 23) rfl)
theorem qm_RX6_228 : Cond.methodLink RX6 228 yX3_countCharacters ∈ wsL_law := zsub_29 _ (List.mem_of_getElem? (i := 0) rfl)
theorem qt_X3_countCharacters : Cond.static yX3_countCharacters ∈ wsL_law := zsub_29 _ (List.mem_of_getElem? (i := 1) rfl)
theorem qc_X3_countCharacters : Cond.code yX3_countCharacters cX3_countCharacters 7 (some .int) ∈ wsL_law := zsub_29 _ (List.mem_of_getElem? (i := 2) rfl)
theorem ql_RX3_35 : Cond.constantLong RX3 35 (255) ∈ wsL_law := zsub_29 _ (List.mem_of_getElem? (i := 3) rfl)
theorem qm_RX6_232 : Cond.methodLink RX6 232 yX3_fits ∈ wsL_law := zsub_29 _ (List.mem_of_getElem? (i := 4) rfl)
theorem qi_X3_fits : Cond.instanceMethod yX3_fits ∈ wsL_law := zsub_29 _ (List.mem_of_getElem? (i := 5) rfl)
theorem qs_X3_fits : Cond.selects RX3 yX3_fits yX3_fits ∈ wsL_law := zsub_29 _ (List.mem_of_getElem? (i := 6) rfl)
theorem qc_X3_fits : Cond.code yX3_fits cX3_fits 2 (some .boolean) ∈ wsL_law := zsub_29 _ (List.mem_of_getElem? (i := 7) rfl)
theorem qm_RX6_235 : Cond.methodLink RX6 235 yX3_append ∈ wsL_law := zsub_29 _ (List.mem_of_getElem? (i := 8) rfl)
theorem qi_X3_append : Cond.instanceMethod yX3_append ∈ wsL_law := zsub_29 _ (List.mem_of_getElem? (i := 9) rfl)
theorem qs_X3_append : Cond.selects RX3 yX3_append yX3_append ∈ wsL_law := zsub_29 _ (List.mem_of_getElem? (i := 10) rfl)
theorem qc_X3_append : Cond.code yX3_append cX3_append 6 none ∈ wsL_law := zsub_29 _ (List.mem_of_getElem? (i := 11) rfl)
theorem qm_RX3_37 : Cond.methodLink RX3 37 yX3_fits ∈ wsL_law := zsub_29 _ (List.mem_of_getElem? (i := 12) rfl)
theorem qm_RL_83 : Cond.methodLink RL 83 yX7_put ∈ wsL_law := zsub_29 _ (List.mem_of_getElem? (i := 13) rfl)
theorem qi_X7_put : Cond.instanceMethod yX7_put ∈ wsL_law := zsub_29 _ (List.mem_of_getElem? (i := 14) rfl)
theorem qs_X7_put : Cond.selects RX7 yX7_put yX7_put ∈ wsL_law := zsub_29 _ (List.mem_of_getElem? (i := 15) rfl)
theorem qc_X7_put : Cond.code yX7_put cX7_put 7 (some .int) ∈ wsL_law := zsub_29 _ (List.mem_of_getElem? (i := 16) rfl)
theorem ql_RX7_185 : Cond.constantLong RX7 185 (255) ∈ wsL_law := zsub_29 _ (List.mem_of_getElem? (i := 17) rfl)
theorem qm_RL_84 : Cond.methodLink RL 84 yX6_wipe ∈ wsL_law := zsub_29 _ (List.mem_of_getElem? (i := 18) rfl)
theorem qi_X6_wipe : Cond.instanceMethod yX6_wipe ∈ wsL_law := zsub_29 _ (List.mem_of_getElem? (i := 19) rfl)
theorem qs_X6_wipe : Cond.selects RX6 yX6_wipe yX6_wipe ∈ wsL_law := zsub_29 _ (List.mem_of_getElem? (i := 20) rfl)
theorem qc_X6_wipe : Cond.code yX6_wipe cX6_wipe 2 (some .int) ∈ wsL_law := zsub_29 _ (List.mem_of_getElem? (i := 21) rfl)
theorem qm_RL_87 : Cond.methodLink RL 87 yX7_wipe ∈ wsL_law := zsub_29 _ (List.mem_of_getElem? (i := 22) rfl)
theorem qi_X7_wipe : Cond.instanceMethod yX7_wipe ∈ wsL_law := zsub_29 _ (List.mem_of_getElem? (i := 23) rfl)
theorem qs_X7_wipe : Cond.selects RX7 yX7_wipe yX7_wipe ∈ wsL_law := zsub_30 _ (List.mem_of_getElem? (i := 0) rfl)
theorem qc_X7_wipe : Cond.code yX7_wipe cX7_wipe 2 (some .int) ∈ wsL_law := zsub_30 _ (List.mem_of_getElem? (i := 1) rfl)
theorem qm_RL_88 : Cond.methodLink RL 88 yX6_fault ∈ wsL_law := zsub_30 _ (List.mem_of_getElem? (i := 2) rfl)
theorem qi_X6_fault : Cond.instanceMethod yX6_fault ∈ wsL_law := zsub_30 _ (List.mem_of_getElem? (i := 3) rfl)
theorem qs_X6_fault : Cond.selects RX6 yX6_fault yX6_fault ∈ wsL_law := zsub_30 _ (List.mem_of_getElem? (i := 4) rfl)
theorem qc_X6_fault : Cond.code yX6_fault cX6_fault 1 (some .int) ∈ wsL_law := zsub_30 _ (List.mem_of_getElem? (i := 5) rfl)
theorem qm_RX6_239 : Cond.methodLink RX6 239 yX3_readOrders ∈ wsL_law := zsub_30 _ (List.mem_of_getElem? (i := 6) rfl)
theorem qi_X3_readOrders : Cond.instanceMethod yX3_readOrders ∈ wsL_law := zsub_30 _ (List.mem_of_getElem? (i := 7) rfl)
theorem qs_X3_readOrders : Cond.selects RX3 yX3_readOrders yX3_readOrders ∈ wsL_law := zsub_30 _ (List.mem_of_getElem? (i := 8) rfl)
theorem qc_X3_readOrders : Cond.code yX3_readOrders cX3_readOrders 2 (some .int) ∈ wsL_law := zsub_30 _ (List.mem_of_getElem? (i := 9) rfl)
theorem qm_RX3_41 : Cond.methodLink RX3 41 yX3_readOrder ∈ wsL_law := zsub_30 _ (List.mem_of_getElem? (i := 10) rfl)
theorem qi_X3_readOrder : Cond.instanceMethod yX3_readOrder ∈ wsL_law := zsub_30 _ (List.mem_of_getElem? (i := 11) rfl)
theorem qs_X3_readOrder : Cond.selects RX3 yX3_readOrder yX3_readOrder ∈ wsL_law := zsub_30 _ (List.mem_of_getElem? (i := 12) rfl)
theorem qc_X3_readOrder : Cond.code yX3_readOrder cX3_readOrder 4 (some .boolean) ∈ wsL_law := zsub_30 _ (List.mem_of_getElem? (i := 13) rfl)
theorem qm_RX3_49 : Cond.methodLink RX3 49 yX3_signHere ∈ wsL_law := zsub_30 _ (List.mem_of_getElem? (i := 14) rfl)
theorem qi_X3_signHere : Cond.instanceMethod yX3_signHere ∈ wsL_law := zsub_30 _ (List.mem_of_getElem? (i := 15) rfl)
theorem qs_X3_signHere : Cond.selects RX3 yX3_signHere yX3_signHere ∈ wsL_law := zsub_30 _ (List.mem_of_getElem? (i := 16) rfl)
theorem qc_X3_signHere : Cond.code yX3_signHere cX3_signHere 1 (some .char) ∈ wsL_law := zsub_30 _ (List.mem_of_getElem? (i := 17) rfl)
theorem qm_RX3_53 : Cond.methodLink RX3 53 yX3_readNumber ∈ wsL_law := zsub_30 _ (List.mem_of_getElem? (i := 18) rfl)
theorem qi_X3_readNumber : Cond.instanceMethod yX3_readNumber ∈ wsL_law := zsub_30 _ (List.mem_of_getElem? (i := 19) rfl)
theorem qs_X3_readNumber : Cond.selects RX3 yX3_readNumber yX3_readNumber ∈ wsL_law := zsub_30 _ (List.mem_of_getElem? (i := 20) rfl)
theorem qc_X3_readNumber : Cond.code yX3_readNumber cX3_readNumber 3 (some .int) ∈ wsL_law := zsub_30 _ (List.mem_of_getElem? (i := 21) rfl)
theorem qm_RX3_60 : Cond.methodLink RX3 60 yX3_readDigit ∈ wsL_law := zsub_30 _ (List.mem_of_getElem? (i := 22) rfl)
theorem qi_X3_readDigit : Cond.instanceMethod yX3_readDigit ∈ wsL_law := zsub_30 _ (List.mem_of_getElem? (i := 23) rfl)
theorem qs_X3_readDigit : Cond.selects RX3 yX3_readDigit yX3_readDigit ∈ wsL_law := zsub_31 _ (List.mem_of_getElem? (i := 0) rfl)
theorem qc_X3_readDigit : Cond.code yX3_readDigit cX3_readDigit 2 (some .int) ∈ wsL_law := zsub_31 _ (List.mem_of_getElem? (i := 1) rfl)
theorem qm_RX3_45 : Cond.methodLink RX3 45 yX3_readSign ∈ wsL_law := zsub_31 _ (List.mem_of_getElem? (i := 2) rfl)
theorem qi_X3_readSign : Cond.instanceMethod yX3_readSign ∈ wsL_law := zsub_31 _ (List.mem_of_getElem? (i := 3) rfl)
theorem qs_X3_readSign : Cond.selects RX3 yX3_readSign yX3_readSign ∈ wsL_law := zsub_31 _ (List.mem_of_getElem? (i := 4) rfl)
theorem qc_X3_readSign : Cond.code yX3_readSign cX3_readSign 2 (some .boolean) ∈ wsL_law := zsub_31 _ (List.mem_of_getElem? (i := 5) rfl)
theorem qm_RX3_57 : Cond.methodLink RX3 57 yX3_readSide ∈ wsL_law := zsub_31 _ (List.mem_of_getElem? (i := 6) rfl)
theorem qi_X3_readSide : Cond.instanceMethod yX3_readSide ∈ wsL_law := zsub_31 _ (List.mem_of_getElem? (i := 7) rfl)
theorem qs_X3_readSide : Cond.selects RX3 yX3_readSide yX3_readSide ∈ wsL_law := zsub_31 _ (List.mem_of_getElem? (i := 8) rfl)
theorem qc_X3_readSide : Cond.code yX3_readSide cX3_readSide 3 (some .int) ∈ wsL_law := zsub_31 _ (List.mem_of_getElem? (i := 9) rfl)
theorem qm_RX3_63 : Cond.methodLink RX3 63 yX3_sideOfSign ∈ wsL_law := zsub_31 _ (List.mem_of_getElem? (i := 10) rfl)
theorem qt_X3_sideOfSign : Cond.static yX3_sideOfSign ∈ wsL_law := zsub_31 _ (List.mem_of_getElem? (i := 11) rfl)
theorem qc_X3_sideOfSign : Cond.code yX3_sideOfSign cX3_sideOfSign 1 (some .int) ∈ wsL_law := zsub_31 _ (List.mem_of_getElem? (i := 12) rfl)
theorem qm_RL_91 : Cond.methodLink RL 91 yX7_fault ∈ wsL_law := zsub_31 _ (List.mem_of_getElem? (i := 13) rfl)
theorem qi_X7_fault : Cond.instanceMethod yX7_fault ∈ wsL_law := zsub_31 _ (List.mem_of_getElem? (i := 14) rfl)
theorem qs_X7_fault : Cond.selects RX7 yX7_fault yX7_fault ∈ wsL_law := zsub_31 _ (List.mem_of_getElem? (i := 15) rfl)
theorem qc_X7_fault : Cond.code yX7_fault cX7_fault 1 (some .int) ∈ wsL_law := zsub_31 _ (List.mem_of_getElem? (i := 16) rfl)
theorem qm_RX7_187 : Cond.methodLink RX7 187 yX7_faultOf ∈ wsL_law := zsub_31 _ (List.mem_of_getElem? (i := 17) rfl)
theorem qi_X7_faultOf : Cond.instanceMethod yX7_faultOf ∈ wsL_law := zsub_31 _ (List.mem_of_getElem? (i := 18) rfl)
theorem qs_X7_faultOf : Cond.selects RX7 yX7_faultOf yX7_faultOf ∈ wsL_law := zsub_31 _ (List.mem_of_getElem? (i := 19) rfl)
theorem qc_X7_faultOf : Cond.code yX7_faultOf cX7_faultOf 1 (some .int) ∈ wsL_law := zsub_31 _ (List.mem_of_getElem? (i := 20) rfl)
theorem qf_RX7_164 : Cond.fieldLink RX7 164 "MeshTurnsModel" "place" "I" ∈ wsL_law := zsub_31 _ (List.mem_of_getElem? (i := 21) rfl)
theorem qf_RX7_173 : Cond.fieldLink RX7 173 "MeshTurnsModel" "read" "I" ∈ wsL_law := zsub_31 _ (List.mem_of_getElem? (i := 22) rfl)
theorem qf_RX7_170 : Cond.fieldLink RX7 170 "MeshTurnsModel" "isWrong" "Z" ∈ wsL_law := zsub_31 _ (List.mem_of_getElem? (i := 23) rfl)
theorem qm_RX7_182 : Cond.methodLink RX7 182 yX7_readOne ∈ wsL_law := zsub_32 _ (List.mem_of_getElem? (i := 0) rfl)
theorem qi_X7_readOne : Cond.instanceMethod yX7_readOne ∈ wsL_law := zsub_32 _ (List.mem_of_getElem? (i := 1) rfl)
theorem qs_X7_readOne : Cond.selects RX7 yX7_readOne yX7_readOne ∈ wsL_law := zsub_32 _ (List.mem_of_getElem? (i := 2) rfl)
theorem qc_X7_readOne : Cond.code yX7_readOne cX7_readOne 3 none ∈ wsL_law := zsub_32 _ (List.mem_of_getElem? (i := 3) rfl)
theorem qm_RX7_167 : Cond.methodLink RX7 167 yX7_sign ∈ wsL_law := zsub_32 _ (List.mem_of_getElem? (i := 4) rfl)
theorem qi_X7_sign : Cond.instanceMethod yX7_sign ∈ wsL_law := zsub_32 _ (List.mem_of_getElem? (i := 5) rfl)
theorem qs_X7_sign : Cond.selects RX7 yX7_sign yX7_sign ∈ wsL_law := zsub_32 _ (List.mem_of_getElem? (i := 6) rfl)
theorem qc_X7_sign : Cond.code yX7_sign cX7_sign 1 (some .int) ∈ wsL_law := zsub_32 _ (List.mem_of_getElem? (i := 7) rfl)
theorem qm_RX7_176 : Cond.methodLink RX7 176 yX7_number ∈ wsL_law := zsub_32 _ (List.mem_of_getElem? (i := 8) rfl)
theorem qi_X7_number : Cond.instanceMethod yX7_number ∈ wsL_law := zsub_32 _ (List.mem_of_getElem? (i := 9) rfl)
theorem qs_X7_number : Cond.selects RX7 yX7_number yX7_number ∈ wsL_law := zsub_32 _ (List.mem_of_getElem? (i := 10) rfl)
theorem qc_X7_number : Cond.code yX7_number cX7_number 2 (some .int) ∈ wsL_law := zsub_32 _ (List.mem_of_getElem? (i := 11) rfl)
theorem qm_RX7_179 : Cond.methodLink RX7 179 yX7_side ∈ wsL_law := zsub_32 _ (List.mem_of_getElem? (i := 12) rfl)
theorem qi_X7_side : Cond.instanceMethod yX7_side ∈ wsL_law := zsub_32 _ (List.mem_of_getElem? (i := 13) rfl)
theorem qs_X7_side : Cond.selects RX7 yX7_side yX7_side ∈ wsL_law := zsub_32 _ (List.mem_of_getElem? (i := 14) rfl)
theorem qc_X7_side : Cond.code yX7_side cX7_side 3 (some .int) ∈ wsL_law := zsub_32 _ (List.mem_of_getElem? (i := 15) rfl)
theorem qm_RL_92 : Cond.methodLink RL 92 yX6_carryOut ∈ wsL_law := zsub_32 _ (List.mem_of_getElem? (i := 16) rfl)
theorem qi_X6_carryOut : Cond.instanceMethod yX6_carryOut ∈ wsL_law := zsub_32 _ (List.mem_of_getElem? (i := 17) rfl)
theorem qs_X6_carryOut : Cond.selects RX6 yX6_carryOut yX6_carryOut ∈ wsL_law := zsub_32 _ (List.mem_of_getElem? (i := 18) rfl)
theorem qc_X6_carryOut : Cond.code yX6_carryOut cX6_carryOut 2 (some .int) ∈ wsL_law := zsub_32 _ (List.mem_of_getElem? (i := 19) rfl)
theorem qf_RX6_242 : Cond.fieldLink RX6 242 "MeshTurns$Pad" "orders" "I" ∈ wsL_law := zsub_32 _ (List.mem_of_getElem? (i := 20) rfl)
theorem qm_RX6_245 : Cond.methodLink RX6 245 yX6_obey ∈ wsL_law := zsub_32 _ (List.mem_of_getElem? (i := 21) rfl)
theorem qi_X6_obey : Cond.instanceMethod yX6_obey ∈ wsL_law := zsub_32 _ (List.mem_of_getElem? (i := 22) rfl)
theorem qs_X6_obey : Cond.selects RX6 yX6_obey yX6_obey ∈ wsL_law := zsub_32 _ (List.mem_of_getElem? (i := 23) rfl)
theorem qc_X6_obey : Cond.code yX6_obey cX6_obey 4 (some .boolean) ∈ wsL_law := zsub_33 _ (List.mem_of_getElem? (i := 0) rfl)
theorem qf_RX6_271 : Cond.fieldLink RX6 271 "MeshTurns$Pad" "firsts" "[I" ∈ wsL_law := zsub_33 _ (List.mem_of_getElem? (i := 1) rfl)
theorem qf_RX6_274 : Cond.fieldLink RX6 274 "MeshTurns$Pad" "seconds" "[I" ∈ wsL_law := zsub_33 _ (List.mem_of_getElem? (i := 2) rfl)
theorem qf_RX6_277 : Cond.fieldLink RX6 277 "MeshTurns$Pad" "kinds" "[I" ∈ wsL_law := zsub_33 _ (List.mem_of_getElem? (i := 3) rfl)
theorem qm_RL_95 : Cond.methodLink RL 95 yX7_carryOut ∈ wsL_law := zsub_33 _ (List.mem_of_getElem? (i := 4) rfl)
theorem qi_X7_carryOut : Cond.instanceMethod yX7_carryOut ∈ wsL_law := zsub_33 _ (List.mem_of_getElem? (i := 5) rfl)
theorem qs_X7_carryOut : Cond.selects RX7 yX7_carryOut yX7_carryOut ∈ wsL_law := zsub_33 _ (List.mem_of_getElem? (i := 6) rfl)
theorem qc_X7_carryOut : Cond.code yX7_carryOut cX7_carryOut 2 (some .int) ∈ wsL_law := zsub_33 _ (List.mem_of_getElem? (i := 7) rfl)
theorem qm_RX7_199 : Cond.methodLink RX7 199 yX7_carry ∈ wsL_law := zsub_33 _ (List.mem_of_getElem? (i := 8) rfl)
theorem qi_X7_carry : Cond.instanceMethod yX7_carry ∈ wsL_law := zsub_33 _ (List.mem_of_getElem? (i := 9) rfl)
theorem qs_X7_carry : Cond.selects RX7 yX7_carry yX7_carry ∈ wsL_law := zsub_33 _ (List.mem_of_getElem? (i := 10) rfl)
theorem qc_X7_carry : Cond.code yX7_carry cX7_carry 4 (some .int) ∈ wsL_law := zsub_33 _ (List.mem_of_getElem? (i := 11) rfl)
theorem qm_RX7_190 : Cond.methodLink RX7 190 yX7_send ∈ wsL_law := zsub_33 _ (List.mem_of_getElem? (i := 12) rfl)
theorem qm_RX7_193 : Cond.methodLink RX7 193 yX7_link ∈ wsL_law := zsub_33 _ (List.mem_of_getElem? (i := 13) rfl)
theorem qm_RX7_196 : Cond.methodLink RX7 196 yX7_ticks ∈ wsL_law := zsub_33 _ (List.mem_of_getElem? (i := 14) rfl)
theorem qm_RL_96 : Cond.methodLink RL 96 yX6_undo ∈ wsL_law := zsub_33 _ (List.mem_of_getElem? (i := 15) rfl)
theorem qi_X6_undo : Cond.instanceMethod yX6_undo ∈ wsL_law := zsub_33 _ (List.mem_of_getElem? (i := 16) rfl)
theorem qs_X6_undo : Cond.selects RX6 yX6_undo yX6_undo ∈ wsL_law := zsub_33 _ (List.mem_of_getElem? (i := 17) rfl)
theorem qc_X6_undo : Cond.code yX6_undo cX6_undo 1 (some .int) ∈ wsL_law := zsub_33 _ (List.mem_of_getElem? (i := 18) rfl)
theorem qm_RL_99 : Cond.methodLink RL 99 yX7_undo ∈ wsL_law := zsub_33 _ (List.mem_of_getElem? (i := 19) rfl)
theorem qi_X7_undo : Cond.instanceMethod yX7_undo ∈ wsL_law := zsub_33 _ (List.mem_of_getElem? (i := 20) rfl)
theorem qs_X7_undo : Cond.selects RX7 yX7_undo yX7_undo ∈ wsL_law := zsub_33 _ (List.mem_of_getElem? (i := 21) rfl)
theorem qc_X7_undo : Cond.code yX7_undo cX7_undo 2 (some .int) ∈ wsL_law := zsub_33 _ (List.mem_of_getElem? (i := 22) rfl)
theorem qm_RL_100 : Cond.methodLink RL 100 yX6_save ∈ wsL_law := zsub_33 _ (List.mem_of_getElem? (i := 23) rfl)
theorem qi_X6_save : Cond.instanceMethod yX6_save ∈ wsL_law := zsub_34 _ (List.mem_of_getElem? (i := 0) rfl)
theorem qs_X6_save : Cond.selects RX6 yX6_save yX6_save ∈ wsL_law := zsub_34 _ (List.mem_of_getElem? (i := 1) rfl)
theorem qc_X6_save : Cond.code yX6_save cX6_save 2 (some .int) ∈ wsL_law := zsub_34 _ (List.mem_of_getElem? (i := 2) rfl)
theorem qm_RX6_248 : Cond.methodLink RX6 248 yX6_isSlot ∈ wsL_law := zsub_34 _ (List.mem_of_getElem? (i := 3) rfl)
theorem qt_X6_isSlot : Cond.static yX6_isSlot ∈ wsL_law := zsub_34 _ (List.mem_of_getElem? (i := 4) rfl)
theorem qc_X6_isSlot : Cond.code yX6_isSlot cX6_isSlot 1 (some .boolean) ∈ wsL_law := zsub_34 _ (List.mem_of_getElem? (i := 5) rfl)
theorem qm_RL_103 : Cond.methodLink RL 103 yX7_save ∈ wsL_law := zsub_34 _ (List.mem_of_getElem? (i := 6) rfl)
theorem qi_X7_save : Cond.instanceMethod yX7_save ∈ wsL_law := zsub_34 _ (List.mem_of_getElem? (i := 7) rfl)
theorem qs_X7_save : Cond.selects RX7 yX7_save yX7_save ∈ wsL_law := zsub_34 _ (List.mem_of_getElem? (i := 8) rfl)
theorem qc_X7_save : Cond.code yX7_save cX7_save 3 (some .int) ∈ wsL_law := zsub_34 _ (List.mem_of_getElem? (i := 9) rfl)
theorem qm_RL_104 : Cond.methodLink RL 104 yX6_restore ∈ wsL_law := zsub_34 _ (List.mem_of_getElem? (i := 10) rfl)
theorem qi_X6_restore : Cond.instanceMethod yX6_restore ∈ wsL_law := zsub_34 _ (List.mem_of_getElem? (i := 11) rfl)
theorem qs_X6_restore : Cond.selects RX6 yX6_restore yX6_restore ∈ wsL_law := zsub_34 _ (List.mem_of_getElem? (i := 12) rfl)
theorem qc_X6_restore : Cond.code yX6_restore cX6_restore 2 (some .int) ∈ wsL_law := zsub_34 _ (List.mem_of_getElem? (i := 13) rfl)
theorem qm_RL_107 : Cond.methodLink RL 107 yX7_restore ∈ wsL_law := zsub_34 _ (List.mem_of_getElem? (i := 14) rfl)
theorem qi_X7_restore : Cond.instanceMethod yX7_restore ∈ wsL_law := zsub_34 _ (List.mem_of_getElem? (i := 15) rfl)
theorem qs_X7_restore : Cond.selects RX7 yX7_restore yX7_restore ∈ wsL_law := zsub_34 _ (List.mem_of_getElem? (i := 16) rfl)
theorem qc_X7_restore : Cond.code yX7_restore cX7_restore 3 (some .int) ∈ wsL_law := zsub_34 _ (List.mem_of_getElem? (i := 17) rfl)
theorem zgood_1 : wsL_law_r1.all goodWord = true := by decide +kernel
theorem zgood_2 : wsL_law_r2.all goodWord = true := by decide +kernel
theorem zgood_3 : wsL_law_r3.all goodWord = true := by decide +kernel
theorem zgood_4 : wsL_law_r4.all goodWord = true := by decide +kernel
theorem zgood_5 : wsL_law_r5.all goodWord = true := by decide +kernel
theorem zgood_6 : wsL_law_r6.all goodWord = true := by decide +kernel
theorem zgood_7 : wsL_law_r7.all goodWord = true := by decide +kernel
theorem zgood_8 : wsL_law_r8.all goodWord = true := by decide +kernel
theorem zgood_9 : wsL_law_r9.all goodWord = true := by decide +kernel
theorem zgood_10 : wsL_law_r10.all goodWord = true := by decide +kernel
theorem zgood_11 : wsL_law_r11.all goodWord = true := by decide +kernel
theorem zgood_12 : wsL_law_r12.all goodWord = true := by decide +kernel
theorem zgood_13 : wsL_law_r13.all goodWord = true := by decide +kernel
theorem zgood_14 : wsL_law_r14.all goodWord = true := by decide +kernel
theorem zgood_15 : wsL_law_r15.all goodWord = true := by decide +kernel
theorem zgood_16 : wsL_law_r16.all goodWord = true := by decide +kernel
theorem zgood_17 : wsL_law_r17.all goodWord = true := by decide +kernel
theorem zgood_18 : wsL_law_r18.all goodWord = true := by decide +kernel
theorem zgood_19 : wsL_law_r19.all goodWord = true := by decide +kernel
theorem zgood_20 : wsL_law_r20.all goodWord = true := by decide +kernel
theorem zgood_21 : wsL_law_r21.all goodWord = true := by decide +kernel
theorem zgood_22 : wsL_law_r22.all goodWord = true := by decide +kernel
theorem zgood_23 : wsL_law_r23.all goodWord = true := by decide +kernel
theorem zgood_24 : wsL_law_r24.all goodWord = true := by decide +kernel
theorem zgood_25 : wsL_law_r25.all goodWord = true := by decide +kernel
theorem zgood_26 : wsL_law_r26.all goodWord = true := by decide +kernel
theorem zgood_27 : wsL_law_r27.all goodWord = true := by decide +kernel
theorem zgood_28 : wsL_law_r28.all goodWord = true := by decide +kernel
theorem zgood_29 : wsL_law_r29.all goodWord = true := by decide +kernel
theorem zgood_30 : wsL_law_r30.all goodWord = true := by decide +kernel
theorem zgood_31 : wsL_law_r31.all goodWord = true := by decide +kernel
theorem zgood_32 : wsL_law_r32.all goodWord = true := by decide +kernel
theorem zgood_33 : wsL_law_r33.all goodWord = true := by decide +kernel
theorem zgood_34 : wsL_law_r34.all goodWord = true := by decide +kernel
theorem zgood_wsX60 : wsX60.all goodWord = true := by decide +kernel
theorem zgood_wsX70 : wsX70.all goodWord = true := by decide +kernel
theorem zgood_wsX50 : wsX50.all goodWord = true := by decide +kernel
theorem zgood_wsX40 : wsX40.all goodWord = true := by decide +kernel
theorem zgood_wsX10 : wsX10.all goodWord = true := by decide +kernel
theorem zgood_wsX30 : wsX30.all goodWord = true := by decide +kernel
theorem zgood_wsX00 : wsX00.all goodWord = true := by decide +kernel
theorem zgood_wsX20 : wsX20.all goodWord = true := by decide +kernel
theorem zall_app {a b : List Cond} (ha : a.all goodWord = true) (hb : b.all goodWord = true) : (a ++ b).all goodWord = true := by rw [List.all_append, ha, hb]; rfl
theorem zG_good : wsL_law.all goodWord = true := zall_app (b := []) (zall_app (zall_app (zall_app (zall_app (zall_app (zall_app (zall_app (zall_app (zall_app zgood_1 (zall_app zgood_2 (zall_app zgood_3 (zall_app zgood_4 (zall_app zgood_5 (zall_app zgood_6 (zall_app zgood_7 (zall_app zgood_8 (zall_app zgood_9 (zall_app zgood_10 (zall_app zgood_11 (zall_app zgood_12 (zall_app zgood_13 (zall_app zgood_14 (zall_app zgood_15 (zall_app zgood_16 (zall_app zgood_17 (zall_app zgood_18 (zall_app zgood_19 (zall_app zgood_20 (zall_app zgood_21 (zall_app zgood_22 (zall_app zgood_23 (zall_app zgood_24 (zall_app zgood_25 (zall_app zgood_26 (zall_app zgood_27 (zall_app zgood_28 (zall_app zgood_29 (zall_app zgood_30 (zall_app zgood_31 (zall_app zgood_32 (zall_app zgood_33 (zgood_34)))))))))))))))))))))))))))))))))) zgood_wsX60) zgood_wsX70) zgood_wsX50) zgood_wsX40) zgood_wsX10) zgood_wsX30) zgood_wsX00) zgood_wsX20) rfl
end
section
theorem dX0_init_0 : decode cX0_init 0 = .ok (.aload_n 0, 1) := by decide +kernel
theorem dX0_init_1 : decode cX0_init 1 = .ok (.invokespecial 3, 3) := by decide +kernel
theorem dX0_init_4 : decode cX0_init 4 = .ok (.aload_n 0, 1) := by decide +kernel
theorem dX0_init_5 : decode cX0_init 5 = .ok (.iconst 4, 1) := by decide +kernel
theorem dX0_init_6 : decode cX0_init 6 = .ok (.putfield 9, 3) := by decide +kernel
theorem dX0_init_9 : decode cX0_init 9 = .ok (.aload_n 0, 1) := by decide +kernel
theorem dX0_init_10 : decode cX0_init 10 = .ok (.iconst 4, 1) := by decide +kernel
theorem dX0_init_11 : decode cX0_init 11 = .ok (.putfield 15, 3) := by decide +kernel
theorem dX0_init_14 : decode cX0_init 14 = .ok (.aload_n 0, 1) := by decide +kernel
theorem dX0_init_15 : decode cX0_init 15 = .ok (.lconst 0, 1) := by decide +kernel
theorem dX0_init_16 : decode cX0_init 16 = .ok (.putfield 18, 3) := by decide +kernel
theorem dX0_init_19 : decode cX0_init 19 = .ok (.return_, 1) := by decide +kernel
theorem dX0_layOut_0 : decode cX0_layOut 0 = .ok (.aload_n 0, 1) := by decide +kernel
theorem dX0_layOut_1 : decode cX0_layOut 1 = .ok (.iload_n 1, 1) := by decide +kernel
theorem dX0_layOut_2 : decode cX0_layOut 2 = .ok (.putfield 9, 3) := by decide +kernel
theorem dX0_layOut_5 : decode cX0_layOut 5 = .ok (.aload_n 0, 1) := by decide +kernel
theorem dX0_layOut_6 : decode cX0_layOut 6 = .ok (.iload_n 2, 1) := by decide +kernel
theorem dX0_layOut_7 : decode cX0_layOut 7 = .ok (.putfield 15, 3) := by decide +kernel
theorem dX0_layOut_10 : decode cX0_layOut 10 = .ok (.aload_n 0, 1) := by decide +kernel
theorem dX0_layOut_11 : decode cX0_layOut 11 = .ok (.lconst 0, 1) := by decide +kernel
theorem dX0_layOut_12 : decode cX0_layOut 12 = .ok (.putfield 18, 3) := by decide +kernel
theorem dX0_layOut_15 : decode cX0_layOut 15 = .ok (.return_, 1) := by decide +kernel
theorem dX0_copyGrid_0 : decode cX0_copyGrid 0 = .ok (.aload_n 0, 1) := by decide +kernel
theorem dX0_copyGrid_1 : decode cX0_copyGrid 1 = .ok (.aload_n 1, 1) := by decide +kernel
theorem dX0_copyGrid_2 : decode cX0_copyGrid 2 = .ok (.getfield 9, 3) := by decide +kernel
theorem dX0_copyGrid_5 : decode cX0_copyGrid 5 = .ok (.putfield 9, 3) := by decide +kernel
theorem dX0_copyGrid_8 : decode cX0_copyGrid 8 = .ok (.aload_n 0, 1) := by decide +kernel
theorem dX0_copyGrid_9 : decode cX0_copyGrid 9 = .ok (.aload_n 1, 1) := by decide +kernel
theorem dX0_copyGrid_10 : decode cX0_copyGrid 10 = .ok (.getfield 15, 3) := by decide +kernel
theorem dX0_copyGrid_13 : decode cX0_copyGrid 13 = .ok (.putfield 15, 3) := by decide +kernel
theorem dX0_copyGrid_16 : decode cX0_copyGrid 16 = .ok (.aload_n 0, 1) := by decide +kernel
theorem dX0_copyGrid_17 : decode cX0_copyGrid 17 = .ok (.aload_n 1, 1) := by decide +kernel
theorem dX0_copyGrid_18 : decode cX0_copyGrid 18 = .ok (.getfield 18, 3) := by decide +kernel
theorem dX0_copyGrid_21 : decode cX0_copyGrid 21 = .ok (.putfield 18, 3) := by decide +kernel
theorem dX0_copyGrid_24 : decode cX0_copyGrid 24 = .ok (.return_, 1) := by decide +kernel
theorem dX0_boxes_0 : decode cX0_boxes 0 = .ok (.aload_n 0, 1) := by decide +kernel
theorem dX0_boxes_1 : decode cX0_boxes 1 = .ok (.getfield 9, 3) := by decide +kernel
theorem dX0_boxes_4 : decode cX0_boxes 4 = .ok (.aload_n 0, 1) := by decide +kernel
theorem dX0_boxes_5 : decode cX0_boxes 5 = .ok (.getfield 15, 3) := by decide +kernel
theorem dX0_boxes_8 : decode cX0_boxes 8 = .ok (.imul, 1) := by decide +kernel
theorem dX0_boxes_9 : decode cX0_boxes 9 = .ok (.ireturn, 1) := by decide +kernel
theorem dX0_has_0 : decode cX0_has 0 = .ok (.iload_n 1, 1) := by decide +kernel
theorem dX0_has_1 : decode cX0_has 1 = .ok (.ifCond .lt 20, 3) := by decide +kernel
theorem dX0_has_4 : decode cX0_has 4 = .ok (.iload_n 1, 1) := by decide +kernel
theorem dX0_has_5 : decode cX0_has 5 = .ok (.aload_n 0, 1) := by decide +kernel
theorem dX0_has_6 : decode cX0_has 6 = .ok (.getfield 9, 3) := by decide +kernel
theorem dX0_has_9 : decode cX0_has 9 = .ok (.aload_n 0, 1) := by decide +kernel
theorem dX0_has_10 : decode cX0_has 10 = .ok (.getfield 15, 3) := by decide +kernel
theorem dX0_has_13 : decode cX0_has 13 = .ok (.imul, 1) := by decide +kernel
theorem dX0_has_14 : decode cX0_has 14 = .ok (.if_icmp .ge 7, 3) := by decide +kernel
theorem dX0_has_17 : decode cX0_has 17 = .ok (.iconst 1, 1) := by decide +kernel
theorem dX0_has_18 : decode cX0_has 18 = .ok (.goto 4, 3) := by decide +kernel
theorem dX0_has_21 : decode cX0_has 21 = .ok (.iconst 0, 1) := by decide +kernel
theorem dX0_has_22 : decode cX0_has 22 = .ok (.ireturn, 1) := by decide +kernel
theorem dX0_beside_0 : decode cX0_beside 0 = .ok (.aload_n 0, 1) := by decide +kernel
theorem dX0_beside_1 : decode cX0_beside 1 = .ok (.getfield 9, 3) := by decide +kernel
theorem dX0_beside_4 : decode cX0_beside 4 = .ok (.iconst 1, 1) := by decide +kernel
theorem dX0_beside_5 : decode cX0_beside 5 = .ok (.if_icmp .ge 5, 3) := by decide +kernel
theorem dX0_beside_8 : decode cX0_beside 8 = .ok (.iconst (-1), 1) := by decide +kernel
theorem dX0_beside_9 : decode cX0_beside 9 = .ok (.ireturn, 1) := by decide +kernel
theorem dX0_beside_10 : decode cX0_beside 10 = .ok (.iload_n 1, 1) := by decide +kernel
theorem dX0_beside_11 : decode cX0_beside 11 = .ok (.aload_n 0, 1) := by decide +kernel
theorem dX0_beside_12 : decode cX0_beside 12 = .ok (.getfield 9, 3) := by decide +kernel
theorem dX0_beside_15 : decode cX0_beside 15 = .ok (.irem, 1) := by decide +kernel
theorem dX0_beside_16 : decode cX0_beside 16 = .ok (.istore_n 3, 1) := by decide +kernel
theorem dX0_beside_17 : decode cX0_beside 17 = .ok (.iload_n 1, 1) := by decide +kernel
theorem dX0_beside_18 : decode cX0_beside 18 = .ok (.aload_n 0, 1) := by decide +kernel
theorem dX0_beside_19 : decode cX0_beside 19 = .ok (.getfield 9, 3) := by decide +kernel
theorem dX0_beside_22 : decode cX0_beside 22 = .ok (.idiv, 1) := by decide +kernel
theorem dX0_beside_23 : decode cX0_beside 23 = .ok (.istore 4, 2) := by decide +kernel
theorem dX0_beside_25 : decode cX0_beside 25 = .ok (.iload_n 2, 1) := by decide +kernel
theorem dX0_beside_26 : decode cX0_beside 26 = .ok (.tableswitch 98 0 3 #[30, 48, 60, 82], 30) := by decide +kernel
theorem dX0_beside_56 : decode cX0_beside 56 = .ok (.iload_n 3, 1) := by decide +kernel
theorem dX0_beside_57 : decode cX0_beside 57 = .ok (.aload_n 0, 1) := by decide +kernel
theorem dX0_beside_58 : decode cX0_beside 58 = .ok (.getfield 9, 3) := by decide +kernel
theorem dX0_beside_61 : decode cX0_beside 61 = .ok (.iconst 1, 1) := by decide +kernel
theorem dX0_beside_62 : decode cX0_beside 62 = .ok (.isub, 1) := by decide +kernel
theorem dX0_beside_63 : decode cX0_beside 63 = .ok (.if_icmp .ge 9, 3) := by decide +kernel
theorem dX0_beside_66 : decode cX0_beside 66 = .ok (.iload_n 1, 1) := by decide +kernel
theorem dX0_beside_67 : decode cX0_beside 67 = .ok (.iconst 1, 1) := by decide +kernel
theorem dX0_beside_68 : decode cX0_beside 68 = .ok (.iadd, 1) := by decide +kernel
theorem dX0_beside_69 : decode cX0_beside 69 = .ok (.goto 4, 3) := by decide +kernel
theorem dX0_beside_72 : decode cX0_beside 72 = .ok (.iconst (-1), 1) := by decide +kernel
theorem dX0_beside_73 : decode cX0_beside 73 = .ok (.ireturn, 1) := by decide +kernel
theorem dX0_beside_74 : decode cX0_beside 74 = .ok (.iload_n 3, 1) := by decide +kernel
theorem dX0_beside_75 : decode cX0_beside 75 = .ok (.ifCond .le 9, 3) := by decide +kernel
theorem dX0_beside_78 : decode cX0_beside 78 = .ok (.iload_n 1, 1) := by decide +kernel
theorem dX0_beside_79 : decode cX0_beside 79 = .ok (.iconst 1, 1) := by decide +kernel
theorem dX0_beside_80 : decode cX0_beside 80 = .ok (.isub, 1) := by decide +kernel
theorem dX0_beside_81 : decode cX0_beside 81 = .ok (.goto 4, 3) := by decide +kernel
theorem dX0_beside_84 : decode cX0_beside 84 = .ok (.iconst (-1), 1) := by decide +kernel
theorem dX0_beside_85 : decode cX0_beside 85 = .ok (.ireturn, 1) := by decide +kernel
theorem dX0_beside_86 : decode cX0_beside 86 = .ok (.iload 4, 2) := by decide +kernel
theorem dX0_beside_88 : decode cX0_beside 88 = .ok (.aload_n 0, 1) := by decide +kernel
theorem dX0_beside_89 : decode cX0_beside 89 = .ok (.getfield 15, 3) := by decide +kernel
theorem dX0_beside_92 : decode cX0_beside 92 = .ok (.iconst 1, 1) := by decide +kernel
theorem dX0_beside_93 : decode cX0_beside 93 = .ok (.isub, 1) := by decide +kernel
theorem dX0_beside_94 : decode cX0_beside 94 = .ok (.if_icmp .ge 12, 3) := by decide +kernel
theorem dX0_beside_97 : decode cX0_beside 97 = .ok (.iload_n 1, 1) := by decide +kernel
theorem dX0_beside_98 : decode cX0_beside 98 = .ok (.aload_n 0, 1) := by decide +kernel
theorem dX0_beside_99 : decode cX0_beside 99 = .ok (.getfield 9, 3) := by decide +kernel
theorem dX0_beside_102 : decode cX0_beside 102 = .ok (.iadd, 1) := by decide +kernel
theorem dX0_beside_103 : decode cX0_beside 103 = .ok (.goto 4, 3) := by decide +kernel
theorem dX0_beside_106 : decode cX0_beside 106 = .ok (.iconst (-1), 1) := by decide +kernel
theorem dX0_beside_107 : decode cX0_beside 107 = .ok (.ireturn, 1) := by decide +kernel
theorem dX0_beside_108 : decode cX0_beside 108 = .ok (.iload 4, 2) := by decide +kernel
theorem dX0_beside_110 : decode cX0_beside 110 = .ok (.ifCond .le 12, 3) := by decide +kernel
theorem dX0_beside_113 : decode cX0_beside 113 = .ok (.iload_n 1, 1) := by decide +kernel
theorem dX0_beside_114 : decode cX0_beside 114 = .ok (.aload_n 0, 1) := by decide +kernel
theorem dX0_beside_115 : decode cX0_beside 115 = .ok (.getfield 9, 3) := by decide +kernel
theorem dX0_beside_118 : decode cX0_beside 118 = .ok (.isub, 1) := by decide +kernel
theorem dX0_beside_119 : decode cX0_beside 119 = .ok (.goto 4, 3) := by decide +kernel
theorem dX0_beside_122 : decode cX0_beside 122 = .ok (.iconst (-1), 1) := by decide +kernel
theorem dX0_beside_123 : decode cX0_beside 123 = .ok (.ireturn, 1) := by decide +kernel
theorem dX0_beside_124 : decode cX0_beside 124 = .ok (.iconst (-1), 1) := by decide +kernel
theorem dX0_beside_125 : decode cX0_beside 125 = .ok (.ireturn, 1) := by decide +kernel
theorem dX0_distance_0 : decode cX0_distance 0 = .ok (.aload_n 0, 1) := by decide +kernel
theorem dX0_distance_1 : decode cX0_distance 1 = .ok (.getfield 9, 3) := by decide +kernel
theorem dX0_distance_4 : decode cX0_distance 4 = .ok (.iconst 1, 1) := by decide +kernel
theorem dX0_distance_5 : decode cX0_distance 5 = .ok (.if_icmp .ge 5, 3) := by decide +kernel
theorem dX0_distance_8 : decode cX0_distance 8 = .ok (.iconst 0, 1) := by decide +kernel
theorem dX0_distance_9 : decode cX0_distance 9 = .ok (.ireturn, 1) := by decide +kernel
theorem dX0_distance_10 : decode cX0_distance 10 = .ok (.iload_n 1, 1) := by decide +kernel
theorem dX0_distance_11 : decode cX0_distance 11 = .ok (.aload_n 0, 1) := by decide +kernel
theorem dX0_distance_12 : decode cX0_distance 12 = .ok (.getfield 9, 3) := by decide +kernel
theorem dX0_distance_15 : decode cX0_distance 15 = .ok (.irem, 1) := by decide +kernel
theorem dX0_distance_16 : decode cX0_distance 16 = .ok (.iload_n 2, 1) := by decide +kernel
theorem dX0_distance_17 : decode cX0_distance 17 = .ok (.aload_n 0, 1) := by decide +kernel
theorem dX0_distance_18 : decode cX0_distance 18 = .ok (.getfield 9, 3) := by decide +kernel
theorem dX0_distance_21 : decode cX0_distance 21 = .ok (.irem, 1) := by decide +kernel
theorem dX0_distance_22 : decode cX0_distance 22 = .ok (.isub, 1) := by decide +kernel
theorem dX0_distance_23 : decode cX0_distance 23 = .ok (.invokestatic 22, 3) := by decide +kernel
theorem dX0_distance_26 : decode cX0_distance 26 = .ok (.iload_n 1, 1) := by decide +kernel
theorem dX0_distance_27 : decode cX0_distance 27 = .ok (.aload_n 0, 1) := by decide +kernel
theorem dX0_distance_28 : decode cX0_distance 28 = .ok (.getfield 9, 3) := by decide +kernel
theorem dX0_distance_31 : decode cX0_distance 31 = .ok (.idiv, 1) := by decide +kernel
theorem dX0_distance_32 : decode cX0_distance 32 = .ok (.iload_n 2, 1) := by decide +kernel
theorem dX0_distance_33 : decode cX0_distance 33 = .ok (.aload_n 0, 1) := by decide +kernel
theorem dX0_distance_34 : decode cX0_distance 34 = .ok (.getfield 9, 3) := by decide +kernel
theorem dX0_distance_37 : decode cX0_distance 37 = .ok (.idiv, 1) := by decide +kernel
theorem dX0_distance_38 : decode cX0_distance 38 = .ok (.isub, 1) := by decide +kernel
theorem dX0_distance_39 : decode cX0_distance 39 = .ok (.invokestatic 22, 3) := by decide +kernel
theorem dX0_distance_42 : decode cX0_distance 42 = .ok (.iadd, 1) := by decide +kernel
theorem dX0_distance_43 : decode cX0_distance 43 = .ok (.ireturn, 1) := by decide +kernel
theorem dX0_linkAt_0 : decode cX0_linkAt 0 = .ok (.aload_n 0, 1) := by decide +kernel
theorem dX0_linkAt_1 : decode cX0_linkAt 1 = .ok (.iload_n 1, 1) := by decide +kernel
theorem dX0_linkAt_2 : decode cX0_linkAt 2 = .ok (.iload_n 2, 1) := by decide +kernel
theorem dX0_linkAt_3 : decode cX0_linkAt 3 = .ok (.invokevirtual 28, 3) := by decide +kernel
theorem dX0_linkAt_6 : decode cX0_linkAt 6 = .ok (.istore_n 3, 1) := by decide +kernel
theorem dX0_linkAt_7 : decode cX0_linkAt 7 = .ok (.iload_n 3, 1) := by decide +kernel
theorem dX0_linkAt_8 : decode cX0_linkAt 8 = .ok (.iconst (-1), 1) := by decide +kernel
theorem dX0_linkAt_9 : decode cX0_linkAt 9 = .ok (.if_icmp .ne 5, 3) := by decide +kernel
theorem dX0_linkAt_12 : decode cX0_linkAt 12 = .ok (.iconst (-1), 1) := by decide +kernel
theorem dX0_linkAt_13 : decode cX0_linkAt 13 = .ok (.ireturn, 1) := by decide +kernel
theorem dX0_linkAt_14 : decode cX0_linkAt 14 = .ok (.iconst 2, 1) := by decide +kernel
theorem dX0_linkAt_15 : decode cX0_linkAt 15 = .ok (.iload_n 1, 1) := by decide +kernel
theorem dX0_linkAt_16 : decode cX0_linkAt 16 = .ok (.iload_n 3, 1) := by decide +kernel
theorem dX0_linkAt_17 : decode cX0_linkAt 17 = .ok (.invokestatic 32, 3) := by decide +kernel
theorem dX0_linkAt_20 : decode cX0_linkAt 20 = .ok (.imul, 1) := by decide +kernel
theorem dX0_linkAt_21 : decode cX0_linkAt 21 = .ok (.iload_n 2, 1) := by decide +kernel
theorem dX0_linkAt_22 : decode cX0_linkAt 22 = .ok (.ifCond .eq 8, 3) := by decide +kernel
theorem dX0_linkAt_25 : decode cX0_linkAt 25 = .ok (.iload_n 2, 1) := by decide +kernel
theorem dX0_linkAt_26 : decode cX0_linkAt 26 = .ok (.iconst 1, 1) := by decide +kernel
theorem dX0_linkAt_27 : decode cX0_linkAt 27 = .ok (.if_icmp .ne 7, 3) := by decide +kernel
theorem dX0_linkAt_30 : decode cX0_linkAt 30 = .ok (.iconst 0, 1) := by decide +kernel
theorem dX0_linkAt_31 : decode cX0_linkAt 31 = .ok (.goto 4, 3) := by decide +kernel
theorem dX0_linkAt_34 : decode cX0_linkAt 34 = .ok (.iconst 1, 1) := by decide +kernel
theorem dX0_linkAt_35 : decode cX0_linkAt 35 = .ok (.iadd, 1) := by decide +kernel
theorem dX0_linkAt_36 : decode cX0_linkAt 36 = .ok (.ireturn, 1) := by decide +kernel
theorem dX0_boxOfLink_0 : decode cX0_boxOfLink 0 = .ok (.iload_n 0, 1) := by decide +kernel
theorem dX0_boxOfLink_1 : decode cX0_boxOfLink 1 = .ok (.iconst 2, 1) := by decide +kernel
theorem dX0_boxOfLink_2 : decode cX0_boxOfLink 2 = .ok (.idiv, 1) := by decide +kernel
theorem dX0_boxOfLink_3 : decode cX0_boxOfLink 3 = .ok (.ireturn, 1) := by decide +kernel
theorem dX0_sideOfLink_0 : decode cX0_sideOfLink 0 = .ok (.iload_n 0, 1) := by decide +kernel
theorem dX0_sideOfLink_1 : decode cX0_sideOfLink 1 = .ok (.iconst 2, 1) := by decide +kernel
theorem dX0_sideOfLink_2 : decode cX0_sideOfLink 2 = .ok (.irem, 1) := by decide +kernel
theorem dX0_sideOfLink_3 : decode cX0_sideOfLink 3 = .ok (.ifCond .ne 7, 3) := by decide +kernel
theorem dX0_sideOfLink_6 : decode cX0_sideOfLink 6 = .ok (.iconst 0, 1) := by decide +kernel
theorem dX0_sideOfLink_7 : decode cX0_sideOfLink 7 = .ok (.goto 4, 3) := by decide +kernel
theorem dX0_sideOfLink_10 : decode cX0_sideOfLink 10 = .ok (.iconst 2, 1) := by decide +kernel
theorem dX0_sideOfLink_11 : decode cX0_sideOfLink 11 = .ok (.ireturn, 1) := by decide +kernel
theorem dX0_isLink_0 : decode cX0_isLink 0 = .ok (.aload_n 0, 1) := by decide +kernel
theorem dX0_isLink_1 : decode cX0_isLink 1 = .ok (.iload_n 1, 1) := by decide +kernel
theorem dX0_isLink_2 : decode cX0_isLink 2 = .ok (.invokestatic 35, 3) := by decide +kernel
theorem dX0_isLink_5 : decode cX0_isLink 5 = .ok (.iload_n 1, 1) := by decide +kernel
theorem dX0_isLink_6 : decode cX0_isLink 6 = .ok (.invokestatic 38, 3) := by decide +kernel
theorem dX0_isLink_9 : decode cX0_isLink 9 = .ok (.invokevirtual 28, 3) := by decide +kernel
theorem dX0_isLink_12 : decode cX0_isLink 12 = .ok (.iconst (-1), 1) := by decide +kernel
theorem dX0_isLink_13 : decode cX0_isLink 13 = .ok (.if_icmp .eq 7, 3) := by decide +kernel
theorem dX0_isLink_16 : decode cX0_isLink 16 = .ok (.iconst 1, 1) := by decide +kernel
theorem dX0_isLink_17 : decode cX0_isLink 17 = .ok (.goto 4, 3) := by decide +kernel
theorem dX0_isLink_20 : decode cX0_isLink 20 = .ok (.iconst 0, 1) := by decide +kernel
theorem dX0_isLink_21 : decode cX0_isLink 21 = .ok (.ireturn, 1) := by decide +kernel
theorem dX0_isWhole_0 : decode cX0_isWhole 0 = .ok (.aload_n 0, 1) := by decide +kernel
theorem dX0_isWhole_1 : decode cX0_isWhole 1 = .ok (.getfield 18, 3) := by decide +kernel
theorem dX0_isWhole_4 : decode cX0_isWhole 4 = .ok (.iload_n 1, 1) := by decide +kernel
theorem dX0_isWhole_5 : decode cX0_isWhole 5 = .ok (.lushr, 1) := by decide +kernel
theorem dX0_isWhole_6 : decode cX0_isWhole 6 = .ok (.lconst 1, 1) := by decide +kernel
theorem dX0_isWhole_7 : decode cX0_isWhole 7 = .ok (.land, 1) := by decide +kernel
theorem dX0_isWhole_8 : decode cX0_isWhole 8 = .ok (.lconst 0, 1) := by decide +kernel
theorem dX0_isWhole_9 : decode cX0_isWhole 9 = .ok (.lcmp, 1) := by decide +kernel
theorem dX0_isWhole_10 : decode cX0_isWhole 10 = .ok (.ifCond .ne 7, 3) := by decide +kernel
theorem dX0_isWhole_13 : decode cX0_isWhole 13 = .ok (.iconst 1, 1) := by decide +kernel
theorem dX0_isWhole_14 : decode cX0_isWhole 14 = .ok (.goto 4, 3) := by decide +kernel
theorem dX0_isWhole_17 : decode cX0_isWhole 17 = .ok (.iconst 0, 1) := by decide +kernel
theorem dX0_isWhole_18 : decode cX0_isWhole 18 = .ok (.ireturn, 1) := by decide +kernel
theorem dX0_makeWhole_0 : decode cX0_makeWhole 0 = .ok (.lconst 1, 1) := by decide +kernel
theorem dX0_makeWhole_1 : decode cX0_makeWhole 1 = .ok (.iload_n 1, 1) := by decide +kernel
theorem dX0_makeWhole_2 : decode cX0_makeWhole 2 = .ok (.lshl, 1) := by decide +kernel
theorem dX0_makeWhole_3 : decode cX0_makeWhole 3 = .ok (.lstore_n 3, 1) := by decide +kernel
theorem dX0_makeWhole_4 : decode cX0_makeWhole 4 = .ok (.aload_n 0, 1) := by decide +kernel
theorem dX0_makeWhole_5 : decode cX0_makeWhole 5 = .ok (.iload_n 2, 1) := by decide +kernel
theorem dX0_makeWhole_6 : decode cX0_makeWhole 6 = .ok (.ifCond .eq 16, 3) := by decide +kernel
theorem dX0_makeWhole_9 : decode cX0_makeWhole 9 = .ok (.aload_n 0, 1) := by decide +kernel
theorem dX0_makeWhole_10 : decode cX0_makeWhole 10 = .ok (.getfield 18, 3) := by decide +kernel
theorem dX0_makeWhole_13 : decode cX0_makeWhole 13 = .ok (.lload_n 3, 1) := by decide +kernel
theorem dX0_makeWhole_14 : decode cX0_makeWhole 14 = .ok (.ldc2_w 41, 3) := by decide +kernel
theorem dX0_makeWhole_17 : decode cX0_makeWhole 17 = .ok (.lxor, 1) := by decide +kernel
theorem dX0_makeWhole_18 : decode cX0_makeWhole 18 = .ok (.land, 1) := by decide +kernel
theorem dX0_makeWhole_19 : decode cX0_makeWhole 19 = .ok (.goto 9, 3) := by decide +kernel
theorem dX0_makeWhole_22 : decode cX0_makeWhole 22 = .ok (.aload_n 0, 1) := by decide +kernel
theorem dX0_makeWhole_23 : decode cX0_makeWhole 23 = .ok (.getfield 18, 3) := by decide +kernel
theorem dX0_makeWhole_26 : decode cX0_makeWhole 26 = .ok (.lload_n 3, 1) := by decide +kernel
theorem dX0_makeWhole_27 : decode cX0_makeWhole 27 = .ok (.lor, 1) := by decide +kernel
theorem dX0_makeWhole_28 : decode cX0_makeWhole 28 = .ok (.putfield 18, 3) := by decide +kernel
theorem dX0_makeWhole_31 : decode cX0_makeWhole 31 = .ok (.return_, 1) := by decide +kernel
theorem dX0_brokenLinks_0 : decode cX0_brokenLinks 0 = .ok (.aload_n 0, 1) := by decide +kernel
theorem dX0_brokenLinks_1 : decode cX0_brokenLinks 1 = .ok (.getfield 18, 3) := by decide +kernel
theorem dX0_brokenLinks_4 : decode cX0_brokenLinks 4 = .ok (.invokestatic 43, 3) := by decide +kernel
theorem dX0_brokenLinks_7 : decode cX0_brokenLinks 7 = .ok (.ireturn, 1) := by decide +kernel
theorem dX1_init_0 : decode cX1_init 0 = .ok (.aload_n 0, 1) := by decide +kernel
theorem dX1_init_1 : decode cX1_init 1 = .ok (.invokespecial 3, 3) := by decide +kernel
theorem dX1_init_4 : decode cX1_init 4 = .ok (.aload_n 0, 1) := by decide +kernel
theorem dX1_init_5 : decode cX1_init 5 = .ok (.bipush 40, 2) := by decide +kernel
theorem dX1_init_7 : decode cX1_init 7 = .ok (.newarray .boolean, 2) := by decide +kernel
theorem dX1_init_9 : decode cX1_init 9 = .ok (.putfield 9, 3) := by decide +kernel
theorem dX1_init_12 : decode cX1_init 12 = .ok (.return_, 1) := by decide +kernel
theorem dX1_holds_0 : decode cX1_holds 0 = .ok (.aload_n 0, 1) := by decide +kernel
theorem dX1_holds_1 : decode cX1_holds 1 = .ok (.aload_n 1, 1) := by decide +kernel
theorem dX1_holds_2 : decode cX1_holds 2 = .ok (.aload_n 2, 1) := by decide +kernel
theorem dX1_holds_3 : decode cX1_holds 3 = .ok (.invokevirtual 15, 3) := by decide +kernel
theorem dX1_holds_6 : decode cX1_holds 6 = .ok (.aload_n 1, 1) := by decide +kernel
theorem dX1_holds_7 : decode cX1_holds 7 = .ok (.getfield 19, 3) := by decide +kernel
theorem dX1_holds_10 : decode cX1_holds 10 = .ok (.iload_n 3, 1) := by decide +kernel
theorem dX1_holds_11 : decode cX1_holds 11 = .ok (.invokevirtual 25, 3) := by decide +kernel
theorem dX1_holds_14 : decode cX1_holds 14 = .ok (.ifCond .eq 16, 3) := by decide +kernel
theorem dX1_holds_17 : decode cX1_holds 17 = .ok (.aload_n 0, 1) := by decide +kernel
theorem dX1_holds_18 : decode cX1_holds 18 = .ok (.getfield 9, 3) := by decide +kernel
theorem dX1_holds_21 : decode cX1_holds 21 = .ok (.iload_n 3, 1) := by decide +kernel
theorem dX1_holds_22 : decode cX1_holds 22 = .ok (.baload, 1) := by decide +kernel
theorem dX1_holds_23 : decode cX1_holds 23 = .ok (.ifCond .eq 7, 3) := by decide +kernel
theorem dX1_holds_26 : decode cX1_holds 26 = .ok (.iconst 1, 1) := by decide +kernel
theorem dX1_holds_27 : decode cX1_holds 27 = .ok (.goto 4, 3) := by decide +kernel
theorem dX1_holds_30 : decode cX1_holds 30 = .ok (.iconst 0, 1) := by decide +kernel
theorem dX1_holds_31 : decode cX1_holds 31 = .ok (.ireturn, 1) := by decide +kernel
theorem dX1_size_0 : decode cX1_size 0 = .ok (.aload_n 0, 1) := by decide +kernel
theorem dX1_size_1 : decode cX1_size 1 = .ok (.aload_n 1, 1) := by decide +kernel
theorem dX1_size_2 : decode cX1_size 2 = .ok (.aload_n 2, 1) := by decide +kernel
theorem dX1_size_3 : decode cX1_size 3 = .ok (.invokevirtual 15, 3) := by decide +kernel
theorem dX1_size_6 : decode cX1_size 6 = .ok (.iconst 0, 1) := by decide +kernel
theorem dX1_size_7 : decode cX1_size 7 = .ok (.istore_n 3, 1) := by decide +kernel
theorem dX1_size_8 : decode cX1_size 8 = .ok (.iconst 0, 1) := by decide +kernel
theorem dX1_size_9 : decode cX1_size 9 = .ok (.istore 4, 2) := by decide +kernel
theorem dX1_size_11 : decode cX1_size 11 = .ok (.iload 4, 2) := by decide +kernel
theorem dX1_size_13 : decode cX1_size 13 = .ok (.aload_n 1, 1) := by decide +kernel
theorem dX1_size_14 : decode cX1_size 14 = .ok (.getfield 19, 3) := by decide +kernel
theorem dX1_size_17 : decode cX1_size 17 = .ok (.getfield 31, 3) := by decide +kernel
theorem dX1_size_20 : decode cX1_size 20 = .ok (.if_icmp .ge 22, 3) := by decide +kernel
theorem dX1_size_23 : decode cX1_size 23 = .ok (.aload_n 0, 1) := by decide +kernel
theorem dX1_size_24 : decode cX1_size 24 = .ok (.getfield 9, 3) := by decide +kernel
theorem dX1_size_27 : decode cX1_size 27 = .ok (.iload 4, 2) := by decide +kernel
theorem dX1_size_29 : decode cX1_size 29 = .ok (.baload, 1) := by decide +kernel
theorem dX1_size_30 : decode cX1_size 30 = .ok (.ifCond .eq 6, 3) := by decide +kernel
theorem dX1_size_33 : decode cX1_size 33 = .ok (.iinc 3 1, 3) := by decide +kernel
theorem dX1_size_36 : decode cX1_size 36 = .ok (.iinc 4 1, 3) := by decide +kernel
theorem dX1_size_39 : decode cX1_size 39 = .ok (.goto (-28), 3) := by decide +kernel
theorem dX1_size_42 : decode cX1_size 42 = .ok (.iload_n 3, 1) := by decide +kernel
theorem dX1_size_43 : decode cX1_size 43 = .ok (.ireturn, 1) := by decide +kernel
theorem dX1_find_0 : decode cX1_find 0 = .ok (.aload_n 1, 1) := by decide +kernel
theorem dX1_find_1 : decode cX1_find 1 = .ok (.getfield 19, 3) := by decide +kernel
theorem dX1_find_4 : decode cX1_find 4 = .ok (.getfield 31, 3) := by decide +kernel
theorem dX1_find_7 : decode cX1_find 7 = .ok (.istore_n 3, 1) := by decide +kernel
theorem dX1_find_8 : decode cX1_find 8 = .ok (.iconst 0, 1) := by decide +kernel
theorem dX1_find_9 : decode cX1_find 9 = .ok (.istore 4, 2) := by decide +kernel
theorem dX1_find_11 : decode cX1_find 11 = .ok (.iload 4, 2) := by decide +kernel
theorem dX1_find_13 : decode cX1_find 13 = .ok (.iload_n 3, 1) := by decide +kernel
theorem dX1_find_14 : decode cX1_find 14 = .ok (.if_icmp .ge 35, 3) := by decide +kernel
theorem dX1_find_17 : decode cX1_find 17 = .ok (.aload_n 0, 1) := by decide +kernel
theorem dX1_find_18 : decode cX1_find 18 = .ok (.getfield 9, 3) := by decide +kernel
theorem dX1_find_21 : decode cX1_find 21 = .ok (.iload 4, 2) := by decide +kernel
theorem dX1_find_23 : decode cX1_find 23 = .ok (.aload_n 1, 1) := by decide +kernel
theorem dX1_find_24 : decode cX1_find 24 = .ok (.getfield 19, 3) := by decide +kernel
theorem dX1_find_27 : decode cX1_find 27 = .ok (.getfield 35, 3) := by decide +kernel
theorem dX1_find_30 : decode cX1_find 30 = .ok (.iload 4, 2) := by decide +kernel
theorem dX1_find_32 : decode cX1_find 32 = .ok (.iaload, 1) := by decide +kernel
theorem dX1_find_33 : decode cX1_find 33 = .ok (.iconst 1, 1) := by decide +kernel
theorem dX1_find_34 : decode cX1_find 34 = .ok (.if_icmp .ne 7, 3) := by decide +kernel
theorem dX1_find_37 : decode cX1_find 37 = .ok (.iconst 1, 1) := by decide +kernel
theorem dX1_find_38 : decode cX1_find 38 = .ok (.goto 4, 3) := by decide +kernel
theorem dX1_find_41 : decode cX1_find 41 = .ok (.iconst 0, 1) := by decide +kernel
theorem dX1_find_42 : decode cX1_find 42 = .ok (.bastore, 1) := by decide +kernel
theorem dX1_find_43 : decode cX1_find 43 = .ok (.iinc 4 1, 3) := by decide +kernel
theorem dX1_find_46 : decode cX1_find 46 = .ok (.goto (-35), 3) := by decide +kernel
theorem dX1_find_49 : decode cX1_find 49 = .ok (.iconst 1, 1) := by decide +kernel
theorem dX1_find_50 : decode cX1_find 50 = .ok (.istore 4, 2) := by decide +kernel
theorem dX1_find_52 : decode cX1_find 52 = .ok (.iconst 0, 1) := by decide +kernel
theorem dX1_find_53 : decode cX1_find 53 = .ok (.istore 5, 2) := by decide +kernel
theorem dX1_find_55 : decode cX1_find 55 = .ok (.iload 5, 2) := by decide +kernel
theorem dX1_find_57 : decode cX1_find 57 = .ok (.bipush 40, 2) := by decide +kernel
theorem dX1_find_59 : decode cX1_find 59 = .ok (.if_icmp .gt 64, 3) := by decide +kernel
theorem dX1_find_62 : decode cX1_find 62 = .ok (.iload 4, 2) := by decide +kernel
theorem dX1_find_64 : decode cX1_find 64 = .ok (.ifCond .eq 59, 3) := by decide +kernel
theorem dX1_find_67 : decode cX1_find 67 = .ok (.iconst 0, 1) := by decide +kernel
theorem dX1_find_68 : decode cX1_find 68 = .ok (.istore 4, 2) := by decide +kernel
theorem dX1_find_70 : decode cX1_find 70 = .ok (.iconst 0, 1) := by decide +kernel
theorem dX1_find_71 : decode cX1_find 71 = .ok (.istore 6, 2) := by decide +kernel
theorem dX1_find_73 : decode cX1_find 73 = .ok (.iload 6, 2) := by decide +kernel
theorem dX1_find_75 : decode cX1_find 75 = .ok (.iload_n 3, 1) := by decide +kernel
theorem dX1_find_76 : decode cX1_find 76 = .ok (.if_icmp .ge 41, 3) := by decide +kernel
theorem dX1_find_79 : decode cX1_find 79 = .ok (.aload_n 0, 1) := by decide +kernel
theorem dX1_find_80 : decode cX1_find 80 = .ok (.getfield 9, 3) := by decide +kernel
theorem dX1_find_83 : decode cX1_find 83 = .ok (.iload 6, 2) := by decide +kernel
theorem dX1_find_85 : decode cX1_find 85 = .ok (.baload, 1) := by decide +kernel
theorem dX1_find_86 : decode cX1_find 86 = .ok (.ifCond .eq 25, 3) := by decide +kernel
theorem dX1_find_89 : decode cX1_find 89 = .ok (.aload_n 0, 1) := by decide +kernel
theorem dX1_find_90 : decode cX1_find 90 = .ok (.aload_n 1, 1) := by decide +kernel
theorem dX1_find_91 : decode cX1_find 91 = .ok (.aload_n 2, 1) := by decide +kernel
theorem dX1_find_92 : decode cX1_find 92 = .ok (.iload 6, 2) := by decide +kernel
theorem dX1_find_94 : decode cX1_find 94 = .ok (.invokevirtual 39, 3) := by decide +kernel
theorem dX1_find_97 : decode cX1_find 97 = .ok (.ifCond .eq 14, 3) := by decide +kernel
theorem dX1_find_100 : decode cX1_find 100 = .ok (.aload_n 0, 1) := by decide +kernel
theorem dX1_find_101 : decode cX1_find 101 = .ok (.getfield 9, 3) := by decide +kernel
theorem dX1_find_104 : decode cX1_find 104 = .ok (.iload 6, 2) := by decide +kernel
theorem dX1_find_106 : decode cX1_find 106 = .ok (.iconst 0, 1) := by decide +kernel
theorem dX1_find_107 : decode cX1_find 107 = .ok (.bastore, 1) := by decide +kernel
theorem dX1_find_108 : decode cX1_find 108 = .ok (.iconst 1, 1) := by decide +kernel
theorem dX1_find_109 : decode cX1_find 109 = .ok (.istore 4, 2) := by decide +kernel
theorem dX1_find_111 : decode cX1_find 111 = .ok (.iinc 6 1, 3) := by decide +kernel
theorem dX1_find_114 : decode cX1_find 114 = .ok (.goto (-41), 3) := by decide +kernel
theorem dX1_find_117 : decode cX1_find 117 = .ok (.iinc 5 1, 3) := by decide +kernel
theorem dX1_find_120 : decode cX1_find 120 = .ok (.goto (-65), 3) := by decide +kernel
theorem dX1_find_123 : decode cX1_find 123 = .ok (.return_, 1) := by decide +kernel
theorem dX1_canGoOn_0 : decode cX1_canGoOn 0 = .ok (.iconst 0, 1) := by decide +kernel
theorem dX1_canGoOn_1 : decode cX1_canGoOn 1 = .ok (.istore 4, 2) := by decide +kernel
theorem dX1_canGoOn_3 : decode cX1_canGoOn 3 = .ok (.iload 4, 2) := by decide +kernel
theorem dX1_canGoOn_5 : decode cX1_canGoOn 5 = .ok (.iconst 4, 1) := by decide +kernel
theorem dX1_canGoOn_6 : decode cX1_canGoOn 6 = .ok (.if_icmp .ge 62, 3) := by decide +kernel
theorem dX1_canGoOn_9 : decode cX1_canGoOn 9 = .ok (.aload_n 1, 1) := by decide +kernel
theorem dX1_canGoOn_10 : decode cX1_canGoOn 10 = .ok (.aload_n 2, 1) := by decide +kernel
theorem dX1_canGoOn_11 : decode cX1_canGoOn 11 = .ok (.iload_n 3, 1) := by decide +kernel
theorem dX1_canGoOn_12 : decode cX1_canGoOn 12 = .ok (.iload 4, 2) := by decide +kernel
theorem dX1_canGoOn_14 : decode cX1_canGoOn 14 = .ok (.invokevirtual 43, 3) := by decide +kernel
theorem dX1_canGoOn_17 : decode cX1_canGoOn 17 = .ok (.ifCond .eq 45, 3) := by decide +kernel
theorem dX1_canGoOn_20 : decode cX1_canGoOn 20 = .ok (.aload_n 2, 1) := by decide +kernel
theorem dX1_canGoOn_21 : decode cX1_canGoOn 21 = .ok (.aload_n 1, 1) := by decide +kernel
theorem dX1_canGoOn_22 : decode cX1_canGoOn 22 = .ok (.getfield 19, 3) := by decide +kernel
theorem dX1_canGoOn_25 : decode cX1_canGoOn 25 = .ok (.getfield 47, 3) := by decide +kernel
theorem dX1_canGoOn_28 : decode cX1_canGoOn 28 = .ok (.iload_n 3, 1) := by decide +kernel
theorem dX1_canGoOn_29 : decode cX1_canGoOn 29 = .ok (.iaload, 1) := by decide +kernel
theorem dX1_canGoOn_30 : decode cX1_canGoOn 30 = .ok (.iload 4, 2) := by decide +kernel
theorem dX1_canGoOn_32 : decode cX1_canGoOn 32 = .ok (.invokevirtual 50, 3) := by decide +kernel
theorem dX1_canGoOn_35 : decode cX1_canGoOn 35 = .ok (.istore 5, 2) := by decide +kernel
theorem dX1_canGoOn_37 : decode cX1_canGoOn 37 = .ok (.aload_n 1, 1) := by decide +kernel
theorem dX1_canGoOn_38 : decode cX1_canGoOn 38 = .ok (.iload_n 3, 1) := by decide +kernel
theorem dX1_canGoOn_39 : decode cX1_canGoOn 39 = .ok (.iload 5, 2) := by decide +kernel
theorem dX1_canGoOn_41 : decode cX1_canGoOn 41 = .ok (.invokevirtual 56, 3) := by decide +kernel
theorem dX1_canGoOn_44 : decode cX1_canGoOn 44 = .ok (.ifCond .ne 16, 3) := by decide +kernel
theorem dX1_canGoOn_47 : decode cX1_canGoOn 47 = .ok (.aload_n 0, 1) := by decide +kernel
theorem dX1_canGoOn_48 : decode cX1_canGoOn 48 = .ok (.aload_n 1, 1) := by decide +kernel
theorem dX1_canGoOn_49 : decode cX1_canGoOn 49 = .ok (.getfield 19, 3) := by decide +kernel
theorem dX1_canGoOn_52 : decode cX1_canGoOn 52 = .ok (.iload 5, 2) := by decide +kernel
theorem dX1_canGoOn_54 : decode cX1_canGoOn 54 = .ok (.invokevirtual 60, 3) := by decide +kernel
theorem dX1_canGoOn_57 : decode cX1_canGoOn 57 = .ok (.ifCond .eq 5, 3) := by decide +kernel
theorem dX1_canGoOn_60 : decode cX1_canGoOn 60 = .ok (.iconst 1, 1) := by decide +kernel
theorem dX1_canGoOn_61 : decode cX1_canGoOn 61 = .ok (.ireturn, 1) := by decide +kernel
theorem dX1_canGoOn_62 : decode cX1_canGoOn 62 = .ok (.iinc 4 1, 3) := by decide +kernel
theorem dX1_canGoOn_65 : decode cX1_canGoOn 65 = .ok (.goto (-62), 3) := by decide +kernel
theorem dX1_canGoOn_68 : decode cX1_canGoOn 68 = .ok (.iconst 0, 1) := by decide +kernel
theorem dX1_canGoOn_69 : decode cX1_canGoOn 69 = .ok (.ireturn, 1) := by decide +kernel
theorem dX1_hasFreePacket_0 : decode cX1_hasFreePacket 0 = .ok (.iconst 0, 1) := by decide +kernel
theorem dX1_hasFreePacket_1 : decode cX1_hasFreePacket 1 = .ok (.istore_n 3, 1) := by decide +kernel
theorem dX1_hasFreePacket_2 : decode cX1_hasFreePacket 2 = .ok (.iload_n 3, 1) := by decide +kernel
theorem dX1_hasFreePacket_3 : decode cX1_hasFreePacket 3 = .ok (.aload_n 1, 1) := by decide +kernel
theorem dX1_hasFreePacket_4 : decode cX1_hasFreePacket 4 = .ok (.getfield 31, 3) := by decide +kernel
theorem dX1_hasFreePacket_7 : decode cX1_hasFreePacket 7 = .ok (.if_icmp .ge 40, 3) := by decide +kernel
theorem dX1_hasFreePacket_10 : decode cX1_hasFreePacket 10 = .ok (.aload_n 1, 1) := by decide +kernel
theorem dX1_hasFreePacket_11 : decode cX1_hasFreePacket 11 = .ok (.getfield 35, 3) := by decide +kernel
theorem dX1_hasFreePacket_14 : decode cX1_hasFreePacket 14 = .ok (.iload_n 3, 1) := by decide +kernel
theorem dX1_hasFreePacket_15 : decode cX1_hasFreePacket 15 = .ok (.iaload, 1) := by decide +kernel
theorem dX1_hasFreePacket_16 : decode cX1_hasFreePacket 16 = .ok (.iconst 1, 1) := by decide +kernel
theorem dX1_hasFreePacket_17 : decode cX1_hasFreePacket 17 = .ok (.if_icmp .ne 24, 3) := by decide +kernel
theorem dX1_hasFreePacket_20 : decode cX1_hasFreePacket 20 = .ok (.aload_n 1, 1) := by decide +kernel
theorem dX1_hasFreePacket_21 : decode cX1_hasFreePacket 21 = .ok (.getfield 47, 3) := by decide +kernel
theorem dX1_hasFreePacket_24 : decode cX1_hasFreePacket 24 = .ok (.iload_n 3, 1) := by decide +kernel
theorem dX1_hasFreePacket_25 : decode cX1_hasFreePacket 25 = .ok (.iaload, 1) := by decide +kernel
theorem dX1_hasFreePacket_26 : decode cX1_hasFreePacket 26 = .ok (.iload_n 2, 1) := by decide +kernel
theorem dX1_hasFreePacket_27 : decode cX1_hasFreePacket 27 = .ok (.if_icmp .ne 14, 3) := by decide +kernel
theorem dX1_hasFreePacket_30 : decode cX1_hasFreePacket 30 = .ok (.aload_n 0, 1) := by decide +kernel
theorem dX1_hasFreePacket_31 : decode cX1_hasFreePacket 31 = .ok (.getfield 9, 3) := by decide +kernel
theorem dX1_hasFreePacket_34 : decode cX1_hasFreePacket 34 = .ok (.iload_n 3, 1) := by decide +kernel
theorem dX1_hasFreePacket_35 : decode cX1_hasFreePacket 35 = .ok (.baload, 1) := by decide +kernel
theorem dX1_hasFreePacket_36 : decode cX1_hasFreePacket 36 = .ok (.ifCond .ne 5, 3) := by decide +kernel
theorem dX1_hasFreePacket_39 : decode cX1_hasFreePacket 39 = .ok (.iconst 1, 1) := by decide +kernel
theorem dX1_hasFreePacket_40 : decode cX1_hasFreePacket 40 = .ok (.ireturn, 1) := by decide +kernel
theorem dX1_hasFreePacket_41 : decode cX1_hasFreePacket 41 = .ok (.iinc 3 1, 3) := by decide +kernel
theorem dX1_hasFreePacket_44 : decode cX1_hasFreePacket 44 = .ok (.goto (-42), 3) := by decide +kernel
theorem dX1_hasFreePacket_47 : decode cX1_hasFreePacket 47 = .ok (.iconst 0, 1) := by decide +kernel
theorem dX1_hasFreePacket_48 : decode cX1_hasFreePacket 48 = .ok (.ireturn, 1) := by decide +kernel
theorem dX2_init_0 : decode cX2_init 0 = .ok (.aload_n 0, 1) := by decide +kernel
theorem dX2_init_1 : decode cX2_init 1 = .ok (.invokespecial 3, 3) := by decide +kernel
theorem dX2_init_4 : decode cX2_init 4 = .ok (.aload_n 0, 1) := by decide +kernel
theorem dX2_init_5 : decode cX2_init 5 = .ok (.iconst 0, 1) := by decide +kernel
theorem dX2_init_6 : decode cX2_init 6 = .ok (.putfield 9, 3) := by decide +kernel
theorem dX2_init_9 : decode cX2_init 9 = .ok (.aload_n 0, 1) := by decide +kernel
theorem dX2_init_10 : decode cX2_init 10 = .ok (.bipush 40, 2) := by decide +kernel
theorem dX2_init_12 : decode cX2_init 12 = .ok (.newarray .int, 2) := by decide +kernel
theorem dX2_init_14 : decode cX2_init 14 = .ok (.putfield 15, 3) := by decide +kernel
theorem dX2_init_17 : decode cX2_init 17 = .ok (.aload_n 0, 1) := by decide +kernel
theorem dX2_init_18 : decode cX2_init 18 = .ok (.bipush 40, 2) := by decide +kernel
theorem dX2_init_20 : decode cX2_init 20 = .ok (.newarray .int, 2) := by decide +kernel
theorem dX2_init_22 : decode cX2_init 22 = .ok (.putfield 19, 3) := by decide +kernel
theorem dX2_init_25 : decode cX2_init 25 = .ok (.aload_n 0, 1) := by decide +kernel
theorem dX2_init_26 : decode cX2_init 26 = .ok (.bipush 40, 2) := by decide +kernel
theorem dX2_init_28 : decode cX2_init 28 = .ok (.newarray .int, 2) := by decide +kernel
theorem dX2_init_30 : decode cX2_init 30 = .ok (.putfield 22, 3) := by decide +kernel
theorem dX2_init_33 : decode cX2_init 33 = .ok (.aload_n 0, 1) := by decide +kernel
theorem dX2_init_34 : decode cX2_init 34 = .ok (.bipush 40, 2) := by decide +kernel
theorem dX2_init_36 : decode cX2_init 36 = .ok (.newarray .int, 2) := by decide +kernel
theorem dX2_init_38 : decode cX2_init 38 = .ok (.putfield 25, 3) := by decide +kernel
theorem dX2_init_41 : decode cX2_init 41 = .ok (.aload_n 0, 1) := by decide +kernel
theorem dX2_init_42 : decode cX2_init 42 = .ok (.bipush 40, 2) := by decide +kernel
theorem dX2_init_44 : decode cX2_init 44 = .ok (.newarray .int, 2) := by decide +kernel
theorem dX2_init_46 : decode cX2_init 46 = .ok (.putfield 28, 3) := by decide +kernel
theorem dX2_init_49 : decode cX2_init 49 = .ok (.aload_n 0, 1) := by decide +kernel
theorem dX2_init_50 : decode cX2_init 50 = .ok (.bipush 40, 2) := by decide +kernel
theorem dX2_init_52 : decode cX2_init 52 = .ok (.newarray .int, 2) := by decide +kernel
theorem dX2_init_54 : decode cX2_init 54 = .ok (.putfield 31, 3) := by decide +kernel
theorem dX2_init_57 : decode cX2_init 57 = .ok (.aload_n 0, 1) := by decide +kernel
theorem dX2_init_58 : decode cX2_init 58 = .ok (.bipush 40, 2) := by decide +kernel
theorem dX2_init_60 : decode cX2_init 60 = .ok (.newarray .int, 2) := by decide +kernel
theorem dX2_init_62 : decode cX2_init 62 = .ok (.putfield 34, 3) := by decide +kernel
theorem dX2_init_65 : decode cX2_init 65 = .ok (.aload_n 0, 1) := by decide +kernel
theorem dX2_init_66 : decode cX2_init 66 = .ok (.bipush 40, 2) := by decide +kernel
theorem dX2_init_68 : decode cX2_init 68 = .ok (.newarray .int, 2) := by decide +kernel
theorem dX2_init_70 : decode cX2_init 70 = .ok (.putfield 37, 3) := by decide +kernel
theorem dX2_init_73 : decode cX2_init 73 = .ok (.aload_n 0, 1) := by decide +kernel
theorem dX2_init_74 : decode cX2_init 74 = .ok (.bipush 40, 2) := by decide +kernel
theorem dX2_init_76 : decode cX2_init 76 = .ok (.newarray .int, 2) := by decide +kernel
theorem dX2_init_78 : decode cX2_init 78 = .ok (.putfield 40, 3) := by decide +kernel
theorem dX2_init_81 : decode cX2_init 81 = .ok (.aload_n 0, 1) := by decide +kernel
theorem dX2_init_82 : decode cX2_init 82 = .ok (.bipush 40, 2) := by decide +kernel
theorem dX2_init_84 : decode cX2_init 84 = .ok (.newarray .int, 2) := by decide +kernel
theorem dX2_init_86 : decode cX2_init 86 = .ok (.putfield 43, 3) := by decide +kernel
theorem dX2_init_89 : decode cX2_init 89 = .ok (.return_, 1) := by decide +kernel
theorem dX2_copyPackets_0 : decode cX2_copyPackets 0 = .ok (.aload_n 0, 1) := by decide +kernel
theorem dX2_copyPackets_1 : decode cX2_copyPackets 1 = .ok (.aload_n 1, 1) := by decide +kernel
theorem dX2_copyPackets_2 : decode cX2_copyPackets 2 = .ok (.getfield 9, 3) := by decide +kernel
theorem dX2_copyPackets_5 : decode cX2_copyPackets 5 = .ok (.putfield 9, 3) := by decide +kernel
theorem dX2_copyPackets_8 : decode cX2_copyPackets 8 = .ok (.aload_n 1, 1) := by decide +kernel
theorem dX2_copyPackets_9 : decode cX2_copyPackets 9 = .ok (.getfield 15, 3) := by decide +kernel
theorem dX2_copyPackets_12 : decode cX2_copyPackets 12 = .ok (.iconst 0, 1) := by decide +kernel
theorem dX2_copyPackets_13 : decode cX2_copyPackets 13 = .ok (.aload_n 0, 1) := by decide +kernel
theorem dX2_copyPackets_14 : decode cX2_copyPackets 14 = .ok (.getfield 15, 3) := by decide +kernel
theorem dX2_copyPackets_17 : decode cX2_copyPackets 17 = .ok (.iconst 0, 1) := by decide +kernel
theorem dX2_copyPackets_18 : decode cX2_copyPackets 18 = .ok (.bipush 40, 2) := by decide +kernel
theorem dX2_copyPackets_20 : decode cX2_copyPackets 20 = .ok (.invokestatic 46, 3) := by decide +kernel
theorem dX2_copyPackets_23 : decode cX2_copyPackets 23 = .ok (.aload_n 1, 1) := by decide +kernel
theorem dX2_copyPackets_24 : decode cX2_copyPackets 24 = .ok (.getfield 19, 3) := by decide +kernel
theorem dX2_copyPackets_27 : decode cX2_copyPackets 27 = .ok (.iconst 0, 1) := by decide +kernel
theorem dX2_copyPackets_28 : decode cX2_copyPackets 28 = .ok (.aload_n 0, 1) := by decide +kernel
theorem dX2_copyPackets_29 : decode cX2_copyPackets 29 = .ok (.getfield 19, 3) := by decide +kernel
theorem dX2_copyPackets_32 : decode cX2_copyPackets 32 = .ok (.iconst 0, 1) := by decide +kernel
theorem dX2_copyPackets_33 : decode cX2_copyPackets 33 = .ok (.bipush 40, 2) := by decide +kernel
theorem dX2_copyPackets_35 : decode cX2_copyPackets 35 = .ok (.invokestatic 46, 3) := by decide +kernel
theorem dX2_copyPackets_38 : decode cX2_copyPackets 38 = .ok (.aload_n 1, 1) := by decide +kernel
theorem dX2_copyPackets_39 : decode cX2_copyPackets 39 = .ok (.getfield 22, 3) := by decide +kernel
theorem dX2_copyPackets_42 : decode cX2_copyPackets 42 = .ok (.iconst 0, 1) := by decide +kernel
theorem dX2_copyPackets_43 : decode cX2_copyPackets 43 = .ok (.aload_n 0, 1) := by decide +kernel
theorem dX2_copyPackets_44 : decode cX2_copyPackets 44 = .ok (.getfield 22, 3) := by decide +kernel
theorem dX2_copyPackets_47 : decode cX2_copyPackets 47 = .ok (.iconst 0, 1) := by decide +kernel
theorem dX2_copyPackets_48 : decode cX2_copyPackets 48 = .ok (.bipush 40, 2) := by decide +kernel
theorem dX2_copyPackets_50 : decode cX2_copyPackets 50 = .ok (.invokestatic 46, 3) := by decide +kernel
theorem dX2_copyPackets_53 : decode cX2_copyPackets 53 = .ok (.aload_n 1, 1) := by decide +kernel
theorem dX2_copyPackets_54 : decode cX2_copyPackets 54 = .ok (.getfield 25, 3) := by decide +kernel
theorem dX2_copyPackets_57 : decode cX2_copyPackets 57 = .ok (.iconst 0, 1) := by decide +kernel
theorem dX2_copyPackets_58 : decode cX2_copyPackets 58 = .ok (.aload_n 0, 1) := by decide +kernel
theorem dX2_copyPackets_59 : decode cX2_copyPackets 59 = .ok (.getfield 25, 3) := by decide +kernel
theorem dX2_copyPackets_62 : decode cX2_copyPackets 62 = .ok (.iconst 0, 1) := by decide +kernel
theorem dX2_copyPackets_63 : decode cX2_copyPackets 63 = .ok (.bipush 40, 2) := by decide +kernel
theorem dX2_copyPackets_65 : decode cX2_copyPackets 65 = .ok (.invokestatic 46, 3) := by decide +kernel
theorem dX2_copyPackets_68 : decode cX2_copyPackets 68 = .ok (.aload_n 1, 1) := by decide +kernel
theorem dX2_copyPackets_69 : decode cX2_copyPackets 69 = .ok (.getfield 28, 3) := by decide +kernel
theorem dX2_copyPackets_72 : decode cX2_copyPackets 72 = .ok (.iconst 0, 1) := by decide +kernel
theorem dX2_copyPackets_73 : decode cX2_copyPackets 73 = .ok (.aload_n 0, 1) := by decide +kernel
theorem dX2_copyPackets_74 : decode cX2_copyPackets 74 = .ok (.getfield 28, 3) := by decide +kernel
theorem dX2_copyPackets_77 : decode cX2_copyPackets 77 = .ok (.iconst 0, 1) := by decide +kernel
theorem dX2_copyPackets_78 : decode cX2_copyPackets 78 = .ok (.bipush 40, 2) := by decide +kernel
theorem dX2_copyPackets_80 : decode cX2_copyPackets 80 = .ok (.invokestatic 46, 3) := by decide +kernel
theorem dX2_copyPackets_83 : decode cX2_copyPackets 83 = .ok (.aload_n 1, 1) := by decide +kernel
theorem dX2_copyPackets_84 : decode cX2_copyPackets 84 = .ok (.getfield 31, 3) := by decide +kernel
theorem dX2_copyPackets_87 : decode cX2_copyPackets 87 = .ok (.iconst 0, 1) := by decide +kernel
theorem dX2_copyPackets_88 : decode cX2_copyPackets 88 = .ok (.aload_n 0, 1) := by decide +kernel
theorem dX2_copyPackets_89 : decode cX2_copyPackets 89 = .ok (.getfield 31, 3) := by decide +kernel
theorem dX2_copyPackets_92 : decode cX2_copyPackets 92 = .ok (.iconst 0, 1) := by decide +kernel
theorem dX2_copyPackets_93 : decode cX2_copyPackets 93 = .ok (.bipush 40, 2) := by decide +kernel
theorem dX2_copyPackets_95 : decode cX2_copyPackets 95 = .ok (.invokestatic 46, 3) := by decide +kernel
theorem dX2_copyPackets_98 : decode cX2_copyPackets 98 = .ok (.aload_n 1, 1) := by decide +kernel
theorem dX2_copyPackets_99 : decode cX2_copyPackets 99 = .ok (.getfield 34, 3) := by decide +kernel
theorem dX2_copyPackets_102 : decode cX2_copyPackets 102 = .ok (.iconst 0, 1) := by decide +kernel
theorem dX2_copyPackets_103 : decode cX2_copyPackets 103 = .ok (.aload_n 0, 1) := by decide +kernel
theorem dX2_copyPackets_104 : decode cX2_copyPackets 104 = .ok (.getfield 34, 3) := by decide +kernel
theorem dX2_copyPackets_107 : decode cX2_copyPackets 107 = .ok (.iconst 0, 1) := by decide +kernel
theorem dX2_copyPackets_108 : decode cX2_copyPackets 108 = .ok (.bipush 40, 2) := by decide +kernel
theorem dX2_copyPackets_110 : decode cX2_copyPackets 110 = .ok (.invokestatic 46, 3) := by decide +kernel
theorem dX2_copyPackets_113 : decode cX2_copyPackets 113 = .ok (.aload_n 1, 1) := by decide +kernel
theorem dX2_copyPackets_114 : decode cX2_copyPackets 114 = .ok (.getfield 37, 3) := by decide +kernel
theorem dX2_copyPackets_117 : decode cX2_copyPackets 117 = .ok (.iconst 0, 1) := by decide +kernel
theorem dX2_copyPackets_118 : decode cX2_copyPackets 118 = .ok (.aload_n 0, 1) := by decide +kernel
theorem dX2_copyPackets_119 : decode cX2_copyPackets 119 = .ok (.getfield 37, 3) := by decide +kernel
theorem dX2_copyPackets_122 : decode cX2_copyPackets 122 = .ok (.iconst 0, 1) := by decide +kernel
theorem dX2_copyPackets_123 : decode cX2_copyPackets 123 = .ok (.bipush 40, 2) := by decide +kernel
theorem dX2_copyPackets_125 : decode cX2_copyPackets 125 = .ok (.invokestatic 46, 3) := by decide +kernel
theorem dX2_copyPackets_128 : decode cX2_copyPackets 128 = .ok (.aload_n 1, 1) := by decide +kernel
theorem dX2_copyPackets_129 : decode cX2_copyPackets 129 = .ok (.getfield 40, 3) := by decide +kernel
theorem dX2_copyPackets_132 : decode cX2_copyPackets 132 = .ok (.iconst 0, 1) := by decide +kernel
theorem dX2_copyPackets_133 : decode cX2_copyPackets 133 = .ok (.aload_n 0, 1) := by decide +kernel
theorem dX2_copyPackets_134 : decode cX2_copyPackets 134 = .ok (.getfield 40, 3) := by decide +kernel
theorem dX2_copyPackets_137 : decode cX2_copyPackets 137 = .ok (.iconst 0, 1) := by decide +kernel
theorem dX2_copyPackets_138 : decode cX2_copyPackets 138 = .ok (.bipush 40, 2) := by decide +kernel
theorem dX2_copyPackets_140 : decode cX2_copyPackets 140 = .ok (.invokestatic 46, 3) := by decide +kernel
theorem dX2_copyPackets_143 : decode cX2_copyPackets 143 = .ok (.aload_n 1, 1) := by decide +kernel
theorem dX2_copyPackets_144 : decode cX2_copyPackets 144 = .ok (.getfield 43, 3) := by decide +kernel
theorem dX2_copyPackets_147 : decode cX2_copyPackets 147 = .ok (.iconst 0, 1) := by decide +kernel
theorem dX2_copyPackets_148 : decode cX2_copyPackets 148 = .ok (.aload_n 0, 1) := by decide +kernel
theorem dX2_copyPackets_149 : decode cX2_copyPackets 149 = .ok (.getfield 43, 3) := by decide +kernel
theorem dX2_copyPackets_152 : decode cX2_copyPackets 152 = .ok (.iconst 0, 1) := by decide +kernel
theorem dX2_copyPackets_153 : decode cX2_copyPackets 153 = .ok (.bipush 40, 2) := by decide +kernel
theorem dX2_copyPackets_155 : decode cX2_copyPackets 155 = .ok (.invokestatic 46, 3) := by decide +kernel
theorem dX2_copyPackets_158 : decode cX2_copyPackets 158 = .ok (.return_, 1) := by decide +kernel
theorem dX2_has_0 : decode cX2_has 0 = .ok (.iload_n 1, 1) := by decide +kernel
theorem dX2_has_1 : decode cX2_has 1 = .ok (.ifCond .lt 15, 3) := by decide +kernel
theorem dX2_has_4 : decode cX2_has 4 = .ok (.iload_n 1, 1) := by decide +kernel
theorem dX2_has_5 : decode cX2_has 5 = .ok (.aload_n 0, 1) := by decide +kernel
theorem dX2_has_6 : decode cX2_has 6 = .ok (.getfield 9, 3) := by decide +kernel
theorem dX2_has_9 : decode cX2_has 9 = .ok (.if_icmp .ge 7, 3) := by decide +kernel
theorem dX2_has_12 : decode cX2_has 12 = .ok (.iconst 1, 1) := by decide +kernel
theorem dX2_has_13 : decode cX2_has 13 = .ok (.goto 4, 3) := by decide +kernel
theorem dX2_has_16 : decode cX2_has 16 = .ok (.iconst 0, 1) := by decide +kernel
theorem dX2_has_17 : decode cX2_has 17 = .ok (.ireturn, 1) := by decide +kernel
theorem dX2_add_0 : decode cX2_add 0 = .ok (.aload_n 0, 1) := by decide +kernel
theorem dX2_add_1 : decode cX2_add 1 = .ok (.getfield 9, 3) := by decide +kernel
theorem dX2_add_4 : decode cX2_add 4 = .ok (.istore 4, 2) := by decide +kernel
theorem dX2_add_6 : decode cX2_add 6 = .ok (.iload 4, 2) := by decide +kernel
theorem dX2_add_8 : decode cX2_add 8 = .ok (.bipush 40, 2) := by decide +kernel
theorem dX2_add_10 : decode cX2_add 10 = .ok (.if_icmp .lt 6, 3) := by decide +kernel
theorem dX2_add_13 : decode cX2_add 13 = .ok (.bipush (-4), 2) := by decide +kernel
theorem dX2_add_15 : decode cX2_add 15 = .ok (.ireturn, 1) := by decide +kernel
theorem dX2_add_16 : decode cX2_add 16 = .ok (.aload_n 0, 1) := by decide +kernel
theorem dX2_add_17 : decode cX2_add 17 = .ok (.getfield 15, 3) := by decide +kernel
theorem dX2_add_20 : decode cX2_add 20 = .ok (.iload 4, 2) := by decide +kernel
theorem dX2_add_22 : decode cX2_add 22 = .ok (.iload_n 1, 1) := by decide +kernel
theorem dX2_add_23 : decode cX2_add 23 = .ok (.iastore, 1) := by decide +kernel
theorem dX2_add_24 : decode cX2_add 24 = .ok (.aload_n 0, 1) := by decide +kernel
theorem dX2_add_25 : decode cX2_add 25 = .ok (.getfield 19, 3) := by decide +kernel
theorem dX2_add_28 : decode cX2_add 28 = .ok (.iload 4, 2) := by decide +kernel
theorem dX2_add_30 : decode cX2_add 30 = .ok (.iload_n 2, 1) := by decide +kernel
theorem dX2_add_31 : decode cX2_add 31 = .ok (.iastore, 1) := by decide +kernel
theorem dX2_add_32 : decode cX2_add 32 = .ok (.aload_n 0, 1) := by decide +kernel
theorem dX2_add_33 : decode cX2_add 33 = .ok (.getfield 22, 3) := by decide +kernel
theorem dX2_add_36 : decode cX2_add 36 = .ok (.iload 4, 2) := by decide +kernel
theorem dX2_add_38 : decode cX2_add 38 = .ok (.iconst 0, 1) := by decide +kernel
theorem dX2_add_39 : decode cX2_add 39 = .ok (.iastore, 1) := by decide +kernel
theorem dX2_add_40 : decode cX2_add 40 = .ok (.aload_n 0, 1) := by decide +kernel
theorem dX2_add_41 : decode cX2_add 41 = .ok (.getfield 25, 3) := by decide +kernel
theorem dX2_add_44 : decode cX2_add 44 = .ok (.iload 4, 2) := by decide +kernel
theorem dX2_add_46 : decode cX2_add 46 = .ok (.iload_n 1, 1) := by decide +kernel
theorem dX2_add_47 : decode cX2_add 47 = .ok (.iastore, 1) := by decide +kernel
theorem dX2_add_48 : decode cX2_add 48 = .ok (.aload_n 0, 1) := by decide +kernel
theorem dX2_add_49 : decode cX2_add 49 = .ok (.getfield 28, 3) := by decide +kernel
theorem dX2_add_52 : decode cX2_add 52 = .ok (.iload 4, 2) := by decide +kernel
theorem dX2_add_54 : decode cX2_add 54 = .ok (.iconst 0, 1) := by decide +kernel
theorem dX2_add_55 : decode cX2_add 55 = .ok (.iastore, 1) := by decide +kernel
theorem dX2_add_56 : decode cX2_add 56 = .ok (.aload_n 0, 1) := by decide +kernel
theorem dX2_add_57 : decode cX2_add 57 = .ok (.getfield 31, 3) := by decide +kernel
theorem dX2_add_60 : decode cX2_add 60 = .ok (.iload 4, 2) := by decide +kernel
theorem dX2_add_62 : decode cX2_add 62 = .ok (.iconst 0, 1) := by decide +kernel
theorem dX2_add_63 : decode cX2_add 63 = .ok (.iastore, 1) := by decide +kernel
theorem dX2_add_64 : decode cX2_add 64 = .ok (.aload_n 0, 1) := by decide +kernel
theorem dX2_add_65 : decode cX2_add 65 = .ok (.getfield 34, 3) := by decide +kernel
theorem dX2_add_68 : decode cX2_add 68 = .ok (.iload 4, 2) := by decide +kernel
theorem dX2_add_70 : decode cX2_add 70 = .ok (.iconst 0, 1) := by decide +kernel
theorem dX2_add_71 : decode cX2_add 71 = .ok (.iastore, 1) := by decide +kernel
theorem dX2_add_72 : decode cX2_add 72 = .ok (.aload_n 0, 1) := by decide +kernel
theorem dX2_add_73 : decode cX2_add 73 = .ok (.getfield 37, 3) := by decide +kernel
theorem dX2_add_76 : decode cX2_add 76 = .ok (.iload 4, 2) := by decide +kernel
theorem dX2_add_78 : decode cX2_add 78 = .ok (.iload_n 3, 1) := by decide +kernel
theorem dX2_add_79 : decode cX2_add 79 = .ok (.iastore, 1) := by decide +kernel
theorem dX2_add_80 : decode cX2_add 80 = .ok (.aload_n 0, 1) := by decide +kernel
theorem dX2_add_81 : decode cX2_add 81 = .ok (.getfield 40, 3) := by decide +kernel
theorem dX2_add_84 : decode cX2_add 84 = .ok (.iload 4, 2) := by decide +kernel
theorem dX2_add_86 : decode cX2_add 86 = .ok (.bipush (-6), 2) := by decide +kernel
theorem dX2_add_88 : decode cX2_add 88 = .ok (.iastore, 1) := by decide +kernel
theorem dX2_add_89 : decode cX2_add 89 = .ok (.aload_n 0, 1) := by decide +kernel
theorem dX2_add_90 : decode cX2_add 90 = .ok (.getfield 43, 3) := by decide +kernel
theorem dX2_add_93 : decode cX2_add 93 = .ok (.iload 4, 2) := by decide +kernel
theorem dX2_add_95 : decode cX2_add 95 = .ok (.iconst 0, 1) := by decide +kernel
theorem dX2_add_96 : decode cX2_add 96 = .ok (.iastore, 1) := by decide +kernel
theorem dX2_add_97 : decode cX2_add 97 = .ok (.aload_n 0, 1) := by decide +kernel
theorem dX2_add_98 : decode cX2_add 98 = .ok (.dup, 1) := by decide +kernel
theorem dX2_add_99 : decode cX2_add 99 = .ok (.getfield 9, 3) := by decide +kernel
theorem dX2_add_102 : decode cX2_add 102 = .ok (.iconst 1, 1) := by decide +kernel
theorem dX2_add_103 : decode cX2_add 103 = .ok (.iadd, 1) := by decide +kernel
theorem dX2_add_104 : decode cX2_add 104 = .ok (.putfield 9, 3) := by decide +kernel
theorem dX2_add_107 : decode cX2_add 107 = .ok (.iload 4, 2) := by decide +kernel
theorem dX2_add_109 : decode cX2_add 109 = .ok (.ireturn, 1) := by decide +kernel
theorem dX2_noteMove_0 : decode cX2_noteMove 0 = .ok (.aload_n 0, 1) := by decide +kernel
theorem dX2_noteMove_1 : decode cX2_noteMove 1 = .ok (.getfield 25, 3) := by decide +kernel
theorem dX2_noteMove_4 : decode cX2_noteMove 4 = .ok (.iload_n 1, 1) := by decide +kernel
theorem dX2_noteMove_5 : decode cX2_noteMove 5 = .ok (.iload_n 2, 1) := by decide +kernel
theorem dX2_noteMove_6 : decode cX2_noteMove 6 = .ok (.iastore, 1) := by decide +kernel
theorem dX2_noteMove_7 : decode cX2_noteMove 7 = .ok (.aload_n 0, 1) := by decide +kernel
theorem dX2_noteMove_8 : decode cX2_noteMove 8 = .ok (.getfield 28, 3) := by decide +kernel
theorem dX2_noteMove_11 : decode cX2_noteMove 11 = .ok (.iload_n 1, 1) := by decide +kernel
theorem dX2_noteMove_12 : decode cX2_noteMove 12 = .ok (.dup2, 1) := by decide +kernel
theorem dX2_noteMove_13 : decode cX2_noteMove 13 = .ok (.iaload, 1) := by decide +kernel
theorem dX2_noteMove_14 : decode cX2_noteMove 14 = .ok (.iconst 1, 1) := by decide +kernel
theorem dX2_noteMove_15 : decode cX2_noteMove 15 = .ok (.iadd, 1) := by decide +kernel
theorem dX2_noteMove_16 : decode cX2_noteMove 16 = .ok (.iastore, 1) := by decide +kernel
theorem dX2_noteMove_17 : decode cX2_noteMove 17 = .ok (.iload 4, 2) := by decide +kernel
theorem dX2_noteMove_19 : decode cX2_noteMove 19 = .ok (.ifCond .eq 13, 3) := by decide +kernel
theorem dX2_noteMove_22 : decode cX2_noteMove 22 = .ok (.aload_n 0, 1) := by decide +kernel
theorem dX2_noteMove_23 : decode cX2_noteMove 23 = .ok (.getfield 31, 3) := by decide +kernel
theorem dX2_noteMove_26 : decode cX2_noteMove 26 = .ok (.iload_n 1, 1) := by decide +kernel
theorem dX2_noteMove_27 : decode cX2_noteMove 27 = .ok (.dup2, 1) := by decide +kernel
theorem dX2_noteMove_28 : decode cX2_noteMove 28 = .ok (.iaload, 1) := by decide +kernel
theorem dX2_noteMove_29 : decode cX2_noteMove 29 = .ok (.iconst 1, 1) := by decide +kernel
theorem dX2_noteMove_30 : decode cX2_noteMove 30 = .ok (.iadd, 1) := by decide +kernel
theorem dX2_noteMove_31 : decode cX2_noteMove 31 = .ok (.iastore, 1) := by decide +kernel
theorem dX2_noteMove_32 : decode cX2_noteMove 32 = .ok (.iload_n 3, 1) := by decide +kernel
theorem dX2_noteMove_33 : decode cX2_noteMove 33 = .ok (.ifCond .eq 10, 3) := by decide +kernel
theorem dX2_noteMove_36 : decode cX2_noteMove 36 = .ok (.aload_n 0, 1) := by decide +kernel
theorem dX2_noteMove_37 : decode cX2_noteMove 37 = .ok (.getfield 43, 3) := by decide +kernel
theorem dX2_noteMove_40 : decode cX2_noteMove 40 = .ok (.iload_n 1, 1) := by decide +kernel
theorem dX2_noteMove_41 : decode cX2_noteMove 41 = .ok (.iconst 1, 1) := by decide +kernel
theorem dX2_noteMove_42 : decode cX2_noteMove 42 = .ok (.iastore, 1) := by decide +kernel
theorem dX2_noteMove_43 : decode cX2_noteMove 43 = .ok (.return_, 1) := by decide +kernel
theorem dX2_countIn_0 : decode cX2_countIn 0 = .ok (.iconst 0, 1) := by decide +kernel
theorem dX2_countIn_1 : decode cX2_countIn 1 = .ok (.istore_n 2, 1) := by decide +kernel
theorem dX2_countIn_2 : decode cX2_countIn 2 = .ok (.iconst 0, 1) := by decide +kernel
theorem dX2_countIn_3 : decode cX2_countIn 3 = .ok (.istore_n 3, 1) := by decide +kernel
theorem dX2_countIn_4 : decode cX2_countIn 4 = .ok (.iload_n 3, 1) := by decide +kernel
theorem dX2_countIn_5 : decode cX2_countIn 5 = .ok (.aload_n 0, 1) := by decide +kernel
theorem dX2_countIn_6 : decode cX2_countIn 6 = .ok (.getfield 9, 3) := by decide +kernel
theorem dX2_countIn_9 : decode cX2_countIn 9 = .ok (.if_icmp .ge 22, 3) := by decide +kernel
theorem dX2_countIn_12 : decode cX2_countIn 12 = .ok (.aload_n 0, 1) := by decide +kernel
theorem dX2_countIn_13 : decode cX2_countIn 13 = .ok (.getfield 22, 3) := by decide +kernel
theorem dX2_countIn_16 : decode cX2_countIn 16 = .ok (.iload_n 3, 1) := by decide +kernel
theorem dX2_countIn_17 : decode cX2_countIn 17 = .ok (.iaload, 1) := by decide +kernel
theorem dX2_countIn_18 : decode cX2_countIn 18 = .ok (.iload_n 1, 1) := by decide +kernel
theorem dX2_countIn_19 : decode cX2_countIn 19 = .ok (.if_icmp .ne 6, 3) := by decide +kernel
theorem dX2_countIn_22 : decode cX2_countIn 22 = .ok (.iinc 2 1, 3) := by decide +kernel
theorem dX2_countIn_25 : decode cX2_countIn 25 = .ok (.iinc 3 1, 3) := by decide +kernel
theorem dX2_countIn_28 : decode cX2_countIn 28 = .ok (.goto (-24), 3) := by decide +kernel
theorem dX2_countIn_31 : decode cX2_countIn 31 = .ok (.iload_n 2, 1) := by decide +kernel
theorem dX2_countIn_32 : decode cX2_countIn 32 = .ok (.ireturn, 1) := by decide +kernel
theorem dX2_countAt_0 : decode cX2_countAt 0 = .ok (.iconst 0, 1) := by decide +kernel
theorem dX2_countAt_1 : decode cX2_countAt 1 = .ok (.istore_n 3, 1) := by decide +kernel
theorem dX2_countAt_2 : decode cX2_countAt 2 = .ok (.iconst 0, 1) := by decide +kernel
theorem dX2_countAt_3 : decode cX2_countAt 3 = .ok (.istore 4, 2) := by decide +kernel
theorem dX2_countAt_5 : decode cX2_countAt 5 = .ok (.iload 4, 2) := by decide +kernel
theorem dX2_countAt_7 : decode cX2_countAt 7 = .ok (.aload_n 0, 1) := by decide +kernel
theorem dX2_countAt_8 : decode cX2_countAt 8 = .ok (.getfield 9, 3) := by decide +kernel
theorem dX2_countAt_11 : decode cX2_countAt 11 = .ok (.if_icmp .ge 34, 3) := by decide +kernel
theorem dX2_countAt_14 : decode cX2_countAt 14 = .ok (.aload_n 0, 1) := by decide +kernel
theorem dX2_countAt_15 : decode cX2_countAt 15 = .ok (.getfield 22, 3) := by decide +kernel
theorem dX2_countAt_18 : decode cX2_countAt 18 = .ok (.iload 4, 2) := by decide +kernel
theorem dX2_countAt_20 : decode cX2_countAt 20 = .ok (.iaload, 1) := by decide +kernel
theorem dX2_countAt_21 : decode cX2_countAt 21 = .ok (.iload_n 1, 1) := by decide +kernel
theorem dX2_countAt_22 : decode cX2_countAt 22 = .ok (.if_icmp .ne 17, 3) := by decide +kernel
theorem dX2_countAt_25 : decode cX2_countAt 25 = .ok (.aload_n 0, 1) := by decide +kernel
theorem dX2_countAt_26 : decode cX2_countAt 26 = .ok (.getfield 25, 3) := by decide +kernel
theorem dX2_countAt_29 : decode cX2_countAt 29 = .ok (.iload 4, 2) := by decide +kernel
theorem dX2_countAt_31 : decode cX2_countAt 31 = .ok (.iaload, 1) := by decide +kernel
theorem dX2_countAt_32 : decode cX2_countAt 32 = .ok (.iload_n 2, 1) := by decide +kernel
theorem dX2_countAt_33 : decode cX2_countAt 33 = .ok (.if_icmp .ne 6, 3) := by decide +kernel
theorem dX2_countAt_36 : decode cX2_countAt 36 = .ok (.iinc 3 1, 3) := by decide +kernel
theorem dX2_countAt_39 : decode cX2_countAt 39 = .ok (.iinc 4 1, 3) := by decide +kernel
theorem dX2_countAt_42 : decode cX2_countAt 42 = .ok (.goto (-37), 3) := by decide +kernel
theorem dX2_countAt_45 : decode cX2_countAt 45 = .ok (.iload_n 3, 1) := by decide +kernel
theorem dX2_countAt_46 : decode cX2_countAt 46 = .ok (.ireturn, 1) := by decide +kernel
theorem dX2_sum_0 : decode cX2_sum 0 = .ok (.iconst 0, 1) := by decide +kernel
theorem dX2_sum_1 : decode cX2_sum 1 = .ok (.istore_n 2, 1) := by decide +kernel
theorem dX2_sum_2 : decode cX2_sum 2 = .ok (.iconst 0, 1) := by decide +kernel
theorem dX2_sum_3 : decode cX2_sum 3 = .ok (.istore_n 3, 1) := by decide +kernel
theorem dX2_sum_4 : decode cX2_sum 4 = .ok (.iload_n 3, 1) := by decide +kernel
theorem dX2_sum_5 : decode cX2_sum 5 = .ok (.aload_n 0, 1) := by decide +kernel
theorem dX2_sum_6 : decode cX2_sum 6 = .ok (.getfield 9, 3) := by decide +kernel
theorem dX2_sum_9 : decode cX2_sum 9 = .ok (.if_icmp .ge 15, 3) := by decide +kernel
theorem dX2_sum_12 : decode cX2_sum 12 = .ok (.iload_n 2, 1) := by decide +kernel
theorem dX2_sum_13 : decode cX2_sum 13 = .ok (.aload_n 1, 1) := by decide +kernel
theorem dX2_sum_14 : decode cX2_sum 14 = .ok (.iload_n 3, 1) := by decide +kernel
theorem dX2_sum_15 : decode cX2_sum 15 = .ok (.iaload, 1) := by decide +kernel
theorem dX2_sum_16 : decode cX2_sum 16 = .ok (.iadd, 1) := by decide +kernel
theorem dX2_sum_17 : decode cX2_sum 17 = .ok (.istore_n 2, 1) := by decide +kernel
theorem dX2_sum_18 : decode cX2_sum 18 = .ok (.iinc 3 1, 3) := by decide +kernel
theorem dX2_sum_21 : decode cX2_sum 21 = .ok (.goto (-17), 3) := by decide +kernel
theorem dX2_sum_24 : decode cX2_sum 24 = .ok (.iload_n 2, 1) := by decide +kernel
theorem dX2_sum_25 : decode cX2_sum 25 = .ok (.ireturn, 1) := by decide +kernel
theorem dX3_init_0 : decode cX3_init 0 = .ok (.aload_n 0, 1) := by decide +kernel
theorem dX3_init_1 : decode cX3_init 1 = .ok (.invokespecial 5, 3) := by decide +kernel
theorem dX3_init_4 : decode cX3_init 4 = .ok (.aload_n 0, 1) := by decide +kernel
theorem dX3_init_5 : decode cX3_init 5 = .ok (.bipush 80, 2) := by decide +kernel
theorem dX3_init_7 : decode cX3_init 7 = .ok (.newarray .char, 2) := by decide +kernel
theorem dX3_init_9 : decode cX3_init 9 = .ok (.putfield 11, 3) := by decide +kernel
theorem dX3_init_12 : decode cX3_init 12 = .ok (.aload_n 0, 1) := by decide +kernel
theorem dX3_init_13 : decode cX3_init 13 = .ok (.iconst 0, 1) := by decide +kernel
theorem dX3_init_14 : decode cX3_init 14 = .ok (.putfield 15, 3) := by decide +kernel
theorem dX3_init_17 : decode cX3_init 17 = .ok (.aload_n 0, 1) := by decide +kernel
theorem dX3_init_18 : decode cX3_init 18 = .ok (.iconst 0, 1) := by decide +kernel
theorem dX3_init_19 : decode cX3_init 19 = .ok (.putfield 19, 3) := by decide +kernel
theorem dX3_init_22 : decode cX3_init 22 = .ok (.aload_n 0, 1) := by decide +kernel
theorem dX3_init_23 : decode cX3_init 23 = .ok (.bipush 27, 2) := by decide +kernel
theorem dX3_init_25 : decode cX3_init 25 = .ok (.newarray .int, 2) := by decide +kernel
theorem dX3_init_27 : decode cX3_init 27 = .ok (.putfield 22, 3) := by decide +kernel
theorem dX3_init_30 : decode cX3_init 30 = .ok (.aload_n 0, 1) := by decide +kernel
theorem dX3_init_31 : decode cX3_init 31 = .ok (.bipush 27, 2) := by decide +kernel
theorem dX3_init_33 : decode cX3_init 33 = .ok (.newarray .int, 2) := by decide +kernel
theorem dX3_init_35 : decode cX3_init 35 = .ok (.putfield 26, 3) := by decide +kernel
theorem dX3_init_38 : decode cX3_init 38 = .ok (.aload_n 0, 1) := by decide +kernel
theorem dX3_init_39 : decode cX3_init 39 = .ok (.bipush 27, 2) := by decide +kernel
theorem dX3_init_41 : decode cX3_init 41 = .ok (.newarray .int, 2) := by decide +kernel
theorem dX3_init_43 : decode cX3_init 43 = .ok (.putfield 29, 3) := by decide +kernel
theorem dX3_init_46 : decode cX3_init 46 = .ok (.aload_n 0, 1) := by decide +kernel
theorem dX3_init_47 : decode cX3_init 47 = .ok (.iconst 0, 1) := by decide +kernel
theorem dX3_init_48 : decode cX3_init 48 = .ok (.putfield 32, 3) := by decide +kernel
theorem dX3_init_51 : decode cX3_init 51 = .ok (.return_, 1) := by decide +kernel
theorem dX3_countCharacters_0 : decode cX3_countCharacters 0 = .ok (.iconst 0, 1) := by decide +kernel
theorem dX3_countCharacters_1 : decode cX3_countCharacters 1 = .ok (.istore_n 2, 1) := by decide +kernel
theorem dX3_countCharacters_2 : decode cX3_countCharacters 2 = .ok (.lload_n 0, 1) := by decide +kernel
theorem dX3_countCharacters_3 : decode cX3_countCharacters 3 = .ok (.lstore_n 3, 1) := by decide +kernel
theorem dX3_countCharacters_4 : decode cX3_countCharacters 4 = .ok (.iconst 0, 1) := by decide +kernel
theorem dX3_countCharacters_5 : decode cX3_countCharacters 5 = .ok (.istore 5, 2) := by decide +kernel
theorem dX3_countCharacters_7 : decode cX3_countCharacters 7 = .ok (.iload 5, 2) := by decide +kernel
theorem dX3_countCharacters_9 : decode cX3_countCharacters 9 = .ok (.bipush 8, 2) := by decide +kernel
theorem dX3_countCharacters_11 : decode cX3_countCharacters 11 = .ok (.if_icmp .ge 47, 3) := by decide +kernel
theorem dX3_countCharacters_14 : decode cX3_countCharacters 14 = .ok (.lload_n 3, 1) := by decide +kernel
theorem dX3_countCharacters_15 : decode cX3_countCharacters 15 = .ok (.lconst 0, 1) := by decide +kernel
theorem dX3_countCharacters_16 : decode cX3_countCharacters 16 = .ok (.lcmp, 1) := by decide +kernel
theorem dX3_countCharacters_17 : decode cX3_countCharacters 17 = .ok (.ifCond .eq 41, 3) := by decide +kernel
theorem dX3_countCharacters_20 : decode cX3_countCharacters 20 = .ok (.lload_n 3, 1) := by decide +kernel
theorem dX3_countCharacters_21 : decode cX3_countCharacters 21 = .ok (.ldc2_w 35, 3) := by decide +kernel
theorem dX3_countCharacters_24 : decode cX3_countCharacters 24 = .ok (.land, 1) := by decide +kernel
theorem dX3_countCharacters_25 : decode cX3_countCharacters 25 = .ok (.l2i, 1) := by decide +kernel
theorem dX3_countCharacters_26 : decode cX3_countCharacters 26 = .ok (.istore 6, 2) := by decide +kernel
theorem dX3_countCharacters_28 : decode cX3_countCharacters 28 = .ok (.iload 6, 2) := by decide +kernel
theorem dX3_countCharacters_30 : decode cX3_countCharacters 30 = .ok (.bipush 33, 2) := by decide +kernel
theorem dX3_countCharacters_32 : decode cX3_countCharacters 32 = .ok (.if_icmp .lt 10, 3) := by decide +kernel
theorem dX3_countCharacters_35 : decode cX3_countCharacters 35 = .ok (.iload 6, 2) := by decide +kernel
theorem dX3_countCharacters_37 : decode cX3_countCharacters 37 = .ok (.bipush 126, 2) := by decide +kernel
theorem dX3_countCharacters_39 : decode cX3_countCharacters 39 = .ok (.if_icmp .le 5, 3) := by decide +kernel
theorem dX3_countCharacters_42 : decode cX3_countCharacters 42 = .ok (.iconst 0, 1) := by decide +kernel
theorem dX3_countCharacters_43 : decode cX3_countCharacters 43 = .ok (.ireturn, 1) := by decide +kernel
theorem dX3_countCharacters_44 : decode cX3_countCharacters 44 = .ok (.iinc 2 1, 3) := by decide +kernel
theorem dX3_countCharacters_47 : decode cX3_countCharacters 47 = .ok (.lload_n 3, 1) := by decide +kernel
theorem dX3_countCharacters_48 : decode cX3_countCharacters 48 = .ok (.bipush 8, 2) := by decide +kernel
theorem dX3_countCharacters_50 : decode cX3_countCharacters 50 = .ok (.lushr, 1) := by decide +kernel
theorem dX3_countCharacters_51 : decode cX3_countCharacters 51 = .ok (.lstore_n 3, 1) := by decide +kernel
theorem dX3_countCharacters_52 : decode cX3_countCharacters 52 = .ok (.iinc 5 1, 3) := by decide +kernel
theorem dX3_countCharacters_55 : decode cX3_countCharacters 55 = .ok (.goto (-48), 3) := by decide +kernel
theorem dX3_countCharacters_58 : decode cX3_countCharacters 58 = .ok (.iload_n 2, 1) := by decide +kernel
theorem dX3_countCharacters_59 : decode cX3_countCharacters 59 = .ok (.ireturn, 1) := by decide +kernel
theorem dX3_fits_0 : decode cX3_fits 0 = .ok (.aload_n 0, 1) := by decide +kernel
theorem dX3_fits_1 : decode cX3_fits 1 = .ok (.getfield 15, 3) := by decide +kernel
theorem dX3_fits_4 : decode cX3_fits 4 = .ok (.iload_n 1, 1) := by decide +kernel
theorem dX3_fits_5 : decode cX3_fits 5 = .ok (.iadd, 1) := by decide +kernel
theorem dX3_fits_6 : decode cX3_fits 6 = .ok (.bipush 80, 2) := by decide +kernel
theorem dX3_fits_8 : decode cX3_fits 8 = .ok (.if_icmp .gt 7, 3) := by decide +kernel
theorem dX3_fits_11 : decode cX3_fits 11 = .ok (.iconst 1, 1) := by decide +kernel
theorem dX3_fits_12 : decode cX3_fits 12 = .ok (.goto 4, 3) := by decide +kernel
theorem dX3_fits_15 : decode cX3_fits 15 = .ok (.iconst 0, 1) := by decide +kernel
theorem dX3_fits_16 : decode cX3_fits 16 = .ok (.ireturn, 1) := by decide +kernel
theorem dX3_append_0 : decode cX3_append 0 = .ok (.iconst 0, 1) := by decide +kernel
theorem dX3_append_1 : decode cX3_append 1 = .ok (.istore 4, 2) := by decide +kernel
theorem dX3_append_3 : decode cX3_append 3 = .ok (.iload 4, 2) := by decide +kernel
theorem dX3_append_5 : decode cX3_append 5 = .ok (.iload_n 3, 1) := by decide +kernel
theorem dX3_append_6 : decode cX3_append 6 = .ok (.if_icmp .ge 50, 3) := by decide +kernel
theorem dX3_append_9 : decode cX3_append 9 = .ok (.aload_n 0, 1) := by decide +kernel
theorem dX3_append_10 : decode cX3_append 10 = .ok (.iload_n 3, 1) := by decide +kernel
theorem dX3_append_11 : decode cX3_append 11 = .ok (.invokevirtual 37, 3) := by decide +kernel
theorem dX3_append_14 : decode cX3_append 14 = .ok (.ifCond .eq 42, 3) := by decide +kernel
theorem dX3_append_17 : decode cX3_append 17 = .ok (.bipush 8, 2) := by decide +kernel
theorem dX3_append_19 : decode cX3_append 19 = .ok (.iload_n 3, 1) := by decide +kernel
theorem dX3_append_20 : decode cX3_append 20 = .ok (.iconst 1, 1) := by decide +kernel
theorem dX3_append_21 : decode cX3_append 21 = .ok (.isub, 1) := by decide +kernel
theorem dX3_append_22 : decode cX3_append 22 = .ok (.iload 4, 2) := by decide +kernel
theorem dX3_append_24 : decode cX3_append 24 = .ok (.isub, 1) := by decide +kernel
theorem dX3_append_25 : decode cX3_append 25 = .ok (.imul, 1) := by decide +kernel
theorem dX3_append_26 : decode cX3_append 26 = .ok (.istore 5, 2) := by decide +kernel
theorem dX3_append_28 : decode cX3_append 28 = .ok (.aload_n 0, 1) := by decide +kernel
theorem dX3_append_29 : decode cX3_append 29 = .ok (.getfield 11, 3) := by decide +kernel
theorem dX3_append_32 : decode cX3_append 32 = .ok (.aload_n 0, 1) := by decide +kernel
theorem dX3_append_33 : decode cX3_append 33 = .ok (.getfield 15, 3) := by decide +kernel
theorem dX3_append_36 : decode cX3_append 36 = .ok (.iload 4, 2) := by decide +kernel
theorem dX3_append_38 : decode cX3_append 38 = .ok (.iadd, 1) := by decide +kernel
theorem dX3_append_39 : decode cX3_append 39 = .ok (.lload_n 1, 1) := by decide +kernel
theorem dX3_append_40 : decode cX3_append 40 = .ok (.iload 5, 2) := by decide +kernel
theorem dX3_append_42 : decode cX3_append 42 = .ok (.lushr, 1) := by decide +kernel
theorem dX3_append_43 : decode cX3_append 43 = .ok (.ldc2_w 35, 3) := by decide +kernel
theorem dX3_append_46 : decode cX3_append 46 = .ok (.land, 1) := by decide +kernel
theorem dX3_append_47 : decode cX3_append 47 = .ok (.l2i, 1) := by decide +kernel
theorem dX3_append_48 : decode cX3_append 48 = .ok (.i2c, 1) := by decide +kernel
theorem dX3_append_49 : decode cX3_append 49 = .ok (.castore, 1) := by decide +kernel
theorem dX3_append_50 : decode cX3_append 50 = .ok (.iinc 4 1, 3) := by decide +kernel
theorem dX3_append_53 : decode cX3_append 53 = .ok (.goto (-50), 3) := by decide +kernel
theorem dX3_append_56 : decode cX3_append 56 = .ok (.aload_n 0, 1) := by decide +kernel
theorem dX3_append_57 : decode cX3_append 57 = .ok (.dup, 1) := by decide +kernel
theorem dX3_append_58 : decode cX3_append 58 = .ok (.getfield 15, 3) := by decide +kernel
theorem dX3_append_61 : decode cX3_append 61 = .ok (.iload_n 3, 1) := by decide +kernel
theorem dX3_append_62 : decode cX3_append 62 = .ok (.iadd, 1) := by decide +kernel
theorem dX3_append_63 : decode cX3_append 63 = .ok (.putfield 15, 3) := by decide +kernel
theorem dX3_append_66 : decode cX3_append 66 = .ok (.return_, 1) := by decide +kernel
theorem dX3_readOrders_0 : decode cX3_readOrders 0 = .ok (.aload_n 0, 1) := by decide +kernel
theorem dX3_readOrders_1 : decode cX3_readOrders 1 = .ok (.iconst 0, 1) := by decide +kernel
theorem dX3_readOrders_2 : decode cX3_readOrders 2 = .ok (.putfield 32, 3) := by decide +kernel
theorem dX3_readOrders_5 : decode cX3_readOrders 5 = .ok (.aload_n 0, 1) := by decide +kernel
theorem dX3_readOrders_6 : decode cX3_readOrders 6 = .ok (.iconst 0, 1) := by decide +kernel
theorem dX3_readOrders_7 : decode cX3_readOrders 7 = .ok (.putfield 19, 3) := by decide +kernel
theorem dX3_readOrders_10 : decode cX3_readOrders 10 = .ok (.iconst 0, 1) := by decide +kernel
theorem dX3_readOrders_11 : decode cX3_readOrders 11 = .ok (.istore_n 1, 1) := by decide +kernel
theorem dX3_readOrders_12 : decode cX3_readOrders 12 = .ok (.iload_n 1, 1) := by decide +kernel
theorem dX3_readOrders_13 : decode cX3_readOrders 13 = .ok (.bipush 27, 2) := by decide +kernel
theorem dX3_readOrders_15 : decode cX3_readOrders 15 = .ok (.if_icmp .ge 49, 3) := by decide +kernel
theorem dX3_readOrders_18 : decode cX3_readOrders 18 = .ok (.aload_n 0, 1) := by decide +kernel
theorem dX3_readOrders_19 : decode cX3_readOrders 19 = .ok (.invokevirtual 41, 3) := by decide +kernel
theorem dX3_readOrders_22 : decode cX3_readOrders 22 = .ok (.ifCond .ne 8, 3) := by decide +kernel
theorem dX3_readOrders_25 : decode cX3_readOrders 25 = .ok (.aload_n 0, 1) := by decide +kernel
theorem dX3_readOrders_26 : decode cX3_readOrders 26 = .ok (.getfield 32, 3) := by decide +kernel
theorem dX3_readOrders_29 : decode cX3_readOrders 29 = .ok (.ireturn, 1) := by decide +kernel
theorem dX3_readOrders_30 : decode cX3_readOrders 30 = .ok (.aload_n 0, 1) := by decide +kernel
theorem dX3_readOrders_31 : decode cX3_readOrders 31 = .ok (.getfield 32, 3) := by decide +kernel
theorem dX3_readOrders_34 : decode cX3_readOrders 34 = .ok (.aload_n 0, 1) := by decide +kernel
theorem dX3_readOrders_35 : decode cX3_readOrders 35 = .ok (.getfield 15, 3) := by decide +kernel
theorem dX3_readOrders_38 : decode cX3_readOrders 38 = .ok (.if_icmp .lt 6, 3) := by decide +kernel
theorem dX3_readOrders_41 : decode cX3_readOrders 41 = .ok (.bipush (-6), 2) := by decide +kernel
theorem dX3_readOrders_43 : decode cX3_readOrders 43 = .ok (.ireturn, 1) := by decide +kernel
theorem dX3_readOrders_44 : decode cX3_readOrders 44 = .ok (.aload_n 0, 1) := by decide +kernel
theorem dX3_readOrders_45 : decode cX3_readOrders 45 = .ok (.bipush 59, 2) := by decide +kernel
theorem dX3_readOrders_47 : decode cX3_readOrders 47 = .ok (.invokevirtual 45, 3) := by decide +kernel
theorem dX3_readOrders_50 : decode cX3_readOrders 50 = .ok (.ifCond .ne 8, 3) := by decide +kernel
theorem dX3_readOrders_53 : decode cX3_readOrders 53 = .ok (.aload_n 0, 1) := by decide +kernel
theorem dX3_readOrders_54 : decode cX3_readOrders 54 = .ok (.getfield 32, 3) := by decide +kernel
theorem dX3_readOrders_57 : decode cX3_readOrders 57 = .ok (.ireturn, 1) := by decide +kernel
theorem dX3_readOrders_58 : decode cX3_readOrders 58 = .ok (.iinc 1 1, 3) := by decide +kernel
theorem dX3_readOrders_61 : decode cX3_readOrders 61 = .ok (.goto (-49), 3) := by decide +kernel
theorem dX3_readOrders_64 : decode cX3_readOrders 64 = .ok (.aload_n 0, 1) := by decide +kernel
theorem dX3_readOrders_65 : decode cX3_readOrders 65 = .ok (.getfield 32, 3) := by decide +kernel
theorem dX3_readOrders_68 : decode cX3_readOrders 68 = .ok (.ireturn, 1) := by decide +kernel
theorem dX3_readOrder_0 : decode cX3_readOrder 0 = .ok (.aload_n 0, 1) := by decide +kernel
theorem dX3_readOrder_1 : decode cX3_readOrder 1 = .ok (.invokevirtual 49, 3) := by decide +kernel
theorem dX3_readOrder_4 : decode cX3_readOrder 4 = .ok (.istore_n 1, 1) := by decide +kernel
theorem dX3_readOrder_5 : decode cX3_readOrder 5 = .ok (.iload_n 1, 1) := by decide +kernel
theorem dX3_readOrder_6 : decode cX3_readOrder 6 = .ok (.bipush 115, 2) := by decide +kernel
theorem dX3_readOrder_8 : decode cX3_readOrder 8 = .ok (.if_icmp .eq 23, 3) := by decide +kernel
theorem dX3_readOrder_11 : decode cX3_readOrder 11 = .ok (.iload_n 1, 1) := by decide +kernel
theorem dX3_readOrder_12 : decode cX3_readOrder 12 = .ok (.bipush 98, 2) := by decide +kernel
theorem dX3_readOrder_14 : decode cX3_readOrder 14 = .ok (.if_icmp .eq 17, 3) := by decide +kernel
theorem dX3_readOrder_17 : decode cX3_readOrder 17 = .ok (.iload_n 1, 1) := by decide +kernel
theorem dX3_readOrder_18 : decode cX3_readOrder 18 = .ok (.bipush 109, 2) := by decide +kernel
theorem dX3_readOrder_20 : decode cX3_readOrder 20 = .ok (.if_icmp .eq 11, 3) := by decide +kernel
theorem dX3_readOrder_23 : decode cX3_readOrder 23 = .ok (.iload_n 1, 1) := by decide +kernel
theorem dX3_readOrder_24 : decode cX3_readOrder 24 = .ok (.bipush 116, 2) := by decide +kernel
theorem dX3_readOrder_26 : decode cX3_readOrder 26 = .ok (.if_icmp .eq 5, 3) := by decide +kernel
theorem dX3_readOrder_29 : decode cX3_readOrder 29 = .ok (.iconst 0, 1) := by decide +kernel
theorem dX3_readOrder_30 : decode cX3_readOrder 30 = .ok (.ireturn, 1) := by decide +kernel
theorem dX3_readOrder_31 : decode cX3_readOrder 31 = .ok (.aload_n 0, 1) := by decide +kernel
theorem dX3_readOrder_32 : decode cX3_readOrder 32 = .ok (.dup, 1) := by decide +kernel
theorem dX3_readOrder_33 : decode cX3_readOrder 33 = .ok (.getfield 32, 3) := by decide +kernel
theorem dX3_readOrder_36 : decode cX3_readOrder 36 = .ok (.iconst 1, 1) := by decide +kernel
theorem dX3_readOrder_37 : decode cX3_readOrder 37 = .ok (.iadd, 1) := by decide +kernel
theorem dX3_readOrder_38 : decode cX3_readOrder 38 = .ok (.putfield 32, 3) := by decide +kernel
theorem dX3_readOrder_41 : decode cX3_readOrder 41 = .ok (.aload_n 0, 1) := by decide +kernel
theorem dX3_readOrder_42 : decode cX3_readOrder 42 = .ok (.invokevirtual 53, 3) := by decide +kernel
theorem dX3_readOrder_45 : decode cX3_readOrder 45 = .ok (.istore_n 2, 1) := by decide +kernel
theorem dX3_readOrder_46 : decode cX3_readOrder 46 = .ok (.iload_n 2, 1) := by decide +kernel
theorem dX3_readOrder_47 : decode cX3_readOrder 47 = .ok (.iconst (-1), 1) := by decide +kernel
theorem dX3_readOrder_48 : decode cX3_readOrder 48 = .ok (.if_icmp .ne 5, 3) := by decide +kernel
theorem dX3_readOrder_51 : decode cX3_readOrder 51 = .ok (.iconst 0, 1) := by decide +kernel
theorem dX3_readOrder_52 : decode cX3_readOrder 52 = .ok (.ireturn, 1) := by decide +kernel
theorem dX3_readOrder_53 : decode cX3_readOrder 53 = .ok (.iconst 0, 1) := by decide +kernel
theorem dX3_readOrder_54 : decode cX3_readOrder 54 = .ok (.istore_n 3, 1) := by decide +kernel
theorem dX3_readOrder_55 : decode cX3_readOrder 55 = .ok (.iload_n 1, 1) := by decide +kernel
theorem dX3_readOrder_56 : decode cX3_readOrder 56 = .ok (.bipush 115, 2) := by decide +kernel
theorem dX3_readOrder_58 : decode cX3_readOrder 58 = .ok (.if_icmp .ne 24, 3) := by decide +kernel
theorem dX3_readOrder_61 : decode cX3_readOrder 61 = .ok (.aload_n 0, 1) := by decide +kernel
theorem dX3_readOrder_62 : decode cX3_readOrder 62 = .ok (.bipush 62, 2) := by decide +kernel
theorem dX3_readOrder_64 : decode cX3_readOrder 64 = .ok (.invokevirtual 45, 3) := by decide +kernel
theorem dX3_readOrder_67 : decode cX3_readOrder 67 = .ok (.ifCond .eq 10, 3) := by decide +kernel
theorem dX3_readOrder_70 : decode cX3_readOrder 70 = .ok (.aload_n 0, 1) := by decide +kernel
theorem dX3_readOrder_71 : decode cX3_readOrder 71 = .ok (.invokevirtual 53, 3) := by decide +kernel
theorem dX3_readOrder_74 : decode cX3_readOrder 74 = .ok (.goto 4, 3) := by decide +kernel
theorem dX3_readOrder_77 : decode cX3_readOrder 77 = .ok (.iconst (-1), 1) := by decide +kernel
theorem dX3_readOrder_78 : decode cX3_readOrder 78 = .ok (.istore_n 3, 1) := by decide +kernel
theorem dX3_readOrder_79 : decode cX3_readOrder 79 = .ok (.goto 14, 3) := by decide +kernel
theorem dX3_readOrder_82 : decode cX3_readOrder 82 = .ok (.iload_n 1, 1) := by decide +kernel
theorem dX3_readOrder_83 : decode cX3_readOrder 83 = .ok (.bipush 116, 2) := by decide +kernel
theorem dX3_readOrder_85 : decode cX3_readOrder 85 = .ok (.if_icmp .eq 8, 3) := by decide +kernel
theorem dX3_readOrder_88 : decode cX3_readOrder 88 = .ok (.aload_n 0, 1) := by decide +kernel
theorem dX3_readOrder_89 : decode cX3_readOrder 89 = .ok (.invokevirtual 57, 3) := by decide +kernel
theorem dX3_readOrder_92 : decode cX3_readOrder 92 = .ok (.istore_n 3, 1) := by decide +kernel
theorem dX3_readOrder_93 : decode cX3_readOrder 93 = .ok (.iload_n 3, 1) := by decide +kernel
theorem dX3_readOrder_94 : decode cX3_readOrder 94 = .ok (.ifCond .lt 12, 3) := by decide +kernel
theorem dX3_readOrder_97 : decode cX3_readOrder 97 = .ok (.aload_n 0, 1) := by decide +kernel
theorem dX3_readOrder_98 : decode cX3_readOrder 98 = .ok (.getfield 19, 3) := by decide +kernel
theorem dX3_readOrder_101 : decode cX3_readOrder 101 = .ok (.bipush 27, 2) := by decide +kernel
theorem dX3_readOrder_103 : decode cX3_readOrder 103 = .ok (.if_icmp .lt 5, 3) := by decide +kernel
theorem dX3_readOrder_106 : decode cX3_readOrder 106 = .ok (.iconst 0, 1) := by decide +kernel
theorem dX3_readOrder_107 : decode cX3_readOrder 107 = .ok (.ireturn, 1) := by decide +kernel
theorem dX3_readOrder_108 : decode cX3_readOrder 108 = .ok (.aload_n 0, 1) := by decide +kernel
theorem dX3_readOrder_109 : decode cX3_readOrder 109 = .ok (.getfield 22, 3) := by decide +kernel
theorem dX3_readOrder_112 : decode cX3_readOrder 112 = .ok (.aload_n 0, 1) := by decide +kernel
theorem dX3_readOrder_113 : decode cX3_readOrder 113 = .ok (.getfield 19, 3) := by decide +kernel
theorem dX3_readOrder_116 : decode cX3_readOrder 116 = .ok (.iload_n 1, 1) := by decide +kernel
theorem dX3_readOrder_117 : decode cX3_readOrder 117 = .ok (.iastore, 1) := by decide +kernel
theorem dX3_readOrder_118 : decode cX3_readOrder 118 = .ok (.aload_n 0, 1) := by decide +kernel
theorem dX3_readOrder_119 : decode cX3_readOrder 119 = .ok (.getfield 26, 3) := by decide +kernel
theorem dX3_readOrder_122 : decode cX3_readOrder 122 = .ok (.aload_n 0, 1) := by decide +kernel
theorem dX3_readOrder_123 : decode cX3_readOrder 123 = .ok (.getfield 19, 3) := by decide +kernel
theorem dX3_readOrder_126 : decode cX3_readOrder 126 = .ok (.iload_n 2, 1) := by decide +kernel
theorem dX3_readOrder_127 : decode cX3_readOrder 127 = .ok (.iastore, 1) := by decide +kernel
theorem dX3_readOrder_128 : decode cX3_readOrder 128 = .ok (.aload_n 0, 1) := by decide +kernel
theorem dX3_readOrder_129 : decode cX3_readOrder 129 = .ok (.getfield 29, 3) := by decide +kernel
theorem dX3_readOrder_132 : decode cX3_readOrder 132 = .ok (.aload_n 0, 1) := by decide +kernel
theorem dX3_readOrder_133 : decode cX3_readOrder 133 = .ok (.getfield 19, 3) := by decide +kernel
theorem dX3_readOrder_136 : decode cX3_readOrder 136 = .ok (.iload_n 3, 1) := by decide +kernel
theorem dX3_readOrder_137 : decode cX3_readOrder 137 = .ok (.iastore, 1) := by decide +kernel
theorem dX3_readOrder_138 : decode cX3_readOrder 138 = .ok (.aload_n 0, 1) := by decide +kernel
theorem dX3_readOrder_139 : decode cX3_readOrder 139 = .ok (.dup, 1) := by decide +kernel
theorem dX3_readOrder_140 : decode cX3_readOrder 140 = .ok (.getfield 19, 3) := by decide +kernel
theorem dX3_readOrder_143 : decode cX3_readOrder 143 = .ok (.iconst 1, 1) := by decide +kernel
theorem dX3_readOrder_144 : decode cX3_readOrder 144 = .ok (.iadd, 1) := by decide +kernel
theorem dX3_readOrder_145 : decode cX3_readOrder 145 = .ok (.putfield 19, 3) := by decide +kernel
theorem dX3_readOrder_148 : decode cX3_readOrder 148 = .ok (.iconst 1, 1) := by decide +kernel
theorem dX3_readOrder_149 : decode cX3_readOrder 149 = .ok (.ireturn, 1) := by decide +kernel
theorem dX3_signHere_0 : decode cX3_signHere 0 = .ok (.aload_n 0, 1) := by decide +kernel
theorem dX3_signHere_1 : decode cX3_signHere 1 = .ok (.getfield 32, 3) := by decide +kernel
theorem dX3_signHere_4 : decode cX3_signHere 4 = .ok (.ifCond .lt 35, 3) := by decide +kernel
theorem dX3_signHere_7 : decode cX3_signHere 7 = .ok (.aload_n 0, 1) := by decide +kernel
theorem dX3_signHere_8 : decode cX3_signHere 8 = .ok (.getfield 32, 3) := by decide +kernel
theorem dX3_signHere_11 : decode cX3_signHere 11 = .ok (.aload_n 0, 1) := by decide +kernel
theorem dX3_signHere_12 : decode cX3_signHere 12 = .ok (.getfield 15, 3) := by decide +kernel
theorem dX3_signHere_15 : decode cX3_signHere 15 = .ok (.if_icmp .ge 24, 3) := by decide +kernel
theorem dX3_signHere_18 : decode cX3_signHere 18 = .ok (.aload_n 0, 1) := by decide +kernel
theorem dX3_signHere_19 : decode cX3_signHere 19 = .ok (.getfield 32, 3) := by decide +kernel
theorem dX3_signHere_22 : decode cX3_signHere 22 = .ok (.bipush 80, 2) := by decide +kernel
theorem dX3_signHere_24 : decode cX3_signHere 24 = .ok (.if_icmp .ge 15, 3) := by decide +kernel
theorem dX3_signHere_27 : decode cX3_signHere 27 = .ok (.aload_n 0, 1) := by decide +kernel
theorem dX3_signHere_28 : decode cX3_signHere 28 = .ok (.getfield 11, 3) := by decide +kernel
theorem dX3_signHere_31 : decode cX3_signHere 31 = .ok (.aload_n 0, 1) := by decide +kernel
theorem dX3_signHere_32 : decode cX3_signHere 32 = .ok (.getfield 32, 3) := by decide +kernel
theorem dX3_signHere_35 : decode cX3_signHere 35 = .ok (.caload, 1) := by decide +kernel
theorem dX3_signHere_36 : decode cX3_signHere 36 = .ok (.goto 4, 3) := by decide +kernel
theorem dX3_signHere_39 : decode cX3_signHere 39 = .ok (.iconst 0, 1) := by decide +kernel
theorem dX3_signHere_40 : decode cX3_signHere 40 = .ok (.ireturn, 1) := by decide +kernel
theorem dX3_readSign_0 : decode cX3_readSign 0 = .ok (.aload_n 0, 1) := by decide +kernel
theorem dX3_readSign_1 : decode cX3_readSign 1 = .ok (.invokevirtual 49, 3) := by decide +kernel
theorem dX3_readSign_4 : decode cX3_readSign 4 = .ok (.iload_n 1, 1) := by decide +kernel
theorem dX3_readSign_5 : decode cX3_readSign 5 = .ok (.if_icmp .eq 5, 3) := by decide +kernel
theorem dX3_readSign_8 : decode cX3_readSign 8 = .ok (.iconst 0, 1) := by decide +kernel
theorem dX3_readSign_9 : decode cX3_readSign 9 = .ok (.ireturn, 1) := by decide +kernel
theorem dX3_readSign_10 : decode cX3_readSign 10 = .ok (.aload_n 0, 1) := by decide +kernel
theorem dX3_readSign_11 : decode cX3_readSign 11 = .ok (.dup, 1) := by decide +kernel
theorem dX3_readSign_12 : decode cX3_readSign 12 = .ok (.getfield 32, 3) := by decide +kernel
theorem dX3_readSign_15 : decode cX3_readSign 15 = .ok (.iconst 1, 1) := by decide +kernel
theorem dX3_readSign_16 : decode cX3_readSign 16 = .ok (.iadd, 1) := by decide +kernel
theorem dX3_readSign_17 : decode cX3_readSign 17 = .ok (.putfield 32, 3) := by decide +kernel
theorem dX3_readSign_20 : decode cX3_readSign 20 = .ok (.iconst 1, 1) := by decide +kernel
theorem dX3_readSign_21 : decode cX3_readSign 21 = .ok (.ireturn, 1) := by decide +kernel
theorem dX3_readNumber_0 : decode cX3_readNumber 0 = .ok (.aload_n 0, 1) := by decide +kernel
theorem dX3_readNumber_1 : decode cX3_readNumber 1 = .ok (.invokevirtual 60, 3) := by decide +kernel
theorem dX3_readNumber_4 : decode cX3_readNumber 4 = .ok (.istore_n 1, 1) := by decide +kernel
theorem dX3_readNumber_5 : decode cX3_readNumber 5 = .ok (.iload_n 1, 1) := by decide +kernel
theorem dX3_readNumber_6 : decode cX3_readNumber 6 = .ok (.ifCond .gt 5, 3) := by decide +kernel
theorem dX3_readNumber_9 : decode cX3_readNumber 9 = .ok (.iload_n 1, 1) := by decide +kernel
theorem dX3_readNumber_10 : decode cX3_readNumber 10 = .ok (.ireturn, 1) := by decide +kernel
theorem dX3_readNumber_11 : decode cX3_readNumber 11 = .ok (.aload_n 0, 1) := by decide +kernel
theorem dX3_readNumber_12 : decode cX3_readNumber 12 = .ok (.invokevirtual 60, 3) := by decide +kernel
theorem dX3_readNumber_15 : decode cX3_readNumber 15 = .ok (.istore_n 2, 1) := by decide +kernel
theorem dX3_readNumber_16 : decode cX3_readNumber 16 = .ok (.iload_n 2, 1) := by decide +kernel
theorem dX3_readNumber_17 : decode cX3_readNumber 17 = .ok (.iconst (-1), 1) := by decide +kernel
theorem dX3_readNumber_18 : decode cX3_readNumber 18 = .ok (.if_icmp .ne 7, 3) := by decide +kernel
theorem dX3_readNumber_21 : decode cX3_readNumber 21 = .ok (.iload_n 1, 1) := by decide +kernel
theorem dX3_readNumber_22 : decode cX3_readNumber 22 = .ok (.goto 9, 3) := by decide +kernel
theorem dX3_readNumber_25 : decode cX3_readNumber 25 = .ok (.bipush 10, 2) := by decide +kernel
theorem dX3_readNumber_27 : decode cX3_readNumber 27 = .ok (.iload_n 1, 1) := by decide +kernel
theorem dX3_readNumber_28 : decode cX3_readNumber 28 = .ok (.imul, 1) := by decide +kernel
theorem dX3_readNumber_29 : decode cX3_readNumber 29 = .ok (.iload_n 2, 1) := by decide +kernel
theorem dX3_readNumber_30 : decode cX3_readNumber 30 = .ok (.iadd, 1) := by decide +kernel
theorem dX3_readNumber_31 : decode cX3_readNumber 31 = .ok (.ireturn, 1) := by decide +kernel
theorem dX3_readDigit_0 : decode cX3_readDigit 0 = .ok (.aload_n 0, 1) := by decide +kernel
theorem dX3_readDigit_1 : decode cX3_readDigit 1 = .ok (.invokevirtual 49, 3) := by decide +kernel
theorem dX3_readDigit_4 : decode cX3_readDigit 4 = .ok (.istore_n 1, 1) := by decide +kernel
theorem dX3_readDigit_5 : decode cX3_readDigit 5 = .ok (.iload_n 1, 1) := by decide +kernel
theorem dX3_readDigit_6 : decode cX3_readDigit 6 = .ok (.bipush 48, 2) := by decide +kernel
theorem dX3_readDigit_8 : decode cX3_readDigit 8 = .ok (.if_icmp .lt 9, 3) := by decide +kernel
theorem dX3_readDigit_11 : decode cX3_readDigit 11 = .ok (.iload_n 1, 1) := by decide +kernel
theorem dX3_readDigit_12 : decode cX3_readDigit 12 = .ok (.bipush 57, 2) := by decide +kernel
theorem dX3_readDigit_14 : decode cX3_readDigit 14 = .ok (.if_icmp .le 5, 3) := by decide +kernel
theorem dX3_readDigit_17 : decode cX3_readDigit 17 = .ok (.iconst (-1), 1) := by decide +kernel
theorem dX3_readDigit_18 : decode cX3_readDigit 18 = .ok (.ireturn, 1) := by decide +kernel
theorem dX3_readDigit_19 : decode cX3_readDigit 19 = .ok (.aload_n 0, 1) := by decide +kernel
theorem dX3_readDigit_20 : decode cX3_readDigit 20 = .ok (.dup, 1) := by decide +kernel
theorem dX3_readDigit_21 : decode cX3_readDigit 21 = .ok (.getfield 32, 3) := by decide +kernel
theorem dX3_readDigit_24 : decode cX3_readDigit 24 = .ok (.iconst 1, 1) := by decide +kernel
theorem dX3_readDigit_25 : decode cX3_readDigit 25 = .ok (.iadd, 1) := by decide +kernel
theorem dX3_readDigit_26 : decode cX3_readDigit 26 = .ok (.putfield 32, 3) := by decide +kernel
theorem dX3_readDigit_29 : decode cX3_readDigit 29 = .ok (.iload_n 1, 1) := by decide +kernel
theorem dX3_readDigit_30 : decode cX3_readDigit 30 = .ok (.bipush 48, 2) := by decide +kernel
theorem dX3_readDigit_32 : decode cX3_readDigit 32 = .ok (.isub, 1) := by decide +kernel
theorem dX3_readDigit_33 : decode cX3_readDigit 33 = .ok (.ireturn, 1) := by decide +kernel
theorem dX3_readSide_0 : decode cX3_readSide 0 = .ok (.aload_n 0, 1) := by decide +kernel
theorem dX3_readSide_1 : decode cX3_readSide 1 = .ok (.invokevirtual 49, 3) := by decide +kernel
theorem dX3_readSide_4 : decode cX3_readSide 4 = .ok (.istore_n 1, 1) := by decide +kernel
theorem dX3_readSide_5 : decode cX3_readSide 5 = .ok (.iload_n 1, 1) := by decide +kernel
theorem dX3_readSide_6 : decode cX3_readSide 6 = .ok (.invokestatic 63, 3) := by decide +kernel
theorem dX3_readSide_9 : decode cX3_readSide 9 = .ok (.istore_n 2, 1) := by decide +kernel
theorem dX3_readSide_10 : decode cX3_readSide 10 = .ok (.iload_n 2, 1) := by decide +kernel
theorem dX3_readSide_11 : decode cX3_readSide 11 = .ok (.iconst (-1), 1) := by decide +kernel
theorem dX3_readSide_12 : decode cX3_readSide 12 = .ok (.if_icmp .eq 13, 3) := by decide +kernel
theorem dX3_readSide_15 : decode cX3_readSide 15 = .ok (.aload_n 0, 1) := by decide +kernel
theorem dX3_readSide_16 : decode cX3_readSide 16 = .ok (.dup, 1) := by decide +kernel
theorem dX3_readSide_17 : decode cX3_readSide 17 = .ok (.getfield 32, 3) := by decide +kernel
theorem dX3_readSide_20 : decode cX3_readSide 20 = .ok (.iconst 1, 1) := by decide +kernel
theorem dX3_readSide_21 : decode cX3_readSide 21 = .ok (.iadd, 1) := by decide +kernel
theorem dX3_readSide_22 : decode cX3_readSide 22 = .ok (.putfield 32, 3) := by decide +kernel
theorem dX3_readSide_25 : decode cX3_readSide 25 = .ok (.iload_n 2, 1) := by decide +kernel
theorem dX3_readSide_26 : decode cX3_readSide 26 = .ok (.ireturn, 1) := by decide +kernel
theorem dX3_sideOfSign_0 : decode cX3_sideOfSign 0 = .ok (.iload_n 0, 1) := by decide +kernel
theorem dX3_sideOfSign_1 : decode cX3_sideOfSign 1 = .ok (.lookupswitch 51 #[(101, 43), (110, 47), (115, 49), (119, 45)], 43) := by decide +kernel
theorem dX3_sideOfSign_44 : decode cX3_sideOfSign 44 = .ok (.iconst 0, 1) := by decide +kernel
theorem dX3_sideOfSign_45 : decode cX3_sideOfSign 45 = .ok (.ireturn, 1) := by decide +kernel
theorem dX3_sideOfSign_46 : decode cX3_sideOfSign 46 = .ok (.iconst 1, 1) := by decide +kernel
theorem dX3_sideOfSign_47 : decode cX3_sideOfSign 47 = .ok (.ireturn, 1) := by decide +kernel
theorem dX3_sideOfSign_48 : decode cX3_sideOfSign 48 = .ok (.iconst 2, 1) := by decide +kernel
theorem dX3_sideOfSign_49 : decode cX3_sideOfSign 49 = .ok (.ireturn, 1) := by decide +kernel
theorem dX3_sideOfSign_50 : decode cX3_sideOfSign 50 = .ok (.iconst 3, 1) := by decide +kernel
theorem dX3_sideOfSign_51 : decode cX3_sideOfSign 51 = .ok (.ireturn, 1) := by decide +kernel
theorem dX3_sideOfSign_52 : decode cX3_sideOfSign 52 = .ok (.iconst (-1), 1) := by decide +kernel
theorem dX3_sideOfSign_53 : decode cX3_sideOfSign 53 = .ok (.ireturn, 1) := by decide +kernel
theorem dX4_init_0 : decode cX4_init 0 = .ok (.aload_n 0, 1) := by decide +kernel
theorem dX4_init_1 : decode cX4_init 1 = .ok (.invokespecial 3, 3) := by decide +kernel
theorem dX4_init_4 : decode cX4_init 4 = .ok (.aload_n 0, 1) := by decide +kernel
theorem dX4_init_5 : decode cX4_init 5 = .ok (.iconst 0, 1) := by decide +kernel
theorem dX4_init_6 : decode cX4_init 6 = .ok (.putfield 9, 3) := by decide +kernel
theorem dX4_init_9 : decode cX4_init 9 = .ok (.aload_n 0, 1) := by decide +kernel
theorem dX4_init_10 : decode cX4_init 10 = .ok (.bipush 100, 2) := by decide +kernel
theorem dX4_init_12 : decode cX4_init 12 = .ok (.newarray .int, 2) := by decide +kernel
theorem dX4_init_14 : decode cX4_init 14 = .ok (.putfield 15, 3) := by decide +kernel
theorem dX4_init_17 : decode cX4_init 17 = .ok (.aload_n 0, 1) := by decide +kernel
theorem dX4_init_18 : decode cX4_init 18 = .ok (.sipush 1250, 3) := by decide +kernel
theorem dX4_init_21 : decode cX4_init 21 = .ok (.newarray .int, 2) := by decide +kernel
theorem dX4_init_23 : decode cX4_init 23 = .ok (.putfield 19, 3) := by decide +kernel
theorem dX4_init_26 : decode cX4_init 26 = .ok (.aload_n 0, 1) := by decide +kernel
theorem dX4_init_27 : decode cX4_init 27 = .ok (.bipush 50, 2) := by decide +kernel
theorem dX4_init_29 : decode cX4_init 29 = .ok (.newarray .int, 2) := by decide +kernel
theorem dX4_init_31 : decode cX4_init 31 = .ok (.putfield 22, 3) := by decide +kernel
theorem dX4_init_34 : decode cX4_init 34 = .ok (.aload_n 0, 1) := by decide +kernel
theorem dX4_init_35 : decode cX4_init 35 = .ok (.bipush 50, 2) := by decide +kernel
theorem dX4_init_37 : decode cX4_init 37 = .ok (.newarray .int, 2) := by decide +kernel
theorem dX4_init_39 : decode cX4_init 39 = .ok (.putfield 25, 3) := by decide +kernel
theorem dX4_init_42 : decode cX4_init 42 = .ok (.aload_n 0, 1) := by decide +kernel
theorem dX4_init_43 : decode cX4_init 43 = .ok (.iconst 0, 1) := by decide +kernel
theorem dX4_init_44 : decode cX4_init 44 = .ok (.putfield 28, 3) := by decide +kernel
theorem dX4_init_47 : decode cX4_init 47 = .ok (.return_, 1) := by decide +kernel
theorem dX4_learn_0 : decode cX4_learn 0 = .ok (.aload_n 1, 1) := by decide +kernel
theorem dX4_learn_1 : decode cX4_learn 1 = .ok (.invokevirtual 32, 3) := by decide +kernel
theorem dX4_learn_4 : decode cX4_learn 4 = .ok (.istore_n 3, 1) := by decide +kernel
theorem dX4_learn_5 : decode cX4_learn 5 = .ok (.aload_n 0, 1) := by decide +kernel
theorem dX4_learn_6 : decode cX4_learn 6 = .ok (.iload_n 2, 1) := by decide +kernel
theorem dX4_learn_7 : decode cX4_learn 7 = .ok (.iconst 1, 1) := by decide +kernel
theorem dX4_learn_8 : decode cX4_learn 8 = .ok (.if_icmp .ne 7, 3) := by decide +kernel
theorem dX4_learn_11 : decode cX4_learn 11 = .ok (.iconst 1, 1) := by decide +kernel
theorem dX4_learn_12 : decode cX4_learn 12 = .ok (.goto 4, 3) := by decide +kernel
theorem dX4_learn_15 : decode cX4_learn 15 = .ok (.iconst 0, 1) := by decide +kernel
theorem dX4_learn_16 : decode cX4_learn 16 = .ok (.putfield 9, 3) := by decide +kernel
theorem dX4_learn_19 : decode cX4_learn 19 = .ok (.iconst 0, 1) := by decide +kernel
theorem dX4_learn_20 : decode cX4_learn 20 = .ok (.istore 4, 2) := by decide +kernel
theorem dX4_learn_22 : decode cX4_learn 22 = .ok (.iload 4, 2) := by decide +kernel
theorem dX4_learn_24 : decode cX4_learn 24 = .ok (.iload_n 3, 1) := by decide +kernel
theorem dX4_learn_25 : decode cX4_learn 25 = .ok (.if_icmp .ge 85, 3) := by decide +kernel
theorem dX4_learn_28 : decode cX4_learn 28 = .ok (.iconst 0, 1) := by decide +kernel
theorem dX4_learn_29 : decode cX4_learn 29 = .ok (.istore 5, 2) := by decide +kernel
theorem dX4_learn_31 : decode cX4_learn 31 = .ok (.iload 5, 2) := by decide +kernel
theorem dX4_learn_33 : decode cX4_learn 33 = .ok (.iconst 4, 1) := by decide +kernel
theorem dX4_learn_34 : decode cX4_learn 34 = .ok (.if_icmp .ge 70, 3) := by decide +kernel
theorem dX4_learn_37 : decode cX4_learn 37 = .ok (.aload_n 1, 1) := by decide +kernel
theorem dX4_learn_38 : decode cX4_learn 38 = .ok (.iload 4, 2) := by decide +kernel
theorem dX4_learn_40 : decode cX4_learn 40 = .ok (.iload 5, 2) := by decide +kernel
theorem dX4_learn_42 : decode cX4_learn 42 = .ok (.invokevirtual 38, 3) := by decide +kernel
theorem dX4_learn_45 : decode cX4_learn 45 = .ok (.istore 6, 2) := by decide +kernel
theorem dX4_learn_47 : decode cX4_learn 47 = .ok (.iload 6, 2) := by decide +kernel
theorem dX4_learn_49 : decode cX4_learn 49 = .ok (.iconst (-1), 1) := by decide +kernel
theorem dX4_learn_50 : decode cX4_learn 50 = .ok (.if_icmp .eq 16, 3) := by decide +kernel
theorem dX4_learn_53 : decode cX4_learn 53 = .ok (.aload_n 1, 1) := by decide +kernel
theorem dX4_learn_54 : decode cX4_learn 54 = .ok (.iload 6, 2) := by decide +kernel
theorem dX4_learn_56 : decode cX4_learn 56 = .ok (.invokevirtual 42, 3) := by decide +kernel
theorem dX4_learn_59 : decode cX4_learn 59 = .ok (.ifCond .eq 7, 3) := by decide +kernel
theorem dX4_learn_62 : decode cX4_learn 62 = .ok (.iconst 1, 1) := by decide +kernel
theorem dX4_learn_63 : decode cX4_learn 63 = .ok (.goto 4, 3) := by decide +kernel
theorem dX4_learn_66 : decode cX4_learn 66 = .ok (.iconst 0, 1) := by decide +kernel
theorem dX4_learn_67 : decode cX4_learn 67 = .ok (.istore 7, 2) := by decide +kernel
theorem dX4_learn_69 : decode cX4_learn 69 = .ok (.aload_n 0, 1) := by decide +kernel
theorem dX4_learn_70 : decode cX4_learn 70 = .ok (.getfield 15, 3) := by decide +kernel
theorem dX4_learn_73 : decode cX4_learn 73 = .ok (.iload 4, 2) := by decide +kernel
theorem dX4_learn_75 : decode cX4_learn 75 = .ok (.iconst 4, 1) := by decide +kernel
theorem dX4_learn_76 : decode cX4_learn 76 = .ok (.imul, 1) := by decide +kernel
theorem dX4_learn_77 : decode cX4_learn 77 = .ok (.iload 5, 2) := by decide +kernel
theorem dX4_learn_79 : decode cX4_learn 79 = .ok (.iadd, 1) := by decide +kernel
theorem dX4_learn_80 : decode cX4_learn 80 = .ok (.iload 7, 2) := by decide +kernel
theorem dX4_learn_82 : decode cX4_learn 82 = .ok (.ifCond .eq 14, 3) := by decide +kernel
theorem dX4_learn_85 : decode cX4_learn 85 = .ok (.aload_n 1, 1) := by decide +kernel
theorem dX4_learn_86 : decode cX4_learn 86 = .ok (.iload 4, 2) := by decide +kernel
theorem dX4_learn_88 : decode cX4_learn 88 = .ok (.iload 5, 2) := by decide +kernel
theorem dX4_learn_90 : decode cX4_learn 90 = .ok (.invokevirtual 46, 3) := by decide +kernel
theorem dX4_learn_93 : decode cX4_learn 93 = .ok (.goto 4, 3) := by decide +kernel
theorem dX4_learn_96 : decode cX4_learn 96 = .ok (.iconst (-1), 1) := by decide +kernel
theorem dX4_learn_97 : decode cX4_learn 97 = .ok (.iastore, 1) := by decide +kernel
theorem dX4_learn_98 : decode cX4_learn 98 = .ok (.iinc 5 1, 3) := by decide +kernel
theorem dX4_learn_101 : decode cX4_learn 101 = .ok (.goto (-70), 3) := by decide +kernel
theorem dX4_learn_104 : decode cX4_learn 104 = .ok (.iinc 4 1, 3) := by decide +kernel
theorem dX4_learn_107 : decode cX4_learn 107 = .ok (.goto (-85), 3) := by decide +kernel
theorem dX4_learn_110 : decode cX4_learn 110 = .ok (.iconst 0, 1) := by decide +kernel
theorem dX4_learn_111 : decode cX4_learn 111 = .ok (.istore 4, 2) := by decide +kernel
theorem dX4_learn_113 : decode cX4_learn 113 = .ok (.iload 4, 2) := by decide +kernel
theorem dX4_learn_115 : decode cX4_learn 115 = .ok (.iload_n 3, 1) := by decide +kernel
theorem dX4_learn_116 : decode cX4_learn 116 = .ok (.if_icmp .ge 15, 3) := by decide +kernel
theorem dX4_learn_119 : decode cX4_learn 119 = .ok (.aload_n 0, 1) := by decide +kernel
theorem dX4_learn_120 : decode cX4_learn 120 = .ok (.iload 4, 2) := by decide +kernel
theorem dX4_learn_122 : decode cX4_learn 122 = .ok (.invokevirtual 49, 3) := by decide +kernel
theorem dX4_learn_125 : decode cX4_learn 125 = .ok (.iinc 4 1, 3) := by decide +kernel
theorem dX4_learn_128 : decode cX4_learn 128 = .ok (.goto (-15), 3) := by decide +kernel
theorem dX4_learn_131 : decode cX4_learn 131 = .ok (.return_, 1) := by decide +kernel
theorem dX4_boxBehind_0 : decode cX4_boxBehind 0 = .ok (.iload_n 1, 1) := by decide +kernel
theorem dX4_boxBehind_1 : decode cX4_boxBehind 1 = .ok (.iconst 4, 1) := by decide +kernel
theorem dX4_boxBehind_2 : decode cX4_boxBehind 2 = .ok (.imul, 1) := by decide +kernel
theorem dX4_boxBehind_3 : decode cX4_boxBehind 3 = .ok (.iload_n 2, 1) := by decide +kernel
theorem dX4_boxBehind_4 : decode cX4_boxBehind 4 = .ok (.iadd, 1) := by decide +kernel
theorem dX4_boxBehind_5 : decode cX4_boxBehind 5 = .ok (.istore_n 3, 1) := by decide +kernel
theorem dX4_boxBehind_6 : decode cX4_boxBehind 6 = .ok (.iload_n 3, 1) := by decide +kernel
theorem dX4_boxBehind_7 : decode cX4_boxBehind 7 = .ok (.ifCond .lt 21, 3) := by decide +kernel
theorem dX4_boxBehind_10 : decode cX4_boxBehind 10 = .ok (.iload_n 3, 1) := by decide +kernel
theorem dX4_boxBehind_11 : decode cX4_boxBehind 11 = .ok (.aload_n 0, 1) := by decide +kernel
theorem dX4_boxBehind_12 : decode cX4_boxBehind 12 = .ok (.getfield 15, 3) := by decide +kernel
theorem dX4_boxBehind_15 : decode cX4_boxBehind 15 = .ok (.arraylength, 1) := by decide +kernel
theorem dX4_boxBehind_16 : decode cX4_boxBehind 16 = .ok (.if_icmp .ge 12, 3) := by decide +kernel
theorem dX4_boxBehind_19 : decode cX4_boxBehind 19 = .ok (.aload_n 0, 1) := by decide +kernel
theorem dX4_boxBehind_20 : decode cX4_boxBehind 20 = .ok (.getfield 15, 3) := by decide +kernel
theorem dX4_boxBehind_23 : decode cX4_boxBehind 23 = .ok (.iload_n 3, 1) := by decide +kernel
theorem dX4_boxBehind_24 : decode cX4_boxBehind 24 = .ok (.iaload, 1) := by decide +kernel
theorem dX4_boxBehind_25 : decode cX4_boxBehind 25 = .ok (.goto 4, 3) := by decide +kernel
theorem dX4_boxBehind_28 : decode cX4_boxBehind 28 = .ok (.iconst (-1), 1) := by decide +kernel
theorem dX4_boxBehind_29 : decode cX4_boxBehind 29 = .ok (.ireturn, 1) := by decide +kernel
theorem dX4_length_0 : decode cX4_length 0 = .ok (.iload_n 3, 1) := by decide +kernel
theorem dX4_length_1 : decode cX4_length 1 = .ok (.bipush 50, 2) := by decide +kernel
theorem dX4_length_3 : decode cX4_length 3 = .ok (.imul, 1) := by decide +kernel
theorem dX4_length_4 : decode cX4_length 4 = .ok (.iload_n 1, 1) := by decide +kernel
theorem dX4_length_5 : decode cX4_length 5 = .ok (.iload_n 2, 1) := by decide +kernel
theorem dX4_length_6 : decode cX4_length 6 = .ok (.invokestatic 53, 3) := by decide +kernel
theorem dX4_length_9 : decode cX4_length 9 = .ok (.iadd, 1) := by decide +kernel
theorem dX4_length_10 : decode cX4_length 10 = .ok (.istore 4, 2) := by decide +kernel
theorem dX4_length_12 : decode cX4_length 12 = .ok (.iload 4, 2) := by decide +kernel
theorem dX4_length_14 : decode cX4_length 14 = .ok (.ifCond .lt 23, 3) := by decide +kernel
theorem dX4_length_17 : decode cX4_length 17 = .ok (.iload 4, 2) := by decide +kernel
theorem dX4_length_19 : decode cX4_length 19 = .ok (.aload_n 0, 1) := by decide +kernel
theorem dX4_length_20 : decode cX4_length 20 = .ok (.getfield 19, 3) := by decide +kernel
theorem dX4_length_23 : decode cX4_length 23 = .ok (.arraylength, 1) := by decide +kernel
theorem dX4_length_24 : decode cX4_length 24 = .ok (.if_icmp .ge 13, 3) := by decide +kernel
theorem dX4_length_27 : decode cX4_length 27 = .ok (.aload_n 0, 1) := by decide +kernel
theorem dX4_length_28 : decode cX4_length 28 = .ok (.getfield 19, 3) := by decide +kernel
theorem dX4_length_31 : decode cX4_length 31 = .ok (.iload 4, 2) := by decide +kernel
theorem dX4_length_33 : decode cX4_length 33 = .ok (.iaload, 1) := by decide +kernel
theorem dX4_length_34 : decode cX4_length 34 = .ok (.goto 6, 3) := by decide +kernel
theorem dX4_length_37 : decode cX4_length 37 = .ok (.sipush 1000, 3) := by decide +kernel
theorem dX4_length_40 : decode cX4_length 40 = .ok (.ireturn, 1) := by decide +kernel
theorem dX4_lengthAfter_0 : decode cX4_lengthAfter 0 = .ok (.aload_n 0, 1) := by decide +kernel
theorem dX4_lengthAfter_1 : decode cX4_lengthAfter 1 = .ok (.iload_n 1, 1) := by decide +kernel
theorem dX4_lengthAfter_2 : decode cX4_lengthAfter 2 = .ok (.iload_n 3, 1) := by decide +kernel
theorem dX4_lengthAfter_3 : decode cX4_lengthAfter 3 = .ok (.invokevirtual 56, 3) := by decide +kernel
theorem dX4_lengthAfter_6 : decode cX4_lengthAfter 6 = .ok (.istore 5, 2) := by decide +kernel
theorem dX4_lengthAfter_8 : decode cX4_lengthAfter 8 = .ok (.iload 5, 2) := by decide +kernel
theorem dX4_lengthAfter_10 : decode cX4_lengthAfter 10 = .ok (.iconst (-1), 1) := by decide +kernel
theorem dX4_lengthAfter_11 : decode cX4_lengthAfter 11 = .ok (.if_icmp .eq 12, 3) := by decide +kernel
theorem dX4_lengthAfter_14 : decode cX4_lengthAfter 14 = .ok (.aload_n 0, 1) := by decide +kernel
theorem dX4_lengthAfter_15 : decode cX4_lengthAfter 15 = .ok (.iload_n 2, 1) := by decide +kernel
theorem dX4_lengthAfter_16 : decode cX4_lengthAfter 16 = .ok (.iload_n 3, 1) := by decide +kernel
theorem dX4_lengthAfter_17 : decode cX4_lengthAfter 17 = .ok (.invokevirtual 59, 3) := by decide +kernel
theorem dX4_lengthAfter_20 : decode cX4_lengthAfter 20 = .ok (.ifCond .ne 7, 3) := by decide +kernel
theorem dX4_lengthAfter_23 : decode cX4_lengthAfter 23 = .ok (.sipush 1000, 3) := by decide +kernel
theorem dX4_lengthAfter_26 : decode cX4_lengthAfter 26 = .ok (.ireturn, 1) := by decide +kernel
theorem dX4_lengthAfter_27 : decode cX4_lengthAfter 27 = .ok (.aload_n 0, 1) := by decide +kernel
theorem dX4_lengthAfter_28 : decode cX4_lengthAfter 28 = .ok (.iload 5, 2) := by decide +kernel
theorem dX4_lengthAfter_30 : decode cX4_lengthAfter 30 = .ok (.iload_n 3, 1) := by decide +kernel
theorem dX4_lengthAfter_31 : decode cX4_lengthAfter 31 = .ok (.ifCond .ne 7, 3) := by decide +kernel
theorem dX4_lengthAfter_34 : decode cX4_lengthAfter 34 = .ok (.iload_n 2, 1) := by decide +kernel
theorem dX4_lengthAfter_35 : decode cX4_lengthAfter 35 = .ok (.goto 4, 3) := by decide +kernel
theorem dX4_lengthAfter_38 : decode cX4_lengthAfter 38 = .ok (.iconst 1, 1) := by decide +kernel
theorem dX4_lengthAfter_39 : decode cX4_lengthAfter 39 = .ok (.iload 4, 2) := by decide +kernel
theorem dX4_lengthAfter_41 : decode cX4_lengthAfter 41 = .ok (.invokevirtual 63, 3) := by decide +kernel
theorem dX4_lengthAfter_44 : decode cX4_lengthAfter 44 = .ok (.ireturn, 1) := by decide +kernel
theorem dX4_shortestWays_0 : decode cX4_shortestWays 0 = .ok (.aload_n 0, 1) := by decide +kernel
theorem dX4_shortestWays_1 : decode cX4_shortestWays 1 = .ok (.iload_n 2, 1) := by decide +kernel
theorem dX4_shortestWays_2 : decode cX4_shortestWays 2 = .ok (.invokevirtual 49, 3) := by decide +kernel
theorem dX4_shortestWays_5 : decode cX4_shortestWays 5 = .ok (.aload_n 0, 1) := by decide +kernel
theorem dX4_shortestWays_6 : decode cX4_shortestWays 6 = .ok (.getfield 22, 3) := by decide +kernel
theorem dX4_shortestWays_9 : decode cX4_shortestWays 9 = .ok (.iload_n 1, 1) := by decide +kernel
theorem dX4_shortestWays_10 : decode cX4_shortestWays 10 = .ok (.iconst 0, 1) := by decide +kernel
theorem dX4_shortestWays_11 : decode cX4_shortestWays 11 = .ok (.invokestatic 53, 3) := by decide +kernel
theorem dX4_shortestWays_14 : decode cX4_shortestWays 14 = .ok (.iaload, 1) := by decide +kernel
theorem dX4_shortestWays_15 : decode cX4_shortestWays 15 = .ok (.ireturn, 1) := by decide +kernel
theorem dX4_spot_0 : decode cX4_spot 0 = .ok (.iload_n 1, 1) := by decide +kernel
theorem dX4_spot_1 : decode cX4_spot 1 = .ok (.bipush 25, 2) := by decide +kernel
theorem dX4_spot_3 : decode cX4_spot 3 = .ok (.imul, 1) := by decide +kernel
theorem dX4_spot_4 : decode cX4_spot 4 = .ok (.iload_n 0, 1) := by decide +kernel
theorem dX4_spot_5 : decode cX4_spot 5 = .ok (.iadd, 1) := by decide +kernel
theorem dX4_spot_6 : decode cX4_spot 6 = .ok (.ireturn, 1) := by decide +kernel
theorem dX4_mayMove_0 : decode cX4_mayMove 0 = .ok (.aload_n 0, 1) := by decide +kernel
theorem dX4_mayMove_1 : decode cX4_mayMove 1 = .ok (.getfield 9, 3) := by decide +kernel
theorem dX4_mayMove_4 : decode cX4_mayMove 4 = .ok (.ifCond .eq 11, 3) := by decide +kernel
theorem dX4_mayMove_7 : decode cX4_mayMove 7 = .ok (.iload_n 1, 1) := by decide +kernel
theorem dX4_mayMove_8 : decode cX4_mayMove 8 = .ok (.ifCond .eq 7, 3) := by decide +kernel
theorem dX4_mayMove_11 : decode cX4_mayMove 11 = .ok (.iload_n 2, 1) := by decide +kernel
theorem dX4_mayMove_12 : decode cX4_mayMove 12 = .ok (.ifCond .eq 7, 3) := by decide +kernel
theorem dX4_mayMove_15 : decode cX4_mayMove 15 = .ok (.iconst 1, 1) := by decide +kernel
theorem dX4_mayMove_16 : decode cX4_mayMove 16 = .ok (.goto 4, 3) := by decide +kernel
theorem dX4_mayMove_19 : decode cX4_mayMove 19 = .ok (.iconst 0, 1) := by decide +kernel
theorem dX4_mayMove_20 : decode cX4_mayMove 20 = .ok (.ireturn, 1) := by decide +kernel
theorem dX4_search_0 : decode cX4_search 0 = .ok (.iconst 0, 1) := by decide +kernel
theorem dX4_search_1 : decode cX4_search 1 = .ok (.istore_n 2, 1) := by decide +kernel
theorem dX4_search_2 : decode cX4_search 2 = .ok (.iload_n 2, 1) := by decide +kernel
theorem dX4_search_3 : decode cX4_search 3 = .ok (.bipush 50, 2) := by decide +kernel
theorem dX4_search_5 : decode cX4_search 5 = .ok (.if_icmp .ge 30, 3) := by decide +kernel
theorem dX4_search_8 : decode cX4_search 8 = .ok (.aload_n 0, 1) := by decide +kernel
theorem dX4_search_9 : decode cX4_search 9 = .ok (.getfield 19, 3) := by decide +kernel
theorem dX4_search_12 : decode cX4_search 12 = .ok (.iload_n 1, 1) := by decide +kernel
theorem dX4_search_13 : decode cX4_search 13 = .ok (.bipush 50, 2) := by decide +kernel
theorem dX4_search_15 : decode cX4_search 15 = .ok (.imul, 1) := by decide +kernel
theorem dX4_search_16 : decode cX4_search 16 = .ok (.iload_n 2, 1) := by decide +kernel
theorem dX4_search_17 : decode cX4_search 17 = .ok (.iadd, 1) := by decide +kernel
theorem dX4_search_18 : decode cX4_search 18 = .ok (.sipush 1000, 3) := by decide +kernel
theorem dX4_search_21 : decode cX4_search 21 = .ok (.iastore, 1) := by decide +kernel
theorem dX4_search_22 : decode cX4_search 22 = .ok (.aload_n 0, 1) := by decide +kernel
theorem dX4_search_23 : decode cX4_search 23 = .ok (.getfield 22, 3) := by decide +kernel
theorem dX4_search_26 : decode cX4_search 26 = .ok (.iload_n 2, 1) := by decide +kernel
theorem dX4_search_27 : decode cX4_search 27 = .ok (.iconst 0, 1) := by decide +kernel
theorem dX4_search_28 : decode cX4_search 28 = .ok (.iastore, 1) := by decide +kernel
theorem dX4_search_29 : decode cX4_search 29 = .ok (.iinc 2 1, 3) := by decide +kernel
theorem dX4_search_32 : decode cX4_search 32 = .ok (.goto (-30), 3) := by decide +kernel
theorem dX4_search_35 : decode cX4_search 35 = .ok (.aload_n 0, 1) := by decide +kernel
theorem dX4_search_36 : decode cX4_search 36 = .ok (.iconst 0, 1) := by decide +kernel
theorem dX4_search_37 : decode cX4_search 37 = .ok (.putfield 28, 3) := by decide +kernel
theorem dX4_search_40 : decode cX4_search 40 = .ok (.aload_n 0, 1) := by decide +kernel
theorem dX4_search_41 : decode cX4_search 41 = .ok (.iload_n 1, 1) := by decide +kernel
theorem dX4_search_42 : decode cX4_search 42 = .ok (.iload_n 1, 1) := by decide +kernel
theorem dX4_search_43 : decode cX4_search 43 = .ok (.iconst 0, 1) := by decide +kernel
theorem dX4_search_44 : decode cX4_search 44 = .ok (.invokestatic 53, 3) := by decide +kernel
theorem dX4_search_47 : decode cX4_search 47 = .ok (.iconst 0, 1) := by decide +kernel
theorem dX4_search_48 : decode cX4_search 48 = .ok (.iconst 1, 1) := by decide +kernel
theorem dX4_search_49 : decode cX4_search 49 = .ok (.invokevirtual 67, 3) := by decide +kernel
theorem dX4_search_52 : decode cX4_search 52 = .ok (.aload_n 0, 1) := by decide +kernel
theorem dX4_search_53 : decode cX4_search 53 = .ok (.iload_n 1, 1) := by decide +kernel
theorem dX4_search_54 : decode cX4_search 54 = .ok (.iload_n 1, 1) := by decide +kernel
theorem dX4_search_55 : decode cX4_search 55 = .ok (.iconst 1, 1) := by decide +kernel
theorem dX4_search_56 : decode cX4_search 56 = .ok (.invokestatic 53, 3) := by decide +kernel
theorem dX4_search_59 : decode cX4_search 59 = .ok (.iconst 0, 1) := by decide +kernel
theorem dX4_search_60 : decode cX4_search 60 = .ok (.iconst 1, 1) := by decide +kernel
theorem dX4_search_61 : decode cX4_search 61 = .ok (.invokevirtual 67, 3) := by decide +kernel
theorem dX4_search_64 : decode cX4_search 64 = .ok (.iconst 0, 1) := by decide +kernel
theorem dX4_search_65 : decode cX4_search 65 = .ok (.istore_n 2, 1) := by decide +kernel
theorem dX4_search_66 : decode cX4_search 66 = .ok (.iload_n 2, 1) := by decide +kernel
theorem dX4_search_67 : decode cX4_search 67 = .ok (.aload_n 0, 1) := by decide +kernel
theorem dX4_search_68 : decode cX4_search 68 = .ok (.getfield 28, 3) := by decide +kernel
theorem dX4_search_71 : decode cX4_search 71 = .ok (.if_icmp .ge 38, 3) := by decide +kernel
theorem dX4_search_74 : decode cX4_search 74 = .ok (.iload_n 2, 1) := by decide +kernel
theorem dX4_search_75 : decode cX4_search 75 = .ok (.bipush 50, 2) := by decide +kernel
theorem dX4_search_77 : decode cX4_search 77 = .ok (.if_icmp .ge 32, 3) := by decide +kernel
theorem dX4_search_80 : decode cX4_search 80 = .ok (.aload_n 0, 1) := by decide +kernel
theorem dX4_search_81 : decode cX4_search 81 = .ok (.iload_n 1, 1) := by decide +kernel
theorem dX4_search_82 : decode cX4_search 82 = .ok (.aload_n 0, 1) := by decide +kernel
theorem dX4_search_83 : decode cX4_search 83 = .ok (.getfield 25, 3) := by decide +kernel
theorem dX4_search_86 : decode cX4_search 86 = .ok (.iload_n 2, 1) := by decide +kernel
theorem dX4_search_87 : decode cX4_search 87 = .ok (.iaload, 1) := by decide +kernel
theorem dX4_search_88 : decode cX4_search 88 = .ok (.bipush 25, 2) := by decide +kernel
theorem dX4_search_90 : decode cX4_search 90 = .ok (.irem, 1) := by decide +kernel
theorem dX4_search_91 : decode cX4_search 91 = .ok (.aload_n 0, 1) := by decide +kernel
theorem dX4_search_92 : decode cX4_search 92 = .ok (.getfield 25, 3) := by decide +kernel
theorem dX4_search_95 : decode cX4_search 95 = .ok (.iload_n 2, 1) := by decide +kernel
theorem dX4_search_96 : decode cX4_search 96 = .ok (.iaload, 1) := by decide +kernel
theorem dX4_search_97 : decode cX4_search 97 = .ok (.bipush 25, 2) := by decide +kernel
theorem dX4_search_99 : decode cX4_search 99 = .ok (.idiv, 1) := by decide +kernel
theorem dX4_search_100 : decode cX4_search 100 = .ok (.invokevirtual 71, 3) := by decide +kernel
theorem dX4_search_103 : decode cX4_search 103 = .ok (.iinc 2 1, 3) := by decide +kernel
theorem dX4_search_106 : decode cX4_search 106 = .ok (.goto (-40), 3) := by decide +kernel
theorem dX4_search_109 : decode cX4_search 109 = .ok (.return_, 1) := by decide +kernel
theorem dX4_stepBack_0 : decode cX4_stepBack 0 = .ok (.iload_n 2, 1) := by decide +kernel
theorem dX4_stepBack_1 : decode cX4_stepBack 1 = .ok (.iload_n 3, 1) := by decide +kernel
theorem dX4_stepBack_2 : decode cX4_stepBack 2 = .ok (.invokestatic 53, 3) := by decide +kernel
theorem dX4_stepBack_5 : decode cX4_stepBack 5 = .ok (.istore 4, 2) := by decide +kernel
theorem dX4_stepBack_7 : decode cX4_stepBack 7 = .ok (.aload_n 0, 1) := by decide +kernel
theorem dX4_stepBack_8 : decode cX4_stepBack 8 = .ok (.getfield 19, 3) := by decide +kernel
theorem dX4_stepBack_11 : decode cX4_stepBack 11 = .ok (.iload_n 1, 1) := by decide +kernel
theorem dX4_stepBack_12 : decode cX4_stepBack 12 = .ok (.bipush 50, 2) := by decide +kernel
theorem dX4_stepBack_14 : decode cX4_stepBack 14 = .ok (.imul, 1) := by decide +kernel
theorem dX4_stepBack_15 : decode cX4_stepBack 15 = .ok (.iload 4, 2) := by decide +kernel
theorem dX4_stepBack_17 : decode cX4_stepBack 17 = .ok (.iadd, 1) := by decide +kernel
theorem dX4_stepBack_18 : decode cX4_stepBack 18 = .ok (.iaload, 1) := by decide +kernel
theorem dX4_stepBack_19 : decode cX4_stepBack 19 = .ok (.iconst 1, 1) := by decide +kernel
theorem dX4_stepBack_20 : decode cX4_stepBack 20 = .ok (.iadd, 1) := by decide +kernel
theorem dX4_stepBack_21 : decode cX4_stepBack 21 = .ok (.istore 5, 2) := by decide +kernel
theorem dX4_stepBack_23 : decode cX4_stepBack 23 = .ok (.aload_n 0, 1) := by decide +kernel
theorem dX4_stepBack_24 : decode cX4_stepBack 24 = .ok (.iload_n 2, 1) := by decide +kernel
theorem dX4_stepBack_25 : decode cX4_stepBack 25 = .ok (.iconst 1, 1) := by decide +kernel
theorem dX4_stepBack_26 : decode cX4_stepBack 26 = .ok (.invokevirtual 56, 3) := by decide +kernel
theorem dX4_stepBack_29 : decode cX4_stepBack 29 = .ok (.istore 6, 2) := by decide +kernel
theorem dX4_stepBack_31 : decode cX4_stepBack 31 = .ok (.iload 6, 2) := by decide +kernel
theorem dX4_stepBack_33 : decode cX4_stepBack 33 = .ok (.iconst (-1), 1) := by decide +kernel
theorem dX4_stepBack_34 : decode cX4_stepBack 34 = .ok (.if_icmp .eq 32, 3) := by decide +kernel
theorem dX4_stepBack_37 : decode cX4_stepBack 37 = .ok (.aload_n 0, 1) := by decide +kernel
theorem dX4_stepBack_38 : decode cX4_stepBack 38 = .ok (.iload_n 3, 1) := by decide +kernel
theorem dX4_stepBack_39 : decode cX4_stepBack 39 = .ok (.iconst 0, 1) := by decide +kernel
theorem dX4_stepBack_40 : decode cX4_stepBack 40 = .ok (.invokevirtual 59, 3) := by decide +kernel
theorem dX4_stepBack_43 : decode cX4_stepBack 43 = .ok (.ifCond .eq 23, 3) := by decide +kernel
theorem dX4_stepBack_46 : decode cX4_stepBack 46 = .ok (.aload_n 0, 1) := by decide +kernel
theorem dX4_stepBack_47 : decode cX4_stepBack 47 = .ok (.iload_n 1, 1) := by decide +kernel
theorem dX4_stepBack_48 : decode cX4_stepBack 48 = .ok (.iload 6, 2) := by decide +kernel
theorem dX4_stepBack_50 : decode cX4_stepBack 50 = .ok (.iload_n 3, 1) := by decide +kernel
theorem dX4_stepBack_51 : decode cX4_stepBack 51 = .ok (.invokestatic 53, 3) := by decide +kernel
theorem dX4_stepBack_54 : decode cX4_stepBack 54 = .ok (.iload 5, 2) := by decide +kernel
theorem dX4_stepBack_56 : decode cX4_stepBack 56 = .ok (.aload_n 0, 1) := by decide +kernel
theorem dX4_stepBack_57 : decode cX4_stepBack 57 = .ok (.getfield 22, 3) := by decide +kernel
theorem dX4_stepBack_60 : decode cX4_stepBack 60 = .ok (.iload 4, 2) := by decide +kernel
theorem dX4_stepBack_62 : decode cX4_stepBack 62 = .ok (.iaload, 1) := by decide +kernel
theorem dX4_stepBack_63 : decode cX4_stepBack 63 = .ok (.invokevirtual 67, 3) := by decide +kernel
theorem dX4_stepBack_66 : decode cX4_stepBack 66 = .ok (.iconst 1, 1) := by decide +kernel
theorem dX4_stepBack_67 : decode cX4_stepBack 67 = .ok (.istore 7, 2) := by decide +kernel
theorem dX4_stepBack_69 : decode cX4_stepBack 69 = .ok (.iload 7, 2) := by decide +kernel
theorem dX4_stepBack_71 : decode cX4_stepBack 71 = .ok (.iconst 4, 1) := by decide +kernel
theorem dX4_stepBack_72 : decode cX4_stepBack 72 = .ok (.if_icmp .ge 72, 3) := by decide +kernel
theorem dX4_stepBack_75 : decode cX4_stepBack 75 = .ok (.iload_n 3, 1) := by decide +kernel
theorem dX4_stepBack_76 : decode cX4_stepBack 76 = .ok (.iconst 1, 1) := by decide +kernel
theorem dX4_stepBack_77 : decode cX4_stepBack 77 = .ok (.if_icmp .ne 67, 3) := by decide +kernel
theorem dX4_stepBack_80 : decode cX4_stepBack 80 = .ok (.aload_n 0, 1) := by decide +kernel
theorem dX4_stepBack_81 : decode cX4_stepBack 81 = .ok (.iload_n 2, 1) := by decide +kernel
theorem dX4_stepBack_82 : decode cX4_stepBack 82 = .ok (.iload 7, 2) := by decide +kernel
theorem dX4_stepBack_84 : decode cX4_stepBack 84 = .ok (.invokestatic 75, 3) := by decide +kernel
theorem dX4_stepBack_87 : decode cX4_stepBack 87 = .ok (.invokevirtual 56, 3) := by decide +kernel
theorem dX4_stepBack_90 : decode cX4_stepBack 90 = .ok (.istore 8, 2) := by decide +kernel
theorem dX4_stepBack_92 : decode cX4_stepBack 92 = .ok (.iload 8, 2) := by decide +kernel
theorem dX4_stepBack_94 : decode cX4_stepBack 94 = .ok (.iconst (-1), 1) := by decide +kernel
theorem dX4_stepBack_95 : decode cX4_stepBack 95 = .ok (.if_icmp .eq 43, 3) := by decide +kernel
theorem dX4_stepBack_98 : decode cX4_stepBack 98 = .ok (.aload_n 0, 1) := by decide +kernel
theorem dX4_stepBack_99 : decode cX4_stepBack 99 = .ok (.iload_n 1, 1) := by decide +kernel
theorem dX4_stepBack_100 : decode cX4_stepBack 100 = .ok (.iload 8, 2) := by decide +kernel
theorem dX4_stepBack_102 : decode cX4_stepBack 102 = .ok (.iconst 0, 1) := by decide +kernel
theorem dX4_stepBack_103 : decode cX4_stepBack 103 = .ok (.invokestatic 53, 3) := by decide +kernel
theorem dX4_stepBack_106 : decode cX4_stepBack 106 = .ok (.iload 5, 2) := by decide +kernel
theorem dX4_stepBack_108 : decode cX4_stepBack 108 = .ok (.aload_n 0, 1) := by decide +kernel
theorem dX4_stepBack_109 : decode cX4_stepBack 109 = .ok (.getfield 22, 3) := by decide +kernel
theorem dX4_stepBack_112 : decode cX4_stepBack 112 = .ok (.iload 4, 2) := by decide +kernel
theorem dX4_stepBack_114 : decode cX4_stepBack 114 = .ok (.iaload, 1) := by decide +kernel
theorem dX4_stepBack_115 : decode cX4_stepBack 115 = .ok (.invokevirtual 67, 3) := by decide +kernel
theorem dX4_stepBack_118 : decode cX4_stepBack 118 = .ok (.aload_n 0, 1) := by decide +kernel
theorem dX4_stepBack_119 : decode cX4_stepBack 119 = .ok (.iload_n 1, 1) := by decide +kernel
theorem dX4_stepBack_120 : decode cX4_stepBack 120 = .ok (.iload 8, 2) := by decide +kernel
theorem dX4_stepBack_122 : decode cX4_stepBack 122 = .ok (.iconst 1, 1) := by decide +kernel
theorem dX4_stepBack_123 : decode cX4_stepBack 123 = .ok (.invokestatic 53, 3) := by decide +kernel
theorem dX4_stepBack_126 : decode cX4_stepBack 126 = .ok (.iload 5, 2) := by decide +kernel
theorem dX4_stepBack_128 : decode cX4_stepBack 128 = .ok (.aload_n 0, 1) := by decide +kernel
theorem dX4_stepBack_129 : decode cX4_stepBack 129 = .ok (.getfield 22, 3) := by decide +kernel
theorem dX4_stepBack_132 : decode cX4_stepBack 132 = .ok (.iload 4, 2) := by decide +kernel
theorem dX4_stepBack_134 : decode cX4_stepBack 134 = .ok (.iaload, 1) := by decide +kernel
theorem dX4_stepBack_135 : decode cX4_stepBack 135 = .ok (.invokevirtual 67, 3) := by decide +kernel
theorem dX4_stepBack_138 : decode cX4_stepBack 138 = .ok (.iinc 7 1, 3) := by decide +kernel
theorem dX4_stepBack_141 : decode cX4_stepBack 141 = .ok (.goto (-72), 3) := by decide +kernel
theorem dX4_stepBack_144 : decode cX4_stepBack 144 = .ok (.return_, 1) := by decide +kernel
theorem dX4_opposite_0 : decode cX4_opposite 0 = .ok (.iload_n 0, 1) := by decide +kernel
theorem dX4_opposite_1 : decode cX4_opposite 1 = .ok (.tableswitch 33 0 2 #[27, 29, 31], 27) := by decide +kernel
theorem dX4_opposite_28 : decode cX4_opposite 28 = .ok (.iconst 1, 1) := by decide +kernel
theorem dX4_opposite_29 : decode cX4_opposite 29 = .ok (.ireturn, 1) := by decide +kernel
theorem dX4_opposite_30 : decode cX4_opposite 30 = .ok (.iconst 0, 1) := by decide +kernel
theorem dX4_opposite_31 : decode cX4_opposite 31 = .ok (.ireturn, 1) := by decide +kernel
theorem dX4_opposite_32 : decode cX4_opposite 32 = .ok (.iconst 3, 1) := by decide +kernel
theorem dX4_opposite_33 : decode cX4_opposite 33 = .ok (.ireturn, 1) := by decide +kernel
theorem dX4_opposite_34 : decode cX4_opposite 34 = .ok (.iconst 2, 1) := by decide +kernel
theorem dX4_opposite_35 : decode cX4_opposite 35 = .ok (.ireturn, 1) := by decide +kernel
theorem dX4_reach_0 : decode cX4_reach 0 = .ok (.aload_n 0, 1) := by decide +kernel
theorem dX4_reach_1 : decode cX4_reach 1 = .ok (.getfield 19, 3) := by decide +kernel
theorem dX4_reach_4 : decode cX4_reach 4 = .ok (.iload_n 1, 1) := by decide +kernel
theorem dX4_reach_5 : decode cX4_reach 5 = .ok (.bipush 50, 2) := by decide +kernel
theorem dX4_reach_7 : decode cX4_reach 7 = .ok (.imul, 1) := by decide +kernel
theorem dX4_reach_8 : decode cX4_reach 8 = .ok (.iload_n 2, 1) := by decide +kernel
theorem dX4_reach_9 : decode cX4_reach 9 = .ok (.iadd, 1) := by decide +kernel
theorem dX4_reach_10 : decode cX4_reach 10 = .ok (.iaload, 1) := by decide +kernel
theorem dX4_reach_11 : decode cX4_reach 11 = .ok (.istore 5, 2) := by decide +kernel
theorem dX4_reach_13 : decode cX4_reach 13 = .ok (.iload 5, 2) := by decide +kernel
theorem dX4_reach_15 : decode cX4_reach 15 = .ok (.sipush 1000, 3) := by decide +kernel
theorem dX4_reach_18 : decode cX4_reach 18 = .ok (.if_icmp .ne 44, 3) := by decide +kernel
theorem dX4_reach_21 : decode cX4_reach 21 = .ok (.aload_n 0, 1) := by decide +kernel
theorem dX4_reach_22 : decode cX4_reach 22 = .ok (.getfield 28, 3) := by decide +kernel
theorem dX4_reach_25 : decode cX4_reach 25 = .ok (.bipush 50, 2) := by decide +kernel
theorem dX4_reach_27 : decode cX4_reach 27 = .ok (.if_icmp .ge 35, 3) := by decide +kernel
theorem dX4_reach_30 : decode cX4_reach 30 = .ok (.aload_n 0, 1) := by decide +kernel
theorem dX4_reach_31 : decode cX4_reach 31 = .ok (.getfield 19, 3) := by decide +kernel
theorem dX4_reach_34 : decode cX4_reach 34 = .ok (.iload_n 1, 1) := by decide +kernel
theorem dX4_reach_35 : decode cX4_reach 35 = .ok (.bipush 50, 2) := by decide +kernel
theorem dX4_reach_37 : decode cX4_reach 37 = .ok (.imul, 1) := by decide +kernel
theorem dX4_reach_38 : decode cX4_reach 38 = .ok (.iload_n 2, 1) := by decide +kernel
theorem dX4_reach_39 : decode cX4_reach 39 = .ok (.iadd, 1) := by decide +kernel
theorem dX4_reach_40 : decode cX4_reach 40 = .ok (.iload_n 3, 1) := by decide +kernel
theorem dX4_reach_41 : decode cX4_reach 41 = .ok (.iastore, 1) := by decide +kernel
theorem dX4_reach_42 : decode cX4_reach 42 = .ok (.aload_n 0, 1) := by decide +kernel
theorem dX4_reach_43 : decode cX4_reach 43 = .ok (.getfield 25, 3) := by decide +kernel
theorem dX4_reach_46 : decode cX4_reach 46 = .ok (.aload_n 0, 1) := by decide +kernel
theorem dX4_reach_47 : decode cX4_reach 47 = .ok (.getfield 28, 3) := by decide +kernel
theorem dX4_reach_50 : decode cX4_reach 50 = .ok (.iload_n 2, 1) := by decide +kernel
theorem dX4_reach_51 : decode cX4_reach 51 = .ok (.iastore, 1) := by decide +kernel
theorem dX4_reach_52 : decode cX4_reach 52 = .ok (.aload_n 0, 1) := by decide +kernel
theorem dX4_reach_53 : decode cX4_reach 53 = .ok (.dup, 1) := by decide +kernel
theorem dX4_reach_54 : decode cX4_reach 54 = .ok (.getfield 28, 3) := by decide +kernel
theorem dX4_reach_57 : decode cX4_reach 57 = .ok (.iconst 1, 1) := by decide +kernel
theorem dX4_reach_58 : decode cX4_reach 58 = .ok (.iadd, 1) := by decide +kernel
theorem dX4_reach_59 : decode cX4_reach 59 = .ok (.putfield 28, 3) := by decide +kernel
theorem dX4_reach_62 : decode cX4_reach 62 = .ok (.iload 5, 2) := by decide +kernel
theorem dX4_reach_64 : decode cX4_reach 64 = .ok (.iload_n 3, 1) := by decide +kernel
theorem dX4_reach_65 : decode cX4_reach 65 = .ok (.if_icmp .lt 14, 3) := by decide +kernel
theorem dX4_reach_68 : decode cX4_reach 68 = .ok (.aload_n 0, 1) := by decide +kernel
theorem dX4_reach_69 : decode cX4_reach 69 = .ok (.getfield 22, 3) := by decide +kernel
theorem dX4_reach_72 : decode cX4_reach 72 = .ok (.iload_n 2, 1) := by decide +kernel
theorem dX4_reach_73 : decode cX4_reach 73 = .ok (.dup2, 1) := by decide +kernel
theorem dX4_reach_74 : decode cX4_reach 74 = .ok (.iaload, 1) := by decide +kernel
theorem dX4_reach_75 : decode cX4_reach 75 = .ok (.iload 4, 2) := by decide +kernel
theorem dX4_reach_77 : decode cX4_reach 77 = .ok (.iadd, 1) := by decide +kernel
theorem dX4_reach_78 : decode cX4_reach 78 = .ok (.iastore, 1) := by decide +kernel
theorem dX4_reach_79 : decode cX4_reach 79 = .ok (.return_, 1) := by decide +kernel
theorem dX5_init_0 : decode cX5_init 0 = .ok (.aload_n 0, 1) := by decide +kernel
theorem dX5_init_1 : decode cX5_init 1 = .ok (.invokespecial 3, 3) := by decide +kernel
theorem dX5_init_4 : decode cX5_init 4 = .ok (.aload_n 0, 1) := by decide +kernel
theorem dX5_init_5 : decode cX5_init 5 = .ok (.iconst 3, 1) := by decide +kernel
theorem dX5_init_6 : decode cX5_init 6 = .ok (.newarray .int, 2) := by decide +kernel
theorem dX5_init_8 : decode cX5_init 8 = .ok (.dup, 1) := by decide +kernel
theorem dX5_init_9 : decode cX5_init 9 = .ok (.iconst 0, 1) := by decide +kernel
theorem dX5_init_10 : decode cX5_init 10 = .ok (.iconst 1, 1) := by decide +kernel
theorem dX5_init_11 : decode cX5_init 11 = .ok (.iastore, 1) := by decide +kernel
theorem dX5_init_12 : decode cX5_init 12 = .ok (.dup, 1) := by decide +kernel
theorem dX5_init_13 : decode cX5_init 13 = .ok (.iconst 1, 1) := by decide +kernel
theorem dX5_init_14 : decode cX5_init 14 = .ok (.iconst 0, 1) := by decide +kernel
theorem dX5_init_15 : decode cX5_init 15 = .ok (.iastore, 1) := by decide +kernel
theorem dX5_init_16 : decode cX5_init 16 = .ok (.dup, 1) := by decide +kernel
theorem dX5_init_17 : decode cX5_init 17 = .ok (.iconst 2, 1) := by decide +kernel
theorem dX5_init_18 : decode cX5_init 18 = .ok (.iconst 1, 1) := by decide +kernel
theorem dX5_init_19 : decode cX5_init 19 = .ok (.iastore, 1) := by decide +kernel
theorem dX5_init_20 : decode cX5_init 20 = .ok (.putfield 9, 3) := by decide +kernel
theorem dX5_init_23 : decode cX5_init 23 = .ok (.aload_n 0, 1) := by decide +kernel
theorem dX5_init_24 : decode cX5_init 24 = .ok (.new 15, 3) := by decide +kernel
theorem dX5_init_27 : decode cX5_init 27 = .ok (.dup, 1) := by decide +kernel
theorem dX5_init_28 : decode cX5_init 28 = .ok (.invokespecial 17, 3) := by decide +kernel
theorem dX5_init_31 : decode cX5_init 31 = .ok (.putfield 18, 3) := by decide +kernel
theorem dX5_init_34 : decode cX5_init 34 = .ok (.aload_n 0, 1) := by decide +kernel
theorem dX5_init_35 : decode cX5_init 35 = .ok (.new 22, 3) := by decide +kernel
theorem dX5_init_38 : decode cX5_init 38 = .ok (.dup, 1) := by decide +kernel
theorem dX5_init_39 : decode cX5_init 39 = .ok (.invokespecial 24, 3) := by decide +kernel
theorem dX5_init_42 : decode cX5_init 42 = .ok (.putfield 25, 3) := by decide +kernel
theorem dX5_init_45 : decode cX5_init 45 = .ok (.aload_n 0, 1) := by decide +kernel
theorem dX5_init_46 : decode cX5_init 46 = .ok (.bipush 25, 2) := by decide +kernel
theorem dX5_init_48 : decode cX5_init 48 = .ok (.newarray .int, 2) := by decide +kernel
theorem dX5_init_50 : decode cX5_init 50 = .ok (.putfield 29, 3) := by decide +kernel
theorem dX5_init_53 : decode cX5_init 53 = .ok (.aload_n 0, 1) := by decide +kernel
theorem dX5_init_54 : decode cX5_init 54 = .ok (.bipush 100, 2) := by decide +kernel
theorem dX5_init_56 : decode cX5_init 56 = .ok (.newarray .int, 2) := by decide +kernel
theorem dX5_init_58 : decode cX5_init 58 = .ok (.putfield 32, 3) := by decide +kernel
theorem dX5_init_61 : decode cX5_init 61 = .ok (.aload_n 0, 1) := by decide +kernel
theorem dX5_init_62 : decode cX5_init 62 = .ok (.iconst 0, 1) := by decide +kernel
theorem dX5_init_63 : decode cX5_init 63 = .ok (.putfield 35, 3) := by decide +kernel
theorem dX5_init_66 : decode cX5_init 66 = .ok (.return_, 1) := by decide +kernel
theorem dX5_copyState_0 : decode cX5_copyState 0 = .ok (.aload_n 0, 1) := by decide +kernel
theorem dX5_copyState_1 : decode cX5_copyState 1 = .ok (.ifnull 7, 3) := by decide +kernel
theorem dX5_copyState_4 : decode cX5_copyState 4 = .ok (.aload_n 1, 1) := by decide +kernel
theorem dX5_copyState_5 : decode cX5_copyState 5 = .ok (.ifnonnull 4, 3) := by decide +kernel
theorem dX5_copyState_8 : decode cX5_copyState 8 = .ok (.return_, 1) := by decide +kernel
theorem dX5_copyState_9 : decode cX5_copyState 9 = .ok (.aload_n 0, 1) := by decide +kernel
theorem dX5_copyState_10 : decode cX5_copyState 10 = .ok (.getfield 9, 3) := by decide +kernel
theorem dX5_copyState_13 : decode cX5_copyState 13 = .ok (.iconst 0, 1) := by decide +kernel
theorem dX5_copyState_14 : decode cX5_copyState 14 = .ok (.aload_n 1, 1) := by decide +kernel
theorem dX5_copyState_15 : decode cX5_copyState 15 = .ok (.getfield 9, 3) := by decide +kernel
theorem dX5_copyState_18 : decode cX5_copyState 18 = .ok (.iconst 0, 1) := by decide +kernel
theorem dX5_copyState_19 : decode cX5_copyState 19 = .ok (.iconst 3, 1) := by decide +kernel
theorem dX5_copyState_20 : decode cX5_copyState 20 = .ok (.invokestatic 39, 3) := by decide +kernel
theorem dX5_copyState_23 : decode cX5_copyState 23 = .ok (.aload_n 1, 1) := by decide +kernel
theorem dX5_copyState_24 : decode cX5_copyState 24 = .ok (.getfield 18, 3) := by decide +kernel
theorem dX5_copyState_27 : decode cX5_copyState 27 = .ok (.aload_n 0, 1) := by decide +kernel
theorem dX5_copyState_28 : decode cX5_copyState 28 = .ok (.getfield 18, 3) := by decide +kernel
theorem dX5_copyState_31 : decode cX5_copyState 31 = .ok (.invokevirtual 45, 3) := by decide +kernel
theorem dX5_copyState_34 : decode cX5_copyState 34 = .ok (.aload_n 1, 1) := by decide +kernel
theorem dX5_copyState_35 : decode cX5_copyState 35 = .ok (.getfield 25, 3) := by decide +kernel
theorem dX5_copyState_38 : decode cX5_copyState 38 = .ok (.aload_n 0, 1) := by decide +kernel
theorem dX5_copyState_39 : decode cX5_copyState 39 = .ok (.getfield 25, 3) := by decide +kernel
theorem dX5_copyState_42 : decode cX5_copyState 42 = .ok (.invokevirtual 49, 3) := by decide +kernel
theorem dX5_copyState_45 : decode cX5_copyState 45 = .ok (.aload_n 0, 1) := by decide +kernel
theorem dX5_copyState_46 : decode cX5_copyState 46 = .ok (.getfield 29, 3) := by decide +kernel
theorem dX5_copyState_49 : decode cX5_copyState 49 = .ok (.iconst 0, 1) := by decide +kernel
theorem dX5_copyState_50 : decode cX5_copyState 50 = .ok (.aload_n 1, 1) := by decide +kernel
theorem dX5_copyState_51 : decode cX5_copyState 51 = .ok (.getfield 29, 3) := by decide +kernel
theorem dX5_copyState_54 : decode cX5_copyState 54 = .ok (.iconst 0, 1) := by decide +kernel
theorem dX5_copyState_55 : decode cX5_copyState 55 = .ok (.bipush 25, 2) := by decide +kernel
theorem dX5_copyState_57 : decode cX5_copyState 57 = .ok (.invokestatic 39, 3) := by decide +kernel
theorem dX5_copyState_60 : decode cX5_copyState 60 = .ok (.aload_n 0, 1) := by decide +kernel
theorem dX5_copyState_61 : decode cX5_copyState 61 = .ok (.getfield 32, 3) := by decide +kernel
theorem dX5_copyState_64 : decode cX5_copyState 64 = .ok (.iconst 0, 1) := by decide +kernel
theorem dX5_copyState_65 : decode cX5_copyState 65 = .ok (.aload_n 1, 1) := by decide +kernel
theorem dX5_copyState_66 : decode cX5_copyState 66 = .ok (.getfield 32, 3) := by decide +kernel
theorem dX5_copyState_69 : decode cX5_copyState 69 = .ok (.iconst 0, 1) := by decide +kernel
theorem dX5_copyState_70 : decode cX5_copyState 70 = .ok (.bipush 100, 2) := by decide +kernel
theorem dX5_copyState_72 : decode cX5_copyState 72 = .ok (.invokestatic 39, 3) := by decide +kernel
theorem dX5_copyState_75 : decode cX5_copyState 75 = .ok (.aload_n 1, 1) := by decide +kernel
theorem dX5_copyState_76 : decode cX5_copyState 76 = .ok (.aload_n 0, 1) := by decide +kernel
theorem dX5_copyState_77 : decode cX5_copyState 77 = .ok (.getfield 35, 3) := by decide +kernel
theorem dX5_copyState_80 : decode cX5_copyState 80 = .ok (.putfield 35, 3) := by decide +kernel
theorem dX5_copyState_83 : decode cX5_copyState 83 = .ok (.return_, 1) := by decide +kernel
theorem dX5_hasRoom_0 : decode cX5_hasRoom 0 = .ok (.iload_n 1, 1) := by decide +kernel
theorem dX5_hasRoom_1 : decode cX5_hasRoom 1 = .ok (.ifCond .lt 31, 3) := by decide +kernel
theorem dX5_hasRoom_4 : decode cX5_hasRoom 4 = .ok (.iload_n 1, 1) := by decide +kernel
theorem dX5_hasRoom_5 : decode cX5_hasRoom 5 = .ok (.aload_n 0, 1) := by decide +kernel
theorem dX5_hasRoom_6 : decode cX5_hasRoom 6 = .ok (.getfield 29, 3) := by decide +kernel
theorem dX5_hasRoom_9 : decode cX5_hasRoom 9 = .ok (.arraylength, 1) := by decide +kernel
theorem dX5_hasRoom_10 : decode cX5_hasRoom 10 = .ok (.if_icmp .ge 22, 3) := by decide +kernel
theorem dX5_hasRoom_13 : decode cX5_hasRoom 13 = .ok (.aload_n 0, 1) := by decide +kernel
theorem dX5_hasRoom_14 : decode cX5_hasRoom 14 = .ok (.getfield 29, 3) := by decide +kernel
theorem dX5_hasRoom_17 : decode cX5_hasRoom 17 = .ok (.iload_n 1, 1) := by decide +kernel
theorem dX5_hasRoom_18 : decode cX5_hasRoom 18 = .ok (.iaload, 1) := by decide +kernel
theorem dX5_hasRoom_19 : decode cX5_hasRoom 19 = .ok (.aload_n 0, 1) := by decide +kernel
theorem dX5_hasRoom_20 : decode cX5_hasRoom 20 = .ok (.getfield 9, 3) := by decide +kernel
theorem dX5_hasRoom_23 : decode cX5_hasRoom 23 = .ok (.iconst 2, 1) := by decide +kernel
theorem dX5_hasRoom_24 : decode cX5_hasRoom 24 = .ok (.iaload, 1) := by decide +kernel
theorem dX5_hasRoom_25 : decode cX5_hasRoom 25 = .ok (.if_icmp .ge 7, 3) := by decide +kernel
theorem dX5_hasRoom_28 : decode cX5_hasRoom 28 = .ok (.iconst 1, 1) := by decide +kernel
theorem dX5_hasRoom_29 : decode cX5_hasRoom 29 = .ok (.goto 4, 3) := by decide +kernel
theorem dX5_hasRoom_32 : decode cX5_hasRoom 32 = .ok (.iconst 0, 1) := by decide +kernel
theorem dX5_hasRoom_33 : decode cX5_hasRoom 33 = .ok (.ireturn, 1) := by decide +kernel
theorem dX5_wayLength_0 : decode cX5_wayLength 0 = .ok (.aload_n 1, 1) := by decide +kernel
theorem dX5_wayLength_1 : decode cX5_wayLength 1 = .ok (.iload_n 2, 1) := by decide +kernel
theorem dX5_wayLength_2 : decode cX5_wayLength 2 = .ok (.iconst 0, 1) := by decide +kernel
theorem dX5_wayLength_3 : decode cX5_wayLength 3 = .ok (.iload_n 3, 1) := by decide +kernel
theorem dX5_wayLength_4 : decode cX5_wayLength 4 = .ok (.invokevirtual 53, 3) := by decide +kernel
theorem dX5_wayLength_7 : decode cX5_wayLength 7 = .ok (.istore 4, 2) := by decide +kernel
theorem dX5_wayLength_9 : decode cX5_wayLength 9 = .ok (.iload 4, 2) := by decide +kernel
theorem dX5_wayLength_11 : decode cX5_wayLength 11 = .ok (.aload_n 0, 1) := by decide +kernel
theorem dX5_wayLength_12 : decode cX5_wayLength 12 = .ok (.getfield 18, 3) := by decide +kernel
theorem dX5_wayLength_15 : decode cX5_wayLength 15 = .ok (.iload_n 2, 1) := by decide +kernel
theorem dX5_wayLength_16 : decode cX5_wayLength 16 = .ok (.iload_n 3, 1) := by decide +kernel
theorem dX5_wayLength_17 : decode cX5_wayLength 17 = .ok (.invokevirtual 59, 3) := by decide +kernel
theorem dX5_wayLength_20 : decode cX5_wayLength 20 = .ok (.iconst 2, 1) := by decide +kernel
theorem dX5_wayLength_21 : decode cX5_wayLength 21 = .ok (.aload_n 0, 1) := by decide +kernel
theorem dX5_wayLength_22 : decode cX5_wayLength 22 = .ok (.getfield 9, 3) := by decide +kernel
theorem dX5_wayLength_25 : decode cX5_wayLength 25 = .ok (.iconst 1, 1) := by decide +kernel
theorem dX5_wayLength_26 : decode cX5_wayLength 26 = .ok (.iaload, 1) := by decide +kernel
theorem dX5_wayLength_27 : decode cX5_wayLength 27 = .ok (.imul, 1) := by decide +kernel
theorem dX5_wayLength_28 : decode cX5_wayLength 28 = .ok (.iadd, 1) := by decide +kernel
theorem dX5_wayLength_29 : decode cX5_wayLength 29 = .ok (.if_icmp .gt 8, 3) := by decide +kernel
theorem dX5_wayLength_32 : decode cX5_wayLength 32 = .ok (.iload 4, 2) := by decide +kernel
theorem dX5_wayLength_34 : decode cX5_wayLength 34 = .ok (.goto 5, 3) := by decide +kernel
theorem dX5_wayLength_37 : decode cX5_wayLength 37 = .ok (.bipush (-6), 2) := by decide +kernel
theorem dX5_wayLength_39 : decode cX5_wayLength 39 = .ok (.ireturn, 1) := by decide +kernel
theorem dX5_wayLengthOf_0 : decode cX5_wayLengthOf 0 = .ok (.aload_n 1, 1) := by decide +kernel
theorem dX5_wayLengthOf_1 : decode cX5_wayLengthOf 1 = .ok (.aload_n 0, 1) := by decide +kernel
theorem dX5_wayLengthOf_2 : decode cX5_wayLengthOf 2 = .ok (.getfield 25, 3) := by decide +kernel
theorem dX5_wayLengthOf_5 : decode cX5_wayLengthOf 5 = .ok (.getfield 63, 3) := by decide +kernel
theorem dX5_wayLengthOf_8 : decode cX5_wayLengthOf 8 = .ok (.iload_n 2, 1) := by decide +kernel
theorem dX5_wayLengthOf_9 : decode cX5_wayLengthOf 9 = .ok (.iaload, 1) := by decide +kernel
theorem dX5_wayLengthOf_10 : decode cX5_wayLengthOf 10 = .ok (.aload_n 0, 1) := by decide +kernel
theorem dX5_wayLengthOf_11 : decode cX5_wayLengthOf 11 = .ok (.getfield 25, 3) := by decide +kernel
theorem dX5_wayLengthOf_14 : decode cX5_wayLengthOf 14 = .ok (.getfield 66, 3) := by decide +kernel
theorem dX5_wayLengthOf_17 : decode cX5_wayLengthOf 17 = .ok (.iload_n 2, 1) := by decide +kernel
theorem dX5_wayLengthOf_18 : decode cX5_wayLengthOf 18 = .ok (.iaload, 1) := by decide +kernel
theorem dX5_wayLengthOf_19 : decode cX5_wayLengthOf 19 = .ok (.aload_n 0, 1) := by decide +kernel
theorem dX5_wayLengthOf_20 : decode cX5_wayLengthOf 20 = .ok (.getfield 25, 3) := by decide +kernel
theorem dX5_wayLengthOf_23 : decode cX5_wayLengthOf 23 = .ok (.getfield 69, 3) := by decide +kernel
theorem dX5_wayLengthOf_26 : decode cX5_wayLengthOf 26 = .ok (.iload_n 2, 1) := by decide +kernel
theorem dX5_wayLengthOf_27 : decode cX5_wayLengthOf 27 = .ok (.iaload, 1) := by decide +kernel
theorem dX5_wayLengthOf_28 : decode cX5_wayLengthOf 28 = .ok (.invokevirtual 53, 3) := by decide +kernel
theorem dX5_wayLengthOf_31 : decode cX5_wayLengthOf 31 = .ok (.istore_n 3, 1) := by decide +kernel
theorem dX5_wayLengthOf_32 : decode cX5_wayLengthOf 32 = .ok (.iload_n 3, 1) := by decide +kernel
theorem dX5_wayLengthOf_33 : decode cX5_wayLengthOf 33 = .ok (.aload_n 0, 1) := by decide +kernel
theorem dX5_wayLengthOf_34 : decode cX5_wayLengthOf 34 = .ok (.iload_n 2, 1) := by decide +kernel
theorem dX5_wayLengthOf_35 : decode cX5_wayLengthOf 35 = .ok (.invokevirtual 72, 3) := by decide +kernel
theorem dX5_wayLengthOf_38 : decode cX5_wayLengthOf 38 = .ok (.if_icmp .gt 7, 3) := by decide +kernel
theorem dX5_wayLengthOf_41 : decode cX5_wayLengthOf 41 = .ok (.iload_n 3, 1) := by decide +kernel
theorem dX5_wayLengthOf_42 : decode cX5_wayLengthOf 42 = .ok (.goto 5, 3) := by decide +kernel
theorem dX5_wayLengthOf_45 : decode cX5_wayLengthOf 45 = .ok (.bipush (-6), 2) := by decide +kernel
theorem dX5_wayLengthOf_47 : decode cX5_wayLengthOf 47 = .ok (.ireturn, 1) := by decide +kernel
theorem dX5_mostMoves_0 : decode cX5_mostMoves 0 = .ok (.iconst 0, 1) := by decide +kernel
theorem dX5_mostMoves_1 : decode cX5_mostMoves 1 = .ok (.aload_n 0, 1) := by decide +kernel
theorem dX5_mostMoves_2 : decode cX5_mostMoves 2 = .ok (.getfield 9, 3) := by decide +kernel
theorem dX5_mostMoves_5 : decode cX5_mostMoves 5 = .ok (.iconst 1, 1) := by decide +kernel
theorem dX5_mostMoves_6 : decode cX5_mostMoves 6 = .ok (.iaload, 1) := by decide +kernel
theorem dX5_mostMoves_7 : decode cX5_mostMoves 7 = .ok (.aload_n 0, 1) := by decide +kernel
theorem dX5_mostMoves_8 : decode cX5_mostMoves 8 = .ok (.getfield 25, 3) := by decide +kernel
theorem dX5_mostMoves_11 : decode cX5_mostMoves 11 = .ok (.getfield 76, 3) := by decide +kernel
theorem dX5_mostMoves_14 : decode cX5_mostMoves 14 = .ok (.iload_n 1, 1) := by decide +kernel
theorem dX5_mostMoves_15 : decode cX5_mostMoves 15 = .ok (.iaload, 1) := by decide +kernel
theorem dX5_mostMoves_16 : decode cX5_mostMoves 16 = .ok (.isub, 1) := by decide +kernel
theorem dX5_mostMoves_17 : decode cX5_mostMoves 17 = .ok (.invokestatic 79, 3) := by decide +kernel
theorem dX5_mostMoves_20 : decode cX5_mostMoves 20 = .ok (.istore_n 2, 1) := by decide +kernel
theorem dX5_mostMoves_21 : decode cX5_mostMoves 21 = .ok (.aload_n 0, 1) := by decide +kernel
theorem dX5_mostMoves_22 : decode cX5_mostMoves 22 = .ok (.getfield 18, 3) := by decide +kernel
theorem dX5_mostMoves_25 : decode cX5_mostMoves 25 = .ok (.aload_n 0, 1) := by decide +kernel
theorem dX5_mostMoves_26 : decode cX5_mostMoves 26 = .ok (.getfield 25, 3) := by decide +kernel
theorem dX5_mostMoves_29 : decode cX5_mostMoves 29 = .ok (.getfield 63, 3) := by decide +kernel
theorem dX5_mostMoves_32 : decode cX5_mostMoves 32 = .ok (.iload_n 1, 1) := by decide +kernel
theorem dX5_mostMoves_33 : decode cX5_mostMoves 33 = .ok (.iaload, 1) := by decide +kernel
theorem dX5_mostMoves_34 : decode cX5_mostMoves 34 = .ok (.aload_n 0, 1) := by decide +kernel
theorem dX5_mostMoves_35 : decode cX5_mostMoves 35 = .ok (.getfield 25, 3) := by decide +kernel
theorem dX5_mostMoves_38 : decode cX5_mostMoves 38 = .ok (.getfield 69, 3) := by decide +kernel
theorem dX5_mostMoves_41 : decode cX5_mostMoves 41 = .ok (.iload_n 1, 1) := by decide +kernel
theorem dX5_mostMoves_42 : decode cX5_mostMoves 42 = .ok (.iaload, 1) := by decide +kernel
theorem dX5_mostMoves_43 : decode cX5_mostMoves 43 = .ok (.invokevirtual 59, 3) := by decide +kernel
theorem dX5_mostMoves_46 : decode cX5_mostMoves 46 = .ok (.iconst 2, 1) := by decide +kernel
theorem dX5_mostMoves_47 : decode cX5_mostMoves 47 = .ok (.iload_n 2, 1) := by decide +kernel
theorem dX5_mostMoves_48 : decode cX5_mostMoves 48 = .ok (.imul, 1) := by decide +kernel
theorem dX5_mostMoves_49 : decode cX5_mostMoves 49 = .ok (.iadd, 1) := by decide +kernel
theorem dX5_mostMoves_50 : decode cX5_mostMoves 50 = .ok (.ireturn, 1) := by decide +kernel
theorem dX5_isPossible_0 : decode cX5_isPossible 0 = .ok (.aload_n 1, 1) := by decide +kernel
theorem dX5_isPossible_1 : decode cX5_isPossible 1 = .ok (.aload_n 0, 1) := by decide +kernel
theorem dX5_isPossible_2 : decode cX5_isPossible 2 = .ok (.getfield 25, 3) := by decide +kernel
theorem dX5_isPossible_5 : decode cX5_isPossible 5 = .ok (.getfield 63, 3) := by decide +kernel
theorem dX5_isPossible_8 : decode cX5_isPossible 8 = .ok (.iload_n 2, 1) := by decide +kernel
theorem dX5_isPossible_9 : decode cX5_isPossible 9 = .ok (.iaload, 1) := by decide +kernel
theorem dX5_isPossible_10 : decode cX5_isPossible 10 = .ok (.aload_n 0, 1) := by decide +kernel
theorem dX5_isPossible_11 : decode cX5_isPossible 11 = .ok (.getfield 25, 3) := by decide +kernel
theorem dX5_isPossible_14 : decode cX5_isPossible 14 = .ok (.getfield 66, 3) := by decide +kernel
theorem dX5_isPossible_17 : decode cX5_isPossible 17 = .ok (.iload_n 2, 1) := by decide +kernel
theorem dX5_isPossible_18 : decode cX5_isPossible 18 = .ok (.iaload, 1) := by decide +kernel
theorem dX5_isPossible_19 : decode cX5_isPossible 19 = .ok (.iload_n 3, 1) := by decide +kernel
theorem dX5_isPossible_20 : decode cX5_isPossible 20 = .ok (.aload_n 0, 1) := by decide +kernel
theorem dX5_isPossible_21 : decode cX5_isPossible 21 = .ok (.getfield 25, 3) := by decide +kernel
theorem dX5_isPossible_24 : decode cX5_isPossible 24 = .ok (.getfield 69, 3) := by decide +kernel
theorem dX5_isPossible_27 : decode cX5_isPossible 27 = .ok (.iload_n 2, 1) := by decide +kernel
theorem dX5_isPossible_28 : decode cX5_isPossible 28 = .ok (.iaload, 1) := by decide +kernel
theorem dX5_isPossible_29 : decode cX5_isPossible 29 = .ok (.invokevirtual 84, 3) := by decide +kernel
theorem dX5_isPossible_32 : decode cX5_isPossible 32 = .ok (.aload_n 0, 1) := by decide +kernel
theorem dX5_isPossible_33 : decode cX5_isPossible 33 = .ok (.iload_n 2, 1) := by decide +kernel
theorem dX5_isPossible_34 : decode cX5_isPossible 34 = .ok (.invokevirtual 72, 3) := by decide +kernel
theorem dX5_isPossible_37 : decode cX5_isPossible 37 = .ok (.if_icmp .ge 7, 3) := by decide +kernel
theorem dX5_isPossible_40 : decode cX5_isPossible 40 = .ok (.iconst 1, 1) := by decide +kernel
theorem dX5_isPossible_41 : decode cX5_isPossible 41 = .ok (.goto 4, 3) := by decide +kernel
theorem dX5_isPossible_44 : decode cX5_isPossible 44 = .ok (.iconst 0, 1) := by decide +kernel
theorem dX5_isPossible_45 : decode cX5_isPossible 45 = .ok (.ireturn, 1) := by decide +kernel
theorem dX5_firstSide_0 : decode cX5_firstSide 0 = .ok (.bipush (-6), 2) := by decide +kernel
theorem dX5_firstSide_2 : decode cX5_firstSide 2 = .ok (.istore 4, 2) := by decide +kernel
theorem dX5_firstSide_4 : decode cX5_firstSide 4 = .ok (.aload_n 0, 1) := by decide +kernel
theorem dX5_firstSide_5 : decode cX5_firstSide 5 = .ok (.getfield 25, 3) := by decide +kernel
theorem dX5_firstSide_8 : decode cX5_firstSide 8 = .ok (.getfield 88, 3) := by decide +kernel
theorem dX5_firstSide_11 : decode cX5_firstSide 11 = .ok (.iload_n 2, 1) := by decide +kernel
theorem dX5_firstSide_12 : decode cX5_firstSide 12 = .ok (.iaload, 1) := by decide +kernel
theorem dX5_firstSide_13 : decode cX5_firstSide 13 = .ok (.iconst 2, 1) := by decide +kernel
theorem dX5_firstSide_14 : decode cX5_firstSide 14 = .ok (.if_icmp .ne 6, 3) := by decide +kernel
theorem dX5_firstSide_17 : decode cX5_firstSide 17 = .ok (.iload 4, 2) := by decide +kernel
theorem dX5_firstSide_19 : decode cX5_firstSide 19 = .ok (.ireturn, 1) := by decide +kernel
theorem dX5_firstSide_20 : decode cX5_firstSide 20 = .ok (.aload_n 0, 1) := by decide +kernel
theorem dX5_firstSide_21 : decode cX5_firstSide 21 = .ok (.getfield 25, 3) := by decide +kernel
theorem dX5_firstSide_24 : decode cX5_firstSide 24 = .ok (.getfield 63, 3) := by decide +kernel
theorem dX5_firstSide_27 : decode cX5_firstSide 27 = .ok (.iload_n 2, 1) := by decide +kernel
theorem dX5_firstSide_28 : decode cX5_firstSide 28 = .ok (.iaload, 1) := by decide +kernel
theorem dX5_firstSide_29 : decode cX5_firstSide 29 = .ok (.istore 5, 2) := by decide +kernel
theorem dX5_firstSide_31 : decode cX5_firstSide 31 = .ok (.aload_n 0, 1) := by decide +kernel
theorem dX5_firstSide_32 : decode cX5_firstSide 32 = .ok (.iload_n 2, 1) := by decide +kernel
theorem dX5_firstSide_33 : decode cX5_firstSide 33 = .ok (.invokevirtual 72, 3) := by decide +kernel
theorem dX5_firstSide_36 : decode cX5_firstSide 36 = .ok (.istore 6, 2) := by decide +kernel
theorem dX5_firstSide_38 : decode cX5_firstSide 38 = .ok (.iconst 0, 1) := by decide +kernel
theorem dX5_firstSide_39 : decode cX5_firstSide 39 = .ok (.istore 7, 2) := by decide +kernel
theorem dX5_firstSide_41 : decode cX5_firstSide 41 = .ok (.iload 7, 2) := by decide +kernel
theorem dX5_firstSide_43 : decode cX5_firstSide 43 = .ok (.iconst 4, 1) := by decide +kernel
theorem dX5_firstSide_44 : decode cX5_firstSide 44 = .ok (.if_icmp .ge 72, 3) := by decide +kernel
theorem dX5_firstSide_47 : decode cX5_firstSide 47 = .ok (.aload_n 1, 1) := by decide +kernel
theorem dX5_firstSide_48 : decode cX5_firstSide 48 = .ok (.iload 5, 2) := by decide +kernel
theorem dX5_firstSide_50 : decode cX5_firstSide 50 = .ok (.aload_n 0, 1) := by decide +kernel
theorem dX5_firstSide_51 : decode cX5_firstSide 51 = .ok (.getfield 25, 3) := by decide +kernel
theorem dX5_firstSide_54 : decode cX5_firstSide 54 = .ok (.getfield 66, 3) := by decide +kernel
theorem dX5_firstSide_57 : decode cX5_firstSide 57 = .ok (.iload_n 2, 1) := by decide +kernel
theorem dX5_firstSide_58 : decode cX5_firstSide 58 = .ok (.iaload, 1) := by decide +kernel
theorem dX5_firstSide_59 : decode cX5_firstSide 59 = .ok (.iload 7, 2) := by decide +kernel
theorem dX5_firstSide_61 : decode cX5_firstSide 61 = .ok (.aload_n 0, 1) := by decide +kernel
theorem dX5_firstSide_62 : decode cX5_firstSide 62 = .ok (.getfield 25, 3) := by decide +kernel
theorem dX5_firstSide_65 : decode cX5_firstSide 65 = .ok (.getfield 69, 3) := by decide +kernel
theorem dX5_firstSide_68 : decode cX5_firstSide 68 = .ok (.iload_n 2, 1) := by decide +kernel
theorem dX5_firstSide_69 : decode cX5_firstSide 69 = .ok (.iaload, 1) := by decide +kernel
theorem dX5_firstSide_70 : decode cX5_firstSide 70 = .ok (.invokevirtual 84, 3) := by decide +kernel
theorem dX5_firstSide_73 : decode cX5_firstSide 73 = .ok (.istore 8, 2) := by decide +kernel
theorem dX5_firstSide_75 : decode cX5_firstSide 75 = .ok (.iload 8, 2) := by decide +kernel
theorem dX5_firstSide_77 : decode cX5_firstSide 77 = .ok (.iload 6, 2) := by decide +kernel
theorem dX5_firstSide_79 : decode cX5_firstSide 79 = .ok (.if_icmp .ge 31, 3) := by decide +kernel
theorem dX5_firstSide_82 : decode cX5_firstSide 82 = .ok (.iload_n 3, 1) := by decide +kernel
theorem dX5_firstSide_83 : decode cX5_firstSide 83 = .ok (.ifCond .eq 19, 3) := by decide +kernel
theorem dX5_firstSide_86 : decode cX5_firstSide 86 = .ok (.aload_n 0, 1) := by decide +kernel
theorem dX5_firstSide_87 : decode cX5_firstSide 87 = .ok (.iload_n 2, 1) := by decide +kernel
theorem dX5_firstSide_88 : decode cX5_firstSide 88 = .ok (.aload_n 1, 1) := by decide +kernel
theorem dX5_firstSide_89 : decode cX5_firstSide 89 = .ok (.iload 5, 2) := by decide +kernel
theorem dX5_firstSide_91 : decode cX5_firstSide 91 = .ok (.iload 7, 2) := by decide +kernel
theorem dX5_firstSide_93 : decode cX5_firstSide 93 = .ok (.invokevirtual 91, 3) := by decide +kernel
theorem dX5_firstSide_96 : decode cX5_firstSide 96 = .ok (.invokevirtual 94, 3) := by decide +kernel
theorem dX5_firstSide_99 : decode cX5_firstSide 99 = .ok (.ifCond .eq 11, 3) := by decide +kernel
theorem dX5_firstSide_102 : decode cX5_firstSide 102 = .ok (.iload 7, 2) := by decide +kernel
theorem dX5_firstSide_104 : decode cX5_firstSide 104 = .ok (.istore 4, 2) := by decide +kernel
theorem dX5_firstSide_106 : decode cX5_firstSide 106 = .ok (.iload 8, 2) := by decide +kernel
theorem dX5_firstSide_108 : decode cX5_firstSide 108 = .ok (.istore 6, 2) := by decide +kernel
theorem dX5_firstSide_110 : decode cX5_firstSide 110 = .ok (.iinc 7 1, 3) := by decide +kernel
theorem dX5_firstSide_113 : decode cX5_firstSide 113 = .ok (.goto (-72), 3) := by decide +kernel
theorem dX5_firstSide_116 : decode cX5_firstSide 116 = .ok (.iload 4, 2) := by decide +kernel
theorem dX5_firstSide_118 : decode cX5_firstSide 118 = .ok (.ireturn, 1) := by decide +kernel
theorem dX5_letsIn_0 : decode cX5_letsIn 0 = .ok (.iload_n 2, 1) := by decide +kernel
theorem dX5_letsIn_1 : decode cX5_letsIn 1 = .ok (.aload_n 0, 1) := by decide +kernel
theorem dX5_letsIn_2 : decode cX5_letsIn 2 = .ok (.getfield 25, 3) := by decide +kernel
theorem dX5_letsIn_5 : decode cX5_letsIn 5 = .ok (.getfield 69, 3) := by decide +kernel
theorem dX5_letsIn_8 : decode cX5_letsIn 8 = .ok (.iload_n 1, 1) := by decide +kernel
theorem dX5_letsIn_9 : decode cX5_letsIn 9 = .ok (.iaload, 1) := by decide +kernel
theorem dX5_letsIn_10 : decode cX5_letsIn 10 = .ok (.if_icmp .eq 11, 3) := by decide +kernel
theorem dX5_letsIn_13 : decode cX5_letsIn 13 = .ok (.aload_n 0, 1) := by decide +kernel
theorem dX5_letsIn_14 : decode cX5_letsIn 14 = .ok (.iload_n 2, 1) := by decide +kernel
theorem dX5_letsIn_15 : decode cX5_letsIn 15 = .ok (.invokevirtual 98, 3) := by decide +kernel
theorem dX5_letsIn_18 : decode cX5_letsIn 18 = .ok (.ifCond .eq 7, 3) := by decide +kernel
theorem dX5_letsIn_21 : decode cX5_letsIn 21 = .ok (.iconst 1, 1) := by decide +kernel
theorem dX5_letsIn_22 : decode cX5_letsIn 22 = .ok (.goto 4, 3) := by decide +kernel
theorem dX5_letsIn_25 : decode cX5_letsIn 25 = .ok (.iconst 0, 1) := by decide +kernel
theorem dX5_letsIn_26 : decode cX5_letsIn 26 = .ok (.ireturn, 1) := by decide +kernel
theorem dX5_connectedPairs_0 : decode cX5_connectedPairs 0 = .ok (.iconst 0, 1) := by decide +kernel
theorem dX5_connectedPairs_1 : decode cX5_connectedPairs 1 = .ok (.istore_n 2, 1) := by decide +kernel
theorem dX5_connectedPairs_2 : decode cX5_connectedPairs 2 = .ok (.aload_n 0, 1) := by decide +kernel
theorem dX5_connectedPairs_3 : decode cX5_connectedPairs 3 = .ok (.getfield 18, 3) := by decide +kernel
theorem dX5_connectedPairs_6 : decode cX5_connectedPairs 6 = .ok (.invokevirtual 102, 3) := by decide +kernel
theorem dX5_connectedPairs_9 : decode cX5_connectedPairs 9 = .ok (.istore_n 3, 1) := by decide +kernel
theorem dX5_connectedPairs_10 : decode cX5_connectedPairs 10 = .ok (.iconst 0, 1) := by decide +kernel
theorem dX5_connectedPairs_11 : decode cX5_connectedPairs 11 = .ok (.istore 4, 2) := by decide +kernel
theorem dX5_connectedPairs_13 : decode cX5_connectedPairs 13 = .ok (.iload 4, 2) := by decide +kernel
theorem dX5_connectedPairs_15 : decode cX5_connectedPairs 15 = .ok (.iload_n 3, 1) := by decide +kernel
theorem dX5_connectedPairs_16 : decode cX5_connectedPairs 16 = .ok (.if_icmp .ge 48, 3) := by decide +kernel
theorem dX5_connectedPairs_19 : decode cX5_connectedPairs 19 = .ok (.iconst 0, 1) := by decide +kernel
theorem dX5_connectedPairs_20 : decode cX5_connectedPairs 20 = .ok (.istore 5, 2) := by decide +kernel
theorem dX5_connectedPairs_22 : decode cX5_connectedPairs 22 = .ok (.iload 5, 2) := by decide +kernel
theorem dX5_connectedPairs_24 : decode cX5_connectedPairs 24 = .ok (.iload_n 3, 1) := by decide +kernel
theorem dX5_connectedPairs_25 : decode cX5_connectedPairs 25 = .ok (.if_icmp .ge 33, 3) := by decide +kernel
theorem dX5_connectedPairs_28 : decode cX5_connectedPairs 28 = .ok (.iload 4, 2) := by decide +kernel
theorem dX5_connectedPairs_30 : decode cX5_connectedPairs 30 = .ok (.iload 5, 2) := by decide +kernel
theorem dX5_connectedPairs_32 : decode cX5_connectedPairs 32 = .ok (.if_icmp .eq 20, 3) := by decide +kernel
theorem dX5_connectedPairs_35 : decode cX5_connectedPairs 35 = .ok (.aload_n 0, 1) := by decide +kernel
theorem dX5_connectedPairs_36 : decode cX5_connectedPairs 36 = .ok (.aload_n 1, 1) := by decide +kernel
theorem dX5_connectedPairs_37 : decode cX5_connectedPairs 37 = .ok (.iload 4, 2) := by decide +kernel
theorem dX5_connectedPairs_39 : decode cX5_connectedPairs 39 = .ok (.iload 5, 2) := by decide +kernel
theorem dX5_connectedPairs_41 : decode cX5_connectedPairs 41 = .ok (.invokevirtual 106, 3) := by decide +kernel
theorem dX5_connectedPairs_44 : decode cX5_connectedPairs 44 = .ok (.bipush (-6), 2) := by decide +kernel
theorem dX5_connectedPairs_46 : decode cX5_connectedPairs 46 = .ok (.if_icmp .eq 6, 3) := by decide +kernel
theorem dX5_connectedPairs_49 : decode cX5_connectedPairs 49 = .ok (.iinc 2 1, 3) := by decide +kernel
theorem dX5_connectedPairs_52 : decode cX5_connectedPairs 52 = .ok (.iinc 5 1, 3) := by decide +kernel
theorem dX5_connectedPairs_55 : decode cX5_connectedPairs 55 = .ok (.goto (-33), 3) := by decide +kernel
theorem dX5_connectedPairs_58 : decode cX5_connectedPairs 58 = .ok (.iinc 4 1, 3) := by decide +kernel
theorem dX5_connectedPairs_61 : decode cX5_connectedPairs 61 = .ok (.goto (-48), 3) := by decide +kernel
theorem dX5_connectedPairs_64 : decode cX5_connectedPairs 64 = .ok (.iload_n 2, 1) := by decide +kernel
theorem dX5_connectedPairs_65 : decode cX5_connectedPairs 65 = .ok (.ireturn, 1) := by decide +kernel
theorem dX5_passTicks_0 : decode cX5_passTicks 0 = .ok (.iconst 0, 1) := by decide +kernel
theorem dX5_passTicks_1 : decode cX5_passTicks 1 = .ok (.istore_n 3, 1) := by decide +kernel
theorem dX5_passTicks_2 : decode cX5_passTicks 2 = .ok (.iload_n 3, 1) := by decide +kernel
theorem dX5_passTicks_3 : decode cX5_passTicks 3 = .ok (.iload_n 2, 1) := by decide +kernel
theorem dX5_passTicks_4 : decode cX5_passTicks 4 = .ok (.if_icmp .ge 108, 3) := by decide +kernel
theorem dX5_passTicks_7 : decode cX5_passTicks 7 = .ok (.iconst 0, 1) := by decide +kernel
theorem dX5_passTicks_8 : decode cX5_passTicks 8 = .ok (.istore 4, 2) := by decide +kernel
theorem dX5_passTicks_10 : decode cX5_passTicks 10 = .ok (.iload 4, 2) := by decide +kernel
theorem dX5_passTicks_12 : decode cX5_passTicks 12 = .ok (.aload_n 0, 1) := by decide +kernel
theorem dX5_passTicks_13 : decode cX5_passTicks 13 = .ok (.getfield 25, 3) := by decide +kernel
theorem dX5_passTicks_16 : decode cX5_passTicks 16 = .ok (.getfield 110, 3) := by decide +kernel
theorem dX5_passTicks_19 : decode cX5_passTicks 19 = .ok (.if_icmp .ge 77, 3) := by decide +kernel
theorem dX5_passTicks_22 : decode cX5_passTicks 22 = .ok (.aload_n 0, 1) := by decide +kernel
theorem dX5_passTicks_23 : decode cX5_passTicks 23 = .ok (.getfield 25, 3) := by decide +kernel
theorem dX5_passTicks_26 : decode cX5_passTicks 26 = .ok (.getfield 88, 3) := by decide +kernel
theorem dX5_passTicks_29 : decode cX5_passTicks 29 = .ok (.iload 4, 2) := by decide +kernel
theorem dX5_passTicks_31 : decode cX5_passTicks 31 = .ok (.iaload, 1) := by decide +kernel
theorem dX5_passTicks_32 : decode cX5_passTicks 32 = .ok (.istore 5, 2) := by decide +kernel
theorem dX5_passTicks_34 : decode cX5_passTicks 34 = .ok (.iload 5, 2) := by decide +kernel
theorem dX5_passTicks_36 : decode cX5_passTicks 36 = .ok (.ifCond .ne 12, 3) := by decide +kernel
theorem dX5_passTicks_39 : decode cX5_passTicks 39 = .ok (.aload_n 0, 1) := by decide +kernel
theorem dX5_passTicks_40 : decode cX5_passTicks 40 = .ok (.iload 4, 2) := by decide +kernel
theorem dX5_passTicks_42 : decode cX5_passTicks 42 = .ok (.invokevirtual 113, 3) := by decide +kernel
theorem dX5_passTicks_45 : decode cX5_passTicks 45 = .ok (.ifCond .eq 19, 3) := by decide +kernel
theorem dX5_passTicks_48 : decode cX5_passTicks 48 = .ok (.iload 5, 2) := by decide +kernel
theorem dX5_passTicks_50 : decode cX5_passTicks 50 = .ok (.iconst 1, 1) := by decide +kernel
theorem dX5_passTicks_51 : decode cX5_passTicks 51 = .ok (.if_icmp .ne 17, 3) := by decide +kernel
theorem dX5_passTicks_54 : decode cX5_passTicks 54 = .ok (.aload_n 0, 1) := by decide +kernel
theorem dX5_passTicks_55 : decode cX5_passTicks 55 = .ok (.aload_n 1, 1) := by decide +kernel
theorem dX5_passTicks_56 : decode cX5_passTicks 56 = .ok (.iload 4, 2) := by decide +kernel
theorem dX5_passTicks_58 : decode cX5_passTicks 58 = .ok (.invokevirtual 116, 3) := by decide +kernel
theorem dX5_passTicks_61 : decode cX5_passTicks 61 = .ok (.ifCond .ne 7, 3) := by decide +kernel
theorem dX5_passTicks_64 : decode cX5_passTicks 64 = .ok (.iconst 1, 1) := by decide +kernel
theorem dX5_passTicks_65 : decode cX5_passTicks 65 = .ok (.goto 4, 3) := by decide +kernel
theorem dX5_passTicks_68 : decode cX5_passTicks 68 = .ok (.iconst 0, 1) := by decide +kernel
theorem dX5_passTicks_69 : decode cX5_passTicks 69 = .ok (.istore 6, 2) := by decide +kernel
theorem dX5_passTicks_71 : decode cX5_passTicks 71 = .ok (.iload 6, 2) := by decide +kernel
theorem dX5_passTicks_73 : decode cX5_passTicks 73 = .ok (.ifCond .eq 17, 3) := by decide +kernel
theorem dX5_passTicks_76 : decode cX5_passTicks 76 = .ok (.aload_n 0, 1) := by decide +kernel
theorem dX5_passTicks_77 : decode cX5_passTicks 77 = .ok (.getfield 25, 3) := by decide +kernel
theorem dX5_passTicks_80 : decode cX5_passTicks 80 = .ok (.getfield 120, 3) := by decide +kernel
theorem dX5_passTicks_83 : decode cX5_passTicks 83 = .ok (.iload 4, 2) := by decide +kernel
theorem dX5_passTicks_85 : decode cX5_passTicks 85 = .ok (.dup2, 1) := by decide +kernel
theorem dX5_passTicks_86 : decode cX5_passTicks 86 = .ok (.iaload, 1) := by decide +kernel
theorem dX5_passTicks_87 : decode cX5_passTicks 87 = .ok (.iconst 1, 1) := by decide +kernel
theorem dX5_passTicks_88 : decode cX5_passTicks 88 = .ok (.iadd, 1) := by decide +kernel
theorem dX5_passTicks_89 : decode cX5_passTicks 89 = .ok (.iastore, 1) := by decide +kernel
theorem dX5_passTicks_90 : decode cX5_passTicks 90 = .ok (.iinc 4 1, 3) := by decide +kernel
theorem dX5_passTicks_93 : decode cX5_passTicks 93 = .ok (.goto (-83), 3) := by decide +kernel
theorem dX5_passTicks_96 : decode cX5_passTicks 96 = .ok (.aload_n 0, 1) := by decide +kernel
theorem dX5_passTicks_97 : decode cX5_passTicks 97 = .ok (.dup, 1) := by decide +kernel
theorem dX5_passTicks_98 : decode cX5_passTicks 98 = .ok (.getfield 35, 3) := by decide +kernel
theorem dX5_passTicks_101 : decode cX5_passTicks 101 = .ok (.iconst 1, 1) := by decide +kernel
theorem dX5_passTicks_102 : decode cX5_passTicks 102 = .ok (.iadd, 1) := by decide +kernel
theorem dX5_passTicks_103 : decode cX5_passTicks 103 = .ok (.putfield 35, 3) := by decide +kernel
theorem dX5_passTicks_106 : decode cX5_passTicks 106 = .ok (.iinc 3 1, 3) := by decide +kernel
theorem dX5_passTicks_109 : decode cX5_passTicks 109 = .ok (.goto (-107), 3) := by decide +kernel
theorem dX5_passTicks_112 : decode cX5_passTicks 112 = .ok (.return_, 1) := by decide +kernel
theorem dX5_comesInside_0 : decode cX5_comesInside 0 = .ok (.aload_n 0, 1) := by decide +kernel
theorem dX5_comesInside_1 : decode cX5_comesInside 1 = .ok (.getfield 25, 3) := by decide +kernel
theorem dX5_comesInside_4 : decode cX5_comesInside 4 = .ok (.getfield 63, 3) := by decide +kernel
theorem dX5_comesInside_7 : decode cX5_comesInside 7 = .ok (.iload_n 1, 1) := by decide +kernel
theorem dX5_comesInside_8 : decode cX5_comesInside 8 = .ok (.iaload, 1) := by decide +kernel
theorem dX5_comesInside_9 : decode cX5_comesInside 9 = .ok (.istore_n 2, 1) := by decide +kernel
theorem dX5_comesInside_10 : decode cX5_comesInside 10 = .ok (.aload_n 0, 1) := by decide +kernel
theorem dX5_comesInside_11 : decode cX5_comesInside 11 = .ok (.iload_n 2, 1) := by decide +kernel
theorem dX5_comesInside_12 : decode cX5_comesInside 12 = .ok (.invokevirtual 98, 3) := by decide +kernel
theorem dX5_comesInside_15 : decode cX5_comesInside 15 = .ok (.ifCond .ne 5, 3) := by decide +kernel
theorem dX5_comesInside_18 : decode cX5_comesInside 18 = .ok (.iconst 0, 1) := by decide +kernel
theorem dX5_comesInside_19 : decode cX5_comesInside 19 = .ok (.ireturn, 1) := by decide +kernel
theorem dX5_comesInside_20 : decode cX5_comesInside 20 = .ok (.aload_n 0, 1) := by decide +kernel
theorem dX5_comesInside_21 : decode cX5_comesInside 21 = .ok (.getfield 25, 3) := by decide +kernel
theorem dX5_comesInside_24 : decode cX5_comesInside 24 = .ok (.getfield 88, 3) := by decide +kernel
theorem dX5_comesInside_27 : decode cX5_comesInside 27 = .ok (.iload_n 1, 1) := by decide +kernel
theorem dX5_comesInside_28 : decode cX5_comesInside 28 = .ok (.iconst 1, 1) := by decide +kernel
theorem dX5_comesInside_29 : decode cX5_comesInside 29 = .ok (.iastore, 1) := by decide +kernel
theorem dX5_comesInside_30 : decode cX5_comesInside 30 = .ok (.aload_n 0, 1) := by decide +kernel
theorem dX5_comesInside_31 : decode cX5_comesInside 31 = .ok (.getfield 29, 3) := by decide +kernel
theorem dX5_comesInside_34 : decode cX5_comesInside 34 = .ok (.iload_n 2, 1) := by decide +kernel
theorem dX5_comesInside_35 : decode cX5_comesInside 35 = .ok (.dup2, 1) := by decide +kernel
theorem dX5_comesInside_36 : decode cX5_comesInside 36 = .ok (.iaload, 1) := by decide +kernel
theorem dX5_comesInside_37 : decode cX5_comesInside 37 = .ok (.iconst 1, 1) := by decide +kernel
theorem dX5_comesInside_38 : decode cX5_comesInside 38 = .ok (.iadd, 1) := by decide +kernel
theorem dX5_comesInside_39 : decode cX5_comesInside 39 = .ok (.iastore, 1) := by decide +kernel
theorem dX5_comesInside_40 : decode cX5_comesInside 40 = .ok (.iconst 1, 1) := by decide +kernel
theorem dX5_comesInside_41 : decode cX5_comesInside 41 = .ok (.ireturn, 1) := by decide +kernel
theorem dX5_movesOn_0 : decode cX5_movesOn 0 = .ok (.aload_n 0, 1) := by decide +kernel
theorem dX5_movesOn_1 : decode cX5_movesOn 1 = .ok (.aload_n 1, 1) := by decide +kernel
theorem dX5_movesOn_2 : decode cX5_movesOn 2 = .ok (.iload_n 2, 1) := by decide +kernel
theorem dX5_movesOn_3 : decode cX5_movesOn 3 = .ok (.iconst 1, 1) := by decide +kernel
theorem dX5_movesOn_4 : decode cX5_movesOn 4 = .ok (.invokevirtual 123, 3) := by decide +kernel
theorem dX5_movesOn_7 : decode cX5_movesOn 7 = .ok (.istore_n 3, 1) := by decide +kernel
theorem dX5_movesOn_8 : decode cX5_movesOn 8 = .ok (.iload_n 3, 1) := by decide +kernel
theorem dX5_movesOn_9 : decode cX5_movesOn 9 = .ok (.bipush (-6), 2) := by decide +kernel
theorem dX5_movesOn_11 : decode cX5_movesOn 11 = .ok (.if_icmp .ne 5, 3) := by decide +kernel
theorem dX5_movesOn_14 : decode cX5_movesOn 14 = .ok (.iconst 0, 1) := by decide +kernel
theorem dX5_movesOn_15 : decode cX5_movesOn 15 = .ok (.ireturn, 1) := by decide +kernel
theorem dX5_movesOn_16 : decode cX5_movesOn 16 = .ok (.aload_n 0, 1) := by decide +kernel
theorem dX5_movesOn_17 : decode cX5_movesOn 17 = .ok (.getfield 25, 3) := by decide +kernel
theorem dX5_movesOn_20 : decode cX5_movesOn 20 = .ok (.getfield 63, 3) := by decide +kernel
theorem dX5_movesOn_23 : decode cX5_movesOn 23 = .ok (.iload_n 2, 1) := by decide +kernel
theorem dX5_movesOn_24 : decode cX5_movesOn 24 = .ok (.iaload, 1) := by decide +kernel
theorem dX5_movesOn_25 : decode cX5_movesOn 25 = .ok (.istore 4, 2) := by decide +kernel
theorem dX5_movesOn_27 : decode cX5_movesOn 27 = .ok (.aload_n 0, 1) := by decide +kernel
theorem dX5_movesOn_28 : decode cX5_movesOn 28 = .ok (.getfield 25, 3) := by decide +kernel
theorem dX5_movesOn_31 : decode cX5_movesOn 31 = .ok (.getfield 69, 3) := by decide +kernel
theorem dX5_movesOn_34 : decode cX5_movesOn 34 = .ok (.iload_n 2, 1) := by decide +kernel
theorem dX5_movesOn_35 : decode cX5_movesOn 35 = .ok (.iaload, 1) := by decide +kernel
theorem dX5_movesOn_36 : decode cX5_movesOn 36 = .ok (.istore 5, 2) := by decide +kernel
theorem dX5_movesOn_38 : decode cX5_movesOn 38 = .ok (.aload_n 1, 1) := by decide +kernel
theorem dX5_movesOn_39 : decode cX5_movesOn 39 = .ok (.iload 4, 2) := by decide +kernel
theorem dX5_movesOn_41 : decode cX5_movesOn 41 = .ok (.iload_n 3, 1) := by decide +kernel
theorem dX5_movesOn_42 : decode cX5_movesOn 42 = .ok (.invokevirtual 91, 3) := by decide +kernel
theorem dX5_movesOn_45 : decode cX5_movesOn 45 = .ok (.istore 6, 2) := by decide +kernel
theorem dX5_movesOn_47 : decode cX5_movesOn 47 = .ok (.aload_n 0, 1) := by decide +kernel
theorem dX5_movesOn_48 : decode cX5_movesOn 48 = .ok (.getfield 29, 3) := by decide +kernel
theorem dX5_movesOn_51 : decode cX5_movesOn 51 = .ok (.iload 4, 2) := by decide +kernel
theorem dX5_movesOn_53 : decode cX5_movesOn 53 = .ok (.dup2, 1) := by decide +kernel
theorem dX5_movesOn_54 : decode cX5_movesOn 54 = .ok (.iaload, 1) := by decide +kernel
theorem dX5_movesOn_55 : decode cX5_movesOn 55 = .ok (.iconst 1, 1) := by decide +kernel
theorem dX5_movesOn_56 : decode cX5_movesOn 56 = .ok (.isub, 1) := by decide +kernel
theorem dX5_movesOn_57 : decode cX5_movesOn 57 = .ok (.iastore, 1) := by decide +kernel
theorem dX5_movesOn_58 : decode cX5_movesOn 58 = .ok (.aload_n 0, 1) := by decide +kernel
theorem dX5_movesOn_59 : decode cX5_movesOn 59 = .ok (.getfield 32, 3) := by decide +kernel
theorem dX5_movesOn_62 : decode cX5_movesOn 62 = .ok (.iload 4, 2) := by decide +kernel
theorem dX5_movesOn_64 : decode cX5_movesOn 64 = .ok (.iconst 4, 1) := by decide +kernel
theorem dX5_movesOn_65 : decode cX5_movesOn 65 = .ok (.imul, 1) := by decide +kernel
theorem dX5_movesOn_66 : decode cX5_movesOn 66 = .ok (.iload_n 3, 1) := by decide +kernel
theorem dX5_movesOn_67 : decode cX5_movesOn 67 = .ok (.iadd, 1) := by decide +kernel
theorem dX5_movesOn_68 : decode cX5_movesOn 68 = .ok (.dup2, 1) := by decide +kernel
theorem dX5_movesOn_69 : decode cX5_movesOn 69 = .ok (.iaload, 1) := by decide +kernel
theorem dX5_movesOn_70 : decode cX5_movesOn 70 = .ok (.iconst 1, 1) := by decide +kernel
theorem dX5_movesOn_71 : decode cX5_movesOn 71 = .ok (.iadd, 1) := by decide +kernel
theorem dX5_movesOn_72 : decode cX5_movesOn 72 = .ok (.iastore, 1) := by decide +kernel
theorem dX5_movesOn_73 : decode cX5_movesOn 73 = .ok (.aload_n 0, 1) := by decide +kernel
theorem dX5_movesOn_74 : decode cX5_movesOn 74 = .ok (.getfield 25, 3) := by decide +kernel
theorem dX5_movesOn_77 : decode cX5_movesOn 77 = .ok (.iload_n 2, 1) := by decide +kernel
theorem dX5_movesOn_78 : decode cX5_movesOn 78 = .ok (.iload 6, 2) := by decide +kernel
theorem dX5_movesOn_80 : decode cX5_movesOn 80 = .ok (.iload_n 3, 1) := by decide +kernel
theorem dX5_movesOn_81 : decode cX5_movesOn 81 = .ok (.aload_n 0, 1) := by decide +kernel
theorem dX5_movesOn_82 : decode cX5_movesOn 82 = .ok (.getfield 18, 3) := by decide +kernel
theorem dX5_movesOn_85 : decode cX5_movesOn 85 = .ok (.iload 6, 2) := by decide +kernel
theorem dX5_movesOn_87 : decode cX5_movesOn 87 = .ok (.iload 5, 2) := by decide +kernel
theorem dX5_movesOn_89 : decode cX5_movesOn 89 = .ok (.invokevirtual 59, 3) := by decide +kernel
theorem dX5_movesOn_92 : decode cX5_movesOn 92 = .ok (.aload_n 0, 1) := by decide +kernel
theorem dX5_movesOn_93 : decode cX5_movesOn 93 = .ok (.getfield 18, 3) := by decide +kernel
theorem dX5_movesOn_96 : decode cX5_movesOn 96 = .ok (.iload 4, 2) := by decide +kernel
theorem dX5_movesOn_98 : decode cX5_movesOn 98 = .ok (.iload 5, 2) := by decide +kernel
theorem dX5_movesOn_100 : decode cX5_movesOn 100 = .ok (.invokevirtual 59, 3) := by decide +kernel
theorem dX5_movesOn_103 : decode cX5_movesOn 103 = .ok (.if_icmp .le 7, 3) := by decide +kernel
theorem dX5_movesOn_106 : decode cX5_movesOn 106 = .ok (.iconst 1, 1) := by decide +kernel
theorem dX5_movesOn_107 : decode cX5_movesOn 107 = .ok (.goto 4, 3) := by decide +kernel
theorem dX5_movesOn_110 : decode cX5_movesOn 110 = .ok (.iconst 0, 1) := by decide +kernel
theorem dX5_movesOn_111 : decode cX5_movesOn 111 = .ok (.invokevirtual 127, 3) := by decide +kernel
theorem dX5_movesOn_114 : decode cX5_movesOn 114 = .ok (.iload 6, 2) := by decide +kernel
theorem dX5_movesOn_116 : decode cX5_movesOn 116 = .ok (.iload 5, 2) := by decide +kernel
theorem dX5_movesOn_118 : decode cX5_movesOn 118 = .ok (.if_icmp .ne 29, 3) := by decide +kernel
theorem dX5_movesOn_121 : decode cX5_movesOn 121 = .ok (.aload_n 0, 1) := by decide +kernel
theorem dX5_movesOn_122 : decode cX5_movesOn 122 = .ok (.getfield 25, 3) := by decide +kernel
theorem dX5_movesOn_125 : decode cX5_movesOn 125 = .ok (.getfield 88, 3) := by decide +kernel
theorem dX5_movesOn_128 : decode cX5_movesOn 128 = .ok (.iload_n 2, 1) := by decide +kernel
theorem dX5_movesOn_129 : decode cX5_movesOn 129 = .ok (.iconst 2, 1) := by decide +kernel
theorem dX5_movesOn_130 : decode cX5_movesOn 130 = .ok (.iastore, 1) := by decide +kernel
theorem dX5_movesOn_131 : decode cX5_movesOn 131 = .ok (.aload_n 0, 1) := by decide +kernel
theorem dX5_movesOn_132 : decode cX5_movesOn 132 = .ok (.getfield 25, 3) := by decide +kernel
theorem dX5_movesOn_135 : decode cX5_movesOn 135 = .ok (.getfield 131, 3) := by decide +kernel
theorem dX5_movesOn_138 : decode cX5_movesOn 138 = .ok (.iload_n 2, 1) := by decide +kernel
theorem dX5_movesOn_139 : decode cX5_movesOn 139 = .ok (.aload_n 0, 1) := by decide +kernel
theorem dX5_movesOn_140 : decode cX5_movesOn 140 = .ok (.getfield 35, 3) := by decide +kernel
theorem dX5_movesOn_143 : decode cX5_movesOn 143 = .ok (.iastore, 1) := by decide +kernel
theorem dX5_movesOn_144 : decode cX5_movesOn 144 = .ok (.goto 14, 3) := by decide +kernel
theorem dX5_movesOn_147 : decode cX5_movesOn 147 = .ok (.aload_n 0, 1) := by decide +kernel
theorem dX5_movesOn_148 : decode cX5_movesOn 148 = .ok (.getfield 29, 3) := by decide +kernel
theorem dX5_movesOn_151 : decode cX5_movesOn 151 = .ok (.iload 6, 2) := by decide +kernel
theorem dX5_movesOn_153 : decode cX5_movesOn 153 = .ok (.dup2, 1) := by decide +kernel
theorem dX5_movesOn_154 : decode cX5_movesOn 154 = .ok (.iaload, 1) := by decide +kernel
theorem dX5_movesOn_155 : decode cX5_movesOn 155 = .ok (.iconst 1, 1) := by decide +kernel
theorem dX5_movesOn_156 : decode cX5_movesOn 156 = .ok (.iadd, 1) := by decide +kernel
theorem dX5_movesOn_157 : decode cX5_movesOn 157 = .ok (.iastore, 1) := by decide +kernel
theorem dX5_movesOn_158 : decode cX5_movesOn 158 = .ok (.iconst 1, 1) := by decide +kernel
theorem dX5_movesOn_159 : decode cX5_movesOn 159 = .ok (.ireturn, 1) := by decide +kernel
theorem dX6_init_0 : decode cX6_init 0 = .ok (.aload_n 0, 1) := by decide +kernel
theorem dX6_init_1 : decode cX6_init 1 = .ok (.invokespecial 3, 3) := by decide +kernel
theorem dX6_init_4 : decode cX6_init 4 = .ok (.aload_n 0, 1) := by decide +kernel
theorem dX6_init_5 : decode cX6_init 5 = .ok (.new 9, 3) := by decide +kernel
theorem dX6_init_8 : decode cX6_init 8 = .ok (.dup, 1) := by decide +kernel
theorem dX6_init_9 : decode cX6_init 9 = .ok (.invokespecial 11, 3) := by decide +kernel
theorem dX6_init_12 : decode cX6_init 12 = .ok (.putfield 12, 3) := by decide +kernel
theorem dX6_init_15 : decode cX6_init 15 = .ok (.aload_n 0, 1) := by decide +kernel
theorem dX6_init_16 : decode cX6_init 16 = .ok (.new 16, 3) := by decide +kernel
theorem dX6_init_19 : decode cX6_init 19 = .ok (.dup, 1) := by decide +kernel
theorem dX6_init_20 : decode cX6_init 20 = .ok (.invokespecial 18, 3) := by decide +kernel
theorem dX6_init_23 : decode cX6_init 23 = .ok (.putfield 19, 3) := by decide +kernel
theorem dX6_init_26 : decode cX6_init 26 = .ok (.aload_n 0, 1) := by decide +kernel
theorem dX6_init_27 : decode cX6_init 27 = .ok (.new 9, 3) := by decide +kernel
theorem dX6_init_30 : decode cX6_init 30 = .ok (.dup, 1) := by decide +kernel
theorem dX6_init_31 : decode cX6_init 31 = .ok (.invokespecial 11, 3) := by decide +kernel
theorem dX6_init_34 : decode cX6_init 34 = .ok (.putfield 23, 3) := by decide +kernel
theorem dX6_init_37 : decode cX6_init 37 = .ok (.aload_n 0, 1) := by decide +kernel
theorem dX6_init_38 : decode cX6_init 38 = .ok (.new 16, 3) := by decide +kernel
theorem dX6_init_41 : decode cX6_init 41 = .ok (.dup, 1) := by decide +kernel
theorem dX6_init_42 : decode cX6_init 42 = .ok (.invokespecial 18, 3) := by decide +kernel
theorem dX6_init_45 : decode cX6_init 45 = .ok (.putfield 26, 3) := by decide +kernel
theorem dX6_init_48 : decode cX6_init 48 = .ok (.aload_n 0, 1) := by decide +kernel
theorem dX6_init_49 : decode cX6_init 49 = .ok (.new 29, 3) := by decide +kernel
theorem dX6_init_52 : decode cX6_init 52 = .ok (.dup, 1) := by decide +kernel
theorem dX6_init_53 : decode cX6_init 53 = .ok (.invokespecial 31, 3) := by decide +kernel
theorem dX6_init_56 : decode cX6_init 56 = .ok (.putfield 32, 3) := by decide +kernel
theorem dX6_init_59 : decode cX6_init 59 = .ok (.aload_n 0, 1) := by decide +kernel
theorem dX6_init_60 : decode cX6_init 60 = .ok (.new 36, 3) := by decide +kernel
theorem dX6_init_63 : decode cX6_init 63 = .ok (.dup, 1) := by decide +kernel
theorem dX6_init_64 : decode cX6_init 64 = .ok (.invokespecial 38, 3) := by decide +kernel
theorem dX6_init_67 : decode cX6_init 67 = .ok (.putfield 39, 3) := by decide +kernel
theorem dX6_init_70 : decode cX6_init 70 = .ok (.aload_n 0, 1) := by decide +kernel
theorem dX6_init_71 : decode cX6_init 71 = .ok (.bipush 6, 2) := by decide +kernel
theorem dX6_init_73 : decode cX6_init 73 = .ok (.anewarray 9, 3) := by decide +kernel
theorem dX6_init_76 : decode cX6_init 76 = .ok (.putfield 43, 3) := by decide +kernel
theorem dX6_init_79 : decode cX6_init 79 = .ok (.aload_n 0, 1) := by decide +kernel
theorem dX6_init_80 : decode cX6_init 80 = .ok (.iconst 0, 1) := by decide +kernel
theorem dX6_init_81 : decode cX6_init 81 = .ok (.putfield 47, 3) := by decide +kernel
theorem dX6_init_84 : decode cX6_init 84 = .ok (.aload_n 0, 1) := by decide +kernel
theorem dX6_init_85 : decode cX6_init 85 = .ok (.iconst 2, 1) := by decide +kernel
theorem dX6_init_86 : decode cX6_init 86 = .ok (.anewarray 9, 3) := by decide +kernel
theorem dX6_init_89 : decode cX6_init 89 = .ok (.putfield 51, 3) := by decide +kernel
theorem dX6_init_92 : decode cX6_init 92 = .ok (.aload_n 0, 1) := by decide +kernel
theorem dX6_init_93 : decode cX6_init 93 = .ok (.iconst 2, 1) := by decide +kernel
theorem dX6_init_94 : decode cX6_init 94 = .ok (.newarray .boolean, 2) := by decide +kernel
theorem dX6_init_96 : decode cX6_init 96 = .ok (.putfield 54, 3) := by decide +kernel
theorem dX6_init_99 : decode cX6_init 99 = .ok (.iconst 0, 1) := by decide +kernel
theorem dX6_init_100 : decode cX6_init 100 = .ok (.istore_n 1, 1) := by decide +kernel
theorem dX6_init_101 : decode cX6_init 101 = .ok (.iload_n 1, 1) := by decide +kernel
theorem dX6_init_102 : decode cX6_init 102 = .ok (.bipush 6, 2) := by decide +kernel
theorem dX6_init_104 : decode cX6_init 104 = .ok (.if_icmp .ge 22, 3) := by decide +kernel
theorem dX6_init_107 : decode cX6_init 107 = .ok (.aload_n 0, 1) := by decide +kernel
theorem dX6_init_108 : decode cX6_init 108 = .ok (.getfield 43, 3) := by decide +kernel
theorem dX6_init_111 : decode cX6_init 111 = .ok (.iload_n 1, 1) := by decide +kernel
theorem dX6_init_112 : decode cX6_init 112 = .ok (.new 9, 3) := by decide +kernel
theorem dX6_init_115 : decode cX6_init 115 = .ok (.dup, 1) := by decide +kernel
theorem dX6_init_116 : decode cX6_init 116 = .ok (.invokespecial 11, 3) := by decide +kernel
theorem dX6_init_119 : decode cX6_init 119 = .ok (.aastore, 1) := by decide +kernel
theorem dX6_init_120 : decode cX6_init 120 = .ok (.iinc 1 1, 3) := by decide +kernel
theorem dX6_init_123 : decode cX6_init 123 = .ok (.goto (-22), 3) := by decide +kernel
theorem dX6_init_126 : decode cX6_init 126 = .ok (.iconst 0, 1) := by decide +kernel
theorem dX6_init_127 : decode cX6_init 127 = .ok (.istore_n 1, 1) := by decide +kernel
theorem dX6_init_128 : decode cX6_init 128 = .ok (.iload_n 1, 1) := by decide +kernel
theorem dX6_init_129 : decode cX6_init 129 = .ok (.iconst 2, 1) := by decide +kernel
theorem dX6_init_130 : decode cX6_init 130 = .ok (.if_icmp .ge 22, 3) := by decide +kernel
theorem dX6_init_133 : decode cX6_init 133 = .ok (.aload_n 0, 1) := by decide +kernel
theorem dX6_init_134 : decode cX6_init 134 = .ok (.getfield 51, 3) := by decide +kernel
theorem dX6_init_137 : decode cX6_init 137 = .ok (.iload_n 1, 1) := by decide +kernel
theorem dX6_init_138 : decode cX6_init 138 = .ok (.new 9, 3) := by decide +kernel
theorem dX6_init_141 : decode cX6_init 141 = .ok (.dup, 1) := by decide +kernel
theorem dX6_init_142 : decode cX6_init 142 = .ok (.invokespecial 11, 3) := by decide +kernel
theorem dX6_init_145 : decode cX6_init 145 = .ok (.aastore, 1) := by decide +kernel
theorem dX6_init_146 : decode cX6_init 146 = .ok (.iinc 1 1, 3) := by decide +kernel
theorem dX6_init_149 : decode cX6_init 149 = .ok (.goto (-21), 3) := by decide +kernel
theorem dX6_init_152 : decode cX6_init 152 = .ok (.aload_n 0, 1) := by decide +kernel
theorem dX6_init_153 : decode cX6_init 153 = .ok (.invokevirtual 58, 3) := by decide +kernel
theorem dX6_init_156 : decode cX6_init 156 = .ok (.return_, 1) := by decide +kernel
theorem dX6_set_0 : decode cX6_set 0 = .ok (.iload_n 1, 1) := by decide +kernel
theorem dX6_set_1 : decode cX6_set 1 = .ok (.ifCond .lt 8, 3) := by decide +kernel
theorem dX6_set_4 : decode cX6_set 4 = .ok (.iload_n 1, 1) := by decide +kernel
theorem dX6_set_5 : decode cX6_set 5 = .ok (.iconst 3, 1) := by decide +kernel
theorem dX6_set_6 : decode cX6_set 6 = .ok (.if_icmp .lt 6, 3) := by decide +kernel
theorem dX6_set_9 : decode cX6_set 9 = .ok (.bipush (-2), 2) := by decide +kernel
theorem dX6_set_11 : decode cX6_set 11 = .ok (.ireturn, 1) := by decide +kernel
theorem dX6_set_12 : decode cX6_set 12 = .ok (.iload_n 2, 1) := by decide +kernel
theorem dX6_set_13 : decode cX6_set 13 = .ok (.iload_n 1, 1) := by decide +kernel
theorem dX6_set_14 : decode cX6_set 14 = .ok (.invokestatic 61, 3) := by decide +kernel
theorem dX6_set_17 : decode cX6_set 17 = .ok (.if_icmp .lt 11, 3) := by decide +kernel
theorem dX6_set_20 : decode cX6_set 20 = .ok (.iload_n 2, 1) := by decide +kernel
theorem dX6_set_21 : decode cX6_set 21 = .ok (.iload_n 1, 1) := by decide +kernel
theorem dX6_set_22 : decode cX6_set 22 = .ok (.invokestatic 65, 3) := by decide +kernel
theorem dX6_set_25 : decode cX6_set 25 = .ok (.if_icmp .le 6, 3) := by decide +kernel
theorem dX6_set_28 : decode cX6_set 28 = .ok (.bipush (-2), 2) := by decide +kernel
theorem dX6_set_30 : decode cX6_set 30 = .ok (.ireturn, 1) := by decide +kernel
theorem dX6_set_31 : decode cX6_set 31 = .ok (.aload_n 0, 1) := by decide +kernel
theorem dX6_set_32 : decode cX6_set 32 = .ok (.invokevirtual 68, 3) := by decide +kernel
theorem dX6_set_35 : decode cX6_set 35 = .ok (.aload_n 0, 1) := by decide +kernel
theorem dX6_set_36 : decode cX6_set 36 = .ok (.getfield 12, 3) := by decide +kernel
theorem dX6_set_39 : decode cX6_set 39 = .ok (.getfield 71, 3) := by decide +kernel
theorem dX6_set_42 : decode cX6_set 42 = .ok (.iload_n 1, 1) := by decide +kernel
theorem dX6_set_43 : decode cX6_set 43 = .ok (.iaload, 1) := by decide +kernel
theorem dX6_set_44 : decode cX6_set 44 = .ok (.istore_n 3, 1) := by decide +kernel
theorem dX6_set_45 : decode cX6_set 45 = .ok (.aload_n 0, 1) := by decide +kernel
theorem dX6_set_46 : decode cX6_set 46 = .ok (.getfield 12, 3) := by decide +kernel
theorem dX6_set_49 : decode cX6_set 49 = .ok (.getfield 71, 3) := by decide +kernel
theorem dX6_set_52 : decode cX6_set 52 = .ok (.iload_n 1, 1) := by decide +kernel
theorem dX6_set_53 : decode cX6_set 53 = .ok (.iload_n 2, 1) := by decide +kernel
theorem dX6_set_54 : decode cX6_set 54 = .ok (.iastore, 1) := by decide +kernel
theorem dX6_set_55 : decode cX6_set 55 = .ok (.aload_n 0, 1) := by decide +kernel
theorem dX6_set_56 : decode cX6_set 56 = .ok (.invokevirtual 58, 3) := by decide +kernel
theorem dX6_set_59 : decode cX6_set 59 = .ok (.iload_n 3, 1) := by decide +kernel
theorem dX6_set_60 : decode cX6_set 60 = .ok (.ireturn, 1) := by decide +kernel
theorem dX6_mesh_0 : decode cX6_mesh 0 = .ok (.iload_n 1, 1) := by decide +kernel
theorem dX6_mesh_1 : decode cX6_mesh 1 = .ok (.invokestatic 75, 3) := by decide +kernel
theorem dX6_mesh_4 : decode cX6_mesh 4 = .ok (.ifCond .eq 10, 3) := by decide +kernel
theorem dX6_mesh_7 : decode cX6_mesh 7 = .ok (.iload_n 2, 1) := by decide +kernel
theorem dX6_mesh_8 : decode cX6_mesh 8 = .ok (.invokestatic 75, 3) := by decide +kernel
theorem dX6_mesh_11 : decode cX6_mesh 11 = .ok (.ifCond .ne 6, 3) := by decide +kernel
theorem dX6_mesh_14 : decode cX6_mesh 14 = .ok (.bipush (-2), 2) := by decide +kernel
theorem dX6_mesh_16 : decode cX6_mesh 16 = .ok (.ireturn, 1) := by decide +kernel
theorem dX6_mesh_17 : decode cX6_mesh 17 = .ok (.aload_n 0, 1) := by decide +kernel
theorem dX6_mesh_18 : decode cX6_mesh 18 = .ok (.getfield 12, 3) := by decide +kernel
theorem dX6_mesh_21 : decode cX6_mesh 21 = .ok (.getfield 79, 3) := by decide +kernel
theorem dX6_mesh_24 : decode cX6_mesh 24 = .ok (.getfield 83, 3) := by decide +kernel
theorem dX6_mesh_27 : decode cX6_mesh 27 = .ok (.ifCond .le 6, 3) := by decide +kernel
theorem dX6_mesh_30 : decode cX6_mesh 30 = .ok (.bipush (-5), 2) := by decide +kernel
theorem dX6_mesh_32 : decode cX6_mesh 32 = .ok (.ireturn, 1) := by decide +kernel
theorem dX6_mesh_33 : decode cX6_mesh 33 = .ok (.aload_n 0, 1) := by decide +kernel
theorem dX6_mesh_34 : decode cX6_mesh 34 = .ok (.invokevirtual 68, 3) := by decide +kernel
theorem dX6_mesh_37 : decode cX6_mesh 37 = .ok (.aload_n 0, 1) := by decide +kernel
theorem dX6_mesh_38 : decode cX6_mesh 38 = .ok (.getfield 12, 3) := by decide +kernel
theorem dX6_mesh_41 : decode cX6_mesh 41 = .ok (.getfield 88, 3) := by decide +kernel
theorem dX6_mesh_44 : decode cX6_mesh 44 = .ok (.iload_n 1, 1) := by decide +kernel
theorem dX6_mesh_45 : decode cX6_mesh 45 = .ok (.iload_n 2, 1) := by decide +kernel
theorem dX6_mesh_46 : decode cX6_mesh 46 = .ok (.invokevirtual 92, 3) := by decide +kernel
theorem dX6_mesh_49 : decode cX6_mesh 49 = .ok (.aload_n 0, 1) := by decide +kernel
theorem dX6_mesh_50 : decode cX6_mesh 50 = .ok (.invokevirtual 58, 3) := by decide +kernel
theorem dX6_mesh_53 : decode cX6_mesh 53 = .ok (.aload_n 0, 1) := by decide +kernel
theorem dX6_mesh_54 : decode cX6_mesh 54 = .ok (.getfield 12, 3) := by decide +kernel
theorem dX6_mesh_57 : decode cX6_mesh 57 = .ok (.getfield 88, 3) := by decide +kernel
theorem dX6_mesh_60 : decode cX6_mesh 60 = .ok (.invokevirtual 98, 3) := by decide +kernel
theorem dX6_mesh_63 : decode cX6_mesh 63 = .ok (.ireturn, 1) := by decide +kernel
theorem dX6_link_0 : decode cX6_link 0 = .ok (.aload_n 0, 1) := by decide +kernel
theorem dX6_link_1 : decode cX6_link 1 = .ok (.iload_n 1, 1) := by decide +kernel
theorem dX6_link_2 : decode cX6_link 2 = .ok (.iload_n 2, 1) := by decide +kernel
theorem dX6_link_3 : decode cX6_link 3 = .ok (.iload_n 3, 1) := by decide +kernel
theorem dX6_link_4 : decode cX6_link 4 = .ok (.invokevirtual 102, 3) := by decide +kernel
theorem dX6_link_7 : decode cX6_link 7 = .ok (.istore 4, 2) := by decide +kernel
theorem dX6_link_9 : decode cX6_link 9 = .ok (.iload 4, 2) := by decide +kernel
theorem dX6_link_11 : decode cX6_link 11 = .ok (.ifCond .eq 6, 3) := by decide +kernel
theorem dX6_link_14 : decode cX6_link 14 = .ok (.iload 4, 2) := by decide +kernel
theorem dX6_link_16 : decode cX6_link 16 = .ok (.ireturn, 1) := by decide +kernel
theorem dX6_link_17 : decode cX6_link 17 = .ok (.aload_n 0, 1) := by decide +kernel
theorem dX6_link_18 : decode cX6_link 18 = .ok (.invokevirtual 68, 3) := by decide +kernel
theorem dX6_link_21 : decode cX6_link 21 = .ok (.aload_n 0, 1) := by decide +kernel
theorem dX6_link_22 : decode cX6_link 22 = .ok (.iload_n 1, 1) := by decide +kernel
theorem dX6_link_23 : decode cX6_link 23 = .ok (.iload_n 2, 1) := by decide +kernel
theorem dX6_link_24 : decode cX6_link 24 = .ok (.iload_n 3, 1) := by decide +kernel
theorem dX6_link_25 : decode cX6_link 25 = .ok (.invokevirtual 106, 3) := by decide +kernel
theorem dX6_link_28 : decode cX6_link 28 = .ok (.ireturn, 1) := by decide +kernel
theorem dX6_send_0 : decode cX6_send 0 = .ok (.aload_n 0, 1) := by decide +kernel
theorem dX6_send_1 : decode cX6_send 1 = .ok (.iload_n 1, 1) := by decide +kernel
theorem dX6_send_2 : decode cX6_send 2 = .ok (.iload_n 2, 1) := by decide +kernel
theorem dX6_send_3 : decode cX6_send 3 = .ok (.invokevirtual 109, 3) := by decide +kernel
theorem dX6_send_6 : decode cX6_send 6 = .ok (.istore_n 3, 1) := by decide +kernel
theorem dX6_send_7 : decode cX6_send 7 = .ok (.iload_n 3, 1) := by decide +kernel
theorem dX6_send_8 : decode cX6_send 8 = .ok (.ifCond .eq 5, 3) := by decide +kernel
theorem dX6_send_11 : decode cX6_send 11 = .ok (.iload_n 3, 1) := by decide +kernel
theorem dX6_send_12 : decode cX6_send 12 = .ok (.ireturn, 1) := by decide +kernel
theorem dX6_send_13 : decode cX6_send 13 = .ok (.aload_n 0, 1) := by decide +kernel
theorem dX6_send_14 : decode cX6_send 14 = .ok (.invokevirtual 68, 3) := by decide +kernel
theorem dX6_send_17 : decode cX6_send 17 = .ok (.aload_n 0, 1) := by decide +kernel
theorem dX6_send_18 : decode cX6_send 18 = .ok (.getfield 12, 3) := by decide +kernel
theorem dX6_send_21 : decode cX6_send 21 = .ok (.getfield 79, 3) := by decide +kernel
theorem dX6_send_24 : decode cX6_send 24 = .ok (.iload_n 1, 1) := by decide +kernel
theorem dX6_send_25 : decode cX6_send 25 = .ok (.iload_n 2, 1) := by decide +kernel
theorem dX6_send_26 : decode cX6_send 26 = .ok (.aload_n 0, 1) := by decide +kernel
theorem dX6_send_27 : decode cX6_send 27 = .ok (.getfield 12, 3) := by decide +kernel
theorem dX6_send_30 : decode cX6_send 30 = .ok (.getfield 113, 3) := by decide +kernel
theorem dX6_send_33 : decode cX6_send 33 = .ok (.invokevirtual 116, 3) := by decide +kernel
theorem dX6_send_36 : decode cX6_send 36 = .ok (.ireturn, 1) := by decide +kernel
theorem dX6_ticks_0 : decode cX6_ticks 0 = .ok (.iload_n 1, 1) := by decide +kernel
theorem dX6_ticks_1 : decode cX6_ticks 1 = .ok (.invokestatic 119, 3) := by decide +kernel
theorem dX6_ticks_4 : decode cX6_ticks 4 = .ok (.ifCond .ne 6, 3) := by decide +kernel
theorem dX6_ticks_7 : decode cX6_ticks 7 = .ok (.bipush (-2), 2) := by decide +kernel
theorem dX6_ticks_9 : decode cX6_ticks 9 = .ok (.ireturn, 1) := by decide +kernel
theorem dX6_ticks_10 : decode cX6_ticks 10 = .ok (.aload_n 0, 1) := by decide +kernel
theorem dX6_ticks_11 : decode cX6_ticks 11 = .ok (.invokevirtual 68, 3) := by decide +kernel
theorem dX6_ticks_14 : decode cX6_ticks 14 = .ok (.aload_n 0, 1) := by decide +kernel
theorem dX6_ticks_15 : decode cX6_ticks 15 = .ok (.getfield 12, 3) := by decide +kernel
theorem dX6_ticks_18 : decode cX6_ticks 18 = .ok (.aload_n 0, 1) := by decide +kernel
theorem dX6_ticks_19 : decode cX6_ticks 19 = .ok (.getfield 19, 3) := by decide +kernel
theorem dX6_ticks_22 : decode cX6_ticks 22 = .ok (.iload_n 1, 1) := by decide +kernel
theorem dX6_ticks_23 : decode cX6_ticks 23 = .ok (.invokevirtual 122, 3) := by decide +kernel
theorem dX6_ticks_26 : decode cX6_ticks 26 = .ok (.aload_n 0, 1) := by decide +kernel
theorem dX6_ticks_27 : decode cX6_ticks 27 = .ok (.getfield 12, 3) := by decide +kernel
theorem dX6_ticks_30 : decode cX6_ticks 30 = .ok (.getfield 113, 3) := by decide +kernel
theorem dX6_ticks_33 : decode cX6_ticks 33 = .ok (.ireturn, 1) := by decide +kernel
theorem dX6_ofPacket_0 : decode cX6_ofPacket 0 = .ok (.aload_n 0, 1) := by decide +kernel
theorem dX6_ofPacket_1 : decode cX6_ofPacket 1 = .ok (.getfield 12, 3) := by decide +kernel
theorem dX6_ofPacket_4 : decode cX6_ofPacket 4 = .ok (.getfield 79, 3) := by decide +kernel
theorem dX6_ofPacket_7 : decode cX6_ofPacket 7 = .ok (.astore_n 3, 1) := by decide +kernel
theorem dX6_ofPacket_8 : decode cX6_ofPacket 8 = .ok (.aload_n 3, 1) := by decide +kernel
theorem dX6_ofPacket_9 : decode cX6_ofPacket 9 = .ok (.iload_n 1, 1) := by decide +kernel
theorem dX6_ofPacket_10 : decode cX6_ofPacket 10 = .ok (.invokevirtual 126, 3) := by decide +kernel
theorem dX6_ofPacket_13 : decode cX6_ofPacket 13 = .ok (.ifCond .ne 5, 3) := by decide +kernel
theorem dX6_ofPacket_16 : decode cX6_ofPacket 16 = .ok (.iconst (-1), 1) := by decide +kernel
theorem dX6_ofPacket_17 : decode cX6_ofPacket 17 = .ok (.ireturn, 1) := by decide +kernel
theorem dX6_ofPacket_18 : decode cX6_ofPacket 18 = .ok (.iload_n 2, 1) := by decide +kernel
theorem dX6_ofPacket_19 : decode cX6_ofPacket 19 = .ok (.tableswitch 187 0 12 #[65, 72, 79, 86, 93, 100, 107, 114, 121, 128, 135, 148, 162], 65) := by decide +kernel
theorem dX6_ofPacket_84 : decode cX6_ofPacket 84 = .ok (.aload_n 3, 1) := by decide +kernel
theorem dX6_ofPacket_85 : decode cX6_ofPacket 85 = .ok (.getfield 129, 3) := by decide +kernel
theorem dX6_ofPacket_88 : decode cX6_ofPacket 88 = .ok (.iload_n 1, 1) := by decide +kernel
theorem dX6_ofPacket_89 : decode cX6_ofPacket 89 = .ok (.iaload, 1) := by decide +kernel
theorem dX6_ofPacket_90 : decode cX6_ofPacket 90 = .ok (.ireturn, 1) := by decide +kernel
theorem dX6_ofPacket_91 : decode cX6_ofPacket 91 = .ok (.aload_n 3, 1) := by decide +kernel
theorem dX6_ofPacket_92 : decode cX6_ofPacket 92 = .ok (.getfield 132, 3) := by decide +kernel
theorem dX6_ofPacket_95 : decode cX6_ofPacket 95 = .ok (.iload_n 1, 1) := by decide +kernel
theorem dX6_ofPacket_96 : decode cX6_ofPacket 96 = .ok (.iaload, 1) := by decide +kernel
theorem dX6_ofPacket_97 : decode cX6_ofPacket 97 = .ok (.ireturn, 1) := by decide +kernel
theorem dX6_ofPacket_98 : decode cX6_ofPacket 98 = .ok (.aload_n 3, 1) := by decide +kernel
theorem dX6_ofPacket_99 : decode cX6_ofPacket 99 = .ok (.getfield 135, 3) := by decide +kernel
theorem dX6_ofPacket_102 : decode cX6_ofPacket 102 = .ok (.iload_n 1, 1) := by decide +kernel
theorem dX6_ofPacket_103 : decode cX6_ofPacket 103 = .ok (.iaload, 1) := by decide +kernel
theorem dX6_ofPacket_104 : decode cX6_ofPacket 104 = .ok (.ireturn, 1) := by decide +kernel
theorem dX6_ofPacket_105 : decode cX6_ofPacket 105 = .ok (.aload_n 3, 1) := by decide +kernel
theorem dX6_ofPacket_106 : decode cX6_ofPacket 106 = .ok (.getfield 138, 3) := by decide +kernel
theorem dX6_ofPacket_109 : decode cX6_ofPacket 109 = .ok (.iload_n 1, 1) := by decide +kernel
theorem dX6_ofPacket_110 : decode cX6_ofPacket 110 = .ok (.iaload, 1) := by decide +kernel
theorem dX6_ofPacket_111 : decode cX6_ofPacket 111 = .ok (.ireturn, 1) := by decide +kernel
theorem dX6_ofPacket_112 : decode cX6_ofPacket 112 = .ok (.aload_n 3, 1) := by decide +kernel
theorem dX6_ofPacket_113 : decode cX6_ofPacket 113 = .ok (.getfield 141, 3) := by decide +kernel
theorem dX6_ofPacket_116 : decode cX6_ofPacket 116 = .ok (.iload_n 1, 1) := by decide +kernel
theorem dX6_ofPacket_117 : decode cX6_ofPacket 117 = .ok (.iaload, 1) := by decide +kernel
theorem dX6_ofPacket_118 : decode cX6_ofPacket 118 = .ok (.ireturn, 1) := by decide +kernel
theorem dX6_ofPacket_119 : decode cX6_ofPacket 119 = .ok (.aload_n 3, 1) := by decide +kernel
theorem dX6_ofPacket_120 : decode cX6_ofPacket 120 = .ok (.getfield 144, 3) := by decide +kernel
theorem dX6_ofPacket_123 : decode cX6_ofPacket 123 = .ok (.iload_n 1, 1) := by decide +kernel
theorem dX6_ofPacket_124 : decode cX6_ofPacket 124 = .ok (.iaload, 1) := by decide +kernel
theorem dX6_ofPacket_125 : decode cX6_ofPacket 125 = .ok (.ireturn, 1) := by decide +kernel
theorem dX6_ofPacket_126 : decode cX6_ofPacket 126 = .ok (.aload_n 3, 1) := by decide +kernel
theorem dX6_ofPacket_127 : decode cX6_ofPacket 127 = .ok (.getfield 147, 3) := by decide +kernel
theorem dX6_ofPacket_130 : decode cX6_ofPacket 130 = .ok (.iload_n 1, 1) := by decide +kernel
theorem dX6_ofPacket_131 : decode cX6_ofPacket 131 = .ok (.iaload, 1) := by decide +kernel
theorem dX6_ofPacket_132 : decode cX6_ofPacket 132 = .ok (.ireturn, 1) := by decide +kernel
theorem dX6_ofPacket_133 : decode cX6_ofPacket 133 = .ok (.aload_n 3, 1) := by decide +kernel
theorem dX6_ofPacket_134 : decode cX6_ofPacket 134 = .ok (.getfield 150, 3) := by decide +kernel
theorem dX6_ofPacket_137 : decode cX6_ofPacket 137 = .ok (.iload_n 1, 1) := by decide +kernel
theorem dX6_ofPacket_138 : decode cX6_ofPacket 138 = .ok (.iaload, 1) := by decide +kernel
theorem dX6_ofPacket_139 : decode cX6_ofPacket 139 = .ok (.ireturn, 1) := by decide +kernel
theorem dX6_ofPacket_140 : decode cX6_ofPacket 140 = .ok (.aload_n 3, 1) := by decide +kernel
theorem dX6_ofPacket_141 : decode cX6_ofPacket 141 = .ok (.getfield 153, 3) := by decide +kernel
theorem dX6_ofPacket_144 : decode cX6_ofPacket 144 = .ok (.iload_n 1, 1) := by decide +kernel
theorem dX6_ofPacket_145 : decode cX6_ofPacket 145 = .ok (.iaload, 1) := by decide +kernel
theorem dX6_ofPacket_146 : decode cX6_ofPacket 146 = .ok (.ireturn, 1) := by decide +kernel
theorem dX6_ofPacket_147 : decode cX6_ofPacket 147 = .ok (.aload_n 3, 1) := by decide +kernel
theorem dX6_ofPacket_148 : decode cX6_ofPacket 148 = .ok (.getfield 156, 3) := by decide +kernel
theorem dX6_ofPacket_151 : decode cX6_ofPacket 151 = .ok (.iload_n 1, 1) := by decide +kernel
theorem dX6_ofPacket_152 : decode cX6_ofPacket 152 = .ok (.iaload, 1) := by decide +kernel
theorem dX6_ofPacket_153 : decode cX6_ofPacket 153 = .ok (.ireturn, 1) := by decide +kernel
theorem dX6_ofPacket_154 : decode cX6_ofPacket 154 = .ok (.aload_n 0, 1) := by decide +kernel
theorem dX6_ofPacket_155 : decode cX6_ofPacket 155 = .ok (.getfield 12, 3) := by decide +kernel
theorem dX6_ofPacket_158 : decode cX6_ofPacket 158 = .ok (.aload_n 0, 1) := by decide +kernel
theorem dX6_ofPacket_159 : decode cX6_ofPacket 159 = .ok (.getfield 19, 3) := by decide +kernel
theorem dX6_ofPacket_162 : decode cX6_ofPacket 162 = .ok (.iload_n 1, 1) := by decide +kernel
theorem dX6_ofPacket_163 : decode cX6_ofPacket 163 = .ok (.invokevirtual 159, 3) := by decide +kernel
theorem dX6_ofPacket_166 : decode cX6_ofPacket 166 = .ok (.ireturn, 1) := by decide +kernel
theorem dX6_ofPacket_167 : decode cX6_ofPacket 167 = .ok (.aload_n 0, 1) := by decide +kernel
theorem dX6_ofPacket_168 : decode cX6_ofPacket 168 = .ok (.getfield 12, 3) := by decide +kernel
theorem dX6_ofPacket_171 : decode cX6_ofPacket 171 = .ok (.aload_n 0, 1) := by decide +kernel
theorem dX6_ofPacket_172 : decode cX6_ofPacket 172 = .ok (.getfield 19, 3) := by decide +kernel
theorem dX6_ofPacket_175 : decode cX6_ofPacket 175 = .ok (.iload_n 1, 1) := by decide +kernel
theorem dX6_ofPacket_176 : decode cX6_ofPacket 176 = .ok (.iconst 0, 1) := by decide +kernel
theorem dX6_ofPacket_177 : decode cX6_ofPacket 177 = .ok (.invokevirtual 163, 3) := by decide +kernel
theorem dX6_ofPacket_180 : decode cX6_ofPacket 180 = .ok (.ireturn, 1) := by decide +kernel
theorem dX6_ofPacket_181 : decode cX6_ofPacket 181 = .ok (.aload_n 0, 1) := by decide +kernel
theorem dX6_ofPacket_182 : decode cX6_ofPacket 182 = .ok (.getfield 32, 3) := by decide +kernel
theorem dX6_ofPacket_185 : decode cX6_ofPacket 185 = .ok (.aload_n 0, 1) := by decide +kernel
theorem dX6_ofPacket_186 : decode cX6_ofPacket 186 = .ok (.getfield 12, 3) := by decide +kernel
theorem dX6_ofPacket_189 : decode cX6_ofPacket 189 = .ok (.aload_n 0, 1) := by decide +kernel
theorem dX6_ofPacket_190 : decode cX6_ofPacket 190 = .ok (.getfield 19, 3) := by decide +kernel
theorem dX6_ofPacket_193 : decode cX6_ofPacket 193 = .ok (.iload_n 1, 1) := by decide +kernel
theorem dX6_ofPacket_194 : decode cX6_ofPacket 194 = .ok (.invokevirtual 167, 3) := by decide +kernel
theorem dX6_ofPacket_197 : decode cX6_ofPacket 197 = .ok (.ifCond .eq 7, 3) := by decide +kernel
theorem dX6_ofPacket_200 : decode cX6_ofPacket 200 = .ok (.iconst 1, 1) := by decide +kernel
theorem dX6_ofPacket_201 : decode cX6_ofPacket 201 = .ok (.goto 4, 3) := by decide +kernel
theorem dX6_ofPacket_204 : decode cX6_ofPacket 204 = .ok (.iconst 0, 1) := by decide +kernel
theorem dX6_ofPacket_205 : decode cX6_ofPacket 205 = .ok (.ireturn, 1) := by decide +kernel
theorem dX6_ofPacket_206 : decode cX6_ofPacket 206 = .ok (.bipush (-2), 2) := by decide +kernel
theorem dX6_ofPacket_208 : decode cX6_ofPacket 208 = .ok (.ireturn, 1) := by decide +kernel
theorem dX6_ofBox_0 : decode cX6_ofBox 0 = .ok (.aload_n 0, 1) := by decide +kernel
theorem dX6_ofBox_1 : decode cX6_ofBox 1 = .ok (.getfield 12, 3) := by decide +kernel
theorem dX6_ofBox_4 : decode cX6_ofBox 4 = .ok (.getfield 88, 3) := by decide +kernel
theorem dX6_ofBox_7 : decode cX6_ofBox 7 = .ok (.iload_n 1, 1) := by decide +kernel
theorem dX6_ofBox_8 : decode cX6_ofBox 8 = .ok (.invokevirtual 171, 3) := by decide +kernel
theorem dX6_ofBox_11 : decode cX6_ofBox 11 = .ok (.ifCond .ne 5, 3) := by decide +kernel
theorem dX6_ofBox_14 : decode cX6_ofBox 14 = .ok (.iconst (-1), 1) := by decide +kernel
theorem dX6_ofBox_15 : decode cX6_ofBox 15 = .ok (.ireturn, 1) := by decide +kernel
theorem dX6_ofBox_16 : decode cX6_ofBox 16 = .ok (.iload_n 2, 1) := by decide +kernel
theorem dX6_ofBox_17 : decode cX6_ofBox 17 = .ok (.ifCond .lt 9, 3) := by decide +kernel
theorem dX6_ofBox_20 : decode cX6_ofBox 20 = .ok (.iload_n 2, 1) := by decide +kernel
theorem dX6_ofBox_21 : decode cX6_ofBox 21 = .ok (.bipush 10, 2) := by decide +kernel
theorem dX6_ofBox_23 : decode cX6_ofBox 23 = .ok (.if_icmp .le 6, 3) := by decide +kernel
theorem dX6_ofBox_26 : decode cX6_ofBox 26 = .ok (.bipush (-2), 2) := by decide +kernel
theorem dX6_ofBox_28 : decode cX6_ofBox 28 = .ok (.ireturn, 1) := by decide +kernel
theorem dX6_ofBox_29 : decode cX6_ofBox 29 = .ok (.iload_n 2, 1) := by decide +kernel
theorem dX6_ofBox_30 : decode cX6_ofBox 30 = .ok (.tableswitch 90 0 6 #[42, 55, 68, 81, 81, 81, 81], 42) := by decide +kernel
theorem dX6_ofBox_72 : decode cX6_ofBox 72 = .ok (.aload_n 0, 1) := by decide +kernel
theorem dX6_ofBox_73 : decode cX6_ofBox 73 = .ok (.getfield 12, 3) := by decide +kernel
theorem dX6_ofBox_76 : decode cX6_ofBox 76 = .ok (.getfield 79, 3) := by decide +kernel
theorem dX6_ofBox_79 : decode cX6_ofBox 79 = .ok (.iconst 1, 1) := by decide +kernel
theorem dX6_ofBox_80 : decode cX6_ofBox 80 = .ok (.iload_n 1, 1) := by decide +kernel
theorem dX6_ofBox_81 : decode cX6_ofBox 81 = .ok (.invokevirtual 172, 3) := by decide +kernel
theorem dX6_ofBox_84 : decode cX6_ofBox 84 = .ok (.ireturn, 1) := by decide +kernel
theorem dX6_ofBox_85 : decode cX6_ofBox 85 = .ok (.aload_n 0, 1) := by decide +kernel
theorem dX6_ofBox_86 : decode cX6_ofBox 86 = .ok (.getfield 12, 3) := by decide +kernel
theorem dX6_ofBox_89 : decode cX6_ofBox 89 = .ok (.getfield 79, 3) := by decide +kernel
theorem dX6_ofBox_92 : decode cX6_ofBox 92 = .ok (.iconst 0, 1) := by decide +kernel
theorem dX6_ofBox_93 : decode cX6_ofBox 93 = .ok (.iload_n 1, 1) := by decide +kernel
theorem dX6_ofBox_94 : decode cX6_ofBox 94 = .ok (.invokevirtual 172, 3) := by decide +kernel
theorem dX6_ofBox_97 : decode cX6_ofBox 97 = .ok (.ireturn, 1) := by decide +kernel
theorem dX6_ofBox_98 : decode cX6_ofBox 98 = .ok (.aload_n 0, 1) := by decide +kernel
theorem dX6_ofBox_99 : decode cX6_ofBox 99 = .ok (.getfield 12, 3) := by decide +kernel
theorem dX6_ofBox_102 : decode cX6_ofBox 102 = .ok (.getfield 79, 3) := by decide +kernel
theorem dX6_ofBox_105 : decode cX6_ofBox 105 = .ok (.iconst 2, 1) := by decide +kernel
theorem dX6_ofBox_106 : decode cX6_ofBox 106 = .ok (.iload_n 1, 1) := by decide +kernel
theorem dX6_ofBox_107 : decode cX6_ofBox 107 = .ok (.invokevirtual 172, 3) := by decide +kernel
theorem dX6_ofBox_110 : decode cX6_ofBox 110 = .ok (.ireturn, 1) := by decide +kernel
theorem dX6_ofBox_111 : decode cX6_ofBox 111 = .ok (.aload_n 0, 1) := by decide +kernel
theorem dX6_ofBox_112 : decode cX6_ofBox 112 = .ok (.iload_n 1, 1) := by decide +kernel
theorem dX6_ofBox_113 : decode cX6_ofBox 113 = .ok (.iload_n 2, 1) := by decide +kernel
theorem dX6_ofBox_114 : decode cX6_ofBox 114 = .ok (.iconst 3, 1) := by decide +kernel
theorem dX6_ofBox_115 : decode cX6_ofBox 115 = .ok (.isub, 1) := by decide +kernel
theorem dX6_ofBox_116 : decode cX6_ofBox 116 = .ok (.invokevirtual 175, 3) := by decide +kernel
theorem dX6_ofBox_119 : decode cX6_ofBox 119 = .ok (.ireturn, 1) := by decide +kernel
theorem dX6_ofBox_120 : decode cX6_ofBox 120 = .ok (.aload_n 0, 1) := by decide +kernel
theorem dX6_ofBox_121 : decode cX6_ofBox 121 = .ok (.getfield 12, 3) := by decide +kernel
theorem dX6_ofBox_124 : decode cX6_ofBox 124 = .ok (.getfield 178, 3) := by decide +kernel
theorem dX6_ofBox_127 : decode cX6_ofBox 127 = .ok (.iload_n 1, 1) := by decide +kernel
theorem dX6_ofBox_128 : decode cX6_ofBox 128 = .ok (.iconst 4, 1) := by decide +kernel
theorem dX6_ofBox_129 : decode cX6_ofBox 129 = .ok (.imul, 1) := by decide +kernel
theorem dX6_ofBox_130 : decode cX6_ofBox 130 = .ok (.iload_n 2, 1) := by decide +kernel
theorem dX6_ofBox_131 : decode cX6_ofBox 131 = .ok (.iadd, 1) := by decide +kernel
theorem dX6_ofBox_132 : decode cX6_ofBox 132 = .ok (.bipush 7, 2) := by decide +kernel
theorem dX6_ofBox_134 : decode cX6_ofBox 134 = .ok (.isub, 1) := by decide +kernel
theorem dX6_ofBox_135 : decode cX6_ofBox 135 = .ok (.iaload, 1) := by decide +kernel
theorem dX6_ofBox_136 : decode cX6_ofBox 136 = .ok (.ireturn, 1) := by decide +kernel
theorem dX6_count_0 : decode cX6_count 0 = .ok (.aload_n 0, 1) := by decide +kernel
theorem dX6_count_1 : decode cX6_count 1 = .ok (.getfield 12, 3) := by decide +kernel
theorem dX6_count_4 : decode cX6_count 4 = .ok (.getfield 79, 3) := by decide +kernel
theorem dX6_count_7 : decode cX6_count 7 = .ok (.astore_n 2, 1) := by decide +kernel
theorem dX6_count_8 : decode cX6_count 8 = .ok (.iload_n 1, 1) := by decide +kernel
theorem dX6_count_9 : decode cX6_count 9 = .ok (.tableswitch 233 0 16 #[83, 91, 102, 113, 118, 124, 130, 136, 145, 154, 163, 179, 190, 198, 203, 213, 223], 83) := by decide +kernel
theorem dX6_count_92 : decode cX6_count 92 = .ok (.aload_n 0, 1) := by decide +kernel
theorem dX6_count_93 : decode cX6_count 93 = .ok (.getfield 12, 3) := by decide +kernel
theorem dX6_count_96 : decode cX6_count 96 = .ok (.getfield 113, 3) := by decide +kernel
theorem dX6_count_99 : decode cX6_count 99 = .ok (.ireturn, 1) := by decide +kernel
theorem dX6_count_100 : decode cX6_count 100 = .ok (.aload_n 0, 1) := by decide +kernel
theorem dX6_count_101 : decode cX6_count 101 = .ok (.getfield 12, 3) := by decide +kernel
theorem dX6_count_104 : decode cX6_count 104 = .ok (.getfield 88, 3) := by decide +kernel
theorem dX6_count_107 : decode cX6_count 107 = .ok (.invokevirtual 98, 3) := by decide +kernel
theorem dX6_count_110 : decode cX6_count 110 = .ok (.ireturn, 1) := by decide +kernel
theorem dX6_count_111 : decode cX6_count 111 = .ok (.aload_n 0, 1) := by decide +kernel
theorem dX6_count_112 : decode cX6_count 112 = .ok (.getfield 12, 3) := by decide +kernel
theorem dX6_count_115 : decode cX6_count 115 = .ok (.getfield 88, 3) := by decide +kernel
theorem dX6_count_118 : decode cX6_count 118 = .ok (.getfield 181, 3) := by decide +kernel
theorem dX6_count_121 : decode cX6_count 121 = .ok (.ireturn, 1) := by decide +kernel
theorem dX6_count_122 : decode cX6_count 122 = .ok (.aload_n 2, 1) := by decide +kernel
theorem dX6_count_123 : decode cX6_count 123 = .ok (.getfield 83, 3) := by decide +kernel
theorem dX6_count_126 : decode cX6_count 126 = .ok (.ireturn, 1) := by decide +kernel
theorem dX6_count_127 : decode cX6_count 127 = .ok (.aload_n 2, 1) := by decide +kernel
theorem dX6_count_128 : decode cX6_count 128 = .ok (.iconst 0, 1) := by decide +kernel
theorem dX6_count_129 : decode cX6_count 129 = .ok (.invokevirtual 184, 3) := by decide +kernel
theorem dX6_count_132 : decode cX6_count 132 = .ok (.ireturn, 1) := by decide +kernel
theorem dX6_count_133 : decode cX6_count 133 = .ok (.aload_n 2, 1) := by decide +kernel
theorem dX6_count_134 : decode cX6_count 134 = .ok (.iconst 1, 1) := by decide +kernel
theorem dX6_count_135 : decode cX6_count 135 = .ok (.invokevirtual 184, 3) := by decide +kernel
theorem dX6_count_138 : decode cX6_count 138 = .ok (.ireturn, 1) := by decide +kernel
theorem dX6_count_139 : decode cX6_count 139 = .ok (.aload_n 2, 1) := by decide +kernel
theorem dX6_count_140 : decode cX6_count 140 = .ok (.iconst 2, 1) := by decide +kernel
theorem dX6_count_141 : decode cX6_count 141 = .ok (.invokevirtual 184, 3) := by decide +kernel
theorem dX6_count_144 : decode cX6_count 144 = .ok (.ireturn, 1) := by decide +kernel
theorem dX6_count_145 : decode cX6_count 145 = .ok (.aload_n 2, 1) := by decide +kernel
theorem dX6_count_146 : decode cX6_count 146 = .ok (.aload_n 2, 1) := by decide +kernel
theorem dX6_count_147 : decode cX6_count 147 = .ok (.getfield 141, 3) := by decide +kernel
theorem dX6_count_150 : decode cX6_count 150 = .ok (.invokevirtual 187, 3) := by decide +kernel
theorem dX6_count_153 : decode cX6_count 153 = .ok (.ireturn, 1) := by decide +kernel
theorem dX6_count_154 : decode cX6_count 154 = .ok (.aload_n 2, 1) := by decide +kernel
theorem dX6_count_155 : decode cX6_count 155 = .ok (.aload_n 2, 1) := by decide +kernel
theorem dX6_count_156 : decode cX6_count 156 = .ok (.getfield 144, 3) := by decide +kernel
theorem dX6_count_159 : decode cX6_count 159 = .ok (.invokevirtual 187, 3) := by decide +kernel
theorem dX6_count_162 : decode cX6_count 162 = .ok (.ireturn, 1) := by decide +kernel
theorem dX6_count_163 : decode cX6_count 163 = .ok (.aload_n 2, 1) := by decide +kernel
theorem dX6_count_164 : decode cX6_count 164 = .ok (.aload_n 2, 1) := by decide +kernel
theorem dX6_count_165 : decode cX6_count 165 = .ok (.getfield 147, 3) := by decide +kernel
theorem dX6_count_168 : decode cX6_count 168 = .ok (.invokevirtual 187, 3) := by decide +kernel
theorem dX6_count_171 : decode cX6_count 171 = .ok (.ireturn, 1) := by decide +kernel
theorem dX6_count_172 : decode cX6_count 172 = .ok (.aload_n 0, 1) := by decide +kernel
theorem dX6_count_173 : decode cX6_count 173 = .ok (.getfield 32, 3) := by decide +kernel
theorem dX6_count_176 : decode cX6_count 176 = .ok (.aload_n 0, 1) := by decide +kernel
theorem dX6_count_177 : decode cX6_count 177 = .ok (.getfield 12, 3) := by decide +kernel
theorem dX6_count_180 : decode cX6_count 180 = .ok (.aload_n 0, 1) := by decide +kernel
theorem dX6_count_181 : decode cX6_count 181 = .ok (.getfield 19, 3) := by decide +kernel
theorem dX6_count_184 : decode cX6_count 184 = .ok (.invokevirtual 191, 3) := by decide +kernel
theorem dX6_count_187 : decode cX6_count 187 = .ok (.ireturn, 1) := by decide +kernel
theorem dX6_count_188 : decode cX6_count 188 = .ok (.aload_n 0, 1) := by decide +kernel
theorem dX6_count_189 : decode cX6_count 189 = .ok (.getfield 12, 3) := by decide +kernel
theorem dX6_count_192 : decode cX6_count 192 = .ok (.getfield 88, 3) := by decide +kernel
theorem dX6_count_195 : decode cX6_count 195 = .ok (.invokevirtual 195, 3) := by decide +kernel
theorem dX6_count_198 : decode cX6_count 198 = .ok (.ireturn, 1) := by decide +kernel
theorem dX6_count_199 : decode cX6_count 199 = .ok (.aload_n 0, 1) := by decide +kernel
theorem dX6_count_200 : decode cX6_count 200 = .ok (.getfield 39, 3) := by decide +kernel
theorem dX6_count_203 : decode cX6_count 203 = .ok (.getfield 198, 3) := by decide +kernel
theorem dX6_count_206 : decode cX6_count 206 = .ok (.ireturn, 1) := by decide +kernel
theorem dX6_count_207 : decode cX6_count 207 = .ok (.aload_n 0, 1) := by decide +kernel
theorem dX6_count_208 : decode cX6_count 208 = .ok (.getfield 47, 3) := by decide +kernel
theorem dX6_count_211 : decode cX6_count 211 = .ok (.ireturn, 1) := by decide +kernel
theorem dX6_count_212 : decode cX6_count 212 = .ok (.aload_n 0, 1) := by decide +kernel
theorem dX6_count_213 : decode cX6_count 213 = .ok (.getfield 12, 3) := by decide +kernel
theorem dX6_count_216 : decode cX6_count 216 = .ok (.getfield 71, 3) := by decide +kernel
theorem dX6_count_219 : decode cX6_count 219 = .ok (.iconst 0, 1) := by decide +kernel
theorem dX6_count_220 : decode cX6_count 220 = .ok (.iaload, 1) := by decide +kernel
theorem dX6_count_221 : decode cX6_count 221 = .ok (.ireturn, 1) := by decide +kernel
theorem dX6_count_222 : decode cX6_count 222 = .ok (.aload_n 0, 1) := by decide +kernel
theorem dX6_count_223 : decode cX6_count 223 = .ok (.getfield 12, 3) := by decide +kernel
theorem dX6_count_226 : decode cX6_count 226 = .ok (.getfield 71, 3) := by decide +kernel
theorem dX6_count_229 : decode cX6_count 229 = .ok (.iconst 1, 1) := by decide +kernel
theorem dX6_count_230 : decode cX6_count 230 = .ok (.iaload, 1) := by decide +kernel
theorem dX6_count_231 : decode cX6_count 231 = .ok (.ireturn, 1) := by decide +kernel
theorem dX6_count_232 : decode cX6_count 232 = .ok (.aload_n 0, 1) := by decide +kernel
theorem dX6_count_233 : decode cX6_count 233 = .ok (.getfield 12, 3) := by decide +kernel
theorem dX6_count_236 : decode cX6_count 236 = .ok (.getfield 71, 3) := by decide +kernel
theorem dX6_count_239 : decode cX6_count 239 = .ok (.iconst 2, 1) := by decide +kernel
theorem dX6_count_240 : decode cX6_count 240 = .ok (.iaload, 1) := by decide +kernel
theorem dX6_count_241 : decode cX6_count 241 = .ok (.ireturn, 1) := by decide +kernel
theorem dX6_count_242 : decode cX6_count 242 = .ok (.bipush (-2), 2) := by decide +kernel
theorem dX6_count_244 : decode cX6_count 244 = .ok (.ireturn, 1) := by decide +kernel
theorem dX6_leastWay_0 : decode cX6_leastWay 0 = .ok (.aload_n 0, 1) := by decide +kernel
theorem dX6_leastWay_1 : decode cX6_leastWay 1 = .ok (.getfield 12, 3) := by decide +kernel
theorem dX6_leastWay_4 : decode cX6_leastWay 4 = .ok (.getfield 88, 3) := by decide +kernel
theorem dX6_leastWay_7 : decode cX6_leastWay 7 = .ok (.iload_n 1, 1) := by decide +kernel
theorem dX6_leastWay_8 : decode cX6_leastWay 8 = .ok (.invokevirtual 171, 3) := by decide +kernel
theorem dX6_leastWay_11 : decode cX6_leastWay 11 = .ok (.ifCond .eq 17, 3) := by decide +kernel
theorem dX6_leastWay_14 : decode cX6_leastWay 14 = .ok (.aload_n 0, 1) := by decide +kernel
theorem dX6_leastWay_15 : decode cX6_leastWay 15 = .ok (.getfield 12, 3) := by decide +kernel
theorem dX6_leastWay_18 : decode cX6_leastWay 18 = .ok (.getfield 88, 3) := by decide +kernel
theorem dX6_leastWay_21 : decode cX6_leastWay 21 = .ok (.iload_n 2, 1) := by decide +kernel
theorem dX6_leastWay_22 : decode cX6_leastWay 22 = .ok (.invokevirtual 171, 3) := by decide +kernel
theorem dX6_leastWay_25 : decode cX6_leastWay 25 = .ok (.ifCond .ne 5, 3) := by decide +kernel
theorem dX6_leastWay_28 : decode cX6_leastWay 28 = .ok (.iconst (-1), 1) := by decide +kernel
theorem dX6_leastWay_29 : decode cX6_leastWay 29 = .ok (.ireturn, 1) := by decide +kernel
theorem dX6_leastWay_30 : decode cX6_leastWay 30 = .ok (.aload_n 0, 1) := by decide +kernel
theorem dX6_leastWay_31 : decode cX6_leastWay 31 = .ok (.getfield 12, 3) := by decide +kernel
theorem dX6_leastWay_34 : decode cX6_leastWay 34 = .ok (.aload_n 0, 1) := by decide +kernel
theorem dX6_leastWay_35 : decode cX6_leastWay 35 = .ok (.getfield 19, 3) := by decide +kernel
theorem dX6_leastWay_38 : decode cX6_leastWay 38 = .ok (.iload_n 1, 1) := by decide +kernel
theorem dX6_leastWay_39 : decode cX6_leastWay 39 = .ok (.iload_n 2, 1) := by decide +kernel
theorem dX6_leastWay_40 : decode cX6_leastWay 40 = .ok (.invokevirtual 201, 3) := by decide +kernel
theorem dX6_leastWay_43 : decode cX6_leastWay 43 = .ok (.ireturn, 1) := by decide +kernel
theorem dX6_ways_0 : decode cX6_ways 0 = .ok (.aload_n 0, 1) := by decide +kernel
theorem dX6_ways_1 : decode cX6_ways 1 = .ok (.getfield 12, 3) := by decide +kernel
theorem dX6_ways_4 : decode cX6_ways 4 = .ok (.getfield 88, 3) := by decide +kernel
theorem dX6_ways_7 : decode cX6_ways 7 = .ok (.iload_n 1, 1) := by decide +kernel
theorem dX6_ways_8 : decode cX6_ways 8 = .ok (.invokevirtual 171, 3) := by decide +kernel
theorem dX6_ways_11 : decode cX6_ways 11 = .ok (.ifCond .eq 17, 3) := by decide +kernel
theorem dX6_ways_14 : decode cX6_ways 14 = .ok (.aload_n 0, 1) := by decide +kernel
theorem dX6_ways_15 : decode cX6_ways 15 = .ok (.getfield 12, 3) := by decide +kernel
theorem dX6_ways_18 : decode cX6_ways 18 = .ok (.getfield 88, 3) := by decide +kernel
theorem dX6_ways_21 : decode cX6_ways 21 = .ok (.iload_n 2, 1) := by decide +kernel
theorem dX6_ways_22 : decode cX6_ways 22 = .ok (.invokevirtual 171, 3) := by decide +kernel
theorem dX6_ways_25 : decode cX6_ways 25 = .ok (.ifCond .ne 5, 3) := by decide +kernel
theorem dX6_ways_28 : decode cX6_ways 28 = .ok (.iconst (-1), 1) := by decide +kernel
theorem dX6_ways_29 : decode cX6_ways 29 = .ok (.ireturn, 1) := by decide +kernel
theorem dX6_ways_30 : decode cX6_ways 30 = .ok (.aload_n 0, 1) := by decide +kernel
theorem dX6_ways_31 : decode cX6_ways 31 = .ok (.getfield 12, 3) := by decide +kernel
theorem dX6_ways_34 : decode cX6_ways 34 = .ok (.aload_n 0, 1) := by decide +kernel
theorem dX6_ways_35 : decode cX6_ways 35 = .ok (.getfield 19, 3) := by decide +kernel
theorem dX6_ways_38 : decode cX6_ways 38 = .ok (.iload_n 1, 1) := by decide +kernel
theorem dX6_ways_39 : decode cX6_ways 39 = .ok (.iload_n 2, 1) := by decide +kernel
theorem dX6_ways_40 : decode cX6_ways 40 = .ok (.invokevirtual 201, 3) := by decide +kernel
theorem dX6_ways_43 : decode cX6_ways 43 = .ok (.bipush (-6), 2) := by decide +kernel
theorem dX6_ways_45 : decode cX6_ways 45 = .ok (.if_icmp .ne 5, 3) := by decide +kernel
theorem dX6_ways_48 : decode cX6_ways 48 = .ok (.iconst 0, 1) := by decide +kernel
theorem dX6_ways_49 : decode cX6_ways 49 = .ok (.ireturn, 1) := by decide +kernel
theorem dX6_ways_50 : decode cX6_ways 50 = .ok (.aload_n 0, 1) := by decide +kernel
theorem dX6_ways_51 : decode cX6_ways 51 = .ok (.getfield 19, 3) := by decide +kernel
theorem dX6_ways_54 : decode cX6_ways 54 = .ok (.iload_n 1, 1) := by decide +kernel
theorem dX6_ways_55 : decode cX6_ways 55 = .ok (.iload_n 2, 1) := by decide +kernel
theorem dX6_ways_56 : decode cX6_ways 56 = .ok (.invokevirtual 205, 3) := by decide +kernel
theorem dX6_ways_59 : decode cX6_ways 59 = .ok (.ireturn, 1) := by decide +kernel
theorem dX6_pairs_0 : decode cX6_pairs 0 = .ok (.aload_n 0, 1) := by decide +kernel
theorem dX6_pairs_1 : decode cX6_pairs 1 = .ok (.getfield 12, 3) := by decide +kernel
theorem dX6_pairs_4 : decode cX6_pairs 4 = .ok (.aload_n 0, 1) := by decide +kernel
theorem dX6_pairs_5 : decode cX6_pairs 5 = .ok (.getfield 19, 3) := by decide +kernel
theorem dX6_pairs_8 : decode cX6_pairs 8 = .ok (.invokevirtual 208, 3) := by decide +kernel
theorem dX6_pairs_11 : decode cX6_pairs 11 = .ok (.ireturn, 1) := by decide +kernel
theorem dX6_worstLink_0 : decode cX6_worstLink 0 = .ok (.iload_n 1, 1) := by decide +kernel
theorem dX6_worstLink_1 : decode cX6_worstLink 1 = .ok (.ifCond .lt 8, 3) := by decide +kernel
theorem dX6_worstLink_4 : decode cX6_worstLink 4 = .ok (.iload_n 1, 1) := by decide +kernel
theorem dX6_worstLink_5 : decode cX6_worstLink 5 = .ok (.iconst 2, 1) := by decide +kernel
theorem dX6_worstLink_6 : decode cX6_worstLink 6 = .ok (.if_icmp .le 6, 3) := by decide +kernel
theorem dX6_worstLink_9 : decode cX6_worstLink 9 = .ok (.bipush (-2), 2) := by decide +kernel
theorem dX6_worstLink_11 : decode cX6_worstLink 11 = .ok (.ireturn, 1) := by decide +kernel
theorem dX6_worstLink_12 : decode cX6_worstLink 12 = .ok (.aload_n 0, 1) := by decide +kernel
theorem dX6_worstLink_13 : decode cX6_worstLink 13 = .ok (.invokevirtual 212, 3) := by decide +kernel
theorem dX6_worstLink_16 : decode cX6_worstLink 16 = .ok (.istore_n 2, 1) := by decide +kernel
theorem dX6_worstLink_17 : decode cX6_worstLink 17 = .ok (.iload_n 2, 1) := by decide +kernel
theorem dX6_worstLink_18 : decode cX6_worstLink 18 = .ok (.iconst (-1), 1) := by decide +kernel
theorem dX6_worstLink_19 : decode cX6_worstLink 19 = .ok (.if_icmp .ne 6, 3) := by decide +kernel
theorem dX6_worstLink_22 : decode cX6_worstLink 22 = .ok (.bipush (-6), 2) := by decide +kernel
theorem dX6_worstLink_24 : decode cX6_worstLink 24 = .ok (.ireturn, 1) := by decide +kernel
theorem dX6_worstLink_25 : decode cX6_worstLink 25 = .ok (.iload_n 1, 1) := by decide +kernel
theorem dX6_worstLink_26 : decode cX6_worstLink 26 = .ok (.lookupswitch 36 #[(0, 26), (1, 31)], 26) := by decide +kernel
theorem dX6_worstLink_52 : decode cX6_worstLink 52 = .ok (.iload_n 2, 1) := by decide +kernel
theorem dX6_worstLink_53 : decode cX6_worstLink 53 = .ok (.invokestatic 215, 3) := by decide +kernel
theorem dX6_worstLink_56 : decode cX6_worstLink 56 = .ok (.ireturn, 1) := by decide +kernel
theorem dX6_worstLink_57 : decode cX6_worstLink 57 = .ok (.iload_n 2, 1) := by decide +kernel
theorem dX6_worstLink_58 : decode cX6_worstLink 58 = .ok (.invokestatic 218, 3) := by decide +kernel
theorem dX6_worstLink_61 : decode cX6_worstLink 61 = .ok (.ireturn, 1) := by decide +kernel
theorem dX6_worstLink_62 : decode cX6_worstLink 62 = .ok (.aload_n 0, 1) := by decide +kernel
theorem dX6_worstLink_63 : decode cX6_worstLink 63 = .ok (.iload_n 2, 1) := by decide +kernel
theorem dX6_worstLink_64 : decode cX6_worstLink 64 = .ok (.invokevirtual 221, 3) := by decide +kernel
theorem dX6_worstLink_67 : decode cX6_worstLink 67 = .ok (.ireturn, 1) := by decide +kernel
theorem dX6_busiest_0 : decode cX6_busiest 0 = .ok (.iload_n 1, 1) := by decide +kernel
theorem dX6_busiest_1 : decode cX6_busiest 1 = .ok (.ifCond .lt 8, 3) := by decide +kernel
theorem dX6_busiest_4 : decode cX6_busiest 4 = .ok (.iload_n 1, 1) := by decide +kernel
theorem dX6_busiest_5 : decode cX6_busiest 5 = .ok (.iconst 2, 1) := by decide +kernel
theorem dX6_busiest_6 : decode cX6_busiest 6 = .ok (.if_icmp .le 6, 3) := by decide +kernel
theorem dX6_busiest_9 : decode cX6_busiest 9 = .ok (.bipush (-2), 2) := by decide +kernel
theorem dX6_busiest_11 : decode cX6_busiest 11 = .ok (.ireturn, 1) := by decide +kernel
theorem dX6_busiest_12 : decode cX6_busiest 12 = .ok (.iconst 0, 1) := by decide +kernel
theorem dX6_busiest_13 : decode cX6_busiest 13 = .ok (.istore_n 2, 1) := by decide +kernel
theorem dX6_busiest_14 : decode cX6_busiest 14 = .ok (.iconst 1, 1) := by decide +kernel
theorem dX6_busiest_15 : decode cX6_busiest 15 = .ok (.istore_n 3, 1) := by decide +kernel
theorem dX6_busiest_16 : decode cX6_busiest 16 = .ok (.iload_n 3, 1) := by decide +kernel
theorem dX6_busiest_17 : decode cX6_busiest 17 = .ok (.bipush 100, 2) := by decide +kernel
theorem dX6_busiest_19 : decode cX6_busiest 19 = .ok (.if_icmp .ge 32, 3) := by decide +kernel
theorem dX6_busiest_22 : decode cX6_busiest 22 = .ok (.aload_n 0, 1) := by decide +kernel
theorem dX6_busiest_23 : decode cX6_busiest 23 = .ok (.getfield 12, 3) := by decide +kernel
theorem dX6_busiest_26 : decode cX6_busiest 26 = .ok (.getfield 178, 3) := by decide +kernel
theorem dX6_busiest_29 : decode cX6_busiest 29 = .ok (.iload_n 3, 1) := by decide +kernel
theorem dX6_busiest_30 : decode cX6_busiest 30 = .ok (.iaload, 1) := by decide +kernel
theorem dX6_busiest_31 : decode cX6_busiest 31 = .ok (.aload_n 0, 1) := by decide +kernel
theorem dX6_busiest_32 : decode cX6_busiest 32 = .ok (.getfield 12, 3) := by decide +kernel
theorem dX6_busiest_35 : decode cX6_busiest 35 = .ok (.getfield 178, 3) := by decide +kernel
theorem dX6_busiest_38 : decode cX6_busiest 38 = .ok (.iload_n 2, 1) := by decide +kernel
theorem dX6_busiest_39 : decode cX6_busiest 39 = .ok (.iaload, 1) := by decide +kernel
theorem dX6_busiest_40 : decode cX6_busiest 40 = .ok (.if_icmp .le 5, 3) := by decide +kernel
theorem dX6_busiest_43 : decode cX6_busiest 43 = .ok (.iload_n 3, 1) := by decide +kernel
theorem dX6_busiest_44 : decode cX6_busiest 44 = .ok (.istore_n 2, 1) := by decide +kernel
theorem dX6_busiest_45 : decode cX6_busiest 45 = .ok (.iinc 3 1, 3) := by decide +kernel
theorem dX6_busiest_48 : decode cX6_busiest 48 = .ok (.goto (-32), 3) := by decide +kernel
theorem dX6_busiest_51 : decode cX6_busiest 51 = .ok (.aload_n 0, 1) := by decide +kernel
theorem dX6_busiest_52 : decode cX6_busiest 52 = .ok (.getfield 12, 3) := by decide +kernel
theorem dX6_busiest_55 : decode cX6_busiest 55 = .ok (.getfield 178, 3) := by decide +kernel
theorem dX6_busiest_58 : decode cX6_busiest 58 = .ok (.iload_n 2, 1) := by decide +kernel
theorem dX6_busiest_59 : decode cX6_busiest 59 = .ok (.iaload, 1) := by decide +kernel
theorem dX6_busiest_60 : decode cX6_busiest 60 = .ok (.ifCond .ne 6, 3) := by decide +kernel
theorem dX6_busiest_63 : decode cX6_busiest 63 = .ok (.bipush (-6), 2) := by decide +kernel
theorem dX6_busiest_65 : decode cX6_busiest 65 = .ok (.ireturn, 1) := by decide +kernel
theorem dX6_busiest_66 : decode cX6_busiest 66 = .ok (.iload_n 1, 1) := by decide +kernel
theorem dX6_busiest_67 : decode cX6_busiest 67 = .ok (.lookupswitch 33 #[(0, 25), (1, 29)], 25) := by decide +kernel
theorem dX6_busiest_92 : decode cX6_busiest 92 = .ok (.iload_n 2, 1) := by decide +kernel
theorem dX6_busiest_93 : decode cX6_busiest 93 = .ok (.iconst 4, 1) := by decide +kernel
theorem dX6_busiest_94 : decode cX6_busiest 94 = .ok (.idiv, 1) := by decide +kernel
theorem dX6_busiest_95 : decode cX6_busiest 95 = .ok (.ireturn, 1) := by decide +kernel
theorem dX6_busiest_96 : decode cX6_busiest 96 = .ok (.iload_n 2, 1) := by decide +kernel
theorem dX6_busiest_97 : decode cX6_busiest 97 = .ok (.iconst 4, 1) := by decide +kernel
theorem dX6_busiest_98 : decode cX6_busiest 98 = .ok (.irem, 1) := by decide +kernel
theorem dX6_busiest_99 : decode cX6_busiest 99 = .ok (.ireturn, 1) := by decide +kernel
theorem dX6_busiest_100 : decode cX6_busiest 100 = .ok (.aload_n 0, 1) := by decide +kernel
theorem dX6_busiest_101 : decode cX6_busiest 101 = .ok (.getfield 12, 3) := by decide +kernel
theorem dX6_busiest_104 : decode cX6_busiest 104 = .ok (.getfield 178, 3) := by decide +kernel
theorem dX6_busiest_107 : decode cX6_busiest 107 = .ok (.iload_n 2, 1) := by decide +kernel
theorem dX6_busiest_108 : decode cX6_busiest 108 = .ok (.iaload, 1) := by decide +kernel
theorem dX6_busiest_109 : decode cX6_busiest 109 = .ok (.ireturn, 1) := by decide +kernel
theorem dX6_arrivesIn_0 : decode cX6_arrivesIn 0 = .ok (.aload_n 0, 1) := by decide +kernel
theorem dX6_arrivesIn_1 : decode cX6_arrivesIn 1 = .ok (.getfield 12, 3) := by decide +kernel
theorem dX6_arrivesIn_4 : decode cX6_arrivesIn 4 = .ok (.getfield 79, 3) := by decide +kernel
theorem dX6_arrivesIn_7 : decode cX6_arrivesIn 7 = .ok (.iload_n 1, 1) := by decide +kernel
theorem dX6_arrivesIn_8 : decode cX6_arrivesIn 8 = .ok (.invokevirtual 126, 3) := by decide +kernel
theorem dX6_arrivesIn_11 : decode cX6_arrivesIn 11 = .ok (.ifCond .ne 5, 3) := by decide +kernel
theorem dX6_arrivesIn_14 : decode cX6_arrivesIn 14 = .ok (.iconst (-1), 1) := by decide +kernel
theorem dX6_arrivesIn_15 : decode cX6_arrivesIn 15 = .ok (.ireturn, 1) := by decide +kernel
theorem dX6_arrivesIn_16 : decode cX6_arrivesIn 16 = .ok (.aload_n 0, 1) := by decide +kernel
theorem dX6_arrivesIn_17 : decode cX6_arrivesIn 17 = .ok (.getfield 12, 3) := by decide +kernel
theorem dX6_arrivesIn_20 : decode cX6_arrivesIn 20 = .ok (.aload_n 0, 1) := by decide +kernel
theorem dX6_arrivesIn_21 : decode cX6_arrivesIn 21 = .ok (.getfield 23, 3) := by decide +kernel
theorem dX6_arrivesIn_24 : decode cX6_arrivesIn 24 = .ok (.invokestatic 224, 3) := by decide +kernel
theorem dX6_arrivesIn_27 : decode cX6_arrivesIn 27 = .ok (.iconst 0, 1) := by decide +kernel
theorem dX6_arrivesIn_28 : decode cX6_arrivesIn 28 = .ok (.istore_n 2, 1) := by decide +kernel
theorem dX6_arrivesIn_29 : decode cX6_arrivesIn 29 = .ok (.iload_n 2, 1) := by decide +kernel
theorem dX6_arrivesIn_30 : decode cX6_arrivesIn 30 = .ok (.sipush 300, 3) := by decide +kernel
theorem dX6_arrivesIn_33 : decode cX6_arrivesIn 33 = .ok (.if_icmp .gt 39, 3) := by decide +kernel
theorem dX6_arrivesIn_36 : decode cX6_arrivesIn 36 = .ok (.aload_n 0, 1) := by decide +kernel
theorem dX6_arrivesIn_37 : decode cX6_arrivesIn 37 = .ok (.getfield 23, 3) := by decide +kernel
theorem dX6_arrivesIn_40 : decode cX6_arrivesIn 40 = .ok (.getfield 79, 3) := by decide +kernel
theorem dX6_arrivesIn_43 : decode cX6_arrivesIn 43 = .ok (.getfield 135, 3) := by decide +kernel
theorem dX6_arrivesIn_46 : decode cX6_arrivesIn 46 = .ok (.iload_n 1, 1) := by decide +kernel
theorem dX6_arrivesIn_47 : decode cX6_arrivesIn 47 = .ok (.iaload, 1) := by decide +kernel
theorem dX6_arrivesIn_48 : decode cX6_arrivesIn 48 = .ok (.iconst 2, 1) := by decide +kernel
theorem dX6_arrivesIn_49 : decode cX6_arrivesIn 49 = .ok (.if_icmp .ne 5, 3) := by decide +kernel
theorem dX6_arrivesIn_52 : decode cX6_arrivesIn 52 = .ok (.iload_n 2, 1) := by decide +kernel
theorem dX6_arrivesIn_53 : decode cX6_arrivesIn 53 = .ok (.ireturn, 1) := by decide +kernel
theorem dX6_arrivesIn_54 : decode cX6_arrivesIn 54 = .ok (.aload_n 0, 1) := by decide +kernel
theorem dX6_arrivesIn_55 : decode cX6_arrivesIn 55 = .ok (.getfield 23, 3) := by decide +kernel
theorem dX6_arrivesIn_58 : decode cX6_arrivesIn 58 = .ok (.aload_n 0, 1) := by decide +kernel
theorem dX6_arrivesIn_59 : decode cX6_arrivesIn 59 = .ok (.getfield 19, 3) := by decide +kernel
theorem dX6_arrivesIn_62 : decode cX6_arrivesIn 62 = .ok (.iconst 1, 1) := by decide +kernel
theorem dX6_arrivesIn_63 : decode cX6_arrivesIn 63 = .ok (.invokevirtual 122, 3) := by decide +kernel
theorem dX6_arrivesIn_66 : decode cX6_arrivesIn 66 = .ok (.iinc 2 1, 3) := by decide +kernel
theorem dX6_arrivesIn_69 : decode cX6_arrivesIn 69 = .ok (.goto (-40), 3) := by decide +kernel
theorem dX6_arrivesIn_72 : decode cX6_arrivesIn 72 = .ok (.bipush (-6), 2) := by decide +kernel
theorem dX6_arrivesIn_74 : decode cX6_arrivesIn 74 = .ok (.ireturn, 1) := by decide +kernel
theorem dX6_arrivedBy_0 : decode cX6_arrivedBy 0 = .ok (.iload_n 1, 1) := by decide +kernel
theorem dX6_arrivedBy_1 : decode cX6_arrivedBy 1 = .ok (.invokestatic 119, 3) := by decide +kernel
theorem dX6_arrivedBy_4 : decode cX6_arrivedBy 4 = .ok (.ifCond .ne 6, 3) := by decide +kernel
theorem dX6_arrivedBy_7 : decode cX6_arrivedBy 7 = .ok (.bipush (-2), 2) := by decide +kernel
theorem dX6_arrivedBy_9 : decode cX6_arrivedBy 9 = .ok (.ireturn, 1) := by decide +kernel
theorem dX6_arrivedBy_10 : decode cX6_arrivedBy 10 = .ok (.aload_n 0, 1) := by decide +kernel
theorem dX6_arrivedBy_11 : decode cX6_arrivedBy 11 = .ok (.getfield 12, 3) := by decide +kernel
theorem dX6_arrivedBy_14 : decode cX6_arrivedBy 14 = .ok (.aload_n 0, 1) := by decide +kernel
theorem dX6_arrivedBy_15 : decode cX6_arrivedBy 15 = .ok (.getfield 23, 3) := by decide +kernel
theorem dX6_arrivedBy_18 : decode cX6_arrivedBy 18 = .ok (.invokestatic 224, 3) := by decide +kernel
theorem dX6_arrivedBy_21 : decode cX6_arrivedBy 21 = .ok (.aload_n 0, 1) := by decide +kernel
theorem dX6_arrivedBy_22 : decode cX6_arrivedBy 22 = .ok (.getfield 23, 3) := by decide +kernel
theorem dX6_arrivedBy_25 : decode cX6_arrivedBy 25 = .ok (.aload_n 0, 1) := by decide +kernel
theorem dX6_arrivedBy_26 : decode cX6_arrivedBy 26 = .ok (.getfield 19, 3) := by decide +kernel
theorem dX6_arrivedBy_29 : decode cX6_arrivedBy 29 = .ok (.iload_n 1, 1) := by decide +kernel
theorem dX6_arrivedBy_30 : decode cX6_arrivedBy 30 = .ok (.invokevirtual 122, 3) := by decide +kernel
theorem dX6_arrivedBy_33 : decode cX6_arrivedBy 33 = .ok (.aload_n 0, 1) := by decide +kernel
theorem dX6_arrivedBy_34 : decode cX6_arrivedBy 34 = .ok (.getfield 23, 3) := by decide +kernel
theorem dX6_arrivedBy_37 : decode cX6_arrivedBy 37 = .ok (.getfield 79, 3) := by decide +kernel
theorem dX6_arrivedBy_40 : decode cX6_arrivedBy 40 = .ok (.iconst 2, 1) := by decide +kernel
theorem dX6_arrivedBy_41 : decode cX6_arrivedBy 41 = .ok (.invokevirtual 184, 3) := by decide +kernel
theorem dX6_arrivedBy_44 : decode cX6_arrivedBy 44 = .ok (.ireturn, 1) := by decide +kernel
theorem dX6_put_0 : decode cX6_put 0 = .ok (.lload_n 1, 1) := by decide +kernel
theorem dX6_put_1 : decode cX6_put 1 = .ok (.invokestatic 228, 3) := by decide +kernel
theorem dX6_put_4 : decode cX6_put 4 = .ok (.istore_n 3, 1) := by decide +kernel
theorem dX6_put_5 : decode cX6_put 5 = .ok (.iload_n 3, 1) := by decide +kernel
theorem dX6_put_6 : decode cX6_put 6 = .ok (.ifCond .ne 6, 3) := by decide +kernel
theorem dX6_put_9 : decode cX6_put 9 = .ok (.bipush (-2), 2) := by decide +kernel
theorem dX6_put_11 : decode cX6_put 11 = .ok (.ireturn, 1) := by decide +kernel
theorem dX6_put_12 : decode cX6_put 12 = .ok (.aload_n 0, 1) := by decide +kernel
theorem dX6_put_13 : decode cX6_put 13 = .ok (.getfield 39, 3) := by decide +kernel
theorem dX6_put_16 : decode cX6_put 16 = .ok (.iload_n 3, 1) := by decide +kernel
theorem dX6_put_17 : decode cX6_put 17 = .ok (.invokevirtual 232, 3) := by decide +kernel
theorem dX6_put_20 : decode cX6_put 20 = .ok (.ifCond .ne 6, 3) := by decide +kernel
theorem dX6_put_23 : decode cX6_put 23 = .ok (.bipush (-4), 2) := by decide +kernel
theorem dX6_put_25 : decode cX6_put 25 = .ok (.ireturn, 1) := by decide +kernel
theorem dX6_put_26 : decode cX6_put 26 = .ok (.aload_n 0, 1) := by decide +kernel
theorem dX6_put_27 : decode cX6_put 27 = .ok (.getfield 39, 3) := by decide +kernel
theorem dX6_put_30 : decode cX6_put 30 = .ok (.lload_n 1, 1) := by decide +kernel
theorem dX6_put_31 : decode cX6_put 31 = .ok (.iload_n 3, 1) := by decide +kernel
theorem dX6_put_32 : decode cX6_put 32 = .ok (.invokevirtual 235, 3) := by decide +kernel
theorem dX6_put_35 : decode cX6_put 35 = .ok (.aload_n 0, 1) := by decide +kernel
theorem dX6_put_36 : decode cX6_put 36 = .ok (.getfield 39, 3) := by decide +kernel
theorem dX6_put_39 : decode cX6_put 39 = .ok (.getfield 198, 3) := by decide +kernel
theorem dX6_put_42 : decode cX6_put 42 = .ok (.ireturn, 1) := by decide +kernel
theorem dX6_wipe_0 : decode cX6_wipe 0 = .ok (.aload_n 0, 1) := by decide +kernel
theorem dX6_wipe_1 : decode cX6_wipe 1 = .ok (.getfield 39, 3) := by decide +kernel
theorem dX6_wipe_4 : decode cX6_wipe 4 = .ok (.getfield 198, 3) := by decide +kernel
theorem dX6_wipe_7 : decode cX6_wipe 7 = .ok (.istore_n 1, 1) := by decide +kernel
theorem dX6_wipe_8 : decode cX6_wipe 8 = .ok (.aload_n 0, 1) := by decide +kernel
theorem dX6_wipe_9 : decode cX6_wipe 9 = .ok (.getfield 39, 3) := by decide +kernel
theorem dX6_wipe_12 : decode cX6_wipe 12 = .ok (.iconst 0, 1) := by decide +kernel
theorem dX6_wipe_13 : decode cX6_wipe 13 = .ok (.putfield 198, 3) := by decide +kernel
theorem dX6_wipe_16 : decode cX6_wipe 16 = .ok (.iload_n 1, 1) := by decide +kernel
theorem dX6_wipe_17 : decode cX6_wipe 17 = .ok (.ireturn, 1) := by decide +kernel
theorem dX6_fault_0 : decode cX6_fault 0 = .ok (.aload_n 0, 1) := by decide +kernel
theorem dX6_fault_1 : decode cX6_fault 1 = .ok (.getfield 39, 3) := by decide +kernel
theorem dX6_fault_4 : decode cX6_fault 4 = .ok (.invokevirtual 239, 3) := by decide +kernel
theorem dX6_fault_7 : decode cX6_fault 7 = .ok (.ireturn, 1) := by decide +kernel
theorem dX6_carryOut_0 : decode cX6_carryOut 0 = .ok (.aload_n 0, 1) := by decide +kernel
theorem dX6_carryOut_1 : decode cX6_carryOut 1 = .ok (.getfield 39, 3) := by decide +kernel
theorem dX6_carryOut_4 : decode cX6_carryOut 4 = .ok (.invokevirtual 239, 3) := by decide +kernel
theorem dX6_carryOut_7 : decode cX6_carryOut 7 = .ok (.bipush (-6), 2) := by decide +kernel
theorem dX6_carryOut_9 : decode cX6_carryOut 9 = .ok (.if_icmp .eq 6, 3) := by decide +kernel
theorem dX6_carryOut_12 : decode cX6_carryOut 12 = .ok (.bipush (-3), 2) := by decide +kernel
theorem dX6_carryOut_14 : decode cX6_carryOut 14 = .ok (.ireturn, 1) := by decide +kernel
theorem dX6_carryOut_15 : decode cX6_carryOut 15 = .ok (.aload_n 0, 1) := by decide +kernel
theorem dX6_carryOut_16 : decode cX6_carryOut 16 = .ok (.invokevirtual 68, 3) := by decide +kernel
theorem dX6_carryOut_19 : decode cX6_carryOut 19 = .ok (.aload_n 0, 1) := by decide +kernel
theorem dX6_carryOut_20 : decode cX6_carryOut 20 = .ok (.getfield 39, 3) := by decide +kernel
theorem dX6_carryOut_23 : decode cX6_carryOut 23 = .ok (.iconst 0, 1) := by decide +kernel
theorem dX6_carryOut_24 : decode cX6_carryOut 24 = .ok (.putfield 198, 3) := by decide +kernel
theorem dX6_carryOut_27 : decode cX6_carryOut 27 = .ok (.iconst 0, 1) := by decide +kernel
theorem dX6_carryOut_28 : decode cX6_carryOut 28 = .ok (.istore_n 1, 1) := by decide +kernel
theorem dX6_carryOut_29 : decode cX6_carryOut 29 = .ok (.iload_n 1, 1) := by decide +kernel
theorem dX6_carryOut_30 : decode cX6_carryOut 30 = .ok (.aload_n 0, 1) := by decide +kernel
theorem dX6_carryOut_31 : decode cX6_carryOut 31 = .ok (.getfield 39, 3) := by decide +kernel
theorem dX6_carryOut_34 : decode cX6_carryOut 34 = .ok (.getfield 242, 3) := by decide +kernel
theorem dX6_carryOut_37 : decode cX6_carryOut 37 = .ok (.if_icmp .ge 19, 3) := by decide +kernel
theorem dX6_carryOut_40 : decode cX6_carryOut 40 = .ok (.aload_n 0, 1) := by decide +kernel
theorem dX6_carryOut_41 : decode cX6_carryOut 41 = .ok (.iload_n 1, 1) := by decide +kernel
theorem dX6_carryOut_42 : decode cX6_carryOut 42 = .ok (.invokevirtual 245, 3) := by decide +kernel
theorem dX6_carryOut_45 : decode cX6_carryOut 45 = .ok (.ifCond .ne 5, 3) := by decide +kernel
theorem dX6_carryOut_48 : decode cX6_carryOut 48 = .ok (.iload_n 1, 1) := by decide +kernel
theorem dX6_carryOut_49 : decode cX6_carryOut 49 = .ok (.ireturn, 1) := by decide +kernel
theorem dX6_carryOut_50 : decode cX6_carryOut 50 = .ok (.iinc 1 1, 3) := by decide +kernel
theorem dX6_carryOut_53 : decode cX6_carryOut 53 = .ok (.goto (-24), 3) := by decide +kernel
theorem dX6_carryOut_56 : decode cX6_carryOut 56 = .ok (.aload_n 0, 1) := by decide +kernel
theorem dX6_carryOut_57 : decode cX6_carryOut 57 = .ok (.getfield 39, 3) := by decide +kernel
theorem dX6_carryOut_60 : decode cX6_carryOut 60 = .ok (.getfield 242, 3) := by decide +kernel
theorem dX6_carryOut_63 : decode cX6_carryOut 63 = .ok (.ireturn, 1) := by decide +kernel
theorem dX6_undo_0 : decode cX6_undo 0 = .ok (.aload_n 0, 1) := by decide +kernel
theorem dX6_undo_1 : decode cX6_undo 1 = .ok (.getfield 47, 3) := by decide +kernel
theorem dX6_undo_4 : decode cX6_undo 4 = .ok (.iconst 1, 1) := by decide +kernel
theorem dX6_undo_5 : decode cX6_undo 5 = .ok (.if_icmp .lt 12, 3) := by decide +kernel
theorem dX6_undo_8 : decode cX6_undo 8 = .ok (.aload_n 0, 1) := by decide +kernel
theorem dX6_undo_9 : decode cX6_undo 9 = .ok (.getfield 47, 3) := by decide +kernel
theorem dX6_undo_12 : decode cX6_undo 12 = .ok (.bipush 6, 2) := by decide +kernel
theorem dX6_undo_14 : decode cX6_undo 14 = .ok (.if_icmp .le 6, 3) := by decide +kernel
theorem dX6_undo_17 : decode cX6_undo 17 = .ok (.bipush (-5), 2) := by decide +kernel
theorem dX6_undo_19 : decode cX6_undo 19 = .ok (.ireturn, 1) := by decide +kernel
theorem dX6_undo_20 : decode cX6_undo 20 = .ok (.aload_n 0, 1) := by decide +kernel
theorem dX6_undo_21 : decode cX6_undo 21 = .ok (.dup, 1) := by decide +kernel
theorem dX6_undo_22 : decode cX6_undo 22 = .ok (.getfield 47, 3) := by decide +kernel
theorem dX6_undo_25 : decode cX6_undo 25 = .ok (.iconst 1, 1) := by decide +kernel
theorem dX6_undo_26 : decode cX6_undo 26 = .ok (.isub, 1) := by decide +kernel
theorem dX6_undo_27 : decode cX6_undo 27 = .ok (.putfield 47, 3) := by decide +kernel
theorem dX6_undo_30 : decode cX6_undo 30 = .ok (.aload_n 0, 1) := by decide +kernel
theorem dX6_undo_31 : decode cX6_undo 31 = .ok (.getfield 43, 3) := by decide +kernel
theorem dX6_undo_34 : decode cX6_undo 34 = .ok (.aload_n 0, 1) := by decide +kernel
theorem dX6_undo_35 : decode cX6_undo 35 = .ok (.getfield 47, 3) := by decide +kernel
theorem dX6_undo_38 : decode cX6_undo 38 = .ok (.aaload, 1) := by decide +kernel
theorem dX6_undo_39 : decode cX6_undo 39 = .ok (.aload_n 0, 1) := by decide +kernel
theorem dX6_undo_40 : decode cX6_undo 40 = .ok (.getfield 12, 3) := by decide +kernel
theorem dX6_undo_43 : decode cX6_undo 43 = .ok (.invokestatic 224, 3) := by decide +kernel
theorem dX6_undo_46 : decode cX6_undo 46 = .ok (.aload_n 0, 1) := by decide +kernel
theorem dX6_undo_47 : decode cX6_undo 47 = .ok (.invokevirtual 58, 3) := by decide +kernel
theorem dX6_undo_50 : decode cX6_undo 50 = .ok (.aload_n 0, 1) := by decide +kernel
theorem dX6_undo_51 : decode cX6_undo 51 = .ok (.getfield 47, 3) := by decide +kernel
theorem dX6_undo_54 : decode cX6_undo 54 = .ok (.ireturn, 1) := by decide +kernel
theorem dX6_save_0 : decode cX6_save 0 = .ok (.iload_n 1, 1) := by decide +kernel
theorem dX6_save_1 : decode cX6_save 1 = .ok (.invokestatic 248, 3) := by decide +kernel
theorem dX6_save_4 : decode cX6_save 4 = .ok (.ifCond .ne 6, 3) := by decide +kernel
theorem dX6_save_7 : decode cX6_save 7 = .ok (.bipush (-2), 2) := by decide +kernel
theorem dX6_save_9 : decode cX6_save 9 = .ok (.ireturn, 1) := by decide +kernel
theorem dX6_save_10 : decode cX6_save 10 = .ok (.aload_n 0, 1) := by decide +kernel
theorem dX6_save_11 : decode cX6_save 11 = .ok (.getfield 12, 3) := by decide +kernel
theorem dX6_save_14 : decode cX6_save 14 = .ok (.aload_n 0, 1) := by decide +kernel
theorem dX6_save_15 : decode cX6_save 15 = .ok (.getfield 51, 3) := by decide +kernel
theorem dX6_save_18 : decode cX6_save 18 = .ok (.iload_n 1, 1) := by decide +kernel
theorem dX6_save_19 : decode cX6_save 19 = .ok (.aaload, 1) := by decide +kernel
theorem dX6_save_20 : decode cX6_save 20 = .ok (.invokestatic 224, 3) := by decide +kernel
theorem dX6_save_23 : decode cX6_save 23 = .ok (.aload_n 0, 1) := by decide +kernel
theorem dX6_save_24 : decode cX6_save 24 = .ok (.getfield 54, 3) := by decide +kernel
theorem dX6_save_27 : decode cX6_save 27 = .ok (.iload_n 1, 1) := by decide +kernel
theorem dX6_save_28 : decode cX6_save 28 = .ok (.iconst 1, 1) := by decide +kernel
theorem dX6_save_29 : decode cX6_save 29 = .ok (.bastore, 1) := by decide +kernel
theorem dX6_save_30 : decode cX6_save 30 = .ok (.aload_n 0, 1) := by decide +kernel
theorem dX6_save_31 : decode cX6_save 31 = .ok (.getfield 12, 3) := by decide +kernel
theorem dX6_save_34 : decode cX6_save 34 = .ok (.getfield 113, 3) := by decide +kernel
theorem dX6_save_37 : decode cX6_save 37 = .ok (.ireturn, 1) := by decide +kernel
theorem dX6_restore_0 : decode cX6_restore 0 = .ok (.iload_n 1, 1) := by decide +kernel
theorem dX6_restore_1 : decode cX6_restore 1 = .ok (.invokestatic 248, 3) := by decide +kernel
theorem dX6_restore_4 : decode cX6_restore 4 = .ok (.ifCond .ne 6, 3) := by decide +kernel
theorem dX6_restore_7 : decode cX6_restore 7 = .ok (.bipush (-2), 2) := by decide +kernel
theorem dX6_restore_9 : decode cX6_restore 9 = .ok (.ireturn, 1) := by decide +kernel
theorem dX6_restore_10 : decode cX6_restore 10 = .ok (.aload_n 0, 1) := by decide +kernel
theorem dX6_restore_11 : decode cX6_restore 11 = .ok (.getfield 54, 3) := by decide +kernel
theorem dX6_restore_14 : decode cX6_restore 14 = .ok (.iload_n 1, 1) := by decide +kernel
theorem dX6_restore_15 : decode cX6_restore 15 = .ok (.baload, 1) := by decide +kernel
theorem dX6_restore_16 : decode cX6_restore 16 = .ok (.ifCond .ne 6, 3) := by decide +kernel
theorem dX6_restore_19 : decode cX6_restore 19 = .ok (.bipush (-5), 2) := by decide +kernel
theorem dX6_restore_21 : decode cX6_restore 21 = .ok (.ireturn, 1) := by decide +kernel
theorem dX6_restore_22 : decode cX6_restore 22 = .ok (.aload_n 0, 1) := by decide +kernel
theorem dX6_restore_23 : decode cX6_restore 23 = .ok (.invokevirtual 68, 3) := by decide +kernel
theorem dX6_restore_26 : decode cX6_restore 26 = .ok (.aload_n 0, 1) := by decide +kernel
theorem dX6_restore_27 : decode cX6_restore 27 = .ok (.getfield 51, 3) := by decide +kernel
theorem dX6_restore_30 : decode cX6_restore 30 = .ok (.iload_n 1, 1) := by decide +kernel
theorem dX6_restore_31 : decode cX6_restore 31 = .ok (.aaload, 1) := by decide +kernel
theorem dX6_restore_32 : decode cX6_restore 32 = .ok (.aload_n 0, 1) := by decide +kernel
theorem dX6_restore_33 : decode cX6_restore 33 = .ok (.getfield 12, 3) := by decide +kernel
theorem dX6_restore_36 : decode cX6_restore 36 = .ok (.invokestatic 224, 3) := by decide +kernel
theorem dX6_restore_39 : decode cX6_restore 39 = .ok (.aload_n 0, 1) := by decide +kernel
theorem dX6_restore_40 : decode cX6_restore 40 = .ok (.invokevirtual 58, 3) := by decide +kernel
theorem dX6_restore_43 : decode cX6_restore 43 = .ok (.aload_n 0, 1) := by decide +kernel
theorem dX6_restore_44 : decode cX6_restore 44 = .ok (.getfield 12, 3) := by decide +kernel
theorem dX6_restore_47 : decode cX6_restore 47 = .ok (.getfield 113, 3) := by decide +kernel
theorem dX6_restore_50 : decode cX6_restore 50 = .ok (.ireturn, 1) := by decide +kernel
theorem dX6_leastOfSetting_0 : decode cX6_leastOfSetting 0 = .ok (.iload_n 0, 1) := by decide +kernel
theorem dX6_leastOfSetting_1 : decode cX6_leastOfSetting 1 = .ok (.iconst 2, 1) := by decide +kernel
theorem dX6_leastOfSetting_2 : decode cX6_leastOfSetting 2 = .ok (.if_icmp .ne 7, 3) := by decide +kernel
theorem dX6_leastOfSetting_5 : decode cX6_leastOfSetting 5 = .ok (.iconst 1, 1) := by decide +kernel
theorem dX6_leastOfSetting_6 : decode cX6_leastOfSetting 6 = .ok (.goto 4, 3) := by decide +kernel
theorem dX6_leastOfSetting_9 : decode cX6_leastOfSetting 9 = .ok (.iconst 0, 1) := by decide +kernel
theorem dX6_leastOfSetting_10 : decode cX6_leastOfSetting 10 = .ok (.ireturn, 1) := by decide +kernel
theorem dX6_mostOfSetting_0 : decode cX6_mostOfSetting 0 = .ok (.iload_n 0, 1) := by decide +kernel
theorem dX6_mostOfSetting_1 : decode cX6_mostOfSetting 1 = .ok (.ifCond .ne 7, 3) := by decide +kernel
theorem dX6_mostOfSetting_4 : decode cX6_mostOfSetting 4 = .ok (.iconst 1, 1) := by decide +kernel
theorem dX6_mostOfSetting_5 : decode cX6_mostOfSetting 5 = .ok (.goto 4, 3) := by decide +kernel
theorem dX6_mostOfSetting_8 : decode cX6_mostOfSetting 8 = .ok (.iconst 4, 1) := by decide +kernel
theorem dX6_mostOfSetting_9 : decode cX6_mostOfSetting 9 = .ok (.ireturn, 1) := by decide +kernel
theorem dX6_isLine_0 : decode cX6_isLine 0 = .ok (.iload_n 0, 1) := by decide +kernel
theorem dX6_isLine_1 : decode cX6_isLine 1 = .ok (.iconst 2, 1) := by decide +kernel
theorem dX6_isLine_2 : decode cX6_isLine 2 = .ok (.if_icmp .lt 12, 3) := by decide +kernel
theorem dX6_isLine_5 : decode cX6_isLine 5 = .ok (.iload_n 0, 1) := by decide +kernel
theorem dX6_isLine_6 : decode cX6_isLine 6 = .ok (.iconst 5, 1) := by decide +kernel
theorem dX6_isLine_7 : decode cX6_isLine 7 = .ok (.if_icmp .gt 7, 3) := by decide +kernel
theorem dX6_isLine_10 : decode cX6_isLine 10 = .ok (.iconst 1, 1) := by decide +kernel
theorem dX6_isLine_11 : decode cX6_isLine 11 = .ok (.goto 4, 3) := by decide +kernel
theorem dX6_isLine_14 : decode cX6_isLine 14 = .ok (.iconst 0, 1) := by decide +kernel
theorem dX6_isLine_15 : decode cX6_isLine 15 = .ok (.ireturn, 1) := by decide +kernel
theorem dX6_isSide_0 : decode cX6_isSide 0 = .ok (.iload_n 0, 1) := by decide +kernel
theorem dX6_isSide_1 : decode cX6_isSide 1 = .ok (.ifCond .lt 12, 3) := by decide +kernel
theorem dX6_isSide_4 : decode cX6_isSide 4 = .ok (.iload_n 0, 1) := by decide +kernel
theorem dX6_isSide_5 : decode cX6_isSide 5 = .ok (.iconst 4, 1) := by decide +kernel
theorem dX6_isSide_6 : decode cX6_isSide 6 = .ok (.if_icmp .ge 7, 3) := by decide +kernel
theorem dX6_isSide_9 : decode cX6_isSide 9 = .ok (.iconst 1, 1) := by decide +kernel
theorem dX6_isSide_10 : decode cX6_isSide 10 = .ok (.goto 4, 3) := by decide +kernel
theorem dX6_isSide_13 : decode cX6_isSide 13 = .ok (.iconst 0, 1) := by decide +kernel
theorem dX6_isSide_14 : decode cX6_isSide 14 = .ok (.ireturn, 1) := by decide +kernel
theorem dX6_isTicks_0 : decode cX6_isTicks 0 = .ok (.iload_n 0, 1) := by decide +kernel
theorem dX6_isTicks_1 : decode cX6_isTicks 1 = .ok (.iconst 1, 1) := by decide +kernel
theorem dX6_isTicks_2 : decode cX6_isTicks 2 = .ok (.if_icmp .lt 14, 3) := by decide +kernel
theorem dX6_isTicks_5 : decode cX6_isTicks 5 = .ok (.iload_n 0, 1) := by decide +kernel
theorem dX6_isTicks_6 : decode cX6_isTicks 6 = .ok (.sipush 300, 3) := by decide +kernel
theorem dX6_isTicks_9 : decode cX6_isTicks 9 = .ok (.if_icmp .gt 7, 3) := by decide +kernel
theorem dX6_isTicks_12 : decode cX6_isTicks 12 = .ok (.iconst 1, 1) := by decide +kernel
theorem dX6_isTicks_13 : decode cX6_isTicks 13 = .ok (.goto 4, 3) := by decide +kernel
theorem dX6_isTicks_16 : decode cX6_isTicks 16 = .ok (.iconst 0, 1) := by decide +kernel
theorem dX6_isTicks_17 : decode cX6_isTicks 17 = .ok (.ireturn, 1) := by decide +kernel
theorem dX6_isSlot_0 : decode cX6_isSlot 0 = .ok (.iload_n 0, 1) := by decide +kernel
theorem dX6_isSlot_1 : decode cX6_isSlot 1 = .ok (.ifCond .lt 12, 3) := by decide +kernel
theorem dX6_isSlot_4 : decode cX6_isSlot 4 = .ok (.iload_n 0, 1) := by decide +kernel
theorem dX6_isSlot_5 : decode cX6_isSlot 5 = .ok (.iconst 2, 1) := by decide +kernel
theorem dX6_isSlot_6 : decode cX6_isSlot 6 = .ok (.if_icmp .ge 7, 3) := by decide +kernel
theorem dX6_isSlot_9 : decode cX6_isSlot 9 = .ok (.iconst 1, 1) := by decide +kernel
theorem dX6_isSlot_10 : decode cX6_isSlot 10 = .ok (.goto 4, 3) := by decide +kernel
theorem dX6_isSlot_13 : decode cX6_isSlot 13 = .ok (.iconst 0, 1) := by decide +kernel
theorem dX6_isSlot_14 : decode cX6_isSlot 14 = .ok (.ireturn, 1) := by decide +kernel
theorem dX6_linkError_0 : decode cX6_linkError 0 = .ok (.aload_n 0, 1) := by decide +kernel
theorem dX6_linkError_1 : decode cX6_linkError 1 = .ok (.getfield 12, 3) := by decide +kernel
theorem dX6_linkError_4 : decode cX6_linkError 4 = .ok (.getfield 88, 3) := by decide +kernel
theorem dX6_linkError_7 : decode cX6_linkError 7 = .ok (.iload_n 1, 1) := by decide +kernel
theorem dX6_linkError_8 : decode cX6_linkError 8 = .ok (.invokevirtual 171, 3) := by decide +kernel
theorem dX6_linkError_11 : decode cX6_linkError 11 = .ok (.ifCond .ne 5, 3) := by decide +kernel
theorem dX6_linkError_14 : decode cX6_linkError 14 = .ok (.iconst (-1), 1) := by decide +kernel
theorem dX6_linkError_15 : decode cX6_linkError 15 = .ok (.ireturn, 1) := by decide +kernel
theorem dX6_linkError_16 : decode cX6_linkError 16 = .ok (.iload_n 2, 1) := by decide +kernel
theorem dX6_linkError_17 : decode cX6_linkError 17 = .ok (.invokestatic 251, 3) := by decide +kernel
theorem dX6_linkError_20 : decode cX6_linkError 20 = .ok (.ifCond .eq 21, 3) := by decide +kernel
theorem dX6_linkError_23 : decode cX6_linkError 23 = .ok (.aload_n 0, 1) := by decide +kernel
theorem dX6_linkError_24 : decode cX6_linkError 24 = .ok (.getfield 12, 3) := by decide +kernel
theorem dX6_linkError_27 : decode cX6_linkError 27 = .ok (.getfield 88, 3) := by decide +kernel
theorem dX6_linkError_30 : decode cX6_linkError 30 = .ok (.iload_n 1, 1) := by decide +kernel
theorem dX6_linkError_31 : decode cX6_linkError 31 = .ok (.iload_n 2, 1) := by decide +kernel
theorem dX6_linkError_32 : decode cX6_linkError 32 = .ok (.invokevirtual 254, 3) := by decide +kernel
theorem dX6_linkError_35 : decode cX6_linkError 35 = .ok (.iconst (-1), 1) := by decide +kernel
theorem dX6_linkError_36 : decode cX6_linkError 36 = .ok (.if_icmp .ne 5, 3) := by decide +kernel
theorem dX6_linkError_39 : decode cX6_linkError 39 = .ok (.iconst (-1), 1) := by decide +kernel
theorem dX6_linkError_40 : decode cX6_linkError 40 = .ok (.ireturn, 1) := by decide +kernel
theorem dX6_linkError_41 : decode cX6_linkError 41 = .ok (.iload_n 2, 1) := by decide +kernel
theorem dX6_linkError_42 : decode cX6_linkError 42 = .ok (.invokestatic 251, 3) := by decide +kernel
theorem dX6_linkError_45 : decode cX6_linkError 45 = .ok (.ifCond .eq 16, 3) := by decide +kernel
theorem dX6_linkError_48 : decode cX6_linkError 48 = .ok (.iload_n 3, 1) := by decide +kernel
theorem dX6_linkError_49 : decode cX6_linkError 49 = .ok (.ifCond .eq 8, 3) := by decide +kernel
theorem dX6_linkError_52 : decode cX6_linkError 52 = .ok (.iload_n 3, 1) := by decide +kernel
theorem dX6_linkError_53 : decode cX6_linkError 53 = .ok (.iconst 1, 1) := by decide +kernel
theorem dX6_linkError_54 : decode cX6_linkError 54 = .ok (.if_icmp .ne 7, 3) := by decide +kernel
theorem dX6_linkError_57 : decode cX6_linkError 57 = .ok (.iconst 0, 1) := by decide +kernel
theorem dX6_linkError_58 : decode cX6_linkError 58 = .ok (.goto 5, 3) := by decide +kernel
theorem dX6_linkError_61 : decode cX6_linkError 61 = .ok (.bipush (-2), 2) := by decide +kernel
theorem dX6_linkError_63 : decode cX6_linkError 63 = .ok (.ireturn, 1) := by decide +kernel
theorem dX6_sendError_0 : decode cX6_sendError 0 = .ok (.aload_n 0, 1) := by decide +kernel
theorem dX6_sendError_1 : decode cX6_sendError 1 = .ok (.getfield 12, 3) := by decide +kernel
theorem dX6_sendError_4 : decode cX6_sendError 4 = .ok (.getfield 88, 3) := by decide +kernel
theorem dX6_sendError_7 : decode cX6_sendError 7 = .ok (.iload_n 1, 1) := by decide +kernel
theorem dX6_sendError_8 : decode cX6_sendError 8 = .ok (.invokevirtual 171, 3) := by decide +kernel
theorem dX6_sendError_11 : decode cX6_sendError 11 = .ok (.ifCond .eq 22, 3) := by decide +kernel
theorem dX6_sendError_14 : decode cX6_sendError 14 = .ok (.aload_n 0, 1) := by decide +kernel
theorem dX6_sendError_15 : decode cX6_sendError 15 = .ok (.getfield 12, 3) := by decide +kernel
theorem dX6_sendError_18 : decode cX6_sendError 18 = .ok (.getfield 88, 3) := by decide +kernel
theorem dX6_sendError_21 : decode cX6_sendError 21 = .ok (.iload_n 2, 1) := by decide +kernel
theorem dX6_sendError_22 : decode cX6_sendError 22 = .ok (.invokevirtual 171, 3) := by decide +kernel
theorem dX6_sendError_25 : decode cX6_sendError 25 = .ok (.ifCond .eq 8, 3) := by decide +kernel
theorem dX6_sendError_28 : decode cX6_sendError 28 = .ok (.iload_n 1, 1) := by decide +kernel
theorem dX6_sendError_29 : decode cX6_sendError 29 = .ok (.iload_n 2, 1) := by decide +kernel
theorem dX6_sendError_30 : decode cX6_sendError 30 = .ok (.if_icmp .ne 5, 3) := by decide +kernel
theorem dX6_sendError_33 : decode cX6_sendError 33 = .ok (.iconst (-1), 1) := by decide +kernel
theorem dX6_sendError_34 : decode cX6_sendError 34 = .ok (.ireturn, 1) := by decide +kernel
theorem dX6_sendError_35 : decode cX6_sendError 35 = .ok (.aload_n 0, 1) := by decide +kernel
theorem dX6_sendError_36 : decode cX6_sendError 36 = .ok (.getfield 12, 3) := by decide +kernel
theorem dX6_sendError_39 : decode cX6_sendError 39 = .ok (.getfield 79, 3) := by decide +kernel
theorem dX6_sendError_42 : decode cX6_sendError 42 = .ok (.getfield 83, 3) := by decide +kernel
theorem dX6_sendError_45 : decode cX6_sendError 45 = .ok (.bipush 40, 2) := by decide +kernel
theorem dX6_sendError_47 : decode cX6_sendError 47 = .ok (.if_icmp .lt 6, 3) := by decide +kernel
theorem dX6_sendError_50 : decode cX6_sendError 50 = .ok (.bipush (-4), 2) := by decide +kernel
theorem dX6_sendError_52 : decode cX6_sendError 52 = .ok (.ireturn, 1) := by decide +kernel
theorem dX6_sendError_53 : decode cX6_sendError 53 = .ok (.aload_n 0, 1) := by decide +kernel
theorem dX6_sendError_54 : decode cX6_sendError 54 = .ok (.getfield 12, 3) := by decide +kernel
theorem dX6_sendError_57 : decode cX6_sendError 57 = .ok (.aload_n 0, 1) := by decide +kernel
theorem dX6_sendError_58 : decode cX6_sendError 58 = .ok (.getfield 19, 3) := by decide +kernel
theorem dX6_sendError_61 : decode cX6_sendError 61 = .ok (.iload_n 1, 1) := by decide +kernel
theorem dX6_sendError_62 : decode cX6_sendError 62 = .ok (.iload_n 2, 1) := by decide +kernel
theorem dX6_sendError_63 : decode cX6_sendError 63 = .ok (.invokevirtual 201, 3) := by decide +kernel
theorem dX6_sendError_66 : decode cX6_sendError 66 = .ok (.bipush (-6), 2) := by decide +kernel
theorem dX6_sendError_68 : decode cX6_sendError 68 = .ok (.if_icmp .ne 8, 3) := by decide +kernel
theorem dX6_sendError_71 : decode cX6_sendError 71 = .ok (.bipush (-5), 2) := by decide +kernel
theorem dX6_sendError_73 : decode cX6_sendError 73 = .ok (.goto 4, 3) := by decide +kernel
theorem dX6_sendError_76 : decode cX6_sendError 76 = .ok (.iconst 0, 1) := by decide +kernel
theorem dX6_sendError_77 : decode cX6_sendError 77 = .ok (.ireturn, 1) := by decide +kernel
theorem dX6_learnRoutes_0 : decode cX6_learnRoutes 0 = .ok (.aload_n 0, 1) := by decide +kernel
theorem dX6_learnRoutes_1 : decode cX6_learnRoutes 1 = .ok (.getfield 19, 3) := by decide +kernel
theorem dX6_learnRoutes_4 : decode cX6_learnRoutes 4 = .ok (.aload_n 0, 1) := by decide +kernel
theorem dX6_learnRoutes_5 : decode cX6_learnRoutes 5 = .ok (.getfield 12, 3) := by decide +kernel
theorem dX6_learnRoutes_8 : decode cX6_learnRoutes 8 = .ok (.getfield 88, 3) := by decide +kernel
theorem dX6_learnRoutes_11 : decode cX6_learnRoutes 11 = .ok (.aload_n 0, 1) := by decide +kernel
theorem dX6_learnRoutes_12 : decode cX6_learnRoutes 12 = .ok (.getfield 12, 3) := by decide +kernel
theorem dX6_learnRoutes_15 : decode cX6_learnRoutes 15 = .ok (.getfield 71, 3) := by decide +kernel
theorem dX6_learnRoutes_18 : decode cX6_learnRoutes 18 = .ok (.iconst 0, 1) := by decide +kernel
theorem dX6_learnRoutes_19 : decode cX6_learnRoutes 19 = .ok (.iaload, 1) := by decide +kernel
theorem dX6_learnRoutes_20 : decode cX6_learnRoutes 20 = .ok (.invokevirtual 257, 3) := by decide +kernel
theorem dX6_learnRoutes_23 : decode cX6_learnRoutes 23 = .ok (.return_, 1) := by decide +kernel
theorem dX6_changeLink_0 : decode cX6_changeLink 0 = .ok (.aload_n 0, 1) := by decide +kernel
theorem dX6_changeLink_1 : decode cX6_changeLink 1 = .ok (.getfield 12, 3) := by decide +kernel
theorem dX6_changeLink_4 : decode cX6_changeLink 4 = .ok (.getfield 88, 3) := by decide +kernel
theorem dX6_changeLink_7 : decode cX6_changeLink 7 = .ok (.iload_n 1, 1) := by decide +kernel
theorem dX6_changeLink_8 : decode cX6_changeLink 8 = .ok (.iload_n 2, 1) := by decide +kernel
theorem dX6_changeLink_9 : decode cX6_changeLink 9 = .ok (.invokevirtual 261, 3) := by decide +kernel
theorem dX6_changeLink_12 : decode cX6_changeLink 12 = .ok (.istore 4, 2) := by decide +kernel
theorem dX6_changeLink_14 : decode cX6_changeLink 14 = .ok (.aload_n 0, 1) := by decide +kernel
theorem dX6_changeLink_15 : decode cX6_changeLink 15 = .ok (.getfield 12, 3) := by decide +kernel
theorem dX6_changeLink_18 : decode cX6_changeLink 18 = .ok (.getfield 88, 3) := by decide +kernel
theorem dX6_changeLink_21 : decode cX6_changeLink 21 = .ok (.iload 4, 2) := by decide +kernel
theorem dX6_changeLink_23 : decode cX6_changeLink 23 = .ok (.invokevirtual 264, 3) := by decide +kernel
theorem dX6_changeLink_26 : decode cX6_changeLink 26 = .ok (.ifCond .eq 7, 3) := by decide +kernel
theorem dX6_changeLink_29 : decode cX6_changeLink 29 = .ok (.iconst 1, 1) := by decide +kernel
theorem dX6_changeLink_30 : decode cX6_changeLink 30 = .ok (.goto 4, 3) := by decide +kernel
theorem dX6_changeLink_33 : decode cX6_changeLink 33 = .ok (.iconst 0, 1) := by decide +kernel
theorem dX6_changeLink_34 : decode cX6_changeLink 34 = .ok (.istore 5, 2) := by decide +kernel
theorem dX6_changeLink_36 : decode cX6_changeLink 36 = .ok (.aload_n 0, 1) := by decide +kernel
theorem dX6_changeLink_37 : decode cX6_changeLink 37 = .ok (.getfield 12, 3) := by decide +kernel
theorem dX6_changeLink_40 : decode cX6_changeLink 40 = .ok (.getfield 88, 3) := by decide +kernel
theorem dX6_changeLink_43 : decode cX6_changeLink 43 = .ok (.iload 4, 2) := by decide +kernel
theorem dX6_changeLink_45 : decode cX6_changeLink 45 = .ok (.iload_n 3, 1) := by decide +kernel
theorem dX6_changeLink_46 : decode cX6_changeLink 46 = .ok (.iconst 1, 1) := by decide +kernel
theorem dX6_changeLink_47 : decode cX6_changeLink 47 = .ok (.if_icmp .ne 7, 3) := by decide +kernel
theorem dX6_changeLink_50 : decode cX6_changeLink 50 = .ok (.iconst 1, 1) := by decide +kernel
theorem dX6_changeLink_51 : decode cX6_changeLink 51 = .ok (.goto 4, 3) := by decide +kernel
theorem dX6_changeLink_54 : decode cX6_changeLink 54 = .ok (.iconst 0, 1) := by decide +kernel
theorem dX6_changeLink_55 : decode cX6_changeLink 55 = .ok (.invokevirtual 267, 3) := by decide +kernel
theorem dX6_changeLink_58 : decode cX6_changeLink 58 = .ok (.aload_n 0, 1) := by decide +kernel
theorem dX6_changeLink_59 : decode cX6_changeLink 59 = .ok (.invokevirtual 58, 3) := by decide +kernel
theorem dX6_changeLink_62 : decode cX6_changeLink 62 = .ok (.iload 5, 2) := by decide +kernel
theorem dX6_changeLink_64 : decode cX6_changeLink 64 = .ok (.ireturn, 1) := by decide +kernel
theorem dX6_obey_0 : decode cX6_obey 0 = .ok (.iload_n 1, 1) := by decide +kernel
theorem dX6_obey_1 : decode cX6_obey 1 = .ok (.ifCond .lt 14, 3) := by decide +kernel
theorem dX6_obey_4 : decode cX6_obey 4 = .ok (.iload_n 1, 1) := by decide +kernel
theorem dX6_obey_5 : decode cX6_obey 5 = .ok (.aload_n 0, 1) := by decide +kernel
theorem dX6_obey_6 : decode cX6_obey 6 = .ok (.getfield 39, 3) := by decide +kernel
theorem dX6_obey_9 : decode cX6_obey 9 = .ok (.getfield 242, 3) := by decide +kernel
theorem dX6_obey_12 : decode cX6_obey 12 = .ok (.if_icmp .lt 5, 3) := by decide +kernel
theorem dX6_obey_15 : decode cX6_obey 15 = .ok (.iconst 0, 1) := by decide +kernel
theorem dX6_obey_16 : decode cX6_obey 16 = .ok (.ireturn, 1) := by decide +kernel
theorem dX6_obey_17 : decode cX6_obey 17 = .ok (.aload_n 0, 1) := by decide +kernel
theorem dX6_obey_18 : decode cX6_obey 18 = .ok (.getfield 39, 3) := by decide +kernel
theorem dX6_obey_21 : decode cX6_obey 21 = .ok (.getfield 271, 3) := by decide +kernel
theorem dX6_obey_24 : decode cX6_obey 24 = .ok (.iload_n 1, 1) := by decide +kernel
theorem dX6_obey_25 : decode cX6_obey 25 = .ok (.iaload, 1) := by decide +kernel
theorem dX6_obey_26 : decode cX6_obey 26 = .ok (.istore_n 2, 1) := by decide +kernel
theorem dX6_obey_27 : decode cX6_obey 27 = .ok (.aload_n 0, 1) := by decide +kernel
theorem dX6_obey_28 : decode cX6_obey 28 = .ok (.getfield 39, 3) := by decide +kernel
theorem dX6_obey_31 : decode cX6_obey 31 = .ok (.getfield 274, 3) := by decide +kernel
theorem dX6_obey_34 : decode cX6_obey 34 = .ok (.iload_n 1, 1) := by decide +kernel
theorem dX6_obey_35 : decode cX6_obey 35 = .ok (.iaload, 1) := by decide +kernel
theorem dX6_obey_36 : decode cX6_obey 36 = .ok (.istore_n 3, 1) := by decide +kernel
theorem dX6_obey_37 : decode cX6_obey 37 = .ok (.aload_n 0, 1) := by decide +kernel
theorem dX6_obey_38 : decode cX6_obey 38 = .ok (.getfield 39, 3) := by decide +kernel
theorem dX6_obey_41 : decode cX6_obey 41 = .ok (.getfield 277, 3) := by decide +kernel
theorem dX6_obey_44 : decode cX6_obey 44 = .ok (.iload_n 1, 1) := by decide +kernel
theorem dX6_obey_45 : decode cX6_obey 45 = .ok (.iaload, 1) := by decide +kernel
theorem dX6_obey_46 : decode cX6_obey 46 = .ok (.lookupswitch 123 #[(98, 71), (109, 97), (115, 34)], 34) := by decide +kernel
theorem dX6_obey_80 : decode cX6_obey 80 = .ok (.aload_n 0, 1) := by decide +kernel
theorem dX6_obey_81 : decode cX6_obey 81 = .ok (.iload_n 2, 1) := by decide +kernel
theorem dX6_obey_82 : decode cX6_obey 82 = .ok (.iload_n 3, 1) := by decide +kernel
theorem dX6_obey_83 : decode cX6_obey 83 = .ok (.invokevirtual 109, 3) := by decide +kernel
theorem dX6_obey_86 : decode cX6_obey 86 = .ok (.ifCond .ne 29, 3) := by decide +kernel
theorem dX6_obey_89 : decode cX6_obey 89 = .ok (.aload_n 0, 1) := by decide +kernel
theorem dX6_obey_90 : decode cX6_obey 90 = .ok (.getfield 12, 3) := by decide +kernel
theorem dX6_obey_93 : decode cX6_obey 93 = .ok (.getfield 79, 3) := by decide +kernel
theorem dX6_obey_96 : decode cX6_obey 96 = .ok (.iload_n 2, 1) := by decide +kernel
theorem dX6_obey_97 : decode cX6_obey 97 = .ok (.iload_n 3, 1) := by decide +kernel
theorem dX6_obey_98 : decode cX6_obey 98 = .ok (.aload_n 0, 1) := by decide +kernel
theorem dX6_obey_99 : decode cX6_obey 99 = .ok (.getfield 12, 3) := by decide +kernel
theorem dX6_obey_102 : decode cX6_obey 102 = .ok (.getfield 113, 3) := by decide +kernel
theorem dX6_obey_105 : decode cX6_obey 105 = .ok (.invokevirtual 116, 3) := by decide +kernel
theorem dX6_obey_108 : decode cX6_obey 108 = .ok (.ifCond .lt 7, 3) := by decide +kernel
theorem dX6_obey_111 : decode cX6_obey 111 = .ok (.iconst 1, 1) := by decide +kernel
theorem dX6_obey_112 : decode cX6_obey 112 = .ok (.goto 4, 3) := by decide +kernel
theorem dX6_obey_115 : decode cX6_obey 115 = .ok (.iconst 0, 1) := by decide +kernel
theorem dX6_obey_116 : decode cX6_obey 116 = .ok (.ireturn, 1) := by decide +kernel
theorem dX6_obey_117 : decode cX6_obey 117 = .ok (.aload_n 0, 1) := by decide +kernel
theorem dX6_obey_118 : decode cX6_obey 118 = .ok (.iload_n 2, 1) := by decide +kernel
theorem dX6_obey_119 : decode cX6_obey 119 = .ok (.iload_n 3, 1) := by decide +kernel
theorem dX6_obey_120 : decode cX6_obey 120 = .ok (.iconst 0, 1) := by decide +kernel
theorem dX6_obey_121 : decode cX6_obey 121 = .ok (.invokevirtual 102, 3) := by decide +kernel
theorem dX6_obey_124 : decode cX6_obey 124 = .ok (.ifCond .ne 17, 3) := by decide +kernel
theorem dX6_obey_127 : decode cX6_obey 127 = .ok (.aload_n 0, 1) := by decide +kernel
theorem dX6_obey_128 : decode cX6_obey 128 = .ok (.iload_n 2, 1) := by decide +kernel
theorem dX6_obey_129 : decode cX6_obey 129 = .ok (.iload_n 3, 1) := by decide +kernel
theorem dX6_obey_130 : decode cX6_obey 130 = .ok (.iconst 0, 1) := by decide +kernel
theorem dX6_obey_131 : decode cX6_obey 131 = .ok (.invokevirtual 106, 3) := by decide +kernel
theorem dX6_obey_134 : decode cX6_obey 134 = .ok (.ifCond .lt 7, 3) := by decide +kernel
theorem dX6_obey_137 : decode cX6_obey 137 = .ok (.iconst 1, 1) := by decide +kernel
theorem dX6_obey_138 : decode cX6_obey 138 = .ok (.goto 4, 3) := by decide +kernel
theorem dX6_obey_141 : decode cX6_obey 141 = .ok (.iconst 0, 1) := by decide +kernel
theorem dX6_obey_142 : decode cX6_obey 142 = .ok (.ireturn, 1) := by decide +kernel
theorem dX6_obey_143 : decode cX6_obey 143 = .ok (.aload_n 0, 1) := by decide +kernel
theorem dX6_obey_144 : decode cX6_obey 144 = .ok (.iload_n 2, 1) := by decide +kernel
theorem dX6_obey_145 : decode cX6_obey 145 = .ok (.iload_n 3, 1) := by decide +kernel
theorem dX6_obey_146 : decode cX6_obey 146 = .ok (.iconst 1, 1) := by decide +kernel
theorem dX6_obey_147 : decode cX6_obey 147 = .ok (.invokevirtual 102, 3) := by decide +kernel
theorem dX6_obey_150 : decode cX6_obey 150 = .ok (.ifCond .ne 17, 3) := by decide +kernel
theorem dX6_obey_153 : decode cX6_obey 153 = .ok (.aload_n 0, 1) := by decide +kernel
theorem dX6_obey_154 : decode cX6_obey 154 = .ok (.iload_n 2, 1) := by decide +kernel
theorem dX6_obey_155 : decode cX6_obey 155 = .ok (.iload_n 3, 1) := by decide +kernel
theorem dX6_obey_156 : decode cX6_obey 156 = .ok (.iconst 1, 1) := by decide +kernel
theorem dX6_obey_157 : decode cX6_obey 157 = .ok (.invokevirtual 106, 3) := by decide +kernel
theorem dX6_obey_160 : decode cX6_obey 160 = .ok (.ifCond .lt 7, 3) := by decide +kernel
theorem dX6_obey_163 : decode cX6_obey 163 = .ok (.iconst 1, 1) := by decide +kernel
theorem dX6_obey_164 : decode cX6_obey 164 = .ok (.goto 4, 3) := by decide +kernel
theorem dX6_obey_167 : decode cX6_obey 167 = .ok (.iconst 0, 1) := by decide +kernel
theorem dX6_obey_168 : decode cX6_obey 168 = .ok (.ireturn, 1) := by decide +kernel
theorem dX6_obey_169 : decode cX6_obey 169 = .ok (.iload_n 2, 1) := by decide +kernel
theorem dX6_obey_170 : decode cX6_obey 170 = .ok (.invokestatic 119, 3) := by decide +kernel
theorem dX6_obey_173 : decode cX6_obey 173 = .ok (.ifCond .ne 5, 3) := by decide +kernel
theorem dX6_obey_176 : decode cX6_obey 176 = .ok (.iconst 0, 1) := by decide +kernel
theorem dX6_obey_177 : decode cX6_obey 177 = .ok (.ireturn, 1) := by decide +kernel
theorem dX6_obey_178 : decode cX6_obey 178 = .ok (.aload_n 0, 1) := by decide +kernel
theorem dX6_obey_179 : decode cX6_obey 179 = .ok (.getfield 12, 3) := by decide +kernel
theorem dX6_obey_182 : decode cX6_obey 182 = .ok (.aload_n 0, 1) := by decide +kernel
theorem dX6_obey_183 : decode cX6_obey 183 = .ok (.getfield 19, 3) := by decide +kernel
theorem dX6_obey_186 : decode cX6_obey 186 = .ok (.iload_n 2, 1) := by decide +kernel
theorem dX6_obey_187 : decode cX6_obey 187 = .ok (.invokevirtual 122, 3) := by decide +kernel
theorem dX6_obey_190 : decode cX6_obey 190 = .ok (.iconst 1, 1) := by decide +kernel
theorem dX6_obey_191 : decode cX6_obey 191 = .ok (.ireturn, 1) := by decide +kernel
theorem dX6_recordState_0 : decode cX6_recordState 0 = .ok (.aload_n 0, 1) := by decide +kernel
theorem dX6_recordState_1 : decode cX6_recordState 1 = .ok (.getfield 47, 3) := by decide +kernel
theorem dX6_recordState_4 : decode cX6_recordState 4 = .ok (.bipush 6, 2) := by decide +kernel
theorem dX6_recordState_6 : decode cX6_recordState 6 = .ok (.if_icmp .lt 7, 3) := by decide +kernel
theorem dX6_recordState_9 : decode cX6_recordState 9 = .ok (.aload_n 0, 1) := by decide +kernel
theorem dX6_recordState_10 : decode cX6_recordState 10 = .ok (.invokevirtual 280, 3) := by decide +kernel
theorem dX6_recordState_13 : decode cX6_recordState 13 = .ok (.aload_n 0, 1) := by decide +kernel
theorem dX6_recordState_14 : decode cX6_recordState 14 = .ok (.getfield 12, 3) := by decide +kernel
theorem dX6_recordState_17 : decode cX6_recordState 17 = .ok (.aload_n 0, 1) := by decide +kernel
theorem dX6_recordState_18 : decode cX6_recordState 18 = .ok (.getfield 43, 3) := by decide +kernel
theorem dX6_recordState_21 : decode cX6_recordState 21 = .ok (.aload_n 0, 1) := by decide +kernel
theorem dX6_recordState_22 : decode cX6_recordState 22 = .ok (.getfield 47, 3) := by decide +kernel
theorem dX6_recordState_25 : decode cX6_recordState 25 = .ok (.aaload, 1) := by decide +kernel
theorem dX6_recordState_26 : decode cX6_recordState 26 = .ok (.invokestatic 224, 3) := by decide +kernel
theorem dX6_recordState_29 : decode cX6_recordState 29 = .ok (.aload_n 0, 1) := by decide +kernel
theorem dX6_recordState_30 : decode cX6_recordState 30 = .ok (.dup, 1) := by decide +kernel
theorem dX6_recordState_31 : decode cX6_recordState 31 = .ok (.getfield 47, 3) := by decide +kernel
theorem dX6_recordState_34 : decode cX6_recordState 34 = .ok (.iconst 1, 1) := by decide +kernel
theorem dX6_recordState_35 : decode cX6_recordState 35 = .ok (.iadd, 1) := by decide +kernel
theorem dX6_recordState_36 : decode cX6_recordState 36 = .ok (.putfield 47, 3) := by decide +kernel
theorem dX6_recordState_39 : decode cX6_recordState 39 = .ok (.return_, 1) := by decide +kernel
theorem dX6_dropOldestState_0 : decode cX6_dropOldestState 0 = .ok (.aload_n 0, 1) := by decide +kernel
theorem dX6_dropOldestState_1 : decode cX6_dropOldestState 1 = .ok (.getfield 43, 3) := by decide +kernel
theorem dX6_dropOldestState_4 : decode cX6_dropOldestState 4 = .ok (.iconst 0, 1) := by decide +kernel
theorem dX6_dropOldestState_5 : decode cX6_dropOldestState 5 = .ok (.aaload, 1) := by decide +kernel
theorem dX6_dropOldestState_6 : decode cX6_dropOldestState 6 = .ok (.astore_n 1, 1) := by decide +kernel
theorem dX6_dropOldestState_7 : decode cX6_dropOldestState 7 = .ok (.iconst 1, 1) := by decide +kernel
theorem dX6_dropOldestState_8 : decode cX6_dropOldestState 8 = .ok (.istore_n 2, 1) := by decide +kernel
theorem dX6_dropOldestState_9 : decode cX6_dropOldestState 9 = .ok (.iload_n 2, 1) := by decide +kernel
theorem dX6_dropOldestState_10 : decode cX6_dropOldestState 10 = .ok (.bipush 6, 2) := by decide +kernel
theorem dX6_dropOldestState_12 : decode cX6_dropOldestState 12 = .ok (.if_icmp .ge 23, 3) := by decide +kernel
theorem dX6_dropOldestState_15 : decode cX6_dropOldestState 15 = .ok (.aload_n 0, 1) := by decide +kernel
theorem dX6_dropOldestState_16 : decode cX6_dropOldestState 16 = .ok (.getfield 43, 3) := by decide +kernel
theorem dX6_dropOldestState_19 : decode cX6_dropOldestState 19 = .ok (.iload_n 2, 1) := by decide +kernel
theorem dX6_dropOldestState_20 : decode cX6_dropOldestState 20 = .ok (.iconst 1, 1) := by decide +kernel
theorem dX6_dropOldestState_21 : decode cX6_dropOldestState 21 = .ok (.isub, 1) := by decide +kernel
theorem dX6_dropOldestState_22 : decode cX6_dropOldestState 22 = .ok (.aload_n 0, 1) := by decide +kernel
theorem dX6_dropOldestState_23 : decode cX6_dropOldestState 23 = .ok (.getfield 43, 3) := by decide +kernel
theorem dX6_dropOldestState_26 : decode cX6_dropOldestState 26 = .ok (.iload_n 2, 1) := by decide +kernel
theorem dX6_dropOldestState_27 : decode cX6_dropOldestState 27 = .ok (.aaload, 1) := by decide +kernel
theorem dX6_dropOldestState_28 : decode cX6_dropOldestState 28 = .ok (.aastore, 1) := by decide +kernel
theorem dX6_dropOldestState_29 : decode cX6_dropOldestState 29 = .ok (.iinc 2 1, 3) := by decide +kernel
theorem dX6_dropOldestState_32 : decode cX6_dropOldestState 32 = .ok (.goto (-23), 3) := by decide +kernel
theorem dX6_dropOldestState_35 : decode cX6_dropOldestState 35 = .ok (.aload_n 0, 1) := by decide +kernel
theorem dX6_dropOldestState_36 : decode cX6_dropOldestState 36 = .ok (.getfield 43, 3) := by decide +kernel
theorem dX6_dropOldestState_39 : decode cX6_dropOldestState 39 = .ok (.iconst 5, 1) := by decide +kernel
theorem dX6_dropOldestState_40 : decode cX6_dropOldestState 40 = .ok (.aload_n 1, 1) := by decide +kernel
theorem dX6_dropOldestState_41 : decode cX6_dropOldestState 41 = .ok (.aastore, 1) := by decide +kernel
theorem dX6_dropOldestState_42 : decode cX6_dropOldestState 42 = .ok (.aload_n 0, 1) := by decide +kernel
theorem dX6_dropOldestState_43 : decode cX6_dropOldestState 43 = .ok (.iconst 5, 1) := by decide +kernel
theorem dX6_dropOldestState_44 : decode cX6_dropOldestState 44 = .ok (.putfield 47, 3) := by decide +kernel
theorem dX6_dropOldestState_47 : decode cX6_dropOldestState 47 = .ok (.return_, 1) := by decide +kernel
theorem dX6_linkState_0 : decode cX6_linkState 0 = .ok (.aload_n 0, 1) := by decide +kernel
theorem dX6_linkState_1 : decode cX6_linkState 1 = .ok (.getfield 12, 3) := by decide +kernel
theorem dX6_linkState_4 : decode cX6_linkState 4 = .ok (.getfield 88, 3) := by decide +kernel
theorem dX6_linkState_7 : decode cX6_linkState 7 = .ok (.iload_n 1, 1) := by decide +kernel
theorem dX6_linkState_8 : decode cX6_linkState 8 = .ok (.iload_n 2, 1) := by decide +kernel
theorem dX6_linkState_9 : decode cX6_linkState 9 = .ok (.invokevirtual 261, 3) := by decide +kernel
theorem dX6_linkState_12 : decode cX6_linkState 12 = .ok (.istore_n 3, 1) := by decide +kernel
theorem dX6_linkState_13 : decode cX6_linkState 13 = .ok (.iload_n 3, 1) := by decide +kernel
theorem dX6_linkState_14 : decode cX6_linkState 14 = .ok (.iconst (-1), 1) := by decide +kernel
theorem dX6_linkState_15 : decode cX6_linkState 15 = .ok (.if_icmp .ne 6, 3) := by decide +kernel
theorem dX6_linkState_18 : decode cX6_linkState 18 = .ok (.bipush (-6), 2) := by decide +kernel
theorem dX6_linkState_20 : decode cX6_linkState 20 = .ok (.ireturn, 1) := by decide +kernel
theorem dX6_linkState_21 : decode cX6_linkState 21 = .ok (.aload_n 0, 1) := by decide +kernel
theorem dX6_linkState_22 : decode cX6_linkState 22 = .ok (.getfield 12, 3) := by decide +kernel
theorem dX6_linkState_25 : decode cX6_linkState 25 = .ok (.getfield 88, 3) := by decide +kernel
theorem dX6_linkState_28 : decode cX6_linkState 28 = .ok (.iload_n 3, 1) := by decide +kernel
theorem dX6_linkState_29 : decode cX6_linkState 29 = .ok (.invokevirtual 264, 3) := by decide +kernel
theorem dX6_linkState_32 : decode cX6_linkState 32 = .ok (.ifCond .eq 7, 3) := by decide +kernel
theorem dX6_linkState_35 : decode cX6_linkState 35 = .ok (.iconst 1, 1) := by decide +kernel
theorem dX6_linkState_36 : decode cX6_linkState 36 = .ok (.goto 4, 3) := by decide +kernel
theorem dX6_linkState_39 : decode cX6_linkState 39 = .ok (.iconst 0, 1) := by decide +kernel
theorem dX6_linkState_40 : decode cX6_linkState 40 = .ok (.ireturn, 1) := by decide +kernel
theorem dX6_findWorstLink_0 : decode cX6_findWorstLink 0 = .ok (.iconst (-1), 1) := by decide +kernel
theorem dX6_findWorstLink_1 : decode cX6_findWorstLink 1 = .ok (.istore_n 1, 1) := by decide +kernel
theorem dX6_findWorstLink_2 : decode cX6_findWorstLink 2 = .ok (.iconst 0, 1) := by decide +kernel
theorem dX6_findWorstLink_3 : decode cX6_findWorstLink 3 = .ok (.istore_n 2, 1) := by decide +kernel
theorem dX6_findWorstLink_4 : decode cX6_findWorstLink 4 = .ok (.iconst 0, 1) := by decide +kernel
theorem dX6_findWorstLink_5 : decode cX6_findWorstLink 5 = .ok (.istore_n 3, 1) := by decide +kernel
theorem dX6_findWorstLink_6 : decode cX6_findWorstLink 6 = .ok (.iload_n 3, 1) := by decide +kernel
theorem dX6_findWorstLink_7 : decode cX6_findWorstLink 7 = .ok (.iconst 2, 1) := by decide +kernel
theorem dX6_findWorstLink_8 : decode cX6_findWorstLink 8 = .ok (.aload_n 0, 1) := by decide +kernel
theorem dX6_findWorstLink_9 : decode cX6_findWorstLink 9 = .ok (.getfield 12, 3) := by decide +kernel
theorem dX6_findWorstLink_12 : decode cX6_findWorstLink 12 = .ok (.getfield 88, 3) := by decide +kernel
theorem dX6_findWorstLink_15 : decode cX6_findWorstLink 15 = .ok (.invokevirtual 98, 3) := by decide +kernel
theorem dX6_findWorstLink_18 : decode cX6_findWorstLink 18 = .ok (.imul, 1) := by decide +kernel
theorem dX6_findWorstLink_19 : decode cX6_findWorstLink 19 = .ok (.if_icmp .ge 60, 3) := by decide +kernel
theorem dX6_findWorstLink_22 : decode cX6_findWorstLink 22 = .ok (.aload_n 0, 1) := by decide +kernel
theorem dX6_findWorstLink_23 : decode cX6_findWorstLink 23 = .ok (.getfield 12, 3) := by decide +kernel
theorem dX6_findWorstLink_26 : decode cX6_findWorstLink 26 = .ok (.getfield 88, 3) := by decide +kernel
theorem dX6_findWorstLink_29 : decode cX6_findWorstLink 29 = .ok (.iload_n 3, 1) := by decide +kernel
theorem dX6_findWorstLink_30 : decode cX6_findWorstLink 30 = .ok (.invokevirtual 283, 3) := by decide +kernel
theorem dX6_findWorstLink_33 : decode cX6_findWorstLink 33 = .ok (.ifCond .eq 40, 3) := by decide +kernel
theorem dX6_findWorstLink_36 : decode cX6_findWorstLink 36 = .ok (.aload_n 0, 1) := by decide +kernel
theorem dX6_findWorstLink_37 : decode cX6_findWorstLink 37 = .ok (.getfield 12, 3) := by decide +kernel
theorem dX6_findWorstLink_40 : decode cX6_findWorstLink 40 = .ok (.getfield 88, 3) := by decide +kernel
theorem dX6_findWorstLink_43 : decode cX6_findWorstLink 43 = .ok (.iload_n 3, 1) := by decide +kernel
theorem dX6_findWorstLink_44 : decode cX6_findWorstLink 44 = .ok (.invokevirtual 264, 3) := by decide +kernel
theorem dX6_findWorstLink_47 : decode cX6_findWorstLink 47 = .ok (.ifCond .eq 26, 3) := by decide +kernel
theorem dX6_findWorstLink_50 : decode cX6_findWorstLink 50 = .ok (.aload_n 0, 1) := by decide +kernel
theorem dX6_findWorstLink_51 : decode cX6_findWorstLink 51 = .ok (.iload_n 3, 1) := by decide +kernel
theorem dX6_findWorstLink_52 : decode cX6_findWorstLink 52 = .ok (.invokevirtual 221, 3) := by decide +kernel
theorem dX6_findWorstLink_55 : decode cX6_findWorstLink 55 = .ok (.istore 4, 2) := by decide +kernel
theorem dX6_findWorstLink_57 : decode cX6_findWorstLink 57 = .ok (.iload_n 1, 1) := by decide +kernel
theorem dX6_findWorstLink_58 : decode cX6_findWorstLink 58 = .ok (.iconst (-1), 1) := by decide +kernel
theorem dX6_findWorstLink_59 : decode cX6_findWorstLink 59 = .ok (.if_icmp .eq 9, 3) := by decide +kernel
theorem dX6_findWorstLink_62 : decode cX6_findWorstLink 62 = .ok (.iload 4, 2) := by decide +kernel
theorem dX6_findWorstLink_64 : decode cX6_findWorstLink 64 = .ok (.iload_n 2, 1) := by decide +kernel
theorem dX6_findWorstLink_65 : decode cX6_findWorstLink 65 = .ok (.if_icmp .ge 8, 3) := by decide +kernel
theorem dX6_findWorstLink_68 : decode cX6_findWorstLink 68 = .ok (.iload_n 3, 1) := by decide +kernel
theorem dX6_findWorstLink_69 : decode cX6_findWorstLink 69 = .ok (.istore_n 1, 1) := by decide +kernel
theorem dX6_findWorstLink_70 : decode cX6_findWorstLink 70 = .ok (.iload 4, 2) := by decide +kernel
theorem dX6_findWorstLink_72 : decode cX6_findWorstLink 72 = .ok (.istore_n 2, 1) := by decide +kernel
theorem dX6_findWorstLink_73 : decode cX6_findWorstLink 73 = .ok (.iinc 3 1, 3) := by decide +kernel
theorem dX6_findWorstLink_76 : decode cX6_findWorstLink 76 = .ok (.goto (-70), 3) := by decide +kernel
theorem dX6_findWorstLink_79 : decode cX6_findWorstLink 79 = .ok (.iload_n 1, 1) := by decide +kernel
theorem dX6_findWorstLink_80 : decode cX6_findWorstLink 80 = .ok (.ireturn, 1) := by decide +kernel
theorem dX6_pairsWithout_0 : decode cX6_pairsWithout 0 = .ok (.aload_n 0, 1) := by decide +kernel
theorem dX6_pairsWithout_1 : decode cX6_pairsWithout 1 = .ok (.getfield 12, 3) := by decide +kernel
theorem dX6_pairsWithout_4 : decode cX6_pairsWithout 4 = .ok (.aload_n 0, 1) := by decide +kernel
theorem dX6_pairsWithout_5 : decode cX6_pairsWithout 5 = .ok (.getfield 23, 3) := by decide +kernel
theorem dX6_pairsWithout_8 : decode cX6_pairsWithout 8 = .ok (.invokestatic 224, 3) := by decide +kernel
theorem dX6_pairsWithout_11 : decode cX6_pairsWithout 11 = .ok (.aload_n 0, 1) := by decide +kernel
theorem dX6_pairsWithout_12 : decode cX6_pairsWithout 12 = .ok (.getfield 23, 3) := by decide +kernel
theorem dX6_pairsWithout_15 : decode cX6_pairsWithout 15 = .ok (.getfield 88, 3) := by decide +kernel
theorem dX6_pairsWithout_18 : decode cX6_pairsWithout 18 = .ok (.iload_n 1, 1) := by decide +kernel
theorem dX6_pairsWithout_19 : decode cX6_pairsWithout 19 = .ok (.iconst 0, 1) := by decide +kernel
theorem dX6_pairsWithout_20 : decode cX6_pairsWithout 20 = .ok (.invokevirtual 267, 3) := by decide +kernel
theorem dX6_pairsWithout_23 : decode cX6_pairsWithout 23 = .ok (.aload_n 0, 1) := by decide +kernel
theorem dX6_pairsWithout_24 : decode cX6_pairsWithout 24 = .ok (.getfield 26, 3) := by decide +kernel
theorem dX6_pairsWithout_27 : decode cX6_pairsWithout 27 = .ok (.aload_n 0, 1) := by decide +kernel
theorem dX6_pairsWithout_28 : decode cX6_pairsWithout 28 = .ok (.getfield 23, 3) := by decide +kernel
theorem dX6_pairsWithout_31 : decode cX6_pairsWithout 31 = .ok (.getfield 88, 3) := by decide +kernel
theorem dX6_pairsWithout_34 : decode cX6_pairsWithout 34 = .ok (.aload_n 0, 1) := by decide +kernel
theorem dX6_pairsWithout_35 : decode cX6_pairsWithout 35 = .ok (.getfield 23, 3) := by decide +kernel
theorem dX6_pairsWithout_38 : decode cX6_pairsWithout 38 = .ok (.getfield 71, 3) := by decide +kernel
theorem dX6_pairsWithout_41 : decode cX6_pairsWithout 41 = .ok (.iconst 0, 1) := by decide +kernel
theorem dX6_pairsWithout_42 : decode cX6_pairsWithout 42 = .ok (.iaload, 1) := by decide +kernel
theorem dX6_pairsWithout_43 : decode cX6_pairsWithout 43 = .ok (.invokevirtual 257, 3) := by decide +kernel
theorem dX6_pairsWithout_46 : decode cX6_pairsWithout 46 = .ok (.aload_n 0, 1) := by decide +kernel
theorem dX6_pairsWithout_47 : decode cX6_pairsWithout 47 = .ok (.getfield 23, 3) := by decide +kernel
theorem dX6_pairsWithout_50 : decode cX6_pairsWithout 50 = .ok (.aload_n 0, 1) := by decide +kernel
theorem dX6_pairsWithout_51 : decode cX6_pairsWithout 51 = .ok (.getfield 26, 3) := by decide +kernel
theorem dX6_pairsWithout_54 : decode cX6_pairsWithout 54 = .ok (.invokevirtual 208, 3) := by decide +kernel
theorem dX6_pairsWithout_57 : decode cX6_pairsWithout 57 = .ok (.ireturn, 1) := by decide +kernel
theorem dX7_init_0 : decode cX7_init 0 = .ok (.aload_n 0, 1) := by decide +kernel
theorem dX7_init_1 : decode cX7_init 1 = .ok (.invokespecial 1, 3) := by decide +kernel
theorem dX7_init_4 : decode cX7_init 4 = .ok (.aload_n 0, 1) := by decide +kernel
theorem dX7_init_5 : decode cX7_init 5 = .ok (.sipush 560, 3) := by decide +kernel
theorem dX7_init_8 : decode cX7_init 8 = .ok (.newarray .int, 2) := by decide +kernel
theorem dX7_init_10 : decode cX7_init 10 = .ok (.putfield 7, 3) := by decide +kernel
theorem dX7_init_13 : decode cX7_init 13 = .ok (.aload_n 0, 1) := by decide +kernel
theorem dX7_init_14 : decode cX7_init 14 = .ok (.sipush 560, 3) := by decide +kernel
theorem dX7_init_17 : decode cX7_init 17 = .ok (.newarray .int, 2) := by decide +kernel
theorem dX7_init_19 : decode cX7_init 19 = .ok (.putfield 13, 3) := by decide +kernel
theorem dX7_init_22 : decode cX7_init 22 = .ok (.aload_n 0, 1) := by decide +kernel
theorem dX7_init_23 : decode cX7_init 23 = .ok (.sipush 3360, 3) := by decide +kernel
theorem dX7_init_26 : decode cX7_init 26 = .ok (.newarray .int, 2) := by decide +kernel
theorem dX7_init_28 : decode cX7_init 28 = .ok (.putfield 16, 3) := by decide +kernel
theorem dX7_init_31 : decode cX7_init 31 = .ok (.aload_n 0, 1) := by decide +kernel
theorem dX7_init_32 : decode cX7_init 32 = .ok (.sipush 1120, 3) := by decide +kernel
theorem dX7_init_35 : decode cX7_init 35 = .ok (.newarray .int, 2) := by decide +kernel
theorem dX7_init_37 : decode cX7_init 37 = .ok (.putfield 19, 3) := by decide +kernel
theorem dX7_init_40 : decode cX7_init 40 = .ok (.aload_n 0, 1) := by decide +kernel
theorem dX7_init_41 : decode cX7_init 41 = .ok (.iconst 2, 1) := by decide +kernel
theorem dX7_init_42 : decode cX7_init 42 = .ok (.newarray .boolean, 2) := by decide +kernel
theorem dX7_init_44 : decode cX7_init 44 = .ok (.putfield 22, 3) := by decide +kernel
theorem dX7_init_47 : decode cX7_init 47 = .ok (.aload_n 0, 1) := by decide +kernel
theorem dX7_init_48 : decode cX7_init 48 = .ok (.bipush 80, 2) := by decide +kernel
theorem dX7_init_50 : decode cX7_init 50 = .ok (.newarray .int, 2) := by decide +kernel
theorem dX7_init_52 : decode cX7_init 52 = .ok (.putfield 26, 3) := by decide +kernel
theorem dX7_init_55 : decode cX7_init 55 = .ok (.aload_n 0, 1) := by decide +kernel
theorem dX7_init_56 : decode cX7_init 56 = .ok (.sipush 6250, 3) := by decide +kernel
theorem dX7_init_59 : decode cX7_init 59 = .ok (.newarray .int, 2) := by decide +kernel
theorem dX7_init_61 : decode cX7_init 61 = .ok (.putfield 29, 3) := by decide +kernel
theorem dX7_init_64 : decode cX7_init 64 = .ok (.aload_n 0, 1) := by decide +kernel
theorem dX7_init_65 : decode cX7_init 65 = .ok (.sipush 6250, 3) := by decide +kernel
theorem dX7_init_68 : decode cX7_init 68 = .ok (.newarray .int, 2) := by decide +kernel
theorem dX7_init_70 : decode cX7_init 70 = .ok (.putfield 32, 3) := by decide +kernel
theorem dX7_init_73 : decode cX7_init 73 = .ok (.aload_n 0, 1) := by decide +kernel
theorem dX7_init_74 : decode cX7_init 74 = .ok (.bipush 25, 2) := by decide +kernel
theorem dX7_init_76 : decode cX7_init 76 = .ok (.newarray .boolean, 2) := by decide +kernel
theorem dX7_init_78 : decode cX7_init 78 = .ok (.putfield 35, 3) := by decide +kernel
theorem dX7_init_81 : decode cX7_init 81 = .ok (.aload_n 0, 1) := by decide +kernel
theorem dX7_init_82 : decode cX7_init 82 = .ok (.iconst 4, 1) := by decide +kernel
theorem dX7_init_83 : decode cX7_init 83 = .ok (.newarray .int, 2) := by decide +kernel
theorem dX7_init_85 : decode cX7_init 85 = .ok (.putfield 38, 3) := by decide +kernel
theorem dX7_init_88 : decode cX7_init 88 = .ok (.aload_n 0, 1) := by decide +kernel
theorem dX7_init_89 : decode cX7_init 89 = .ok (.bipush 40, 2) := by decide +kernel
theorem dX7_init_91 : decode cX7_init 91 = .ok (.newarray .boolean, 2) := by decide +kernel
theorem dX7_init_93 : decode cX7_init 93 = .ok (.putfield 41, 3) := by decide +kernel
theorem dX7_init_96 : decode cX7_init 96 = .ok (.aload_n 0, 1) := by decide +kernel
theorem dX7_init_97 : decode cX7_init 97 = .ok (.sipush 240, 3) := by decide +kernel
theorem dX7_init_100 : decode cX7_init 100 = .ok (.newarray .int, 2) := by decide +kernel
theorem dX7_init_102 : decode cX7_init 102 = .ok (.putfield 44, 3) := by decide +kernel
theorem dX7_init_105 : decode cX7_init 105 = .ok (.aload_n 0, 1) := by decide +kernel
theorem dX7_init_106 : decode cX7_init 106 = .ok (.getfield 7, 3) := by decide +kernel
theorem dX7_init_109 : decode cX7_init 109 = .ok (.iconst 0, 1) := by decide +kernel
theorem dX7_init_110 : decode cX7_init 110 = .ok (.iconst 1, 1) := by decide +kernel
theorem dX7_init_111 : decode cX7_init 111 = .ok (.iastore, 1) := by decide +kernel
theorem dX7_init_112 : decode cX7_init 112 = .ok (.aload_n 0, 1) := by decide +kernel
theorem dX7_init_113 : decode cX7_init 113 = .ok (.getfield 7, 3) := by decide +kernel
theorem dX7_init_116 : decode cX7_init 116 = .ok (.iconst 2, 1) := by decide +kernel
theorem dX7_init_117 : decode cX7_init 117 = .ok (.iconst 1, 1) := by decide +kernel
theorem dX7_init_118 : decode cX7_init 118 = .ok (.iastore, 1) := by decide +kernel
theorem dX7_init_119 : decode cX7_init 119 = .ok (.aload_n 0, 1) := by decide +kernel
theorem dX7_init_120 : decode cX7_init 120 = .ok (.getfield 7, 3) := by decide +kernel
theorem dX7_init_123 : decode cX7_init 123 = .ok (.iconst 4, 1) := by decide +kernel
theorem dX7_init_124 : decode cX7_init 124 = .ok (.iconst 4, 1) := by decide +kernel
theorem dX7_init_125 : decode cX7_init 125 = .ok (.iastore, 1) := by decide +kernel
theorem dX7_init_126 : decode cX7_init 126 = .ok (.aload_n 0, 1) := by decide +kernel
theorem dX7_init_127 : decode cX7_init 127 = .ok (.getfield 7, 3) := by decide +kernel
theorem dX7_init_130 : decode cX7_init 130 = .ok (.iconst 5, 1) := by decide +kernel
theorem dX7_init_131 : decode cX7_init 131 = .ok (.iconst 4, 1) := by decide +kernel
theorem dX7_init_132 : decode cX7_init 132 = .ok (.iastore, 1) := by decide +kernel
theorem dX7_init_133 : decode cX7_init 133 = .ok (.return_, 1) := by decide +kernel
theorem dX7_in_0 : decode cX7_in 0 = .ok (.iload_n 0, 1) := by decide +kernel
theorem dX7_in_1 : decode cX7_in 1 = .ok (.iload_n 1, 1) := by decide +kernel
theorem dX7_in_2 : decode cX7_in 2 = .ok (.if_icmp .lt 12, 3) := by decide +kernel
theorem dX7_in_5 : decode cX7_in 5 = .ok (.iload_n 0, 1) := by decide +kernel
theorem dX7_in_6 : decode cX7_in 6 = .ok (.iload_n 2, 1) := by decide +kernel
theorem dX7_in_7 : decode cX7_in 7 = .ok (.if_icmp .gt 7, 3) := by decide +kernel
theorem dX7_in_10 : decode cX7_in 10 = .ok (.iconst 1, 1) := by decide +kernel
theorem dX7_in_11 : decode cX7_in 11 = .ok (.goto 4, 3) := by decide +kernel
theorem dX7_in_14 : decode cX7_in 14 = .ok (.iconst 0, 1) := by decide +kernel
theorem dX7_in_15 : decode cX7_in 15 = .ok (.ireturn, 1) := by decide +kernel
theorem dX7_record_0 : decode cX7_record 0 = .ok (.aload_n 0, 1) := by decide +kernel
theorem dX7_record_1 : decode cX7_record 1 = .ok (.getfield 47, 3) := by decide +kernel
theorem dX7_record_4 : decode cX7_record 4 = .ok (.ifCond .eq 4, 3) := by decide +kernel
theorem dX7_record_7 : decode cX7_record 7 = .ok (.return_, 1) := by decide +kernel
theorem dX7_record_8 : decode cX7_record 8 = .ok (.aload_n 0, 1) := by decide +kernel
theorem dX7_record_9 : decode cX7_record 9 = .ok (.getfield 51, 3) := by decide +kernel
theorem dX7_record_12 : decode cX7_record 12 = .ok (.bipush 6, 2) := by decide +kernel
theorem dX7_record_14 : decode cX7_record 14 = .ok (.if_icmp .ne 39, 3) := by decide +kernel
theorem dX7_record_17 : decode cX7_record 17 = .ok (.iconst 0, 1) := by decide +kernel
theorem dX7_record_18 : decode cX7_record 18 = .ok (.istore_n 1, 1) := by decide +kernel
theorem dX7_record_19 : decode cX7_record 19 = .ok (.iload_n 1, 1) := by decide +kernel
theorem dX7_record_20 : decode cX7_record 20 = .ok (.sipush 2800, 3) := by decide +kernel
theorem dX7_record_23 : decode cX7_record 23 = .ok (.if_icmp .ge 25, 3) := by decide +kernel
theorem dX7_record_26 : decode cX7_record 26 = .ok (.aload_n 0, 1) := by decide +kernel
theorem dX7_record_27 : decode cX7_record 27 = .ok (.getfield 16, 3) := by decide +kernel
theorem dX7_record_30 : decode cX7_record 30 = .ok (.iload_n 1, 1) := by decide +kernel
theorem dX7_record_31 : decode cX7_record 31 = .ok (.aload_n 0, 1) := by decide +kernel
theorem dX7_record_32 : decode cX7_record 32 = .ok (.getfield 16, 3) := by decide +kernel
theorem dX7_record_35 : decode cX7_record 35 = .ok (.iload_n 1, 1) := by decide +kernel
theorem dX7_record_36 : decode cX7_record 36 = .ok (.sipush 560, 3) := by decide +kernel
theorem dX7_record_39 : decode cX7_record 39 = .ok (.iadd, 1) := by decide +kernel
theorem dX7_record_40 : decode cX7_record 40 = .ok (.iaload, 1) := by decide +kernel
theorem dX7_record_41 : decode cX7_record 41 = .ok (.iastore, 1) := by decide +kernel
theorem dX7_record_42 : decode cX7_record 42 = .ok (.iinc 1 1, 3) := by decide +kernel
theorem dX7_record_45 : decode cX7_record 45 = .ok (.goto (-26), 3) := by decide +kernel
theorem dX7_record_48 : decode cX7_record 48 = .ok (.aload_n 0, 1) := by decide +kernel
theorem dX7_record_49 : decode cX7_record 49 = .ok (.iconst 5, 1) := by decide +kernel
theorem dX7_record_50 : decode cX7_record 50 = .ok (.putfield 51, 3) := by decide +kernel
theorem dX7_record_53 : decode cX7_record 53 = .ok (.iconst 0, 1) := by decide +kernel
theorem dX7_record_54 : decode cX7_record 54 = .ok (.istore_n 1, 1) := by decide +kernel
theorem dX7_record_55 : decode cX7_record 55 = .ok (.iload_n 1, 1) := by decide +kernel
theorem dX7_record_56 : decode cX7_record 56 = .ok (.sipush 560, 3) := by decide +kernel
theorem dX7_record_59 : decode cX7_record 59 = .ok (.if_icmp .ge 30, 3) := by decide +kernel
theorem dX7_record_62 : decode cX7_record 62 = .ok (.aload_n 0, 1) := by decide +kernel
theorem dX7_record_63 : decode cX7_record 63 = .ok (.getfield 16, 3) := by decide +kernel
theorem dX7_record_66 : decode cX7_record 66 = .ok (.aload_n 0, 1) := by decide +kernel
theorem dX7_record_67 : decode cX7_record 67 = .ok (.getfield 51, 3) := by decide +kernel
theorem dX7_record_70 : decode cX7_record 70 = .ok (.sipush 560, 3) := by decide +kernel
theorem dX7_record_73 : decode cX7_record 73 = .ok (.imul, 1) := by decide +kernel
theorem dX7_record_74 : decode cX7_record 74 = .ok (.iload_n 1, 1) := by decide +kernel
theorem dX7_record_75 : decode cX7_record 75 = .ok (.iadd, 1) := by decide +kernel
theorem dX7_record_76 : decode cX7_record 76 = .ok (.aload_n 0, 1) := by decide +kernel
theorem dX7_record_77 : decode cX7_record 77 = .ok (.getfield 7, 3) := by decide +kernel
theorem dX7_record_80 : decode cX7_record 80 = .ok (.iload_n 1, 1) := by decide +kernel
theorem dX7_record_81 : decode cX7_record 81 = .ok (.iaload, 1) := by decide +kernel
theorem dX7_record_82 : decode cX7_record 82 = .ok (.iastore, 1) := by decide +kernel
theorem dX7_record_83 : decode cX7_record 83 = .ok (.iinc 1 1, 3) := by decide +kernel
theorem dX7_record_86 : decode cX7_record 86 = .ok (.goto (-31), 3) := by decide +kernel
theorem dX7_record_89 : decode cX7_record 89 = .ok (.aload_n 0, 1) := by decide +kernel
theorem dX7_record_90 : decode cX7_record 90 = .ok (.dup, 1) := by decide +kernel
theorem dX7_record_91 : decode cX7_record 91 = .ok (.getfield 51, 3) := by decide +kernel
theorem dX7_record_94 : decode cX7_record 94 = .ok (.iconst 1, 1) := by decide +kernel
theorem dX7_record_95 : decode cX7_record 95 = .ok (.iadd, 1) := by decide +kernel
theorem dX7_record_96 : decode cX7_record 96 = .ok (.putfield 51, 3) := by decide +kernel
theorem dX7_record_99 : decode cX7_record 99 = .ok (.return_, 1) := by decide +kernel
theorem dX7_keep_0 : decode cX7_keep 0 = .ok (.iconst 0, 1) := by decide +kernel
theorem dX7_keep_1 : decode cX7_keep 1 = .ok (.istore_n 1, 1) := by decide +kernel
theorem dX7_keep_2 : decode cX7_keep 2 = .ok (.iload_n 1, 1) := by decide +kernel
theorem dX7_keep_3 : decode cX7_keep 3 = .ok (.sipush 560, 3) := by decide +kernel
theorem dX7_keep_6 : decode cX7_keep 6 = .ok (.if_icmp .ge 21, 3) := by decide +kernel
theorem dX7_keep_9 : decode cX7_keep 9 = .ok (.aload_n 0, 1) := by decide +kernel
theorem dX7_keep_10 : decode cX7_keep 10 = .ok (.getfield 13, 3) := by decide +kernel
theorem dX7_keep_13 : decode cX7_keep 13 = .ok (.iload_n 1, 1) := by decide +kernel
theorem dX7_keep_14 : decode cX7_keep 14 = .ok (.aload_n 0, 1) := by decide +kernel
theorem dX7_keep_15 : decode cX7_keep 15 = .ok (.getfield 7, 3) := by decide +kernel
theorem dX7_keep_18 : decode cX7_keep 18 = .ok (.iload_n 1, 1) := by decide +kernel
theorem dX7_keep_19 : decode cX7_keep 19 = .ok (.iaload, 1) := by decide +kernel
theorem dX7_keep_20 : decode cX7_keep 20 = .ok (.iastore, 1) := by decide +kernel
theorem dX7_keep_21 : decode cX7_keep 21 = .ok (.iinc 1 1, 3) := by decide +kernel
theorem dX7_keep_24 : decode cX7_keep 24 = .ok (.goto (-22), 3) := by decide +kernel
theorem dX7_keep_27 : decode cX7_keep 27 = .ok (.return_, 1) := by decide +kernel
theorem dX7_comeBack_0 : decode cX7_comeBack 0 = .ok (.iconst 0, 1) := by decide +kernel
theorem dX7_comeBack_1 : decode cX7_comeBack 1 = .ok (.istore_n 1, 1) := by decide +kernel
theorem dX7_comeBack_2 : decode cX7_comeBack 2 = .ok (.iload_n 1, 1) := by decide +kernel
theorem dX7_comeBack_3 : decode cX7_comeBack 3 = .ok (.sipush 560, 3) := by decide +kernel
theorem dX7_comeBack_6 : decode cX7_comeBack 6 = .ok (.if_icmp .ge 21, 3) := by decide +kernel
theorem dX7_comeBack_9 : decode cX7_comeBack 9 = .ok (.aload_n 0, 1) := by decide +kernel
theorem dX7_comeBack_10 : decode cX7_comeBack 10 = .ok (.getfield 7, 3) := by decide +kernel
theorem dX7_comeBack_13 : decode cX7_comeBack 13 = .ok (.iload_n 1, 1) := by decide +kernel
theorem dX7_comeBack_14 : decode cX7_comeBack 14 = .ok (.aload_n 0, 1) := by decide +kernel
theorem dX7_comeBack_15 : decode cX7_comeBack 15 = .ok (.getfield 13, 3) := by decide +kernel
theorem dX7_comeBack_18 : decode cX7_comeBack 18 = .ok (.iload_n 1, 1) := by decide +kernel
theorem dX7_comeBack_19 : decode cX7_comeBack 19 = .ok (.iaload, 1) := by decide +kernel
theorem dX7_comeBack_20 : decode cX7_comeBack 20 = .ok (.iastore, 1) := by decide +kernel
theorem dX7_comeBack_21 : decode cX7_comeBack 21 = .ok (.iinc 1 1, 3) := by decide +kernel
theorem dX7_comeBack_24 : decode cX7_comeBack 24 = .ok (.goto (-22), 3) := by decide +kernel
theorem dX7_comeBack_27 : decode cX7_comeBack 27 = .ok (.return_, 1) := by decide +kernel
theorem dX7_boxes_0 : decode cX7_boxes 0 = .ok (.aload_n 0, 1) := by decide +kernel
theorem dX7_boxes_1 : decode cX7_boxes 1 = .ok (.getfield 7, 3) := by decide +kernel
theorem dX7_boxes_4 : decode cX7_boxes 4 = .ok (.iconst 4, 1) := by decide +kernel
theorem dX7_boxes_5 : decode cX7_boxes 5 = .ok (.iaload, 1) := by decide +kernel
theorem dX7_boxes_6 : decode cX7_boxes 6 = .ok (.aload_n 0, 1) := by decide +kernel
theorem dX7_boxes_7 : decode cX7_boxes 7 = .ok (.getfield 7, 3) := by decide +kernel
theorem dX7_boxes_10 : decode cX7_boxes 10 = .ok (.iconst 5, 1) := by decide +kernel
theorem dX7_boxes_11 : decode cX7_boxes 11 = .ok (.iaload, 1) := by decide +kernel
theorem dX7_boxes_12 : decode cX7_boxes 12 = .ok (.imul, 1) := by decide +kernel
theorem dX7_boxes_13 : decode cX7_boxes 13 = .ok (.ireturn, 1) := by decide +kernel
theorem dX7_isBox_0 : decode cX7_isBox 0 = .ok (.iload_n 1, 1) := by decide +kernel
theorem dX7_isBox_1 : decode cX7_isBox 1 = .ok (.iconst 0, 1) := by decide +kernel
theorem dX7_isBox_2 : decode cX7_isBox 2 = .ok (.aload_n 0, 1) := by decide +kernel
theorem dX7_isBox_3 : decode cX7_isBox 3 = .ok (.invokevirtual 55, 3) := by decide +kernel
theorem dX7_isBox_6 : decode cX7_isBox 6 = .ok (.iconst 1, 1) := by decide +kernel
theorem dX7_isBox_7 : decode cX7_isBox 7 = .ok (.isub, 1) := by decide +kernel
theorem dX7_isBox_8 : decode cX7_isBox 8 = .ok (.invokestatic 59, 3) := by decide +kernel
theorem dX7_isBox_11 : decode cX7_isBox 11 = .ok (.ireturn, 1) := by decide +kernel
theorem dX7_beside_0 : decode cX7_beside 0 = .ok (.iload_n 1, 1) := by decide +kernel
theorem dX7_beside_1 : decode cX7_beside 1 = .ok (.aload_n 0, 1) := by decide +kernel
theorem dX7_beside_2 : decode cX7_beside 2 = .ok (.getfield 7, 3) := by decide +kernel
theorem dX7_beside_5 : decode cX7_beside 5 = .ok (.iconst 4, 1) := by decide +kernel
theorem dX7_beside_6 : decode cX7_beside 6 = .ok (.iaload, 1) := by decide +kernel
theorem dX7_beside_7 : decode cX7_beside 7 = .ok (.irem, 1) := by decide +kernel
theorem dX7_beside_8 : decode cX7_beside 8 = .ok (.istore_n 3, 1) := by decide +kernel
theorem dX7_beside_9 : decode cX7_beside 9 = .ok (.iload_n 1, 1) := by decide +kernel
theorem dX7_beside_10 : decode cX7_beside 10 = .ok (.aload_n 0, 1) := by decide +kernel
theorem dX7_beside_11 : decode cX7_beside 11 = .ok (.getfield 7, 3) := by decide +kernel
theorem dX7_beside_14 : decode cX7_beside 14 = .ok (.iconst 4, 1) := by decide +kernel
theorem dX7_beside_15 : decode cX7_beside 15 = .ok (.iaload, 1) := by decide +kernel
theorem dX7_beside_16 : decode cX7_beside 16 = .ok (.idiv, 1) := by decide +kernel
theorem dX7_beside_17 : decode cX7_beside 17 = .ok (.istore 4, 2) := by decide +kernel
theorem dX7_beside_19 : decode cX7_beside 19 = .ok (.iload_n 2, 1) := by decide +kernel
theorem dX7_beside_20 : decode cX7_beside 20 = .ok (.iconst 2, 1) := by decide +kernel
theorem dX7_beside_21 : decode cX7_beside 21 = .ok (.if_icmp .ge 53, 3) := by decide +kernel
theorem dX7_beside_24 : decode cX7_beside 24 = .ok (.iload_n 2, 1) := by decide +kernel
theorem dX7_beside_25 : decode cX7_beside 25 = .ok (.ifCond .ne 9, 3) := by decide +kernel
theorem dX7_beside_28 : decode cX7_beside 28 = .ok (.iload_n 3, 1) := by decide +kernel
theorem dX7_beside_29 : decode cX7_beside 29 = .ok (.iconst 1, 1) := by decide +kernel
theorem dX7_beside_30 : decode cX7_beside 30 = .ok (.iadd, 1) := by decide +kernel
theorem dX7_beside_31 : decode cX7_beside 31 = .ok (.goto 6, 3) := by decide +kernel
theorem dX7_beside_34 : decode cX7_beside 34 = .ok (.iload_n 3, 1) := by decide +kernel
theorem dX7_beside_35 : decode cX7_beside 35 = .ok (.iconst 1, 1) := by decide +kernel
theorem dX7_beside_36 : decode cX7_beside 36 = .ok (.isub, 1) := by decide +kernel
theorem dX7_beside_37 : decode cX7_beside 37 = .ok (.istore 5, 2) := by decide +kernel
theorem dX7_beside_39 : decode cX7_beside 39 = .ok (.iload 5, 2) := by decide +kernel
theorem dX7_beside_41 : decode cX7_beside 41 = .ok (.iconst 0, 1) := by decide +kernel
theorem dX7_beside_42 : decode cX7_beside 42 = .ok (.aload_n 0, 1) := by decide +kernel
theorem dX7_beside_43 : decode cX7_beside 43 = .ok (.getfield 7, 3) := by decide +kernel
theorem dX7_beside_46 : decode cX7_beside 46 = .ok (.iconst 4, 1) := by decide +kernel
theorem dX7_beside_47 : decode cX7_beside 47 = .ok (.iaload, 1) := by decide +kernel
theorem dX7_beside_48 : decode cX7_beside 48 = .ok (.iconst 1, 1) := by decide +kernel
theorem dX7_beside_49 : decode cX7_beside 49 = .ok (.isub, 1) := by decide +kernel
theorem dX7_beside_50 : decode cX7_beside 50 = .ok (.invokestatic 59, 3) := by decide +kernel
theorem dX7_beside_53 : decode cX7_beside 53 = .ok (.ifCond .eq 18, 3) := by decide +kernel
theorem dX7_beside_56 : decode cX7_beside 56 = .ok (.iload 4, 2) := by decide +kernel
theorem dX7_beside_58 : decode cX7_beside 58 = .ok (.aload_n 0, 1) := by decide +kernel
theorem dX7_beside_59 : decode cX7_beside 59 = .ok (.getfield 7, 3) := by decide +kernel
theorem dX7_beside_62 : decode cX7_beside 62 = .ok (.iconst 4, 1) := by decide +kernel
theorem dX7_beside_63 : decode cX7_beside 63 = .ok (.iaload, 1) := by decide +kernel
theorem dX7_beside_64 : decode cX7_beside 64 = .ok (.imul, 1) := by decide +kernel
theorem dX7_beside_65 : decode cX7_beside 65 = .ok (.iload 5, 2) := by decide +kernel
theorem dX7_beside_67 : decode cX7_beside 67 = .ok (.iadd, 1) := by decide +kernel
theorem dX7_beside_68 : decode cX7_beside 68 = .ok (.goto 5, 3) := by decide +kernel
theorem dX7_beside_71 : decode cX7_beside 71 = .ok (.bipush (-6), 2) := by decide +kernel
theorem dX7_beside_73 : decode cX7_beside 73 = .ok (.ireturn, 1) := by decide +kernel
theorem dX7_beside_74 : decode cX7_beside 74 = .ok (.iload_n 2, 1) := by decide +kernel
theorem dX7_beside_75 : decode cX7_beside 75 = .ok (.iconst 2, 1) := by decide +kernel
theorem dX7_beside_76 : decode cX7_beside 76 = .ok (.if_icmp .ne 10, 3) := by decide +kernel
theorem dX7_beside_79 : decode cX7_beside 79 = .ok (.iload 4, 2) := by decide +kernel
theorem dX7_beside_81 : decode cX7_beside 81 = .ok (.iconst 1, 1) := by decide +kernel
theorem dX7_beside_82 : decode cX7_beside 82 = .ok (.iadd, 1) := by decide +kernel
theorem dX7_beside_83 : decode cX7_beside 83 = .ok (.goto 7, 3) := by decide +kernel
theorem dX7_beside_86 : decode cX7_beside 86 = .ok (.iload 4, 2) := by decide +kernel
theorem dX7_beside_88 : decode cX7_beside 88 = .ok (.iconst 1, 1) := by decide +kernel
theorem dX7_beside_89 : decode cX7_beside 89 = .ok (.isub, 1) := by decide +kernel
theorem dX7_beside_90 : decode cX7_beside 90 = .ok (.istore 5, 2) := by decide +kernel
theorem dX7_beside_92 : decode cX7_beside 92 = .ok (.iload 5, 2) := by decide +kernel
theorem dX7_beside_94 : decode cX7_beside 94 = .ok (.iconst 0, 1) := by decide +kernel
theorem dX7_beside_95 : decode cX7_beside 95 = .ok (.aload_n 0, 1) := by decide +kernel
theorem dX7_beside_96 : decode cX7_beside 96 = .ok (.getfield 7, 3) := by decide +kernel
theorem dX7_beside_99 : decode cX7_beside 99 = .ok (.iconst 5, 1) := by decide +kernel
theorem dX7_beside_100 : decode cX7_beside 100 = .ok (.iaload, 1) := by decide +kernel
theorem dX7_beside_101 : decode cX7_beside 101 = .ok (.iconst 1, 1) := by decide +kernel
theorem dX7_beside_102 : decode cX7_beside 102 = .ok (.isub, 1) := by decide +kernel
theorem dX7_beside_103 : decode cX7_beside 103 = .ok (.invokestatic 59, 3) := by decide +kernel
theorem dX7_beside_106 : decode cX7_beside 106 = .ok (.ifCond .eq 17, 3) := by decide +kernel
theorem dX7_beside_109 : decode cX7_beside 109 = .ok (.iload 5, 2) := by decide +kernel
theorem dX7_beside_111 : decode cX7_beside 111 = .ok (.aload_n 0, 1) := by decide +kernel
theorem dX7_beside_112 : decode cX7_beside 112 = .ok (.getfield 7, 3) := by decide +kernel
theorem dX7_beside_115 : decode cX7_beside 115 = .ok (.iconst 4, 1) := by decide +kernel
theorem dX7_beside_116 : decode cX7_beside 116 = .ok (.iaload, 1) := by decide +kernel
theorem dX7_beside_117 : decode cX7_beside 117 = .ok (.imul, 1) := by decide +kernel
theorem dX7_beside_118 : decode cX7_beside 118 = .ok (.iload_n 3, 1) := by decide +kernel
theorem dX7_beside_119 : decode cX7_beside 119 = .ok (.iadd, 1) := by decide +kernel
theorem dX7_beside_120 : decode cX7_beside 120 = .ok (.goto 5, 3) := by decide +kernel
theorem dX7_beside_123 : decode cX7_beside 123 = .ok (.bipush (-6), 2) := by decide +kernel
theorem dX7_beside_125 : decode cX7_beside 125 = .ok (.ireturn, 1) := by decide +kernel
theorem dX7_linkOf_0 : decode cX7_linkOf 0 = .ok (.iload_n 2, 1) := by decide +kernel
theorem dX7_linkOf_1 : decode cX7_linkOf 1 = .ok (.ifCond .eq 8, 3) := by decide +kernel
theorem dX7_linkOf_4 : decode cX7_linkOf 4 = .ok (.iload_n 2, 1) := by decide +kernel
theorem dX7_linkOf_5 : decode cX7_linkOf 5 = .ok (.iconst 2, 1) := by decide +kernel
theorem dX7_linkOf_6 : decode cX7_linkOf 6 = .ok (.if_icmp .ne 7, 3) := by decide +kernel
theorem dX7_linkOf_9 : decode cX7_linkOf 9 = .ok (.iload_n 1, 1) := by decide +kernel
theorem dX7_linkOf_10 : decode cX7_linkOf 10 = .ok (.goto 9, 3) := by decide +kernel
theorem dX7_linkOf_13 : decode cX7_linkOf 13 = .ok (.aload_n 0, 1) := by decide +kernel
theorem dX7_linkOf_14 : decode cX7_linkOf 14 = .ok (.iload_n 1, 1) := by decide +kernel
theorem dX7_linkOf_15 : decode cX7_linkOf 15 = .ok (.iload_n 2, 1) := by decide +kernel
theorem dX7_linkOf_16 : decode cX7_linkOf 16 = .ok (.invokevirtual 63, 3) := by decide +kernel
theorem dX7_linkOf_19 : decode cX7_linkOf 19 = .ok (.istore_n 3, 1) := by decide +kernel
theorem dX7_linkOf_20 : decode cX7_linkOf 20 = .ok (.bipush 10, 2) := by decide +kernel
theorem dX7_linkOf_22 : decode cX7_linkOf 22 = .ok (.iconst 2, 1) := by decide +kernel
theorem dX7_linkOf_23 : decode cX7_linkOf 23 = .ok (.iload_n 3, 1) := by decide +kernel
theorem dX7_linkOf_24 : decode cX7_linkOf 24 = .ok (.imul, 1) := by decide +kernel
theorem dX7_linkOf_25 : decode cX7_linkOf 25 = .ok (.iadd, 1) := by decide +kernel
theorem dX7_linkOf_26 : decode cX7_linkOf 26 = .ok (.iload_n 2, 1) := by decide +kernel
theorem dX7_linkOf_27 : decode cX7_linkOf 27 = .ok (.iconst 2, 1) := by decide +kernel
theorem dX7_linkOf_28 : decode cX7_linkOf 28 = .ok (.if_icmp .ge 7, 3) := by decide +kernel
theorem dX7_linkOf_31 : decode cX7_linkOf 31 = .ok (.iconst 0, 1) := by decide +kernel
theorem dX7_linkOf_32 : decode cX7_linkOf 32 = .ok (.goto 4, 3) := by decide +kernel
theorem dX7_linkOf_35 : decode cX7_linkOf 35 = .ok (.iconst 1, 1) := by decide +kernel
theorem dX7_linkOf_36 : decode cX7_linkOf 36 = .ok (.iadd, 1) := by decide +kernel
theorem dX7_linkOf_37 : decode cX7_linkOf 37 = .ok (.ireturn, 1) := by decide +kernel
theorem dX7_isWhole_0 : decode cX7_isWhole 0 = .ok (.aload_n 0, 1) := by decide +kernel
theorem dX7_isWhole_1 : decode cX7_isWhole 1 = .ok (.iload_n 1, 1) := by decide +kernel
theorem dX7_isWhole_2 : decode cX7_isWhole 2 = .ok (.iload_n 2, 1) := by decide +kernel
theorem dX7_isWhole_3 : decode cX7_isWhole 3 = .ok (.invokevirtual 63, 3) := by decide +kernel
theorem dX7_isWhole_6 : decode cX7_isWhole 6 = .ok (.ifCond .lt 21, 3) := by decide +kernel
theorem dX7_isWhole_9 : decode cX7_isWhole 9 = .ok (.aload_n 0, 1) := by decide +kernel
theorem dX7_isWhole_10 : decode cX7_isWhole 10 = .ok (.getfield 7, 3) := by decide +kernel
theorem dX7_isWhole_13 : decode cX7_isWhole 13 = .ok (.aload_n 0, 1) := by decide +kernel
theorem dX7_isWhole_14 : decode cX7_isWhole 14 = .ok (.iload_n 1, 1) := by decide +kernel
theorem dX7_isWhole_15 : decode cX7_isWhole 15 = .ok (.iload_n 2, 1) := by decide +kernel
theorem dX7_isWhole_16 : decode cX7_isWhole 16 = .ok (.invokevirtual 67, 3) := by decide +kernel
theorem dX7_isWhole_19 : decode cX7_isWhole 19 = .ok (.iaload, 1) := by decide +kernel
theorem dX7_isWhole_20 : decode cX7_isWhole 20 = .ok (.ifCond .ne 7, 3) := by decide +kernel
theorem dX7_isWhole_23 : decode cX7_isWhole 23 = .ok (.iconst 1, 1) := by decide +kernel
theorem dX7_isWhole_24 : decode cX7_isWhole 24 = .ok (.goto 4, 3) := by decide +kernel
theorem dX7_isWhole_27 : decode cX7_isWhole 27 = .ok (.iconst 0, 1) := by decide +kernel
theorem dX7_isWhole_28 : decode cX7_isWhole 28 = .ok (.ireturn, 1) := by decide +kernel
theorem dX7_set_0 : decode cX7_set 0 = .ok (.iload_n 1, 1) := by decide +kernel
theorem dX7_set_1 : decode cX7_set 1 = .ok (.iconst 2, 1) := by decide +kernel
theorem dX7_set_2 : decode cX7_set 2 = .ok (.if_icmp .ne 7, 3) := by decide +kernel
theorem dX7_set_5 : decode cX7_set 5 = .ok (.iconst 1, 1) := by decide +kernel
theorem dX7_set_6 : decode cX7_set 6 = .ok (.goto 4, 3) := by decide +kernel
theorem dX7_set_9 : decode cX7_set 9 = .ok (.iconst 0, 1) := by decide +kernel
theorem dX7_set_10 : decode cX7_set 10 = .ok (.istore_n 3, 1) := by decide +kernel
theorem dX7_set_11 : decode cX7_set 11 = .ok (.iload_n 1, 1) := by decide +kernel
theorem dX7_set_12 : decode cX7_set 12 = .ok (.ifCond .ne 7, 3) := by decide +kernel
theorem dX7_set_15 : decode cX7_set 15 = .ok (.iconst 1, 1) := by decide +kernel
theorem dX7_set_16 : decode cX7_set 16 = .ok (.goto 4, 3) := by decide +kernel
theorem dX7_set_19 : decode cX7_set 19 = .ok (.iconst 4, 1) := by decide +kernel
theorem dX7_set_20 : decode cX7_set 20 = .ok (.istore 4, 2) := by decide +kernel
theorem dX7_set_22 : decode cX7_set 22 = .ok (.iload_n 1, 1) := by decide +kernel
theorem dX7_set_23 : decode cX7_set 23 = .ok (.iconst 0, 1) := by decide +kernel
theorem dX7_set_24 : decode cX7_set 24 = .ok (.iconst 2, 1) := by decide +kernel
theorem dX7_set_25 : decode cX7_set 25 = .ok (.invokestatic 59, 3) := by decide +kernel
theorem dX7_set_28 : decode cX7_set 28 = .ok (.ifCond .eq 13, 3) := by decide +kernel
theorem dX7_set_31 : decode cX7_set 31 = .ok (.iload_n 2, 1) := by decide +kernel
theorem dX7_set_32 : decode cX7_set 32 = .ok (.iload_n 3, 1) := by decide +kernel
theorem dX7_set_33 : decode cX7_set 33 = .ok (.iload 4, 2) := by decide +kernel
theorem dX7_set_35 : decode cX7_set 35 = .ok (.invokestatic 59, 3) := by decide +kernel
theorem dX7_set_38 : decode cX7_set 38 = .ok (.ifCond .ne 6, 3) := by decide +kernel
theorem dX7_set_41 : decode cX7_set 41 = .ok (.bipush (-2), 2) := by decide +kernel
theorem dX7_set_43 : decode cX7_set 43 = .ok (.ireturn, 1) := by decide +kernel
theorem dX7_set_44 : decode cX7_set 44 = .ok (.aload_n 0, 1) := by decide +kernel
theorem dX7_set_45 : decode cX7_set 45 = .ok (.invokevirtual 70, 3) := by decide +kernel
theorem dX7_set_48 : decode cX7_set 48 = .ok (.aload_n 0, 1) := by decide +kernel
theorem dX7_set_49 : decode cX7_set 49 = .ok (.getfield 7, 3) := by decide +kernel
theorem dX7_set_52 : decode cX7_set 52 = .ok (.iload_n 1, 1) := by decide +kernel
theorem dX7_set_53 : decode cX7_set 53 = .ok (.iaload, 1) := by decide +kernel
theorem dX7_set_54 : decode cX7_set 54 = .ok (.istore 5, 2) := by decide +kernel
theorem dX7_set_56 : decode cX7_set 56 = .ok (.aload_n 0, 1) := by decide +kernel
theorem dX7_set_57 : decode cX7_set 57 = .ok (.getfield 7, 3) := by decide +kernel
theorem dX7_set_60 : decode cX7_set 60 = .ok (.iload_n 1, 1) := by decide +kernel
theorem dX7_set_61 : decode cX7_set 61 = .ok (.iload_n 2, 1) := by decide +kernel
theorem dX7_set_62 : decode cX7_set 62 = .ok (.iastore, 1) := by decide +kernel
theorem dX7_set_63 : decode cX7_set 63 = .ok (.aload_n 0, 1) := by decide +kernel
theorem dX7_set_64 : decode cX7_set 64 = .ok (.invokevirtual 73, 3) := by decide +kernel
theorem dX7_set_67 : decode cX7_set 67 = .ok (.iload 5, 2) := by decide +kernel
theorem dX7_set_69 : decode cX7_set 69 = .ok (.ireturn, 1) := by decide +kernel
theorem dX7_mesh_0 : decode cX7_mesh 0 = .ok (.iload_n 1, 1) := by decide +kernel
theorem dX7_mesh_1 : decode cX7_mesh 1 = .ok (.iconst 2, 1) := by decide +kernel
theorem dX7_mesh_2 : decode cX7_mesh 2 = .ok (.iconst 5, 1) := by decide +kernel
theorem dX7_mesh_3 : decode cX7_mesh 3 = .ok (.invokestatic 59, 3) := by decide +kernel
theorem dX7_mesh_6 : decode cX7_mesh 6 = .ok (.ifCond .eq 12, 3) := by decide +kernel
theorem dX7_mesh_9 : decode cX7_mesh 9 = .ok (.iload_n 2, 1) := by decide +kernel
theorem dX7_mesh_10 : decode cX7_mesh 10 = .ok (.iconst 2, 1) := by decide +kernel
theorem dX7_mesh_11 : decode cX7_mesh 11 = .ok (.iconst 5, 1) := by decide +kernel
theorem dX7_mesh_12 : decode cX7_mesh 12 = .ok (.invokestatic 59, 3) := by decide +kernel
theorem dX7_mesh_15 : decode cX7_mesh 15 = .ok (.ifCond .ne 6, 3) := by decide +kernel
theorem dX7_mesh_18 : decode cX7_mesh 18 = .ok (.bipush (-2), 2) := by decide +kernel
theorem dX7_mesh_20 : decode cX7_mesh 20 = .ok (.ireturn, 1) := by decide +kernel
theorem dX7_mesh_21 : decode cX7_mesh 21 = .ok (.aload_n 0, 1) := by decide +kernel
theorem dX7_mesh_22 : decode cX7_mesh 22 = .ok (.getfield 7, 3) := by decide +kernel
theorem dX7_mesh_25 : decode cX7_mesh 25 = .ok (.bipush 6, 2) := by decide +kernel
theorem dX7_mesh_27 : decode cX7_mesh 27 = .ok (.iaload, 1) := by decide +kernel
theorem dX7_mesh_28 : decode cX7_mesh 28 = .ok (.ifCond .le 6, 3) := by decide +kernel
theorem dX7_mesh_31 : decode cX7_mesh 31 = .ok (.bipush (-5), 2) := by decide +kernel
theorem dX7_mesh_33 : decode cX7_mesh 33 = .ok (.ireturn, 1) := by decide +kernel
theorem dX7_mesh_34 : decode cX7_mesh 34 = .ok (.aload_n 0, 1) := by decide +kernel
theorem dX7_mesh_35 : decode cX7_mesh 35 = .ok (.invokevirtual 70, 3) := by decide +kernel
theorem dX7_mesh_38 : decode cX7_mesh 38 = .ok (.aload_n 0, 1) := by decide +kernel
theorem dX7_mesh_39 : decode cX7_mesh 39 = .ok (.getfield 7, 3) := by decide +kernel
theorem dX7_mesh_42 : decode cX7_mesh 42 = .ok (.iconst 4, 1) := by decide +kernel
theorem dX7_mesh_43 : decode cX7_mesh 43 = .ok (.iload_n 1, 1) := by decide +kernel
theorem dX7_mesh_44 : decode cX7_mesh 44 = .ok (.iastore, 1) := by decide +kernel
theorem dX7_mesh_45 : decode cX7_mesh 45 = .ok (.aload_n 0, 1) := by decide +kernel
theorem dX7_mesh_46 : decode cX7_mesh 46 = .ok (.getfield 7, 3) := by decide +kernel
theorem dX7_mesh_49 : decode cX7_mesh 49 = .ok (.iconst 5, 1) := by decide +kernel
theorem dX7_mesh_50 : decode cX7_mesh 50 = .ok (.iload_n 2, 1) := by decide +kernel
theorem dX7_mesh_51 : decode cX7_mesh 51 = .ok (.iastore, 1) := by decide +kernel
theorem dX7_mesh_52 : decode cX7_mesh 52 = .ok (.bipush 10, 2) := by decide +kernel
theorem dX7_mesh_54 : decode cX7_mesh 54 = .ok (.istore_n 3, 1) := by decide +kernel
theorem dX7_mesh_55 : decode cX7_mesh 55 = .ok (.iload_n 3, 1) := by decide +kernel
theorem dX7_mesh_56 : decode cX7_mesh 56 = .ok (.bipush 60, 2) := by decide +kernel
theorem dX7_mesh_58 : decode cX7_mesh 58 = .ok (.if_icmp .ge 16, 3) := by decide +kernel
theorem dX7_mesh_61 : decode cX7_mesh 61 = .ok (.aload_n 0, 1) := by decide +kernel
theorem dX7_mesh_62 : decode cX7_mesh 62 = .ok (.getfield 7, 3) := by decide +kernel
theorem dX7_mesh_65 : decode cX7_mesh 65 = .ok (.iload_n 3, 1) := by decide +kernel
theorem dX7_mesh_66 : decode cX7_mesh 66 = .ok (.iconst 0, 1) := by decide +kernel
theorem dX7_mesh_67 : decode cX7_mesh 67 = .ok (.iastore, 1) := by decide +kernel
theorem dX7_mesh_68 : decode cX7_mesh 68 = .ok (.iinc 3 1, 3) := by decide +kernel
theorem dX7_mesh_71 : decode cX7_mesh 71 = .ok (.goto (-16), 3) := by decide +kernel
theorem dX7_mesh_74 : decode cX7_mesh 74 = .ok (.aload_n 0, 1) := by decide +kernel
theorem dX7_mesh_75 : decode cX7_mesh 75 = .ok (.invokevirtual 73, 3) := by decide +kernel
theorem dX7_mesh_78 : decode cX7_mesh 78 = .ok (.aload_n 0, 1) := by decide +kernel
theorem dX7_mesh_79 : decode cX7_mesh 79 = .ok (.invokevirtual 55, 3) := by decide +kernel
theorem dX7_mesh_82 : decode cX7_mesh 82 = .ok (.ireturn, 1) := by decide +kernel
theorem dX7_link_0 : decode cX7_link 0 = .ok (.aload_n 0, 1) := by decide +kernel
theorem dX7_link_1 : decode cX7_link 1 = .ok (.iload_n 1, 1) := by decide +kernel
theorem dX7_link_2 : decode cX7_link 2 = .ok (.invokevirtual 76, 3) := by decide +kernel
theorem dX7_link_5 : decode cX7_link 5 = .ok (.ifCond .eq 21, 3) := by decide +kernel
theorem dX7_link_8 : decode cX7_link 8 = .ok (.iload_n 2, 1) := by decide +kernel
theorem dX7_link_9 : decode cX7_link 9 = .ok (.iconst 0, 1) := by decide +kernel
theorem dX7_link_10 : decode cX7_link 10 = .ok (.iconst 3, 1) := by decide +kernel
theorem dX7_link_11 : decode cX7_link 11 = .ok (.invokestatic 59, 3) := by decide +kernel
theorem dX7_link_14 : decode cX7_link 14 = .ok (.ifCond .eq 14, 3) := by decide +kernel
theorem dX7_link_17 : decode cX7_link 17 = .ok (.aload_n 0, 1) := by decide +kernel
theorem dX7_link_18 : decode cX7_link 18 = .ok (.iload_n 1, 1) := by decide +kernel
theorem dX7_link_19 : decode cX7_link 19 = .ok (.iload_n 2, 1) := by decide +kernel
theorem dX7_link_20 : decode cX7_link 20 = .ok (.invokevirtual 63, 3) := by decide +kernel
theorem dX7_link_23 : decode cX7_link 23 = .ok (.ifCond .ge 5, 3) := by decide +kernel
theorem dX7_link_26 : decode cX7_link 26 = .ok (.iconst (-1), 1) := by decide +kernel
theorem dX7_link_27 : decode cX7_link 27 = .ok (.ireturn, 1) := by decide +kernel
theorem dX7_link_28 : decode cX7_link 28 = .ok (.iload_n 2, 1) := by decide +kernel
theorem dX7_link_29 : decode cX7_link 29 = .ok (.iconst 0, 1) := by decide +kernel
theorem dX7_link_30 : decode cX7_link 30 = .ok (.iconst 3, 1) := by decide +kernel
theorem dX7_link_31 : decode cX7_link 31 = .ok (.invokestatic 59, 3) := by decide +kernel
theorem dX7_link_34 : decode cX7_link 34 = .ok (.ifCond .eq 12, 3) := by decide +kernel
theorem dX7_link_37 : decode cX7_link 37 = .ok (.iload_n 3, 1) := by decide +kernel
theorem dX7_link_38 : decode cX7_link 38 = .ok (.iconst 0, 1) := by decide +kernel
theorem dX7_link_39 : decode cX7_link 39 = .ok (.iconst 1, 1) := by decide +kernel
theorem dX7_link_40 : decode cX7_link 40 = .ok (.invokestatic 59, 3) := by decide +kernel
theorem dX7_link_43 : decode cX7_link 43 = .ok (.ifCond .ne 6, 3) := by decide +kernel
theorem dX7_link_46 : decode cX7_link 46 = .ok (.bipush (-2), 2) := by decide +kernel
theorem dX7_link_48 : decode cX7_link 48 = .ok (.ireturn, 1) := by decide +kernel
theorem dX7_link_49 : decode cX7_link 49 = .ok (.aload_n 0, 1) := by decide +kernel
theorem dX7_link_50 : decode cX7_link 50 = .ok (.invokevirtual 70, 3) := by decide +kernel
theorem dX7_link_53 : decode cX7_link 53 = .ok (.aload_n 0, 1) := by decide +kernel
theorem dX7_link_54 : decode cX7_link 54 = .ok (.iload_n 1, 1) := by decide +kernel
theorem dX7_link_55 : decode cX7_link 55 = .ok (.iload_n 2, 1) := by decide +kernel
theorem dX7_link_56 : decode cX7_link 56 = .ok (.invokevirtual 67, 3) := by decide +kernel
theorem dX7_link_59 : decode cX7_link 59 = .ok (.istore 4, 2) := by decide +kernel
theorem dX7_link_61 : decode cX7_link 61 = .ok (.iconst 1, 1) := by decide +kernel
theorem dX7_link_62 : decode cX7_link 62 = .ok (.aload_n 0, 1) := by decide +kernel
theorem dX7_link_63 : decode cX7_link 63 = .ok (.getfield 7, 3) := by decide +kernel
theorem dX7_link_66 : decode cX7_link 66 = .ok (.iload 4, 2) := by decide +kernel
theorem dX7_link_68 : decode cX7_link 68 = .ok (.iaload, 1) := by decide +kernel
theorem dX7_link_69 : decode cX7_link 69 = .ok (.isub, 1) := by decide +kernel
theorem dX7_link_70 : decode cX7_link 70 = .ok (.istore 5, 2) := by decide +kernel
theorem dX7_link_72 : decode cX7_link 72 = .ok (.aload_n 0, 1) := by decide +kernel
theorem dX7_link_73 : decode cX7_link 73 = .ok (.getfield 7, 3) := by decide +kernel
theorem dX7_link_76 : decode cX7_link 76 = .ok (.iload 4, 2) := by decide +kernel
theorem dX7_link_78 : decode cX7_link 78 = .ok (.iconst 1, 1) := by decide +kernel
theorem dX7_link_79 : decode cX7_link 79 = .ok (.iload_n 3, 1) := by decide +kernel
theorem dX7_link_80 : decode cX7_link 80 = .ok (.isub, 1) := by decide +kernel
theorem dX7_link_81 : decode cX7_link 81 = .ok (.iastore, 1) := by decide +kernel
theorem dX7_link_82 : decode cX7_link 82 = .ok (.aload_n 0, 1) := by decide +kernel
theorem dX7_link_83 : decode cX7_link 83 = .ok (.invokevirtual 73, 3) := by decide +kernel
theorem dX7_link_86 : decode cX7_link 86 = .ok (.iload 5, 2) := by decide +kernel
theorem dX7_link_88 : decode cX7_link 88 = .ok (.ireturn, 1) := by decide +kernel
theorem dX7_forget_0 : decode cX7_forget 0 = .ok (.iconst 0, 1) := by decide +kernel
theorem dX7_forget_1 : decode cX7_forget 1 = .ok (.istore_n 1, 1) := by decide +kernel
theorem dX7_forget_2 : decode cX7_forget 2 = .ok (.iload_n 1, 1) := by decide +kernel
theorem dX7_forget_3 : decode cX7_forget 3 = .ok (.bipush 25, 2) := by decide +kernel
theorem dX7_forget_5 : decode cX7_forget 5 = .ok (.if_icmp .ge 16, 3) := by decide +kernel
theorem dX7_forget_8 : decode cX7_forget 8 = .ok (.aload_n 0, 1) := by decide +kernel
theorem dX7_forget_9 : decode cX7_forget 9 = .ok (.getfield 35, 3) := by decide +kernel
theorem dX7_forget_12 : decode cX7_forget 12 = .ok (.iload_n 1, 1) := by decide +kernel
theorem dX7_forget_13 : decode cX7_forget 13 = .ok (.iconst 0, 1) := by decide +kernel
theorem dX7_forget_14 : decode cX7_forget 14 = .ok (.bastore, 1) := by decide +kernel
theorem dX7_forget_15 : decode cX7_forget 15 = .ok (.iinc 1 1, 3) := by decide +kernel
theorem dX7_forget_18 : decode cX7_forget 18 = .ok (.goto (-16), 3) := by decide +kernel
theorem dX7_forget_21 : decode cX7_forget 21 = .ok (.return_, 1) := by decide +kernel
theorem dX7_apart_0 : decode cX7_apart 0 = .ok (.iload_n 1, 1) := by decide +kernel
theorem dX7_apart_1 : decode cX7_apart 1 = .ok (.aload_n 0, 1) := by decide +kernel
theorem dX7_apart_2 : decode cX7_apart 2 = .ok (.getfield 7, 3) := by decide +kernel
theorem dX7_apart_5 : decode cX7_apart 5 = .ok (.iconst 4, 1) := by decide +kernel
theorem dX7_apart_6 : decode cX7_apart 6 = .ok (.iaload, 1) := by decide +kernel
theorem dX7_apart_7 : decode cX7_apart 7 = .ok (.irem, 1) := by decide +kernel
theorem dX7_apart_8 : decode cX7_apart 8 = .ok (.iload_n 2, 1) := by decide +kernel
theorem dX7_apart_9 : decode cX7_apart 9 = .ok (.aload_n 0, 1) := by decide +kernel
theorem dX7_apart_10 : decode cX7_apart 10 = .ok (.getfield 7, 3) := by decide +kernel
theorem dX7_apart_13 : decode cX7_apart 13 = .ok (.iconst 4, 1) := by decide +kernel
theorem dX7_apart_14 : decode cX7_apart 14 = .ok (.iaload, 1) := by decide +kernel
theorem dX7_apart_15 : decode cX7_apart 15 = .ok (.irem, 1) := by decide +kernel
theorem dX7_apart_16 : decode cX7_apart 16 = .ok (.isub, 1) := by decide +kernel
theorem dX7_apart_17 : decode cX7_apart 17 = .ok (.istore_n 3, 1) := by decide +kernel
theorem dX7_apart_18 : decode cX7_apart 18 = .ok (.iload_n 1, 1) := by decide +kernel
theorem dX7_apart_19 : decode cX7_apart 19 = .ok (.aload_n 0, 1) := by decide +kernel
theorem dX7_apart_20 : decode cX7_apart 20 = .ok (.getfield 7, 3) := by decide +kernel
theorem dX7_apart_23 : decode cX7_apart 23 = .ok (.iconst 4, 1) := by decide +kernel
theorem dX7_apart_24 : decode cX7_apart 24 = .ok (.iaload, 1) := by decide +kernel
theorem dX7_apart_25 : decode cX7_apart 25 = .ok (.idiv, 1) := by decide +kernel
theorem dX7_apart_26 : decode cX7_apart 26 = .ok (.iload_n 2, 1) := by decide +kernel
theorem dX7_apart_27 : decode cX7_apart 27 = .ok (.aload_n 0, 1) := by decide +kernel
theorem dX7_apart_28 : decode cX7_apart 28 = .ok (.getfield 7, 3) := by decide +kernel
theorem dX7_apart_31 : decode cX7_apart 31 = .ok (.iconst 4, 1) := by decide +kernel
theorem dX7_apart_32 : decode cX7_apart 32 = .ok (.iaload, 1) := by decide +kernel
theorem dX7_apart_33 : decode cX7_apart 33 = .ok (.idiv, 1) := by decide +kernel
theorem dX7_apart_34 : decode cX7_apart 34 = .ok (.isub, 1) := by decide +kernel
theorem dX7_apart_35 : decode cX7_apart 35 = .ok (.istore 4, 2) := by decide +kernel
theorem dX7_apart_37 : decode cX7_apart 37 = .ok (.iload_n 3, 1) := by decide +kernel
theorem dX7_apart_38 : decode cX7_apart 38 = .ok (.ifCond .ge 8, 3) := by decide +kernel
theorem dX7_apart_41 : decode cX7_apart 41 = .ok (.iload_n 3, 1) := by decide +kernel
theorem dX7_apart_42 : decode cX7_apart 42 = .ok (.ineg, 1) := by decide +kernel
theorem dX7_apart_43 : decode cX7_apart 43 = .ok (.goto 4, 3) := by decide +kernel
theorem dX7_apart_46 : decode cX7_apart 46 = .ok (.iload_n 3, 1) := by decide +kernel
theorem dX7_apart_47 : decode cX7_apart 47 = .ok (.iload 4, 2) := by decide +kernel
theorem dX7_apart_49 : decode cX7_apart 49 = .ok (.ifCond .ge 9, 3) := by decide +kernel
theorem dX7_apart_52 : decode cX7_apart 52 = .ok (.iload 4, 2) := by decide +kernel
theorem dX7_apart_54 : decode cX7_apart 54 = .ok (.ineg, 1) := by decide +kernel
theorem dX7_apart_55 : decode cX7_apart 55 = .ok (.goto 5, 3) := by decide +kernel
theorem dX7_apart_58 : decode cX7_apart 58 = .ok (.iload 4, 2) := by decide +kernel
theorem dX7_apart_60 : decode cX7_apart 60 = .ok (.iadd, 1) := by decide +kernel
theorem dX7_apart_61 : decode cX7_apart 61 = .ok (.ireturn, 1) := by decide +kernel
theorem dX7_isDetour_0 : decode cX7_isDetour 0 = .ok (.aload_n 0, 1) := by decide +kernel
theorem dX7_isDetour_1 : decode cX7_isDetour 1 = .ok (.iload_n 2, 1) := by decide +kernel
theorem dX7_isDetour_2 : decode cX7_isDetour 2 = .ok (.iload_n 3, 1) := by decide +kernel
theorem dX7_isDetour_3 : decode cX7_isDetour 3 = .ok (.invokevirtual 80, 3) := by decide +kernel
theorem dX7_isDetour_6 : decode cX7_isDetour 6 = .ok (.aload_n 0, 1) := by decide +kernel
theorem dX7_isDetour_7 : decode cX7_isDetour 7 = .ok (.iload_n 1, 1) := by decide +kernel
theorem dX7_isDetour_8 : decode cX7_isDetour 8 = .ok (.iload_n 3, 1) := by decide +kernel
theorem dX7_isDetour_9 : decode cX7_isDetour 9 = .ok (.invokevirtual 80, 3) := by decide +kernel
theorem dX7_isDetour_12 : decode cX7_isDetour 12 = .ok (.if_icmp .lt 7, 3) := by decide +kernel
theorem dX7_isDetour_15 : decode cX7_isDetour 15 = .ok (.iconst 1, 1) := by decide +kernel
theorem dX7_isDetour_16 : decode cX7_isDetour 16 = .ok (.goto 4, 3) := by decide +kernel
theorem dX7_isDetour_19 : decode cX7_isDetour 19 = .ok (.iconst 0, 1) := by decide +kernel
theorem dX7_isDetour_20 : decode cX7_isDetour 20 = .ok (.ireturn, 1) := by decide +kernel
theorem dX7_moved_0 : decode cX7_moved 0 = .ok (.iload_n 1, 1) := by decide +kernel
theorem dX7_moved_1 : decode cX7_moved 1 = .ok (.bipush 10, 2) := by decide +kernel
theorem dX7_moved_3 : decode cX7_moved 3 = .ok (.idiv, 1) := by decide +kernel
theorem dX7_moved_4 : decode cX7_moved 4 = .ok (.istore 4, 2) := by decide +kernel
theorem dX7_moved_6 : decode cX7_moved 6 = .ok (.iload_n 1, 1) := by decide +kernel
theorem dX7_moved_7 : decode cX7_moved 7 = .ok (.iconst 5, 1) := by decide +kernel
theorem dX7_moved_8 : decode cX7_moved 8 = .ok (.idiv, 1) := by decide +kernel
theorem dX7_moved_9 : decode cX7_moved 9 = .ok (.iconst 2, 1) := by decide +kernel
theorem dX7_moved_10 : decode cX7_moved 10 = .ok (.irem, 1) := by decide +kernel
theorem dX7_moved_11 : decode cX7_moved 11 = .ok (.istore 5, 2) := by decide +kernel
theorem dX7_moved_13 : decode cX7_moved 13 = .ok (.iload_n 1, 1) := by decide +kernel
theorem dX7_moved_14 : decode cX7_moved 14 = .ok (.iconst 5, 1) := by decide +kernel
theorem dX7_moved_15 : decode cX7_moved 15 = .ok (.irem, 1) := by decide +kernel
theorem dX7_moved_16 : decode cX7_moved 16 = .ok (.istore 6, 2) := by decide +kernel
theorem dX7_moved_18 : decode cX7_moved 18 = .ok (.aload_n 0, 1) := by decide +kernel
theorem dX7_moved_19 : decode cX7_moved 19 = .ok (.iload 4, 2) := by decide +kernel
theorem dX7_moved_21 : decode cX7_moved 21 = .ok (.iload_n 2, 1) := by decide +kernel
theorem dX7_moved_22 : decode cX7_moved 22 = .ok (.invokevirtual 83, 3) := by decide +kernel
theorem dX7_moved_25 : decode cX7_moved 25 = .ok (.ifCond .eq 23, 3) := by decide +kernel
theorem dX7_moved_28 : decode cX7_moved 28 = .ok (.aload_n 0, 1) := by decide +kernel
theorem dX7_moved_29 : decode cX7_moved 29 = .ok (.getfield 7, 3) := by decide +kernel
theorem dX7_moved_32 : decode cX7_moved 32 = .ok (.iconst 0, 1) := by decide +kernel
theorem dX7_moved_33 : decode cX7_moved 33 = .ok (.iaload, 1) := by decide +kernel
theorem dX7_moved_34 : decode cX7_moved 34 = .ok (.iconst 1, 1) := by decide +kernel
theorem dX7_moved_35 : decode cX7_moved 35 = .ok (.if_icmp .ne 16, 3) := by decide +kernel
theorem dX7_moved_38 : decode cX7_moved 38 = .ok (.iload_n 2, 1) := by decide +kernel
theorem dX7_moved_39 : decode cX7_moved 39 = .ok (.ifCond .ne 12, 3) := by decide +kernel
theorem dX7_moved_42 : decode cX7_moved 42 = .ok (.iload 5, 2) := by decide +kernel
theorem dX7_moved_44 : decode cX7_moved 44 = .ok (.iconst 1, 1) := by decide +kernel
theorem dX7_moved_45 : decode cX7_moved 45 = .ok (.if_icmp .ne 6, 3) := by decide +kernel
theorem dX7_moved_48 : decode cX7_moved 48 = .ok (.bipush (-6), 2) := by decide +kernel
theorem dX7_moved_50 : decode cX7_moved 50 = .ok (.ireturn, 1) := by decide +kernel
theorem dX7_moved_51 : decode cX7_moved 51 = .ok (.aload_n 0, 1) := by decide +kernel
theorem dX7_moved_52 : decode cX7_moved 52 = .ok (.iload 4, 2) := by decide +kernel
theorem dX7_moved_54 : decode cX7_moved 54 = .ok (.iload_n 2, 1) := by decide +kernel
theorem dX7_moved_55 : decode cX7_moved 55 = .ok (.invokevirtual 63, 3) := by decide +kernel
theorem dX7_moved_58 : decode cX7_moved 58 = .ok (.istore 7, 2) := by decide +kernel
theorem dX7_moved_60 : decode cX7_moved 60 = .ok (.aload_n 0, 1) := by decide +kernel
theorem dX7_moved_61 : decode cX7_moved 61 = .ok (.iload 4, 2) := by decide +kernel
theorem dX7_moved_63 : decode cX7_moved 63 = .ok (.iload 7, 2) := by decide +kernel
theorem dX7_moved_65 : decode cX7_moved 65 = .ok (.iload_n 3, 1) := by decide +kernel
theorem dX7_moved_66 : decode cX7_moved 66 = .ok (.invokevirtual 87, 3) := by decide +kernel
theorem dX7_moved_69 : decode cX7_moved 69 = .ok (.istore 8, 2) := by decide +kernel
theorem dX7_moved_71 : decode cX7_moved 71 = .ok (.iload 8, 2) := by decide +kernel
theorem dX7_moved_73 : decode cX7_moved 73 = .ok (.ifCond .eq 17, 3) := by decide +kernel
theorem dX7_moved_76 : decode cX7_moved 76 = .ok (.iload 6, 2) := by decide +kernel
theorem dX7_moved_78 : decode cX7_moved 78 = .ok (.aload_n 0, 1) := by decide +kernel
theorem dX7_moved_79 : decode cX7_moved 79 = .ok (.getfield 7, 3) := by decide +kernel
theorem dX7_moved_82 : decode cX7_moved 82 = .ok (.iconst 1, 1) := by decide +kernel
theorem dX7_moved_83 : decode cX7_moved 83 = .ok (.iaload, 1) := by decide +kernel
theorem dX7_moved_84 : decode cX7_moved 84 = .ok (.if_icmp .lt 6, 3) := by decide +kernel
theorem dX7_moved_87 : decode cX7_moved 87 = .ok (.bipush (-6), 2) := by decide +kernel
theorem dX7_moved_89 : decode cX7_moved 89 = .ok (.ireturn, 1) := by decide +kernel
theorem dX7_moved_90 : decode cX7_moved 90 = .ok (.bipush 10, 2) := by decide +kernel
theorem dX7_moved_92 : decode cX7_moved 92 = .ok (.iload 7, 2) := by decide +kernel
theorem dX7_moved_94 : decode cX7_moved 94 = .ok (.imul, 1) := by decide +kernel
theorem dX7_moved_95 : decode cX7_moved 95 = .ok (.iconst 5, 1) := by decide +kernel
theorem dX7_moved_96 : decode cX7_moved 96 = .ok (.iload_n 2, 1) := by decide +kernel
theorem dX7_moved_97 : decode cX7_moved 97 = .ok (.ifCond .ne 8, 3) := by decide +kernel
theorem dX7_moved_100 : decode cX7_moved 100 = .ok (.iload 5, 2) := by decide +kernel
theorem dX7_moved_102 : decode cX7_moved 102 = .ok (.goto 4, 3) := by decide +kernel
theorem dX7_moved_105 : decode cX7_moved 105 = .ok (.iconst 1, 1) := by decide +kernel
theorem dX7_moved_106 : decode cX7_moved 106 = .ok (.imul, 1) := by decide +kernel
theorem dX7_moved_107 : decode cX7_moved 107 = .ok (.iadd, 1) := by decide +kernel
theorem dX7_moved_108 : decode cX7_moved 108 = .ok (.iload 6, 2) := by decide +kernel
theorem dX7_moved_110 : decode cX7_moved 110 = .ok (.iadd, 1) := by decide +kernel
theorem dX7_moved_111 : decode cX7_moved 111 = .ok (.iload 8, 2) := by decide +kernel
theorem dX7_moved_113 : decode cX7_moved 113 = .ok (.ifCond .eq 7, 3) := by decide +kernel
theorem dX7_moved_116 : decode cX7_moved 116 = .ok (.iconst 1, 1) := by decide +kernel
theorem dX7_moved_117 : decode cX7_moved 117 = .ok (.goto 4, 3) := by decide +kernel
theorem dX7_moved_120 : decode cX7_moved 120 = .ok (.iconst 0, 1) := by decide +kernel
theorem dX7_moved_121 : decode cX7_moved 121 = .ok (.iadd, 1) := by decide +kernel
theorem dX7_moved_122 : decode cX7_moved 122 = .ok (.ireturn, 1) := by decide +kernel
theorem dX7_layFar_0 : decode cX7_layFar 0 = .ok (.aload_n 0, 1) := by decide +kernel
theorem dX7_layFar_1 : decode cX7_layFar 1 = .ok (.getfield 35, 3) := by decide +kernel
theorem dX7_layFar_4 : decode cX7_layFar 4 = .ok (.iload_n 1, 1) := by decide +kernel
theorem dX7_layFar_5 : decode cX7_layFar 5 = .ok (.baload, 1) := by decide +kernel
theorem dX7_layFar_6 : decode cX7_layFar 6 = .ok (.ifCond .eq 4, 3) := by decide +kernel
theorem dX7_layFar_9 : decode cX7_layFar 9 = .ok (.return_, 1) := by decide +kernel
theorem dX7_layFar_10 : decode cX7_layFar 10 = .ok (.aload_n 0, 1) := by decide +kernel
theorem dX7_layFar_11 : decode cX7_layFar 11 = .ok (.getfield 35, 3) := by decide +kernel
theorem dX7_layFar_14 : decode cX7_layFar 14 = .ok (.iload_n 1, 1) := by decide +kernel
theorem dX7_layFar_15 : decode cX7_layFar 15 = .ok (.iconst 1, 1) := by decide +kernel
theorem dX7_layFar_16 : decode cX7_layFar 16 = .ok (.bastore, 1) := by decide +kernel
theorem dX7_layFar_17 : decode cX7_layFar 17 = .ok (.sipush 250, 3) := by decide +kernel
theorem dX7_layFar_20 : decode cX7_layFar 20 = .ok (.iload_n 1, 1) := by decide +kernel
theorem dX7_layFar_21 : decode cX7_layFar 21 = .ok (.imul, 1) := by decide +kernel
theorem dX7_layFar_22 : decode cX7_layFar 22 = .ok (.istore_n 2, 1) := by decide +kernel
theorem dX7_layFar_23 : decode cX7_layFar 23 = .ok (.bipush 10, 2) := by decide +kernel
theorem dX7_layFar_25 : decode cX7_layFar 25 = .ok (.aload_n 0, 1) := by decide +kernel
theorem dX7_layFar_26 : decode cX7_layFar 26 = .ok (.invokevirtual 55, 3) := by decide +kernel
theorem dX7_layFar_29 : decode cX7_layFar 29 = .ok (.imul, 1) := by decide +kernel
theorem dX7_layFar_30 : decode cX7_layFar 30 = .ok (.istore_n 3, 1) := by decide +kernel
theorem dX7_layFar_31 : decode cX7_layFar 31 = .ok (.iconst 0, 1) := by decide +kernel
theorem dX7_layFar_32 : decode cX7_layFar 32 = .ok (.istore 4, 2) := by decide +kernel
theorem dX7_layFar_34 : decode cX7_layFar 34 = .ok (.iload 4, 2) := by decide +kernel
theorem dX7_layFar_36 : decode cX7_layFar 36 = .ok (.iload_n 3, 1) := by decide +kernel
theorem dX7_layFar_37 : decode cX7_layFar 37 = .ok (.if_icmp .ge 56, 3) := by decide +kernel
theorem dX7_layFar_40 : decode cX7_layFar 40 = .ok (.aload_n 0, 1) := by decide +kernel
theorem dX7_layFar_41 : decode cX7_layFar 41 = .ok (.getfield 29, 3) := by decide +kernel
theorem dX7_layFar_44 : decode cX7_layFar 44 = .ok (.iload_n 2, 1) := by decide +kernel
theorem dX7_layFar_45 : decode cX7_layFar 45 = .ok (.iload 4, 2) := by decide +kernel
theorem dX7_layFar_47 : decode cX7_layFar 47 = .ok (.iadd, 1) := by decide +kernel
theorem dX7_layFar_48 : decode cX7_layFar 48 = .ok (.iload 4, 2) := by decide +kernel
theorem dX7_layFar_50 : decode cX7_layFar 50 = .ok (.bipush 10, 2) := by decide +kernel
theorem dX7_layFar_52 : decode cX7_layFar 52 = .ok (.idiv, 1) := by decide +kernel
theorem dX7_layFar_53 : decode cX7_layFar 53 = .ok (.iload_n 1, 1) := by decide +kernel
theorem dX7_layFar_54 : decode cX7_layFar 54 = .ok (.if_icmp .ne 7, 3) := by decide +kernel
theorem dX7_layFar_57 : decode cX7_layFar 57 = .ok (.iconst 0, 1) := by decide +kernel
theorem dX7_layFar_58 : decode cX7_layFar 58 = .ok (.goto 5, 3) := by decide +kernel
theorem dX7_layFar_61 : decode cX7_layFar 61 = .ok (.bipush (-6), 2) := by decide +kernel
theorem dX7_layFar_63 : decode cX7_layFar 63 = .ok (.iastore, 1) := by decide +kernel
theorem dX7_layFar_64 : decode cX7_layFar 64 = .ok (.aload_n 0, 1) := by decide +kernel
theorem dX7_layFar_65 : decode cX7_layFar 65 = .ok (.getfield 32, 3) := by decide +kernel
theorem dX7_layFar_68 : decode cX7_layFar 68 = .ok (.iload_n 2, 1) := by decide +kernel
theorem dX7_layFar_69 : decode cX7_layFar 69 = .ok (.iload 4, 2) := by decide +kernel
theorem dX7_layFar_71 : decode cX7_layFar 71 = .ok (.iadd, 1) := by decide +kernel
theorem dX7_layFar_72 : decode cX7_layFar 72 = .ok (.iload 4, 2) := by decide +kernel
theorem dX7_layFar_74 : decode cX7_layFar 74 = .ok (.bipush 10, 2) := by decide +kernel
theorem dX7_layFar_76 : decode cX7_layFar 76 = .ok (.idiv, 1) := by decide +kernel
theorem dX7_layFar_77 : decode cX7_layFar 77 = .ok (.iload_n 1, 1) := by decide +kernel
theorem dX7_layFar_78 : decode cX7_layFar 78 = .ok (.if_icmp .ne 7, 3) := by decide +kernel
theorem dX7_layFar_81 : decode cX7_layFar 81 = .ok (.iconst 1, 1) := by decide +kernel
theorem dX7_layFar_82 : decode cX7_layFar 82 = .ok (.goto 4, 3) := by decide +kernel
theorem dX7_layFar_85 : decode cX7_layFar 85 = .ok (.iconst 0, 1) := by decide +kernel
theorem dX7_layFar_86 : decode cX7_layFar 86 = .ok (.iastore, 1) := by decide +kernel
theorem dX7_layFar_87 : decode cX7_layFar 87 = .ok (.iinc 4 1, 3) := by decide +kernel
theorem dX7_layFar_90 : decode cX7_layFar 90 = .ok (.goto (-56), 3) := by decide +kernel
theorem dX7_layFar_93 : decode cX7_layFar 93 = .ok (.iconst 1, 1) := by decide +kernel
theorem dX7_layFar_94 : decode cX7_layFar 94 = .ok (.istore 4, 2) := by decide +kernel
theorem dX7_layFar_96 : decode cX7_layFar 96 = .ok (.iconst 1, 1) := by decide +kernel
theorem dX7_layFar_97 : decode cX7_layFar 97 = .ok (.istore 5, 2) := by decide +kernel
theorem dX7_layFar_99 : decode cX7_layFar 99 = .ok (.iload 4, 2) := by decide +kernel
theorem dX7_layFar_101 : decode cX7_layFar 101 = .ok (.ifCond .eq 139, 3) := by decide +kernel
theorem dX7_layFar_104 : decode cX7_layFar 104 = .ok (.iconst 0, 1) := by decide +kernel
theorem dX7_layFar_105 : decode cX7_layFar 105 = .ok (.istore 4, 2) := by decide +kernel
theorem dX7_layFar_107 : decode cX7_layFar 107 = .ok (.iconst 0, 1) := by decide +kernel
theorem dX7_layFar_108 : decode cX7_layFar 108 = .ok (.istore 6, 2) := by decide +kernel
theorem dX7_layFar_110 : decode cX7_layFar 110 = .ok (.iload 6, 2) := by decide +kernel
theorem dX7_layFar_112 : decode cX7_layFar 112 = .ok (.iload_n 3, 1) := by decide +kernel
theorem dX7_layFar_113 : decode cX7_layFar 113 = .ok (.if_icmp .ge 121, 3) := by decide +kernel
theorem dX7_layFar_116 : decode cX7_layFar 116 = .ok (.aload_n 0, 1) := by decide +kernel
theorem dX7_layFar_117 : decode cX7_layFar 117 = .ok (.getfield 29, 3) := by decide +kernel
theorem dX7_layFar_120 : decode cX7_layFar 120 = .ok (.iload_n 2, 1) := by decide +kernel
theorem dX7_layFar_121 : decode cX7_layFar 121 = .ok (.iload 6, 2) := by decide +kernel
theorem dX7_layFar_123 : decode cX7_layFar 123 = .ok (.iadd, 1) := by decide +kernel
theorem dX7_layFar_124 : decode cX7_layFar 124 = .ok (.iaload, 1) := by decide +kernel
theorem dX7_layFar_125 : decode cX7_layFar 125 = .ok (.bipush (-6), 2) := by decide +kernel
theorem dX7_layFar_127 : decode cX7_layFar 127 = .ok (.if_icmp .ne 101, 3) := by decide +kernel
theorem dX7_layFar_130 : decode cX7_layFar 130 = .ok (.iconst 0, 1) := by decide +kernel
theorem dX7_layFar_131 : decode cX7_layFar 131 = .ok (.istore 7, 2) := by decide +kernel
theorem dX7_layFar_133 : decode cX7_layFar 133 = .ok (.iconst 0, 1) := by decide +kernel
theorem dX7_layFar_134 : decode cX7_layFar 134 = .ok (.istore 8, 2) := by decide +kernel
theorem dX7_layFar_136 : decode cX7_layFar 136 = .ok (.iload 8, 2) := by decide +kernel
theorem dX7_layFar_138 : decode cX7_layFar 138 = .ok (.iconst 4, 1) := by decide +kernel
theorem dX7_layFar_139 : decode cX7_layFar 139 = .ok (.if_icmp .ge 59, 3) := by decide +kernel
theorem dX7_layFar_142 : decode cX7_layFar 142 = .ok (.aload_n 0, 1) := by decide +kernel
theorem dX7_layFar_143 : decode cX7_layFar 143 = .ok (.iload 6, 2) := by decide +kernel
theorem dX7_layFar_145 : decode cX7_layFar 145 = .ok (.iload 8, 2) := by decide +kernel
theorem dX7_layFar_147 : decode cX7_layFar 147 = .ok (.iload_n 1, 1) := by decide +kernel
theorem dX7_layFar_148 : decode cX7_layFar 148 = .ok (.invokevirtual 90, 3) := by decide +kernel
theorem dX7_layFar_151 : decode cX7_layFar 151 = .ok (.istore 9, 2) := by decide +kernel
theorem dX7_layFar_153 : decode cX7_layFar 153 = .ok (.iload 7, 2) := by decide +kernel
theorem dX7_layFar_155 : decode cX7_layFar 155 = .ok (.iload 9, 2) := by decide +kernel
theorem dX7_layFar_157 : decode cX7_layFar 157 = .ok (.ifCond .lt 31, 3) := by decide +kernel
theorem dX7_layFar_160 : decode cX7_layFar 160 = .ok (.aload_n 0, 1) := by decide +kernel
theorem dX7_layFar_161 : decode cX7_layFar 161 = .ok (.getfield 29, 3) := by decide +kernel
theorem dX7_layFar_164 : decode cX7_layFar 164 = .ok (.iload_n 2, 1) := by decide +kernel
theorem dX7_layFar_165 : decode cX7_layFar 165 = .ok (.iload 9, 2) := by decide +kernel
theorem dX7_layFar_167 : decode cX7_layFar 167 = .ok (.iadd, 1) := by decide +kernel
theorem dX7_layFar_168 : decode cX7_layFar 168 = .ok (.iaload, 1) := by decide +kernel
theorem dX7_layFar_169 : decode cX7_layFar 169 = .ok (.iload 5, 2) := by decide +kernel
theorem dX7_layFar_171 : decode cX7_layFar 171 = .ok (.iconst 1, 1) := by decide +kernel
theorem dX7_layFar_172 : decode cX7_layFar 172 = .ok (.isub, 1) := by decide +kernel
theorem dX7_layFar_173 : decode cX7_layFar 173 = .ok (.if_icmp .ne 15, 3) := by decide +kernel
theorem dX7_layFar_176 : decode cX7_layFar 176 = .ok (.aload_n 0, 1) := by decide +kernel
theorem dX7_layFar_177 : decode cX7_layFar 177 = .ok (.getfield 32, 3) := by decide +kernel
theorem dX7_layFar_180 : decode cX7_layFar 180 = .ok (.iload_n 2, 1) := by decide +kernel
theorem dX7_layFar_181 : decode cX7_layFar 181 = .ok (.iload 9, 2) := by decide +kernel
theorem dX7_layFar_183 : decode cX7_layFar 183 = .ok (.iadd, 1) := by decide +kernel
theorem dX7_layFar_184 : decode cX7_layFar 184 = .ok (.iaload, 1) := by decide +kernel
theorem dX7_layFar_185 : decode cX7_layFar 185 = .ok (.goto 4, 3) := by decide +kernel
theorem dX7_layFar_188 : decode cX7_layFar 188 = .ok (.iconst 0, 1) := by decide +kernel
theorem dX7_layFar_189 : decode cX7_layFar 189 = .ok (.iadd, 1) := by decide +kernel
theorem dX7_layFar_190 : decode cX7_layFar 190 = .ok (.istore 7, 2) := by decide +kernel
theorem dX7_layFar_192 : decode cX7_layFar 192 = .ok (.iinc 8 1, 3) := by decide +kernel
theorem dX7_layFar_195 : decode cX7_layFar 195 = .ok (.goto (-59), 3) := by decide +kernel
theorem dX7_layFar_198 : decode cX7_layFar 198 = .ok (.iload 7, 2) := by decide +kernel
theorem dX7_layFar_200 : decode cX7_layFar 200 = .ok (.ifCond .le 28, 3) := by decide +kernel
theorem dX7_layFar_203 : decode cX7_layFar 203 = .ok (.aload_n 0, 1) := by decide +kernel
theorem dX7_layFar_204 : decode cX7_layFar 204 = .ok (.getfield 29, 3) := by decide +kernel
theorem dX7_layFar_207 : decode cX7_layFar 207 = .ok (.iload_n 2, 1) := by decide +kernel
theorem dX7_layFar_208 : decode cX7_layFar 208 = .ok (.iload 6, 2) := by decide +kernel
theorem dX7_layFar_210 : decode cX7_layFar 210 = .ok (.iadd, 1) := by decide +kernel
theorem dX7_layFar_211 : decode cX7_layFar 211 = .ok (.iload 5, 2) := by decide +kernel
theorem dX7_layFar_213 : decode cX7_layFar 213 = .ok (.iastore, 1) := by decide +kernel
theorem dX7_layFar_214 : decode cX7_layFar 214 = .ok (.aload_n 0, 1) := by decide +kernel
theorem dX7_layFar_215 : decode cX7_layFar 215 = .ok (.getfield 32, 3) := by decide +kernel
theorem dX7_layFar_218 : decode cX7_layFar 218 = .ok (.iload_n 2, 1) := by decide +kernel
theorem dX7_layFar_219 : decode cX7_layFar 219 = .ok (.iload 6, 2) := by decide +kernel
theorem dX7_layFar_221 : decode cX7_layFar 221 = .ok (.iadd, 1) := by decide +kernel
theorem dX7_layFar_222 : decode cX7_layFar 222 = .ok (.iload 7, 2) := by decide +kernel
theorem dX7_layFar_224 : decode cX7_layFar 224 = .ok (.iastore, 1) := by decide +kernel
theorem dX7_layFar_225 : decode cX7_layFar 225 = .ok (.iconst 1, 1) := by decide +kernel
theorem dX7_layFar_226 : decode cX7_layFar 226 = .ok (.istore 4, 2) := by decide +kernel
theorem dX7_layFar_228 : decode cX7_layFar 228 = .ok (.iinc 6 1, 3) := by decide +kernel
theorem dX7_layFar_231 : decode cX7_layFar 231 = .ok (.goto (-121), 3) := by decide +kernel
theorem dX7_layFar_234 : decode cX7_layFar 234 = .ok (.iinc 5 1, 3) := by decide +kernel
theorem dX7_layFar_237 : decode cX7_layFar 237 = .ok (.goto (-138), 3) := by decide +kernel
theorem dX7_layFar_240 : decode cX7_layFar 240 = .ok (.return_, 1) := by decide +kernel
theorem dX7_farOf_0 : decode cX7_farOf 0 = .ok (.aload_n 0, 1) := by decide +kernel
theorem dX7_farOf_1 : decode cX7_farOf 1 = .ok (.iload_n 2, 1) := by decide +kernel
theorem dX7_farOf_2 : decode cX7_farOf 2 = .ok (.invokevirtual 94, 3) := by decide +kernel
theorem dX7_farOf_5 : decode cX7_farOf 5 = .ok (.aload_n 0, 1) := by decide +kernel
theorem dX7_farOf_6 : decode cX7_farOf 6 = .ok (.getfield 29, 3) := by decide +kernel
theorem dX7_farOf_9 : decode cX7_farOf 9 = .ok (.sipush 250, 3) := by decide +kernel
theorem dX7_farOf_12 : decode cX7_farOf 12 = .ok (.iload_n 2, 1) := by decide +kernel
theorem dX7_farOf_13 : decode cX7_farOf 13 = .ok (.imul, 1) := by decide +kernel
theorem dX7_farOf_14 : decode cX7_farOf 14 = .ok (.iload_n 1, 1) := by decide +kernel
theorem dX7_farOf_15 : decode cX7_farOf 15 = .ok (.iadd, 1) := by decide +kernel
theorem dX7_farOf_16 : decode cX7_farOf 16 = .ok (.iaload, 1) := by decide +kernel
theorem dX7_farOf_17 : decode cX7_farOf 17 = .ok (.ireturn, 1) := by decide +kernel
theorem dX7_isPacket_0 : decode cX7_isPacket 0 = .ok (.iload_n 1, 1) := by decide +kernel
theorem dX7_isPacket_1 : decode cX7_isPacket 1 = .ok (.iconst 0, 1) := by decide +kernel
theorem dX7_isPacket_2 : decode cX7_isPacket 2 = .ok (.aload_n 0, 1) := by decide +kernel
theorem dX7_isPacket_3 : decode cX7_isPacket 3 = .ok (.getfield 7, 3) := by decide +kernel
theorem dX7_isPacket_6 : decode cX7_isPacket 6 = .ok (.bipush 6, 2) := by decide +kernel
theorem dX7_isPacket_8 : decode cX7_isPacket 8 = .ok (.iaload, 1) := by decide +kernel
theorem dX7_isPacket_9 : decode cX7_isPacket 9 = .ok (.iconst 1, 1) := by decide +kernel
theorem dX7_isPacket_10 : decode cX7_isPacket 10 = .ok (.isub, 1) := by decide +kernel
theorem dX7_isPacket_11 : decode cX7_isPacket 11 = .ok (.invokestatic 59, 3) := by decide +kernel
theorem dX7_isPacket_14 : decode cX7_isPacket 14 = .ok (.ireturn, 1) := by decide +kernel
theorem dX7_of_0 : decode cX7_of 0 = .ok (.aload_n 0, 1) := by decide +kernel
theorem dX7_of_1 : decode cX7_of 1 = .ok (.getfield 7, 3) := by decide +kernel
theorem dX7_of_4 : decode cX7_of 4 = .ok (.sipush 160, 3) := by decide +kernel
theorem dX7_of_7 : decode cX7_of 7 = .ok (.bipush 10, 2) := by decide +kernel
theorem dX7_of_9 : decode cX7_of 9 = .ok (.iload_n 1, 1) := by decide +kernel
theorem dX7_of_10 : decode cX7_of 10 = .ok (.imul, 1) := by decide +kernel
theorem dX7_of_11 : decode cX7_of 11 = .ok (.iadd, 1) := by decide +kernel
theorem dX7_of_12 : decode cX7_of 12 = .ok (.iload_n 2, 1) := by decide +kernel
theorem dX7_of_13 : decode cX7_of 13 = .ok (.iadd, 1) := by decide +kernel
theorem dX7_of_14 : decode cX7_of 14 = .ok (.iaload, 1) := by decide +kernel
theorem dX7_of_15 : decode cX7_of 15 = .ok (.ireturn, 1) := by decide +kernel
theorem dX7_book_0 : decode cX7_book 0 = .ok (.aload_n 0, 1) := by decide +kernel
theorem dX7_book_1 : decode cX7_book 1 = .ok (.getfield 7, 3) := by decide +kernel
theorem dX7_book_4 : decode cX7_book 4 = .ok (.sipush 160, 3) := by decide +kernel
theorem dX7_book_7 : decode cX7_book 7 = .ok (.bipush 10, 2) := by decide +kernel
theorem dX7_book_9 : decode cX7_book 9 = .ok (.iload_n 1, 1) := by decide +kernel
theorem dX7_book_10 : decode cX7_book 10 = .ok (.imul, 1) := by decide +kernel
theorem dX7_book_11 : decode cX7_book 11 = .ok (.iadd, 1) := by decide +kernel
theorem dX7_book_12 : decode cX7_book 12 = .ok (.iload_n 2, 1) := by decide +kernel
theorem dX7_book_13 : decode cX7_book 13 = .ok (.iadd, 1) := by decide +kernel
theorem dX7_book_14 : decode cX7_book 14 = .ok (.iload_n 3, 1) := by decide +kernel
theorem dX7_book_15 : decode cX7_book 15 = .ok (.iastore, 1) := by decide +kernel
theorem dX7_book_16 : decode cX7_book 16 = .ok (.return_, 1) := by decide +kernel
theorem dX7_standing_0 : decode cX7_standing 0 = .ok (.bipush 10, 2) := by decide +kernel
theorem dX7_standing_2 : decode cX7_standing 2 = .ok (.aload_n 0, 1) := by decide +kernel
theorem dX7_standing_3 : decode cX7_standing 3 = .ok (.iload_n 1, 1) := by decide +kernel
theorem dX7_standing_4 : decode cX7_standing 4 = .ok (.iconst 3, 1) := by decide +kernel
theorem dX7_standing_5 : decode cX7_standing 5 = .ok (.invokevirtual 98, 3) := by decide +kernel
theorem dX7_standing_8 : decode cX7_standing 8 = .ok (.imul, 1) := by decide +kernel
theorem dX7_standing_9 : decode cX7_standing 9 = .ok (.iconst 5, 1) := by decide +kernel
theorem dX7_standing_10 : decode cX7_standing 10 = .ok (.aload_n 0, 1) := by decide +kernel
theorem dX7_standing_11 : decode cX7_standing 11 = .ok (.iload_n 1, 1) := by decide +kernel
theorem dX7_standing_12 : decode cX7_standing 12 = .ok (.bipush 9, 2) := by decide +kernel
theorem dX7_standing_14 : decode cX7_standing 14 = .ok (.invokevirtual 98, 3) := by decide +kernel
theorem dX7_standing_17 : decode cX7_standing 17 = .ok (.imul, 1) := by decide +kernel
theorem dX7_standing_18 : decode cX7_standing 18 = .ok (.iadd, 1) := by decide +kernel
theorem dX7_standing_19 : decode cX7_standing 19 = .ok (.aload_n 0, 1) := by decide +kernel
theorem dX7_standing_20 : decode cX7_standing 20 = .ok (.iload_n 1, 1) := by decide +kernel
theorem dX7_standing_21 : decode cX7_standing 21 = .ok (.iconst 5, 1) := by decide +kernel
theorem dX7_standing_22 : decode cX7_standing 22 = .ok (.invokevirtual 98, 3) := by decide +kernel
theorem dX7_standing_25 : decode cX7_standing 25 = .ok (.iadd, 1) := by decide +kernel
theorem dX7_standing_26 : decode cX7_standing 26 = .ok (.ireturn, 1) := by decide +kernel
theorem dX7_lengthOf_0 : decode cX7_lengthOf 0 = .ok (.aload_n 0, 1) := by decide +kernel
theorem dX7_lengthOf_1 : decode cX7_lengthOf 1 = .ok (.aload_n 0, 1) := by decide +kernel
theorem dX7_lengthOf_2 : decode cX7_lengthOf 2 = .ok (.iload_n 1, 1) := by decide +kernel
theorem dX7_lengthOf_3 : decode cX7_lengthOf 3 = .ok (.invokevirtual 101, 3) := by decide +kernel
theorem dX7_lengthOf_6 : decode cX7_lengthOf 6 = .ok (.aload_n 0, 1) := by decide +kernel
theorem dX7_lengthOf_7 : decode cX7_lengthOf 7 = .ok (.iload_n 1, 1) := by decide +kernel
theorem dX7_lengthOf_8 : decode cX7_lengthOf 8 = .ok (.iconst 1, 1) := by decide +kernel
theorem dX7_lengthOf_9 : decode cX7_lengthOf 9 = .ok (.invokevirtual 98, 3) := by decide +kernel
theorem dX7_lengthOf_12 : decode cX7_lengthOf 12 = .ok (.invokevirtual 105, 3) := by decide +kernel
theorem dX7_lengthOf_15 : decode cX7_lengthOf 15 = .ok (.ireturn, 1) := by decide +kernel
theorem dX7_laySides_0 : decode cX7_laySides 0 = .ok (.iconst 0, 1) := by decide +kernel
theorem dX7_laySides_1 : decode cX7_laySides 1 = .ok (.istore_n 2, 1) := by decide +kernel
theorem dX7_laySides_2 : decode cX7_laySides 2 = .ok (.aload_n 0, 1) := by decide +kernel
theorem dX7_laySides_3 : decode cX7_laySides 3 = .ok (.iload_n 1, 1) := by decide +kernel
theorem dX7_laySides_4 : decode cX7_laySides 4 = .ok (.iconst 1, 1) := by decide +kernel
theorem dX7_laySides_5 : decode cX7_laySides 5 = .ok (.invokevirtual 98, 3) := by decide +kernel
theorem dX7_laySides_8 : decode cX7_laySides 8 = .ok (.istore_n 3, 1) := by decide +kernel
theorem dX7_laySides_9 : decode cX7_laySides 9 = .ok (.aload_n 0, 1) := by decide +kernel
theorem dX7_laySides_10 : decode cX7_laySides 10 = .ok (.iload_n 1, 1) := by decide +kernel
theorem dX7_laySides_11 : decode cX7_laySides 11 = .ok (.invokevirtual 101, 3) := by decide +kernel
theorem dX7_laySides_14 : decode cX7_laySides 14 = .ok (.istore 4, 2) := by decide +kernel
theorem dX7_laySides_16 : decode cX7_laySides 16 = .ok (.iconst 0, 1) := by decide +kernel
theorem dX7_laySides_17 : decode cX7_laySides 17 = .ok (.istore 5, 2) := by decide +kernel
theorem dX7_laySides_19 : decode cX7_laySides 19 = .ok (.iload 5, 2) := by decide +kernel
theorem dX7_laySides_21 : decode cX7_laySides 21 = .ok (.iconst 4, 1) := by decide +kernel
theorem dX7_laySides_22 : decode cX7_laySides 22 = .ok (.if_icmp .ge 108, 3) := by decide +kernel
theorem dX7_laySides_25 : decode cX7_laySides 25 = .ok (.aload_n 0, 1) := by decide +kernel
theorem dX7_laySides_26 : decode cX7_laySides 26 = .ok (.iload 4, 2) := by decide +kernel
theorem dX7_laySides_28 : decode cX7_laySides 28 = .ok (.iload 5, 2) := by decide +kernel
theorem dX7_laySides_30 : decode cX7_laySides 30 = .ok (.iload_n 3, 1) := by decide +kernel
theorem dX7_laySides_31 : decode cX7_laySides 31 = .ok (.invokevirtual 90, 3) := by decide +kernel
theorem dX7_laySides_34 : decode cX7_laySides 34 = .ok (.istore 6, 2) := by decide +kernel
theorem dX7_laySides_36 : decode cX7_laySides 36 = .ok (.iload 6, 2) := by decide +kernel
theorem dX7_laySides_38 : decode cX7_laySides 38 = .ok (.ifCond .lt 86, 3) := by decide +kernel
theorem dX7_laySides_41 : decode cX7_laySides 41 = .ok (.aload_n 0, 1) := by decide +kernel
theorem dX7_laySides_42 : decode cX7_laySides 42 = .ok (.iload 6, 2) := by decide +kernel
theorem dX7_laySides_44 : decode cX7_laySides 44 = .ok (.iload_n 3, 1) := by decide +kernel
theorem dX7_laySides_45 : decode cX7_laySides 45 = .ok (.invokevirtual 105, 3) := by decide +kernel
theorem dX7_laySides_48 : decode cX7_laySides 48 = .ok (.ifCond .lt 76, 3) := by decide +kernel
theorem dX7_laySides_51 : decode cX7_laySides 51 = .ok (.iload_n 2, 1) := by decide +kernel
theorem dX7_laySides_52 : decode cX7_laySides 52 = .ok (.istore 7, 2) := by decide +kernel
theorem dX7_laySides_54 : decode cX7_laySides 54 = .ok (.iload 7, 2) := by decide +kernel
theorem dX7_laySides_56 : decode cX7_laySides 56 = .ok (.ifCond .le 56, 3) := by decide +kernel
theorem dX7_laySides_59 : decode cX7_laySides 59 = .ok (.aload_n 0, 1) := by decide +kernel
theorem dX7_laySides_60 : decode cX7_laySides 60 = .ok (.aload_n 0, 1) := by decide +kernel
theorem dX7_laySides_61 : decode cX7_laySides 61 = .ok (.iload 4, 2) := by decide +kernel
theorem dX7_laySides_63 : decode cX7_laySides 63 = .ok (.aload_n 0, 1) := by decide +kernel
theorem dX7_laySides_64 : decode cX7_laySides 64 = .ok (.getfield 38, 3) := by decide +kernel
theorem dX7_laySides_67 : decode cX7_laySides 67 = .ok (.iload 7, 2) := by decide +kernel
theorem dX7_laySides_69 : decode cX7_laySides 69 = .ok (.iconst 1, 1) := by decide +kernel
theorem dX7_laySides_70 : decode cX7_laySides 70 = .ok (.isub, 1) := by decide +kernel
theorem dX7_laySides_71 : decode cX7_laySides 71 = .ok (.iaload, 1) := by decide +kernel
theorem dX7_laySides_72 : decode cX7_laySides 72 = .ok (.iload_n 3, 1) := by decide +kernel
theorem dX7_laySides_73 : decode cX7_laySides 73 = .ok (.invokevirtual 90, 3) := by decide +kernel
theorem dX7_laySides_76 : decode cX7_laySides 76 = .ok (.iload_n 3, 1) := by decide +kernel
theorem dX7_laySides_77 : decode cX7_laySides 77 = .ok (.invokevirtual 105, 3) := by decide +kernel
theorem dX7_laySides_80 : decode cX7_laySides 80 = .ok (.aload_n 0, 1) := by decide +kernel
theorem dX7_laySides_81 : decode cX7_laySides 81 = .ok (.iload 6, 2) := by decide +kernel
theorem dX7_laySides_83 : decode cX7_laySides 83 = .ok (.iload_n 3, 1) := by decide +kernel
theorem dX7_laySides_84 : decode cX7_laySides 84 = .ok (.invokevirtual 105, 3) := by decide +kernel
theorem dX7_laySides_87 : decode cX7_laySides 87 = .ok (.if_icmp .le 25, 3) := by decide +kernel
theorem dX7_laySides_90 : decode cX7_laySides 90 = .ok (.aload_n 0, 1) := by decide +kernel
theorem dX7_laySides_91 : decode cX7_laySides 91 = .ok (.getfield 38, 3) := by decide +kernel
theorem dX7_laySides_94 : decode cX7_laySides 94 = .ok (.iload 7, 2) := by decide +kernel
theorem dX7_laySides_96 : decode cX7_laySides 96 = .ok (.aload_n 0, 1) := by decide +kernel
theorem dX7_laySides_97 : decode cX7_laySides 97 = .ok (.getfield 38, 3) := by decide +kernel
theorem dX7_laySides_100 : decode cX7_laySides 100 = .ok (.iload 7, 2) := by decide +kernel
theorem dX7_laySides_102 : decode cX7_laySides 102 = .ok (.iconst 1, 1) := by decide +kernel
theorem dX7_laySides_103 : decode cX7_laySides 103 = .ok (.isub, 1) := by decide +kernel
theorem dX7_laySides_104 : decode cX7_laySides 104 = .ok (.iaload, 1) := by decide +kernel
theorem dX7_laySides_105 : decode cX7_laySides 105 = .ok (.iastore, 1) := by decide +kernel
theorem dX7_laySides_106 : decode cX7_laySides 106 = .ok (.iinc 7 (-1), 3) := by decide +kernel
theorem dX7_laySides_109 : decode cX7_laySides 109 = .ok (.goto (-55), 3) := by decide +kernel
theorem dX7_laySides_112 : decode cX7_laySides 112 = .ok (.aload_n 0, 1) := by decide +kernel
theorem dX7_laySides_113 : decode cX7_laySides 113 = .ok (.getfield 38, 3) := by decide +kernel
theorem dX7_laySides_116 : decode cX7_laySides 116 = .ok (.iload 7, 2) := by decide +kernel
theorem dX7_laySides_118 : decode cX7_laySides 118 = .ok (.iload 5, 2) := by decide +kernel
theorem dX7_laySides_120 : decode cX7_laySides 120 = .ok (.iastore, 1) := by decide +kernel
theorem dX7_laySides_121 : decode cX7_laySides 121 = .ok (.iinc 2 1, 3) := by decide +kernel
theorem dX7_laySides_124 : decode cX7_laySides 124 = .ok (.iinc 5 1, 3) := by decide +kernel
theorem dX7_laySides_127 : decode cX7_laySides 127 = .ok (.goto (-108), 3) := by decide +kernel
theorem dX7_laySides_130 : decode cX7_laySides 130 = .ok (.iload_n 2, 1) := by decide +kernel
theorem dX7_laySides_131 : decode cX7_laySides 131 = .ok (.ireturn, 1) := by decide +kernel
theorem dX7_insideOf_0 : decode cX7_insideOf 0 = .ok (.iconst 0, 1) := by decide +kernel
theorem dX7_insideOf_1 : decode cX7_insideOf 1 = .ok (.istore_n 2, 1) := by decide +kernel
theorem dX7_insideOf_2 : decode cX7_insideOf 2 = .ok (.iconst 0, 1) := by decide +kernel
theorem dX7_insideOf_3 : decode cX7_insideOf 3 = .ok (.istore_n 3, 1) := by decide +kernel
theorem dX7_insideOf_4 : decode cX7_insideOf 4 = .ok (.iload_n 3, 1) := by decide +kernel
theorem dX7_insideOf_5 : decode cX7_insideOf 5 = .ok (.aload_n 0, 1) := by decide +kernel
theorem dX7_insideOf_6 : decode cX7_insideOf 6 = .ok (.getfield 7, 3) := by decide +kernel
theorem dX7_insideOf_9 : decode cX7_insideOf 9 = .ok (.bipush 6, 2) := by decide +kernel
theorem dX7_insideOf_11 : decode cX7_insideOf 11 = .ok (.iaload, 1) := by decide +kernel
theorem dX7_insideOf_12 : decode cX7_insideOf 12 = .ok (.if_icmp .ge 37, 3) := by decide +kernel
theorem dX7_insideOf_15 : decode cX7_insideOf 15 = .ok (.iload_n 2, 1) := by decide +kernel
theorem dX7_insideOf_16 : decode cX7_insideOf 16 = .ok (.aload_n 0, 1) := by decide +kernel
theorem dX7_insideOf_17 : decode cX7_insideOf 17 = .ok (.iload_n 3, 1) := by decide +kernel
theorem dX7_insideOf_18 : decode cX7_insideOf 18 = .ok (.iconst 2, 1) := by decide +kernel
theorem dX7_insideOf_19 : decode cX7_insideOf 19 = .ok (.invokevirtual 98, 3) := by decide +kernel
theorem dX7_insideOf_22 : decode cX7_insideOf 22 = .ok (.iconst 1, 1) := by decide +kernel
theorem dX7_insideOf_23 : decode cX7_insideOf 23 = .ok (.if_icmp .ne 17, 3) := by decide +kernel
theorem dX7_insideOf_26 : decode cX7_insideOf 26 = .ok (.aload_n 0, 1) := by decide +kernel
theorem dX7_insideOf_27 : decode cX7_insideOf 27 = .ok (.iload_n 3, 1) := by decide +kernel
theorem dX7_insideOf_28 : decode cX7_insideOf 28 = .ok (.iconst 3, 1) := by decide +kernel
theorem dX7_insideOf_29 : decode cX7_insideOf 29 = .ok (.invokevirtual 98, 3) := by decide +kernel
theorem dX7_insideOf_32 : decode cX7_insideOf 32 = .ok (.iload_n 1, 1) := by decide +kernel
theorem dX7_insideOf_33 : decode cX7_insideOf 33 = .ok (.if_icmp .ne 7, 3) := by decide +kernel
theorem dX7_insideOf_36 : decode cX7_insideOf 36 = .ok (.iconst 1, 1) := by decide +kernel
theorem dX7_insideOf_37 : decode cX7_insideOf 37 = .ok (.goto 4, 3) := by decide +kernel
theorem dX7_insideOf_40 : decode cX7_insideOf 40 = .ok (.iconst 0, 1) := by decide +kernel
theorem dX7_insideOf_41 : decode cX7_insideOf 41 = .ok (.iadd, 1) := by decide +kernel
theorem dX7_insideOf_42 : decode cX7_insideOf 42 = .ok (.istore_n 2, 1) := by decide +kernel
theorem dX7_insideOf_43 : decode cX7_insideOf 43 = .ok (.iinc 3 1, 3) := by decide +kernel
theorem dX7_insideOf_46 : decode cX7_insideOf 46 = .ok (.goto (-42), 3) := by decide +kernel
theorem dX7_insideOf_49 : decode cX7_insideOf 49 = .ok (.iload_n 2, 1) := by decide +kernel
theorem dX7_insideOf_50 : decode cX7_insideOf 50 = .ok (.ireturn, 1) := by decide +kernel
theorem dX7_hasRoom_0 : decode cX7_hasRoom 0 = .ok (.aload_n 0, 1) := by decide +kernel
theorem dX7_hasRoom_1 : decode cX7_hasRoom 1 = .ok (.iload_n 1, 1) := by decide +kernel
theorem dX7_hasRoom_2 : decode cX7_hasRoom 2 = .ok (.invokevirtual 108, 3) := by decide +kernel
theorem dX7_hasRoom_5 : decode cX7_hasRoom 5 = .ok (.aload_n 0, 1) := by decide +kernel
theorem dX7_hasRoom_6 : decode cX7_hasRoom 6 = .ok (.getfield 7, 3) := by decide +kernel
theorem dX7_hasRoom_9 : decode cX7_hasRoom 9 = .ok (.iconst 2, 1) := by decide +kernel
theorem dX7_hasRoom_10 : decode cX7_hasRoom 10 = .ok (.iaload, 1) := by decide +kernel
theorem dX7_hasRoom_11 : decode cX7_hasRoom 11 = .ok (.if_icmp .ge 7, 3) := by decide +kernel
theorem dX7_hasRoom_14 : decode cX7_hasRoom 14 = .ok (.iconst 1, 1) := by decide +kernel
theorem dX7_hasRoom_15 : decode cX7_hasRoom 15 = .ok (.goto 4, 3) := by decide +kernel
theorem dX7_hasRoom_18 : decode cX7_hasRoom 18 = .ok (.iconst 0, 1) := by decide +kernel
theorem dX7_hasRoom_19 : decode cX7_hasRoom 19 = .ok (.ireturn, 1) := by decide +kernel
theorem dX7_send_0 : decode cX7_send 0 = .ok (.aload_n 0, 1) := by decide +kernel
theorem dX7_send_1 : decode cX7_send 1 = .ok (.iload_n 1, 1) := by decide +kernel
theorem dX7_send_2 : decode cX7_send 2 = .ok (.invokevirtual 76, 3) := by decide +kernel
theorem dX7_send_5 : decode cX7_send 5 = .ok (.ifCond .eq 16, 3) := by decide +kernel
theorem dX7_send_8 : decode cX7_send 8 = .ok (.aload_n 0, 1) := by decide +kernel
theorem dX7_send_9 : decode cX7_send 9 = .ok (.iload_n 2, 1) := by decide +kernel
theorem dX7_send_10 : decode cX7_send 10 = .ok (.invokevirtual 76, 3) := by decide +kernel
theorem dX7_send_13 : decode cX7_send 13 = .ok (.ifCond .eq 8, 3) := by decide +kernel
theorem dX7_send_16 : decode cX7_send 16 = .ok (.iload_n 1, 1) := by decide +kernel
theorem dX7_send_17 : decode cX7_send 17 = .ok (.iload_n 2, 1) := by decide +kernel
theorem dX7_send_18 : decode cX7_send 18 = .ok (.if_icmp .ne 5, 3) := by decide +kernel
theorem dX7_send_21 : decode cX7_send 21 = .ok (.iconst (-1), 1) := by decide +kernel
theorem dX7_send_22 : decode cX7_send 22 = .ok (.ireturn, 1) := by decide +kernel
theorem dX7_send_23 : decode cX7_send 23 = .ok (.aload_n 0, 1) := by decide +kernel
theorem dX7_send_24 : decode cX7_send 24 = .ok (.getfield 7, 3) := by decide +kernel
theorem dX7_send_27 : decode cX7_send 27 = .ok (.bipush 6, 2) := by decide +kernel
theorem dX7_send_29 : decode cX7_send 29 = .ok (.iaload, 1) := by decide +kernel
theorem dX7_send_30 : decode cX7_send 30 = .ok (.bipush 40, 2) := by decide +kernel
theorem dX7_send_32 : decode cX7_send 32 = .ok (.if_icmp .ne 6, 3) := by decide +kernel
theorem dX7_send_35 : decode cX7_send 35 = .ok (.bipush (-4), 2) := by decide +kernel
theorem dX7_send_37 : decode cX7_send 37 = .ok (.ireturn, 1) := by decide +kernel
theorem dX7_send_38 : decode cX7_send 38 = .ok (.aload_n 0, 1) := by decide +kernel
theorem dX7_send_39 : decode cX7_send 39 = .ok (.bipush 10, 2) := by decide +kernel
theorem dX7_send_41 : decode cX7_send 41 = .ok (.iload_n 1, 1) := by decide +kernel
theorem dX7_send_42 : decode cX7_send 42 = .ok (.imul, 1) := by decide +kernel
theorem dX7_send_43 : decode cX7_send 43 = .ok (.iload_n 2, 1) := by decide +kernel
theorem dX7_send_44 : decode cX7_send 44 = .ok (.invokevirtual 105, 3) := by decide +kernel
theorem dX7_send_47 : decode cX7_send 47 = .ok (.ifCond .ge 6, 3) := by decide +kernel
theorem dX7_send_50 : decode cX7_send 50 = .ok (.bipush (-5), 2) := by decide +kernel
theorem dX7_send_52 : decode cX7_send 52 = .ok (.ireturn, 1) := by decide +kernel
theorem dX7_send_53 : decode cX7_send 53 = .ok (.aload_n 0, 1) := by decide +kernel
theorem dX7_send_54 : decode cX7_send 54 = .ok (.invokevirtual 70, 3) := by decide +kernel
theorem dX7_send_57 : decode cX7_send 57 = .ok (.aload_n 0, 1) := by decide +kernel
theorem dX7_send_58 : decode cX7_send 58 = .ok (.getfield 7, 3) := by decide +kernel
theorem dX7_send_61 : decode cX7_send 61 = .ok (.bipush 6, 2) := by decide +kernel
theorem dX7_send_63 : decode cX7_send 63 = .ok (.iaload, 1) := by decide +kernel
theorem dX7_send_64 : decode cX7_send 64 = .ok (.istore_n 3, 1) := by decide +kernel
theorem dX7_send_65 : decode cX7_send 65 = .ok (.aload_n 0, 1) := by decide +kernel
theorem dX7_send_66 : decode cX7_send 66 = .ok (.getfield 7, 3) := by decide +kernel
theorem dX7_send_69 : decode cX7_send 69 = .ok (.bipush 6, 2) := by decide +kernel
theorem dX7_send_71 : decode cX7_send 71 = .ok (.dup2, 1) := by decide +kernel
theorem dX7_send_72 : decode cX7_send 72 = .ok (.iaload, 1) := by decide +kernel
theorem dX7_send_73 : decode cX7_send 73 = .ok (.iconst 1, 1) := by decide +kernel
theorem dX7_send_74 : decode cX7_send 74 = .ok (.iadd, 1) := by decide +kernel
theorem dX7_send_75 : decode cX7_send 75 = .ok (.iastore, 1) := by decide +kernel
theorem dX7_send_76 : decode cX7_send 76 = .ok (.iconst 0, 1) := by decide +kernel
theorem dX7_send_77 : decode cX7_send 77 = .ok (.istore 4, 2) := by decide +kernel
theorem dX7_send_79 : decode cX7_send 79 = .ok (.iload 4, 2) := by decide +kernel
theorem dX7_send_81 : decode cX7_send 81 = .ok (.bipush 10, 2) := by decide +kernel
theorem dX7_send_83 : decode cX7_send 83 = .ok (.if_icmp .ge 17, 3) := by decide +kernel
theorem dX7_send_86 : decode cX7_send 86 = .ok (.aload_n 0, 1) := by decide +kernel
theorem dX7_send_87 : decode cX7_send 87 = .ok (.iload_n 3, 1) := by decide +kernel
theorem dX7_send_88 : decode cX7_send 88 = .ok (.iload 4, 2) := by decide +kernel
theorem dX7_send_90 : decode cX7_send 90 = .ok (.iconst 0, 1) := by decide +kernel
theorem dX7_send_91 : decode cX7_send 91 = .ok (.invokevirtual 111, 3) := by decide +kernel
theorem dX7_send_94 : decode cX7_send 94 = .ok (.iinc 4 1, 3) := by decide +kernel
theorem dX7_send_97 : decode cX7_send 97 = .ok (.goto (-18), 3) := by decide +kernel
theorem dX7_send_100 : decode cX7_send 100 = .ok (.aload_n 0, 1) := by decide +kernel
theorem dX7_send_101 : decode cX7_send 101 = .ok (.iload_n 3, 1) := by decide +kernel
theorem dX7_send_102 : decode cX7_send 102 = .ok (.iconst 0, 1) := by decide +kernel
theorem dX7_send_103 : decode cX7_send 103 = .ok (.iload_n 1, 1) := by decide +kernel
theorem dX7_send_104 : decode cX7_send 104 = .ok (.invokevirtual 111, 3) := by decide +kernel
theorem dX7_send_107 : decode cX7_send 107 = .ok (.aload_n 0, 1) := by decide +kernel
theorem dX7_send_108 : decode cX7_send 108 = .ok (.iload_n 3, 1) := by decide +kernel
theorem dX7_send_109 : decode cX7_send 109 = .ok (.iconst 1, 1) := by decide +kernel
theorem dX7_send_110 : decode cX7_send 110 = .ok (.iload_n 2, 1) := by decide +kernel
theorem dX7_send_111 : decode cX7_send 111 = .ok (.invokevirtual 111, 3) := by decide +kernel
theorem dX7_send_114 : decode cX7_send 114 = .ok (.aload_n 0, 1) := by decide +kernel
theorem dX7_send_115 : decode cX7_send 115 = .ok (.iload_n 3, 1) := by decide +kernel
theorem dX7_send_116 : decode cX7_send 116 = .ok (.iconst 3, 1) := by decide +kernel
theorem dX7_send_117 : decode cX7_send 117 = .ok (.iload_n 1, 1) := by decide +kernel
theorem dX7_send_118 : decode cX7_send 118 = .ok (.invokevirtual 111, 3) := by decide +kernel
theorem dX7_send_121 : decode cX7_send 121 = .ok (.aload_n 0, 1) := by decide +kernel
theorem dX7_send_122 : decode cX7_send 122 = .ok (.iload_n 3, 1) := by decide +kernel
theorem dX7_send_123 : decode cX7_send 123 = .ok (.bipush 7, 2) := by decide +kernel
theorem dX7_send_125 : decode cX7_send 125 = .ok (.aload_n 0, 1) := by decide +kernel
theorem dX7_send_126 : decode cX7_send 126 = .ok (.getfield 7, 3) := by decide +kernel
theorem dX7_send_129 : decode cX7_send 129 = .ok (.iconst 3, 1) := by decide +kernel
theorem dX7_send_130 : decode cX7_send 130 = .ok (.iaload, 1) := by decide +kernel
theorem dX7_send_131 : decode cX7_send 131 = .ok (.invokevirtual 111, 3) := by decide +kernel
theorem dX7_send_134 : decode cX7_send 134 = .ok (.aload_n 0, 1) := by decide +kernel
theorem dX7_send_135 : decode cX7_send 135 = .ok (.iload_n 3, 1) := by decide +kernel
theorem dX7_send_136 : decode cX7_send 136 = .ok (.bipush 8, 2) := by decide +kernel
theorem dX7_send_138 : decode cX7_send 138 = .ok (.bipush (-6), 2) := by decide +kernel
theorem dX7_send_140 : decode cX7_send 140 = .ok (.invokevirtual 111, 3) := by decide +kernel
theorem dX7_send_143 : decode cX7_send 143 = .ok (.iload_n 3, 1) := by decide +kernel
theorem dX7_send_144 : decode cX7_send 144 = .ok (.ireturn, 1) := by decide +kernel
theorem dX7_goesTo_0 : decode cX7_goesTo 0 = .ok (.aload_n 0, 1) := by decide +kernel
theorem dX7_goesTo_1 : decode cX7_goesTo 1 = .ok (.iload_n 1, 1) := by decide +kernel
theorem dX7_goesTo_2 : decode cX7_goesTo 2 = .ok (.invokevirtual 115, 3) := by decide +kernel
theorem dX7_goesTo_5 : decode cX7_goesTo 5 = .ok (.istore_n 2, 1) := by decide +kernel
theorem dX7_goesTo_6 : decode cX7_goesTo 6 = .ok (.iconst 0, 1) := by decide +kernel
theorem dX7_goesTo_7 : decode cX7_goesTo 7 = .ok (.istore_n 3, 1) := by decide +kernel
theorem dX7_goesTo_8 : decode cX7_goesTo 8 = .ok (.iload_n 3, 1) := by decide +kernel
theorem dX7_goesTo_9 : decode cX7_goesTo 9 = .ok (.iload_n 2, 1) := by decide +kernel
theorem dX7_goesTo_10 : decode cX7_goesTo 10 = .ok (.if_icmp .ge 54, 3) := by decide +kernel
theorem dX7_goesTo_13 : decode cX7_goesTo 13 = .ok (.aload_n 0, 1) := by decide +kernel
theorem dX7_goesTo_14 : decode cX7_goesTo 14 = .ok (.aload_n 0, 1) := by decide +kernel
theorem dX7_goesTo_15 : decode cX7_goesTo 15 = .ok (.iload_n 1, 1) := by decide +kernel
theorem dX7_goesTo_16 : decode cX7_goesTo 16 = .ok (.iconst 3, 1) := by decide +kernel
theorem dX7_goesTo_17 : decode cX7_goesTo 17 = .ok (.invokevirtual 98, 3) := by decide +kernel
theorem dX7_goesTo_20 : decode cX7_goesTo 20 = .ok (.aload_n 0, 1) := by decide +kernel
theorem dX7_goesTo_21 : decode cX7_goesTo 21 = .ok (.getfield 38, 3) := by decide +kernel
theorem dX7_goesTo_24 : decode cX7_goesTo 24 = .ok (.iload_n 3, 1) := by decide +kernel
theorem dX7_goesTo_25 : decode cX7_goesTo 25 = .ok (.iaload, 1) := by decide +kernel
theorem dX7_goesTo_26 : decode cX7_goesTo 26 = .ok (.invokevirtual 63, 3) := by decide +kernel
theorem dX7_goesTo_29 : decode cX7_goesTo 29 = .ok (.istore 4, 2) := by decide +kernel
theorem dX7_goesTo_31 : decode cX7_goesTo 31 = .ok (.iload 4, 2) := by decide +kernel
theorem dX7_goesTo_33 : decode cX7_goesTo 33 = .ok (.aload_n 0, 1) := by decide +kernel
theorem dX7_goesTo_34 : decode cX7_goesTo 34 = .ok (.iload_n 1, 1) := by decide +kernel
theorem dX7_goesTo_35 : decode cX7_goesTo 35 = .ok (.iconst 1, 1) := by decide +kernel
theorem dX7_goesTo_36 : decode cX7_goesTo 36 = .ok (.invokevirtual 98, 3) := by decide +kernel
theorem dX7_goesTo_39 : decode cX7_goesTo 39 = .ok (.if_icmp .eq 12, 3) := by decide +kernel
theorem dX7_goesTo_42 : decode cX7_goesTo 42 = .ok (.aload_n 0, 1) := by decide +kernel
theorem dX7_goesTo_43 : decode cX7_goesTo 43 = .ok (.iload 4, 2) := by decide +kernel
theorem dX7_goesTo_45 : decode cX7_goesTo 45 = .ok (.invokevirtual 118, 3) := by decide +kernel
theorem dX7_goesTo_48 : decode cX7_goesTo 48 = .ok (.ifCond .eq 10, 3) := by decide +kernel
theorem dX7_goesTo_51 : decode cX7_goesTo 51 = .ok (.aload_n 0, 1) := by decide +kernel
theorem dX7_goesTo_52 : decode cX7_goesTo 52 = .ok (.getfield 38, 3) := by decide +kernel
theorem dX7_goesTo_55 : decode cX7_goesTo 55 = .ok (.iload_n 3, 1) := by decide +kernel
theorem dX7_goesTo_56 : decode cX7_goesTo 56 = .ok (.iaload, 1) := by decide +kernel
theorem dX7_goesTo_57 : decode cX7_goesTo 57 = .ok (.ireturn, 1) := by decide +kernel
theorem dX7_goesTo_58 : decode cX7_goesTo 58 = .ok (.iinc 3 1, 3) := by decide +kernel
theorem dX7_goesTo_61 : decode cX7_goesTo 61 = .ok (.goto (-53), 3) := by decide +kernel
theorem dX7_goesTo_64 : decode cX7_goesTo 64 = .ok (.bipush (-6), 2) := by decide +kernel
theorem dX7_goesTo_66 : decode cX7_goesTo 66 = .ok (.ireturn, 1) := by decide +kernel
theorem dX7_move_0 : decode cX7_move 0 = .ok (.aload_n 0, 1) := by decide +kernel
theorem dX7_move_1 : decode cX7_move 1 = .ok (.iload_n 1, 1) := by decide +kernel
theorem dX7_move_2 : decode cX7_move 2 = .ok (.iconst 3, 1) := by decide +kernel
theorem dX7_move_3 : decode cX7_move 3 = .ok (.invokevirtual 98, 3) := by decide +kernel
theorem dX7_move_6 : decode cX7_move 6 = .ok (.istore_n 3, 1) := by decide +kernel
theorem dX7_move_7 : decode cX7_move 7 = .ok (.aload_n 0, 1) := by decide +kernel
theorem dX7_move_8 : decode cX7_move 8 = .ok (.iload_n 1, 1) := by decide +kernel
theorem dX7_move_9 : decode cX7_move 9 = .ok (.iconst 1, 1) := by decide +kernel
theorem dX7_move_10 : decode cX7_move 10 = .ok (.invokevirtual 98, 3) := by decide +kernel
theorem dX7_move_13 : decode cX7_move 13 = .ok (.istore 4, 2) := by decide +kernel
theorem dX7_move_15 : decode cX7_move 15 = .ok (.aload_n 0, 1) := by decide +kernel
theorem dX7_move_16 : decode cX7_move 16 = .ok (.iload_n 3, 1) := by decide +kernel
theorem dX7_move_17 : decode cX7_move 17 = .ok (.iload_n 2, 1) := by decide +kernel
theorem dX7_move_18 : decode cX7_move 18 = .ok (.invokevirtual 63, 3) := by decide +kernel
theorem dX7_move_21 : decode cX7_move 21 = .ok (.istore 5, 2) := by decide +kernel
theorem dX7_move_23 : decode cX7_move 23 = .ok (.aload_n 0, 1) := by decide +kernel
theorem dX7_move_24 : decode cX7_move 24 = .ok (.iload_n 1, 1) := by decide +kernel
theorem dX7_move_25 : decode cX7_move 25 = .ok (.iconst 4, 1) := by decide +kernel
theorem dX7_move_26 : decode cX7_move 26 = .ok (.aload_n 0, 1) := by decide +kernel
theorem dX7_move_27 : decode cX7_move 27 = .ok (.iload_n 1, 1) := by decide +kernel
theorem dX7_move_28 : decode cX7_move 28 = .ok (.iconst 4, 1) := by decide +kernel
theorem dX7_move_29 : decode cX7_move 29 = .ok (.invokevirtual 98, 3) := by decide +kernel
theorem dX7_move_32 : decode cX7_move 32 = .ok (.iconst 1, 1) := by decide +kernel
theorem dX7_move_33 : decode cX7_move 33 = .ok (.iadd, 1) := by decide +kernel
theorem dX7_move_34 : decode cX7_move 34 = .ok (.invokevirtual 111, 3) := by decide +kernel
theorem dX7_move_37 : decode cX7_move 37 = .ok (.aload_n 0, 1) := by decide +kernel
theorem dX7_move_38 : decode cX7_move 38 = .ok (.iload_n 1, 1) := by decide +kernel
theorem dX7_move_39 : decode cX7_move 39 = .ok (.iconst 5, 1) := by decide +kernel
theorem dX7_move_40 : decode cX7_move 40 = .ok (.aload_n 0, 1) := by decide +kernel
theorem dX7_move_41 : decode cX7_move 41 = .ok (.iload_n 1, 1) := by decide +kernel
theorem dX7_move_42 : decode cX7_move 42 = .ok (.iconst 5, 1) := by decide +kernel
theorem dX7_move_43 : decode cX7_move 43 = .ok (.invokevirtual 98, 3) := by decide +kernel
theorem dX7_move_46 : decode cX7_move 46 = .ok (.aload_n 0, 1) := by decide +kernel
theorem dX7_move_47 : decode cX7_move 47 = .ok (.iload_n 3, 1) := by decide +kernel
theorem dX7_move_48 : decode cX7_move 48 = .ok (.iload 5, 2) := by decide +kernel
theorem dX7_move_50 : decode cX7_move 50 = .ok (.iload 4, 2) := by decide +kernel
theorem dX7_move_52 : decode cX7_move 52 = .ok (.invokevirtual 87, 3) := by decide +kernel
theorem dX7_move_55 : decode cX7_move 55 = .ok (.ifCond .eq 7, 3) := by decide +kernel
theorem dX7_move_58 : decode cX7_move 58 = .ok (.iconst 1, 1) := by decide +kernel
theorem dX7_move_59 : decode cX7_move 59 = .ok (.goto 4, 3) := by decide +kernel
theorem dX7_move_62 : decode cX7_move 62 = .ok (.iconst 0, 1) := by decide +kernel
theorem dX7_move_63 : decode cX7_move 63 = .ok (.iadd, 1) := by decide +kernel
theorem dX7_move_64 : decode cX7_move 64 = .ok (.invokevirtual 111, 3) := by decide +kernel
theorem dX7_move_67 : decode cX7_move 67 = .ok (.aload_n 0, 1) := by decide +kernel
theorem dX7_move_68 : decode cX7_move 68 = .ok (.iload_n 1, 1) := by decide +kernel
theorem dX7_move_69 : decode cX7_move 69 = .ok (.bipush 9, 2) := by decide +kernel
theorem dX7_move_71 : decode cX7_move 71 = .ok (.iload_n 2, 1) := by decide +kernel
theorem dX7_move_72 : decode cX7_move 72 = .ok (.ifCond .ne 13, 3) := by decide +kernel
theorem dX7_move_75 : decode cX7_move 75 = .ok (.aload_n 0, 1) := by decide +kernel
theorem dX7_move_76 : decode cX7_move 76 = .ok (.iload_n 1, 1) := by decide +kernel
theorem dX7_move_77 : decode cX7_move 77 = .ok (.bipush 9, 2) := by decide +kernel
theorem dX7_move_79 : decode cX7_move 79 = .ok (.invokevirtual 98, 3) := by decide +kernel
theorem dX7_move_82 : decode cX7_move 82 = .ok (.goto 4, 3) := by decide +kernel
theorem dX7_move_85 : decode cX7_move 85 = .ok (.iconst 1, 1) := by decide +kernel
theorem dX7_move_86 : decode cX7_move 86 = .ok (.invokevirtual 111, 3) := by decide +kernel
theorem dX7_move_89 : decode cX7_move 89 = .ok (.aload_n 0, 1) := by decide +kernel
theorem dX7_move_90 : decode cX7_move 90 = .ok (.iload_n 1, 1) := by decide +kernel
theorem dX7_move_91 : decode cX7_move 91 = .ok (.iconst 3, 1) := by decide +kernel
theorem dX7_move_92 : decode cX7_move 92 = .ok (.iload 5, 2) := by decide +kernel
theorem dX7_move_94 : decode cX7_move 94 = .ok (.invokevirtual 111, 3) := by decide +kernel
theorem dX7_move_97 : decode cX7_move 97 = .ok (.aload_n 0, 1) := by decide +kernel
theorem dX7_move_98 : decode cX7_move 98 = .ok (.getfield 7, 3) := by decide +kernel
theorem dX7_move_101 : decode cX7_move 101 = .ok (.bipush 60, 2) := by decide +kernel
theorem dX7_move_103 : decode cX7_move 103 = .ok (.iconst 4, 1) := by decide +kernel
theorem dX7_move_104 : decode cX7_move 104 = .ok (.iload_n 3, 1) := by decide +kernel
theorem dX7_move_105 : decode cX7_move 105 = .ok (.imul, 1) := by decide +kernel
theorem dX7_move_106 : decode cX7_move 106 = .ok (.iadd, 1) := by decide +kernel
theorem dX7_move_107 : decode cX7_move 107 = .ok (.iload_n 2, 1) := by decide +kernel
theorem dX7_move_108 : decode cX7_move 108 = .ok (.iadd, 1) := by decide +kernel
theorem dX7_move_109 : decode cX7_move 109 = .ok (.dup2, 1) := by decide +kernel
theorem dX7_move_110 : decode cX7_move 110 = .ok (.iaload, 1) := by decide +kernel
theorem dX7_move_111 : decode cX7_move 111 = .ok (.iconst 1, 1) := by decide +kernel
theorem dX7_move_112 : decode cX7_move 112 = .ok (.iadd, 1) := by decide +kernel
theorem dX7_move_113 : decode cX7_move 113 = .ok (.iastore, 1) := by decide +kernel
theorem dX7_move_114 : decode cX7_move 114 = .ok (.iload 5, 2) := by decide +kernel
theorem dX7_move_116 : decode cX7_move 116 = .ok (.iload 4, 2) := by decide +kernel
theorem dX7_move_118 : decode cX7_move 118 = .ok (.if_icmp .ne 23, 3) := by decide +kernel
theorem dX7_move_121 : decode cX7_move 121 = .ok (.aload_n 0, 1) := by decide +kernel
theorem dX7_move_122 : decode cX7_move 122 = .ok (.iload_n 1, 1) := by decide +kernel
theorem dX7_move_123 : decode cX7_move 123 = .ok (.iconst 2, 1) := by decide +kernel
theorem dX7_move_124 : decode cX7_move 124 = .ok (.iconst 2, 1) := by decide +kernel
theorem dX7_move_125 : decode cX7_move 125 = .ok (.invokevirtual 111, 3) := by decide +kernel
theorem dX7_move_128 : decode cX7_move 128 = .ok (.aload_n 0, 1) := by decide +kernel
theorem dX7_move_129 : decode cX7_move 129 = .ok (.iload_n 1, 1) := by decide +kernel
theorem dX7_move_130 : decode cX7_move 130 = .ok (.bipush 8, 2) := by decide +kernel
theorem dX7_move_132 : decode cX7_move 132 = .ok (.aload_n 0, 1) := by decide +kernel
theorem dX7_move_133 : decode cX7_move 133 = .ok (.getfield 7, 3) := by decide +kernel
theorem dX7_move_136 : decode cX7_move 136 = .ok (.iconst 3, 1) := by decide +kernel
theorem dX7_move_137 : decode cX7_move 137 = .ok (.iaload, 1) := by decide +kernel
theorem dX7_move_138 : decode cX7_move 138 = .ok (.invokevirtual 111, 3) := by decide +kernel
theorem dX7_move_141 : decode cX7_move 141 = .ok (.return_, 1) := by decide +kernel
theorem dX7_pass_0 : decode cX7_pass 0 = .ok (.iconst 0, 1) := by decide +kernel
theorem dX7_pass_1 : decode cX7_pass 1 = .ok (.istore_n 1, 1) := by decide +kernel
theorem dX7_pass_2 : decode cX7_pass 2 = .ok (.iload_n 1, 1) := by decide +kernel
theorem dX7_pass_3 : decode cX7_pass 3 = .ok (.aload_n 0, 1) := by decide +kernel
theorem dX7_pass_4 : decode cX7_pass 4 = .ok (.getfield 7, 3) := by decide +kernel
theorem dX7_pass_7 : decode cX7_pass 7 = .ok (.bipush 6, 2) := by decide +kernel
theorem dX7_pass_9 : decode cX7_pass 9 = .ok (.iaload, 1) := by decide +kernel
theorem dX7_pass_10 : decode cX7_pass 10 = .ok (.if_icmp .ge 116, 3) := by decide +kernel
theorem dX7_pass_13 : decode cX7_pass 13 = .ok (.aload_n 0, 1) := by decide +kernel
theorem dX7_pass_14 : decode cX7_pass 14 = .ok (.iload_n 1, 1) := by decide +kernel
theorem dX7_pass_15 : decode cX7_pass 15 = .ok (.iconst 2, 1) := by decide +kernel
theorem dX7_pass_16 : decode cX7_pass 16 = .ok (.invokevirtual 98, 3) := by decide +kernel
theorem dX7_pass_19 : decode cX7_pass 19 = .ok (.ifCond .ne 56, 3) := by decide +kernel
theorem dX7_pass_22 : decode cX7_pass 22 = .ok (.aload_n 0, 1) := by decide +kernel
theorem dX7_pass_23 : decode cX7_pass 23 = .ok (.aload_n 0, 1) := by decide +kernel
theorem dX7_pass_24 : decode cX7_pass 24 = .ok (.iload_n 1, 1) := by decide +kernel
theorem dX7_pass_25 : decode cX7_pass 25 = .ok (.iconst 3, 1) := by decide +kernel
theorem dX7_pass_26 : decode cX7_pass 26 = .ok (.invokevirtual 98, 3) := by decide +kernel
theorem dX7_pass_29 : decode cX7_pass 29 = .ok (.invokevirtual 118, 3) := by decide +kernel
theorem dX7_pass_32 : decode cX7_pass 32 = .ok (.istore_n 2, 1) := by decide +kernel
theorem dX7_pass_33 : decode cX7_pass 33 = .ok (.aload_n 0, 1) := by decide +kernel
theorem dX7_pass_34 : decode cX7_pass 34 = .ok (.iload_n 1, 1) := by decide +kernel
theorem dX7_pass_35 : decode cX7_pass 35 = .ok (.iconst 2, 1) := by decide +kernel
theorem dX7_pass_36 : decode cX7_pass 36 = .ok (.iload_n 2, 1) := by decide +kernel
theorem dX7_pass_37 : decode cX7_pass 37 = .ok (.ifCond .eq 7, 3) := by decide +kernel
theorem dX7_pass_40 : decode cX7_pass 40 = .ok (.iconst 1, 1) := by decide +kernel
theorem dX7_pass_41 : decode cX7_pass 41 = .ok (.goto 4, 3) := by decide +kernel
theorem dX7_pass_44 : decode cX7_pass 44 = .ok (.iconst 0, 1) := by decide +kernel
theorem dX7_pass_45 : decode cX7_pass 45 = .ok (.invokevirtual 111, 3) := by decide +kernel
theorem dX7_pass_48 : decode cX7_pass 48 = .ok (.aload_n 0, 1) := by decide +kernel
theorem dX7_pass_49 : decode cX7_pass 49 = .ok (.iload_n 1, 1) := by decide +kernel
theorem dX7_pass_50 : decode cX7_pass 50 = .ok (.bipush 6, 2) := by decide +kernel
theorem dX7_pass_52 : decode cX7_pass 52 = .ok (.aload_n 0, 1) := by decide +kernel
theorem dX7_pass_53 : decode cX7_pass 53 = .ok (.iload_n 1, 1) := by decide +kernel
theorem dX7_pass_54 : decode cX7_pass 54 = .ok (.bipush 6, 2) := by decide +kernel
theorem dX7_pass_56 : decode cX7_pass 56 = .ok (.invokevirtual 98, 3) := by decide +kernel
theorem dX7_pass_59 : decode cX7_pass 59 = .ok (.iload_n 2, 1) := by decide +kernel
theorem dX7_pass_60 : decode cX7_pass 60 = .ok (.ifCond .eq 7, 3) := by decide +kernel
theorem dX7_pass_63 : decode cX7_pass 63 = .ok (.iconst 0, 1) := by decide +kernel
theorem dX7_pass_64 : decode cX7_pass 64 = .ok (.goto 4, 3) := by decide +kernel
theorem dX7_pass_67 : decode cX7_pass 67 = .ok (.iconst 1, 1) := by decide +kernel
theorem dX7_pass_68 : decode cX7_pass 68 = .ok (.iadd, 1) := by decide +kernel
theorem dX7_pass_69 : decode cX7_pass 69 = .ok (.invokevirtual 111, 3) := by decide +kernel
theorem dX7_pass_72 : decode cX7_pass 72 = .ok (.goto 48, 3) := by decide +kernel
theorem dX7_pass_75 : decode cX7_pass 75 = .ok (.aload_n 0, 1) := by decide +kernel
theorem dX7_pass_76 : decode cX7_pass 76 = .ok (.iload_n 1, 1) := by decide +kernel
theorem dX7_pass_77 : decode cX7_pass 77 = .ok (.iconst 2, 1) := by decide +kernel
theorem dX7_pass_78 : decode cX7_pass 78 = .ok (.invokevirtual 98, 3) := by decide +kernel
theorem dX7_pass_81 : decode cX7_pass 81 = .ok (.iconst 1, 1) := by decide +kernel
theorem dX7_pass_82 : decode cX7_pass 82 = .ok (.if_icmp .ne 38, 3) := by decide +kernel
theorem dX7_pass_85 : decode cX7_pass 85 = .ok (.aload_n 0, 1) := by decide +kernel
theorem dX7_pass_86 : decode cX7_pass 86 = .ok (.iload_n 1, 1) := by decide +kernel
theorem dX7_pass_87 : decode cX7_pass 87 = .ok (.invokevirtual 121, 3) := by decide +kernel
theorem dX7_pass_90 : decode cX7_pass 90 = .ok (.istore_n 2, 1) := by decide +kernel
theorem dX7_pass_91 : decode cX7_pass 91 = .ok (.iload_n 2, 1) := by decide +kernel
theorem dX7_pass_92 : decode cX7_pass 92 = .ok (.ifCond .lt 12, 3) := by decide +kernel
theorem dX7_pass_95 : decode cX7_pass 95 = .ok (.aload_n 0, 1) := by decide +kernel
theorem dX7_pass_96 : decode cX7_pass 96 = .ok (.iload_n 1, 1) := by decide +kernel
theorem dX7_pass_97 : decode cX7_pass 97 = .ok (.iload_n 2, 1) := by decide +kernel
theorem dX7_pass_98 : decode cX7_pass 98 = .ok (.invokevirtual 124, 3) := by decide +kernel
theorem dX7_pass_101 : decode cX7_pass 101 = .ok (.goto 19, 3) := by decide +kernel
theorem dX7_pass_104 : decode cX7_pass 104 = .ok (.aload_n 0, 1) := by decide +kernel
theorem dX7_pass_105 : decode cX7_pass 105 = .ok (.iload_n 1, 1) := by decide +kernel
theorem dX7_pass_106 : decode cX7_pass 106 = .ok (.bipush 6, 2) := by decide +kernel
theorem dX7_pass_108 : decode cX7_pass 108 = .ok (.aload_n 0, 1) := by decide +kernel
theorem dX7_pass_109 : decode cX7_pass 109 = .ok (.iload_n 1, 1) := by decide +kernel
theorem dX7_pass_110 : decode cX7_pass 110 = .ok (.bipush 6, 2) := by decide +kernel
theorem dX7_pass_112 : decode cX7_pass 112 = .ok (.invokevirtual 98, 3) := by decide +kernel
theorem dX7_pass_115 : decode cX7_pass 115 = .ok (.iconst 1, 1) := by decide +kernel
theorem dX7_pass_116 : decode cX7_pass 116 = .ok (.iadd, 1) := by decide +kernel
theorem dX7_pass_117 : decode cX7_pass 117 = .ok (.invokevirtual 111, 3) := by decide +kernel
theorem dX7_pass_120 : decode cX7_pass 120 = .ok (.iinc 1 1, 3) := by decide +kernel
theorem dX7_pass_123 : decode cX7_pass 123 = .ok (.goto (-121), 3) := by decide +kernel
theorem dX7_pass_126 : decode cX7_pass 126 = .ok (.aload_n 0, 1) := by decide +kernel
theorem dX7_pass_127 : decode cX7_pass 127 = .ok (.getfield 7, 3) := by decide +kernel
theorem dX7_pass_130 : decode cX7_pass 130 = .ok (.iconst 3, 1) := by decide +kernel
theorem dX7_pass_131 : decode cX7_pass 131 = .ok (.dup2, 1) := by decide +kernel
theorem dX7_pass_132 : decode cX7_pass 132 = .ok (.iaload, 1) := by decide +kernel
theorem dX7_pass_133 : decode cX7_pass 133 = .ok (.iconst 1, 1) := by decide +kernel
theorem dX7_pass_134 : decode cX7_pass 134 = .ok (.iadd, 1) := by decide +kernel
theorem dX7_pass_135 : decode cX7_pass 135 = .ok (.iastore, 1) := by decide +kernel
theorem dX7_pass_136 : decode cX7_pass 136 = .ok (.return_, 1) := by decide +kernel
theorem dX7_ticks_0 : decode cX7_ticks 0 = .ok (.iload_n 1, 1) := by decide +kernel
theorem dX7_ticks_1 : decode cX7_ticks 1 = .ok (.iconst 1, 1) := by decide +kernel
theorem dX7_ticks_2 : decode cX7_ticks 2 = .ok (.sipush 300, 3) := by decide +kernel
theorem dX7_ticks_5 : decode cX7_ticks 5 = .ok (.invokestatic 59, 3) := by decide +kernel
theorem dX7_ticks_8 : decode cX7_ticks 8 = .ok (.ifCond .ne 6, 3) := by decide +kernel
theorem dX7_ticks_11 : decode cX7_ticks 11 = .ok (.bipush (-2), 2) := by decide +kernel
theorem dX7_ticks_13 : decode cX7_ticks 13 = .ok (.ireturn, 1) := by decide +kernel
theorem dX7_ticks_14 : decode cX7_ticks 14 = .ok (.aload_n 0, 1) := by decide +kernel
theorem dX7_ticks_15 : decode cX7_ticks 15 = .ok (.invokevirtual 70, 3) := by decide +kernel
theorem dX7_ticks_18 : decode cX7_ticks 18 = .ok (.iconst 0, 1) := by decide +kernel
theorem dX7_ticks_19 : decode cX7_ticks 19 = .ok (.istore_n 2, 1) := by decide +kernel
theorem dX7_ticks_20 : decode cX7_ticks 20 = .ok (.iload_n 2, 1) := by decide +kernel
theorem dX7_ticks_21 : decode cX7_ticks 21 = .ok (.iload_n 1, 1) := by decide +kernel
theorem dX7_ticks_22 : decode cX7_ticks 22 = .ok (.if_icmp .ge 13, 3) := by decide +kernel
theorem dX7_ticks_25 : decode cX7_ticks 25 = .ok (.aload_n 0, 1) := by decide +kernel
theorem dX7_ticks_26 : decode cX7_ticks 26 = .ok (.invokevirtual 128, 3) := by decide +kernel
theorem dX7_ticks_29 : decode cX7_ticks 29 = .ok (.iinc 2 1, 3) := by decide +kernel
theorem dX7_ticks_32 : decode cX7_ticks 32 = .ok (.goto (-12), 3) := by decide +kernel
theorem dX7_ticks_35 : decode cX7_ticks 35 = .ok (.aload_n 0, 1) := by decide +kernel
theorem dX7_ticks_36 : decode cX7_ticks 36 = .ok (.getfield 7, 3) := by decide +kernel
theorem dX7_ticks_39 : decode cX7_ticks 39 = .ok (.iconst 3, 1) := by decide +kernel
theorem dX7_ticks_40 : decode cX7_ticks 40 = .ok (.iaload, 1) := by decide +kernel
theorem dX7_ticks_41 : decode cX7_ticks 41 = .ok (.ireturn, 1) := by decide +kernel
theorem dX7_isFree_0 : decode cX7_isFree 0 = .ok (.aload_n 0, 1) := by decide +kernel
theorem dX7_isFree_1 : decode cX7_isFree 1 = .ok (.iload_n 1, 1) := by decide +kernel
theorem dX7_isFree_2 : decode cX7_isFree 2 = .ok (.invokevirtual 115, 3) := by decide +kernel
theorem dX7_isFree_5 : decode cX7_isFree 5 = .ok (.istore_n 2, 1) := by decide +kernel
theorem dX7_isFree_6 : decode cX7_isFree 6 = .ok (.iconst 0, 1) := by decide +kernel
theorem dX7_isFree_7 : decode cX7_isFree 7 = .ok (.istore_n 3, 1) := by decide +kernel
theorem dX7_isFree_8 : decode cX7_isFree 8 = .ok (.iconst 0, 1) := by decide +kernel
theorem dX7_isFree_9 : decode cX7_isFree 9 = .ok (.istore 4, 2) := by decide +kernel
theorem dX7_isFree_11 : decode cX7_isFree 11 = .ok (.iload 4, 2) := by decide +kernel
theorem dX7_isFree_13 : decode cX7_isFree 13 = .ok (.iload_n 2, 1) := by decide +kernel
theorem dX7_isFree_14 : decode cX7_isFree 14 = .ok (.if_icmp .ge 122, 3) := by decide +kernel
theorem dX7_isFree_17 : decode cX7_isFree 17 = .ok (.iload_n 3, 1) := by decide +kernel
theorem dX7_isFree_18 : decode cX7_isFree 18 = .ok (.ifCond .ne 118, 3) := by decide +kernel
theorem dX7_isFree_21 : decode cX7_isFree 21 = .ok (.aload_n 0, 1) := by decide +kernel
theorem dX7_isFree_22 : decode cX7_isFree 22 = .ok (.aload_n 0, 1) := by decide +kernel
theorem dX7_isFree_23 : decode cX7_isFree 23 = .ok (.iload_n 1, 1) := by decide +kernel
theorem dX7_isFree_24 : decode cX7_isFree 24 = .ok (.iconst 3, 1) := by decide +kernel
theorem dX7_isFree_25 : decode cX7_isFree 25 = .ok (.invokevirtual 98, 3) := by decide +kernel
theorem dX7_isFree_28 : decode cX7_isFree 28 = .ok (.aload_n 0, 1) := by decide +kernel
theorem dX7_isFree_29 : decode cX7_isFree 29 = .ok (.getfield 38, 3) := by decide +kernel
theorem dX7_isFree_32 : decode cX7_isFree 32 = .ok (.iload 4, 2) := by decide +kernel
theorem dX7_isFree_34 : decode cX7_isFree 34 = .ok (.iaload, 1) := by decide +kernel
theorem dX7_isFree_35 : decode cX7_isFree 35 = .ok (.invokevirtual 63, 3) := by decide +kernel
theorem dX7_isFree_38 : decode cX7_isFree 38 = .ok (.istore 5, 2) := by decide +kernel
theorem dX7_isFree_40 : decode cX7_isFree 40 = .ok (.iload 5, 2) := by decide +kernel
theorem dX7_isFree_42 : decode cX7_isFree 42 = .ok (.aload_n 0, 1) := by decide +kernel
theorem dX7_isFree_43 : decode cX7_isFree 43 = .ok (.iload_n 1, 1) := by decide +kernel
theorem dX7_isFree_44 : decode cX7_isFree 44 = .ok (.iconst 1, 1) := by decide +kernel
theorem dX7_isFree_45 : decode cX7_isFree 45 = .ok (.invokevirtual 98, 3) := by decide +kernel
theorem dX7_isFree_48 : decode cX7_isFree 48 = .ok (.if_icmp .eq 12, 3) := by decide +kernel
theorem dX7_isFree_51 : decode cX7_isFree 51 = .ok (.aload_n 0, 1) := by decide +kernel
theorem dX7_isFree_52 : decode cX7_isFree 52 = .ok (.iload 5, 2) := by decide +kernel
theorem dX7_isFree_54 : decode cX7_isFree 54 = .ok (.invokevirtual 118, 3) := by decide +kernel
theorem dX7_isFree_57 : decode cX7_isFree 57 = .ok (.ifCond .eq 7, 3) := by decide +kernel
theorem dX7_isFree_60 : decode cX7_isFree 60 = .ok (.iconst 1, 1) := by decide +kernel
theorem dX7_isFree_61 : decode cX7_isFree 61 = .ok (.goto 4, 3) := by decide +kernel
theorem dX7_isFree_64 : decode cX7_isFree 64 = .ok (.iconst 0, 1) := by decide +kernel
theorem dX7_isFree_65 : decode cX7_isFree 65 = .ok (.istore_n 3, 1) := by decide +kernel
theorem dX7_isFree_66 : decode cX7_isFree 66 = .ok (.iconst 0, 1) := by decide +kernel
theorem dX7_isFree_67 : decode cX7_isFree 67 = .ok (.istore 6, 2) := by decide +kernel
theorem dX7_isFree_69 : decode cX7_isFree 69 = .ok (.iload 6, 2) := by decide +kernel
theorem dX7_isFree_71 : decode cX7_isFree 71 = .ok (.aload_n 0, 1) := by decide +kernel
theorem dX7_isFree_72 : decode cX7_isFree 72 = .ok (.getfield 7, 3) := by decide +kernel
theorem dX7_isFree_75 : decode cX7_isFree 75 = .ok (.bipush 6, 2) := by decide +kernel
theorem dX7_isFree_77 : decode cX7_isFree 77 = .ok (.iaload, 1) := by decide +kernel
theorem dX7_isFree_78 : decode cX7_isFree 78 = .ok (.if_icmp .ge 52, 3) := by decide +kernel
theorem dX7_isFree_81 : decode cX7_isFree 81 = .ok (.iload_n 3, 1) := by decide +kernel
theorem dX7_isFree_82 : decode cX7_isFree 82 = .ok (.ifCond .ne 48, 3) := by decide +kernel
theorem dX7_isFree_85 : decode cX7_isFree 85 = .ok (.aload_n 0, 1) := by decide +kernel
theorem dX7_isFree_86 : decode cX7_isFree 86 = .ok (.iload 6, 2) := by decide +kernel
theorem dX7_isFree_88 : decode cX7_isFree 88 = .ok (.iconst 2, 1) := by decide +kernel
theorem dX7_isFree_89 : decode cX7_isFree 89 = .ok (.invokevirtual 98, 3) := by decide +kernel
theorem dX7_isFree_92 : decode cX7_isFree 92 = .ok (.iconst 1, 1) := by decide +kernel
theorem dX7_isFree_93 : decode cX7_isFree 93 = .ok (.if_icmp .ne 29, 3) := by decide +kernel
theorem dX7_isFree_96 : decode cX7_isFree 96 = .ok (.aload_n 0, 1) := by decide +kernel
theorem dX7_isFree_97 : decode cX7_isFree 97 = .ok (.iload 6, 2) := by decide +kernel
theorem dX7_isFree_99 : decode cX7_isFree 99 = .ok (.iconst 3, 1) := by decide +kernel
theorem dX7_isFree_100 : decode cX7_isFree 100 = .ok (.invokevirtual 98, 3) := by decide +kernel
theorem dX7_isFree_103 : decode cX7_isFree 103 = .ok (.iload 5, 2) := by decide +kernel
theorem dX7_isFree_105 : decode cX7_isFree 105 = .ok (.if_icmp .ne 17, 3) := by decide +kernel
theorem dX7_isFree_108 : decode cX7_isFree 108 = .ok (.aload_n 0, 1) := by decide +kernel
theorem dX7_isFree_109 : decode cX7_isFree 109 = .ok (.getfield 41, 3) := by decide +kernel
theorem dX7_isFree_112 : decode cX7_isFree 112 = .ok (.iload 6, 2) := by decide +kernel
theorem dX7_isFree_114 : decode cX7_isFree 114 = .ok (.baload, 1) := by decide +kernel
theorem dX7_isFree_115 : decode cX7_isFree 115 = .ok (.ifCond .ne 7, 3) := by decide +kernel
theorem dX7_isFree_118 : decode cX7_isFree 118 = .ok (.iconst 1, 1) := by decide +kernel
theorem dX7_isFree_119 : decode cX7_isFree 119 = .ok (.goto 4, 3) := by decide +kernel
theorem dX7_isFree_122 : decode cX7_isFree 122 = .ok (.iconst 0, 1) := by decide +kernel
theorem dX7_isFree_123 : decode cX7_isFree 123 = .ok (.istore_n 3, 1) := by decide +kernel
theorem dX7_isFree_124 : decode cX7_isFree 124 = .ok (.iinc 6 1, 3) := by decide +kernel
theorem dX7_isFree_127 : decode cX7_isFree 127 = .ok (.goto (-58), 3) := by decide +kernel
theorem dX7_isFree_130 : decode cX7_isFree 130 = .ok (.iinc 4 1, 3) := by decide +kernel
theorem dX7_isFree_133 : decode cX7_isFree 133 = .ok (.goto (-122), 3) := by decide +kernel
theorem dX7_isFree_136 : decode cX7_isFree 136 = .ok (.iload_n 3, 1) := by decide +kernel
theorem dX7_isFree_137 : decode cX7_isFree 137 = .ok (.ireturn, 1) := by decide +kernel
theorem dX7_layStuck_0 : decode cX7_layStuck 0 = .ok (.iconst 0, 1) := by decide +kernel
theorem dX7_layStuck_1 : decode cX7_layStuck 1 = .ok (.istore_n 1, 1) := by decide +kernel
theorem dX7_layStuck_2 : decode cX7_layStuck 2 = .ok (.iload_n 1, 1) := by decide +kernel
theorem dX7_layStuck_3 : decode cX7_layStuck 3 = .ok (.bipush 40, 2) := by decide +kernel
theorem dX7_layStuck_5 : decode cX7_layStuck 5 = .ok (.if_icmp .ge 41, 3) := by decide +kernel
theorem dX7_layStuck_8 : decode cX7_layStuck 8 = .ok (.aload_n 0, 1) := by decide +kernel
theorem dX7_layStuck_9 : decode cX7_layStuck 9 = .ok (.getfield 41, 3) := by decide +kernel
theorem dX7_layStuck_12 : decode cX7_layStuck 12 = .ok (.iload_n 1, 1) := by decide +kernel
theorem dX7_layStuck_13 : decode cX7_layStuck 13 = .ok (.iload_n 1, 1) := by decide +kernel
theorem dX7_layStuck_14 : decode cX7_layStuck 14 = .ok (.aload_n 0, 1) := by decide +kernel
theorem dX7_layStuck_15 : decode cX7_layStuck 15 = .ok (.getfield 7, 3) := by decide +kernel
theorem dX7_layStuck_18 : decode cX7_layStuck 18 = .ok (.bipush 6, 2) := by decide +kernel
theorem dX7_layStuck_20 : decode cX7_layStuck 20 = .ok (.iaload, 1) := by decide +kernel
theorem dX7_layStuck_21 : decode cX7_layStuck 21 = .ok (.if_icmp .ge 17, 3) := by decide +kernel
theorem dX7_layStuck_24 : decode cX7_layStuck 24 = .ok (.aload_n 0, 1) := by decide +kernel
theorem dX7_layStuck_25 : decode cX7_layStuck 25 = .ok (.iload_n 1, 1) := by decide +kernel
theorem dX7_layStuck_26 : decode cX7_layStuck 26 = .ok (.iconst 2, 1) := by decide +kernel
theorem dX7_layStuck_27 : decode cX7_layStuck 27 = .ok (.invokevirtual 98, 3) := by decide +kernel
theorem dX7_layStuck_30 : decode cX7_layStuck 30 = .ok (.iconst 1, 1) := by decide +kernel
theorem dX7_layStuck_31 : decode cX7_layStuck 31 = .ok (.if_icmp .ne 7, 3) := by decide +kernel
theorem dX7_layStuck_34 : decode cX7_layStuck 34 = .ok (.iconst 1, 1) := by decide +kernel
theorem dX7_layStuck_35 : decode cX7_layStuck 35 = .ok (.goto 4, 3) := by decide +kernel
theorem dX7_layStuck_38 : decode cX7_layStuck 38 = .ok (.iconst 0, 1) := by decide +kernel
theorem dX7_layStuck_39 : decode cX7_layStuck 39 = .ok (.bastore, 1) := by decide +kernel
theorem dX7_layStuck_40 : decode cX7_layStuck 40 = .ok (.iinc 1 1, 3) := by decide +kernel
theorem dX7_layStuck_43 : decode cX7_layStuck 43 = .ok (.goto (-41), 3) := by decide +kernel
theorem dX7_layStuck_46 : decode cX7_layStuck 46 = .ok (.iconst 1, 1) := by decide +kernel
theorem dX7_layStuck_47 : decode cX7_layStuck 47 = .ok (.istore_n 1, 1) := by decide +kernel
theorem dX7_layStuck_48 : decode cX7_layStuck 48 = .ok (.iload_n 1, 1) := by decide +kernel
theorem dX7_layStuck_49 : decode cX7_layStuck 49 = .ok (.ifCond .eq 53, 3) := by decide +kernel
theorem dX7_layStuck_52 : decode cX7_layStuck 52 = .ok (.iconst 0, 1) := by decide +kernel
theorem dX7_layStuck_53 : decode cX7_layStuck 53 = .ok (.istore_n 1, 1) := by decide +kernel
theorem dX7_layStuck_54 : decode cX7_layStuck 54 = .ok (.iconst 0, 1) := by decide +kernel
theorem dX7_layStuck_55 : decode cX7_layStuck 55 = .ok (.istore_n 2, 1) := by decide +kernel
theorem dX7_layStuck_56 : decode cX7_layStuck 56 = .ok (.iload_n 2, 1) := by decide +kernel
theorem dX7_layStuck_57 : decode cX7_layStuck 57 = .ok (.aload_n 0, 1) := by decide +kernel
theorem dX7_layStuck_58 : decode cX7_layStuck 58 = .ok (.getfield 7, 3) := by decide +kernel
theorem dX7_layStuck_61 : decode cX7_layStuck 61 = .ok (.bipush 6, 2) := by decide +kernel
theorem dX7_layStuck_63 : decode cX7_layStuck 63 = .ok (.iaload, 1) := by decide +kernel
theorem dX7_layStuck_64 : decode cX7_layStuck 64 = .ok (.if_icmp .ge 35, 3) := by decide +kernel
theorem dX7_layStuck_67 : decode cX7_layStuck 67 = .ok (.aload_n 0, 1) := by decide +kernel
theorem dX7_layStuck_68 : decode cX7_layStuck 68 = .ok (.getfield 41, 3) := by decide +kernel
theorem dX7_layStuck_71 : decode cX7_layStuck 71 = .ok (.iload_n 2, 1) := by decide +kernel
theorem dX7_layStuck_72 : decode cX7_layStuck 72 = .ok (.baload, 1) := by decide +kernel
theorem dX7_layStuck_73 : decode cX7_layStuck 73 = .ok (.ifCond .eq 20, 3) := by decide +kernel
theorem dX7_layStuck_76 : decode cX7_layStuck 76 = .ok (.aload_n 0, 1) := by decide +kernel
theorem dX7_layStuck_77 : decode cX7_layStuck 77 = .ok (.iload_n 2, 1) := by decide +kernel
theorem dX7_layStuck_78 : decode cX7_layStuck 78 = .ok (.invokevirtual 131, 3) := by decide +kernel
theorem dX7_layStuck_81 : decode cX7_layStuck 81 = .ok (.ifCond .eq 12, 3) := by decide +kernel
theorem dX7_layStuck_84 : decode cX7_layStuck 84 = .ok (.aload_n 0, 1) := by decide +kernel
theorem dX7_layStuck_85 : decode cX7_layStuck 85 = .ok (.getfield 41, 3) := by decide +kernel
theorem dX7_layStuck_88 : decode cX7_layStuck 88 = .ok (.iload_n 2, 1) := by decide +kernel
theorem dX7_layStuck_89 : decode cX7_layStuck 89 = .ok (.iconst 0, 1) := by decide +kernel
theorem dX7_layStuck_90 : decode cX7_layStuck 90 = .ok (.bastore, 1) := by decide +kernel
theorem dX7_layStuck_91 : decode cX7_layStuck 91 = .ok (.iconst 1, 1) := by decide +kernel
theorem dX7_layStuck_92 : decode cX7_layStuck 92 = .ok (.istore_n 1, 1) := by decide +kernel
theorem dX7_layStuck_93 : decode cX7_layStuck 93 = .ok (.iinc 2 1, 3) := by decide +kernel
theorem dX7_layStuck_96 : decode cX7_layStuck 96 = .ok (.goto (-40), 3) := by decide +kernel
theorem dX7_layStuck_99 : decode cX7_layStuck 99 = .ok (.goto (-51), 3) := by decide +kernel
theorem dX7_layStuck_102 : decode cX7_layStuck 102 = .ok (.iconst 0, 1) := by decide +kernel
theorem dX7_layStuck_103 : decode cX7_layStuck 103 = .ok (.istore_n 2, 1) := by decide +kernel
theorem dX7_layStuck_104 : decode cX7_layStuck 104 = .ok (.iconst 0, 1) := by decide +kernel
theorem dX7_layStuck_105 : decode cX7_layStuck 105 = .ok (.istore_n 3, 1) := by decide +kernel
theorem dX7_layStuck_106 : decode cX7_layStuck 106 = .ok (.iload_n 3, 1) := by decide +kernel
theorem dX7_layStuck_107 : decode cX7_layStuck 107 = .ok (.aload_n 0, 1) := by decide +kernel
theorem dX7_layStuck_108 : decode cX7_layStuck 108 = .ok (.getfield 7, 3) := by decide +kernel
theorem dX7_layStuck_111 : decode cX7_layStuck 111 = .ok (.bipush 6, 2) := by decide +kernel
theorem dX7_layStuck_113 : decode cX7_layStuck 113 = .ok (.iaload, 1) := by decide +kernel
theorem dX7_layStuck_114 : decode cX7_layStuck 114 = .ok (.if_icmp .ge 26, 3) := by decide +kernel
theorem dX7_layStuck_117 : decode cX7_layStuck 117 = .ok (.iload_n 2, 1) := by decide +kernel
theorem dX7_layStuck_118 : decode cX7_layStuck 118 = .ok (.aload_n 0, 1) := by decide +kernel
theorem dX7_layStuck_119 : decode cX7_layStuck 119 = .ok (.getfield 41, 3) := by decide +kernel
theorem dX7_layStuck_122 : decode cX7_layStuck 122 = .ok (.iload_n 3, 1) := by decide +kernel
theorem dX7_layStuck_123 : decode cX7_layStuck 123 = .ok (.baload, 1) := by decide +kernel
theorem dX7_layStuck_124 : decode cX7_layStuck 124 = .ok (.ifCond .eq 7, 3) := by decide +kernel
theorem dX7_layStuck_127 : decode cX7_layStuck 127 = .ok (.iconst 1, 1) := by decide +kernel
theorem dX7_layStuck_128 : decode cX7_layStuck 128 = .ok (.goto 4, 3) := by decide +kernel
theorem dX7_layStuck_131 : decode cX7_layStuck 131 = .ok (.iconst 0, 1) := by decide +kernel
theorem dX7_layStuck_132 : decode cX7_layStuck 132 = .ok (.iadd, 1) := by decide +kernel
theorem dX7_layStuck_133 : decode cX7_layStuck 133 = .ok (.istore_n 2, 1) := by decide +kernel
theorem dX7_layStuck_134 : decode cX7_layStuck 134 = .ok (.iinc 3 1, 3) := by decide +kernel
theorem dX7_layStuck_137 : decode cX7_layStuck 137 = .ok (.goto (-31), 3) := by decide +kernel
theorem dX7_layStuck_140 : decode cX7_layStuck 140 = .ok (.iload_n 2, 1) := by decide +kernel
theorem dX7_layStuck_141 : decode cX7_layStuck 141 = .ok (.ireturn, 1) := by decide +kernel
theorem dX7_ofPacket_0 : decode cX7_ofPacket 0 = .ok (.aload_n 0, 1) := by decide +kernel
theorem dX7_ofPacket_1 : decode cX7_ofPacket 1 = .ok (.iload_n 1, 1) := by decide +kernel
theorem dX7_ofPacket_2 : decode cX7_ofPacket 2 = .ok (.invokevirtual 134, 3) := by decide +kernel
theorem dX7_ofPacket_5 : decode cX7_ofPacket 5 = .ok (.ifCond .ne 5, 3) := by decide +kernel
theorem dX7_ofPacket_8 : decode cX7_ofPacket 8 = .ok (.iconst (-1), 1) := by decide +kernel
theorem dX7_ofPacket_9 : decode cX7_ofPacket 9 = .ok (.ireturn, 1) := by decide +kernel
theorem dX7_ofPacket_10 : decode cX7_ofPacket 10 = .ok (.iload_n 2, 1) := by decide +kernel
theorem dX7_ofPacket_11 : decode cX7_ofPacket 11 = .ok (.tableswitch 81 10 12 #[25, 31, 61], 25) := by decide +kernel
theorem dX7_ofPacket_36 : decode cX7_ofPacket 36 = .ok (.aload_n 0, 1) := by decide +kernel
theorem dX7_ofPacket_37 : decode cX7_ofPacket 37 = .ok (.iload_n 1, 1) := by decide +kernel
theorem dX7_ofPacket_38 : decode cX7_ofPacket 38 = .ok (.invokevirtual 137, 3) := by decide +kernel
theorem dX7_ofPacket_41 : decode cX7_ofPacket 41 = .ok (.ireturn, 1) := by decide +kernel
theorem dX7_ofPacket_42 : decode cX7_ofPacket 42 = .ok (.aload_n 0, 1) := by decide +kernel
theorem dX7_ofPacket_43 : decode cX7_ofPacket 43 = .ok (.iload_n 1, 1) := by decide +kernel
theorem dX7_ofPacket_44 : decode cX7_ofPacket 44 = .ok (.iconst 2, 1) := by decide +kernel
theorem dX7_ofPacket_45 : decode cX7_ofPacket 45 = .ok (.invokevirtual 98, 3) := by decide +kernel
theorem dX7_ofPacket_48 : decode cX7_ofPacket 48 = .ok (.iconst 2, 1) := by decide +kernel
theorem dX7_ofPacket_49 : decode cX7_ofPacket 49 = .ok (.if_icmp .eq 20, 3) := by decide +kernel
theorem dX7_ofPacket_52 : decode cX7_ofPacket 52 = .ok (.aload_n 0, 1) := by decide +kernel
theorem dX7_ofPacket_53 : decode cX7_ofPacket 53 = .ok (.iload_n 1, 1) := by decide +kernel
theorem dX7_ofPacket_54 : decode cX7_ofPacket 54 = .ok (.invokevirtual 115, 3) := by decide +kernel
theorem dX7_ofPacket_57 : decode cX7_ofPacket 57 = .ok (.ifCond .le 12, 3) := by decide +kernel
theorem dX7_ofPacket_60 : decode cX7_ofPacket 60 = .ok (.aload_n 0, 1) := by decide +kernel
theorem dX7_ofPacket_61 : decode cX7_ofPacket 61 = .ok (.getfield 38, 3) := by decide +kernel
theorem dX7_ofPacket_64 : decode cX7_ofPacket 64 = .ok (.iconst 0, 1) := by decide +kernel
theorem dX7_ofPacket_65 : decode cX7_ofPacket 65 = .ok (.iaload, 1) := by decide +kernel
theorem dX7_ofPacket_66 : decode cX7_ofPacket 66 = .ok (.goto 5, 3) := by decide +kernel
theorem dX7_ofPacket_69 : decode cX7_ofPacket 69 = .ok (.bipush (-6), 2) := by decide +kernel
theorem dX7_ofPacket_71 : decode cX7_ofPacket 71 = .ok (.ireturn, 1) := by decide +kernel
theorem dX7_ofPacket_72 : decode cX7_ofPacket 72 = .ok (.aload_n 0, 1) := by decide +kernel
theorem dX7_ofPacket_73 : decode cX7_ofPacket 73 = .ok (.invokevirtual 140, 3) := by decide +kernel
theorem dX7_ofPacket_76 : decode cX7_ofPacket 76 = .ok (.pop, 1) := by decide +kernel
theorem dX7_ofPacket_77 : decode cX7_ofPacket 77 = .ok (.aload_n 0, 1) := by decide +kernel
theorem dX7_ofPacket_78 : decode cX7_ofPacket 78 = .ok (.getfield 41, 3) := by decide +kernel
theorem dX7_ofPacket_81 : decode cX7_ofPacket 81 = .ok (.iload_n 1, 1) := by decide +kernel
theorem dX7_ofPacket_82 : decode cX7_ofPacket 82 = .ok (.baload, 1) := by decide +kernel
theorem dX7_ofPacket_83 : decode cX7_ofPacket 83 = .ok (.ifCond .eq 7, 3) := by decide +kernel
theorem dX7_ofPacket_86 : decode cX7_ofPacket 86 = .ok (.iconst 1, 1) := by decide +kernel
theorem dX7_ofPacket_87 : decode cX7_ofPacket 87 = .ok (.goto 4, 3) := by decide +kernel
theorem dX7_ofPacket_90 : decode cX7_ofPacket 90 = .ok (.iconst 0, 1) := by decide +kernel
theorem dX7_ofPacket_91 : decode cX7_ofPacket 91 = .ok (.ireturn, 1) := by decide +kernel
theorem dX7_ofPacket_92 : decode cX7_ofPacket 92 = .ok (.iload_n 2, 1) := by decide +kernel
theorem dX7_ofPacket_93 : decode cX7_ofPacket 93 = .ok (.iconst 0, 1) := by decide +kernel
theorem dX7_ofPacket_94 : decode cX7_ofPacket 94 = .ok (.bipush 9, 2) := by decide +kernel
theorem dX7_ofPacket_96 : decode cX7_ofPacket 96 = .ok (.invokestatic 59, 3) := by decide +kernel
theorem dX7_ofPacket_99 : decode cX7_ofPacket 99 = .ok (.ifCond .eq 12, 3) := by decide +kernel
theorem dX7_ofPacket_102 : decode cX7_ofPacket 102 = .ok (.aload_n 0, 1) := by decide +kernel
theorem dX7_ofPacket_103 : decode cX7_ofPacket 103 = .ok (.iload_n 1, 1) := by decide +kernel
theorem dX7_ofPacket_104 : decode cX7_ofPacket 104 = .ok (.iload_n 2, 1) := by decide +kernel
theorem dX7_ofPacket_105 : decode cX7_ofPacket 105 = .ok (.invokevirtual 98, 3) := by decide +kernel
theorem dX7_ofPacket_108 : decode cX7_ofPacket 108 = .ok (.goto 5, 3) := by decide +kernel
theorem dX7_ofPacket_111 : decode cX7_ofPacket 111 = .ok (.bipush (-2), 2) := by decide +kernel
theorem dX7_ofPacket_113 : decode cX7_ofPacket 113 = .ok (.ireturn, 1) := by decide +kernel
theorem dX7_packetsOf_0 : decode cX7_packetsOf 0 = .ok (.iconst 0, 1) := by decide +kernel
theorem dX7_packetsOf_1 : decode cX7_packetsOf 1 = .ok (.istore_n 3, 1) := by decide +kernel
theorem dX7_packetsOf_2 : decode cX7_packetsOf 2 = .ok (.iconst 0, 1) := by decide +kernel
theorem dX7_packetsOf_3 : decode cX7_packetsOf 3 = .ok (.istore 4, 2) := by decide +kernel
theorem dX7_packetsOf_5 : decode cX7_packetsOf 5 = .ok (.iload 4, 2) := by decide +kernel
theorem dX7_packetsOf_7 : decode cX7_packetsOf 7 = .ok (.aload_n 0, 1) := by decide +kernel
theorem dX7_packetsOf_8 : decode cX7_packetsOf 8 = .ok (.getfield 7, 3) := by decide +kernel
theorem dX7_packetsOf_11 : decode cX7_packetsOf 11 = .ok (.bipush 6, 2) := by decide +kernel
theorem dX7_packetsOf_13 : decode cX7_packetsOf 13 = .ok (.iaload, 1) := by decide +kernel
theorem dX7_packetsOf_14 : decode cX7_packetsOf 14 = .ok (.if_icmp .ge 43, 3) := by decide +kernel
theorem dX7_packetsOf_17 : decode cX7_packetsOf 17 = .ok (.iload_n 3, 1) := by decide +kernel
theorem dX7_packetsOf_18 : decode cX7_packetsOf 18 = .ok (.aload_n 0, 1) := by decide +kernel
theorem dX7_packetsOf_19 : decode cX7_packetsOf 19 = .ok (.iload 4, 2) := by decide +kernel
theorem dX7_packetsOf_21 : decode cX7_packetsOf 21 = .ok (.iconst 2, 1) := by decide +kernel
theorem dX7_packetsOf_22 : decode cX7_packetsOf 22 = .ok (.invokevirtual 98, 3) := by decide +kernel
theorem dX7_packetsOf_25 : decode cX7_packetsOf 25 = .ok (.iload_n 2, 1) := by decide +kernel
theorem dX7_packetsOf_26 : decode cX7_packetsOf 26 = .ok (.if_icmp .ne 22, 3) := by decide +kernel
theorem dX7_packetsOf_29 : decode cX7_packetsOf 29 = .ok (.iload_n 1, 1) := by decide +kernel
theorem dX7_packetsOf_30 : decode cX7_packetsOf 30 = .ok (.ifCond .lt 14, 3) := by decide +kernel
theorem dX7_packetsOf_33 : decode cX7_packetsOf 33 = .ok (.aload_n 0, 1) := by decide +kernel
theorem dX7_packetsOf_34 : decode cX7_packetsOf 34 = .ok (.iload 4, 2) := by decide +kernel
theorem dX7_packetsOf_36 : decode cX7_packetsOf 36 = .ok (.iconst 3, 1) := by decide +kernel
theorem dX7_packetsOf_37 : decode cX7_packetsOf 37 = .ok (.invokevirtual 98, 3) := by decide +kernel
theorem dX7_packetsOf_40 : decode cX7_packetsOf 40 = .ok (.iload_n 1, 1) := by decide +kernel
theorem dX7_packetsOf_41 : decode cX7_packetsOf 41 = .ok (.if_icmp .ne 7, 3) := by decide +kernel
theorem dX7_packetsOf_44 : decode cX7_packetsOf 44 = .ok (.iconst 1, 1) := by decide +kernel
theorem dX7_packetsOf_45 : decode cX7_packetsOf 45 = .ok (.goto 4, 3) := by decide +kernel
theorem dX7_packetsOf_48 : decode cX7_packetsOf 48 = .ok (.iconst 0, 1) := by decide +kernel
theorem dX7_packetsOf_49 : decode cX7_packetsOf 49 = .ok (.iadd, 1) := by decide +kernel
theorem dX7_packetsOf_50 : decode cX7_packetsOf 50 = .ok (.istore_n 3, 1) := by decide +kernel
theorem dX7_packetsOf_51 : decode cX7_packetsOf 51 = .ok (.iinc 4 1, 3) := by decide +kernel
theorem dX7_packetsOf_54 : decode cX7_packetsOf 54 = .ok (.goto (-49), 3) := by decide +kernel
theorem dX7_packetsOf_57 : decode cX7_packetsOf 57 = .ok (.iload_n 3, 1) := by decide +kernel
theorem dX7_packetsOf_58 : decode cX7_packetsOf 58 = .ok (.ireturn, 1) := by decide +kernel
theorem dX7_ofBox_0 : decode cX7_ofBox 0 = .ok (.aload_n 0, 1) := by decide +kernel
theorem dX7_ofBox_1 : decode cX7_ofBox 1 = .ok (.iload_n 1, 1) := by decide +kernel
theorem dX7_ofBox_2 : decode cX7_ofBox 2 = .ok (.invokevirtual 76, 3) := by decide +kernel
theorem dX7_ofBox_5 : decode cX7_ofBox 5 = .ok (.ifCond .ne 5, 3) := by decide +kernel
theorem dX7_ofBox_8 : decode cX7_ofBox 8 = .ok (.iconst (-1), 1) := by decide +kernel
theorem dX7_ofBox_9 : decode cX7_ofBox 9 = .ok (.ireturn, 1) := by decide +kernel
theorem dX7_ofBox_10 : decode cX7_ofBox 10 = .ok (.iload_n 2, 1) := by decide +kernel
theorem dX7_ofBox_11 : decode cX7_ofBox 11 = .ok (.iconst 3, 1) := by decide +kernel
theorem dX7_ofBox_12 : decode cX7_ofBox 12 = .ok (.bipush 6, 2) := by decide +kernel
theorem dX7_ofBox_14 : decode cX7_ofBox 14 = .ok (.invokestatic 59, 3) := by decide +kernel
theorem dX7_ofBox_17 : decode cX7_ofBox 17 = .ok (.ifCond .eq 36, 3) := by decide +kernel
theorem dX7_ofBox_20 : decode cX7_ofBox 20 = .ok (.aload_n 0, 1) := by decide +kernel
theorem dX7_ofBox_21 : decode cX7_ofBox 21 = .ok (.iload_n 1, 1) := by decide +kernel
theorem dX7_ofBox_22 : decode cX7_ofBox 22 = .ok (.iload_n 2, 1) := by decide +kernel
theorem dX7_ofBox_23 : decode cX7_ofBox 23 = .ok (.iconst 3, 1) := by decide +kernel
theorem dX7_ofBox_24 : decode cX7_ofBox 24 = .ok (.isub, 1) := by decide +kernel
theorem dX7_ofBox_25 : decode cX7_ofBox 25 = .ok (.invokevirtual 63, 3) := by decide +kernel
theorem dX7_ofBox_28 : decode cX7_ofBox 28 = .ok (.ifCond .ge 8, 3) := by decide +kernel
theorem dX7_ofBox_31 : decode cX7_ofBox 31 = .ok (.bipush (-6), 2) := by decide +kernel
theorem dX7_ofBox_33 : decode cX7_ofBox 33 = .ok (.goto 19, 3) := by decide +kernel
theorem dX7_ofBox_36 : decode cX7_ofBox 36 = .ok (.aload_n 0, 1) := by decide +kernel
theorem dX7_ofBox_37 : decode cX7_ofBox 37 = .ok (.iload_n 1, 1) := by decide +kernel
theorem dX7_ofBox_38 : decode cX7_ofBox 38 = .ok (.iload_n 2, 1) := by decide +kernel
theorem dX7_ofBox_39 : decode cX7_ofBox 39 = .ok (.iconst 3, 1) := by decide +kernel
theorem dX7_ofBox_40 : decode cX7_ofBox 40 = .ok (.isub, 1) := by decide +kernel
theorem dX7_ofBox_41 : decode cX7_ofBox 41 = .ok (.invokevirtual 83, 3) := by decide +kernel
theorem dX7_ofBox_44 : decode cX7_ofBox 44 = .ok (.ifCond .eq 7, 3) := by decide +kernel
theorem dX7_ofBox_47 : decode cX7_ofBox 47 = .ok (.iconst 1, 1) := by decide +kernel
theorem dX7_ofBox_48 : decode cX7_ofBox 48 = .ok (.goto 4, 3) := by decide +kernel
theorem dX7_ofBox_51 : decode cX7_ofBox 51 = .ok (.iconst 0, 1) := by decide +kernel
theorem dX7_ofBox_52 : decode cX7_ofBox 52 = .ok (.ireturn, 1) := by decide +kernel
theorem dX7_ofBox_53 : decode cX7_ofBox 53 = .ok (.iload_n 2, 1) := by decide +kernel
theorem dX7_ofBox_54 : decode cX7_ofBox 54 = .ok (.bipush 7, 2) := by decide +kernel
theorem dX7_ofBox_56 : decode cX7_ofBox 56 = .ok (.bipush 10, 2) := by decide +kernel
theorem dX7_ofBox_58 : decode cX7_ofBox 58 = .ok (.invokestatic 59, 3) := by decide +kernel
theorem dX7_ofBox_61 : decode cX7_ofBox 61 = .ok (.ifCond .eq 20, 3) := by decide +kernel
theorem dX7_ofBox_64 : decode cX7_ofBox 64 = .ok (.aload_n 0, 1) := by decide +kernel
theorem dX7_ofBox_65 : decode cX7_ofBox 65 = .ok (.getfield 7, 3) := by decide +kernel
theorem dX7_ofBox_68 : decode cX7_ofBox 68 = .ok (.bipush 60, 2) := by decide +kernel
theorem dX7_ofBox_70 : decode cX7_ofBox 70 = .ok (.iconst 4, 1) := by decide +kernel
theorem dX7_ofBox_71 : decode cX7_ofBox 71 = .ok (.iload_n 1, 1) := by decide +kernel
theorem dX7_ofBox_72 : decode cX7_ofBox 72 = .ok (.imul, 1) := by decide +kernel
theorem dX7_ofBox_73 : decode cX7_ofBox 73 = .ok (.iadd, 1) := by decide +kernel
theorem dX7_ofBox_74 : decode cX7_ofBox 74 = .ok (.iload_n 2, 1) := by decide +kernel
theorem dX7_ofBox_75 : decode cX7_ofBox 75 = .ok (.iadd, 1) := by decide +kernel
theorem dX7_ofBox_76 : decode cX7_ofBox 76 = .ok (.bipush 7, 2) := by decide +kernel
theorem dX7_ofBox_78 : decode cX7_ofBox 78 = .ok (.isub, 1) := by decide +kernel
theorem dX7_ofBox_79 : decode cX7_ofBox 79 = .ok (.iaload, 1) := by decide +kernel
theorem dX7_ofBox_80 : decode cX7_ofBox 80 = .ok (.ireturn, 1) := by decide +kernel
theorem dX7_ofBox_81 : decode cX7_ofBox 81 = .ok (.iload_n 2, 1) := by decide +kernel
theorem dX7_ofBox_82 : decode cX7_ofBox 82 = .ok (.ifCond .ne 12, 3) := by decide +kernel
theorem dX7_ofBox_85 : decode cX7_ofBox 85 = .ok (.aload_n 0, 1) := by decide +kernel
theorem dX7_ofBox_86 : decode cX7_ofBox 86 = .ok (.iload_n 1, 1) := by decide +kernel
theorem dX7_ofBox_87 : decode cX7_ofBox 87 = .ok (.iconst 1, 1) := by decide +kernel
theorem dX7_ofBox_88 : decode cX7_ofBox 88 = .ok (.invokevirtual 143, 3) := by decide +kernel
theorem dX7_ofBox_91 : decode cX7_ofBox 91 = .ok (.goto 33, 3) := by decide +kernel
theorem dX7_ofBox_94 : decode cX7_ofBox 94 = .ok (.iload_n 2, 1) := by decide +kernel
theorem dX7_ofBox_95 : decode cX7_ofBox 95 = .ok (.iconst 1, 1) := by decide +kernel
theorem dX7_ofBox_96 : decode cX7_ofBox 96 = .ok (.if_icmp .ne 12, 3) := by decide +kernel
theorem dX7_ofBox_99 : decode cX7_ofBox 99 = .ok (.aload_n 0, 1) := by decide +kernel
theorem dX7_ofBox_100 : decode cX7_ofBox 100 = .ok (.iload_n 1, 1) := by decide +kernel
theorem dX7_ofBox_101 : decode cX7_ofBox 101 = .ok (.iconst 0, 1) := by decide +kernel
theorem dX7_ofBox_102 : decode cX7_ofBox 102 = .ok (.invokevirtual 143, 3) := by decide +kernel
theorem dX7_ofBox_105 : decode cX7_ofBox 105 = .ok (.goto 19, 3) := by decide +kernel
theorem dX7_ofBox_108 : decode cX7_ofBox 108 = .ok (.iload_n 2, 1) := by decide +kernel
theorem dX7_ofBox_109 : decode cX7_ofBox 109 = .ok (.iconst 2, 1) := by decide +kernel
theorem dX7_ofBox_110 : decode cX7_ofBox 110 = .ok (.if_icmp .ne 12, 3) := by decide +kernel
theorem dX7_ofBox_113 : decode cX7_ofBox 113 = .ok (.aload_n 0, 1) := by decide +kernel
theorem dX7_ofBox_114 : decode cX7_ofBox 114 = .ok (.iload_n 1, 1) := by decide +kernel
theorem dX7_ofBox_115 : decode cX7_ofBox 115 = .ok (.iconst 2, 1) := by decide +kernel
theorem dX7_ofBox_116 : decode cX7_ofBox 116 = .ok (.invokevirtual 143, 3) := by decide +kernel
theorem dX7_ofBox_119 : decode cX7_ofBox 119 = .ok (.goto 5, 3) := by decide +kernel
theorem dX7_ofBox_122 : decode cX7_ofBox 122 = .ok (.bipush (-2), 2) := by decide +kernel
theorem dX7_ofBox_124 : decode cX7_ofBox 124 = .ok (.ireturn, 1) := by decide +kernel
theorem dX7_sum_0 : decode cX7_sum 0 = .ok (.iconst 0, 1) := by decide +kernel
theorem dX7_sum_1 : decode cX7_sum 1 = .ok (.istore_n 2, 1) := by decide +kernel
theorem dX7_sum_2 : decode cX7_sum 2 = .ok (.iconst 0, 1) := by decide +kernel
theorem dX7_sum_3 : decode cX7_sum 3 = .ok (.istore_n 3, 1) := by decide +kernel
theorem dX7_sum_4 : decode cX7_sum 4 = .ok (.iload_n 3, 1) := by decide +kernel
theorem dX7_sum_5 : decode cX7_sum 5 = .ok (.aload_n 0, 1) := by decide +kernel
theorem dX7_sum_6 : decode cX7_sum 6 = .ok (.getfield 7, 3) := by decide +kernel
theorem dX7_sum_9 : decode cX7_sum 9 = .ok (.bipush 6, 2) := by decide +kernel
theorem dX7_sum_11 : decode cX7_sum 11 = .ok (.iaload, 1) := by decide +kernel
theorem dX7_sum_12 : decode cX7_sum 12 = .ok (.if_icmp .ge 18, 3) := by decide +kernel
theorem dX7_sum_15 : decode cX7_sum 15 = .ok (.iload_n 2, 1) := by decide +kernel
theorem dX7_sum_16 : decode cX7_sum 16 = .ok (.aload_n 0, 1) := by decide +kernel
theorem dX7_sum_17 : decode cX7_sum 17 = .ok (.iload_n 3, 1) := by decide +kernel
theorem dX7_sum_18 : decode cX7_sum 18 = .ok (.iload_n 1, 1) := by decide +kernel
theorem dX7_sum_19 : decode cX7_sum 19 = .ok (.invokevirtual 98, 3) := by decide +kernel
theorem dX7_sum_22 : decode cX7_sum 22 = .ok (.iadd, 1) := by decide +kernel
theorem dX7_sum_23 : decode cX7_sum 23 = .ok (.istore_n 2, 1) := by decide +kernel
theorem dX7_sum_24 : decode cX7_sum 24 = .ok (.iinc 3 1, 3) := by decide +kernel
theorem dX7_sum_27 : decode cX7_sum 27 = .ok (.goto (-23), 3) := by decide +kernel
theorem dX7_sum_30 : decode cX7_sum 30 = .ok (.iload_n 2, 1) := by decide +kernel
theorem dX7_sum_31 : decode cX7_sum 31 = .ok (.ireturn, 1) := by decide +kernel
theorem dX7_broken_0 : decode cX7_broken 0 = .ok (.iconst 0, 1) := by decide +kernel
theorem dX7_broken_1 : decode cX7_broken 1 = .ok (.istore_n 1, 1) := by decide +kernel
theorem dX7_broken_2 : decode cX7_broken 2 = .ok (.bipush 10, 2) := by decide +kernel
theorem dX7_broken_4 : decode cX7_broken 4 = .ok (.istore_n 2, 1) := by decide +kernel
theorem dX7_broken_5 : decode cX7_broken 5 = .ok (.iload_n 2, 1) := by decide +kernel
theorem dX7_broken_6 : decode cX7_broken 6 = .ok (.bipush 60, 2) := by decide +kernel
theorem dX7_broken_8 : decode cX7_broken 8 = .ok (.if_icmp .ge 18, 3) := by decide +kernel
theorem dX7_broken_11 : decode cX7_broken 11 = .ok (.iload_n 1, 1) := by decide +kernel
theorem dX7_broken_12 : decode cX7_broken 12 = .ok (.aload_n 0, 1) := by decide +kernel
theorem dX7_broken_13 : decode cX7_broken 13 = .ok (.getfield 7, 3) := by decide +kernel
theorem dX7_broken_16 : decode cX7_broken 16 = .ok (.iload_n 2, 1) := by decide +kernel
theorem dX7_broken_17 : decode cX7_broken 17 = .ok (.iaload, 1) := by decide +kernel
theorem dX7_broken_18 : decode cX7_broken 18 = .ok (.iadd, 1) := by decide +kernel
theorem dX7_broken_19 : decode cX7_broken 19 = .ok (.istore_n 1, 1) := by decide +kernel
theorem dX7_broken_20 : decode cX7_broken 20 = .ok (.iinc 2 1, 3) := by decide +kernel
theorem dX7_broken_23 : decode cX7_broken 23 = .ok (.goto (-18), 3) := by decide +kernel
theorem dX7_broken_26 : decode cX7_broken 26 = .ok (.iload_n 1, 1) := by decide +kernel
theorem dX7_broken_27 : decode cX7_broken 27 = .ok (.ireturn, 1) := by decide +kernel
theorem dX7_count_0 : decode cX7_count 0 = .ok (.iload_n 1, 1) := by decide +kernel
theorem dX7_count_1 : decode cX7_count 1 = .ok (.iconst 4, 1) := by decide +kernel
theorem dX7_count_2 : decode cX7_count 2 = .ok (.bipush 6, 2) := by decide +kernel
theorem dX7_count_4 : decode cX7_count 4 = .ok (.invokestatic 59, 3) := by decide +kernel
theorem dX7_count_7 : decode cX7_count 7 = .ok (.ifCond .eq 13, 3) := by decide +kernel
theorem dX7_count_10 : decode cX7_count 10 = .ok (.aload_n 0, 1) := by decide +kernel
theorem dX7_count_11 : decode cX7_count 11 = .ok (.bipush (-6), 2) := by decide +kernel
theorem dX7_count_13 : decode cX7_count 13 = .ok (.iload_n 1, 1) := by decide +kernel
theorem dX7_count_14 : decode cX7_count 14 = .ok (.iconst 4, 1) := by decide +kernel
theorem dX7_count_15 : decode cX7_count 15 = .ok (.isub, 1) := by decide +kernel
theorem dX7_count_16 : decode cX7_count 16 = .ok (.invokevirtual 143, 3) := by decide +kernel
theorem dX7_count_19 : decode cX7_count 19 = .ok (.ireturn, 1) := by decide +kernel
theorem dX7_count_20 : decode cX7_count 20 = .ok (.iload_n 1, 1) := by decide +kernel
theorem dX7_count_21 : decode cX7_count 21 = .ok (.bipush 7, 2) := by decide +kernel
theorem dX7_count_23 : decode cX7_count 23 = .ok (.bipush 9, 2) := by decide +kernel
theorem dX7_count_25 : decode cX7_count 25 = .ok (.invokestatic 59, 3) := by decide +kernel
theorem dX7_count_28 : decode cX7_count 28 = .ok (.ifCond .eq 14, 3) := by decide +kernel
theorem dX7_count_31 : decode cX7_count 31 = .ok (.aload_n 0, 1) := by decide +kernel
theorem dX7_count_32 : decode cX7_count 32 = .ok (.iload_n 1, 1) := by decide +kernel
theorem dX7_count_33 : decode cX7_count 33 = .ok (.bipush 7, 2) := by decide +kernel
theorem dX7_count_35 : decode cX7_count 35 = .ok (.isub, 1) := by decide +kernel
theorem dX7_count_36 : decode cX7_count 36 = .ok (.iconst 4, 1) := by decide +kernel
theorem dX7_count_37 : decode cX7_count 37 = .ok (.iadd, 1) := by decide +kernel
theorem dX7_count_38 : decode cX7_count 38 = .ok (.invokevirtual 146, 3) := by decide +kernel
theorem dX7_count_41 : decode cX7_count 41 = .ok (.ireturn, 1) := by decide +kernel
theorem dX7_count_42 : decode cX7_count 42 = .ok (.iload_n 1, 1) := by decide +kernel
theorem dX7_count_43 : decode cX7_count 43 = .ok (.bipush 14, 2) := by decide +kernel
theorem dX7_count_45 : decode cX7_count 45 = .ok (.bipush 16, 2) := by decide +kernel
theorem dX7_count_47 : decode cX7_count 47 = .ok (.invokestatic 59, 3) := by decide +kernel
theorem dX7_count_50 : decode cX7_count 50 = .ok (.ifCond .eq 13, 3) := by decide +kernel
theorem dX7_count_53 : decode cX7_count 53 = .ok (.aload_n 0, 1) := by decide +kernel
theorem dX7_count_54 : decode cX7_count 54 = .ok (.getfield 7, 3) := by decide +kernel
theorem dX7_count_57 : decode cX7_count 57 = .ok (.iload_n 1, 1) := by decide +kernel
theorem dX7_count_58 : decode cX7_count 58 = .ok (.bipush 14, 2) := by decide +kernel
theorem dX7_count_60 : decode cX7_count 60 = .ok (.isub, 1) := by decide +kernel
theorem dX7_count_61 : decode cX7_count 61 = .ok (.iaload, 1) := by decide +kernel
theorem dX7_count_62 : decode cX7_count 62 = .ok (.ireturn, 1) := by decide +kernel
theorem dX7_count_63 : decode cX7_count 63 = .ok (.iload_n 1, 1) := by decide +kernel
theorem dX7_count_64 : decode cX7_count 64 = .ok (.tableswitch 110 0 12 #[68, 75, 80, 87, 110, 110, 110, 110, 110, 110, 95, 100, 105], 68) := by decide +kernel
theorem dX7_count_132 : decode cX7_count 132 = .ok (.aload_n 0, 1) := by decide +kernel
theorem dX7_count_133 : decode cX7_count 133 = .ok (.getfield 7, 3) := by decide +kernel
theorem dX7_count_136 : decode cX7_count 136 = .ok (.iconst 3, 1) := by decide +kernel
theorem dX7_count_137 : decode cX7_count 137 = .ok (.iaload, 1) := by decide +kernel
theorem dX7_count_138 : decode cX7_count 138 = .ok (.ireturn, 1) := by decide +kernel
theorem dX7_count_139 : decode cX7_count 139 = .ok (.aload_n 0, 1) := by decide +kernel
theorem dX7_count_140 : decode cX7_count 140 = .ok (.invokevirtual 55, 3) := by decide +kernel
theorem dX7_count_143 : decode cX7_count 143 = .ok (.ireturn, 1) := by decide +kernel
theorem dX7_count_144 : decode cX7_count 144 = .ok (.aload_n 0, 1) := by decide +kernel
theorem dX7_count_145 : decode cX7_count 145 = .ok (.getfield 7, 3) := by decide +kernel
theorem dX7_count_148 : decode cX7_count 148 = .ok (.iconst 4, 1) := by decide +kernel
theorem dX7_count_149 : decode cX7_count 149 = .ok (.iaload, 1) := by decide +kernel
theorem dX7_count_150 : decode cX7_count 150 = .ok (.ireturn, 1) := by decide +kernel
theorem dX7_count_151 : decode cX7_count 151 = .ok (.aload_n 0, 1) := by decide +kernel
theorem dX7_count_152 : decode cX7_count 152 = .ok (.getfield 7, 3) := by decide +kernel
theorem dX7_count_155 : decode cX7_count 155 = .ok (.bipush 6, 2) := by decide +kernel
theorem dX7_count_157 : decode cX7_count 157 = .ok (.iaload, 1) := by decide +kernel
theorem dX7_count_158 : decode cX7_count 158 = .ok (.ireturn, 1) := by decide +kernel
theorem dX7_count_159 : decode cX7_count 159 = .ok (.aload_n 0, 1) := by decide +kernel
theorem dX7_count_160 : decode cX7_count 160 = .ok (.invokevirtual 140, 3) := by decide +kernel
theorem dX7_count_163 : decode cX7_count 163 = .ok (.ireturn, 1) := by decide +kernel
theorem dX7_count_164 : decode cX7_count 164 = .ok (.aload_n 0, 1) := by decide +kernel
theorem dX7_count_165 : decode cX7_count 165 = .ok (.invokevirtual 149, 3) := by decide +kernel
theorem dX7_count_168 : decode cX7_count 168 = .ok (.ireturn, 1) := by decide +kernel
theorem dX7_count_169 : decode cX7_count 169 = .ok (.aload_n 0, 1) := by decide +kernel
theorem dX7_count_170 : decode cX7_count 170 = .ok (.getfield 152, 3) := by decide +kernel
theorem dX7_count_173 : decode cX7_count 173 = .ok (.ireturn, 1) := by decide +kernel
theorem dX7_count_174 : decode cX7_count 174 = .ok (.iload_n 1, 1) := by decide +kernel
theorem dX7_count_175 : decode cX7_count 175 = .ok (.bipush 13, 2) := by decide +kernel
theorem dX7_count_177 : decode cX7_count 177 = .ok (.if_icmp .ne 10, 3) := by decide +kernel
theorem dX7_count_180 : decode cX7_count 180 = .ok (.aload_n 0, 1) := by decide +kernel
theorem dX7_count_181 : decode cX7_count 181 = .ok (.getfield 51, 3) := by decide +kernel
theorem dX7_count_184 : decode cX7_count 184 = .ok (.goto 5, 3) := by decide +kernel
theorem dX7_count_187 : decode cX7_count 187 = .ok (.bipush (-2), 2) := by decide +kernel
theorem dX7_count_189 : decode cX7_count 189 = .ok (.ireturn, 1) := by decide +kernel
theorem dX7_leastWay_0 : decode cX7_leastWay 0 = .ok (.aload_n 0, 1) := by decide +kernel
theorem dX7_leastWay_1 : decode cX7_leastWay 1 = .ok (.iload_n 1, 1) := by decide +kernel
theorem dX7_leastWay_2 : decode cX7_leastWay 2 = .ok (.invokevirtual 76, 3) := by decide +kernel
theorem dX7_leastWay_5 : decode cX7_leastWay 5 = .ok (.ifCond .eq 23, 3) := by decide +kernel
theorem dX7_leastWay_8 : decode cX7_leastWay 8 = .ok (.aload_n 0, 1) := by decide +kernel
theorem dX7_leastWay_9 : decode cX7_leastWay 9 = .ok (.iload_n 2, 1) := by decide +kernel
theorem dX7_leastWay_10 : decode cX7_leastWay 10 = .ok (.invokevirtual 76, 3) := by decide +kernel
theorem dX7_leastWay_13 : decode cX7_leastWay 13 = .ok (.ifCond .eq 15, 3) := by decide +kernel
theorem dX7_leastWay_16 : decode cX7_leastWay 16 = .ok (.aload_n 0, 1) := by decide +kernel
theorem dX7_leastWay_17 : decode cX7_leastWay 17 = .ok (.bipush 10, 2) := by decide +kernel
theorem dX7_leastWay_19 : decode cX7_leastWay 19 = .ok (.iload_n 1, 1) := by decide +kernel
theorem dX7_leastWay_20 : decode cX7_leastWay 20 = .ok (.imul, 1) := by decide +kernel
theorem dX7_leastWay_21 : decode cX7_leastWay 21 = .ok (.iload_n 2, 1) := by decide +kernel
theorem dX7_leastWay_22 : decode cX7_leastWay 22 = .ok (.invokevirtual 105, 3) := by decide +kernel
theorem dX7_leastWay_25 : decode cX7_leastWay 25 = .ok (.goto 4, 3) := by decide +kernel
theorem dX7_leastWay_28 : decode cX7_leastWay 28 = .ok (.iconst (-1), 1) := by decide +kernel
theorem dX7_leastWay_29 : decode cX7_leastWay 29 = .ok (.ireturn, 1) := by decide +kernel
theorem dX7_ways_0 : decode cX7_ways 0 = .ok (.aload_n 0, 1) := by decide +kernel
theorem dX7_ways_1 : decode cX7_ways 1 = .ok (.iload_n 1, 1) := by decide +kernel
theorem dX7_ways_2 : decode cX7_ways 2 = .ok (.invokevirtual 76, 3) := by decide +kernel
theorem dX7_ways_5 : decode cX7_ways 5 = .ok (.ifCond .eq 11, 3) := by decide +kernel
theorem dX7_ways_8 : decode cX7_ways 8 = .ok (.aload_n 0, 1) := by decide +kernel
theorem dX7_ways_9 : decode cX7_ways 9 = .ok (.iload_n 2, 1) := by decide +kernel
theorem dX7_ways_10 : decode cX7_ways 10 = .ok (.invokevirtual 76, 3) := by decide +kernel
theorem dX7_ways_13 : decode cX7_ways 13 = .ok (.ifCond .ne 5, 3) := by decide +kernel
theorem dX7_ways_16 : decode cX7_ways 16 = .ok (.iconst (-1), 1) := by decide +kernel
theorem dX7_ways_17 : decode cX7_ways 17 = .ok (.ireturn, 1) := by decide +kernel
theorem dX7_ways_18 : decode cX7_ways 18 = .ok (.aload_n 0, 1) := by decide +kernel
theorem dX7_ways_19 : decode cX7_ways 19 = .ok (.iload_n 2, 1) := by decide +kernel
theorem dX7_ways_20 : decode cX7_ways 20 = .ok (.invokevirtual 94, 3) := by decide +kernel
theorem dX7_ways_23 : decode cX7_ways 23 = .ok (.aload_n 0, 1) := by decide +kernel
theorem dX7_ways_24 : decode cX7_ways 24 = .ok (.getfield 32, 3) := by decide +kernel
theorem dX7_ways_27 : decode cX7_ways 27 = .ok (.sipush 250, 3) := by decide +kernel
theorem dX7_ways_30 : decode cX7_ways 30 = .ok (.iload_n 2, 1) := by decide +kernel
theorem dX7_ways_31 : decode cX7_ways 31 = .ok (.imul, 1) := by decide +kernel
theorem dX7_ways_32 : decode cX7_ways 32 = .ok (.bipush 10, 2) := by decide +kernel
theorem dX7_ways_34 : decode cX7_ways 34 = .ok (.iload_n 1, 1) := by decide +kernel
theorem dX7_ways_35 : decode cX7_ways 35 = .ok (.imul, 1) := by decide +kernel
theorem dX7_ways_36 : decode cX7_ways 36 = .ok (.iadd, 1) := by decide +kernel
theorem dX7_ways_37 : decode cX7_ways 37 = .ok (.iaload, 1) := by decide +kernel
theorem dX7_ways_38 : decode cX7_ways 38 = .ok (.ireturn, 1) := by decide +kernel
theorem dX7_pairsNow_0 : decode cX7_pairsNow 0 = .ok (.iconst 0, 1) := by decide +kernel
theorem dX7_pairsNow_1 : decode cX7_pairsNow 1 = .ok (.istore_n 1, 1) := by decide +kernel
theorem dX7_pairsNow_2 : decode cX7_pairsNow 2 = .ok (.iconst 0, 1) := by decide +kernel
theorem dX7_pairsNow_3 : decode cX7_pairsNow 3 = .ok (.istore_n 2, 1) := by decide +kernel
theorem dX7_pairsNow_4 : decode cX7_pairsNow 4 = .ok (.iload_n 2, 1) := by decide +kernel
theorem dX7_pairsNow_5 : decode cX7_pairsNow 5 = .ok (.aload_n 0, 1) := by decide +kernel
theorem dX7_pairsNow_6 : decode cX7_pairsNow 6 = .ok (.invokevirtual 55, 3) := by decide +kernel
theorem dX7_pairsNow_9 : decode cX7_pairsNow 9 = .ok (.if_icmp .ge 50, 3) := by decide +kernel
theorem dX7_pairsNow_12 : decode cX7_pairsNow 12 = .ok (.iconst 0, 1) := by decide +kernel
theorem dX7_pairsNow_13 : decode cX7_pairsNow 13 = .ok (.istore_n 3, 1) := by decide +kernel
theorem dX7_pairsNow_14 : decode cX7_pairsNow 14 = .ok (.iload_n 3, 1) := by decide +kernel
theorem dX7_pairsNow_15 : decode cX7_pairsNow 15 = .ok (.aload_n 0, 1) := by decide +kernel
theorem dX7_pairsNow_16 : decode cX7_pairsNow 16 = .ok (.invokevirtual 55, 3) := by decide +kernel
theorem dX7_pairsNow_19 : decode cX7_pairsNow 19 = .ok (.if_icmp .ge 34, 3) := by decide +kernel
theorem dX7_pairsNow_22 : decode cX7_pairsNow 22 = .ok (.iload_n 1, 1) := by decide +kernel
theorem dX7_pairsNow_23 : decode cX7_pairsNow 23 = .ok (.iload_n 2, 1) := by decide +kernel
theorem dX7_pairsNow_24 : decode cX7_pairsNow 24 = .ok (.iload_n 3, 1) := by decide +kernel
theorem dX7_pairsNow_25 : decode cX7_pairsNow 25 = .ok (.if_icmp .eq 19, 3) := by decide +kernel
theorem dX7_pairsNow_28 : decode cX7_pairsNow 28 = .ok (.aload_n 0, 1) := by decide +kernel
theorem dX7_pairsNow_29 : decode cX7_pairsNow 29 = .ok (.bipush 10, 2) := by decide +kernel
theorem dX7_pairsNow_31 : decode cX7_pairsNow 31 = .ok (.iload_n 2, 1) := by decide +kernel
theorem dX7_pairsNow_32 : decode cX7_pairsNow 32 = .ok (.imul, 1) := by decide +kernel
theorem dX7_pairsNow_33 : decode cX7_pairsNow 33 = .ok (.iload_n 3, 1) := by decide +kernel
theorem dX7_pairsNow_34 : decode cX7_pairsNow 34 = .ok (.invokevirtual 105, 3) := by decide +kernel
theorem dX7_pairsNow_37 : decode cX7_pairsNow 37 = .ok (.ifCond .lt 7, 3) := by decide +kernel
theorem dX7_pairsNow_40 : decode cX7_pairsNow 40 = .ok (.iconst 1, 1) := by decide +kernel
theorem dX7_pairsNow_41 : decode cX7_pairsNow 41 = .ok (.goto 4, 3) := by decide +kernel
theorem dX7_pairsNow_44 : decode cX7_pairsNow 44 = .ok (.iconst 0, 1) := by decide +kernel
theorem dX7_pairsNow_45 : decode cX7_pairsNow 45 = .ok (.iadd, 1) := by decide +kernel
theorem dX7_pairsNow_46 : decode cX7_pairsNow 46 = .ok (.istore_n 1, 1) := by decide +kernel
theorem dX7_pairsNow_47 : decode cX7_pairsNow 47 = .ok (.iinc 3 1, 3) := by decide +kernel
theorem dX7_pairsNow_50 : decode cX7_pairsNow 50 = .ok (.goto (-36), 3) := by decide +kernel
theorem dX7_pairsNow_53 : decode cX7_pairsNow 53 = .ok (.iinc 2 1, 3) := by decide +kernel
theorem dX7_pairsNow_56 : decode cX7_pairsNow 56 = .ok (.goto (-52), 3) := by decide +kernel
theorem dX7_pairsNow_59 : decode cX7_pairsNow 59 = .ok (.iload_n 1, 1) := by decide +kernel
theorem dX7_pairsNow_60 : decode cX7_pairsNow 60 = .ok (.ireturn, 1) := by decide +kernel
theorem dX7_pairs_0 : decode cX7_pairs 0 = .ok (.aload_n 0, 1) := by decide +kernel
theorem dX7_pairs_1 : decode cX7_pairs 1 = .ok (.invokevirtual 155, 3) := by decide +kernel
theorem dX7_pairs_4 : decode cX7_pairs 4 = .ok (.ireturn, 1) := by decide +kernel
theorem dX7_worstLink_0 : decode cX7_worstLink 0 = .ok (.iload_n 1, 1) := by decide +kernel
theorem dX7_worstLink_1 : decode cX7_worstLink 1 = .ok (.iconst 0, 1) := by decide +kernel
theorem dX7_worstLink_2 : decode cX7_worstLink 2 = .ok (.iconst 2, 1) := by decide +kernel
theorem dX7_worstLink_3 : decode cX7_worstLink 3 = .ok (.invokestatic 59, 3) := by decide +kernel
theorem dX7_worstLink_6 : decode cX7_worstLink 6 = .ok (.ifCond .ne 6, 3) := by decide +kernel
theorem dX7_worstLink_9 : decode cX7_worstLink 9 = .ok (.bipush (-2), 2) := by decide +kernel
theorem dX7_worstLink_11 : decode cX7_worstLink 11 = .ok (.ireturn, 1) := by decide +kernel
theorem dX7_worstLink_12 : decode cX7_worstLink 12 = .ok (.bipush (-6), 2) := by decide +kernel
theorem dX7_worstLink_14 : decode cX7_worstLink 14 = .ok (.istore_n 2, 1) := by decide +kernel
theorem dX7_worstLink_15 : decode cX7_worstLink 15 = .ok (.iconst 0, 1) := by decide +kernel
theorem dX7_worstLink_16 : decode cX7_worstLink 16 = .ok (.istore_n 3, 1) := by decide +kernel
theorem dX7_worstLink_17 : decode cX7_worstLink 17 = .ok (.iconst 0, 1) := by decide +kernel
theorem dX7_worstLink_18 : decode cX7_worstLink 18 = .ok (.istore 4, 2) := by decide +kernel
theorem dX7_worstLink_20 : decode cX7_worstLink 20 = .ok (.iload 4, 2) := by decide +kernel
theorem dX7_worstLink_22 : decode cX7_worstLink 22 = .ok (.aload_n 0, 1) := by decide +kernel
theorem dX7_worstLink_23 : decode cX7_worstLink 23 = .ok (.invokevirtual 55, 3) := by decide +kernel
theorem dX7_worstLink_26 : decode cX7_worstLink 26 = .ok (.if_icmp .ge 98, 3) := by decide +kernel
theorem dX7_worstLink_29 : decode cX7_worstLink 29 = .ok (.iconst 0, 1) := by decide +kernel
theorem dX7_worstLink_30 : decode cX7_worstLink 30 = .ok (.istore 5, 2) := by decide +kernel
theorem dX7_worstLink_32 : decode cX7_worstLink 32 = .ok (.iload 5, 2) := by decide +kernel
theorem dX7_worstLink_34 : decode cX7_worstLink 34 = .ok (.iconst 2, 1) := by decide +kernel
theorem dX7_worstLink_35 : decode cX7_worstLink 35 = .ok (.if_icmp .gt 83, 3) := by decide +kernel
theorem dX7_worstLink_38 : decode cX7_worstLink 38 = .ok (.aload_n 0, 1) := by decide +kernel
theorem dX7_worstLink_39 : decode cX7_worstLink 39 = .ok (.iload 4, 2) := by decide +kernel
theorem dX7_worstLink_41 : decode cX7_worstLink 41 = .ok (.iload 5, 2) := by decide +kernel
theorem dX7_worstLink_43 : decode cX7_worstLink 43 = .ok (.invokevirtual 83, 3) := by decide +kernel
theorem dX7_worstLink_46 : decode cX7_worstLink 46 = .ok (.ifCond .eq 66, 3) := by decide +kernel
theorem dX7_worstLink_49 : decode cX7_worstLink 49 = .ok (.aload_n 0, 1) := by decide +kernel
theorem dX7_worstLink_50 : decode cX7_worstLink 50 = .ok (.getfield 7, 3) := by decide +kernel
theorem dX7_worstLink_53 : decode cX7_worstLink 53 = .ok (.aload_n 0, 1) := by decide +kernel
theorem dX7_worstLink_54 : decode cX7_worstLink 54 = .ok (.iload 4, 2) := by decide +kernel
theorem dX7_worstLink_56 : decode cX7_worstLink 56 = .ok (.iload 5, 2) := by decide +kernel
theorem dX7_worstLink_58 : decode cX7_worstLink 58 = .ok (.invokevirtual 67, 3) := by decide +kernel
theorem dX7_worstLink_61 : decode cX7_worstLink 61 = .ok (.iconst 1, 1) := by decide +kernel
theorem dX7_worstLink_62 : decode cX7_worstLink 62 = .ok (.iastore, 1) := by decide +kernel
theorem dX7_worstLink_63 : decode cX7_worstLink 63 = .ok (.aload_n 0, 1) := by decide +kernel
theorem dX7_worstLink_64 : decode cX7_worstLink 64 = .ok (.invokevirtual 73, 3) := by decide +kernel
theorem dX7_worstLink_67 : decode cX7_worstLink 67 = .ok (.aload_n 0, 1) := by decide +kernel
theorem dX7_worstLink_68 : decode cX7_worstLink 68 = .ok (.invokevirtual 155, 3) := by decide +kernel
theorem dX7_worstLink_71 : decode cX7_worstLink 71 = .ok (.istore 6, 2) := by decide +kernel
theorem dX7_worstLink_73 : decode cX7_worstLink 73 = .ok (.aload_n 0, 1) := by decide +kernel
theorem dX7_worstLink_74 : decode cX7_worstLink 74 = .ok (.getfield 7, 3) := by decide +kernel
theorem dX7_worstLink_77 : decode cX7_worstLink 77 = .ok (.aload_n 0, 1) := by decide +kernel
theorem dX7_worstLink_78 : decode cX7_worstLink 78 = .ok (.iload 4, 2) := by decide +kernel
theorem dX7_worstLink_80 : decode cX7_worstLink 80 = .ok (.iload 5, 2) := by decide +kernel
theorem dX7_worstLink_82 : decode cX7_worstLink 82 = .ok (.invokevirtual 67, 3) := by decide +kernel
theorem dX7_worstLink_85 : decode cX7_worstLink 85 = .ok (.iconst 0, 1) := by decide +kernel
theorem dX7_worstLink_86 : decode cX7_worstLink 86 = .ok (.iastore, 1) := by decide +kernel
theorem dX7_worstLink_87 : decode cX7_worstLink 87 = .ok (.aload_n 0, 1) := by decide +kernel
theorem dX7_worstLink_88 : decode cX7_worstLink 88 = .ok (.invokevirtual 73, 3) := by decide +kernel
theorem dX7_worstLink_91 : decode cX7_worstLink 91 = .ok (.iload_n 2, 1) := by decide +kernel
theorem dX7_worstLink_92 : decode cX7_worstLink 92 = .ok (.ifCond .lt 9, 3) := by decide +kernel
theorem dX7_worstLink_95 : decode cX7_worstLink 95 = .ok (.iload 6, 2) := by decide +kernel
theorem dX7_worstLink_97 : decode cX7_worstLink 97 = .ok (.iload_n 3, 1) := by decide +kernel
theorem dX7_worstLink_98 : decode cX7_worstLink 98 = .ok (.if_icmp .ge 14, 3) := by decide +kernel
theorem dX7_worstLink_101 : decode cX7_worstLink 101 = .ok (.iconst 4, 1) := by decide +kernel
theorem dX7_worstLink_102 : decode cX7_worstLink 102 = .ok (.iload 4, 2) := by decide +kernel
theorem dX7_worstLink_104 : decode cX7_worstLink 104 = .ok (.imul, 1) := by decide +kernel
theorem dX7_worstLink_105 : decode cX7_worstLink 105 = .ok (.iload 5, 2) := by decide +kernel
theorem dX7_worstLink_107 : decode cX7_worstLink 107 = .ok (.iadd, 1) := by decide +kernel
theorem dX7_worstLink_108 : decode cX7_worstLink 108 = .ok (.istore_n 2, 1) := by decide +kernel
theorem dX7_worstLink_109 : decode cX7_worstLink 109 = .ok (.iload 6, 2) := by decide +kernel
theorem dX7_worstLink_111 : decode cX7_worstLink 111 = .ok (.istore_n 3, 1) := by decide +kernel
theorem dX7_worstLink_112 : decode cX7_worstLink 112 = .ok (.iinc 5 2, 3) := by decide +kernel
theorem dX7_worstLink_115 : decode cX7_worstLink 115 = .ok (.goto (-83), 3) := by decide +kernel
theorem dX7_worstLink_118 : decode cX7_worstLink 118 = .ok (.iinc 4 1, 3) := by decide +kernel
theorem dX7_worstLink_121 : decode cX7_worstLink 121 = .ok (.goto (-101), 3) := by decide +kernel
theorem dX7_worstLink_124 : decode cX7_worstLink 124 = .ok (.iload_n 2, 1) := by decide +kernel
theorem dX7_worstLink_125 : decode cX7_worstLink 125 = .ok (.ifCond .ge 8, 3) := by decide +kernel
theorem dX7_worstLink_128 : decode cX7_worstLink 128 = .ok (.bipush (-6), 2) := by decide +kernel
theorem dX7_worstLink_130 : decode cX7_worstLink 130 = .ok (.goto 25, 3) := by decide +kernel
theorem dX7_worstLink_133 : decode cX7_worstLink 133 = .ok (.iload_n 1, 1) := by decide +kernel
theorem dX7_worstLink_134 : decode cX7_worstLink 134 = .ok (.ifCond .ne 9, 3) := by decide +kernel
theorem dX7_worstLink_137 : decode cX7_worstLink 137 = .ok (.iload_n 2, 1) := by decide +kernel
theorem dX7_worstLink_138 : decode cX7_worstLink 138 = .ok (.iconst 4, 1) := by decide +kernel
theorem dX7_worstLink_139 : decode cX7_worstLink 139 = .ok (.idiv, 1) := by decide +kernel
theorem dX7_worstLink_140 : decode cX7_worstLink 140 = .ok (.goto 15, 3) := by decide +kernel
theorem dX7_worstLink_143 : decode cX7_worstLink 143 = .ok (.iload_n 1, 1) := by decide +kernel
theorem dX7_worstLink_144 : decode cX7_worstLink 144 = .ok (.iconst 1, 1) := by decide +kernel
theorem dX7_worstLink_145 : decode cX7_worstLink 145 = .ok (.if_icmp .ne 9, 3) := by decide +kernel
theorem dX7_worstLink_148 : decode cX7_worstLink 148 = .ok (.iload_n 2, 1) := by decide +kernel
theorem dX7_worstLink_149 : decode cX7_worstLink 149 = .ok (.iconst 4, 1) := by decide +kernel
theorem dX7_worstLink_150 : decode cX7_worstLink 150 = .ok (.irem, 1) := by decide +kernel
theorem dX7_worstLink_151 : decode cX7_worstLink 151 = .ok (.goto 4, 3) := by decide +kernel
theorem dX7_worstLink_154 : decode cX7_worstLink 154 = .ok (.iload_n 3, 1) := by decide +kernel
theorem dX7_worstLink_155 : decode cX7_worstLink 155 = .ok (.ireturn, 1) := by decide +kernel
theorem dX7_busiest_0 : decode cX7_busiest 0 = .ok (.iload_n 1, 1) := by decide +kernel
theorem dX7_busiest_1 : decode cX7_busiest 1 = .ok (.iconst 0, 1) := by decide +kernel
theorem dX7_busiest_2 : decode cX7_busiest 2 = .ok (.iconst 2, 1) := by decide +kernel
theorem dX7_busiest_3 : decode cX7_busiest 3 = .ok (.invokestatic 59, 3) := by decide +kernel
theorem dX7_busiest_6 : decode cX7_busiest 6 = .ok (.ifCond .ne 6, 3) := by decide +kernel
theorem dX7_busiest_9 : decode cX7_busiest 9 = .ok (.bipush (-2), 2) := by decide +kernel
theorem dX7_busiest_11 : decode cX7_busiest 11 = .ok (.ireturn, 1) := by decide +kernel
theorem dX7_busiest_12 : decode cX7_busiest 12 = .ok (.iconst 0, 1) := by decide +kernel
theorem dX7_busiest_13 : decode cX7_busiest 13 = .ok (.istore_n 2, 1) := by decide +kernel
theorem dX7_busiest_14 : decode cX7_busiest 14 = .ok (.iconst 1, 1) := by decide +kernel
theorem dX7_busiest_15 : decode cX7_busiest 15 = .ok (.istore_n 3, 1) := by decide +kernel
theorem dX7_busiest_16 : decode cX7_busiest 16 = .ok (.iload_n 3, 1) := by decide +kernel
theorem dX7_busiest_17 : decode cX7_busiest 17 = .ok (.iconst 4, 1) := by decide +kernel
theorem dX7_busiest_18 : decode cX7_busiest 18 = .ok (.aload_n 0, 1) := by decide +kernel
theorem dX7_busiest_19 : decode cX7_busiest 19 = .ok (.invokevirtual 55, 3) := by decide +kernel
theorem dX7_busiest_22 : decode cX7_busiest 22 = .ok (.imul, 1) := by decide +kernel
theorem dX7_busiest_23 : decode cX7_busiest 23 = .ok (.if_icmp .ge 36, 3) := by decide +kernel
theorem dX7_busiest_26 : decode cX7_busiest 26 = .ok (.aload_n 0, 1) := by decide +kernel
theorem dX7_busiest_27 : decode cX7_busiest 27 = .ok (.getfield 7, 3) := by decide +kernel
theorem dX7_busiest_30 : decode cX7_busiest 30 = .ok (.bipush 60, 2) := by decide +kernel
theorem dX7_busiest_32 : decode cX7_busiest 32 = .ok (.iload_n 3, 1) := by decide +kernel
theorem dX7_busiest_33 : decode cX7_busiest 33 = .ok (.iadd, 1) := by decide +kernel
theorem dX7_busiest_34 : decode cX7_busiest 34 = .ok (.iaload, 1) := by decide +kernel
theorem dX7_busiest_35 : decode cX7_busiest 35 = .ok (.aload_n 0, 1) := by decide +kernel
theorem dX7_busiest_36 : decode cX7_busiest 36 = .ok (.getfield 7, 3) := by decide +kernel
theorem dX7_busiest_39 : decode cX7_busiest 39 = .ok (.bipush 60, 2) := by decide +kernel
theorem dX7_busiest_41 : decode cX7_busiest 41 = .ok (.iload_n 2, 1) := by decide +kernel
theorem dX7_busiest_42 : decode cX7_busiest 42 = .ok (.iadd, 1) := by decide +kernel
theorem dX7_busiest_43 : decode cX7_busiest 43 = .ok (.iaload, 1) := by decide +kernel
theorem dX7_busiest_44 : decode cX7_busiest 44 = .ok (.if_icmp .le 7, 3) := by decide +kernel
theorem dX7_busiest_47 : decode cX7_busiest 47 = .ok (.iload_n 3, 1) := by decide +kernel
theorem dX7_busiest_48 : decode cX7_busiest 48 = .ok (.goto 4, 3) := by decide +kernel
theorem dX7_busiest_51 : decode cX7_busiest 51 = .ok (.iload_n 2, 1) := by decide +kernel
theorem dX7_busiest_52 : decode cX7_busiest 52 = .ok (.istore_n 2, 1) := by decide +kernel
theorem dX7_busiest_53 : decode cX7_busiest 53 = .ok (.iinc 3 1, 3) := by decide +kernel
theorem dX7_busiest_56 : decode cX7_busiest 56 = .ok (.goto (-40), 3) := by decide +kernel
theorem dX7_busiest_59 : decode cX7_busiest 59 = .ok (.aload_n 0, 1) := by decide +kernel
theorem dX7_busiest_60 : decode cX7_busiest 60 = .ok (.getfield 7, 3) := by decide +kernel
theorem dX7_busiest_63 : decode cX7_busiest 63 = .ok (.bipush 60, 2) := by decide +kernel
theorem dX7_busiest_65 : decode cX7_busiest 65 = .ok (.iload_n 2, 1) := by decide +kernel
theorem dX7_busiest_66 : decode cX7_busiest 66 = .ok (.iadd, 1) := by decide +kernel
theorem dX7_busiest_67 : decode cX7_busiest 67 = .ok (.iaload, 1) := by decide +kernel
theorem dX7_busiest_68 : decode cX7_busiest 68 = .ok (.istore_n 3, 1) := by decide +kernel
theorem dX7_busiest_69 : decode cX7_busiest 69 = .ok (.iload_n 3, 1) := by decide +kernel
theorem dX7_busiest_70 : decode cX7_busiest 70 = .ok (.ifCond .ne 8, 3) := by decide +kernel
theorem dX7_busiest_73 : decode cX7_busiest 73 = .ok (.bipush (-6), 2) := by decide +kernel
theorem dX7_busiest_75 : decode cX7_busiest 75 = .ok (.goto 25, 3) := by decide +kernel
theorem dX7_busiest_78 : decode cX7_busiest 78 = .ok (.iload_n 1, 1) := by decide +kernel
theorem dX7_busiest_79 : decode cX7_busiest 79 = .ok (.ifCond .ne 9, 3) := by decide +kernel
theorem dX7_busiest_82 : decode cX7_busiest 82 = .ok (.iload_n 2, 1) := by decide +kernel
theorem dX7_busiest_83 : decode cX7_busiest 83 = .ok (.iconst 4, 1) := by decide +kernel
theorem dX7_busiest_84 : decode cX7_busiest 84 = .ok (.idiv, 1) := by decide +kernel
theorem dX7_busiest_85 : decode cX7_busiest 85 = .ok (.goto 15, 3) := by decide +kernel
theorem dX7_busiest_88 : decode cX7_busiest 88 = .ok (.iload_n 1, 1) := by decide +kernel
theorem dX7_busiest_89 : decode cX7_busiest 89 = .ok (.iconst 1, 1) := by decide +kernel
theorem dX7_busiest_90 : decode cX7_busiest 90 = .ok (.if_icmp .ne 9, 3) := by decide +kernel
theorem dX7_busiest_93 : decode cX7_busiest 93 = .ok (.iload_n 2, 1) := by decide +kernel
theorem dX7_busiest_94 : decode cX7_busiest 94 = .ok (.iconst 4, 1) := by decide +kernel
theorem dX7_busiest_95 : decode cX7_busiest 95 = .ok (.irem, 1) := by decide +kernel
theorem dX7_busiest_96 : decode cX7_busiest 96 = .ok (.goto 4, 3) := by decide +kernel
theorem dX7_busiest_99 : decode cX7_busiest 99 = .ok (.iload_n 3, 1) := by decide +kernel
theorem dX7_busiest_100 : decode cX7_busiest 100 = .ok (.ireturn, 1) := by decide +kernel
theorem dX7_arrivesIn_0 : decode cX7_arrivesIn 0 = .ok (.aload_n 0, 1) := by decide +kernel
theorem dX7_arrivesIn_1 : decode cX7_arrivesIn 1 = .ok (.iload_n 1, 1) := by decide +kernel
theorem dX7_arrivesIn_2 : decode cX7_arrivesIn 2 = .ok (.invokevirtual 134, 3) := by decide +kernel
theorem dX7_arrivesIn_5 : decode cX7_arrivesIn 5 = .ok (.ifCond .ne 5, 3) := by decide +kernel
theorem dX7_arrivesIn_8 : decode cX7_arrivesIn 8 = .ok (.iconst (-1), 1) := by decide +kernel
theorem dX7_arrivesIn_9 : decode cX7_arrivesIn 9 = .ok (.ireturn, 1) := by decide +kernel
theorem dX7_arrivesIn_10 : decode cX7_arrivesIn 10 = .ok (.aload_n 0, 1) := by decide +kernel
theorem dX7_arrivesIn_11 : decode cX7_arrivesIn 11 = .ok (.invokevirtual 158, 3) := by decide +kernel
theorem dX7_arrivesIn_14 : decode cX7_arrivesIn 14 = .ok (.iconst 0, 1) := by decide +kernel
theorem dX7_arrivesIn_15 : decode cX7_arrivesIn 15 = .ok (.istore_n 2, 1) := by decide +kernel
theorem dX7_arrivesIn_16 : decode cX7_arrivesIn 16 = .ok (.aload_n 0, 1) := by decide +kernel
theorem dX7_arrivesIn_17 : decode cX7_arrivesIn 17 = .ok (.iload_n 1, 1) := by decide +kernel
theorem dX7_arrivesIn_18 : decode cX7_arrivesIn 18 = .ok (.iconst 2, 1) := by decide +kernel
theorem dX7_arrivesIn_19 : decode cX7_arrivesIn 19 = .ok (.invokevirtual 98, 3) := by decide +kernel
theorem dX7_arrivesIn_22 : decode cX7_arrivesIn 22 = .ok (.iconst 2, 1) := by decide +kernel
theorem dX7_arrivesIn_23 : decode cX7_arrivesIn 23 = .ok (.if_icmp .eq 20, 3) := by decide +kernel
theorem dX7_arrivesIn_26 : decode cX7_arrivesIn 26 = .ok (.iload_n 2, 1) := by decide +kernel
theorem dX7_arrivesIn_27 : decode cX7_arrivesIn 27 = .ok (.sipush 300, 3) := by decide +kernel
theorem dX7_arrivesIn_30 : decode cX7_arrivesIn 30 = .ok (.if_icmp .ge 13, 3) := by decide +kernel
theorem dX7_arrivesIn_33 : decode cX7_arrivesIn 33 = .ok (.aload_n 0, 1) := by decide +kernel
theorem dX7_arrivesIn_34 : decode cX7_arrivesIn 34 = .ok (.invokevirtual 128, 3) := by decide +kernel
theorem dX7_arrivesIn_37 : decode cX7_arrivesIn 37 = .ok (.iinc 2 1, 3) := by decide +kernel
theorem dX7_arrivesIn_40 : decode cX7_arrivesIn 40 = .ok (.goto (-24), 3) := by decide +kernel
theorem dX7_arrivesIn_43 : decode cX7_arrivesIn 43 = .ok (.aload_n 0, 1) := by decide +kernel
theorem dX7_arrivesIn_44 : decode cX7_arrivesIn 44 = .ok (.iload_n 1, 1) := by decide +kernel
theorem dX7_arrivesIn_45 : decode cX7_arrivesIn 45 = .ok (.iconst 2, 1) := by decide +kernel
theorem dX7_arrivesIn_46 : decode cX7_arrivesIn 46 = .ok (.invokevirtual 98, 3) := by decide +kernel
theorem dX7_arrivesIn_49 : decode cX7_arrivesIn 49 = .ok (.iconst 2, 1) := by decide +kernel
theorem dX7_arrivesIn_50 : decode cX7_arrivesIn 50 = .ok (.if_icmp .ne 7, 3) := by decide +kernel
theorem dX7_arrivesIn_53 : decode cX7_arrivesIn 53 = .ok (.iload_n 2, 1) := by decide +kernel
theorem dX7_arrivesIn_54 : decode cX7_arrivesIn 54 = .ok (.goto 5, 3) := by decide +kernel
theorem dX7_arrivesIn_57 : decode cX7_arrivesIn 57 = .ok (.bipush (-6), 2) := by decide +kernel
theorem dX7_arrivesIn_59 : decode cX7_arrivesIn 59 = .ok (.istore_n 3, 1) := by decide +kernel
theorem dX7_arrivesIn_60 : decode cX7_arrivesIn 60 = .ok (.aload_n 0, 1) := by decide +kernel
theorem dX7_arrivesIn_61 : decode cX7_arrivesIn 61 = .ok (.invokevirtual 161, 3) := by decide +kernel
theorem dX7_arrivesIn_64 : decode cX7_arrivesIn 64 = .ok (.iload_n 3, 1) := by decide +kernel
theorem dX7_arrivesIn_65 : decode cX7_arrivesIn 65 = .ok (.ireturn, 1) := by decide +kernel
theorem dX7_arrivedBy_0 : decode cX7_arrivedBy 0 = .ok (.iload_n 1, 1) := by decide +kernel
theorem dX7_arrivedBy_1 : decode cX7_arrivedBy 1 = .ok (.iconst 1, 1) := by decide +kernel
theorem dX7_arrivedBy_2 : decode cX7_arrivedBy 2 = .ok (.sipush 300, 3) := by decide +kernel
theorem dX7_arrivedBy_5 : decode cX7_arrivedBy 5 = .ok (.invokestatic 59, 3) := by decide +kernel
theorem dX7_arrivedBy_8 : decode cX7_arrivedBy 8 = .ok (.ifCond .ne 6, 3) := by decide +kernel
theorem dX7_arrivedBy_11 : decode cX7_arrivedBy 11 = .ok (.bipush (-2), 2) := by decide +kernel
theorem dX7_arrivedBy_13 : decode cX7_arrivedBy 13 = .ok (.ireturn, 1) := by decide +kernel
theorem dX7_arrivedBy_14 : decode cX7_arrivedBy 14 = .ok (.aload_n 0, 1) := by decide +kernel
theorem dX7_arrivedBy_15 : decode cX7_arrivedBy 15 = .ok (.invokevirtual 158, 3) := by decide +kernel
theorem dX7_arrivedBy_18 : decode cX7_arrivedBy 18 = .ok (.iconst 0, 1) := by decide +kernel
theorem dX7_arrivedBy_19 : decode cX7_arrivedBy 19 = .ok (.istore_n 2, 1) := by decide +kernel
theorem dX7_arrivedBy_20 : decode cX7_arrivedBy 20 = .ok (.iload_n 2, 1) := by decide +kernel
theorem dX7_arrivedBy_21 : decode cX7_arrivedBy 21 = .ok (.iload_n 1, 1) := by decide +kernel
theorem dX7_arrivedBy_22 : decode cX7_arrivedBy 22 = .ok (.if_icmp .ge 13, 3) := by decide +kernel
theorem dX7_arrivedBy_25 : decode cX7_arrivedBy 25 = .ok (.aload_n 0, 1) := by decide +kernel
theorem dX7_arrivedBy_26 : decode cX7_arrivedBy 26 = .ok (.invokevirtual 128, 3) := by decide +kernel
theorem dX7_arrivedBy_29 : decode cX7_arrivedBy 29 = .ok (.iinc 2 1, 3) := by decide +kernel
theorem dX7_arrivedBy_32 : decode cX7_arrivedBy 32 = .ok (.goto (-12), 3) := by decide +kernel
theorem dX7_arrivedBy_35 : decode cX7_arrivedBy 35 = .ok (.aload_n 0, 1) := by decide +kernel
theorem dX7_arrivedBy_36 : decode cX7_arrivedBy 36 = .ok (.bipush (-6), 2) := by decide +kernel
theorem dX7_arrivedBy_38 : decode cX7_arrivedBy 38 = .ok (.iconst 2, 1) := by decide +kernel
theorem dX7_arrivedBy_39 : decode cX7_arrivedBy 39 = .ok (.invokevirtual 143, 3) := by decide +kernel
theorem dX7_arrivedBy_42 : decode cX7_arrivedBy 42 = .ok (.istore_n 2, 1) := by decide +kernel
theorem dX7_arrivedBy_43 : decode cX7_arrivedBy 43 = .ok (.aload_n 0, 1) := by decide +kernel
theorem dX7_arrivedBy_44 : decode cX7_arrivedBy 44 = .ok (.invokevirtual 161, 3) := by decide +kernel
theorem dX7_arrivedBy_47 : decode cX7_arrivedBy 47 = .ok (.iload_n 2, 1) := by decide +kernel
theorem dX7_arrivedBy_48 : decode cX7_arrivedBy 48 = .ok (.ireturn, 1) := by decide +kernel
theorem dX7_sign_0 : decode cX7_sign 0 = .ok (.aload_n 0, 1) := by decide +kernel
theorem dX7_sign_1 : decode cX7_sign 1 = .ok (.getfield 164, 3) := by decide +kernel
theorem dX7_sign_4 : decode cX7_sign 4 = .ok (.aload_n 0, 1) := by decide +kernel
theorem dX7_sign_5 : decode cX7_sign 5 = .ok (.getfield 152, 3) := by decide +kernel
theorem dX7_sign_8 : decode cX7_sign 8 = .ok (.if_icmp .ge 15, 3) := by decide +kernel
theorem dX7_sign_11 : decode cX7_sign 11 = .ok (.aload_n 0, 1) := by decide +kernel
theorem dX7_sign_12 : decode cX7_sign 12 = .ok (.getfield 26, 3) := by decide +kernel
theorem dX7_sign_15 : decode cX7_sign 15 = .ok (.aload_n 0, 1) := by decide +kernel
theorem dX7_sign_16 : decode cX7_sign 16 = .ok (.getfield 164, 3) := by decide +kernel
theorem dX7_sign_19 : decode cX7_sign 19 = .ok (.iaload, 1) := by decide +kernel
theorem dX7_sign_20 : decode cX7_sign 20 = .ok (.goto 4, 3) := by decide +kernel
theorem dX7_sign_23 : decode cX7_sign 23 = .ok (.iconst 0, 1) := by decide +kernel
theorem dX7_sign_24 : decode cX7_sign 24 = .ok (.ireturn, 1) := by decide +kernel
theorem dX7_number_0 : decode cX7_number 0 = .ok (.aload_n 0, 1) := by decide +kernel
theorem dX7_number_1 : decode cX7_number 1 = .ok (.invokevirtual 167, 3) := by decide +kernel
theorem dX7_number_4 : decode cX7_number 4 = .ok (.bipush 48, 2) := by decide +kernel
theorem dX7_number_6 : decode cX7_number 6 = .ok (.isub, 1) := by decide +kernel
theorem dX7_number_7 : decode cX7_number 7 = .ok (.istore_n 1, 1) := by decide +kernel
theorem dX7_number_8 : decode cX7_number 8 = .ok (.aload_n 0, 1) := by decide +kernel
theorem dX7_number_9 : decode cX7_number 9 = .ok (.aload_n 0, 1) := by decide +kernel
theorem dX7_number_10 : decode cX7_number 10 = .ok (.getfield 170, 3) := by decide +kernel
theorem dX7_number_13 : decode cX7_number 13 = .ok (.ifCond .ne 13, 3) := by decide +kernel
theorem dX7_number_16 : decode cX7_number 16 = .ok (.iload_n 1, 1) := by decide +kernel
theorem dX7_number_17 : decode cX7_number 17 = .ok (.iconst 0, 1) := by decide +kernel
theorem dX7_number_18 : decode cX7_number 18 = .ok (.bipush 9, 2) := by decide +kernel
theorem dX7_number_20 : decode cX7_number 20 = .ok (.invokestatic 59, 3) := by decide +kernel
theorem dX7_number_23 : decode cX7_number 23 = .ok (.ifCond .ne 7, 3) := by decide +kernel
theorem dX7_number_26 : decode cX7_number 26 = .ok (.iconst 1, 1) := by decide +kernel
theorem dX7_number_27 : decode cX7_number 27 = .ok (.goto 4, 3) := by decide +kernel
theorem dX7_number_30 : decode cX7_number 30 = .ok (.iconst 0, 1) := by decide +kernel
theorem dX7_number_31 : decode cX7_number 31 = .ok (.putfield 170, 3) := by decide +kernel
theorem dX7_number_34 : decode cX7_number 34 = .ok (.aload_n 0, 1) := by decide +kernel
theorem dX7_number_35 : decode cX7_number 35 = .ok (.getfield 170, 3) := by decide +kernel
theorem dX7_number_38 : decode cX7_number 38 = .ok (.ifCond .eq 5, 3) := by decide +kernel
theorem dX7_number_41 : decode cX7_number 41 = .ok (.iconst 0, 1) := by decide +kernel
theorem dX7_number_42 : decode cX7_number 42 = .ok (.ireturn, 1) := by decide +kernel
theorem dX7_number_43 : decode cX7_number 43 = .ok (.aload_n 0, 1) := by decide +kernel
theorem dX7_number_44 : decode cX7_number 44 = .ok (.dup, 1) := by decide +kernel
theorem dX7_number_45 : decode cX7_number 45 = .ok (.getfield 164, 3) := by decide +kernel
theorem dX7_number_48 : decode cX7_number 48 = .ok (.iconst 1, 1) := by decide +kernel
theorem dX7_number_49 : decode cX7_number 49 = .ok (.iadd, 1) := by decide +kernel
theorem dX7_number_50 : decode cX7_number 50 = .ok (.putfield 164, 3) := by decide +kernel
theorem dX7_number_53 : decode cX7_number 53 = .ok (.iload_n 1, 1) := by decide +kernel
theorem dX7_number_54 : decode cX7_number 54 = .ok (.ifCond .le 60, 3) := by decide +kernel
theorem dX7_number_57 : decode cX7_number 57 = .ok (.aload_n 0, 1) := by decide +kernel
theorem dX7_number_58 : decode cX7_number 58 = .ok (.invokevirtual 167, 3) := by decide +kernel
theorem dX7_number_61 : decode cX7_number 61 = .ok (.bipush 48, 2) := by decide +kernel
theorem dX7_number_63 : decode cX7_number 63 = .ok (.bipush 57, 2) := by decide +kernel
theorem dX7_number_65 : decode cX7_number 65 = .ok (.invokestatic 59, 3) := by decide +kernel
theorem dX7_number_68 : decode cX7_number 68 = .ok (.ifCond .eq 46, 3) := by decide +kernel
theorem dX7_number_71 : decode cX7_number 71 = .ok (.bipush 10, 2) := by decide +kernel
theorem dX7_number_73 : decode cX7_number 73 = .ok (.iload_n 1, 1) := by decide +kernel
theorem dX7_number_74 : decode cX7_number 74 = .ok (.imul, 1) := by decide +kernel
theorem dX7_number_75 : decode cX7_number 75 = .ok (.aload_n 0, 1) := by decide +kernel
theorem dX7_number_76 : decode cX7_number 76 = .ok (.invokevirtual 167, 3) := by decide +kernel
theorem dX7_number_79 : decode cX7_number 79 = .ok (.iadd, 1) := by decide +kernel
theorem dX7_number_80 : decode cX7_number 80 = .ok (.bipush 48, 2) := by decide +kernel
theorem dX7_number_82 : decode cX7_number 82 = .ok (.isub, 1) := by decide +kernel
theorem dX7_number_83 : decode cX7_number 83 = .ok (.bipush 99, 2) := by decide +kernel
theorem dX7_number_85 : decode cX7_number 85 = .ok (.if_icmp .gt 29, 3) := by decide +kernel
theorem dX7_number_88 : decode cX7_number 88 = .ok (.bipush 10, 2) := by decide +kernel
theorem dX7_number_90 : decode cX7_number 90 = .ok (.iload_n 1, 1) := by decide +kernel
theorem dX7_number_91 : decode cX7_number 91 = .ok (.imul, 1) := by decide +kernel
theorem dX7_number_92 : decode cX7_number 92 = .ok (.aload_n 0, 1) := by decide +kernel
theorem dX7_number_93 : decode cX7_number 93 = .ok (.invokevirtual 167, 3) := by decide +kernel
theorem dX7_number_96 : decode cX7_number 96 = .ok (.iadd, 1) := by decide +kernel
theorem dX7_number_97 : decode cX7_number 97 = .ok (.bipush 48, 2) := by decide +kernel
theorem dX7_number_99 : decode cX7_number 99 = .ok (.isub, 1) := by decide +kernel
theorem dX7_number_100 : decode cX7_number 100 = .ok (.istore_n 1, 1) := by decide +kernel
theorem dX7_number_101 : decode cX7_number 101 = .ok (.aload_n 0, 1) := by decide +kernel
theorem dX7_number_102 : decode cX7_number 102 = .ok (.dup, 1) := by decide +kernel
theorem dX7_number_103 : decode cX7_number 103 = .ok (.getfield 164, 3) := by decide +kernel
theorem dX7_number_106 : decode cX7_number 106 = .ok (.iconst 1, 1) := by decide +kernel
theorem dX7_number_107 : decode cX7_number 107 = .ok (.iadd, 1) := by decide +kernel
theorem dX7_number_108 : decode cX7_number 108 = .ok (.putfield 164, 3) := by decide +kernel
theorem dX7_number_111 : decode cX7_number 111 = .ok (.goto (-58), 3) := by decide +kernel
theorem dX7_number_114 : decode cX7_number 114 = .ok (.iload_n 1, 1) := by decide +kernel
theorem dX7_number_115 : decode cX7_number 115 = .ok (.ireturn, 1) := by decide +kernel
theorem dX7_side_0 : decode cX7_side 0 = .ok (.aload_n 0, 1) := by decide +kernel
theorem dX7_side_1 : decode cX7_side 1 = .ok (.invokevirtual 167, 3) := by decide +kernel
theorem dX7_side_4 : decode cX7_side 4 = .ok (.istore_n 1, 1) := by decide +kernel
theorem dX7_side_5 : decode cX7_side 5 = .ok (.iload_n 1, 1) := by decide +kernel
theorem dX7_side_6 : decode cX7_side 6 = .ok (.bipush 101, 2) := by decide +kernel
theorem dX7_side_8 : decode cX7_side 8 = .ok (.if_icmp .ne 7, 3) := by decide +kernel
theorem dX7_side_11 : decode cX7_side 11 = .ok (.iconst 0, 1) := by decide +kernel
theorem dX7_side_12 : decode cX7_side 12 = .ok (.goto 35, 3) := by decide +kernel
theorem dX7_side_15 : decode cX7_side 15 = .ok (.iload_n 1, 1) := by decide +kernel
theorem dX7_side_16 : decode cX7_side 16 = .ok (.bipush 119, 2) := by decide +kernel
theorem dX7_side_18 : decode cX7_side 18 = .ok (.if_icmp .ne 7, 3) := by decide +kernel
theorem dX7_side_21 : decode cX7_side 21 = .ok (.iconst 1, 1) := by decide +kernel
theorem dX7_side_22 : decode cX7_side 22 = .ok (.goto 25, 3) := by decide +kernel
theorem dX7_side_25 : decode cX7_side 25 = .ok (.iload_n 1, 1) := by decide +kernel
theorem dX7_side_26 : decode cX7_side 26 = .ok (.bipush 110, 2) := by decide +kernel
theorem dX7_side_28 : decode cX7_side 28 = .ok (.if_icmp .ne 7, 3) := by decide +kernel
theorem dX7_side_31 : decode cX7_side 31 = .ok (.iconst 2, 1) := by decide +kernel
theorem dX7_side_32 : decode cX7_side 32 = .ok (.goto 15, 3) := by decide +kernel
theorem dX7_side_35 : decode cX7_side 35 = .ok (.iload_n 1, 1) := by decide +kernel
theorem dX7_side_36 : decode cX7_side 36 = .ok (.bipush 115, 2) := by decide +kernel
theorem dX7_side_38 : decode cX7_side 38 = .ok (.if_icmp .ne 7, 3) := by decide +kernel
theorem dX7_side_41 : decode cX7_side 41 = .ok (.iconst 3, 1) := by decide +kernel
theorem dX7_side_42 : decode cX7_side 42 = .ok (.goto 5, 3) := by decide +kernel
theorem dX7_side_45 : decode cX7_side 45 = .ok (.bipush (-6), 2) := by decide +kernel
theorem dX7_side_47 : decode cX7_side 47 = .ok (.istore_n 2, 1) := by decide +kernel
theorem dX7_side_48 : decode cX7_side 48 = .ok (.aload_n 0, 1) := by decide +kernel
theorem dX7_side_49 : decode cX7_side 49 = .ok (.aload_n 0, 1) := by decide +kernel
theorem dX7_side_50 : decode cX7_side 50 = .ok (.getfield 170, 3) := by decide +kernel
theorem dX7_side_53 : decode cX7_side 53 = .ok (.ifCond .ne 7, 3) := by decide +kernel
theorem dX7_side_56 : decode cX7_side 56 = .ok (.iload_n 2, 1) := by decide +kernel
theorem dX7_side_57 : decode cX7_side 57 = .ok (.ifCond .ge 7, 3) := by decide +kernel
theorem dX7_side_60 : decode cX7_side 60 = .ok (.iconst 1, 1) := by decide +kernel
theorem dX7_side_61 : decode cX7_side 61 = .ok (.goto 4, 3) := by decide +kernel
theorem dX7_side_64 : decode cX7_side 64 = .ok (.iconst 0, 1) := by decide +kernel
theorem dX7_side_65 : decode cX7_side 65 = .ok (.putfield 170, 3) := by decide +kernel
theorem dX7_side_68 : decode cX7_side 68 = .ok (.aload_n 0, 1) := by decide +kernel
theorem dX7_side_69 : decode cX7_side 69 = .ok (.dup, 1) := by decide +kernel
theorem dX7_side_70 : decode cX7_side 70 = .ok (.getfield 164, 3) := by decide +kernel
theorem dX7_side_73 : decode cX7_side 73 = .ok (.aload_n 0, 1) := by decide +kernel
theorem dX7_side_74 : decode cX7_side 74 = .ok (.getfield 170, 3) := by decide +kernel
theorem dX7_side_77 : decode cX7_side 77 = .ok (.ifCond .eq 7, 3) := by decide +kernel
theorem dX7_side_80 : decode cX7_side 80 = .ok (.iconst 0, 1) := by decide +kernel
theorem dX7_side_81 : decode cX7_side 81 = .ok (.goto 4, 3) := by decide +kernel
theorem dX7_side_84 : decode cX7_side 84 = .ok (.iconst 1, 1) := by decide +kernel
theorem dX7_side_85 : decode cX7_side 85 = .ok (.iadd, 1) := by decide +kernel
theorem dX7_side_86 : decode cX7_side 86 = .ok (.putfield 164, 3) := by decide +kernel
theorem dX7_side_89 : decode cX7_side 89 = .ok (.iload_n 2, 1) := by decide +kernel
theorem dX7_side_90 : decode cX7_side 90 = .ok (.ireturn, 1) := by decide +kernel
theorem dX7_readOne_0 : decode cX7_readOne 0 = .ok (.iconst 3, 1) := by decide +kernel
theorem dX7_readOne_1 : decode cX7_readOne 1 = .ok (.aload_n 0, 1) := by decide +kernel
theorem dX7_readOne_2 : decode cX7_readOne 2 = .ok (.getfield 173, 3) := by decide +kernel
theorem dX7_readOne_5 : decode cX7_readOne 5 = .ok (.imul, 1) := by decide +kernel
theorem dX7_readOne_6 : decode cX7_readOne 6 = .ok (.istore_n 1, 1) := by decide +kernel
theorem dX7_readOne_7 : decode cX7_readOne 7 = .ok (.aload_n 0, 1) := by decide +kernel
theorem dX7_readOne_8 : decode cX7_readOne 8 = .ok (.invokevirtual 167, 3) := by decide +kernel
theorem dX7_readOne_11 : decode cX7_readOne 11 = .ok (.istore_n 2, 1) := by decide +kernel
theorem dX7_readOne_12 : decode cX7_readOne 12 = .ok (.aload_n 0, 1) := by decide +kernel
theorem dX7_readOne_13 : decode cX7_readOne 13 = .ok (.getfield 44, 3) := by decide +kernel
theorem dX7_readOne_16 : decode cX7_readOne 16 = .ok (.iload_n 1, 1) := by decide +kernel
theorem dX7_readOne_17 : decode cX7_readOne 17 = .ok (.iload_n 2, 1) := by decide +kernel
theorem dX7_readOne_18 : decode cX7_readOne 18 = .ok (.iastore, 1) := by decide +kernel
theorem dX7_readOne_19 : decode cX7_readOne 19 = .ok (.aload_n 0, 1) := by decide +kernel
theorem dX7_readOne_20 : decode cX7_readOne 20 = .ok (.iload_n 2, 1) := by decide +kernel
theorem dX7_readOne_21 : decode cX7_readOne 21 = .ok (.bipush 115, 2) := by decide +kernel
theorem dX7_readOne_23 : decode cX7_readOne 23 = .ok (.if_icmp .eq 25, 3) := by decide +kernel
theorem dX7_readOne_26 : decode cX7_readOne 26 = .ok (.iload_n 2, 1) := by decide +kernel
theorem dX7_readOne_27 : decode cX7_readOne 27 = .ok (.bipush 98, 2) := by decide +kernel
theorem dX7_readOne_29 : decode cX7_readOne 29 = .ok (.if_icmp .eq 19, 3) := by decide +kernel
theorem dX7_readOne_32 : decode cX7_readOne 32 = .ok (.iload_n 2, 1) := by decide +kernel
theorem dX7_readOne_33 : decode cX7_readOne 33 = .ok (.bipush 109, 2) := by decide +kernel
theorem dX7_readOne_35 : decode cX7_readOne 35 = .ok (.if_icmp .eq 13, 3) := by decide +kernel
theorem dX7_readOne_38 : decode cX7_readOne 38 = .ok (.iload_n 2, 1) := by decide +kernel
theorem dX7_readOne_39 : decode cX7_readOne 39 = .ok (.bipush 116, 2) := by decide +kernel
theorem dX7_readOne_41 : decode cX7_readOne 41 = .ok (.if_icmp .eq 7, 3) := by decide +kernel
theorem dX7_readOne_44 : decode cX7_readOne 44 = .ok (.iconst 1, 1) := by decide +kernel
theorem dX7_readOne_45 : decode cX7_readOne 45 = .ok (.goto 4, 3) := by decide +kernel
theorem dX7_readOne_48 : decode cX7_readOne 48 = .ok (.iconst 0, 1) := by decide +kernel
theorem dX7_readOne_49 : decode cX7_readOne 49 = .ok (.putfield 170, 3) := by decide +kernel
theorem dX7_readOne_52 : decode cX7_readOne 52 = .ok (.aload_n 0, 1) := by decide +kernel
theorem dX7_readOne_53 : decode cX7_readOne 53 = .ok (.getfield 170, 3) := by decide +kernel
theorem dX7_readOne_56 : decode cX7_readOne 56 = .ok (.ifCond .eq 4, 3) := by decide +kernel
theorem dX7_readOne_59 : decode cX7_readOne 59 = .ok (.return_, 1) := by decide +kernel
theorem dX7_readOne_60 : decode cX7_readOne 60 = .ok (.aload_n 0, 1) := by decide +kernel
theorem dX7_readOne_61 : decode cX7_readOne 61 = .ok (.dup, 1) := by decide +kernel
theorem dX7_readOne_62 : decode cX7_readOne 62 = .ok (.getfield 164, 3) := by decide +kernel
theorem dX7_readOne_65 : decode cX7_readOne 65 = .ok (.iconst 1, 1) := by decide +kernel
theorem dX7_readOne_66 : decode cX7_readOne 66 = .ok (.iadd, 1) := by decide +kernel
theorem dX7_readOne_67 : decode cX7_readOne 67 = .ok (.putfield 164, 3) := by decide +kernel
theorem dX7_readOne_70 : decode cX7_readOne 70 = .ok (.aload_n 0, 1) := by decide +kernel
theorem dX7_readOne_71 : decode cX7_readOne 71 = .ok (.getfield 44, 3) := by decide +kernel
theorem dX7_readOne_74 : decode cX7_readOne 74 = .ok (.iload_n 1, 1) := by decide +kernel
theorem dX7_readOne_75 : decode cX7_readOne 75 = .ok (.iconst 1, 1) := by decide +kernel
theorem dX7_readOne_76 : decode cX7_readOne 76 = .ok (.iadd, 1) := by decide +kernel
theorem dX7_readOne_77 : decode cX7_readOne 77 = .ok (.aload_n 0, 1) := by decide +kernel
theorem dX7_readOne_78 : decode cX7_readOne 78 = .ok (.invokevirtual 176, 3) := by decide +kernel
theorem dX7_readOne_81 : decode cX7_readOne 81 = .ok (.iastore, 1) := by decide +kernel
theorem dX7_readOne_82 : decode cX7_readOne 82 = .ok (.iload_n 2, 1) := by decide +kernel
theorem dX7_readOne_83 : decode cX7_readOne 83 = .ok (.bipush 115, 2) := by decide +kernel
theorem dX7_readOne_85 : decode cX7_readOne 85 = .ok (.if_icmp .ne 64, 3) := by decide +kernel
theorem dX7_readOne_88 : decode cX7_readOne 88 = .ok (.aload_n 0, 1) := by decide +kernel
theorem dX7_readOne_89 : decode cX7_readOne 89 = .ok (.aload_n 0, 1) := by decide +kernel
theorem dX7_readOne_90 : decode cX7_readOne 90 = .ok (.getfield 170, 3) := by decide +kernel
theorem dX7_readOne_93 : decode cX7_readOne 93 = .ok (.ifCond .ne 12, 3) := by decide +kernel
theorem dX7_readOne_96 : decode cX7_readOne 96 = .ok (.aload_n 0, 1) := by decide +kernel
theorem dX7_readOne_97 : decode cX7_readOne 97 = .ok (.invokevirtual 167, 3) := by decide +kernel
theorem dX7_readOne_100 : decode cX7_readOne 100 = .ok (.bipush 62, 2) := by decide +kernel
theorem dX7_readOne_102 : decode cX7_readOne 102 = .ok (.if_icmp .eq 7, 3) := by decide +kernel
theorem dX7_readOne_105 : decode cX7_readOne 105 = .ok (.iconst 1, 1) := by decide +kernel
theorem dX7_readOne_106 : decode cX7_readOne 106 = .ok (.goto 4, 3) := by decide +kernel
theorem dX7_readOne_109 : decode cX7_readOne 109 = .ok (.iconst 0, 1) := by decide +kernel
theorem dX7_readOne_110 : decode cX7_readOne 110 = .ok (.putfield 170, 3) := by decide +kernel
theorem dX7_readOne_113 : decode cX7_readOne 113 = .ok (.aload_n 0, 1) := by decide +kernel
theorem dX7_readOne_114 : decode cX7_readOne 114 = .ok (.dup, 1) := by decide +kernel
theorem dX7_readOne_115 : decode cX7_readOne 115 = .ok (.getfield 164, 3) := by decide +kernel
theorem dX7_readOne_118 : decode cX7_readOne 118 = .ok (.aload_n 0, 1) := by decide +kernel
theorem dX7_readOne_119 : decode cX7_readOne 119 = .ok (.getfield 170, 3) := by decide +kernel
theorem dX7_readOne_122 : decode cX7_readOne 122 = .ok (.ifCond .eq 7, 3) := by decide +kernel
theorem dX7_readOne_125 : decode cX7_readOne 125 = .ok (.iconst 0, 1) := by decide +kernel
theorem dX7_readOne_126 : decode cX7_readOne 126 = .ok (.goto 4, 3) := by decide +kernel
theorem dX7_readOne_129 : decode cX7_readOne 129 = .ok (.iconst 1, 1) := by decide +kernel
theorem dX7_readOne_130 : decode cX7_readOne 130 = .ok (.iadd, 1) := by decide +kernel
theorem dX7_readOne_131 : decode cX7_readOne 131 = .ok (.putfield 164, 3) := by decide +kernel
theorem dX7_readOne_134 : decode cX7_readOne 134 = .ok (.aload_n 0, 1) := by decide +kernel
theorem dX7_readOne_135 : decode cX7_readOne 135 = .ok (.getfield 44, 3) := by decide +kernel
theorem dX7_readOne_138 : decode cX7_readOne 138 = .ok (.iload_n 1, 1) := by decide +kernel
theorem dX7_readOne_139 : decode cX7_readOne 139 = .ok (.iconst 2, 1) := by decide +kernel
theorem dX7_readOne_140 : decode cX7_readOne 140 = .ok (.iadd, 1) := by decide +kernel
theorem dX7_readOne_141 : decode cX7_readOne 141 = .ok (.aload_n 0, 1) := by decide +kernel
theorem dX7_readOne_142 : decode cX7_readOne 142 = .ok (.invokevirtual 176, 3) := by decide +kernel
theorem dX7_readOne_145 : decode cX7_readOne 145 = .ok (.iastore, 1) := by decide +kernel
theorem dX7_readOne_146 : decode cX7_readOne 146 = .ok (.goto 21, 3) := by decide +kernel
theorem dX7_readOne_149 : decode cX7_readOne 149 = .ok (.iload_n 2, 1) := by decide +kernel
theorem dX7_readOne_150 : decode cX7_readOne 150 = .ok (.bipush 116, 2) := by decide +kernel
theorem dX7_readOne_152 : decode cX7_readOne 152 = .ok (.if_icmp .eq 15, 3) := by decide +kernel
theorem dX7_readOne_155 : decode cX7_readOne 155 = .ok (.aload_n 0, 1) := by decide +kernel
theorem dX7_readOne_156 : decode cX7_readOne 156 = .ok (.getfield 44, 3) := by decide +kernel
theorem dX7_readOne_159 : decode cX7_readOne 159 = .ok (.iload_n 1, 1) := by decide +kernel
theorem dX7_readOne_160 : decode cX7_readOne 160 = .ok (.iconst 2, 1) := by decide +kernel
theorem dX7_readOne_161 : decode cX7_readOne 161 = .ok (.iadd, 1) := by decide +kernel
theorem dX7_readOne_162 : decode cX7_readOne 162 = .ok (.aload_n 0, 1) := by decide +kernel
theorem dX7_readOne_163 : decode cX7_readOne 163 = .ok (.invokevirtual 179, 3) := by decide +kernel
theorem dX7_readOne_166 : decode cX7_readOne 166 = .ok (.iastore, 1) := by decide +kernel
theorem dX7_readOne_167 : decode cX7_readOne 167 = .ok (.aload_n 0, 1) := by decide +kernel
theorem dX7_readOne_168 : decode cX7_readOne 168 = .ok (.dup, 1) := by decide +kernel
theorem dX7_readOne_169 : decode cX7_readOne 169 = .ok (.getfield 173, 3) := by decide +kernel
theorem dX7_readOne_172 : decode cX7_readOne 172 = .ok (.iconst 1, 1) := by decide +kernel
theorem dX7_readOne_173 : decode cX7_readOne 173 = .ok (.iadd, 1) := by decide +kernel
theorem dX7_readOne_174 : decode cX7_readOne 174 = .ok (.putfield 173, 3) := by decide +kernel
theorem dX7_readOne_177 : decode cX7_readOne 177 = .ok (.return_, 1) := by decide +kernel
theorem dX7_faultOf_0 : decode cX7_faultOf 0 = .ok (.aload_n 0, 1) := by decide +kernel
theorem dX7_faultOf_1 : decode cX7_faultOf 1 = .ok (.iconst 0, 1) := by decide +kernel
theorem dX7_faultOf_2 : decode cX7_faultOf 2 = .ok (.putfield 164, 3) := by decide +kernel
theorem dX7_faultOf_5 : decode cX7_faultOf 5 = .ok (.aload_n 0, 1) := by decide +kernel
theorem dX7_faultOf_6 : decode cX7_faultOf 6 = .ok (.iconst 0, 1) := by decide +kernel
theorem dX7_faultOf_7 : decode cX7_faultOf 7 = .ok (.putfield 173, 3) := by decide +kernel
theorem dX7_faultOf_10 : decode cX7_faultOf 10 = .ok (.aload_n 0, 1) := by decide +kernel
theorem dX7_faultOf_11 : decode cX7_faultOf 11 = .ok (.iconst 0, 1) := by decide +kernel
theorem dX7_faultOf_12 : decode cX7_faultOf 12 = .ok (.putfield 170, 3) := by decide +kernel
theorem dX7_faultOf_15 : decode cX7_faultOf 15 = .ok (.aload_n 0, 1) := by decide +kernel
theorem dX7_faultOf_16 : decode cX7_faultOf 16 = .ok (.invokevirtual 182, 3) := by decide +kernel
theorem dX7_faultOf_19 : decode cX7_faultOf 19 = .ok (.aload_n 0, 1) := by decide +kernel
theorem dX7_faultOf_20 : decode cX7_faultOf 20 = .ok (.getfield 170, 3) := by decide +kernel
theorem dX7_faultOf_23 : decode cX7_faultOf 23 = .ok (.ifCond .ne 56, 3) := by decide +kernel
theorem dX7_faultOf_26 : decode cX7_faultOf 26 = .ok (.aload_n 0, 1) := by decide +kernel
theorem dX7_faultOf_27 : decode cX7_faultOf 27 = .ok (.getfield 164, 3) := by decide +kernel
theorem dX7_faultOf_30 : decode cX7_faultOf 30 = .ok (.aload_n 0, 1) := by decide +kernel
theorem dX7_faultOf_31 : decode cX7_faultOf 31 = .ok (.getfield 152, 3) := by decide +kernel
theorem dX7_faultOf_34 : decode cX7_faultOf 34 = .ok (.if_icmp .ge 45, 3) := by decide +kernel
theorem dX7_faultOf_37 : decode cX7_faultOf 37 = .ok (.aload_n 0, 1) := by decide +kernel
theorem dX7_faultOf_38 : decode cX7_faultOf 38 = .ok (.aload_n 0, 1) := by decide +kernel
theorem dX7_faultOf_39 : decode cX7_faultOf 39 = .ok (.invokevirtual 167, 3) := by decide +kernel
theorem dX7_faultOf_42 : decode cX7_faultOf 42 = .ok (.bipush 59, 2) := by decide +kernel
theorem dX7_faultOf_44 : decode cX7_faultOf 44 = .ok (.if_icmp .eq 7, 3) := by decide +kernel
theorem dX7_faultOf_47 : decode cX7_faultOf 47 = .ok (.iconst 1, 1) := by decide +kernel
theorem dX7_faultOf_48 : decode cX7_faultOf 48 = .ok (.goto 4, 3) := by decide +kernel
theorem dX7_faultOf_51 : decode cX7_faultOf 51 = .ok (.iconst 0, 1) := by decide +kernel
theorem dX7_faultOf_52 : decode cX7_faultOf 52 = .ok (.putfield 170, 3) := by decide +kernel
theorem dX7_faultOf_55 : decode cX7_faultOf 55 = .ok (.aload_n 0, 1) := by decide +kernel
theorem dX7_faultOf_56 : decode cX7_faultOf 56 = .ok (.getfield 170, 3) := by decide +kernel
theorem dX7_faultOf_59 : decode cX7_faultOf 59 = .ok (.ifCond .ne (-40), 3) := by decide +kernel
theorem dX7_faultOf_62 : decode cX7_faultOf 62 = .ok (.aload_n 0, 1) := by decide +kernel
theorem dX7_faultOf_63 : decode cX7_faultOf 63 = .ok (.dup, 1) := by decide +kernel
theorem dX7_faultOf_64 : decode cX7_faultOf 64 = .ok (.getfield 164, 3) := by decide +kernel
theorem dX7_faultOf_67 : decode cX7_faultOf 67 = .ok (.iconst 1, 1) := by decide +kernel
theorem dX7_faultOf_68 : decode cX7_faultOf 68 = .ok (.iadd, 1) := by decide +kernel
theorem dX7_faultOf_69 : decode cX7_faultOf 69 = .ok (.putfield 164, 3) := by decide +kernel
theorem dX7_faultOf_72 : decode cX7_faultOf 72 = .ok (.aload_n 0, 1) := by decide +kernel
theorem dX7_faultOf_73 : decode cX7_faultOf 73 = .ok (.invokevirtual 182, 3) := by decide +kernel
theorem dX7_faultOf_76 : decode cX7_faultOf 76 = .ok (.goto (-57), 3) := by decide +kernel
theorem dX7_faultOf_79 : decode cX7_faultOf 79 = .ok (.aload_n 0, 1) := by decide +kernel
theorem dX7_faultOf_80 : decode cX7_faultOf 80 = .ok (.getfield 170, 3) := by decide +kernel
theorem dX7_faultOf_83 : decode cX7_faultOf 83 = .ok (.ifCond .eq 10, 3) := by decide +kernel
theorem dX7_faultOf_86 : decode cX7_faultOf 86 = .ok (.aload_n 0, 1) := by decide +kernel
theorem dX7_faultOf_87 : decode cX7_faultOf 87 = .ok (.getfield 164, 3) := by decide +kernel
theorem dX7_faultOf_90 : decode cX7_faultOf 90 = .ok (.goto 5, 3) := by decide +kernel
theorem dX7_faultOf_93 : decode cX7_faultOf 93 = .ok (.bipush (-6), 2) := by decide +kernel
theorem dX7_faultOf_95 : decode cX7_faultOf 95 = .ok (.ireturn, 1) := by decide +kernel
theorem dX7_put_0 : decode cX7_put 0 = .ok (.iconst 0, 1) := by decide +kernel
theorem dX7_put_1 : decode cX7_put 1 = .ok (.istore_n 3, 1) := by decide +kernel
theorem dX7_put_2 : decode cX7_put 2 = .ok (.lload_n 1, 1) := by decide +kernel
theorem dX7_put_3 : decode cX7_put 3 = .ok (.lstore 4, 2) := by decide +kernel
theorem dX7_put_5 : decode cX7_put 5 = .ok (.lload 4, 2) := by decide +kernel
theorem dX7_put_7 : decode cX7_put 7 = .ok (.ldc2_w 185, 3) := by decide +kernel
theorem dX7_put_10 : decode cX7_put 10 = .ok (.land, 1) := by decide +kernel
theorem dX7_put_11 : decode cX7_put 11 = .ok (.lconst 0, 1) := by decide +kernel
theorem dX7_put_12 : decode cX7_put 12 = .ok (.lcmp, 1) := by decide +kernel
theorem dX7_put_13 : decode cX7_put 13 = .ok (.ifCond .eq 36, 3) := by decide +kernel
theorem dX7_put_16 : decode cX7_put 16 = .ok (.lload 4, 2) := by decide +kernel
theorem dX7_put_18 : decode cX7_put 18 = .ok (.ldc2_w 185, 3) := by decide +kernel
theorem dX7_put_21 : decode cX7_put 21 = .ok (.land, 1) := by decide +kernel
theorem dX7_put_22 : decode cX7_put 22 = .ok (.l2i, 1) := by decide +kernel
theorem dX7_put_23 : decode cX7_put 23 = .ok (.bipush 33, 2) := by decide +kernel
theorem dX7_put_25 : decode cX7_put 25 = .ok (.bipush 126, 2) := by decide +kernel
theorem dX7_put_27 : decode cX7_put 27 = .ok (.invokestatic 59, 3) := by decide +kernel
theorem dX7_put_30 : decode cX7_put 30 = .ok (.ifCond .ne 6, 3) := by decide +kernel
theorem dX7_put_33 : decode cX7_put 33 = .ok (.bipush (-2), 2) := by decide +kernel
theorem dX7_put_35 : decode cX7_put 35 = .ok (.ireturn, 1) := by decide +kernel
theorem dX7_put_36 : decode cX7_put 36 = .ok (.iinc 3 1, 3) := by decide +kernel
theorem dX7_put_39 : decode cX7_put 39 = .ok (.lload 4, 2) := by decide +kernel
theorem dX7_put_41 : decode cX7_put 41 = .ok (.bipush 8, 2) := by decide +kernel
theorem dX7_put_43 : decode cX7_put 43 = .ok (.lushr, 1) := by decide +kernel
theorem dX7_put_44 : decode cX7_put 44 = .ok (.lstore 4, 2) := by decide +kernel
theorem dX7_put_46 : decode cX7_put 46 = .ok (.goto (-41), 3) := by decide +kernel
theorem dX7_put_49 : decode cX7_put 49 = .ok (.lload 4, 2) := by decide +kernel
theorem dX7_put_51 : decode cX7_put 51 = .ok (.lconst 0, 1) := by decide +kernel
theorem dX7_put_52 : decode cX7_put 52 = .ok (.lcmp, 1) := by decide +kernel
theorem dX7_put_53 : decode cX7_put 53 = .ok (.ifCond .ne 7, 3) := by decide +kernel
theorem dX7_put_56 : decode cX7_put 56 = .ok (.iload_n 3, 1) := by decide +kernel
theorem dX7_put_57 : decode cX7_put 57 = .ok (.ifCond .ne 6, 3) := by decide +kernel
theorem dX7_put_60 : decode cX7_put 60 = .ok (.bipush (-2), 2) := by decide +kernel
theorem dX7_put_62 : decode cX7_put 62 = .ok (.ireturn, 1) := by decide +kernel
theorem dX7_put_63 : decode cX7_put 63 = .ok (.aload_n 0, 1) := by decide +kernel
theorem dX7_put_64 : decode cX7_put 64 = .ok (.getfield 152, 3) := by decide +kernel
theorem dX7_put_67 : decode cX7_put 67 = .ok (.iload_n 3, 1) := by decide +kernel
theorem dX7_put_68 : decode cX7_put 68 = .ok (.iadd, 1) := by decide +kernel
theorem dX7_put_69 : decode cX7_put 69 = .ok (.bipush 80, 2) := by decide +kernel
theorem dX7_put_71 : decode cX7_put 71 = .ok (.if_icmp .le 6, 3) := by decide +kernel
theorem dX7_put_74 : decode cX7_put 74 = .ok (.bipush (-4), 2) := by decide +kernel
theorem dX7_put_76 : decode cX7_put 76 = .ok (.ireturn, 1) := by decide +kernel
theorem dX7_put_77 : decode cX7_put 77 = .ok (.lload_n 1, 1) := by decide +kernel
theorem dX7_put_78 : decode cX7_put 78 = .ok (.lstore 4, 2) := by decide +kernel
theorem dX7_put_80 : decode cX7_put 80 = .ok (.iload_n 3, 1) := by decide +kernel
theorem dX7_put_81 : decode cX7_put 81 = .ok (.iconst 1, 1) := by decide +kernel
theorem dX7_put_82 : decode cX7_put 82 = .ok (.isub, 1) := by decide +kernel
theorem dX7_put_83 : decode cX7_put 83 = .ok (.istore 6, 2) := by decide +kernel
theorem dX7_put_85 : decode cX7_put 85 = .ok (.iload 6, 2) := by decide +kernel
theorem dX7_put_87 : decode cX7_put 87 = .ok (.ifCond .lt 35, 3) := by decide +kernel
theorem dX7_put_90 : decode cX7_put 90 = .ok (.aload_n 0, 1) := by decide +kernel
theorem dX7_put_91 : decode cX7_put 91 = .ok (.getfield 26, 3) := by decide +kernel
theorem dX7_put_94 : decode cX7_put 94 = .ok (.aload_n 0, 1) := by decide +kernel
theorem dX7_put_95 : decode cX7_put 95 = .ok (.getfield 152, 3) := by decide +kernel
theorem dX7_put_98 : decode cX7_put 98 = .ok (.iload 6, 2) := by decide +kernel
theorem dX7_put_100 : decode cX7_put 100 = .ok (.iadd, 1) := by decide +kernel
theorem dX7_put_101 : decode cX7_put 101 = .ok (.lload 4, 2) := by decide +kernel
theorem dX7_put_103 : decode cX7_put 103 = .ok (.ldc2_w 185, 3) := by decide +kernel
theorem dX7_put_106 : decode cX7_put 106 = .ok (.land, 1) := by decide +kernel
theorem dX7_put_107 : decode cX7_put 107 = .ok (.l2i, 1) := by decide +kernel
theorem dX7_put_108 : decode cX7_put 108 = .ok (.iastore, 1) := by decide +kernel
theorem dX7_put_109 : decode cX7_put 109 = .ok (.lload 4, 2) := by decide +kernel
theorem dX7_put_111 : decode cX7_put 111 = .ok (.bipush 8, 2) := by decide +kernel
theorem dX7_put_113 : decode cX7_put 113 = .ok (.lushr, 1) := by decide +kernel
theorem dX7_put_114 : decode cX7_put 114 = .ok (.lstore 4, 2) := by decide +kernel
theorem dX7_put_116 : decode cX7_put 116 = .ok (.iinc 6 (-1), 3) := by decide +kernel
theorem dX7_put_119 : decode cX7_put 119 = .ok (.goto (-34), 3) := by decide +kernel
theorem dX7_put_122 : decode cX7_put 122 = .ok (.aload_n 0, 1) := by decide +kernel
theorem dX7_put_123 : decode cX7_put 123 = .ok (.dup, 1) := by decide +kernel
theorem dX7_put_124 : decode cX7_put 124 = .ok (.getfield 152, 3) := by decide +kernel
theorem dX7_put_127 : decode cX7_put 127 = .ok (.iload_n 3, 1) := by decide +kernel
theorem dX7_put_128 : decode cX7_put 128 = .ok (.iadd, 1) := by decide +kernel
theorem dX7_put_129 : decode cX7_put 129 = .ok (.putfield 152, 3) := by decide +kernel
theorem dX7_put_132 : decode cX7_put 132 = .ok (.aload_n 0, 1) := by decide +kernel
theorem dX7_put_133 : decode cX7_put 133 = .ok (.getfield 152, 3) := by decide +kernel
theorem dX7_put_136 : decode cX7_put 136 = .ok (.ireturn, 1) := by decide +kernel
theorem dX7_wipe_0 : decode cX7_wipe 0 = .ok (.aload_n 0, 1) := by decide +kernel
theorem dX7_wipe_1 : decode cX7_wipe 1 = .ok (.getfield 152, 3) := by decide +kernel
theorem dX7_wipe_4 : decode cX7_wipe 4 = .ok (.istore_n 1, 1) := by decide +kernel
theorem dX7_wipe_5 : decode cX7_wipe 5 = .ok (.aload_n 0, 1) := by decide +kernel
theorem dX7_wipe_6 : decode cX7_wipe 6 = .ok (.iconst 0, 1) := by decide +kernel
theorem dX7_wipe_7 : decode cX7_wipe 7 = .ok (.putfield 152, 3) := by decide +kernel
theorem dX7_wipe_10 : decode cX7_wipe 10 = .ok (.iload_n 1, 1) := by decide +kernel
theorem dX7_wipe_11 : decode cX7_wipe 11 = .ok (.ireturn, 1) := by decide +kernel
theorem dX7_fault_0 : decode cX7_fault 0 = .ok (.aload_n 0, 1) := by decide +kernel
theorem dX7_fault_1 : decode cX7_fault 1 = .ok (.invokevirtual 187, 3) := by decide +kernel
theorem dX7_fault_4 : decode cX7_fault 4 = .ok (.ireturn, 1) := by decide +kernel
theorem dX7_carry_0 : decode cX7_carry 0 = .ok (.aload_n 0, 1) := by decide +kernel
theorem dX7_carry_1 : decode cX7_carry 1 = .ok (.getfield 44, 3) := by decide +kernel
theorem dX7_carry_4 : decode cX7_carry 4 = .ok (.iload_n 1, 1) := by decide +kernel
theorem dX7_carry_5 : decode cX7_carry 5 = .ok (.iconst 1, 1) := by decide +kernel
theorem dX7_carry_6 : decode cX7_carry 6 = .ok (.iadd, 1) := by decide +kernel
theorem dX7_carry_7 : decode cX7_carry 7 = .ok (.iaload, 1) := by decide +kernel
theorem dX7_carry_8 : decode cX7_carry 8 = .ok (.istore_n 2, 1) := by decide +kernel
theorem dX7_carry_9 : decode cX7_carry 9 = .ok (.aload_n 0, 1) := by decide +kernel
theorem dX7_carry_10 : decode cX7_carry 10 = .ok (.getfield 44, 3) := by decide +kernel
theorem dX7_carry_13 : decode cX7_carry 13 = .ok (.iload_n 1, 1) := by decide +kernel
theorem dX7_carry_14 : decode cX7_carry 14 = .ok (.iconst 2, 1) := by decide +kernel
theorem dX7_carry_15 : decode cX7_carry 15 = .ok (.iadd, 1) := by decide +kernel
theorem dX7_carry_16 : decode cX7_carry 16 = .ok (.iaload, 1) := by decide +kernel
theorem dX7_carry_17 : decode cX7_carry 17 = .ok (.istore_n 3, 1) := by decide +kernel
theorem dX7_carry_18 : decode cX7_carry 18 = .ok (.aload_n 0, 1) := by decide +kernel
theorem dX7_carry_19 : decode cX7_carry 19 = .ok (.getfield 44, 3) := by decide +kernel
theorem dX7_carry_22 : decode cX7_carry 22 = .ok (.iload_n 1, 1) := by decide +kernel
theorem dX7_carry_23 : decode cX7_carry 23 = .ok (.iaload, 1) := by decide +kernel
theorem dX7_carry_24 : decode cX7_carry 24 = .ok (.lookupswitch 59 #[(98, 43), (109, 51), (115, 36)], 36) := by decide +kernel
theorem dX7_carry_60 : decode cX7_carry 60 = .ok (.aload_n 0, 1) := by decide +kernel
theorem dX7_carry_61 : decode cX7_carry 61 = .ok (.iload_n 2, 1) := by decide +kernel
theorem dX7_carry_62 : decode cX7_carry 62 = .ok (.iload_n 3, 1) := by decide +kernel
theorem dX7_carry_63 : decode cX7_carry 63 = .ok (.invokevirtual 190, 3) := by decide +kernel
theorem dX7_carry_66 : decode cX7_carry 66 = .ok (.ireturn, 1) := by decide +kernel
theorem dX7_carry_67 : decode cX7_carry 67 = .ok (.aload_n 0, 1) := by decide +kernel
theorem dX7_carry_68 : decode cX7_carry 68 = .ok (.iload_n 2, 1) := by decide +kernel
theorem dX7_carry_69 : decode cX7_carry 69 = .ok (.iload_n 3, 1) := by decide +kernel
theorem dX7_carry_70 : decode cX7_carry 70 = .ok (.iconst 0, 1) := by decide +kernel
theorem dX7_carry_71 : decode cX7_carry 71 = .ok (.invokevirtual 193, 3) := by decide +kernel
theorem dX7_carry_74 : decode cX7_carry 74 = .ok (.ireturn, 1) := by decide +kernel
theorem dX7_carry_75 : decode cX7_carry 75 = .ok (.aload_n 0, 1) := by decide +kernel
theorem dX7_carry_76 : decode cX7_carry 76 = .ok (.iload_n 2, 1) := by decide +kernel
theorem dX7_carry_77 : decode cX7_carry 77 = .ok (.iload_n 3, 1) := by decide +kernel
theorem dX7_carry_78 : decode cX7_carry 78 = .ok (.iconst 1, 1) := by decide +kernel
theorem dX7_carry_79 : decode cX7_carry 79 = .ok (.invokevirtual 193, 3) := by decide +kernel
theorem dX7_carry_82 : decode cX7_carry 82 = .ok (.ireturn, 1) := by decide +kernel
theorem dX7_carry_83 : decode cX7_carry 83 = .ok (.aload_n 0, 1) := by decide +kernel
theorem dX7_carry_84 : decode cX7_carry 84 = .ok (.iload_n 2, 1) := by decide +kernel
theorem dX7_carry_85 : decode cX7_carry 85 = .ok (.invokevirtual 196, 3) := by decide +kernel
theorem dX7_carry_88 : decode cX7_carry 88 = .ok (.ireturn, 1) := by decide +kernel
theorem dX7_carryOut_0 : decode cX7_carryOut 0 = .ok (.aload_n 0, 1) := by decide +kernel
theorem dX7_carryOut_1 : decode cX7_carryOut 1 = .ok (.invokevirtual 187, 3) := by decide +kernel
theorem dX7_carryOut_4 : decode cX7_carryOut 4 = .ok (.bipush (-6), 2) := by decide +kernel
theorem dX7_carryOut_6 : decode cX7_carryOut 6 = .ok (.if_icmp .eq 6, 3) := by decide +kernel
theorem dX7_carryOut_9 : decode cX7_carryOut 9 = .ok (.bipush (-3), 2) := by decide +kernel
theorem dX7_carryOut_11 : decode cX7_carryOut 11 = .ok (.ireturn, 1) := by decide +kernel
theorem dX7_carryOut_12 : decode cX7_carryOut 12 = .ok (.aload_n 0, 1) := by decide +kernel
theorem dX7_carryOut_13 : decode cX7_carryOut 13 = .ok (.invokevirtual 70, 3) := by decide +kernel
theorem dX7_carryOut_16 : decode cX7_carryOut 16 = .ok (.aload_n 0, 1) := by decide +kernel
theorem dX7_carryOut_17 : decode cX7_carryOut 17 = .ok (.iconst 1, 1) := by decide +kernel
theorem dX7_carryOut_18 : decode cX7_carryOut 18 = .ok (.putfield 47, 3) := by decide +kernel
theorem dX7_carryOut_21 : decode cX7_carryOut 21 = .ok (.iconst 0, 1) := by decide +kernel
theorem dX7_carryOut_22 : decode cX7_carryOut 22 = .ok (.istore_n 1, 1) := by decide +kernel
theorem dX7_carryOut_23 : decode cX7_carryOut 23 = .ok (.iload_n 1, 1) := by decide +kernel
theorem dX7_carryOut_24 : decode cX7_carryOut 24 = .ok (.aload_n 0, 1) := by decide +kernel
theorem dX7_carryOut_25 : decode cX7_carryOut 25 = .ok (.getfield 173, 3) := by decide +kernel
theorem dX7_carryOut_28 : decode cX7_carryOut 28 = .ok (.if_icmp .ge 19, 3) := by decide +kernel
theorem dX7_carryOut_31 : decode cX7_carryOut 31 = .ok (.aload_n 0, 1) := by decide +kernel
theorem dX7_carryOut_32 : decode cX7_carryOut 32 = .ok (.iconst 3, 1) := by decide +kernel
theorem dX7_carryOut_33 : decode cX7_carryOut 33 = .ok (.iload_n 1, 1) := by decide +kernel
theorem dX7_carryOut_34 : decode cX7_carryOut 34 = .ok (.imul, 1) := by decide +kernel
theorem dX7_carryOut_35 : decode cX7_carryOut 35 = .ok (.invokevirtual 199, 3) := by decide +kernel
theorem dX7_carryOut_38 : decode cX7_carryOut 38 = .ok (.ifCond .lt 9, 3) := by decide +kernel
theorem dX7_carryOut_41 : decode cX7_carryOut 41 = .ok (.iinc 1 1, 3) := by decide +kernel
theorem dX7_carryOut_44 : decode cX7_carryOut 44 = .ok (.goto (-21), 3) := by decide +kernel
theorem dX7_carryOut_47 : decode cX7_carryOut 47 = .ok (.aload_n 0, 1) := by decide +kernel
theorem dX7_carryOut_48 : decode cX7_carryOut 48 = .ok (.iconst 0, 1) := by decide +kernel
theorem dX7_carryOut_49 : decode cX7_carryOut 49 = .ok (.putfield 47, 3) := by decide +kernel
theorem dX7_carryOut_52 : decode cX7_carryOut 52 = .ok (.aload_n 0, 1) := by decide +kernel
theorem dX7_carryOut_53 : decode cX7_carryOut 53 = .ok (.iconst 0, 1) := by decide +kernel
theorem dX7_carryOut_54 : decode cX7_carryOut 54 = .ok (.putfield 152, 3) := by decide +kernel
theorem dX7_carryOut_57 : decode cX7_carryOut 57 = .ok (.iload_n 1, 1) := by decide +kernel
theorem dX7_carryOut_58 : decode cX7_carryOut 58 = .ok (.ireturn, 1) := by decide +kernel
theorem dX7_undo_0 : decode cX7_undo 0 = .ok (.aload_n 0, 1) := by decide +kernel
theorem dX7_undo_1 : decode cX7_undo 1 = .ok (.getfield 51, 3) := by decide +kernel
theorem dX7_undo_4 : decode cX7_undo 4 = .ok (.ifCond .ne 6, 3) := by decide +kernel
theorem dX7_undo_7 : decode cX7_undo 7 = .ok (.bipush (-5), 2) := by decide +kernel
theorem dX7_undo_9 : decode cX7_undo 9 = .ok (.ireturn, 1) := by decide +kernel
theorem dX7_undo_10 : decode cX7_undo 10 = .ok (.aload_n 0, 1) := by decide +kernel
theorem dX7_undo_11 : decode cX7_undo 11 = .ok (.dup, 1) := by decide +kernel
theorem dX7_undo_12 : decode cX7_undo 12 = .ok (.getfield 51, 3) := by decide +kernel
theorem dX7_undo_15 : decode cX7_undo 15 = .ok (.iconst 1, 1) := by decide +kernel
theorem dX7_undo_16 : decode cX7_undo 16 = .ok (.isub, 1) := by decide +kernel
theorem dX7_undo_17 : decode cX7_undo 17 = .ok (.putfield 51, 3) := by decide +kernel
theorem dX7_undo_20 : decode cX7_undo 20 = .ok (.iconst 0, 1) := by decide +kernel
theorem dX7_undo_21 : decode cX7_undo 21 = .ok (.istore_n 1, 1) := by decide +kernel
theorem dX7_undo_22 : decode cX7_undo 22 = .ok (.iload_n 1, 1) := by decide +kernel
theorem dX7_undo_23 : decode cX7_undo 23 = .ok (.sipush 560, 3) := by decide +kernel
theorem dX7_undo_26 : decode cX7_undo 26 = .ok (.if_icmp .ge 30, 3) := by decide +kernel
theorem dX7_undo_29 : decode cX7_undo 29 = .ok (.aload_n 0, 1) := by decide +kernel
theorem dX7_undo_30 : decode cX7_undo 30 = .ok (.getfield 7, 3) := by decide +kernel
theorem dX7_undo_33 : decode cX7_undo 33 = .ok (.iload_n 1, 1) := by decide +kernel
theorem dX7_undo_34 : decode cX7_undo 34 = .ok (.aload_n 0, 1) := by decide +kernel
theorem dX7_undo_35 : decode cX7_undo 35 = .ok (.getfield 16, 3) := by decide +kernel
theorem dX7_undo_38 : decode cX7_undo 38 = .ok (.aload_n 0, 1) := by decide +kernel
theorem dX7_undo_39 : decode cX7_undo 39 = .ok (.getfield 51, 3) := by decide +kernel
theorem dX7_undo_42 : decode cX7_undo 42 = .ok (.sipush 560, 3) := by decide +kernel
theorem dX7_undo_45 : decode cX7_undo 45 = .ok (.imul, 1) := by decide +kernel
theorem dX7_undo_46 : decode cX7_undo 46 = .ok (.iload_n 1, 1) := by decide +kernel
theorem dX7_undo_47 : decode cX7_undo 47 = .ok (.iadd, 1) := by decide +kernel
theorem dX7_undo_48 : decode cX7_undo 48 = .ok (.iaload, 1) := by decide +kernel
theorem dX7_undo_49 : decode cX7_undo 49 = .ok (.iastore, 1) := by decide +kernel
theorem dX7_undo_50 : decode cX7_undo 50 = .ok (.iinc 1 1, 3) := by decide +kernel
theorem dX7_undo_53 : decode cX7_undo 53 = .ok (.goto (-31), 3) := by decide +kernel
theorem dX7_undo_56 : decode cX7_undo 56 = .ok (.aload_n 0, 1) := by decide +kernel
theorem dX7_undo_57 : decode cX7_undo 57 = .ok (.invokevirtual 73, 3) := by decide +kernel
theorem dX7_undo_60 : decode cX7_undo 60 = .ok (.aload_n 0, 1) := by decide +kernel
theorem dX7_undo_61 : decode cX7_undo 61 = .ok (.getfield 51, 3) := by decide +kernel
theorem dX7_undo_64 : decode cX7_undo 64 = .ok (.ireturn, 1) := by decide +kernel
theorem dX7_save_0 : decode cX7_save 0 = .ok (.iload_n 1, 1) := by decide +kernel
theorem dX7_save_1 : decode cX7_save 1 = .ok (.iconst 0, 1) := by decide +kernel
theorem dX7_save_2 : decode cX7_save 2 = .ok (.iconst 1, 1) := by decide +kernel
theorem dX7_save_3 : decode cX7_save 3 = .ok (.invokestatic 59, 3) := by decide +kernel
theorem dX7_save_6 : decode cX7_save 6 = .ok (.ifCond .ne 6, 3) := by decide +kernel
theorem dX7_save_9 : decode cX7_save 9 = .ok (.bipush (-2), 2) := by decide +kernel
theorem dX7_save_11 : decode cX7_save 11 = .ok (.ireturn, 1) := by decide +kernel
theorem dX7_save_12 : decode cX7_save 12 = .ok (.iconst 0, 1) := by decide +kernel
theorem dX7_save_13 : decode cX7_save 13 = .ok (.istore_n 2, 1) := by decide +kernel
theorem dX7_save_14 : decode cX7_save 14 = .ok (.iload_n 2, 1) := by decide +kernel
theorem dX7_save_15 : decode cX7_save 15 = .ok (.sipush 560, 3) := by decide +kernel
theorem dX7_save_18 : decode cX7_save 18 = .ok (.if_icmp .ge 27, 3) := by decide +kernel
theorem dX7_save_21 : decode cX7_save 21 = .ok (.aload_n 0, 1) := by decide +kernel
theorem dX7_save_22 : decode cX7_save 22 = .ok (.getfield 19, 3) := by decide +kernel
theorem dX7_save_25 : decode cX7_save 25 = .ok (.iload_n 1, 1) := by decide +kernel
theorem dX7_save_26 : decode cX7_save 26 = .ok (.sipush 560, 3) := by decide +kernel
theorem dX7_save_29 : decode cX7_save 29 = .ok (.imul, 1) := by decide +kernel
theorem dX7_save_30 : decode cX7_save 30 = .ok (.iload_n 2, 1) := by decide +kernel
theorem dX7_save_31 : decode cX7_save 31 = .ok (.iadd, 1) := by decide +kernel
theorem dX7_save_32 : decode cX7_save 32 = .ok (.aload_n 0, 1) := by decide +kernel
theorem dX7_save_33 : decode cX7_save 33 = .ok (.getfield 7, 3) := by decide +kernel
theorem dX7_save_36 : decode cX7_save 36 = .ok (.iload_n 2, 1) := by decide +kernel
theorem dX7_save_37 : decode cX7_save 37 = .ok (.iaload, 1) := by decide +kernel
theorem dX7_save_38 : decode cX7_save 38 = .ok (.iastore, 1) := by decide +kernel
theorem dX7_save_39 : decode cX7_save 39 = .ok (.iinc 2 1, 3) := by decide +kernel
theorem dX7_save_42 : decode cX7_save 42 = .ok (.goto (-28), 3) := by decide +kernel
theorem dX7_save_45 : decode cX7_save 45 = .ok (.aload_n 0, 1) := by decide +kernel
theorem dX7_save_46 : decode cX7_save 46 = .ok (.getfield 22, 3) := by decide +kernel
theorem dX7_save_49 : decode cX7_save 49 = .ok (.iload_n 1, 1) := by decide +kernel
theorem dX7_save_50 : decode cX7_save 50 = .ok (.iconst 1, 1) := by decide +kernel
theorem dX7_save_51 : decode cX7_save 51 = .ok (.bastore, 1) := by decide +kernel
theorem dX7_save_52 : decode cX7_save 52 = .ok (.aload_n 0, 1) := by decide +kernel
theorem dX7_save_53 : decode cX7_save 53 = .ok (.getfield 7, 3) := by decide +kernel
theorem dX7_save_56 : decode cX7_save 56 = .ok (.iconst 3, 1) := by decide +kernel
theorem dX7_save_57 : decode cX7_save 57 = .ok (.iaload, 1) := by decide +kernel
theorem dX7_save_58 : decode cX7_save 58 = .ok (.ireturn, 1) := by decide +kernel
theorem dX7_restore_0 : decode cX7_restore 0 = .ok (.iload_n 1, 1) := by decide +kernel
theorem dX7_restore_1 : decode cX7_restore 1 = .ok (.iconst 0, 1) := by decide +kernel
theorem dX7_restore_2 : decode cX7_restore 2 = .ok (.iconst 1, 1) := by decide +kernel
theorem dX7_restore_3 : decode cX7_restore 3 = .ok (.invokestatic 59, 3) := by decide +kernel
theorem dX7_restore_6 : decode cX7_restore 6 = .ok (.ifCond .ne 6, 3) := by decide +kernel
theorem dX7_restore_9 : decode cX7_restore 9 = .ok (.bipush (-2), 2) := by decide +kernel
theorem dX7_restore_11 : decode cX7_restore 11 = .ok (.ireturn, 1) := by decide +kernel
theorem dX7_restore_12 : decode cX7_restore 12 = .ok (.aload_n 0, 1) := by decide +kernel
theorem dX7_restore_13 : decode cX7_restore 13 = .ok (.getfield 22, 3) := by decide +kernel
theorem dX7_restore_16 : decode cX7_restore 16 = .ok (.iload_n 1, 1) := by decide +kernel
theorem dX7_restore_17 : decode cX7_restore 17 = .ok (.baload, 1) := by decide +kernel
theorem dX7_restore_18 : decode cX7_restore 18 = .ok (.ifCond .ne 6, 3) := by decide +kernel
theorem dX7_restore_21 : decode cX7_restore 21 = .ok (.bipush (-5), 2) := by decide +kernel
theorem dX7_restore_23 : decode cX7_restore 23 = .ok (.ireturn, 1) := by decide +kernel
theorem dX7_restore_24 : decode cX7_restore 24 = .ok (.aload_n 0, 1) := by decide +kernel
theorem dX7_restore_25 : decode cX7_restore 25 = .ok (.invokevirtual 70, 3) := by decide +kernel
theorem dX7_restore_28 : decode cX7_restore 28 = .ok (.iconst 0, 1) := by decide +kernel
theorem dX7_restore_29 : decode cX7_restore 29 = .ok (.istore_n 2, 1) := by decide +kernel
theorem dX7_restore_30 : decode cX7_restore 30 = .ok (.iload_n 2, 1) := by decide +kernel
theorem dX7_restore_31 : decode cX7_restore 31 = .ok (.sipush 560, 3) := by decide +kernel
theorem dX7_restore_34 : decode cX7_restore 34 = .ok (.if_icmp .ge 27, 3) := by decide +kernel
theorem dX7_restore_37 : decode cX7_restore 37 = .ok (.aload_n 0, 1) := by decide +kernel
theorem dX7_restore_38 : decode cX7_restore 38 = .ok (.getfield 7, 3) := by decide +kernel
theorem dX7_restore_41 : decode cX7_restore 41 = .ok (.iload_n 2, 1) := by decide +kernel
theorem dX7_restore_42 : decode cX7_restore 42 = .ok (.aload_n 0, 1) := by decide +kernel
theorem dX7_restore_43 : decode cX7_restore 43 = .ok (.getfield 19, 3) := by decide +kernel
theorem dX7_restore_46 : decode cX7_restore 46 = .ok (.iload_n 1, 1) := by decide +kernel
theorem dX7_restore_47 : decode cX7_restore 47 = .ok (.sipush 560, 3) := by decide +kernel
theorem dX7_restore_50 : decode cX7_restore 50 = .ok (.imul, 1) := by decide +kernel
theorem dX7_restore_51 : decode cX7_restore 51 = .ok (.iload_n 2, 1) := by decide +kernel
theorem dX7_restore_52 : decode cX7_restore 52 = .ok (.iadd, 1) := by decide +kernel
theorem dX7_restore_53 : decode cX7_restore 53 = .ok (.iaload, 1) := by decide +kernel
theorem dX7_restore_54 : decode cX7_restore 54 = .ok (.iastore, 1) := by decide +kernel
theorem dX7_restore_55 : decode cX7_restore 55 = .ok (.iinc 2 1, 3) := by decide +kernel
theorem dX7_restore_58 : decode cX7_restore 58 = .ok (.goto (-28), 3) := by decide +kernel
theorem dX7_restore_61 : decode cX7_restore 61 = .ok (.aload_n 0, 1) := by decide +kernel
theorem dX7_restore_62 : decode cX7_restore 62 = .ok (.invokevirtual 73, 3) := by decide +kernel
theorem dX7_restore_65 : decode cX7_restore 65 = .ok (.aload_n 0, 1) := by decide +kernel
theorem dX7_restore_66 : decode cX7_restore 66 = .ok (.getfield 7, 3) := by decide +kernel
theorem dX7_restore_69 : decode cX7_restore 69 = .ok (.iconst 3, 1) := by decide +kernel
theorem dX7_restore_70 : decode cX7_restore 70 = .ok (.iaload, 1) := by decide +kernel
theorem dX7_restore_71 : decode cX7_restore 71 = .ok (.ireturn, 1) := by decide +kernel
theorem dJ13_bitCount_95d88_0 : decode cJ13_bitCount_95d88 0 = .ok (.lload_n 0, 1) := by decide +kernel
theorem dJ13_bitCount_95d88_1 : decode cJ13_bitCount_95d88 1 = .ok (.lload_n 0, 1) := by decide +kernel
theorem dJ13_bitCount_95d88_2 : decode cJ13_bitCount_95d88 2 = .ok (.iconst 1, 1) := by decide +kernel
theorem dJ13_bitCount_95d88_3 : decode cJ13_bitCount_95d88 3 = .ok (.lushr, 1) := by decide +kernel
theorem dJ13_bitCount_95d88_4 : decode cJ13_bitCount_95d88 4 = .ok (.ldc2_w 314, 3) := by decide +kernel
theorem dJ13_bitCount_95d88_7 : decode cJ13_bitCount_95d88 7 = .ok (.land, 1) := by decide +kernel
theorem dJ13_bitCount_95d88_8 : decode cJ13_bitCount_95d88 8 = .ok (.lsub, 1) := by decide +kernel
theorem dJ13_bitCount_95d88_9 : decode cJ13_bitCount_95d88 9 = .ok (.lstore_n 0, 1) := by decide +kernel
theorem dJ13_bitCount_95d88_10 : decode cJ13_bitCount_95d88 10 = .ok (.lload_n 0, 1) := by decide +kernel
theorem dJ13_bitCount_95d88_11 : decode cJ13_bitCount_95d88 11 = .ok (.ldc2_w 316, 3) := by decide +kernel
theorem dJ13_bitCount_95d88_14 : decode cJ13_bitCount_95d88 14 = .ok (.land, 1) := by decide +kernel
theorem dJ13_bitCount_95d88_15 : decode cJ13_bitCount_95d88 15 = .ok (.lload_n 0, 1) := by decide +kernel
theorem dJ13_bitCount_95d88_16 : decode cJ13_bitCount_95d88 16 = .ok (.iconst 2, 1) := by decide +kernel
theorem dJ13_bitCount_95d88_17 : decode cJ13_bitCount_95d88 17 = .ok (.lushr, 1) := by decide +kernel
theorem dJ13_bitCount_95d88_18 : decode cJ13_bitCount_95d88 18 = .ok (.ldc2_w 316, 3) := by decide +kernel
theorem dJ13_bitCount_95d88_21 : decode cJ13_bitCount_95d88 21 = .ok (.land, 1) := by decide +kernel
theorem dJ13_bitCount_95d88_22 : decode cJ13_bitCount_95d88 22 = .ok (.ladd, 1) := by decide +kernel
theorem dJ13_bitCount_95d88_23 : decode cJ13_bitCount_95d88 23 = .ok (.lstore_n 0, 1) := by decide +kernel
theorem dJ13_bitCount_95d88_24 : decode cJ13_bitCount_95d88 24 = .ok (.lload_n 0, 1) := by decide +kernel
theorem dJ13_bitCount_95d88_25 : decode cJ13_bitCount_95d88 25 = .ok (.lload_n 0, 1) := by decide +kernel
theorem dJ13_bitCount_95d88_26 : decode cJ13_bitCount_95d88 26 = .ok (.iconst 4, 1) := by decide +kernel
theorem dJ13_bitCount_95d88_27 : decode cJ13_bitCount_95d88 27 = .ok (.lushr, 1) := by decide +kernel
theorem dJ13_bitCount_95d88_28 : decode cJ13_bitCount_95d88 28 = .ok (.ladd, 1) := by decide +kernel
theorem dJ13_bitCount_95d88_29 : decode cJ13_bitCount_95d88 29 = .ok (.ldc2_w 318, 3) := by decide +kernel
theorem dJ13_bitCount_95d88_32 : decode cJ13_bitCount_95d88 32 = .ok (.land, 1) := by decide +kernel
theorem dJ13_bitCount_95d88_33 : decode cJ13_bitCount_95d88 33 = .ok (.lstore_n 0, 1) := by decide +kernel
theorem dJ13_bitCount_95d88_34 : decode cJ13_bitCount_95d88 34 = .ok (.lload_n 0, 1) := by decide +kernel
theorem dJ13_bitCount_95d88_35 : decode cJ13_bitCount_95d88 35 = .ok (.lload_n 0, 1) := by decide +kernel
theorem dJ13_bitCount_95d88_36 : decode cJ13_bitCount_95d88 36 = .ok (.bipush 8, 2) := by decide +kernel
theorem dJ13_bitCount_95d88_38 : decode cJ13_bitCount_95d88 38 = .ok (.lushr, 1) := by decide +kernel
theorem dJ13_bitCount_95d88_39 : decode cJ13_bitCount_95d88 39 = .ok (.ladd, 1) := by decide +kernel
theorem dJ13_bitCount_95d88_40 : decode cJ13_bitCount_95d88 40 = .ok (.lstore_n 0, 1) := by decide +kernel
theorem dJ13_bitCount_95d88_41 : decode cJ13_bitCount_95d88 41 = .ok (.lload_n 0, 1) := by decide +kernel
theorem dJ13_bitCount_95d88_42 : decode cJ13_bitCount_95d88 42 = .ok (.lload_n 0, 1) := by decide +kernel
theorem dJ13_bitCount_95d88_43 : decode cJ13_bitCount_95d88 43 = .ok (.bipush 16, 2) := by decide +kernel
theorem dJ13_bitCount_95d88_45 : decode cJ13_bitCount_95d88 45 = .ok (.lushr, 1) := by decide +kernel
theorem dJ13_bitCount_95d88_46 : decode cJ13_bitCount_95d88 46 = .ok (.ladd, 1) := by decide +kernel
theorem dJ13_bitCount_95d88_47 : decode cJ13_bitCount_95d88 47 = .ok (.lstore_n 0, 1) := by decide +kernel
theorem dJ13_bitCount_95d88_48 : decode cJ13_bitCount_95d88 48 = .ok (.lload_n 0, 1) := by decide +kernel
theorem dJ13_bitCount_95d88_49 : decode cJ13_bitCount_95d88 49 = .ok (.lload_n 0, 1) := by decide +kernel
theorem dJ13_bitCount_95d88_50 : decode cJ13_bitCount_95d88 50 = .ok (.bipush 32, 2) := by decide +kernel
theorem dJ13_bitCount_95d88_52 : decode cJ13_bitCount_95d88 52 = .ok (.lushr, 1) := by decide +kernel
theorem dJ13_bitCount_95d88_53 : decode cJ13_bitCount_95d88 53 = .ok (.ladd, 1) := by decide +kernel
theorem dJ13_bitCount_95d88_54 : decode cJ13_bitCount_95d88 54 = .ok (.lstore_n 0, 1) := by decide +kernel
theorem dJ13_bitCount_95d88_55 : decode cJ13_bitCount_95d88 55 = .ok (.lload_n 0, 1) := by decide +kernel
theorem dJ13_bitCount_95d88_56 : decode cJ13_bitCount_95d88 56 = .ok (.l2i, 1) := by decide +kernel
theorem dJ13_bitCount_95d88_57 : decode cJ13_bitCount_95d88 57 = .ok (.bipush 127, 2) := by decide +kernel
theorem dJ13_bitCount_95d88_59 : decode cJ13_bitCount_95d88 59 = .ok (.iand, 1) := by decide +kernel
theorem dJ13_bitCount_95d88_60 : decode cJ13_bitCount_95d88 60 = .ok (.ireturn, 1) := by decide +kernel
theorem dJ9_abs_0f7a4_0 : decode cJ9_abs_0f7a4 0 = .ok (.iload_n 0, 1) := by decide +kernel
theorem dJ9_abs_0f7a4_1 : decode cJ9_abs_0f7a4 1 = .ok (.ifCond .ge 8, 3) := by decide +kernel
theorem dJ9_abs_0f7a4_4 : decode cJ9_abs_0f7a4 4 = .ok (.iload_n 0, 1) := by decide +kernel
theorem dJ9_abs_0f7a4_5 : decode cJ9_abs_0f7a4 5 = .ok (.ineg, 1) := by decide +kernel
theorem dJ9_abs_0f7a4_6 : decode cJ9_abs_0f7a4 6 = .ok (.goto 4, 3) := by decide +kernel
theorem dJ9_abs_0f7a4_9 : decode cJ9_abs_0f7a4 9 = .ok (.iload_n 0, 1) := by decide +kernel
theorem dJ9_abs_0f7a4_10 : decode cJ9_abs_0f7a4 10 = .ok (.ireturn, 1) := by decide +kernel
theorem dJ9_max_7cf53_0 : decode cJ9_max_7cf53 0 = .ok (.iload_n 0, 1) := by decide +kernel
theorem dJ9_max_7cf53_1 : decode cJ9_max_7cf53 1 = .ok (.iload_n 1, 1) := by decide +kernel
theorem dJ9_max_7cf53_2 : decode cJ9_max_7cf53 2 = .ok (.if_icmp .lt 7, 3) := by decide +kernel
theorem dJ9_max_7cf53_5 : decode cJ9_max_7cf53 5 = .ok (.iload_n 0, 1) := by decide +kernel
theorem dJ9_max_7cf53_6 : decode cJ9_max_7cf53 6 = .ok (.goto 4, 3) := by decide +kernel
theorem dJ9_max_7cf53_9 : decode cJ9_max_7cf53 9 = .ok (.iload_n 1, 1) := by decide +kernel
theorem dJ9_max_7cf53_10 : decode cJ9_max_7cf53 10 = .ok (.ireturn, 1) := by decide +kernel
theorem dJ9_min_7cf53_0 : decode cJ9_min_7cf53 0 = .ok (.iload_n 0, 1) := by decide +kernel
theorem dJ9_min_7cf53_1 : decode cJ9_min_7cf53 1 = .ok (.iload_n 1, 1) := by decide +kernel
theorem dJ9_min_7cf53_2 : decode cJ9_min_7cf53 2 = .ok (.if_icmp .gt 7, 3) := by decide +kernel
theorem dJ9_min_7cf53_5 : decode cJ9_min_7cf53 5 = .ok (.iload_n 0, 1) := by decide +kernel
theorem dJ9_min_7cf53_6 : decode cJ9_min_7cf53 6 = .ok (.goto 4, 3) := by decide +kernel
theorem dJ9_min_7cf53_9 : decode cJ9_min_7cf53 9 = .ok (.iload_n 1, 1) := by decide +kernel
theorem dJ9_min_7cf53_10 : decode cJ9_min_7cf53 10 = .ok (.ireturn, 1) := by decide +kernel
theorem dL_law_0 : decode cL_law 0 = .ok (.new 7, 3) := by decide +kernel
theorem dL_law_3 : decode cL_law 3 = .ok (.dup, 1) := by decide +kernel
theorem dL_law_4 : decode cL_law 4 = .ok (.invokespecial 9, 3) := by decide +kernel
theorem dL_law_7 : decode cL_law 7 = .ok (.astore_n 1, 1) := by decide +kernel
theorem dL_law_8 : decode cL_law 8 = .ok (.new 10, 3) := by decide +kernel
theorem dL_law_11 : decode cL_law 11 = .ok (.dup, 1) := by decide +kernel
theorem dL_law_12 : decode cL_law 12 = .ok (.invokespecial 12, 3) := by decide +kernel
theorem dL_law_15 : decode cL_law 15 = .ok (.astore_n 2, 1) := by decide +kernel
theorem dL_law_16 : decode cL_law 16 = .ok (.iconst 0, 1) := by decide +kernel
theorem dL_law_17 : decode cL_law 17 = .ok (.istore_n 3, 1) := by decide +kernel
theorem dL_law_18 : decode cL_law 18 = .ok (.iload_n 3, 1) := by decide +kernel
theorem dL_law_19 : decode cL_law 19 = .ok (.aload_n 0, 1) := by decide +kernel
theorem dL_law_20 : decode cL_law 20 = .ok (.arraylength, 1) := by decide +kernel
theorem dL_law_21 : decode cL_law 21 = .ok (.iconst 4, 1) := by decide +kernel
theorem dL_law_22 : decode cL_law 22 = .ok (.isub, 1) := by decide +kernel
theorem dL_law_23 : decode cL_law 23 = .ok (.if_icmp .gt 695, 3) := by decide +kernel
theorem dL_law_26 : decode cL_law 26 = .ok (.aload_n 0, 1) := by decide +kernel
theorem dL_law_27 : decode cL_law 27 = .ok (.iload_n 3, 1) := by decide +kernel
theorem dL_law_28 : decode cL_law 28 = .ok (.iaload, 1) := by decide +kernel
theorem dL_law_29 : decode cL_law 29 = .ok (.bipush 31, 2) := by decide +kernel
theorem dL_law_31 : decode cL_law 31 = .ok (.iand, 1) := by decide +kernel
theorem dL_law_32 : decode cL_law 32 = .ok (.tableswitch 680 0 21 #[104, 137, 170, 213, 246, 269, 302, 335, 358, 391, 424, 437, 460, 483, 506, 529, 582, 595, 608, 621, 634, 657], 104) := by decide +kernel
theorem dL_law_136 : decode cL_law 136 = .ok (.aload_n 1, 1) := by decide +kernel
theorem dL_law_137 : decode cL_law 137 = .ok (.aload_n 0, 1) := by decide +kernel
theorem dL_law_138 : decode cL_law 138 = .ok (.iload_n 3, 1) := by decide +kernel
theorem dL_law_139 : decode cL_law 139 = .ok (.iconst 1, 1) := by decide +kernel
theorem dL_law_140 : decode cL_law 140 = .ok (.iadd, 1) := by decide +kernel
theorem dL_law_141 : decode cL_law 141 = .ok (.iaload, 1) := by decide +kernel
theorem dL_law_142 : decode cL_law 142 = .ok (.aload_n 0, 1) := by decide +kernel
theorem dL_law_143 : decode cL_law 143 = .ok (.iload_n 3, 1) := by decide +kernel
theorem dL_law_144 : decode cL_law 144 = .ok (.iconst 2, 1) := by decide +kernel
theorem dL_law_145 : decode cL_law 145 = .ok (.iadd, 1) := by decide +kernel
theorem dL_law_146 : decode cL_law 146 = .ok (.iaload, 1) := by decide +kernel
theorem dL_law_147 : decode cL_law 147 = .ok (.invokevirtual 13, 3) := by decide +kernel
theorem dL_law_150 : decode cL_law 150 = .ok (.aload_n 2, 1) := by decide +kernel
theorem dL_law_151 : decode cL_law 151 = .ok (.aload_n 0, 1) := by decide +kernel
theorem dL_law_152 : decode cL_law 152 = .ok (.iload_n 3, 1) := by decide +kernel
theorem dL_law_153 : decode cL_law 153 = .ok (.iconst 1, 1) := by decide +kernel
theorem dL_law_154 : decode cL_law 154 = .ok (.iadd, 1) := by decide +kernel
theorem dL_law_155 : decode cL_law 155 = .ok (.iaload, 1) := by decide +kernel
theorem dL_law_156 : decode cL_law 156 = .ok (.aload_n 0, 1) := by decide +kernel
theorem dL_law_157 : decode cL_law 157 = .ok (.iload_n 3, 1) := by decide +kernel
theorem dL_law_158 : decode cL_law 158 = .ok (.iconst 2, 1) := by decide +kernel
theorem dL_law_159 : decode cL_law 159 = .ok (.iadd, 1) := by decide +kernel
theorem dL_law_160 : decode cL_law 160 = .ok (.iaload, 1) := by decide +kernel
theorem dL_law_161 : decode cL_law 161 = .ok (.invokevirtual 17, 3) := by decide +kernel
theorem dL_law_164 : decode cL_law 164 = .ok (.if_icmp .eq 548, 3) := by decide +kernel
theorem dL_law_167 : decode cL_law 167 = .ok (.iconst 0, 1) := by decide +kernel
theorem dL_law_168 : decode cL_law 168 = .ok (.ireturn, 1) := by decide +kernel
theorem dL_law_169 : decode cL_law 169 = .ok (.aload_n 1, 1) := by decide +kernel
theorem dL_law_170 : decode cL_law 170 = .ok (.aload_n 0, 1) := by decide +kernel
theorem dL_law_171 : decode cL_law 171 = .ok (.iload_n 3, 1) := by decide +kernel
theorem dL_law_172 : decode cL_law 172 = .ok (.iconst 1, 1) := by decide +kernel
theorem dL_law_173 : decode cL_law 173 = .ok (.iadd, 1) := by decide +kernel
theorem dL_law_174 : decode cL_law 174 = .ok (.iaload, 1) := by decide +kernel
theorem dL_law_175 : decode cL_law 175 = .ok (.aload_n 0, 1) := by decide +kernel
theorem dL_law_176 : decode cL_law 176 = .ok (.iload_n 3, 1) := by decide +kernel
theorem dL_law_177 : decode cL_law 177 = .ok (.iconst 2, 1) := by decide +kernel
theorem dL_law_178 : decode cL_law 178 = .ok (.iadd, 1) := by decide +kernel
theorem dL_law_179 : decode cL_law 179 = .ok (.iaload, 1) := by decide +kernel
theorem dL_law_180 : decode cL_law 180 = .ok (.invokevirtual 18, 3) := by decide +kernel
theorem dL_law_183 : decode cL_law 183 = .ok (.aload_n 2, 1) := by decide +kernel
theorem dL_law_184 : decode cL_law 184 = .ok (.aload_n 0, 1) := by decide +kernel
theorem dL_law_185 : decode cL_law 185 = .ok (.iload_n 3, 1) := by decide +kernel
theorem dL_law_186 : decode cL_law 186 = .ok (.iconst 1, 1) := by decide +kernel
theorem dL_law_187 : decode cL_law 187 = .ok (.iadd, 1) := by decide +kernel
theorem dL_law_188 : decode cL_law 188 = .ok (.iaload, 1) := by decide +kernel
theorem dL_law_189 : decode cL_law 189 = .ok (.aload_n 0, 1) := by decide +kernel
theorem dL_law_190 : decode cL_law 190 = .ok (.iload_n 3, 1) := by decide +kernel
theorem dL_law_191 : decode cL_law 191 = .ok (.iconst 2, 1) := by decide +kernel
theorem dL_law_192 : decode cL_law 192 = .ok (.iadd, 1) := by decide +kernel
theorem dL_law_193 : decode cL_law 193 = .ok (.iaload, 1) := by decide +kernel
theorem dL_law_194 : decode cL_law 194 = .ok (.invokevirtual 21, 3) := by decide +kernel
theorem dL_law_197 : decode cL_law 197 = .ok (.if_icmp .eq 515, 3) := by decide +kernel
theorem dL_law_200 : decode cL_law 200 = .ok (.iconst 0, 1) := by decide +kernel
theorem dL_law_201 : decode cL_law 201 = .ok (.ireturn, 1) := by decide +kernel
theorem dL_law_202 : decode cL_law 202 = .ok (.aload_n 1, 1) := by decide +kernel
theorem dL_law_203 : decode cL_law 203 = .ok (.aload_n 0, 1) := by decide +kernel
theorem dL_law_204 : decode cL_law 204 = .ok (.iload_n 3, 1) := by decide +kernel
theorem dL_law_205 : decode cL_law 205 = .ok (.iconst 1, 1) := by decide +kernel
theorem dL_law_206 : decode cL_law 206 = .ok (.iadd, 1) := by decide +kernel
theorem dL_law_207 : decode cL_law 207 = .ok (.iaload, 1) := by decide +kernel
theorem dL_law_208 : decode cL_law 208 = .ok (.aload_n 0, 1) := by decide +kernel
theorem dL_law_209 : decode cL_law 209 = .ok (.iload_n 3, 1) := by decide +kernel
theorem dL_law_210 : decode cL_law 210 = .ok (.iconst 2, 1) := by decide +kernel
theorem dL_law_211 : decode cL_law 211 = .ok (.iadd, 1) := by decide +kernel
theorem dL_law_212 : decode cL_law 212 = .ok (.iaload, 1) := by decide +kernel
theorem dL_law_213 : decode cL_law 213 = .ok (.aload_n 0, 1) := by decide +kernel
theorem dL_law_214 : decode cL_law 214 = .ok (.iload_n 3, 1) := by decide +kernel
theorem dL_law_215 : decode cL_law 215 = .ok (.iconst 3, 1) := by decide +kernel
theorem dL_law_216 : decode cL_law 216 = .ok (.iadd, 1) := by decide +kernel
theorem dL_law_217 : decode cL_law 217 = .ok (.iaload, 1) := by decide +kernel
theorem dL_law_218 : decode cL_law 218 = .ok (.invokevirtual 22, 3) := by decide +kernel
theorem dL_law_221 : decode cL_law 221 = .ok (.aload_n 2, 1) := by decide +kernel
theorem dL_law_222 : decode cL_law 222 = .ok (.aload_n 0, 1) := by decide +kernel
theorem dL_law_223 : decode cL_law 223 = .ok (.iload_n 3, 1) := by decide +kernel
theorem dL_law_224 : decode cL_law 224 = .ok (.iconst 1, 1) := by decide +kernel
theorem dL_law_225 : decode cL_law 225 = .ok (.iadd, 1) := by decide +kernel
theorem dL_law_226 : decode cL_law 226 = .ok (.iaload, 1) := by decide +kernel
theorem dL_law_227 : decode cL_law 227 = .ok (.aload_n 0, 1) := by decide +kernel
theorem dL_law_228 : decode cL_law 228 = .ok (.iload_n 3, 1) := by decide +kernel
theorem dL_law_229 : decode cL_law 229 = .ok (.iconst 2, 1) := by decide +kernel
theorem dL_law_230 : decode cL_law 230 = .ok (.iadd, 1) := by decide +kernel
theorem dL_law_231 : decode cL_law 231 = .ok (.iaload, 1) := by decide +kernel
theorem dL_law_232 : decode cL_law 232 = .ok (.aload_n 0, 1) := by decide +kernel
theorem dL_law_233 : decode cL_law 233 = .ok (.iload_n 3, 1) := by decide +kernel
theorem dL_law_234 : decode cL_law 234 = .ok (.iconst 3, 1) := by decide +kernel
theorem dL_law_235 : decode cL_law 235 = .ok (.iadd, 1) := by decide +kernel
theorem dL_law_236 : decode cL_law 236 = .ok (.iaload, 1) := by decide +kernel
theorem dL_law_237 : decode cL_law 237 = .ok (.invokevirtual 26, 3) := by decide +kernel
theorem dL_law_240 : decode cL_law 240 = .ok (.if_icmp .eq 472, 3) := by decide +kernel
theorem dL_law_243 : decode cL_law 243 = .ok (.iconst 0, 1) := by decide +kernel
theorem dL_law_244 : decode cL_law 244 = .ok (.ireturn, 1) := by decide +kernel
theorem dL_law_245 : decode cL_law 245 = .ok (.aload_n 1, 1) := by decide +kernel
theorem dL_law_246 : decode cL_law 246 = .ok (.aload_n 0, 1) := by decide +kernel
theorem dL_law_247 : decode cL_law 247 = .ok (.iload_n 3, 1) := by decide +kernel
theorem dL_law_248 : decode cL_law 248 = .ok (.iconst 1, 1) := by decide +kernel
theorem dL_law_249 : decode cL_law 249 = .ok (.iadd, 1) := by decide +kernel
theorem dL_law_250 : decode cL_law 250 = .ok (.iaload, 1) := by decide +kernel
theorem dL_law_251 : decode cL_law 251 = .ok (.aload_n 0, 1) := by decide +kernel
theorem dL_law_252 : decode cL_law 252 = .ok (.iload_n 3, 1) := by decide +kernel
theorem dL_law_253 : decode cL_law 253 = .ok (.iconst 2, 1) := by decide +kernel
theorem dL_law_254 : decode cL_law 254 = .ok (.iadd, 1) := by decide +kernel
theorem dL_law_255 : decode cL_law 255 = .ok (.iaload, 1) := by decide +kernel
theorem dL_law_256 : decode cL_law 256 = .ok (.invokevirtual 27, 3) := by decide +kernel
theorem dL_law_259 : decode cL_law 259 = .ok (.aload_n 2, 1) := by decide +kernel
theorem dL_law_260 : decode cL_law 260 = .ok (.aload_n 0, 1) := by decide +kernel
theorem dL_law_261 : decode cL_law 261 = .ok (.iload_n 3, 1) := by decide +kernel
theorem dL_law_262 : decode cL_law 262 = .ok (.iconst 1, 1) := by decide +kernel
theorem dL_law_263 : decode cL_law 263 = .ok (.iadd, 1) := by decide +kernel
theorem dL_law_264 : decode cL_law 264 = .ok (.iaload, 1) := by decide +kernel
theorem dL_law_265 : decode cL_law 265 = .ok (.aload_n 0, 1) := by decide +kernel
theorem dL_law_266 : decode cL_law 266 = .ok (.iload_n 3, 1) := by decide +kernel
theorem dL_law_267 : decode cL_law 267 = .ok (.iconst 2, 1) := by decide +kernel
theorem dL_law_268 : decode cL_law 268 = .ok (.iadd, 1) := by decide +kernel
theorem dL_law_269 : decode cL_law 269 = .ok (.iaload, 1) := by decide +kernel
theorem dL_law_270 : decode cL_law 270 = .ok (.invokevirtual 30, 3) := by decide +kernel
theorem dL_law_273 : decode cL_law 273 = .ok (.if_icmp .eq 439, 3) := by decide +kernel
theorem dL_law_276 : decode cL_law 276 = .ok (.iconst 0, 1) := by decide +kernel
theorem dL_law_277 : decode cL_law 277 = .ok (.ireturn, 1) := by decide +kernel
theorem dL_law_278 : decode cL_law 278 = .ok (.aload_n 1, 1) := by decide +kernel
theorem dL_law_279 : decode cL_law 279 = .ok (.aload_n 0, 1) := by decide +kernel
theorem dL_law_280 : decode cL_law 280 = .ok (.iload_n 3, 1) := by decide +kernel
theorem dL_law_281 : decode cL_law 281 = .ok (.iconst 1, 1) := by decide +kernel
theorem dL_law_282 : decode cL_law 282 = .ok (.iadd, 1) := by decide +kernel
theorem dL_law_283 : decode cL_law 283 = .ok (.iaload, 1) := by decide +kernel
theorem dL_law_284 : decode cL_law 284 = .ok (.invokevirtual 31, 3) := by decide +kernel
theorem dL_law_287 : decode cL_law 287 = .ok (.aload_n 2, 1) := by decide +kernel
theorem dL_law_288 : decode cL_law 288 = .ok (.aload_n 0, 1) := by decide +kernel
theorem dL_law_289 : decode cL_law 289 = .ok (.iload_n 3, 1) := by decide +kernel
theorem dL_law_290 : decode cL_law 290 = .ok (.iconst 1, 1) := by decide +kernel
theorem dL_law_291 : decode cL_law 291 = .ok (.iadd, 1) := by decide +kernel
theorem dL_law_292 : decode cL_law 292 = .ok (.iaload, 1) := by decide +kernel
theorem dL_law_293 : decode cL_law 293 = .ok (.invokevirtual 35, 3) := by decide +kernel
theorem dL_law_296 : decode cL_law 296 = .ok (.if_icmp .eq 416, 3) := by decide +kernel
theorem dL_law_299 : decode cL_law 299 = .ok (.iconst 0, 1) := by decide +kernel
theorem dL_law_300 : decode cL_law 300 = .ok (.ireturn, 1) := by decide +kernel
theorem dL_law_301 : decode cL_law 301 = .ok (.aload_n 1, 1) := by decide +kernel
theorem dL_law_302 : decode cL_law 302 = .ok (.aload_n 0, 1) := by decide +kernel
theorem dL_law_303 : decode cL_law 303 = .ok (.iload_n 3, 1) := by decide +kernel
theorem dL_law_304 : decode cL_law 304 = .ok (.iconst 1, 1) := by decide +kernel
theorem dL_law_305 : decode cL_law 305 = .ok (.iadd, 1) := by decide +kernel
theorem dL_law_306 : decode cL_law 306 = .ok (.iaload, 1) := by decide +kernel
theorem dL_law_307 : decode cL_law 307 = .ok (.aload_n 0, 1) := by decide +kernel
theorem dL_law_308 : decode cL_law 308 = .ok (.iload_n 3, 1) := by decide +kernel
theorem dL_law_309 : decode cL_law 309 = .ok (.iconst 2, 1) := by decide +kernel
theorem dL_law_310 : decode cL_law 310 = .ok (.iadd, 1) := by decide +kernel
theorem dL_law_311 : decode cL_law 311 = .ok (.iaload, 1) := by decide +kernel
theorem dL_law_312 : decode cL_law 312 = .ok (.invokevirtual 36, 3) := by decide +kernel
theorem dL_law_315 : decode cL_law 315 = .ok (.aload_n 2, 1) := by decide +kernel
theorem dL_law_316 : decode cL_law 316 = .ok (.aload_n 0, 1) := by decide +kernel
theorem dL_law_317 : decode cL_law 317 = .ok (.iload_n 3, 1) := by decide +kernel
theorem dL_law_318 : decode cL_law 318 = .ok (.iconst 1, 1) := by decide +kernel
theorem dL_law_319 : decode cL_law 319 = .ok (.iadd, 1) := by decide +kernel
theorem dL_law_320 : decode cL_law 320 = .ok (.iaload, 1) := by decide +kernel
theorem dL_law_321 : decode cL_law 321 = .ok (.aload_n 0, 1) := by decide +kernel
theorem dL_law_322 : decode cL_law 322 = .ok (.iload_n 3, 1) := by decide +kernel
theorem dL_law_323 : decode cL_law 323 = .ok (.iconst 2, 1) := by decide +kernel
theorem dL_law_324 : decode cL_law 324 = .ok (.iadd, 1) := by decide +kernel
theorem dL_law_325 : decode cL_law 325 = .ok (.iaload, 1) := by decide +kernel
theorem dL_law_326 : decode cL_law 326 = .ok (.invokevirtual 39, 3) := by decide +kernel
theorem dL_law_329 : decode cL_law 329 = .ok (.if_icmp .eq 383, 3) := by decide +kernel
theorem dL_law_332 : decode cL_law 332 = .ok (.iconst 0, 1) := by decide +kernel
theorem dL_law_333 : decode cL_law 333 = .ok (.ireturn, 1) := by decide +kernel
theorem dL_law_334 : decode cL_law 334 = .ok (.aload_n 1, 1) := by decide +kernel
theorem dL_law_335 : decode cL_law 335 = .ok (.aload_n 0, 1) := by decide +kernel
theorem dL_law_336 : decode cL_law 336 = .ok (.iload_n 3, 1) := by decide +kernel
theorem dL_law_337 : decode cL_law 337 = .ok (.iconst 1, 1) := by decide +kernel
theorem dL_law_338 : decode cL_law 338 = .ok (.iadd, 1) := by decide +kernel
theorem dL_law_339 : decode cL_law 339 = .ok (.iaload, 1) := by decide +kernel
theorem dL_law_340 : decode cL_law 340 = .ok (.aload_n 0, 1) := by decide +kernel
theorem dL_law_341 : decode cL_law 341 = .ok (.iload_n 3, 1) := by decide +kernel
theorem dL_law_342 : decode cL_law 342 = .ok (.iconst 2, 1) := by decide +kernel
theorem dL_law_343 : decode cL_law 343 = .ok (.iadd, 1) := by decide +kernel
theorem dL_law_344 : decode cL_law 344 = .ok (.iaload, 1) := by decide +kernel
theorem dL_law_345 : decode cL_law 345 = .ok (.invokevirtual 40, 3) := by decide +kernel
theorem dL_law_348 : decode cL_law 348 = .ok (.aload_n 2, 1) := by decide +kernel
theorem dL_law_349 : decode cL_law 349 = .ok (.aload_n 0, 1) := by decide +kernel
theorem dL_law_350 : decode cL_law 350 = .ok (.iload_n 3, 1) := by decide +kernel
theorem dL_law_351 : decode cL_law 351 = .ok (.iconst 1, 1) := by decide +kernel
theorem dL_law_352 : decode cL_law 352 = .ok (.iadd, 1) := by decide +kernel
theorem dL_law_353 : decode cL_law 353 = .ok (.iaload, 1) := by decide +kernel
theorem dL_law_354 : decode cL_law 354 = .ok (.aload_n 0, 1) := by decide +kernel
theorem dL_law_355 : decode cL_law 355 = .ok (.iload_n 3, 1) := by decide +kernel
theorem dL_law_356 : decode cL_law 356 = .ok (.iconst 2, 1) := by decide +kernel
theorem dL_law_357 : decode cL_law 357 = .ok (.iadd, 1) := by decide +kernel
theorem dL_law_358 : decode cL_law 358 = .ok (.iaload, 1) := by decide +kernel
theorem dL_law_359 : decode cL_law 359 = .ok (.invokevirtual 43, 3) := by decide +kernel
theorem dL_law_362 : decode cL_law 362 = .ok (.if_icmp .eq 350, 3) := by decide +kernel
theorem dL_law_365 : decode cL_law 365 = .ok (.iconst 0, 1) := by decide +kernel
theorem dL_law_366 : decode cL_law 366 = .ok (.ireturn, 1) := by decide +kernel
theorem dL_law_367 : decode cL_law 367 = .ok (.aload_n 1, 1) := by decide +kernel
theorem dL_law_368 : decode cL_law 368 = .ok (.aload_n 0, 1) := by decide +kernel
theorem dL_law_369 : decode cL_law 369 = .ok (.iload_n 3, 1) := by decide +kernel
theorem dL_law_370 : decode cL_law 370 = .ok (.iconst 1, 1) := by decide +kernel
theorem dL_law_371 : decode cL_law 371 = .ok (.iadd, 1) := by decide +kernel
theorem dL_law_372 : decode cL_law 372 = .ok (.iaload, 1) := by decide +kernel
theorem dL_law_373 : decode cL_law 373 = .ok (.invokevirtual 44, 3) := by decide +kernel
theorem dL_law_376 : decode cL_law 376 = .ok (.aload_n 2, 1) := by decide +kernel
theorem dL_law_377 : decode cL_law 377 = .ok (.aload_n 0, 1) := by decide +kernel
theorem dL_law_378 : decode cL_law 378 = .ok (.iload_n 3, 1) := by decide +kernel
theorem dL_law_379 : decode cL_law 379 = .ok (.iconst 1, 1) := by decide +kernel
theorem dL_law_380 : decode cL_law 380 = .ok (.iadd, 1) := by decide +kernel
theorem dL_law_381 : decode cL_law 381 = .ok (.iaload, 1) := by decide +kernel
theorem dL_law_382 : decode cL_law 382 = .ok (.invokevirtual 47, 3) := by decide +kernel
theorem dL_law_385 : decode cL_law 385 = .ok (.if_icmp .eq 327, 3) := by decide +kernel
theorem dL_law_388 : decode cL_law 388 = .ok (.iconst 0, 1) := by decide +kernel
theorem dL_law_389 : decode cL_law 389 = .ok (.ireturn, 1) := by decide +kernel
theorem dL_law_390 : decode cL_law 390 = .ok (.aload_n 1, 1) := by decide +kernel
theorem dL_law_391 : decode cL_law 391 = .ok (.aload_n 0, 1) := by decide +kernel
theorem dL_law_392 : decode cL_law 392 = .ok (.iload_n 3, 1) := by decide +kernel
theorem dL_law_393 : decode cL_law 393 = .ok (.iconst 1, 1) := by decide +kernel
theorem dL_law_394 : decode cL_law 394 = .ok (.iadd, 1) := by decide +kernel
theorem dL_law_395 : decode cL_law 395 = .ok (.iaload, 1) := by decide +kernel
theorem dL_law_396 : decode cL_law 396 = .ok (.aload_n 0, 1) := by decide +kernel
theorem dL_law_397 : decode cL_law 397 = .ok (.iload_n 3, 1) := by decide +kernel
theorem dL_law_398 : decode cL_law 398 = .ok (.iconst 2, 1) := by decide +kernel
theorem dL_law_399 : decode cL_law 399 = .ok (.iadd, 1) := by decide +kernel
theorem dL_law_400 : decode cL_law 400 = .ok (.iaload, 1) := by decide +kernel
theorem dL_law_401 : decode cL_law 401 = .ok (.invokevirtual 48, 3) := by decide +kernel
theorem dL_law_404 : decode cL_law 404 = .ok (.aload_n 2, 1) := by decide +kernel
theorem dL_law_405 : decode cL_law 405 = .ok (.aload_n 0, 1) := by decide +kernel
theorem dL_law_406 : decode cL_law 406 = .ok (.iload_n 3, 1) := by decide +kernel
theorem dL_law_407 : decode cL_law 407 = .ok (.iconst 1, 1) := by decide +kernel
theorem dL_law_408 : decode cL_law 408 = .ok (.iadd, 1) := by decide +kernel
theorem dL_law_409 : decode cL_law 409 = .ok (.iaload, 1) := by decide +kernel
theorem dL_law_410 : decode cL_law 410 = .ok (.aload_n 0, 1) := by decide +kernel
theorem dL_law_411 : decode cL_law 411 = .ok (.iload_n 3, 1) := by decide +kernel
theorem dL_law_412 : decode cL_law 412 = .ok (.iconst 2, 1) := by decide +kernel
theorem dL_law_413 : decode cL_law 413 = .ok (.iadd, 1) := by decide +kernel
theorem dL_law_414 : decode cL_law 414 = .ok (.iaload, 1) := by decide +kernel
theorem dL_law_415 : decode cL_law 415 = .ok (.invokevirtual 51, 3) := by decide +kernel
theorem dL_law_418 : decode cL_law 418 = .ok (.if_icmp .eq 294, 3) := by decide +kernel
theorem dL_law_421 : decode cL_law 421 = .ok (.iconst 0, 1) := by decide +kernel
theorem dL_law_422 : decode cL_law 422 = .ok (.ireturn, 1) := by decide +kernel
theorem dL_law_423 : decode cL_law 423 = .ok (.aload_n 1, 1) := by decide +kernel
theorem dL_law_424 : decode cL_law 424 = .ok (.aload_n 0, 1) := by decide +kernel
theorem dL_law_425 : decode cL_law 425 = .ok (.iload_n 3, 1) := by decide +kernel
theorem dL_law_426 : decode cL_law 426 = .ok (.iconst 1, 1) := by decide +kernel
theorem dL_law_427 : decode cL_law 427 = .ok (.iadd, 1) := by decide +kernel
theorem dL_law_428 : decode cL_law 428 = .ok (.iaload, 1) := by decide +kernel
theorem dL_law_429 : decode cL_law 429 = .ok (.aload_n 0, 1) := by decide +kernel
theorem dL_law_430 : decode cL_law 430 = .ok (.iload_n 3, 1) := by decide +kernel
theorem dL_law_431 : decode cL_law 431 = .ok (.iconst 2, 1) := by decide +kernel
theorem dL_law_432 : decode cL_law 432 = .ok (.iadd, 1) := by decide +kernel
theorem dL_law_433 : decode cL_law 433 = .ok (.iaload, 1) := by decide +kernel
theorem dL_law_434 : decode cL_law 434 = .ok (.invokevirtual 52, 3) := by decide +kernel
theorem dL_law_437 : decode cL_law 437 = .ok (.aload_n 2, 1) := by decide +kernel
theorem dL_law_438 : decode cL_law 438 = .ok (.aload_n 0, 1) := by decide +kernel
theorem dL_law_439 : decode cL_law 439 = .ok (.iload_n 3, 1) := by decide +kernel
theorem dL_law_440 : decode cL_law 440 = .ok (.iconst 1, 1) := by decide +kernel
theorem dL_law_441 : decode cL_law 441 = .ok (.iadd, 1) := by decide +kernel
theorem dL_law_442 : decode cL_law 442 = .ok (.iaload, 1) := by decide +kernel
theorem dL_law_443 : decode cL_law 443 = .ok (.aload_n 0, 1) := by decide +kernel
theorem dL_law_444 : decode cL_law 444 = .ok (.iload_n 3, 1) := by decide +kernel
theorem dL_law_445 : decode cL_law 445 = .ok (.iconst 2, 1) := by decide +kernel
theorem dL_law_446 : decode cL_law 446 = .ok (.iadd, 1) := by decide +kernel
theorem dL_law_447 : decode cL_law 447 = .ok (.iaload, 1) := by decide +kernel
theorem dL_law_448 : decode cL_law 448 = .ok (.invokevirtual 55, 3) := by decide +kernel
theorem dL_law_451 : decode cL_law 451 = .ok (.if_icmp .eq 261, 3) := by decide +kernel
theorem dL_law_454 : decode cL_law 454 = .ok (.iconst 0, 1) := by decide +kernel
theorem dL_law_455 : decode cL_law 455 = .ok (.ireturn, 1) := by decide +kernel
theorem dL_law_456 : decode cL_law 456 = .ok (.aload_n 1, 1) := by decide +kernel
theorem dL_law_457 : decode cL_law 457 = .ok (.invokevirtual 56, 3) := by decide +kernel
theorem dL_law_460 : decode cL_law 460 = .ok (.aload_n 2, 1) := by decide +kernel
theorem dL_law_461 : decode cL_law 461 = .ok (.invokevirtual 60, 3) := by decide +kernel
theorem dL_law_464 : decode cL_law 464 = .ok (.if_icmp .eq 248, 3) := by decide +kernel
theorem dL_law_467 : decode cL_law 467 = .ok (.iconst 0, 1) := by decide +kernel
theorem dL_law_468 : decode cL_law 468 = .ok (.ireturn, 1) := by decide +kernel
theorem dL_law_469 : decode cL_law 469 = .ok (.aload_n 1, 1) := by decide +kernel
theorem dL_law_470 : decode cL_law 470 = .ok (.aload_n 0, 1) := by decide +kernel
theorem dL_law_471 : decode cL_law 471 = .ok (.iload_n 3, 1) := by decide +kernel
theorem dL_law_472 : decode cL_law 472 = .ok (.iconst 1, 1) := by decide +kernel
theorem dL_law_473 : decode cL_law 473 = .ok (.iadd, 1) := by decide +kernel
theorem dL_law_474 : decode cL_law 474 = .ok (.iaload, 1) := by decide +kernel
theorem dL_law_475 : decode cL_law 475 = .ok (.invokevirtual 61, 3) := by decide +kernel
theorem dL_law_478 : decode cL_law 478 = .ok (.aload_n 2, 1) := by decide +kernel
theorem dL_law_479 : decode cL_law 479 = .ok (.aload_n 0, 1) := by decide +kernel
theorem dL_law_480 : decode cL_law 480 = .ok (.iload_n 3, 1) := by decide +kernel
theorem dL_law_481 : decode cL_law 481 = .ok (.iconst 1, 1) := by decide +kernel
theorem dL_law_482 : decode cL_law 482 = .ok (.iadd, 1) := by decide +kernel
theorem dL_law_483 : decode cL_law 483 = .ok (.iaload, 1) := by decide +kernel
theorem dL_law_484 : decode cL_law 484 = .ok (.invokevirtual 64, 3) := by decide +kernel
theorem dL_law_487 : decode cL_law 487 = .ok (.if_icmp .eq 225, 3) := by decide +kernel
theorem dL_law_490 : decode cL_law 490 = .ok (.iconst 0, 1) := by decide +kernel
theorem dL_law_491 : decode cL_law 491 = .ok (.ireturn, 1) := by decide +kernel
theorem dL_law_492 : decode cL_law 492 = .ok (.aload_n 1, 1) := by decide +kernel
theorem dL_law_493 : decode cL_law 493 = .ok (.aload_n 0, 1) := by decide +kernel
theorem dL_law_494 : decode cL_law 494 = .ok (.iload_n 3, 1) := by decide +kernel
theorem dL_law_495 : decode cL_law 495 = .ok (.iconst 1, 1) := by decide +kernel
theorem dL_law_496 : decode cL_law 496 = .ok (.iadd, 1) := by decide +kernel
theorem dL_law_497 : decode cL_law 497 = .ok (.iaload, 1) := by decide +kernel
theorem dL_law_498 : decode cL_law 498 = .ok (.invokevirtual 65, 3) := by decide +kernel
theorem dL_law_501 : decode cL_law 501 = .ok (.aload_n 2, 1) := by decide +kernel
theorem dL_law_502 : decode cL_law 502 = .ok (.aload_n 0, 1) := by decide +kernel
theorem dL_law_503 : decode cL_law 503 = .ok (.iload_n 3, 1) := by decide +kernel
theorem dL_law_504 : decode cL_law 504 = .ok (.iconst 1, 1) := by decide +kernel
theorem dL_law_505 : decode cL_law 505 = .ok (.iadd, 1) := by decide +kernel
theorem dL_law_506 : decode cL_law 506 = .ok (.iaload, 1) := by decide +kernel
theorem dL_law_507 : decode cL_law 507 = .ok (.invokevirtual 68, 3) := by decide +kernel
theorem dL_law_510 : decode cL_law 510 = .ok (.if_icmp .eq 202, 3) := by decide +kernel
theorem dL_law_513 : decode cL_law 513 = .ok (.iconst 0, 1) := by decide +kernel
theorem dL_law_514 : decode cL_law 514 = .ok (.ireturn, 1) := by decide +kernel
theorem dL_law_515 : decode cL_law 515 = .ok (.aload_n 1, 1) := by decide +kernel
theorem dL_law_516 : decode cL_law 516 = .ok (.aload_n 0, 1) := by decide +kernel
theorem dL_law_517 : decode cL_law 517 = .ok (.iload_n 3, 1) := by decide +kernel
theorem dL_law_518 : decode cL_law 518 = .ok (.iconst 1, 1) := by decide +kernel
theorem dL_law_519 : decode cL_law 519 = .ok (.iadd, 1) := by decide +kernel
theorem dL_law_520 : decode cL_law 520 = .ok (.iaload, 1) := by decide +kernel
theorem dL_law_521 : decode cL_law 521 = .ok (.invokevirtual 69, 3) := by decide +kernel
theorem dL_law_524 : decode cL_law 524 = .ok (.aload_n 2, 1) := by decide +kernel
theorem dL_law_525 : decode cL_law 525 = .ok (.aload_n 0, 1) := by decide +kernel
theorem dL_law_526 : decode cL_law 526 = .ok (.iload_n 3, 1) := by decide +kernel
theorem dL_law_527 : decode cL_law 527 = .ok (.iconst 1, 1) := by decide +kernel
theorem dL_law_528 : decode cL_law 528 = .ok (.iadd, 1) := by decide +kernel
theorem dL_law_529 : decode cL_law 529 = .ok (.iaload, 1) := by decide +kernel
theorem dL_law_530 : decode cL_law 530 = .ok (.invokevirtual 72, 3) := by decide +kernel
theorem dL_law_533 : decode cL_law 533 = .ok (.if_icmp .eq 179, 3) := by decide +kernel
theorem dL_law_536 : decode cL_law 536 = .ok (.iconst 0, 1) := by decide +kernel
theorem dL_law_537 : decode cL_law 537 = .ok (.ireturn, 1) := by decide +kernel
theorem dL_law_538 : decode cL_law 538 = .ok (.aload_n 1, 1) := by decide +kernel
theorem dL_law_539 : decode cL_law 539 = .ok (.aload_n 0, 1) := by decide +kernel
theorem dL_law_540 : decode cL_law 540 = .ok (.iload_n 3, 1) := by decide +kernel
theorem dL_law_541 : decode cL_law 541 = .ok (.iconst 1, 1) := by decide +kernel
theorem dL_law_542 : decode cL_law 542 = .ok (.iadd, 1) := by decide +kernel
theorem dL_law_543 : decode cL_law 543 = .ok (.iaload, 1) := by decide +kernel
theorem dL_law_544 : decode cL_law 544 = .ok (.invokevirtual 73, 3) := by decide +kernel
theorem dL_law_547 : decode cL_law 547 = .ok (.aload_n 2, 1) := by decide +kernel
theorem dL_law_548 : decode cL_law 548 = .ok (.aload_n 0, 1) := by decide +kernel
theorem dL_law_549 : decode cL_law 549 = .ok (.iload_n 3, 1) := by decide +kernel
theorem dL_law_550 : decode cL_law 550 = .ok (.iconst 1, 1) := by decide +kernel
theorem dL_law_551 : decode cL_law 551 = .ok (.iadd, 1) := by decide +kernel
theorem dL_law_552 : decode cL_law 552 = .ok (.iaload, 1) := by decide +kernel
theorem dL_law_553 : decode cL_law 553 = .ok (.invokevirtual 76, 3) := by decide +kernel
theorem dL_law_556 : decode cL_law 556 = .ok (.if_icmp .eq 156, 3) := by decide +kernel
theorem dL_law_559 : decode cL_law 559 = .ok (.iconst 0, 1) := by decide +kernel
theorem dL_law_560 : decode cL_law 560 = .ok (.ireturn, 1) := by decide +kernel
theorem dL_law_561 : decode cL_law 561 = .ok (.aload_n 1, 1) := by decide +kernel
theorem dL_law_562 : decode cL_law 562 = .ok (.aload_n 0, 1) := by decide +kernel
theorem dL_law_563 : decode cL_law 563 = .ok (.iload_n 3, 1) := by decide +kernel
theorem dL_law_564 : decode cL_law 564 = .ok (.iconst 1, 1) := by decide +kernel
theorem dL_law_565 : decode cL_law 565 = .ok (.iadd, 1) := by decide +kernel
theorem dL_law_566 : decode cL_law 566 = .ok (.iaload, 1) := by decide +kernel
theorem dL_law_567 : decode cL_law 567 = .ok (.i2l, 1) := by decide +kernel
theorem dL_law_568 : decode cL_law 568 = .ok (.bipush 32, 2) := by decide +kernel
theorem dL_law_570 : decode cL_law 570 = .ok (.lshl, 1) := by decide +kernel
theorem dL_law_571 : decode cL_law 571 = .ok (.aload_n 0, 1) := by decide +kernel
theorem dL_law_572 : decode cL_law 572 = .ok (.iload_n 3, 1) := by decide +kernel
theorem dL_law_573 : decode cL_law 573 = .ok (.iconst 2, 1) := by decide +kernel
theorem dL_law_574 : decode cL_law 574 = .ok (.iadd, 1) := by decide +kernel
theorem dL_law_575 : decode cL_law 575 = .ok (.iaload, 1) := by decide +kernel
theorem dL_law_576 : decode cL_law 576 = .ok (.i2l, 1) := by decide +kernel
theorem dL_law_577 : decode cL_law 577 = .ok (.ldc2_w 77, 3) := by decide +kernel
theorem dL_law_580 : decode cL_law 580 = .ok (.land, 1) := by decide +kernel
theorem dL_law_581 : decode cL_law 581 = .ok (.lor, 1) := by decide +kernel
theorem dL_law_582 : decode cL_law 582 = .ok (.invokevirtual 79, 3) := by decide +kernel
theorem dL_law_585 : decode cL_law 585 = .ok (.aload_n 2, 1) := by decide +kernel
theorem dL_law_586 : decode cL_law 586 = .ok (.aload_n 0, 1) := by decide +kernel
theorem dL_law_587 : decode cL_law 587 = .ok (.iload_n 3, 1) := by decide +kernel
theorem dL_law_588 : decode cL_law 588 = .ok (.iconst 1, 1) := by decide +kernel
theorem dL_law_589 : decode cL_law 589 = .ok (.iadd, 1) := by decide +kernel
theorem dL_law_590 : decode cL_law 590 = .ok (.iaload, 1) := by decide +kernel
theorem dL_law_591 : decode cL_law 591 = .ok (.i2l, 1) := by decide +kernel
theorem dL_law_592 : decode cL_law 592 = .ok (.bipush 32, 2) := by decide +kernel
theorem dL_law_594 : decode cL_law 594 = .ok (.lshl, 1) := by decide +kernel
theorem dL_law_595 : decode cL_law 595 = .ok (.aload_n 0, 1) := by decide +kernel
theorem dL_law_596 : decode cL_law 596 = .ok (.iload_n 3, 1) := by decide +kernel
theorem dL_law_597 : decode cL_law 597 = .ok (.iconst 2, 1) := by decide +kernel
theorem dL_law_598 : decode cL_law 598 = .ok (.iadd, 1) := by decide +kernel
theorem dL_law_599 : decode cL_law 599 = .ok (.iaload, 1) := by decide +kernel
theorem dL_law_600 : decode cL_law 600 = .ok (.i2l, 1) := by decide +kernel
theorem dL_law_601 : decode cL_law 601 = .ok (.ldc2_w 77, 3) := by decide +kernel
theorem dL_law_604 : decode cL_law 604 = .ok (.land, 1) := by decide +kernel
theorem dL_law_605 : decode cL_law 605 = .ok (.lor, 1) := by decide +kernel
theorem dL_law_606 : decode cL_law 606 = .ok (.invokevirtual 83, 3) := by decide +kernel
theorem dL_law_609 : decode cL_law 609 = .ok (.if_icmp .eq 103, 3) := by decide +kernel
theorem dL_law_612 : decode cL_law 612 = .ok (.iconst 0, 1) := by decide +kernel
theorem dL_law_613 : decode cL_law 613 = .ok (.ireturn, 1) := by decide +kernel
theorem dL_law_614 : decode cL_law 614 = .ok (.aload_n 1, 1) := by decide +kernel
theorem dL_law_615 : decode cL_law 615 = .ok (.invokevirtual 84, 3) := by decide +kernel
theorem dL_law_618 : decode cL_law 618 = .ok (.aload_n 2, 1) := by decide +kernel
theorem dL_law_619 : decode cL_law 619 = .ok (.invokevirtual 87, 3) := by decide +kernel
theorem dL_law_622 : decode cL_law 622 = .ok (.if_icmp .eq 90, 3) := by decide +kernel
theorem dL_law_625 : decode cL_law 625 = .ok (.iconst 0, 1) := by decide +kernel
theorem dL_law_626 : decode cL_law 626 = .ok (.ireturn, 1) := by decide +kernel
theorem dL_law_627 : decode cL_law 627 = .ok (.aload_n 1, 1) := by decide +kernel
theorem dL_law_628 : decode cL_law 628 = .ok (.invokevirtual 88, 3) := by decide +kernel
theorem dL_law_631 : decode cL_law 631 = .ok (.aload_n 2, 1) := by decide +kernel
theorem dL_law_632 : decode cL_law 632 = .ok (.invokevirtual 91, 3) := by decide +kernel
theorem dL_law_635 : decode cL_law 635 = .ok (.if_icmp .eq 77, 3) := by decide +kernel
theorem dL_law_638 : decode cL_law 638 = .ok (.iconst 0, 1) := by decide +kernel
theorem dL_law_639 : decode cL_law 639 = .ok (.ireturn, 1) := by decide +kernel
theorem dL_law_640 : decode cL_law 640 = .ok (.aload_n 1, 1) := by decide +kernel
theorem dL_law_641 : decode cL_law 641 = .ok (.invokevirtual 92, 3) := by decide +kernel
theorem dL_law_644 : decode cL_law 644 = .ok (.aload_n 2, 1) := by decide +kernel
theorem dL_law_645 : decode cL_law 645 = .ok (.invokevirtual 95, 3) := by decide +kernel
theorem dL_law_648 : decode cL_law 648 = .ok (.if_icmp .eq 64, 3) := by decide +kernel
theorem dL_law_651 : decode cL_law 651 = .ok (.iconst 0, 1) := by decide +kernel
theorem dL_law_652 : decode cL_law 652 = .ok (.ireturn, 1) := by decide +kernel
theorem dL_law_653 : decode cL_law 653 = .ok (.aload_n 1, 1) := by decide +kernel
theorem dL_law_654 : decode cL_law 654 = .ok (.invokevirtual 96, 3) := by decide +kernel
theorem dL_law_657 : decode cL_law 657 = .ok (.aload_n 2, 1) := by decide +kernel
theorem dL_law_658 : decode cL_law 658 = .ok (.invokevirtual 99, 3) := by decide +kernel
theorem dL_law_661 : decode cL_law 661 = .ok (.if_icmp .eq 51, 3) := by decide +kernel
theorem dL_law_664 : decode cL_law 664 = .ok (.iconst 0, 1) := by decide +kernel
theorem dL_law_665 : decode cL_law 665 = .ok (.ireturn, 1) := by decide +kernel
theorem dL_law_666 : decode cL_law 666 = .ok (.aload_n 1, 1) := by decide +kernel
theorem dL_law_667 : decode cL_law 667 = .ok (.aload_n 0, 1) := by decide +kernel
theorem dL_law_668 : decode cL_law 668 = .ok (.iload_n 3, 1) := by decide +kernel
theorem dL_law_669 : decode cL_law 669 = .ok (.iconst 1, 1) := by decide +kernel
theorem dL_law_670 : decode cL_law 670 = .ok (.iadd, 1) := by decide +kernel
theorem dL_law_671 : decode cL_law 671 = .ok (.iaload, 1) := by decide +kernel
theorem dL_law_672 : decode cL_law 672 = .ok (.invokevirtual 100, 3) := by decide +kernel
theorem dL_law_675 : decode cL_law 675 = .ok (.aload_n 2, 1) := by decide +kernel
theorem dL_law_676 : decode cL_law 676 = .ok (.aload_n 0, 1) := by decide +kernel
theorem dL_law_677 : decode cL_law 677 = .ok (.iload_n 3, 1) := by decide +kernel
theorem dL_law_678 : decode cL_law 678 = .ok (.iconst 1, 1) := by decide +kernel
theorem dL_law_679 : decode cL_law 679 = .ok (.iadd, 1) := by decide +kernel
theorem dL_law_680 : decode cL_law 680 = .ok (.iaload, 1) := by decide +kernel
theorem dL_law_681 : decode cL_law 681 = .ok (.invokevirtual 103, 3) := by decide +kernel
theorem dL_law_684 : decode cL_law 684 = .ok (.if_icmp .eq 28, 3) := by decide +kernel
theorem dL_law_687 : decode cL_law 687 = .ok (.iconst 0, 1) := by decide +kernel
theorem dL_law_688 : decode cL_law 688 = .ok (.ireturn, 1) := by decide +kernel
theorem dL_law_689 : decode cL_law 689 = .ok (.aload_n 1, 1) := by decide +kernel
theorem dL_law_690 : decode cL_law 690 = .ok (.aload_n 0, 1) := by decide +kernel
theorem dL_law_691 : decode cL_law 691 = .ok (.iload_n 3, 1) := by decide +kernel
theorem dL_law_692 : decode cL_law 692 = .ok (.iconst 1, 1) := by decide +kernel
theorem dL_law_693 : decode cL_law 693 = .ok (.iadd, 1) := by decide +kernel
theorem dL_law_694 : decode cL_law 694 = .ok (.iaload, 1) := by decide +kernel
theorem dL_law_695 : decode cL_law 695 = .ok (.invokevirtual 104, 3) := by decide +kernel
theorem dL_law_698 : decode cL_law 698 = .ok (.aload_n 2, 1) := by decide +kernel
theorem dL_law_699 : decode cL_law 699 = .ok (.aload_n 0, 1) := by decide +kernel
theorem dL_law_700 : decode cL_law 700 = .ok (.iload_n 3, 1) := by decide +kernel
theorem dL_law_701 : decode cL_law 701 = .ok (.iconst 1, 1) := by decide +kernel
theorem dL_law_702 : decode cL_law 702 = .ok (.iadd, 1) := by decide +kernel
theorem dL_law_703 : decode cL_law 703 = .ok (.iaload, 1) := by decide +kernel
theorem dL_law_704 : decode cL_law 704 = .ok (.invokevirtual 107, 3) := by decide +kernel
theorem dL_law_707 : decode cL_law 707 = .ok (.if_icmp .eq 5, 3) := by decide +kernel
theorem dL_law_710 : decode cL_law 710 = .ok (.iconst 0, 1) := by decide +kernel
theorem dL_law_711 : decode cL_law 711 = .ok (.ireturn, 1) := by decide +kernel
theorem dL_law_712 : decode cL_law 712 = .ok (.iinc 3 4, 3) := by decide +kernel
theorem dL_law_715 : decode cL_law 715 = .ok (.goto (-697), 3) := by decide +kernel
theorem dL_law_718 : decode cL_law 718 = .ok (.iconst 1, 1) := by decide +kernel
theorem dL_law_719 : decode cL_law 719 = .ok (.ireturn, 1) := by decide +kernel
end
section
/-! own rows over the kit: numbers as images of Int, a context X, worlds as lists of cells -/
def iI (z : Int) : Int32 := Int32.ofInt z
theorem iI_add (a b : Int) : iI a + iI b = iI (a + b) := by
  unfold iI; rw [Int32.ofInt_add]
theorem iI_sub (a b : Int) : iI a - iI b = iI (a - b) := by
  unfold iI; rw [Int32.ofInt_sub]
theorem iI_mul (a b : Int) : iI a * iI b = iI (a * b) := by
  unfold iI; rw [Int32.ofInt_mul]
theorem iI_neg (a : Int) : -iI a = iI (-a) := by
  unfold iI; rw [Int32.ofInt_neg]
theorem iI_toInt {z : Int} (h : -2147483648 ≤ z ∧ z < 2147483648) : (iI z).toInt = z := by
  unfold iI
  rw [Int32.toInt_ofInt]
  obtain ⟨h1, h2⟩ := h
  have e : ((2 : Nat) ^ 32 : Nat) = 4294967296 := rfl
  simp only [Int.bmod, Int32.size] at *
  omega
theorem iI_self (x : Int32) : iI x.toInt = x := by
  unfold iI
  exact Int32.ofInt_toInt x
theorem iI_rng (x : Int32) : -2147483648 ≤ x.toInt ∧ x.toInt < 2147483648 := ⟨Int32.le_toInt x, Int32.toInt_lt x⟩
theorem iI_lt {a b : Int} (ha : -2147483648 ≤ a ∧ a < 2147483648) (hb : -2147483648 ≤ b ∧ b < 2147483648) : iI a < iI b ↔ a < b := by
  rw [Int32.lt_iff_toInt_lt, iI_toInt ha, iI_toInt hb]
theorem iI_le {a b : Int} (ha : -2147483648 ≤ a ∧ a < 2147483648) (hb : -2147483648 ≤ b ∧ b < 2147483648) : iI a ≤ iI b ↔ a ≤ b := by
  rw [Int32.le_iff_toInt_le, iI_toInt ha, iI_toInt hb]
theorem iI_eq {a b : Int} (ha : -2147483648 ≤ a ∧ a < 2147483648) (hb : -2147483648 ≤ b ∧ b < 2147483648) : iI a = iI b ↔ a = b := by
  rw [← Int32.toInt_inj, iI_toInt ha, iI_toInt hb]
theorem iI_nI (n : Nat) : nI n = iI (n : Int) := rfl
theorem iI_nat {z : Int} (h : 0 ≤ z) : iI z = nI z.toNat := by
  rw [iI_nI, Int.toNat_of_nonneg h]
theorem iI_cl {z : Int} (h : 0 ≤ z ∧ z < 2147483648) : (iI z).toNatClampNeg = z.toNat := by
  rw [iI_nat h.1]
  exact nI_clamp (by omega)
theorem iI_in {z : Int} {n : Nat} (h : 0 ≤ z ∧ z < (n : Int)) (hn : (n : Int) < 2147483648) : vp_in (iI z) n := by
  rw [iI_nat h.1]
  exact vp_in_nI (by omega) (by omega)
theorem iI_div {a b : Int} (ha : 0 ≤ a ∧ a < 2147483648) (hb : 0 < b ∧ b < 2147483648) : iI a / iI b = iI (a / b) := by
  rw [iI_nat ha.1, iI_nat (by omega : 0 ≤ b), pk_div (by omega) (by omega) (by omega), iI_nI]
  congr 1
  have h1 : ((a.toNat / b.toNat : Nat) : Int) = (a.toNat : Int) / (b.toNat : Int) := Int.natCast_ediv _ _
  rw [h1, Int.toNat_of_nonneg ha.1, Int.toNat_of_nonneg (by omega : 0 ≤ b)]
theorem iI_rem {a b : Int} (ha : 0 ≤ a ∧ a < 2147483648) (hb : 0 < b ∧ b < 2147483648) : iI a - iI a / iI b * iI b = iI (a % b) := by
  rw [iI_div ha hb, iI_mul, iI_sub, Int.emod_def, Int.mul_comm]
theorem iI_ne0 {b : Int} (hb : 0 < b ∧ b < 2147483648) : ¬ iI b = 0 := by
  intro h
  have h2 : iI b = iI 0 := h
  rw [iI_eq ⟨by omega, by omega⟩ ⟨by omega, by omega⟩] at h2
  omega
/-- a truth value as a number -/
noncomputable def zb (P : Prop) : Int := @ite Int P (Classical.propDecidable P) 1 0
theorem zb_t {P : Prop} (h : P) : zb P = 1 := if_pos h
theorem zb_f {P : Prop} (h : ¬ P) : zb P = 0 := if_neg h
theorem zb_01 (P : Prop) : zb P = 0 ∨ zb P = 1 := by
  by_cases h : P
  · exact Or.inr (zb_t h)
  · exact Or.inl (zb_f h)
theorem zb_rng (P : Prop) : 0 ≤ zb P ∧ zb P ≤ 1 := by
  rcases zb_01 P with h | h <;> rw [h] <;> decide
theorem zb_eq0 {P : Prop} : zb P = 0 ↔ ¬ P := by
  by_cases h : P
  · rw [zb_t h]; exact ⟨fun e => absurd e (by decide), fun e => absurd h e⟩
  · rw [zb_f h]; exact ⟨fun _ => h, fun _ => rfl⟩
theorem zb_eq1 {P : Prop} : zb P = 1 ↔ P := by
  by_cases h : P
  · rw [zb_t h]; exact ⟨fun _ => h, fun _ => rfl⟩
  · rw [zb_f h]; exact ⟨fun e => absurd e (by decide), fun e => absurd e h⟩
theorem zb_cong {P Q : Prop} (h : P ↔ Q) : zb P = zb Q := by rw [propext h]
/-- a row of numbers with one changed -/
def zu (f : Int → Int) (i v : Int) : Int → Int := fun j => if j = i then v else f j
theorem zu_s {f : Int → Int} {i v : Int} : zu f i v i = v := if_pos rfl
theorem zu_n {f : Int → Int} {i v j : Int} (h : j ≠ i) : zu f i v j = f j := if_neg h
theorem zu_upd {f : Int → Int} {i v : Int} (h : 0 ≤ i ∧ i < 2147483648) : upd (fun j : Nat => iI (f j)) (iI i).toNatClampNeg (iI v) = fun j : Nat => iI (zu f i v j) := by
  funext j
  rw [iI_cl h]
  unfold upd zu
  by_cases hj : j = i.toNat
  · rw [if_pos hj, if_pos (by omega)]
  · rw [if_neg hj, if_neg (by omega)]
abbrev zZ : Type := va_G × ClassId × ClassId × ClassId × ClassId
abbrev zT (Z : zZ) : List (ClassId × FieldType) := [(Z.2.1, .int), (Z.2.2.1, .boolean), (Z.2.2.2.1, .char), (Z.2.2.2.2, .object "MeshTurns$State")]
def zX : Type := Program × Launch × Env × Room × State × MethodId × Array Value × List Frame × Method × Code × (State → Prop) × zZ × (Nat → Prop) × Heap
def zV (X : zX) (k n : Nat) (ws : va_W) (pc : Nat) (lv : List (Nat × Value)) (st : List Value) : Prop :=
  match X with
  | (p, l, e, R, s, m, args, below, meth, c, Q, Z, A, H0) => ∀ (H : Heap) (locs : List Loc) (ls : Array Slot), va_P Z.1 vwCl ws H → va_D A ws → va_S A H0 H locs → lv_has ls c.maxLocals lv → W p l e R s m args below meth c H locs k n Q (F0 m pc ls st)
def zOK (X : zX) (Z : zZ) (R : Room) (cc : ByteArray) (own : String) (nL : Nat) : Prop :=
  match X with
  | (p, _, _, R', s, m, args, _, _, c, _, Z', A, H0) => R' = R ∧ Z' = Z ∧ p.tables.exec = Jvm.exec ∧ c.code = cc ∧ c.maxLocals = nL ∧ s.vm.findClass own = some m.cls ∧ (∀ w ∈ wsL_law, w.before args s = true) ∧ va_K Z.1 vwCl (zT Z) s ∧ (∀ q, H0.size ≤ q → A q)
theorem zlk {lv : List (Nat × Value)} {i : Nat} {v : Value} (h : lv.lookup i = some v) : (i, v) ∈ lv := by
  induction lv with
  | nil => cases h
  | cons q t ih =>
    obtain ⟨j, w⟩ := q
    rw [List.lookup_cons] at h
    split at h
    · rename_i e
      have e : i = j := by simpa using e
      cases h
      subst e
      exact List.mem_cons_self
    · exact List.mem_cons_of_mem _ (ih h)
theorem zlv {ls : Array Slot} {nL : Nat} {lv : List (Nat × Value)} {i : Nat} {v : Value} (h : lv_has ls nL lv) (hv : lv.lookup i = some v) : ls[i]? = some (.val v) := h.2.2 (i, v) (zlk hv)
section ZR
variable {X : zX} {Z : zZ} {R : Room} {cc : ByteArray} {own : String} {nL : Nat} {k n : Nat} {ws : va_W} {pc : Nat} {lv : List (Nat × Value)} {st : List Value}
theorem z_iconst (ok : zOK X Z R cc own nL) {z : Int} (d : decode cc pc = .ok (.iconst z, 1)) (h : zV X k n ws (pc + 1) lv (.int (iI z) :: st)) : zV X k n ws pc lv st := by
  obtain ⟨p, l, e0, R, s, m, args, below, meth, c, Q, Z, A, H0⟩ := X
  obtain ⟨rfl, rfl, hx, hb, hml, ho, hts, hK, hA⟩ := ok
  intro H locs ls hP hD hS hl
  exact lv_iconst hx hb d rfl (h H locs ls hP hD hS hl)
theorem z_bipush (ok : zOK X Z R cc own nL) {z : Int} (d : decode cc pc = .ok (.bipush z, 2)) (e : (Int8.ofInt z).toInt32 = iI z) (h : zV X k n ws (pc + 2) lv (.int (iI z) :: st)) : zV X k n ws pc lv st := by
  obtain ⟨p, l, e0, R, s, m, args, below, meth, c, Q, Z, A, H0⟩ := X
  obtain ⟨rfl, rfl, hx, hb, hml, ho, hts, hK, hA⟩ := ok
  intro H locs ls hP hD hS hl
  exact lv_bipush hx hb d e (h H locs ls hP hD hS hl)
theorem z_sipush (ok : zOK X Z R cc own nL) {z : Int} (d : decode cc pc = .ok (.sipush z, 3)) (e : (Int16.ofInt z).toInt32 = iI z) (h : zV X k n ws (pc + 3) lv (.int (iI z) :: st)) : zV X k n ws pc lv st := by
  obtain ⟨p, l, e0, R, s, m, args, below, meth, c, Q, Z, A, H0⟩ := X
  obtain ⟨rfl, rfl, hx, hb, hml, ho, hts, hK, hA⟩ := ok
  intro H locs ls hP hD hS hl
  exact lv_sipush hx hb d e (h H locs ls hP hD hS hl)
theorem z_lconst (ok : zOK X Z R cc own nL) {z : Fin 2} {v : Int64} (d : decode cc pc = .ok (.lconst z, 1)) (e : Int64.ofNat (z : Nat) = v) (h : zV X k n ws (pc + 1) lv (.long v :: st)) : zV X k n ws pc lv st := by
  obtain ⟨p, l, e0, R, s, m, args, below, meth, c, Q, Z, A, H0⟩ := X
  obtain ⟨rfl, rfl, hx, hb, hml, ho, hts, hK, hA⟩ := ok
  intro H locs ls hP hD hS hl
  exact lv_lconst hx hb d e (h H locs ls hP hD hS hl)
theorem z_iload_n (ok : zOK X Z R cc own nL) {i : Fin 4} {v : Int32} (d : decode cc pc = .ok (.iload_n i, 1)) (e : lv.lookup (i : Nat) = some (.int v)) (h : zV X k n ws (pc + 1) lv (.int v :: st)) : zV X k n ws pc lv st := by
  obtain ⟨p, l, e0, R, s, m, args, below, meth, c, Q, Z, A, H0⟩ := X
  obtain ⟨rfl, rfl, hx, hb, hml, ho, hts, hK, hA⟩ := ok
  intro H locs ls hP hD hS hl
  exact lv_iload_n hx hb d rfl (zlv hl e) (h H locs ls hP hD hS hl)
theorem z_iload (ok : zOK X Z R cc own nL) {i : Nat} {v : Int32} (d : decode cc pc = .ok (.iload i, 2)) (e : lv.lookup i = some (.int v)) (h : zV X k n ws (pc + 2) lv (.int v :: st)) : zV X k n ws pc lv st := by
  obtain ⟨p, l, e0, R, s, m, args, below, meth, c, Q, Z, A, H0⟩ := X
  obtain ⟨rfl, rfl, hx, hb, hml, ho, hts, hK, hA⟩ := ok
  intro H locs ls hP hD hS hl
  exact lv_iload hx hb d (zlv hl e) (h H locs ls hP hD hS hl)
theorem z_lload_n (ok : zOK X Z R cc own nL) {i : Fin 4} {v : Int64} (d : decode cc pc = .ok (.lload_n i, 1)) (e : lv.lookup (i : Nat) = some (.long v)) (h : zV X k n ws (pc + 1) lv (.long v :: st)) : zV X k n ws pc lv st := by
  obtain ⟨p, l, e0, R, s, m, args, below, meth, c, Q, Z, A, H0⟩ := X
  obtain ⟨rfl, rfl, hx, hb, hml, ho, hts, hK, hA⟩ := ok
  intro H locs ls hP hD hS hl
  exact lv_lload_n hx hb d rfl (zlv hl e) (h H locs ls hP hD hS hl)
theorem z_lload (ok : zOK X Z R cc own nL) {i : Nat} {v : Int64} (d : decode cc pc = .ok (.lload i, 2)) (e : lv.lookup i = some (.long v)) (h : zV X k n ws (pc + 2) lv (.long v :: st)) : zV X k n ws pc lv st := by
  obtain ⟨p, l, e0, R, s, m, args, below, meth, c, Q, Z, A, H0⟩ := X
  obtain ⟨rfl, rfl, hx, hb, hml, ho, hts, hK, hA⟩ := ok
  intro H locs ls hP hD hS hl
  exact lv_lload hx hb d (zlv hl e) (h H locs ls hP hD hS hl)
theorem z_aload_n (ok : zOK X Z R cc own nL) {i : Fin 4} {v : Nat} (d : decode cc pc = .ok (.aload_n i, 1)) (e : lv.lookup (i : Nat) = some (.ref v)) (h : zV X k n ws (pc + 1) lv (.ref v :: st)) : zV X k n ws pc lv st := by
  obtain ⟨p, l, e0, R, s, m, args, below, meth, c, Q, Z, A, H0⟩ := X
  obtain ⟨rfl, rfl, hx, hb, hml, ho, hts, hK, hA⟩ := ok
  intro H locs ls hP hD hS hl
  exact lv_aload_n hx hb d rfl (zlv hl e) (h H locs ls hP hD hS hl)
theorem z_aload (ok : zOK X Z R cc own nL) {i : Nat} {v : Nat} (d : decode cc pc = .ok (.aload i, 2)) (e : lv.lookup i = some (.ref v)) (h : zV X k n ws (pc + 2) lv (.ref v :: st)) : zV X k n ws pc lv st := by
  obtain ⟨p, l, e0, R, s, m, args, below, meth, c, Q, Z, A, H0⟩ := X
  obtain ⟨rfl, rfl, hx, hb, hml, ho, hts, hK, hA⟩ := ok
  intro H locs ls hP hD hS hl
  exact lv_aload hx hb d (zlv hl e) (h H locs ls hP hD hS hl)
theorem z_istore_n (ok : zOK X Z R cc own nL) {i : Fin 4} {v : Int32} {lv' : List (Nat × Value)} (d : decode cc pc = .ok (.istore_n i, 1)) (hn : (i : Nat) < nL) (e : ((i : Nat), Value.int v) :: lv.filter (fun q => !(q.1 == (i : Nat)) && !(q.1 + 1 == (i : Nat) && q.2.category == 2)) = lv') (h : zV X k n ws (pc + 1) lv' st) : zV X k n ws pc lv (.int v :: st) := by
  obtain ⟨p, l, e0, R, s, m, args, below, meth, c, Q, Z, A, H0⟩ := X
  obtain ⟨rfl, rfl, hx, hb, hml, ho, hts, hK, hA⟩ := ok
  intro H locs ls hP hD hS hl
  exact lv_istore_n hx hb d rfl hl (by rw [hml]; exact hn) e (fun ls' hl' => h H locs ls' hP hD hS hl')
theorem z_istore (ok : zOK X Z R cc own nL) {i : Nat} {v : Int32} {lv' : List (Nat × Value)} (d : decode cc pc = .ok (.istore i, 2)) (hn : i < nL) (e : (i, Value.int v) :: lv.filter (fun q => !(q.1 == i) && !(q.1 + 1 == i && q.2.category == 2)) = lv') (h : zV X k n ws (pc + 2) lv' st) : zV X k n ws pc lv (.int v :: st) := by
  obtain ⟨p, l, e0, R, s, m, args, below, meth, c, Q, Z, A, H0⟩ := X
  obtain ⟨rfl, rfl, hx, hb, hml, ho, hts, hK, hA⟩ := ok
  intro H locs ls hP hD hS hl
  exact lv_istore hx hb d hl (by rw [hml]; exact hn) e (fun ls' hl' => h H locs ls' hP hD hS hl')
theorem z_lstore_n (ok : zOK X Z R cc own nL) {i : Fin 4} {v : Int64} {lv' : List (Nat × Value)} (d : decode cc pc = .ok (.lstore_n i, 1)) (hn : (i : Nat) + 1 < nL) (e : ((i : Nat), Value.long v) :: lv.filter (fun q => !(q.1 == (i : Nat)) && (!(q.1 == (i : Nat) + 1) && !(q.1 + 1 == (i : Nat) && q.2.category == 2))) = lv') (h : zV X k n ws (pc + 1) lv' st) : zV X k n ws pc lv (.long v :: st) := by
  obtain ⟨p, l, e0, R, s, m, args, below, meth, c, Q, Z, A, H0⟩ := X
  obtain ⟨rfl, rfl, hx, hb, hml, ho, hts, hK, hA⟩ := ok
  intro H locs ls hP hD hS hl
  exact lv_lstore_n hx hb d rfl hl (by rw [hml]; exact hn) e (fun ls' hl' => h H locs ls' hP hD hS hl')
theorem z_lstore (ok : zOK X Z R cc own nL) {i : Nat} {v : Int64} {lv' : List (Nat × Value)} (d : decode cc pc = .ok (.lstore i, 2)) (hn : i + 1 < nL) (e : (i, Value.long v) :: lv.filter (fun q => !(q.1 == i) && (!(q.1 == i + 1) && !(q.1 + 1 == i && q.2.category == 2))) = lv') (h : zV X k n ws (pc + 2) lv' st) : zV X k n ws pc lv (.long v :: st) := by
  obtain ⟨p, l, e0, R, s, m, args, below, meth, c, Q, Z, A, H0⟩ := X
  obtain ⟨rfl, rfl, hx, hb, hml, ho, hts, hK, hA⟩ := ok
  intro H locs ls hP hD hS hl
  exact lv_lstore hx hb d hl (by rw [hml]; exact hn) e (fun ls' hl' => h H locs ls' hP hD hS hl')
theorem z_astore_n (ok : zOK X Z R cc own nL) {i : Fin 4} {v : Nat} {lv' : List (Nat × Value)} (d : decode cc pc = .ok (.astore_n i, 1)) (hn : (i : Nat) < nL) (e : ((i : Nat), Value.ref v) :: lv.filter (fun q => !(q.1 == (i : Nat)) && !(q.1 + 1 == (i : Nat) && q.2.category == 2)) = lv') (h : zV X k n ws (pc + 1) lv' st) : zV X k n ws pc lv (.ref v :: st) := by
  obtain ⟨p, l, e0, R, s, m, args, below, meth, c, Q, Z, A, H0⟩ := X
  obtain ⟨rfl, rfl, hx, hb, hml, ho, hts, hK, hA⟩ := ok
  intro H locs ls hP hD hS hl
  exact lv_astore_n hx hb d rfl hl (by rw [hml]; exact hn) e (fun ls' hl' => h H locs ls' hP hD hS hl')
theorem z_iinc (ok : zOK X Z R cc own nL) {i : Nat} {z a : Int} {lv' : List (Nat × Value)} (d : decode cc pc = .ok (.iinc i z, 3)) (q : Nat) (hq : lv[q]? = some (i, .int (iI a))) (hn : i < nL) (e : (i, Value.int (iI (a + z))) :: lv.filter (fun q => !(q.1 == i) && !(q.1 + 1 == i && q.2.category == 2)) = lv') (h : zV X k n ws (pc + 3) lv' st) : zV X k n ws pc lv st := by
  obtain ⟨p, l, e0, R, s, m, args, below, meth, c, Q, Z, A, H0⟩ := X
  obtain ⟨rfl, rfl, hx, hb, hml, ho, hts, hK, hA⟩ := ok
  intro H locs ls hP hD hS hl
  exact lv_iinc hx hb d hl hq (iI_add a z) (by rw [hml]; exact hn) e (fun ls' hl' => h H locs ls' hP hD hS hl')
theorem z_lsub (ok : zOK X Z R cc own nL) {lv' : List (Nat × Value)} (ks : List Nat) (e : lv_pick lv ks = lv') (h : zV X k n ws pc lv' st) : zV X k n ws pc lv st := by
  obtain ⟨p, l, e0, R, s, m, args, below, meth, c, Q, Z, A, H0⟩ := X
  intro H locs ls hP hD hS hl
  exact h H locs ls hP hD hS (lv_sub hl ks e)
theorem z_iadd (ok : zOK X Z R cc own nL) {a b : Int} (d : decode cc pc = .ok (.iadd, 1)) (h : zV X k n ws (pc + 1) lv (.int (iI (a + b)) :: st)) : zV X k n ws pc lv (.int (iI b) :: .int (iI a) :: st) := by
  obtain ⟨p, l, e0, R, s, m, args, below, meth, c, Q, Z, A, H0⟩ := X
  obtain ⟨rfl, rfl, hx, hb, hml, ho, hts, hK, hA⟩ := ok
  intro H locs ls hP hD hS hl
  exact lv_iadd hx hb d (by rw [iI_add]; exact h H locs ls hP hD hS hl)
theorem z_isub (ok : zOK X Z R cc own nL) {a b : Int} (d : decode cc pc = .ok (.isub, 1)) (h : zV X k n ws (pc + 1) lv (.int (iI (a - b)) :: st)) : zV X k n ws pc lv (.int (iI b) :: .int (iI a) :: st) := by
  obtain ⟨p, l, e0, R, s, m, args, below, meth, c, Q, Z, A, H0⟩ := X
  obtain ⟨rfl, rfl, hx, hb, hml, ho, hts, hK, hA⟩ := ok
  intro H locs ls hP hD hS hl
  exact lv_isub hx hb d (by rw [iI_sub]; exact h H locs ls hP hD hS hl)
theorem z_imul (ok : zOK X Z R cc own nL) {a b : Int} (d : decode cc pc = .ok (.imul, 1)) (h : zV X k n ws (pc + 1) lv (.int (iI (a * b)) :: st)) : zV X k n ws pc lv (.int (iI b) :: .int (iI a) :: st) := by
  obtain ⟨p, l, e0, R, s, m, args, below, meth, c, Q, Z, A, H0⟩ := X
  obtain ⟨rfl, rfl, hx, hb, hml, ho, hts, hK, hA⟩ := ok
  intro H locs ls hP hD hS hl
  exact lv_imul hx hb d (by rw [iI_mul]; exact h H locs ls hP hD hS hl)
theorem z_ineg (ok : zOK X Z R cc own nL) {a : Int} (d : decode cc pc = .ok (.ineg, 1)) (h : zV X k n ws (pc + 1) lv (.int (iI (-a)) :: st)) : zV X k n ws pc lv (.int (iI a) :: st) := by
  obtain ⟨p, l, e0, R, s, m, args, below, meth, c, Q, Z, A, H0⟩ := X
  obtain ⟨rfl, rfl, hx, hb, hml, ho, hts, hK, hA⟩ := ok
  intro H locs ls hP hD hS hl
  exact lv_ineg hx hb d (by rw [iI_neg]; exact h H locs ls hP hD hS hl)
theorem z_idiv (ok : zOK X Z R cc own nL) {a b : Int} (d : decode cc pc = .ok (.idiv, 1)) (ha : 0 ≤ a ∧ a < 2147483648) (hb' : 0 < b ∧ b < 2147483648) (h : zV X k n ws (pc + 1) lv (.int (iI (a / b)) :: st)) : zV X k n ws pc lv (.int (iI b) :: .int (iI a) :: st) := by
  obtain ⟨p, l, e0, R, s, m, args, below, meth, c, Q, Z, A, H0⟩ := X
  obtain ⟨rfl, rfl, hx, hb, hml, ho, hts, hK, hA⟩ := ok
  intro H locs ls hP hD hS hl
  exact lv_idiv hx hb d (iI_ne0 hb') (by rw [iI_div ha hb']; exact h H locs ls hP hD hS hl)
theorem z_irem (ok : zOK X Z R cc own nL) {a b : Int} (d : decode cc pc = .ok (.irem, 1)) (ha : 0 ≤ a ∧ a < 2147483648) (hb' : 0 < b ∧ b < 2147483648) (h : zV X k n ws (pc + 1) lv (.int (iI (a % b)) :: st)) : zV X k n ws pc lv (.int (iI b) :: .int (iI a) :: st) := by
  obtain ⟨p, l, e0, R, s, m, args, below, meth, c, Q, Z, A, H0⟩ := X
  obtain ⟨rfl, rfl, hx, hb, hml, ho, hts, hK, hA⟩ := ok
  intro H locs ls hP hD hS hl
  exact lv_irem hx hb d (iI_ne0 hb') (by rw [iI_rem ha hb']; exact h H locs ls hP hD hS hl)
theorem z_dup (ok : zOK X Z R cc own nL) {v : Value} (d : decode cc pc = .ok (.dup, 1)) (hv : v.category = 1) (h : zV X k n ws (pc + 1) lv (v :: v :: st)) : zV X k n ws pc lv (v :: st) := by
  obtain ⟨p, l, e0, R, s, m, args, below, meth, c, Q, Z, A, H0⟩ := X
  obtain ⟨rfl, rfl, hx, hb, hml, ho, hts, hK, hA⟩ := ok
  intro H locs ls hP hD hS hl
  exact lv_dup hx hb d hv (h H locs ls hP hD hS hl)
theorem z_dup2 (ok : zOK X Z R cc own nL) {v w : Value} (d : decode cc pc = .ok (.dup2, 1)) (hv : v.category = 1) (hw : w.category = 1) (h : zV X k n ws (pc + 1) lv (v :: w :: v :: w :: st)) : zV X k n ws pc lv (v :: w :: st) := by
  obtain ⟨p, l, e0, R, s, m, args, below, meth, c, Q, Z, A, H0⟩ := X
  obtain ⟨rfl, rfl, hx, hb, hml, ho, hts, hK, hA⟩ := ok
  intro H locs ls hP hD hS hl
  exact lv_dup2_11 hx hb d hv hw (h H locs ls hP hD hS hl)
theorem z_pop (ok : zOK X Z R cc own nL) {v : Value} (d : decode cc pc = .ok (.pop, 1)) (hv : v.category = 1) (h : zV X k n ws (pc + 1) lv st) : zV X k n ws pc lv (v :: st) := by
  obtain ⟨p, l, e0, R, s, m, args, below, meth, c, Q, Z, A, H0⟩ := X
  obtain ⟨rfl, rfl, hx, hb, hml, ho, hts, hK, hA⟩ := ok
  intro H locs ls hP hD hS hl
  exact lv_pop hx hb d hv (h H locs ls hP hD hS hl)
theorem z_goto (ok : zOK X Z R cc own nL) {off : Int} {tgt : Nat} (d : decode cc pc = .ok (.goto off, 3)) (ht : (pc : Int) + off = (tgt : Int)) (h : zV X k n ws tgt lv st) : zV X k n ws pc lv st := by
  obtain ⟨p, l, e0, R, s, m, args, below, meth, c, Q, Z, A, H0⟩ := X
  obtain ⟨rfl, rfl, hx, hb, hml, ho, hts, hK, hA⟩ := ok
  intro H locs ls hP hD hS hl
  exact lv_goto hx hb d ht (h H locs ls hP hD hS hl)
theorem z_icmp_eq (ok : zOK X Z R cc own nL) {a b off : Int} {tgt : Nat} (d : decode cc pc = .ok (.if_icmp .eq off, 3)) (ht : (pc : Int) + off = (tgt : Int)) (ha : -2147483648 ≤ a ∧ a < 2147483648) (hb : -2147483648 ≤ b ∧ b < 2147483648) (kt : a = b → zV X k n ws tgt lv st) (kf : ¬ a = b → zV X k n ws (pc + 3) lv st) : zV X k n ws pc lv (.int (iI b) :: .int (iI a) :: st) := by
  obtain ⟨p, l, e0, R, s, m, args, below, meth, c, Q, Z, A, H0⟩ := X
  obtain ⟨rfl, rfl, hx, hb', hml, ho, hts, hK, hA⟩ := ok
  intro H locs ls hP hD hS hl
  exact lv_icmp_eq hx hb' d ht (fun c => kt ((iI_eq ha hb).mp c) H locs ls hP hD hS hl) (fun c => kf (fun z => c ((iI_eq ha hb).mpr z)) H locs ls hP hD hS hl)
theorem z_if_eq (ok : zOK X Z R cc own nL) {a off : Int} {tgt : Nat} (d : decode cc pc = .ok (.ifCond .eq off, 3)) (ht : (pc : Int) + off = (tgt : Int)) (ha : -2147483648 ≤ a ∧ a < 2147483648) (kt : a = 0 → zV X k n ws tgt lv st) (kf : ¬ a = 0 → zV X k n ws (pc + 3) lv st) : zV X k n ws pc lv (.int (iI a) :: st) := by
  obtain ⟨p, l, e0, R, s, m, args, below, meth, c, Q, Z, A, H0⟩ := X
  obtain ⟨rfl, rfl, hx, hb', hml, ho, hts, hK, hA⟩ := ok
  intro H locs ls hP hD hS hl
  have hz : -2147483648 ≤ (0 : Int) ∧ (0 : Int) < 2147483648 := ⟨by decide, by decide⟩
  exact lv_if_eq hx hb' d ht (fun c => kt ((iI_eq ha hz).mp c) H locs ls hP hD hS hl) (fun c => kf (fun z => c ((iI_eq ha hz).mpr z)) H locs ls hP hD hS hl)
theorem z_icmp_ne (ok : zOK X Z R cc own nL) {a b off : Int} {tgt : Nat} (d : decode cc pc = .ok (.if_icmp .ne off, 3)) (ht : (pc : Int) + off = (tgt : Int)) (ha : -2147483648 ≤ a ∧ a < 2147483648) (hb : -2147483648 ≤ b ∧ b < 2147483648) (kt : ¬ a = b → zV X k n ws tgt lv st) (kf : a = b → zV X k n ws (pc + 3) lv st) : zV X k n ws pc lv (.int (iI b) :: .int (iI a) :: st) := by
  obtain ⟨p, l, e0, R, s, m, args, below, meth, c, Q, Z, A, H0⟩ := X
  obtain ⟨rfl, rfl, hx, hb', hml, ho, hts, hK, hA⟩ := ok
  intro H locs ls hP hD hS hl
  exact lv_icmp_ne hx hb' d ht (fun c => kt (fun z => c ((iI_eq ha hb).mpr z)) H locs ls hP hD hS hl) (fun c => kf ((iI_eq ha hb).mp c) H locs ls hP hD hS hl)
theorem z_if_ne (ok : zOK X Z R cc own nL) {a off : Int} {tgt : Nat} (d : decode cc pc = .ok (.ifCond .ne off, 3)) (ht : (pc : Int) + off = (tgt : Int)) (ha : -2147483648 ≤ a ∧ a < 2147483648) (kt : ¬ a = 0 → zV X k n ws tgt lv st) (kf : a = 0 → zV X k n ws (pc + 3) lv st) : zV X k n ws pc lv (.int (iI a) :: st) := by
  obtain ⟨p, l, e0, R, s, m, args, below, meth, c, Q, Z, A, H0⟩ := X
  obtain ⟨rfl, rfl, hx, hb', hml, ho, hts, hK, hA⟩ := ok
  intro H locs ls hP hD hS hl
  have hz : -2147483648 ≤ (0 : Int) ∧ (0 : Int) < 2147483648 := ⟨by decide, by decide⟩
  exact lv_if_ne hx hb' d ht (fun c => kt (fun z => c ((iI_eq ha hz).mpr z)) H locs ls hP hD hS hl) (fun c => kf ((iI_eq ha hz).mp c) H locs ls hP hD hS hl)
theorem z_icmp_lt (ok : zOK X Z R cc own nL) {a b off : Int} {tgt : Nat} (d : decode cc pc = .ok (.if_icmp .lt off, 3)) (ht : (pc : Int) + off = (tgt : Int)) (ha : -2147483648 ≤ a ∧ a < 2147483648) (hb : -2147483648 ≤ b ∧ b < 2147483648) (kt : a < b → zV X k n ws tgt lv st) (kf : b ≤ a → zV X k n ws (pc + 3) lv st) : zV X k n ws pc lv (.int (iI b) :: .int (iI a) :: st) := by
  obtain ⟨p, l, e0, R, s, m, args, below, meth, c, Q, Z, A, H0⟩ := X
  obtain ⟨rfl, rfl, hx, hb', hml, ho, hts, hK, hA⟩ := ok
  intro H locs ls hP hD hS hl
  exact lv_icmp_lt hx hb' d ht (fun c => kt ((iI_lt ha hb).mp c) H locs ls hP hD hS hl) (fun c => kf (Int.not_lt.mp (fun z => c ((iI_lt ha hb).mpr z))) H locs ls hP hD hS hl)
theorem z_if_lt (ok : zOK X Z R cc own nL) {a off : Int} {tgt : Nat} (d : decode cc pc = .ok (.ifCond .lt off, 3)) (ht : (pc : Int) + off = (tgt : Int)) (ha : -2147483648 ≤ a ∧ a < 2147483648) (kt : a < 0 → zV X k n ws tgt lv st) (kf : 0 ≤ a → zV X k n ws (pc + 3) lv st) : zV X k n ws pc lv (.int (iI a) :: st) := by
  obtain ⟨p, l, e0, R, s, m, args, below, meth, c, Q, Z, A, H0⟩ := X
  obtain ⟨rfl, rfl, hx, hb', hml, ho, hts, hK, hA⟩ := ok
  intro H locs ls hP hD hS hl
  have hz : -2147483648 ≤ (0 : Int) ∧ (0 : Int) < 2147483648 := ⟨by decide, by decide⟩
  exact lv_if_lt hx hb' d ht (fun c => kt ((iI_lt ha hz).mp c) H locs ls hP hD hS hl) (fun c => kf (Int.not_lt.mp (fun z => c ((iI_lt ha hz).mpr z))) H locs ls hP hD hS hl)
theorem z_icmp_ge (ok : zOK X Z R cc own nL) {a b off : Int} {tgt : Nat} (d : decode cc pc = .ok (.if_icmp .ge off, 3)) (ht : (pc : Int) + off = (tgt : Int)) (ha : -2147483648 ≤ a ∧ a < 2147483648) (hb : -2147483648 ≤ b ∧ b < 2147483648) (kt : b ≤ a → zV X k n ws tgt lv st) (kf : a < b → zV X k n ws (pc + 3) lv st) : zV X k n ws pc lv (.int (iI b) :: .int (iI a) :: st) := by
  obtain ⟨p, l, e0, R, s, m, args, below, meth, c, Q, Z, A, H0⟩ := X
  obtain ⟨rfl, rfl, hx, hb', hml, ho, hts, hK, hA⟩ := ok
  intro H locs ls hP hD hS hl
  exact lv_icmp_ge hx hb' d ht (fun c => kt ((iI_le hb ha).mp c) H locs ls hP hD hS hl) (fun c => kf (Int.not_le.mp (fun z => c ((iI_le hb ha).mpr z))) H locs ls hP hD hS hl)
theorem z_if_ge (ok : zOK X Z R cc own nL) {a off : Int} {tgt : Nat} (d : decode cc pc = .ok (.ifCond .ge off, 3)) (ht : (pc : Int) + off = (tgt : Int)) (ha : -2147483648 ≤ a ∧ a < 2147483648) (kt : 0 ≤ a → zV X k n ws tgt lv st) (kf : a < 0 → zV X k n ws (pc + 3) lv st) : zV X k n ws pc lv (.int (iI a) :: st) := by
  obtain ⟨p, l, e0, R, s, m, args, below, meth, c, Q, Z, A, H0⟩ := X
  obtain ⟨rfl, rfl, hx, hb', hml, ho, hts, hK, hA⟩ := ok
  intro H locs ls hP hD hS hl
  have hz : -2147483648 ≤ (0 : Int) ∧ (0 : Int) < 2147483648 := ⟨by decide, by decide⟩
  exact lv_if_ge hx hb' d ht (fun c => kt ((iI_le hz ha).mp c) H locs ls hP hD hS hl) (fun c => kf (Int.not_le.mp (fun z => c ((iI_le hz ha).mpr z))) H locs ls hP hD hS hl)
theorem z_icmp_gt (ok : zOK X Z R cc own nL) {a b off : Int} {tgt : Nat} (d : decode cc pc = .ok (.if_icmp .gt off, 3)) (ht : (pc : Int) + off = (tgt : Int)) (ha : -2147483648 ≤ a ∧ a < 2147483648) (hb : -2147483648 ≤ b ∧ b < 2147483648) (kt : b < a → zV X k n ws tgt lv st) (kf : a ≤ b → zV X k n ws (pc + 3) lv st) : zV X k n ws pc lv (.int (iI b) :: .int (iI a) :: st) := by
  obtain ⟨p, l, e0, R, s, m, args, below, meth, c, Q, Z, A, H0⟩ := X
  obtain ⟨rfl, rfl, hx, hb', hml, ho, hts, hK, hA⟩ := ok
  intro H locs ls hP hD hS hl
  exact lv_icmp_gt hx hb' d ht (fun c => kt ((iI_lt hb ha).mp c) H locs ls hP hD hS hl) (fun c => kf (Int.not_lt.mp (fun z => c ((iI_lt hb ha).mpr z))) H locs ls hP hD hS hl)
theorem z_if_gt (ok : zOK X Z R cc own nL) {a off : Int} {tgt : Nat} (d : decode cc pc = .ok (.ifCond .gt off, 3)) (ht : (pc : Int) + off = (tgt : Int)) (ha : -2147483648 ≤ a ∧ a < 2147483648) (kt : 0 < a → zV X k n ws tgt lv st) (kf : a ≤ 0 → zV X k n ws (pc + 3) lv st) : zV X k n ws pc lv (.int (iI a) :: st) := by
  obtain ⟨p, l, e0, R, s, m, args, below, meth, c, Q, Z, A, H0⟩ := X
  obtain ⟨rfl, rfl, hx, hb', hml, ho, hts, hK, hA⟩ := ok
  intro H locs ls hP hD hS hl
  have hz : -2147483648 ≤ (0 : Int) ∧ (0 : Int) < 2147483648 := ⟨by decide, by decide⟩
  exact lv_if_gt hx hb' d ht (fun c => kt ((iI_lt hz ha).mp c) H locs ls hP hD hS hl) (fun c => kf (Int.not_lt.mp (fun z => c ((iI_lt hz ha).mpr z))) H locs ls hP hD hS hl)
theorem z_icmp_le (ok : zOK X Z R cc own nL) {a b off : Int} {tgt : Nat} (d : decode cc pc = .ok (.if_icmp .le off, 3)) (ht : (pc : Int) + off = (tgt : Int)) (ha : -2147483648 ≤ a ∧ a < 2147483648) (hb : -2147483648 ≤ b ∧ b < 2147483648) (kt : a ≤ b → zV X k n ws tgt lv st) (kf : b < a → zV X k n ws (pc + 3) lv st) : zV X k n ws pc lv (.int (iI b) :: .int (iI a) :: st) := by
  obtain ⟨p, l, e0, R, s, m, args, below, meth, c, Q, Z, A, H0⟩ := X
  obtain ⟨rfl, rfl, hx, hb', hml, ho, hts, hK, hA⟩ := ok
  intro H locs ls hP hD hS hl
  exact lv_icmp_le hx hb' d ht (fun c => kt ((iI_le ha hb).mp c) H locs ls hP hD hS hl) (fun c => kf (Int.not_le.mp (fun z => c ((iI_le ha hb).mpr z))) H locs ls hP hD hS hl)
theorem z_if_le (ok : zOK X Z R cc own nL) {a off : Int} {tgt : Nat} (d : decode cc pc = .ok (.ifCond .le off, 3)) (ht : (pc : Int) + off = (tgt : Int)) (ha : -2147483648 ≤ a ∧ a < 2147483648) (kt : a ≤ 0 → zV X k n ws tgt lv st) (kf : 0 < a → zV X k n ws (pc + 3) lv st) : zV X k n ws pc lv (.int (iI a) :: st) := by
  obtain ⟨p, l, e0, R, s, m, args, below, meth, c, Q, Z, A, H0⟩ := X
  obtain ⟨rfl, rfl, hx, hb', hml, ho, hts, hK, hA⟩ := ok
  intro H locs ls hP hD hS hl
  have hz : -2147483648 ≤ (0 : Int) ∧ (0 : Int) < 2147483648 := ⟨by decide, by decide⟩
  exact lv_if_le hx hb' d ht (fun c => kt ((iI_le ha hz).mp c) H locs ls hP hD hS hl) (fun c => kf (Int.not_le.mp (fun z => c ((iI_le ha hz).mpr z))) H locs ls hP hD hS hl)
theorem z_ifb_eq (ok : zOK X Z R cc own nL) {P : Prop} {off : Int} {tgt : Nat} (d : decode cc pc = .ok (.ifCond .eq off, 3)) (ht : (pc : Int) + off = (tgt : Int)) (kt : ¬ P → zV X k n ws tgt lv st) (kf : P → zV X k n ws (pc + 3) lv st) : zV X k n ws pc lv (.int (iI (zb P)) :: st) :=
  z_if_eq ok d ht (by have := zb_rng P; omega) (fun c => kt (zb_eq0.mp c)) (fun c => kf (Classical.byContradiction (fun z => c (zb_eq0.mpr z))))
theorem z_ifb_ne (ok : zOK X Z R cc own nL) {P : Prop} {off : Int} {tgt : Nat} (d : decode cc pc = .ok (.ifCond .ne off, 3)) (ht : (pc : Int) + off = (tgt : Int)) (kt : P → zV X k n ws tgt lv st) (kf : ¬ P → zV X k n ws (pc + 3) lv st) : zV X k n ws pc lv (.int (iI (zb P)) :: st) :=
  z_if_ne ok d ht (by have := zb_rng P; omega) (fun c => kt (Classical.byContradiction (fun z => c (zb_eq0.mpr z)))) (fun c => kf (zb_eq0.mp c))
end ZR
end
section
/-! own rows: arrays, fields, switches, calls, returns -/
theorem zGw {s : State} {args : Array Value} (hts : ∀ w ∈ wsL_law, w.before args s = true) {own : Cond} (h : own ∈ wsL_law) : own.before args s = true := hts _ h
theorem zval_nat {f : Int → Int} {e : Int} (h : 0 ≤ e) : iI (f ((e.toNat : Nat) : Int)) = iI (f e) := by rw [Int.toNat_of_nonneg h]
/-- what the tables say of a class in vwCl -/
def zCl (ci : Nat) (C : String) (T : u_T) (N : Nat) (ty : Nat → FieldType) : Prop := vwCl[ci]? = some (C, T, N) ∧ (∀ w ∈ u_ws C T N, w ∈ wsL_law) ∧ (∀ k, k < N → parseFieldDescriptor (T k).2.2.1 = some (ty k)) ∧ (∀ a, a < N → ∀ b, b < N → a ≠ b → (T a).2.1 ≠ (T b).2.1)
theorem zc0 : zCl 0 RX0 TX0 3 tyX0 := ⟨rfl, inlX0, tyX0_ok, nmX0⟩
theorem zc1 : zCl 1 RX1 TX1 1 tyX1 := ⟨rfl, inlX1, tyX1_ok, nmX1⟩
theorem zc2 : zCl 2 RX2 TX2 11 tyX2 := ⟨rfl, inlX2, tyX2_ok, nmX2⟩
theorem zc3 : zCl 3 RX3 TX3 7 tyX3 := ⟨rfl, inlX3, tyX3_ok, nmX3⟩
theorem zc4 : zCl 4 RX4 TX4 6 tyX4 := ⟨rfl, inlX4, tyX4_ok, nmX4⟩
theorem zc5 : zCl 5 RX5 TX5 6 tyX5 := ⟨rfl, inlX5, tyX5_ok, nmX5⟩
theorem zc6 : zCl 6 RX6 TX6 10 tyX6 := ⟨rfl, inlX6, tyX6_ok, nmX6⟩
theorem zc7 : zCl 7 RX7 TX7 18 tyX7 := ⟨rfl, inlX7, tyX7_ok, nmX7⟩
/-- a method of ours, as its caller needs it -/
def zMT (y : MethodName) (C : String) (bytes : ByteArray) (maxL : Nat) (ret : Option FieldType) (n : Nat) : Prop :=
  Cond.code y bytes maxL ret ∈ wsL_law ∧ Cond.initialized C ∈ wsL_law ∧ y.cls = C ∧ y.cls ≠ "java/lang/invoke/MethodHandle" ∧ y.cls ≠ "java/lang/invoke/VarHandle" ∧ (parseMethodDescriptor y.desc).map (fun d => d.parameters.length) = some n
def zMV (y : MethodName) (C : String) : Prop := Cond.instanceMethod y ∈ wsL_law ∧ Cond.selects C y y ∈ wsL_law
/-- contracts: an answer iI ρ, a world behind it -/
def zPre (Z : zZ) (av : List Value) (ws : va_W) (sz : Nat) : Array Value → State → Prop := va_Pc av (fun U => U.heap.size = sz ∧ va_P Z.1 vwCl ws U.heap ∧ va_K Z.1 vwCl (zT Z) U ∧ va_D (fun _ => True) ws)
def zB {T : Type} (Z : zZ) (ws : va_W) (sz : Nat) (w' : T → va_W) : T → State → Prop := fun u t => va_P Z.1 vwCl (w' u) t.heap ∧ va_K Z.1 vwCl (zT Z) t ∧ va_D (va_A ws sz) (w' u)
def zI {T : Type} (l : Launch) (y : MethodName) (wy : List Cond) (rm : Room) (Z : zZ) (av : List Value) (ws : va_W) (w' : T → va_W) (post : Int → T → Prop) : Prop :=
  ∀ sz : Nat, Met l y wy rm (zPre Z av ws sz) (va_Qi (fun (r : Int32) (u : T) => ∃ ρ : Int, r = iI ρ ∧ post ρ u) (zB Z ws sz w') (va_A ws sz)) rm.cells rm.slots (va_A ws sz)
def zN {T : Type} (l : Launch) (y : MethodName) (wy : List Cond) (rm : Room) (Z : zZ) (av : List Value) (ws : va_W) (w' : T → va_W) (post : T → Prop) : Prop :=
  ∀ sz : Nat, Met l y wy rm (zPre Z av ws sz) (va_Qv post (zB Z ws sz w') (va_A ws sz)) rm.cells rm.slots (va_A ws sz)
section ZA
variable {X : zX} {Z : zZ} {R : Room} {cc : ByteArray} {own : String} {nL : Nat} {k n : Nat} {ws ws' : va_W} {pc : Nat} {lv : List (Nat × Value)} {st : List Value}
theorem z_iald (ok : zOK X Z R cc own nL) (q0 : Nat) {b N : Nat} {f : Int → Int} {e : Int} (he : ws[q0]? = some (b, .inl (Z.2.1, N, .inl (fun j : Nat => iI (f j))))) (d : decode cc pc = .ok (.iaload, 1)) (hi : 0 ≤ e ∧ e < (N : Int)) (hN : N < 2147483648) (h : zV X k n ws (pc + 1) lv (.int (iI (f e)) :: st)) : zV X k n ws pc lv (.int (iI e) :: .ref b :: st) := by
  obtain ⟨p, l, e', R, s, m, args, below, meth, c, Q, Z, A, H0⟩ := X
  obtain ⟨rfl, rfl, hx, hb, hml, ho, hts, hK, hA⟩ := ok
  intro H locs ls hP hD hS hl
  refine va_iald hx hb hK hP q0 0 he rfl (iI_in hi (by omega)) d ?_
  rw [iI_cl ⟨hi.1, by omega⟩, zval_nat hi.1]
  exact h H locs ls hP hD hS hl
theorem z_zald (ok : zOK X Z R cc own nL) (q0 : Nat) {b N : Nat} {f : Int → Int} {e : Int} (he : ws[q0]? = some (b, .inl (Z.2.2.1, N, .inl (fun j : Nat => iI (f j))))) (d : decode cc pc = .ok (.baload, 1)) (hi : 0 ≤ e ∧ e < (N : Int)) (hN : N < 2147483648) (h : zV X k n ws (pc + 1) lv (.int (iI (f e)) :: st)) : zV X k n ws pc lv (.int (iI e) :: .ref b :: st) := by
  obtain ⟨p, l, e', R, s, m, args, below, meth, c, Q, Z, A, H0⟩ := X
  obtain ⟨rfl, rfl, hx, hb, hml, ho, hts, hK, hA⟩ := ok
  intro H locs ls hP hD hS hl
  refine va_zald hx hb hK hP q0 1 he rfl (iI_in hi (by omega)) d ?_
  rw [iI_cl ⟨hi.1, by omega⟩, zval_nat hi.1]
  exact h H locs ls hP hD hS hl
theorem z_cald (ok : zOK X Z R cc own nL) (q0 : Nat) {b N : Nat} {f : Int → Int} {e : Int} (he : ws[q0]? = some (b, .inl (Z.2.2.2.1, N, .inl (fun j : Nat => iI (f j))))) (d : decode cc pc = .ok (.caload, 1)) (hi : 0 ≤ e ∧ e < (N : Int)) (hN : N < 2147483648) (h : zV X k n ws (pc + 1) lv (.int (iI (f e)) :: st)) : zV X k n ws pc lv (.int (iI e) :: .ref b :: st) := by
  obtain ⟨p, l, e', R, s, m, args, below, meth, c, Q, Z, A, H0⟩ := X
  obtain ⟨rfl, rfl, hx, hb, hml, ho, hts, hK, hA⟩ := ok
  intro H locs ls hP hD hS hl
  refine va_cald hx hb hK hP q0 2 he rfl (iI_in hi (by omega)) d ?_
  rw [iI_cl ⟨hi.1, by omega⟩, zval_nat hi.1]
  exact h H locs ls hP hD hS hl
theorem z_iast (ok : zOK X Z R cc own nL) (q0 : Nat) {b N : Nat} {f : Int → Int} {e v : Int} (he : ws[q0]? = some (b, .inl (Z.2.1, N, .inl (fun j : Nat => iI (f j))))) (d : decode cc pc = .ok (.iastore, 1)) (hi : 0 ≤ e ∧ e < (N : Int)) (hN : N < 2147483648) (hw : ws.set q0 (b, .inl (Z.2.1, N, .inl (fun j : Nat => iI (zu f e v j)))) = ws') (h : zV X k n ws' (pc + 1) lv st) : zV X k n ws pc lv (.int (iI v) :: .int (iI e) :: .ref b :: st) := by
  obtain ⟨p, l, e', R, s, m, args, below, meth, c, Q, Z, A, H0⟩ := X
  obtain ⟨rfl, rfl, hx, hb, hml, ho, hts, hK, hA⟩ := ok
  intro H locs ls hP hD hS hl
  refine va_iast hx hb hK hP hD hS q0 0 he rfl (iI_in hi (by omega)) d (fun H1 locs1 hP hD hS => ?_)
  rw [zu_upd ⟨hi.1, by omega⟩] at hP hD
  subst hw
  exact h H1 locs1 ls hP hD hS hl
theorem znar01 {v : Int} (h : v = 0 ∨ v = 1) : vp_nar .boolean (iI v) = iI v := by
  rcases h with rfl | rfl <;> decide
theorem z_zast (ok : zOK X Z R cc own nL) (q0 : Nat) {b N : Nat} {f : Int → Int} {e v : Int} (he : ws[q0]? = some (b, .inl (Z.2.2.1, N, .inl (fun j : Nat => iI (f j))))) (d : decode cc pc = .ok (.bastore, 1)) (hi : 0 ≤ e ∧ e < (N : Int)) (hN : N < 2147483648) (hv : v = 0 ∨ v = 1) (hw : ws.set q0 (b, .inl (Z.2.2.1, N, .inl (fun j : Nat => iI (zu f e v j)))) = ws') (h : zV X k n ws' (pc + 1) lv st) : zV X k n ws pc lv (.int (iI v) :: .int (iI e) :: .ref b :: st) := by
  obtain ⟨p, l, e', R, s, m, args, below, meth, c, Q, Z, A, H0⟩ := X
  obtain ⟨rfl, rfl, hx, hb, hml, ho, hts, hK, hA⟩ := ok
  intro H locs ls hP hD hS hl
  refine va_zast hx hb hK hP hD hS q0 1 he rfl (iI_in hi (by omega)) d (fun H1 locs1 hP hD hS => ?_)
  rw [znar01 hv, zu_upd ⟨hi.1, by omega⟩] at hP hD
  subst hw
  exact h H1 locs1 ls hP hD hS hl
theorem z_cast (ok : zOK X Z R cc own nL) (q0 : Nat) {b N : Nat} {f : Int → Int} {e v : Int} (he : ws[q0]? = some (b, .inl (Z.2.2.2.1, N, .inl (fun j : Nat => iI (f j))))) (d : decode cc pc = .ok (.castore, 1)) (hi : 0 ≤ e ∧ e < (N : Int)) (hN : N < 2147483648) (hv : vp_nar .char (iI v) = iI v) (hw : ws.set q0 (b, .inl (Z.2.2.2.1, N, .inl (fun j : Nat => iI (zu f e v j)))) = ws') (h : zV X k n ws' (pc + 1) lv st) : zV X k n ws pc lv (.int (iI v) :: .int (iI e) :: .ref b :: st) := by
  obtain ⟨p, l, e', R, s, m, args, below, meth, c, Q, Z, A, H0⟩ := X
  obtain ⟨rfl, rfl, hx, hb, hml, ho, hts, hK, hA⟩ := ok
  intro H locs ls hP hD hS hl
  refine va_cast hx hb hK hP hD hS q0 2 he rfl (iI_in hi (by omega)) d (fun H1 locs1 hP hD hS => ?_)
  rw [hv, zu_upd ⟨hi.1, by omega⟩] at hP hD
  subst hw
  exact h H1 locs1 ls hP hD hS hl
theorem z_get (ok : zOK X Z R cc own nL) {ci N : Nat} {C : String} {T : u_T} {ty : Nat → FieldType} (hc : zCl ci C T N ty) (q0 : Nat) {b idx : Nat} {ref : String} {fs : List Value} (he : ws[q0]? = some (b, .inr (ci, fs))) (f : Nat) (hf : f < N) (hl : Cond.fieldLink own idx ref (T f).2.1 (T f).2.2.1 ∈ wsL_law) (hr : (T f).1 = ref) {v : Value} (hv : fs[f]? = some v) (d : decode cc pc = .ok (.getfield idx, 3)) (h : zV X k n ws (pc + 3) lv (v :: st)) : zV X k n ws pc lv (.ref b :: st) := by
  obtain ⟨p, l, e', R, s, m, args, below, meth, c, Q, Z, A, H0⟩ := X
  obtain ⟨rfl, rfl, hx, hb, hml, ho, hts, hK, hA⟩ := ok
  obtain ⟨hc1, hc2, hc3, hc4⟩ := hc
  intro H locs ls hP hD hS hlv
  exact va_get hx hb hts hc2 ho hK hP q0 he hc1 f hf (hts _ hl) (fun _ h9 => by rw [← hr]; exact h9) hv d (h H locs ls hP hD hS hlv)
theorem z_put (ok : zOK X Z R cc own nL) {ci N : Nat} {C : String} {T : u_T} {ty : Nat → FieldType} (hc : zCl ci C T N ty) (q0 : Nat) {b idx : Nat} {ref : String} {fs : List Value} (he : ws[q0]? = some (b, .inr (ci, fs))) (f : Nat) (hf : f < N) (hl : Cond.fieldLink own idx ref (T f).2.1 (T f).2.2.1 ∈ wsL_law) (hr : (T f).1 = ref) (hfin : (T f).2.2.2 = false) {v : Value} (hn : narrow (ty f) v = v) (hfit : fits (ty f) v = true) (hlen : f < fs.length) (d : decode cc pc = .ok (.putfield idx, 3)) (hw : ws.set q0 (b, .inr (ci, fs.set f v)) = ws') (h : zV X k n ws' (pc + 3) lv st) : zV X k n ws pc lv (v :: .ref b :: st) := by
  obtain ⟨p, l, e', R, s, m, args, below, meth, c, Q, Z, A, H0⟩ := X
  obtain ⟨rfl, rfl, hx, hb, hml, ho, hts, hK, hA⟩ := ok
  obtain ⟨hc1, hc2, hc3, hc4⟩ := hc
  intro H locs ls hP hD hS hlv
  refine va_put hx hb hts hc2 ty hc3 hc4 ho hK hP hD hS q0 he hc1 f hf (hts _ hl) (fun _ h9 => by rw [← hr]; exact h9) hfin (hc3 f hf) hn hfit hlen d (fun H1 locs1 hP hD hS => ?_)
  subst hw
  exact h H1 locs1 ls hP hD hS hlv
theorem z_tableIn (ok : zOK X Z R cc own nL) {dflt lo hi : Int} {offs : Array Int} {len : Nat} {a off : Int} {tgt : Nat} (d : decode cc pc = .ok (.tableswitch dflt lo hi offs, len)) (ha : -2147483648 ≤ a ∧ a < 2147483648) (h1 : lo ≤ a) (h2 : a ≤ hi) (ho : offs[(a - lo).toNat]? = some off) (ht : (pc : Int) + off = (tgt : Int)) (h : zV X k n ws tgt lv st) : zV X k n ws pc lv (.int (iI a) :: st) := by
  obtain ⟨p, l, e', R, s, m, args, below, meth, c, Q, Z, A, H0⟩ := X
  obtain ⟨rfl, rfl, hx, hb, hml, ho', hts, hK, hA⟩ := ok
  intro H locs ls hP hD hS hlv
  exact lv_tableIn hx hb d (by rw [iI_toInt ha]; omega) (by rw [iI_toInt ha]; omega) (by rw [iI_toInt ha]; exact ho) ht (h H locs ls hP hD hS hlv)
theorem z_tableOut (ok : zOK X Z R cc own nL) {dflt lo hi : Int} {offs : Array Int} {len : Nat} {a : Int} {tgt : Nat} (d : decode cc pc = .ok (.tableswitch dflt lo hi offs, len)) (ha : -2147483648 ≤ a ∧ a < 2147483648) (h1 : a < lo ∨ hi < a) (ht : (pc : Int) + dflt = (tgt : Int)) (h : zV X k n ws tgt lv st) : zV X k n ws pc lv (.int (iI a) :: st) := by
  obtain ⟨p, l, e', R, s, m, args, below, meth, c, Q, Z, A, H0⟩ := X
  obtain ⟨rfl, rfl, hx, hb, hml, ho', hts, hK, hA⟩ := ok
  intro H locs ls hP hD hS hlv
  exact lv_tableOut hx hb d (by rw [iI_toInt ha]; exact h1) ht (h H locs ls hP hD hS hlv)
theorem z_lookup (ok : zOK X Z R cc own nL) {dflt : Int} {ps : Array (Int × Int)} {len : Nat} {a off : Int} {tgt : Nat} (d : decode cc pc = .ok (.lookupswitch dflt ps, len)) (ha : -2147483648 ≤ a ∧ a < 2147483648) (hp : (ps.toList.zip (ps.toList.drop 1)).all (fun (a, next) => a.1 < next.1) = true) (ho : Op.lookupswitch.offset ps.toList dflt a = off) (ht : (pc : Int) + off = (tgt : Int)) (h : zV X k n ws tgt lv st) : zV X k n ws pc lv (.int (iI a) :: st) := by
  obtain ⟨p, l, e', R, s, m, args, below, meth, c, Q, Z, A, H0⟩ := X
  obtain ⟨rfl, rfl, hx, hb, hml, ho', hts, hK, hA⟩ := ok
  intro H locs ls hP hD hS hlv
  exact lv_lookup hx hb d hp (by rw [iI_toInt ha]; exact ho) ht (h H locs ls hP hD hS hlv)
/-- another order of the same cells -/
theorem zP_perm {D : va_G} {ws ws' : va_W} {H : Heap} (hp : ws.Perm ws') (h : va_P D vwCl ws H) : va_P D vwCl ws' H := by
  intro i q hq
  obtain ⟨j, hj⟩ := List.getElem?_of_mem (hp.mem_iff.mpr (List.mem_of_getElem? hq))
  exact h j q hj
theorem zD_nodup {A : Nat → Prop} {ws : va_W} : va_D A ws ↔ (ws.map Prod.fst).Nodup ∧ ∀ q ∈ ws, A q.1 := by
  constructor
  · intro h
    refine ⟨?_, fun q hq => ?_⟩
    · refine List.pairwise_iff_getElem.mpr (fun i j hi hj hij e => ?_)
      rw [List.length_map] at hi hj
      rw [List.getElem_map, List.getElem_map] at e
      have := h.1 i j _ _ (List.getElem?_eq_getElem hi) (List.getElem?_eq_getElem hj) e
      omega
    · obtain ⟨i, hi⟩ := List.getElem?_of_mem hq
      exact h.2 i q hi
  · intro ⟨h1, h2⟩
    refine ⟨fun i j p q hp hq e => ?_, fun i q hq => h2 q (List.mem_of_getElem? hq)⟩
    have h1 := List.pairwise_iff_getElem.mp h1
    obtain ⟨hi, rfl⟩ := List.getElem?_eq_some_iff.mp hp
    obtain ⟨hj, rfl⟩ := List.getElem?_eq_some_iff.mp hq
    rcases Nat.lt_trichotomy i j with h | h | h
    · exact absurd (by rw [List.getElem_map, List.getElem_map]; exact e) (h1 i j (by rw [List.length_map]; exact hi) (by rw [List.length_map]; exact hj) h)
    · exact h
    · exact absurd (by rw [List.getElem_map, List.getElem_map]; exact e.symm) (h1 j i (by rw [List.length_map]; exact hj) (by rw [List.length_map]; exact hi) h)
theorem zD_perm {A : Nat → Prop} {ws ws' : va_W} (hp : ws.Perm ws') (h : va_D A ws) : va_D A ws' := by
  rw [zD_nodup] at h ⊢
  exact ⟨(hp.map Prod.fst).nodup_iff.mp h.1, fun q hq => h.2 q (hp.mem_iff.mpr hq)⟩
theorem z_perm (hp : ws.Perm ws') (h : zV X k n ws' pc lv st) : zV X k n ws pc lv st := by
  obtain ⟨p, l, e', R, s, m, args, below, meth, c, Q, Z, A, H0⟩ := X
  intro H locs ls hP hD hS hlv
  exact h H locs ls (zP_perm hp hP) (zD_perm hp hD) hS hlv
theorem z_eq (e : ws = ws') (h : zV X k n ws' pc lv st) : zV X k n ws pc lv st := e ▸ h
theorem z_st {st' : List Value} (e : st = st') (h : zV X k n ws pc lv st') : zV X k n ws pc lv st := e ▸ h
/-- what stays beside a call -/
theorem zjoin {A0 : Nat → Prop} {D : va_G} {wc wr w1 : va_W} {H H1 : Heap} (hP : va_P D vwCl (wc ++ wr) H) (hD : va_D A0 (wc ++ wr)) (hk : ∀ q : Nat, q < H.size → ¬ va_A wc H.size q → H1[q]? = H[q]?) (hF : ∀ q, va_A wc H.size q → A0 q) (hP1 : va_P D vwCl w1 H1) (hD1 : va_D (va_A wc H.size) w1) : va_P D vwCl (w1 ++ wr) H1 ∧ va_D A0 (w1 ++ wr) := by
  have hD' := zD_nodup.mp hD
  have apart : ∀ q ∈ wr, q.1 < H.size ∧ ¬ va_A wc H.size q.1 := by
    intro q hq
    obtain ⟨i, hi⟩ := List.getElem?_of_mem (List.mem_append_right wc hq)
    have hl := (hP i q hi).lt
    refine ⟨hl, fun h => ?_⟩
    rcases h with ⟨j, e, hj⟩ | h
    · have h1 := hD'.1
      rw [List.map_append, List.nodup_append] at h1
      exact h1.2.2 q.1 (List.mem_map.mpr ⟨(q.1, e), List.mem_of_getElem? hj, rfl⟩) q.1 (List.mem_map.mpr ⟨q, hq, rfl⟩) rfl
    · omega
  refine ⟨fun i q hq => ?_, zD_nodup.mpr ⟨?_, fun q hq => ?_⟩⟩
  · rcases List.mem_append.mp (List.mem_of_getElem? hq) with h | h
    · obtain ⟨j, hj⟩ := List.getElem?_of_mem h
      exact hP1 j q hj
    · obtain ⟨j, hj⟩ := List.getElem?_of_mem (List.mem_append_right wc h)
      exact (hP j q hj).kept (hk q.1 (apart q h).1 (apart q h).2)
  · rw [List.map_append, List.nodup_append]
    have h1 := hD'.1
    rw [List.map_append, List.nodup_append] at h1
    refine ⟨(zD_nodup.mp hD1).1, h1.2.1, fun a ha b hb e => ?_⟩
    obtain ⟨x, hx, rfl⟩ := List.mem_map.mp ha
    obtain ⟨y, hy, rfl⟩ := List.mem_map.mp hb
    exact (apart y hy).2 (e ▸ (zD_nodup.mp hD1).2 x hx)
  · rcases List.mem_append.mp hq with h | h
    · exact hF _ ((zD_nodup.mp hD1).2 q h)
    · exact hD'.2 q (List.mem_append_right _ h)
theorem zfree {A0 : Nat → Prop} {wc wr : va_W} {H0 H : Heap} {locs : List Loc} (hD : va_D A0 (wc ++ wr)) (hS : va_S A0 H0 H locs) (hA : ∀ q, H0.size ≤ q → A0 q) : ∀ q, va_A wc H.size q → A0 q := by
  intro q h
  rcases h with ⟨i, e, h⟩ | h
  · exact (zD_nodup.mp hD).2 (q, e) (List.mem_append_left _ (List.mem_of_getElem? h))
  · exact hA q (Nat.le_trans hS.1 h)
theorem zPsub {D : va_G} {wc wr : va_W} {H : Heap} (h : va_P D vwCl (wc ++ wr) H) : va_P D vwCl wc H := fun i q hq => h i q (by rw [List.getElem?_append_left (List.getElem?_eq_some_iff.mp hq).1]; exact hq)
theorem zDsub {A : Nat → Prop} {wc wr : va_W} (h : va_D A (wc ++ wr)) : va_D (fun _ => True) wc := by
  have h1 := (zD_nodup.mp h).1
  rw [List.map_append, List.nodup_append] at h1
  exact zD_nodup.mpr ⟨h1.1, fun _ _ => trivial⟩
theorem zblind {Z : zZ} {av : List Value} {ws : va_W} {sz : Nat} : FrameBlind (zPre Z av ws sz) := by
  intro a U g mk h
  obtain ⟨h0, h1, h2, h3, h4⟩ := h
  exact ⟨h0, h1, h2, va_K.moved (u := U) (U := U.calling g mk a) (Vm.Alike.refl U.vm) h3, h4⟩
theorem zbefore {Z : zZ} {A : Nat → Prop} {av : List Value} {wc wr : va_W} {s : State} {H : Heap} (hK : va_K Z.1 vwCl (zT Z) s) (hP : va_P Z.1 vwCl (wc ++ wr) H) (hD : va_D A (wc ++ wr)) : ∀ U : State, U.heap = H → s.WarmedH U.vm → zPre Z av wc H.size av.toArray U :=
  fun U hU hW => ⟨rfl, by rw [hU], by rw [hU]; exact zPsub hP, va_K.moved hW.alike hK, zDsub hD⟩
theorem zcallB {R : Room} {s : State} {args : Array Value} {y : MethodName} {C : String} {bytes : ByteArray} {maxL np idx : Nat} {ret : Option FieldType} {rm : Room} (hts : ∀ w ∈ wsL_law, w.before args s = true) (hm : zMT y C bytes maxL ret np) (hlk : Cond.methodLink own idx y ∈ wsL_law) (hR : rm.frames + 1 ≤ R.frames ∧ 8 + (maxL + 11) + rm.locals ≤ R.locals) : CallB R s args own idx y bytes maxL ret (Cond.code y bytes maxL ret :: wsL_law) rm rm.cells rm.slots np := by
  obtain ⟨h1, h2, h3, h4, h5, h6⟩ := hm
  subst h3
  refine callB_of (Ts := wsL_law) np hts ?_ rfl rfl rfl (hts _ h2) (hts _ hlk) ⟨h4, h5, h6⟩ hR
  intro w hw
  have hw : w ∈ wsL_law := by
    rcases List.mem_cons.mp hw with h | h
    · exact h ▸ h1
    · exact h
  exact ⟨hw, good_of_word (List.all_eq_true.mp zG_good w hw)⟩
theorem z_callVi (ok : zOK X Z R cc own nL) {T : Type} {y : MethodName} {C : String} {bytes : ByteArray} {maxL np idx b q0 ci : Nat} {ret : Option FieldType} {rm : Room} {As rest fs : List Value} {wc wr : va_W} {w' : T → va_W} {post : Int → T → Prop} {q : vw_C} (ct : ∀ l, zI l y (Cond.code y bytes maxL ret :: wsL_law) rm Z (.ref b :: As) wc w' post) (hm : zMT y C bytes maxL ret np) (hv : zMV y C) (hlk : Cond.methodLink own idx y ∈ wsL_law) (d : decode cc pc = .ok (.invokevirtual idx, 3)) (hR : rm.frames + 1 ≤ R.frames ∧ 8 + (maxL + 11) + rm.locals ≤ R.locals) (hc : k + rm.cells ≤ R.cells ∧ n + rm.slots ≤ R.slots) (hn : As.length = np) (hst : st = As.reverse ++ .ref b :: rest) (hW : (rest.map fun v => v.category).sum ≤ 8) (he : wc[q0]? = some (b, .inr (ci, fs))) (hcl : vwCl[ci]? = some q) (hq : q.1 = C) (hp : ws.Perm (wc ++ wr)) (h : ∀ (ρ : Int) (u : T), post ρ u → zV X (k + rm.cells) (n + rm.slots) (w' u ++ wr) (pc + 3) lv (.int (iI ρ) :: rest)) : zV X k n ws pc lv st := by
  obtain ⟨p, l, e', R, s, m, args, below, meth, c, Q, Z, A, H0⟩ := X
  obtain ⟨rfl, rfl, hx, hb, hml, ho, hts, hK, hA⟩ := ok
  intro H locs ls hP hD hS hlv
  have hP := zP_perm hp hP
  have hD := zD_perm hp hD
  have hF := zfree hD hS hA
  subst hst
  have hr := va_recv (q := q) hK (zPsub hP) hcl he
  rw [hq] at hr
  refine va_calli (va_runV (C := C) (As := As) (rest := rest) (n := np) ⟨hx, hb, hml, ho, hts⟩ (ct l H.size) ⟨zcallB hts hm hlk hR, hts _ hv.1, hts _ hv.2⟩ ⟨zblind, hr, zbefore hK hP hD⟩ rfl hn (by show ls.size = nL; rw [hlv.1, hml]) rfl (lv_room hW) d hc) hS (fun q _ h => hF q h) hF ?_
  intro r u t H1 locs1 ht hvm ⟨ρ, hr, hpost⟩ ⟨hP1, hK1, hD1⟩ hz hk hS1
  subst hr
  rw [ht] at hP1
  obtain ⟨hP2, hD2⟩ := zjoin hP hD hk hF hP1 hD1
  exact h ρ u hpost H1 locs1 ls hP2 hD2 hS1 hlv
theorem z_callVv (ok : zOK X Z R cc own nL) {T : Type} {y : MethodName} {C : String} {bytes : ByteArray} {maxL np idx b q0 ci : Nat} {ret : Option FieldType} {rm : Room} {As rest fs : List Value} {wc wr : va_W} {w' : T → va_W} {post : T → Prop} {q : vw_C} (ct : ∀ l, zN l y (Cond.code y bytes maxL ret :: wsL_law) rm Z (.ref b :: As) wc w' post) (hm : zMT y C bytes maxL ret np) (hv : zMV y C) (hlk : Cond.methodLink own idx y ∈ wsL_law) (d : decode cc pc = .ok (.invokevirtual idx, 3)) (hR : rm.frames + 1 ≤ R.frames ∧ 8 + (maxL + 11) + rm.locals ≤ R.locals) (hc : k + rm.cells ≤ R.cells ∧ n + rm.slots ≤ R.slots) (hn : As.length = np) (hst : st = As.reverse ++ .ref b :: rest) (hW : (rest.map fun v => v.category).sum ≤ 8) (he : wc[q0]? = some (b, .inr (ci, fs))) (hcl : vwCl[ci]? = some q) (hq : q.1 = C) (hp : ws.Perm (wc ++ wr)) (h : ∀ (u : T), post u → zV X (k + rm.cells) (n + rm.slots) (w' u ++ wr) (pc + 3) lv rest) : zV X k n ws pc lv st := by
  obtain ⟨p, l, e', R, s, m, args, below, meth, c, Q, Z, A, H0⟩ := X
  obtain ⟨rfl, rfl, hx, hb, hml, ho, hts, hK, hA⟩ := ok
  intro H locs ls hP hD hS hlv
  have hP := zP_perm hp hP
  have hD := zD_perm hp hD
  have hF := zfree hD hS hA
  subst hst
  have hr := va_recv (q := q) hK (zPsub hP) hcl he
  rw [hq] at hr
  refine va_callv (va_runV (C := C) (As := As) (rest := rest) (n := np) ⟨hx, hb, hml, ho, hts⟩ (ct l H.size) ⟨zcallB hts hm hlk hR, hts _ hv.1, hts _ hv.2⟩ ⟨zblind, hr, zbefore hK hP hD⟩ rfl hn (by show ls.size = nL; rw [hlv.1, hml]) rfl (lv_room hW) d hc) hS (fun q _ h => hF q h) hF ?_
  intro u t H1 locs1 ht hvm hpost ⟨hP1, hK1, hD1⟩ hz hk hS1
  rw [ht] at hP1
  obtain ⟨hP2, hD2⟩ := zjoin hP hD hk hF hP1 hD1
  exact h u hpost H1 locs1 ls hP2 hD2 hS1 hlv
theorem z_callSi (ok : zOK X Z R cc own nL) {T : Type} {y : MethodName} {C : String} {bytes : ByteArray} {maxL np idx : Nat} {ret : Option FieldType} {rm : Room} {As rest : List Value} {wc wr : va_W} {w' : T → va_W} {post : Int → T → Prop} (ct : ∀ l, zI l y (Cond.code y bytes maxL ret :: wsL_law) rm Z As wc w' post) (hm : zMT y C bytes maxL ret np) (hv : Cond.static y ∈ wsL_law) (hlk : Cond.methodLink own idx y ∈ wsL_law) (d : decode cc pc = .ok (.invokestatic idx, 3)) (hR : rm.frames + 1 ≤ R.frames ∧ 8 + (maxL + 11) + rm.locals ≤ R.locals) (hc : k + rm.cells ≤ R.cells ∧ n + rm.slots ≤ R.slots) (hn : As.length = np) (hst : st = As.reverse ++ rest) (hW : (rest.map fun v => v.category).sum ≤ 8) (hp : ws.Perm (wc ++ wr)) (h : ∀ (ρ : Int) (u : T), post ρ u → zV X (k + rm.cells) (n + rm.slots) (w' u ++ wr) (pc + 3) lv (.int (iI ρ) :: rest)) : zV X k n ws pc lv st := by
  obtain ⟨p, l, e', R, s, m, args, below, meth, c, Q, Z, A, H0⟩ := X
  obtain ⟨rfl, rfl, hx, hb, hml, ho, hts, hK, hA⟩ := ok
  intro H locs ls hP hD hS hlv
  have hP := zP_perm hp hP
  have hD := zD_perm hp hD
  have hF := zfree hD hS hA
  subst hst
  refine va_calli (va_runS (As := As) (rest := rest) (n := np) ⟨hx, hb, hml, ho, hts⟩ (ct l H.size) ⟨zcallB hts hm hlk hR, hts _ hv⟩ ⟨zblind, zbefore hK hP hD⟩ rfl hn (by show ls.size = nL; rw [hlv.1, hml]) rfl (lv_room hW) d hc) hS (fun q _ h => hF q h) hF ?_
  intro r u t H1 locs1 ht hvm ⟨ρ, hr, hpost⟩ ⟨hP1, hK1, hD1⟩ hz hk hS1
  subst hr
  rw [ht] at hP1
  obtain ⟨hP2, hD2⟩ := zjoin hP hD hk hF hP1 hD1
  exact h ρ u hpost H1 locs1 ls hP2 hD2 hS1 hlv
theorem z_callSv (ok : zOK X Z R cc own nL) {T : Type} {y : MethodName} {C : String} {bytes : ByteArray} {maxL np idx : Nat} {ret : Option FieldType} {rm : Room} {As rest : List Value} {wc wr : va_W} {w' : T → va_W} {post : T → Prop} (ct : ∀ l, zN l y (Cond.code y bytes maxL ret :: wsL_law) rm Z As wc w' post) (hm : zMT y C bytes maxL ret np) (hv : Cond.static y ∈ wsL_law) (hlk : Cond.methodLink own idx y ∈ wsL_law) (d : decode cc pc = .ok (.invokestatic idx, 3)) (hR : rm.frames + 1 ≤ R.frames ∧ 8 + (maxL + 11) + rm.locals ≤ R.locals) (hc : k + rm.cells ≤ R.cells ∧ n + rm.slots ≤ R.slots) (hn : As.length = np) (hst : st = As.reverse ++ rest) (hW : (rest.map fun v => v.category).sum ≤ 8) (hp : ws.Perm (wc ++ wr)) (h : ∀ (u : T), post u → zV X (k + rm.cells) (n + rm.slots) (w' u ++ wr) (pc + 3) lv rest) : zV X k n ws pc lv st := by
  obtain ⟨p, l, e', R, s, m, args, below, meth, c, Q, Z, A, H0⟩ := X
  obtain ⟨rfl, rfl, hx, hb, hml, ho, hts, hK, hA⟩ := ok
  intro H locs ls hP hD hS hlv
  have hP := zP_perm hp hP
  have hD := zD_perm hp hD
  have hF := zfree hD hS hA
  subst hst
  refine va_callv (va_runS (As := As) (rest := rest) (n := np) ⟨hx, hb, hml, ho, hts⟩ (ct l H.size) ⟨zcallB hts hm hlk hR, hts _ hv⟩ ⟨zblind, zbefore hK hP hD⟩ rfl hn (by show ls.size = nL; rw [hlv.1, hml]) rfl (lv_room hW) d hc) hS (fun q _ h => hF q h) hF ?_
  intro u t H1 locs1 ht hvm hpost ⟨hP1, hK1, hD1⟩ hz hk hS1
  rw [ht] at hP1
  obtain ⟨hP2, hD2⟩ := zjoin hP hD hk hF hP1 hD1
  exact h u hpost H1 locs1 ls hP2 hD2 hS1 hlv
end ZA
/-- how a contract of a method with an int (or a truth value, or a char) is begun -/
theorem zI_of {T : Type} {l : Launch} {y : MethodName} {C : String} {bytes : ByteArray} {maxL : Nat} {ty : FieldType} {rm : Room} {Z : zZ} {av : List Value} {ws : va_W} {w' : T → va_W} {post : Int → T → Prop} (hy : plainName y.cls = true) (hC : y.cls = C) (hav : (lg_sl av).length ≤ maxL) (nar : Int → Prop) (hnar : ∀ ρ, nar ρ → narrow ty (.int (iI ρ)) = .int (iI ρ))
    (body : ∀ X : zX, zOK X Z rm bytes C maxL → (∀ (ρ : Int) (u : T) (pc : Nat) (lv : List (Nat × Value)) (k n : Nat), decode bytes pc = .ok (.ireturn, 1) → nar ρ → post ρ u → k ≤ rm.cells → n ≤ rm.slots → zV X k n (w' u) pc lv [.int (iI ρ)]) → zV X 0 0 ws 0 (lv_args 0 av) []) : zI l y (Cond.code y bytes maxL (some ty) :: wsL_law) rm Z av ws w' post := by
  intro sz
  refine Met.ofW (cc := bytes) (maxL := maxL) (ret := some ty) hy rfl ?_
  intro p e s m args below meth c s₁ B hml hv
  obtain ⟨rfl, hsz, hP, hK, hD0⟩ := hv
  have hx := B.exec
  have hb := B.bytes
  have hr := B.returns
  have hts := atoms_spec (ws := Cond.code y bytes maxL (some ty) :: wsL_law) B.pre
  have hown : s.vm.findClass C = some m.cls := hC ▸ findClass_of_methodNamed B.named
  have hlocks := B.notSynchronized
  subst hsz
  have hD := hD0.self (sz := s.heap.size)
  have hl := lv_entry av (n := maxL) hav
  rw [lg_entry_eq]
  refine body (p, l, e, (headSpec (Cond.code y bytes maxL (some ty) :: wsL_law) rm).room, s, m, av.toArray, below, meth, c, MQ below (va_Qi (fun (r : Int32) (u : T) => ∃ ρ : Int, r = iI ρ ∧ post ρ u) (zB Z ws s.heap.size w') (va_A ws s.heap.size)) av.toArray s rm.cells rm.slots (va_A ws s.heap.size), Z, va_A ws s.heap.size, s.heap) ⟨rfl, rfl, hx, hb, hml, hown, fun w h => hts w (List.mem_cons_of_mem _ h), hK, fun q h => Or.inr h⟩ ?_ s.heap [] _ hP hD va_S.rf (by rw [hml]; exact hl)
  intro ρ u pc lv k n hd hn hp hk hns H locs ls hP hD hS hl
  refine W.widen hk hns ?_
  exact W.zret hx hb hr (hnar ρ hn) (fun t ht hW => ⟨⟨iI ρ, u, rfl, ⟨ρ, rfl, hp⟩, by rw [ht]; exact hP, va_K.moved hW.alike hK, hD⟩, hS.F ht⟩) hS.2.2 hd
theorem zN_of {T : Type} {l : Launch} {y : MethodName} {C : String} {bytes : ByteArray} {maxL : Nat} {rm : Room} {Z : zZ} {av : List Value} {ws : va_W} {w' : T → va_W} {post : T → Prop} (hy : plainName y.cls = true) (hC : y.cls = C) (hav : (lg_sl av).length ≤ maxL)
    (body : ∀ X : zX, zOK X Z rm bytes C maxL → (∀ (u : T) (pc : Nat) (lv : List (Nat × Value)) (k n : Nat), decode bytes pc = .ok (.return_, 1) → post u → k ≤ rm.cells → n ≤ rm.slots → zV X k n (w' u) pc lv []) → zV X 0 0 ws 0 (lv_args 0 av) []) : zN l y (Cond.code y bytes maxL none :: wsL_law) rm Z av ws w' post := by
  intro sz
  refine Met.ofW (cc := bytes) (maxL := maxL) (ret := none) hy rfl ?_
  intro p e s m args below meth c s₁ B hml hv
  obtain ⟨rfl, hsz, hP, hK, hD0⟩ := hv
  have hx := B.exec
  have hb := B.bytes
  have hr := B.returns
  have hts := atoms_spec (ws := Cond.code y bytes maxL none :: wsL_law) B.pre
  have hown : s.vm.findClass C = some m.cls := hC ▸ findClass_of_methodNamed B.named
  have hlocks := B.notSynchronized
  subst hsz
  have hD := hD0.self (sz := s.heap.size)
  have hl := lv_entry av (n := maxL) hav
  rw [lg_entry_eq]
  refine body (p, l, e, (headSpec (Cond.code y bytes maxL none :: wsL_law) rm).room, s, m, av.toArray, below, meth, c, MQ below (va_Qv post (zB Z ws s.heap.size w') (va_A ws s.heap.size)) av.toArray s rm.cells rm.slots (va_A ws s.heap.size), Z, va_A ws s.heap.size, s.heap) ⟨rfl, rfl, hx, hb, hml, hown, fun w h => hts w (List.mem_cons_of_mem _ h), hK, fun q h => Or.inr h⟩ ?_ s.heap [] _ hP hD va_S.rf (by rw [hml]; exact hl)
  intro u pc lv k n hd hp hk hns H locs ls hP hD hS hl
  refine W.widen hk hns ?_
  exact W.vret hx hb hr (fun t ht hW => ⟨⟨u, rfl, hp, by rw [ht]; exact hP, va_K.moved hW.alike hK, hD⟩, hS.F ht⟩) hS.2.2 hd
end
section
/-! calls of methods over the same world, or over none; numbers of Math; the reference's world -/
theorem znI : ∀ ρ : Int, True → narrow .int (.int (iI ρ)) = .int (iI ρ) := fun _ _ => rfl
theorem znZ : ∀ ρ : Int, (ρ = 0 ∨ ρ = 1) → narrow .boolean (.int (iI ρ)) = .int (iI ρ) := by
  intro ρ h
  rcases h with rfl | rfl <;> decide
theorem zfZ : ∀ ρ : Int, (ρ = 0 ∨ ρ = 1) → fits .boolean (.int (iI ρ)) = true := by
  intro ρ h
  rcases h with rfl | rfl <;> decide
theorem znC : ∀ ρ : Int, (0 ≤ ρ ∧ ρ < 65536) → narrow .char (.int (iI ρ)) = .int (iI ρ) := by
  intro ρ h
  rw [iI_nat h.1]
  exact (pk_charN (by omega)).1
def zabs (a : Int) : Int := max a (-a)
section ZC
variable {X : zX} {Z : zZ} {R : Room} {cc : ByteArray} {own : String} {nL : Nat} {k n : Nat} {ws ws' : va_W} {pc : Nat} {lv : List (Nat × Value)} {st : List Value}
theorem z_callVi0 (ok : zOK X Z R cc own nL) {T : Type} {y : MethodName} {C : String} {bytes : ByteArray} {maxL np idx b q0 ci : Nat} {ret : Option FieldType} {rm : Room} {As rest fs : List Value} {w' : T → va_W} {post : Int → T → Prop} {q : vw_C} (ct : ∀ l, zI l y (Cond.code y bytes maxL ret :: wsL_law) rm Z (.ref b :: As) ws w' post) (hm : zMT y C bytes maxL ret np) (hv : zMV y C) (hlk : Cond.methodLink own idx y ∈ wsL_law) (d : decode cc pc = .ok (.invokevirtual idx, 3)) (hR : rm.frames + 1 ≤ R.frames ∧ 8 + (maxL + 11) + rm.locals ≤ R.locals) (hc : k + rm.cells ≤ R.cells ∧ n + rm.slots ≤ R.slots) (hn : As.length = np) (hst : st = As.reverse ++ .ref b :: rest) (hW : (rest.map fun v => v.category).sum ≤ 8) (he : ws[q0]? = some (b, .inr (ci, fs))) (hcl : vwCl[ci]? = some q) (hq : q.1 = C) (h : ∀ (ρ : Int) (u : T), post ρ u → zV X (k + rm.cells) (n + rm.slots) (w' u) (pc + 3) lv (.int (iI ρ) :: rest)) : zV X k n ws pc lv st :=
  z_callVi (wr := []) ok ct hm hv hlk d hR hc hn hst hW he hcl hq (by rw [List.append_nil]) (fun ρ u hp => by rw [List.append_nil]; exact h ρ u hp)
theorem z_callVv0 (ok : zOK X Z R cc own nL) {T : Type} {y : MethodName} {C : String} {bytes : ByteArray} {maxL np idx b q0 ci : Nat} {ret : Option FieldType} {rm : Room} {As rest fs : List Value} {w' : T → va_W} {post : T → Prop} {q : vw_C} (ct : ∀ l, zN l y (Cond.code y bytes maxL ret :: wsL_law) rm Z (.ref b :: As) ws w' post) (hm : zMT y C bytes maxL ret np) (hv : zMV y C) (hlk : Cond.methodLink own idx y ∈ wsL_law) (d : decode cc pc = .ok (.invokevirtual idx, 3)) (hR : rm.frames + 1 ≤ R.frames ∧ 8 + (maxL + 11) + rm.locals ≤ R.locals) (hc : k + rm.cells ≤ R.cells ∧ n + rm.slots ≤ R.slots) (hn : As.length = np) (hst : st = As.reverse ++ .ref b :: rest) (hW : (rest.map fun v => v.category).sum ≤ 8) (he : ws[q0]? = some (b, .inr (ci, fs))) (hcl : vwCl[ci]? = some q) (hq : q.1 = C) (h : ∀ (u : T), post u → zV X (k + rm.cells) (n + rm.slots) (w' u) (pc + 3) lv rest) : zV X k n ws pc lv st :=
  z_callVv (wr := []) ok ct hm hv hlk d hR hc hn hst hW he hcl hq (by rw [List.append_nil]) (fun u hp => by rw [List.append_nil]; exact h u hp)
theorem z_callSie (ok : zOK X Z R cc own nL) {T : Type} {y : MethodName} {C : String} {bytes : ByteArray} {maxL np idx : Nat} {ret : Option FieldType} {rm : Room} {As rest : List Value} {post : Int → T → Prop} (ct : ∀ l, zI l y (Cond.code y bytes maxL ret :: wsL_law) rm Z As [] (fun _ : T => []) post) (hm : zMT y C bytes maxL ret np) (hv : Cond.static y ∈ wsL_law) (hlk : Cond.methodLink own idx y ∈ wsL_law) (d : decode cc pc = .ok (.invokestatic idx, 3)) (hR : rm.frames + 1 ≤ R.frames ∧ 8 + (maxL + 11) + rm.locals ≤ R.locals) (hc : k + rm.cells ≤ R.cells ∧ n + rm.slots ≤ R.slots) (hn : As.length = np) (hst : st = As.reverse ++ rest) (hW : (rest.map fun v => v.category).sum ≤ 8) (h : ∀ (ρ : Int) (u : T), post ρ u → zV X (k + rm.cells) (n + rm.slots) ws (pc + 3) lv (.int (iI ρ) :: rest)) : zV X k n ws pc lv st :=
  z_callSi (wc := []) (wr := ws) ok ct hm hv hlk d hR hc hn hst hW (List.Perm.refl _) (fun ρ u hp => h ρ u hp)
theorem z_mmin (ok : zOK X Z R cc own nL) {idx : Nat} {a b : Int} (hlk : Cond.methodLink own idx Lib.Math.min.name ∈ wsL_law) (hs : Cond.static Lib.Math.min.name ∈ wsL_law) (hi : Cond.initialized "java/lang/Math" ∈ wsL_law) (hco : Cond.code Lib.Math.min.name Lib.Math.min.code 2 (some .int) ∈ wsL_law) (d : decode cc pc = .ok (.invokestatic idx, 3)) (hf : 1 ≤ R.frames ∧ k ≤ R.cells ∧ n ≤ R.slots) (hlo : (st.map fun v => v.category).sum + 13 ≤ R.locals) (ha : -2147483648 ≤ a ∧ a < 2147483648) (hb : -2147483648 ≤ b ∧ b < 2147483648) (h : zV X k n ws (pc + 3) lv (.int (iI (min a b)) :: st)) : zV X k n ws pc lv (.int (iI b) :: .int (iI a) :: st) := by
  obtain ⟨p, l, e', R, s, m, args, below, meth, c, Q, Z, A, H0⟩ := X
  obtain ⟨rfl, rfl, hx, hbb, hml, ho, hts, hK, hA⟩ := ok
  intro H locs ls hP hD hS hl
  refine va_mmin hx hbb hl.1.symm ho (hts _ hlk) (hts _ hs) (hts _ hi) (hts _ hco) hf.1 hlo hf.2.1 hf.2.2 d ?_
  have e : (if iI b < iI a then iI b else iI a) = iI (min a b) := by
    by_cases hlt : b < a
    · rw [if_pos ((iI_lt hb ha).mpr hlt)]; congr 1; omega
    · rw [if_neg (fun z => hlt ((iI_lt hb ha).mp z))]; congr 1; omega
  rw [e]
  exact h H locs ls hP hD hS hl
theorem z_mmax (ok : zOK X Z R cc own nL) {idx : Nat} {a b : Int} (hlk : Cond.methodLink own idx Lib.Math.max.name ∈ wsL_law) (hs : Cond.static Lib.Math.max.name ∈ wsL_law) (hi : Cond.initialized "java/lang/Math" ∈ wsL_law) (hco : Cond.code Lib.Math.max.name Lib.Math.max.code 2 (some .int) ∈ wsL_law) (d : decode cc pc = .ok (.invokestatic idx, 3)) (hf : 1 ≤ R.frames ∧ k ≤ R.cells ∧ n ≤ R.slots) (hlo : (st.map fun v => v.category).sum + 13 ≤ R.locals) (ha : -2147483648 ≤ a ∧ a < 2147483648) (hb : -2147483648 ≤ b ∧ b < 2147483648) (h : zV X k n ws (pc + 3) lv (.int (iI (max a b)) :: st)) : zV X k n ws pc lv (.int (iI b) :: .int (iI a) :: st) := by
  obtain ⟨p, l, e', R, s, m, args, below, meth, c, Q, Z, A, H0⟩ := X
  obtain ⟨rfl, rfl, hx, hbb, hml, ho, hts, hK, hA⟩ := ok
  intro H locs ls hP hD hS hl
  refine va_mmax hx hbb hl.1.symm ho (hts _ hlk) (hts _ hs) (hts _ hi) (hts _ hco) hf.1 hlo hf.2.1 hf.2.2 d ?_
  have e : (if iI a < iI b then iI b else iI a) = iI (max a b) := by
    by_cases hlt : a < b
    · rw [if_pos ((iI_lt ha hb).mpr hlt)]; congr 1; omega
    · rw [if_neg (fun z => hlt ((iI_lt ha hb).mp z))]; congr 1; omega
  rw [e]
  exact h H locs ls hP hD hS hl
theorem z_mabs (ok : zOK X Z R cc own nL) {idx : Nat} {a : Int} (hlk : Cond.methodLink own idx Lib.Math.abs.name ∈ wsL_law) (hs : Cond.static Lib.Math.abs.name ∈ wsL_law) (hi : Cond.initialized "java/lang/Math" ∈ wsL_law) (hco : Cond.code Lib.Math.abs.name Lib.Math.abs.code 1 (some .int) ∈ wsL_law) (d : decode cc pc = .ok (.invokestatic idx, 3)) (hf : 1 ≤ R.frames ∧ k ≤ R.cells ∧ n ≤ R.slots) (hlo : (st.map fun v => v.category).sum + 13 ≤ R.locals) (ha : -2147483648 ≤ a ∧ a < 2147483648) (h : zV X k n ws (pc + 3) lv (.int (iI (zabs a)) :: st)) : zV X k n ws pc lv (.int (iI a) :: st) := by
  obtain ⟨p, l, e', R, s, m, args, below, meth, c, Q, Z, A, H0⟩ := X
  obtain ⟨rfl, rfl, hx, hbb, hml, ho, hts, hK, hA⟩ := ok
  intro H locs ls hP hD hS hl
  refine va_mabs hx hbb hl.1.symm ho (hts _ hlk) (hts _ hs) (hts _ hi) (hts _ hco) hf.1 hlo hf.2.1 hf.2.2 d ?_
  have e : (if 0 ≤ iI a then iI a else 0 - iI a) = iI (zabs a) := by
    have hz : (0 : Int32) = iI 0 := rfl
    rw [hz]
    unfold zabs
    by_cases hlt : 0 ≤ a
    · rw [if_pos ((iI_le ⟨by decide, by decide⟩ ha).mpr hlt)]; congr 1; omega
    · rw [if_neg (fun z => hlt ((iI_le ⟨by decide, by decide⟩ ha).mp z)), iI_sub]; congr 1; omega
  rw [e]
  exact h H locs ls hP hD hS hl
theorem z_alen (ok : zOK X Z R cc own nL) (q0 : Nat) {b N : Nat} {v : Int} {f : Nat → Int32} (he : ws[q0]? = some (b, .inl (Z.2.1, N, .inl f))) (hv : (N : Int) = v) (d : decode cc pc = .ok (.arraylength, 1)) (h : zV X k n ws (pc + 1) lv (.int (iI v) :: st)) : zV X k n ws pc lv (.ref b :: st) := by
  obtain ⟨p, l, e', R, s, m, args, below, meth, c, Q, Z, A, H0⟩ := X
  obtain ⟨rfl, rfl, hx, hbb, hml, ho, hts, hK, hA⟩ := ok
  intro H locs ls hP hD hS hl
  subst hv
  exact va_alen hx hbb hK hP q0 0 he (ty := .int) rfl rfl d (h H locs ls hP hD hS hl)
end ZC
/-- the reference's world: the object, its arrays -/
def mW (Z : zZ) (q : Nat → Nat) (now kept hist : Int → Int) (und : Int) (sav isv pad : Int → Int) (sg it : Int) (far many laid sides stuck ord : Int → Int) (rd pl wr : Int) : va_W :=
  [(q 0, .inr (7, [.ref (q 1), .ref (q 2), .ref (q 3), .int (iI und), .ref (q 4), .ref (q 5), .ref (q 6), .int (iI sg), .int (iI it), .ref (q 7), .ref (q 8), .ref (q 9), .ref (q 10), .ref (q 11), .ref (q 12), .int (iI rd), .int (iI pl), .int (iI wr)])),
   (q 1, .inl (Z.2.1, 560, .inl (fun j : Nat => iI (now j)))),
   (q 2, .inl (Z.2.1, 560, .inl (fun j : Nat => iI (kept j)))),
   (q 3, .inl (Z.2.1, 3360, .inl (fun j : Nat => iI (hist j)))),
   (q 4, .inl (Z.2.1, 1120, .inl (fun j : Nat => iI (sav j)))),
   (q 5, .inl (Z.2.2.1, 2, .inl (fun j : Nat => iI (isv j)))),
   (q 6, .inl (Z.2.1, 80, .inl (fun j : Nat => iI (pad j)))),
   (q 7, .inl (Z.2.1, 6250, .inl (fun j : Nat => iI (far j)))),
   (q 8, .inl (Z.2.1, 6250, .inl (fun j : Nat => iI (many j)))),
   (q 9, .inl (Z.2.2.1, 25, .inl (fun j : Nat => iI (laid j)))),
   (q 10, .inl (Z.2.1, 4, .inl (fun j : Nat => iI (sides j)))),
   (q 11, .inl (Z.2.2.1, 40, .inl (fun j : Nat => iI (stuck j)))),
   (q 12, .inl (Z.2.1, 240, .inl (fun j : Nat => iI (ord j))))]
theorem zm_X6_learnRoutes : zMT yX6_learnRoutes RX6 cX6_learnRoutes 1 none 0 := ⟨qc_X6_learnRoutes, qn_RX6, rfl, by decide +kernel, by decide +kernel, by decide +kernel⟩
theorem zv_X6_learnRoutes : zMV yX6_learnRoutes RX6 := ⟨qi_X6_learnRoutes, qs_X6_learnRoutes⟩
theorem zm_X4_learn : zMT yX4_learn RX4 cX4_learn 8 none 2 := ⟨qc_X4_learn, qn_RX4, rfl, by decide +kernel, by decide +kernel, by decide +kernel⟩
theorem zv_X4_learn : zMV yX4_learn RX4 := ⟨qi_X4_learn, qs_X4_learn⟩
theorem zm_X0_boxes : zMT yX0_boxes RX0 cX0_boxes 1 (some .int) 0 := ⟨qc_X0_boxes, qn_RX0, rfl, by decide +kernel, by decide +kernel, by decide +kernel⟩
theorem zv_X0_boxes : zMV yX0_boxes RX0 := ⟨qi_X0_boxes, qs_X0_boxes⟩
theorem zm_X0_linkAt : zMT yX0_linkAt RX0 cX0_linkAt 4 (some .int) 2 := ⟨qc_X0_linkAt, qn_RX0, rfl, by decide +kernel, by decide +kernel, by decide +kernel⟩
theorem zv_X0_linkAt : zMV yX0_linkAt RX0 := ⟨qi_X0_linkAt, qs_X0_linkAt⟩
theorem zm_X0_beside : zMT yX0_beside RX0 cX0_beside 5 (some .int) 2 := ⟨qc_X0_beside, qn_RX0, rfl, by decide +kernel, by decide +kernel, by decide +kernel⟩
theorem zv_X0_beside : zMV yX0_beside RX0 := ⟨qi_X0_beside, qs_X0_beside⟩
theorem zm_X0_isWhole : zMT yX0_isWhole RX0 cX0_isWhole 2 (some .boolean) 1 := ⟨qc_X0_isWhole, qn_RX0, rfl, by decide +kernel, by decide +kernel, by decide +kernel⟩
theorem zv_X0_isWhole : zMV yX0_isWhole RX0 := ⟨qi_X0_isWhole, qs_X0_isWhole⟩
theorem zm_X4_search : zMT yX4_search RX4 cX4_search 3 none 1 := ⟨qc_X4_search, qn_RX4, rfl, by decide +kernel, by decide +kernel, by decide +kernel⟩
theorem zv_X4_search : zMV yX4_search RX4 := ⟨qi_X4_search, qs_X4_search⟩
theorem zm_X4_spot : zMT yX4_spot RX4 cX4_spot 2 (some .int) 2 := ⟨qc_X4_spot, qn_RX4, rfl, by decide +kernel, by decide +kernel, by decide +kernel⟩
theorem zm_X4_reach : zMT yX4_reach RX4 cX4_reach 6 none 4 := ⟨qc_X4_reach, qn_RX4, rfl, by decide +kernel, by decide +kernel, by decide +kernel⟩
theorem zv_X4_reach : zMV yX4_reach RX4 := ⟨qi_X4_reach, qs_X4_reach⟩
theorem zm_X4_stepBack : zMT yX4_stepBack RX4 cX4_stepBack 9 none 3 := ⟨qc_X4_stepBack, qn_RX4, rfl, by decide +kernel, by decide +kernel, by decide +kernel⟩
theorem zv_X4_stepBack : zMV yX4_stepBack RX4 := ⟨qi_X4_stepBack, qs_X4_stepBack⟩
theorem zm_X4_boxBehind : zMT yX4_boxBehind RX4 cX4_boxBehind 4 (some .int) 2 := ⟨qc_X4_boxBehind, qn_RX4, rfl, by decide +kernel, by decide +kernel, by decide +kernel⟩
theorem zv_X4_boxBehind : zMV yX4_boxBehind RX4 := ⟨qi_X4_boxBehind, qs_X4_boxBehind⟩
theorem zm_X4_mayMove : zMT yX4_mayMove RX4 cX4_mayMove 3 (some .boolean) 2 := ⟨qc_X4_mayMove, qn_RX4, rfl, by decide +kernel, by decide +kernel, by decide +kernel⟩
theorem zv_X4_mayMove : zMV yX4_mayMove RX4 := ⟨qi_X4_mayMove, qs_X4_mayMove⟩
theorem zm_X4_opposite : zMT yX4_opposite RX4 cX4_opposite 1 (some .int) 1 := ⟨qc_X4_opposite, qn_RX4, rfl, by decide +kernel, by decide +kernel, by decide +kernel⟩
theorem zm_X6_set : zMT yX6_set RX6 cX6_set 4 (some .int) 2 := ⟨qc_X6_set, qn_RX6, rfl, by decide +kernel, by decide +kernel, by decide +kernel⟩
theorem zv_X6_set : zMV yX6_set RX6 := ⟨qi_X6_set, qs_X6_set⟩
theorem zm_X6_leastOfSetting : zMT yX6_leastOfSetting RX6 cX6_leastOfSetting 1 (some .int) 1 := ⟨qc_X6_leastOfSetting, qn_RX6, rfl, by decide +kernel, by decide +kernel, by decide +kernel⟩
theorem zm_X6_mostOfSetting : zMT yX6_mostOfSetting RX6 cX6_mostOfSetting 1 (some .int) 1 := ⟨qc_X6_mostOfSetting, qn_RX6, rfl, by decide +kernel, by decide +kernel, by decide +kernel⟩
theorem zm_X6_recordState : zMT yX6_recordState RX6 cX6_recordState 1 none 0 := ⟨qc_X6_recordState, qn_RX6, rfl, by decide +kernel, by decide +kernel, by decide +kernel⟩
theorem zv_X6_recordState : zMV yX6_recordState RX6 := ⟨qi_X6_recordState, qs_X6_recordState⟩
theorem zm_X6_dropOldestState : zMT yX6_dropOldestState RX6 cX6_dropOldestState 3 none 0 := ⟨qc_X6_dropOldestState, qn_RX6, rfl, by decide +kernel, by decide +kernel, by decide +kernel⟩
theorem zv_X6_dropOldestState : zMV yX6_dropOldestState RX6 := ⟨qi_X6_dropOldestState, qs_X6_dropOldestState⟩
theorem zm_X5_copyState : zMT yX5_copyState RX5 cX5_copyState 2 none 2 := ⟨qc_X5_copyState, qn_RX5, rfl, by decide +kernel, by decide +kernel, by decide +kernel⟩
theorem zm_X0_copyGrid : zMT yX0_copyGrid RX0 cX0_copyGrid 2 none 1 := ⟨qc_X0_copyGrid, qn_RX0, rfl, by decide +kernel, by decide +kernel, by decide +kernel⟩
theorem zv_X0_copyGrid : zMV yX0_copyGrid RX0 := ⟨qi_X0_copyGrid, qs_X0_copyGrid⟩
theorem zm_X2_copyPackets : zMT yX2_copyPackets RX2 cX2_copyPackets 2 none 1 := ⟨qc_X2_copyPackets, qn_RX2, rfl, by decide +kernel, by decide +kernel, by decide +kernel⟩
theorem zv_X2_copyPackets : zMV yX2_copyPackets RX2 := ⟨qi_X2_copyPackets, qs_X2_copyPackets⟩
theorem zm_X7_set : zMT yX7_set RX7 cX7_set 6 (some .int) 2 := ⟨qc_X7_set, qn_RX7, rfl, by decide +kernel, by decide +kernel, by decide +kernel⟩
theorem zv_X7_set : zMV yX7_set RX7 := ⟨qi_X7_set, qs_X7_set⟩
theorem zm_X7_in : zMT yX7_in RX7 cX7_in 3 (some .boolean) 3 := ⟨qc_X7_in, qn_RX7, rfl, by decide +kernel, by decide +kernel, by decide +kernel⟩
theorem zm_X7_record : zMT yX7_record RX7 cX7_record 2 none 0 := ⟨qc_X7_record, qn_RX7, rfl, by decide +kernel, by decide +kernel, by decide +kernel⟩
theorem zv_X7_record : zMV yX7_record RX7 := ⟨qi_X7_record, qs_X7_record⟩
theorem zm_X7_forget : zMT yX7_forget RX7 cX7_forget 2 none 0 := ⟨qc_X7_forget, qn_RX7, rfl, by decide +kernel, by decide +kernel, by decide +kernel⟩
theorem zv_X7_forget : zMV yX7_forget RX7 := ⟨qi_X7_forget, qs_X7_forget⟩
theorem zm_X6_mesh : zMT yX6_mesh RX6 cX6_mesh 3 (some .int) 2 := ⟨qc_X6_mesh, qn_RX6, rfl, by decide +kernel, by decide +kernel, by decide +kernel⟩
theorem zv_X6_mesh : zMV yX6_mesh RX6 := ⟨qi_X6_mesh, qs_X6_mesh⟩
theorem zm_X6_isLine : zMT yX6_isLine RX6 cX6_isLine 1 (some .boolean) 1 := ⟨qc_X6_isLine, qn_RX6, rfl, by decide +kernel, by decide +kernel, by decide +kernel⟩
theorem zm_X0_layOut : zMT yX0_layOut RX0 cX0_layOut 3 none 2 := ⟨qc_X0_layOut, qn_RX0, rfl, by decide +kernel, by decide +kernel, by decide +kernel⟩
theorem zv_X0_layOut : zMV yX0_layOut RX0 := ⟨qi_X0_layOut, qs_X0_layOut⟩
theorem zm_X7_mesh : zMT yX7_mesh RX7 cX7_mesh 4 (some .int) 2 := ⟨qc_X7_mesh, qn_RX7, rfl, by decide +kernel, by decide +kernel, by decide +kernel⟩
theorem zv_X7_mesh : zMV yX7_mesh RX7 := ⟨qi_X7_mesh, qs_X7_mesh⟩
theorem zm_X7_boxes : zMT yX7_boxes RX7 cX7_boxes 1 (some .int) 0 := ⟨qc_X7_boxes, qn_RX7, rfl, by decide +kernel, by decide +kernel, by decide +kernel⟩
theorem zv_X7_boxes : zMV yX7_boxes RX7 := ⟨qi_X7_boxes, qs_X7_boxes⟩
theorem zm_X6_link : zMT yX6_link RX6 cX6_link 5 (some .int) 3 := ⟨qc_X6_link, qn_RX6, rfl, by decide +kernel, by decide +kernel, by decide +kernel⟩
theorem zv_X6_link : zMV yX6_link RX6 := ⟨qi_X6_link, qs_X6_link⟩
theorem zm_X6_linkError : zMT yX6_linkError RX6 cX6_linkError 4 (some .int) 3 := ⟨qc_X6_linkError, qn_RX6, rfl, by decide +kernel, by decide +kernel, by decide +kernel⟩
theorem zv_X6_linkError : zMV yX6_linkError RX6 := ⟨qi_X6_linkError, qs_X6_linkError⟩
theorem zm_X0_has : zMT yX0_has RX0 cX0_has 2 (some .boolean) 1 := ⟨qc_X0_has, qn_RX0, rfl, by decide +kernel, by decide +kernel, by decide +kernel⟩
theorem zv_X0_has : zMV yX0_has RX0 := ⟨qi_X0_has, qs_X0_has⟩
theorem zm_X6_isSide : zMT yX6_isSide RX6 cX6_isSide 1 (some .boolean) 1 := ⟨qc_X6_isSide, qn_RX6, rfl, by decide +kernel, by decide +kernel, by decide +kernel⟩
theorem zm_X6_changeLink : zMT yX6_changeLink RX6 cX6_changeLink 6 (some .int) 3 := ⟨qc_X6_changeLink, qn_RX6, rfl, by decide +kernel, by decide +kernel, by decide +kernel⟩
theorem zv_X6_changeLink : zMV yX6_changeLink RX6 := ⟨qi_X6_changeLink, qs_X6_changeLink⟩
theorem zm_X0_makeWhole : zMT yX0_makeWhole RX0 cX0_makeWhole 5 none 2 := ⟨qc_X0_makeWhole, qn_RX0, rfl, by decide +kernel, by decide +kernel, by decide +kernel⟩
theorem zv_X0_makeWhole : zMV yX0_makeWhole RX0 := ⟨qi_X0_makeWhole, qs_X0_makeWhole⟩
theorem zm_X7_link : zMT yX7_link RX7 cX7_link 6 (some .int) 3 := ⟨qc_X7_link, qn_RX7, rfl, by decide +kernel, by decide +kernel, by decide +kernel⟩
theorem zv_X7_link : zMV yX7_link RX7 := ⟨qi_X7_link, qs_X7_link⟩
theorem zm_X7_isBox : zMT yX7_isBox RX7 cX7_isBox 2 (some .boolean) 1 := ⟨qc_X7_isBox, qn_RX7, rfl, by decide +kernel, by decide +kernel, by decide +kernel⟩
theorem zv_X7_isBox : zMV yX7_isBox RX7 := ⟨qi_X7_isBox, qs_X7_isBox⟩
theorem zm_X7_beside : zMT yX7_beside RX7 cX7_beside 6 (some .int) 2 := ⟨qc_X7_beside, qn_RX7, rfl, by decide +kernel, by decide +kernel, by decide +kernel⟩
theorem zv_X7_beside : zMV yX7_beside RX7 := ⟨qi_X7_beside, qs_X7_beside⟩
theorem zm_X7_linkOf : zMT yX7_linkOf RX7 cX7_linkOf 4 (some .int) 2 := ⟨qc_X7_linkOf, qn_RX7, rfl, by decide +kernel, by decide +kernel, by decide +kernel⟩
theorem zv_X7_linkOf : zMV yX7_linkOf RX7 := ⟨qi_X7_linkOf, qs_X7_linkOf⟩
theorem zm_X6_send : zMT yX6_send RX6 cX6_send 4 (some .int) 2 := ⟨qc_X6_send, qn_RX6, rfl, by decide +kernel, by decide +kernel, by decide +kernel⟩
theorem zv_X6_send : zMV yX6_send RX6 := ⟨qi_X6_send, qs_X6_send⟩
theorem zm_X6_sendError : zMT yX6_sendError RX6 cX6_sendError 3 (some .int) 2 := ⟨qc_X6_sendError, qn_RX6, rfl, by decide +kernel, by decide +kernel, by decide +kernel⟩
theorem zv_X6_sendError : zMV yX6_sendError RX6 := ⟨qi_X6_sendError, qs_X6_sendError⟩
theorem zm_X5_wayLength : zMT yX5_wayLength RX5 cX5_wayLength 5 (some .int) 3 := ⟨qc_X5_wayLength, qn_RX5, rfl, by decide +kernel, by decide +kernel, by decide +kernel⟩
theorem zv_X5_wayLength : zMV yX5_wayLength RX5 := ⟨qi_X5_wayLength, qs_X5_wayLength⟩
theorem zm_X4_length : zMT yX4_length RX4 cX4_length 5 (some .int) 3 := ⟨qc_X4_length, qn_RX4, rfl, by decide +kernel, by decide +kernel, by decide +kernel⟩
theorem zv_X4_length : zMV yX4_length RX4 := ⟨qi_X4_length, qs_X4_length⟩
theorem zm_X0_distance : zMT yX0_distance RX0 cX0_distance 3 (some .int) 2 := ⟨qc_X0_distance, qn_RX0, rfl, by decide +kernel, by decide +kernel, by decide +kernel⟩
theorem zv_X0_distance : zMV yX0_distance RX0 := ⟨qi_X0_distance, qs_X0_distance⟩
theorem zm_X2_add : zMT yX2_add RX2 cX2_add 5 (some .int) 3 := ⟨qc_X2_add, qn_RX2, rfl, by decide +kernel, by decide +kernel, by decide +kernel⟩
theorem zv_X2_add : zMV yX2_add RX2 := ⟨qi_X2_add, qs_X2_add⟩
theorem zm_X7_send : zMT yX7_send RX7 cX7_send 5 (some .int) 2 := ⟨qc_X7_send, qn_RX7, rfl, by decide +kernel, by decide +kernel, by decide +kernel⟩
theorem zv_X7_send : zMV yX7_send RX7 := ⟨qi_X7_send, qs_X7_send⟩
theorem zm_X7_farOf : zMT yX7_farOf RX7 cX7_farOf 3 (some .int) 2 := ⟨qc_X7_farOf, qn_RX7, rfl, by decide +kernel, by decide +kernel, by decide +kernel⟩
theorem zv_X7_farOf : zMV yX7_farOf RX7 := ⟨qi_X7_farOf, qs_X7_farOf⟩
theorem zm_X7_layFar : zMT yX7_layFar RX7 cX7_layFar 10 none 1 := ⟨qc_X7_layFar, qn_RX7, rfl, by decide +kernel, by decide +kernel, by decide +kernel⟩
theorem zv_X7_layFar : zMV yX7_layFar RX7 := ⟨qi_X7_layFar, qs_X7_layFar⟩
theorem zm_X7_moved : zMT yX7_moved RX7 cX7_moved 9 (some .int) 3 := ⟨qc_X7_moved, qn_RX7, rfl, by decide +kernel, by decide +kernel, by decide +kernel⟩
theorem zv_X7_moved : zMV yX7_moved RX7 := ⟨qi_X7_moved, qs_X7_moved⟩
theorem zm_X7_isWhole : zMT yX7_isWhole RX7 cX7_isWhole 3 (some .boolean) 2 := ⟨qc_X7_isWhole, qn_RX7, rfl, by decide +kernel, by decide +kernel, by decide +kernel⟩
theorem zv_X7_isWhole : zMV yX7_isWhole RX7 := ⟨qi_X7_isWhole, qs_X7_isWhole⟩
theorem zm_X7_isDetour : zMT yX7_isDetour RX7 cX7_isDetour 4 (some .boolean) 3 := ⟨qc_X7_isDetour, qn_RX7, rfl, by decide +kernel, by decide +kernel, by decide +kernel⟩
theorem zv_X7_isDetour : zMV yX7_isDetour RX7 := ⟨qi_X7_isDetour, qs_X7_isDetour⟩
theorem zm_X7_apart : zMT yX7_apart RX7 cX7_apart 5 (some .int) 2 := ⟨qc_X7_apart, qn_RX7, rfl, by decide +kernel, by decide +kernel, by decide +kernel⟩
theorem zv_X7_apart : zMV yX7_apart RX7 := ⟨qi_X7_apart, qs_X7_apart⟩
theorem zm_X7_book : zMT yX7_book RX7 cX7_book 4 none 3 := ⟨qc_X7_book, qn_RX7, rfl, by decide +kernel, by decide +kernel, by decide +kernel⟩
theorem zv_X7_book : zMV yX7_book RX7 := ⟨qi_X7_book, qs_X7_book⟩
theorem zm_X6_ticks : zMT yX6_ticks RX6 cX6_ticks 2 (some .int) 1 := ⟨qc_X6_ticks, qn_RX6, rfl, by decide +kernel, by decide +kernel, by decide +kernel⟩
theorem zv_X6_ticks : zMV yX6_ticks RX6 := ⟨qi_X6_ticks, qs_X6_ticks⟩
theorem zm_X6_isTicks : zMT yX6_isTicks RX6 cX6_isTicks 1 (some .boolean) 1 := ⟨qc_X6_isTicks, qn_RX6, rfl, by decide +kernel, by decide +kernel, by decide +kernel⟩
theorem zm_X5_passTicks : zMT yX5_passTicks RX5 cX5_passTicks 7 none 2 := ⟨qc_X5_passTicks, qn_RX5, rfl, by decide +kernel, by decide +kernel, by decide +kernel⟩
theorem zv_X5_passTicks : zMV yX5_passTicks RX5 := ⟨qi_X5_passTicks, qs_X5_passTicks⟩
theorem zm_X5_comesInside : zMT yX5_comesInside RX5 cX5_comesInside 3 (some .boolean) 1 := ⟨qc_X5_comesInside, qn_RX5, rfl, by decide +kernel, by decide +kernel, by decide +kernel⟩
theorem zv_X5_comesInside : zMV yX5_comesInside RX5 := ⟨qi_X5_comesInside, qs_X5_comesInside⟩
theorem zm_X5_hasRoom : zMT yX5_hasRoom RX5 cX5_hasRoom 2 (some .boolean) 1 := ⟨qc_X5_hasRoom, qn_RX5, rfl, by decide +kernel, by decide +kernel, by decide +kernel⟩
theorem zv_X5_hasRoom : zMV yX5_hasRoom RX5 := ⟨qi_X5_hasRoom, qs_X5_hasRoom⟩
theorem zm_X5_movesOn : zMT yX5_movesOn RX5 cX5_movesOn 7 (some .boolean) 2 := ⟨qc_X5_movesOn, qn_RX5, rfl, by decide +kernel, by decide +kernel, by decide +kernel⟩
theorem zv_X5_movesOn : zMV yX5_movesOn RX5 := ⟨qi_X5_movesOn, qs_X5_movesOn⟩
theorem zm_X5_firstSide : zMT yX5_firstSide RX5 cX5_firstSide 9 (some .int) 3 := ⟨qc_X5_firstSide, qn_RX5, rfl, by decide +kernel, by decide +kernel, by decide +kernel⟩
theorem zv_X5_firstSide : zMV yX5_firstSide RX5 := ⟨qi_X5_firstSide, qs_X5_firstSide⟩
theorem zm_X5_mostMoves : zMT yX5_mostMoves RX5 cX5_mostMoves 3 (some .int) 1 := ⟨qc_X5_mostMoves, qn_RX5, rfl, by decide +kernel, by decide +kernel, by decide +kernel⟩
theorem zv_X5_mostMoves : zMV yX5_mostMoves RX5 := ⟨qi_X5_mostMoves, qs_X5_mostMoves⟩
theorem zm_X4_lengthAfter : zMT yX4_lengthAfter RX4 cX4_lengthAfter 6 (some .int) 4 := ⟨qc_X4_lengthAfter, qn_RX4, rfl, by decide +kernel, by decide +kernel, by decide +kernel⟩
theorem zv_X4_lengthAfter : zMV yX4_lengthAfter RX4 := ⟨qi_X4_lengthAfter, qs_X4_lengthAfter⟩
theorem zm_X5_letsIn : zMT yX5_letsIn RX5 cX5_letsIn 3 (some .boolean) 2 := ⟨qc_X5_letsIn, qn_RX5, rfl, by decide +kernel, by decide +kernel, by decide +kernel⟩
theorem zv_X5_letsIn : zMV yX5_letsIn RX5 := ⟨qi_X5_letsIn, qs_X5_letsIn⟩
theorem zm_X2_noteMove : zMT yX2_noteMove RX2 cX2_noteMove 5 none 4 := ⟨qc_X2_noteMove, qn_RX2, rfl, by decide +kernel, by decide +kernel, by decide +kernel⟩
theorem zv_X2_noteMove : zMV yX2_noteMove RX2 := ⟨qi_X2_noteMove, qs_X2_noteMove⟩
theorem zm_X7_ticks : zMT yX7_ticks RX7 cX7_ticks 3 (some .int) 1 := ⟨qc_X7_ticks, qn_RX7, rfl, by decide +kernel, by decide +kernel, by decide +kernel⟩
theorem zv_X7_ticks : zMV yX7_ticks RX7 := ⟨qi_X7_ticks, qs_X7_ticks⟩
theorem zm_X7_pass : zMT yX7_pass RX7 cX7_pass 3 none 0 := ⟨qc_X7_pass, qn_RX7, rfl, by decide +kernel, by decide +kernel, by decide +kernel⟩
theorem zv_X7_pass : zMV yX7_pass RX7 := ⟨qi_X7_pass, qs_X7_pass⟩
theorem zm_X7_of : zMT yX7_of RX7 cX7_of 3 (some .int) 2 := ⟨qc_X7_of, qn_RX7, rfl, by decide +kernel, by decide +kernel, by decide +kernel⟩
theorem zv_X7_of : zMV yX7_of RX7 := ⟨qi_X7_of, qs_X7_of⟩
theorem zm_X7_hasRoom : zMT yX7_hasRoom RX7 cX7_hasRoom 2 (some .boolean) 1 := ⟨qc_X7_hasRoom, qn_RX7, rfl, by decide +kernel, by decide +kernel, by decide +kernel⟩
theorem zv_X7_hasRoom : zMV yX7_hasRoom RX7 := ⟨qi_X7_hasRoom, qs_X7_hasRoom⟩
theorem zm_X7_insideOf : zMT yX7_insideOf RX7 cX7_insideOf 4 (some .int) 1 := ⟨qc_X7_insideOf, qn_RX7, rfl, by decide +kernel, by decide +kernel, by decide +kernel⟩
theorem zv_X7_insideOf : zMV yX7_insideOf RX7 := ⟨qi_X7_insideOf, qs_X7_insideOf⟩
theorem zm_X7_goesTo : zMT yX7_goesTo RX7 cX7_goesTo 5 (some .int) 1 := ⟨qc_X7_goesTo, qn_RX7, rfl, by decide +kernel, by decide +kernel, by decide +kernel⟩
theorem zv_X7_goesTo : zMV yX7_goesTo RX7 := ⟨qi_X7_goesTo, qs_X7_goesTo⟩
theorem zm_X7_laySides : zMT yX7_laySides RX7 cX7_laySides 8 (some .int) 1 := ⟨qc_X7_laySides, qn_RX7, rfl, by decide +kernel, by decide +kernel, by decide +kernel⟩
theorem zv_X7_laySides : zMV yX7_laySides RX7 := ⟨qi_X7_laySides, qs_X7_laySides⟩
theorem zm_X7_standing : zMT yX7_standing RX7 cX7_standing 2 (some .int) 1 := ⟨qc_X7_standing, qn_RX7, rfl, by decide +kernel, by decide +kernel, by decide +kernel⟩
theorem zv_X7_standing : zMV yX7_standing RX7 := ⟨qi_X7_standing, qs_X7_standing⟩
theorem zm_X7_move : zMT yX7_move RX7 cX7_move 6 none 2 := ⟨qc_X7_move, qn_RX7, rfl, by decide +kernel, by decide +kernel, by decide +kernel⟩
theorem zv_X7_move : zMV yX7_move RX7 := ⟨qi_X7_move, qs_X7_move⟩
theorem zm_X6_ofPacket : zMT yX6_ofPacket RX6 cX6_ofPacket 4 (some .int) 2 := ⟨qc_X6_ofPacket, qn_RX6, rfl, by decide +kernel, by decide +kernel, by decide +kernel⟩
theorem zv_X6_ofPacket : zMV yX6_ofPacket RX6 := ⟨qi_X6_ofPacket, qs_X6_ofPacket⟩
theorem zm_X2_has : zMT yX2_has RX2 cX2_has 2 (some .boolean) 1 := ⟨qc_X2_has, qn_RX2, rfl, by decide +kernel, by decide +kernel, by decide +kernel⟩
theorem zv_X2_has : zMV yX2_has RX2 := ⟨qi_X2_has, qs_X2_has⟩
theorem zm_X5_wayLengthOf : zMT yX5_wayLengthOf RX5 cX5_wayLengthOf 4 (some .int) 2 := ⟨qc_X5_wayLengthOf, qn_RX5, rfl, by decide +kernel, by decide +kernel, by decide +kernel⟩
theorem zv_X5_wayLengthOf : zMV yX5_wayLengthOf RX5 := ⟨qi_X5_wayLengthOf, qs_X5_wayLengthOf⟩
theorem zm_X1_holds : zMT yX1_holds RX1 cX1_holds 4 (some .boolean) 3 := ⟨qc_X1_holds, qn_RX1, rfl, by decide +kernel, by decide +kernel, by decide +kernel⟩
theorem zv_X1_holds : zMV yX1_holds RX1 := ⟨qi_X1_holds, qs_X1_holds⟩
theorem zm_X1_find : zMT yX1_find RX1 cX1_find 7 none 2 := ⟨qc_X1_find, qn_RX1, rfl, by decide +kernel, by decide +kernel, by decide +kernel⟩
theorem zv_X1_find : zMV yX1_find RX1 := ⟨qi_X1_find, qs_X1_find⟩
theorem zm_X1_canGoOn : zMT yX1_canGoOn RX1 cX1_canGoOn 6 (some .boolean) 3 := ⟨qc_X1_canGoOn, qn_RX1, rfl, by decide +kernel, by decide +kernel, by decide +kernel⟩
theorem zv_X1_canGoOn : zMV yX1_canGoOn RX1 := ⟨qi_X1_canGoOn, qs_X1_canGoOn⟩
theorem zm_X5_isPossible : zMT yX5_isPossible RX5 cX5_isPossible 4 (some .boolean) 3 := ⟨qc_X5_isPossible, qn_RX5, rfl, by decide +kernel, by decide +kernel, by decide +kernel⟩
theorem zv_X5_isPossible : zMV yX5_isPossible RX5 := ⟨qi_X5_isPossible, qs_X5_isPossible⟩
theorem zm_X1_hasFreePacket : zMT yX1_hasFreePacket RX1 cX1_hasFreePacket 4 (some .boolean) 2 := ⟨qc_X1_hasFreePacket, qn_RX1, rfl, by decide +kernel, by decide +kernel, by decide +kernel⟩
theorem zv_X1_hasFreePacket : zMV yX1_hasFreePacket RX1 := ⟨qi_X1_hasFreePacket, qs_X1_hasFreePacket⟩
theorem zm_X7_ofPacket : zMT yX7_ofPacket RX7 cX7_ofPacket 3 (some .int) 2 := ⟨qc_X7_ofPacket, qn_RX7, rfl, by decide +kernel, by decide +kernel, by decide +kernel⟩
theorem zv_X7_ofPacket : zMV yX7_ofPacket RX7 := ⟨qi_X7_ofPacket, qs_X7_ofPacket⟩
theorem zm_X7_isPacket : zMT yX7_isPacket RX7 cX7_isPacket 2 (some .boolean) 1 := ⟨qc_X7_isPacket, qn_RX7, rfl, by decide +kernel, by decide +kernel, by decide +kernel⟩
theorem zv_X7_isPacket : zMV yX7_isPacket RX7 := ⟨qi_X7_isPacket, qs_X7_isPacket⟩
theorem zm_X7_lengthOf : zMT yX7_lengthOf RX7 cX7_lengthOf 2 (some .int) 1 := ⟨qc_X7_lengthOf, qn_RX7, rfl, by decide +kernel, by decide +kernel, by decide +kernel⟩
theorem zv_X7_lengthOf : zMV yX7_lengthOf RX7 := ⟨qi_X7_lengthOf, qs_X7_lengthOf⟩
theorem zm_X7_layStuck : zMT yX7_layStuck RX7 cX7_layStuck 4 (some .int) 0 := ⟨qc_X7_layStuck, qn_RX7, rfl, by decide +kernel, by decide +kernel, by decide +kernel⟩
theorem zv_X7_layStuck : zMV yX7_layStuck RX7 := ⟨qi_X7_layStuck, qs_X7_layStuck⟩
theorem zm_X7_isFree : zMT yX7_isFree RX7 cX7_isFree 7 (some .boolean) 1 := ⟨qc_X7_isFree, qn_RX7, rfl, by decide +kernel, by decide +kernel, by decide +kernel⟩
theorem zv_X7_isFree : zMV yX7_isFree RX7 := ⟨qi_X7_isFree, qs_X7_isFree⟩
theorem zm_X6_ofBox : zMT yX6_ofBox RX6 cX6_ofBox 3 (some .int) 2 := ⟨qc_X6_ofBox, qn_RX6, rfl, by decide +kernel, by decide +kernel, by decide +kernel⟩
theorem zv_X6_ofBox : zMV yX6_ofBox RX6 := ⟨qi_X6_ofBox, qs_X6_ofBox⟩
theorem zm_X2_countAt : zMT yX2_countAt RX2 cX2_countAt 5 (some .int) 2 := ⟨qc_X2_countAt, qn_RX2, rfl, by decide +kernel, by decide +kernel, by decide +kernel⟩
theorem zv_X2_countAt : zMV yX2_countAt RX2 := ⟨qi_X2_countAt, qs_X2_countAt⟩
theorem zm_X6_linkState : zMT yX6_linkState RX6 cX6_linkState 4 (some .int) 2 := ⟨qc_X6_linkState, qn_RX6, rfl, by decide +kernel, by decide +kernel, by decide +kernel⟩
theorem zv_X6_linkState : zMV yX6_linkState RX6 := ⟨qi_X6_linkState, qs_X6_linkState⟩
theorem zm_X7_ofBox : zMT yX7_ofBox RX7 cX7_ofBox 3 (some .int) 2 := ⟨qc_X7_ofBox, qn_RX7, rfl, by decide +kernel, by decide +kernel, by decide +kernel⟩
theorem zv_X7_ofBox : zMV yX7_ofBox RX7 := ⟨qi_X7_ofBox, qs_X7_ofBox⟩
theorem zm_X7_packetsOf : zMT yX7_packetsOf RX7 cX7_packetsOf 5 (some .int) 2 := ⟨qc_X7_packetsOf, qn_RX7, rfl, by decide +kernel, by decide +kernel, by decide +kernel⟩
theorem zv_X7_packetsOf : zMV yX7_packetsOf RX7 := ⟨qi_X7_packetsOf, qs_X7_packetsOf⟩
theorem zm_X6_count : zMT yX6_count RX6 cX6_count 3 (some .int) 1 := ⟨qc_X6_count, qn_RX6, rfl, by decide +kernel, by decide +kernel, by decide +kernel⟩
theorem zv_X6_count : zMV yX6_count RX6 := ⟨qi_X6_count, qs_X6_count⟩
theorem zm_X2_countIn : zMT yX2_countIn RX2 cX2_countIn 4 (some .int) 1 := ⟨qc_X2_countIn, qn_RX2, rfl, by decide +kernel, by decide +kernel, by decide +kernel⟩
theorem zv_X2_countIn : zMV yX2_countIn RX2 := ⟨qi_X2_countIn, qs_X2_countIn⟩
theorem zm_X2_sum : zMT yX2_sum RX2 cX2_sum 4 (some .int) 1 := ⟨qc_X2_sum, qn_RX2, rfl, by decide +kernel, by decide +kernel, by decide +kernel⟩
theorem zv_X2_sum : zMV yX2_sum RX2 := ⟨qi_X2_sum, qs_X2_sum⟩
theorem zm_X1_size : zMT yX1_size RX1 cX1_size 5 (some .int) 2 := ⟨qc_X1_size, qn_RX1, rfl, by decide +kernel, by decide +kernel, by decide +kernel⟩
theorem zv_X1_size : zMV yX1_size RX1 := ⟨qi_X1_size, qs_X1_size⟩
theorem zm_X0_brokenLinks : zMT yX0_brokenLinks RX0 cX0_brokenLinks 1 (some .int) 0 := ⟨qc_X0_brokenLinks, qn_RX0, rfl, by decide +kernel, by decide +kernel, by decide +kernel⟩
theorem zv_X0_brokenLinks : zMV yX0_brokenLinks RX0 := ⟨qi_X0_brokenLinks, qs_X0_brokenLinks⟩
theorem zm_X7_count : zMT yX7_count RX7 cX7_count 2 (some .int) 1 := ⟨qc_X7_count, qn_RX7, rfl, by decide +kernel, by decide +kernel, by decide +kernel⟩
theorem zv_X7_count : zMV yX7_count RX7 := ⟨qi_X7_count, qs_X7_count⟩
theorem zm_X7_sum : zMT yX7_sum RX7 cX7_sum 4 (some .int) 1 := ⟨qc_X7_sum, qn_RX7, rfl, by decide +kernel, by decide +kernel, by decide +kernel⟩
theorem zv_X7_sum : zMV yX7_sum RX7 := ⟨qi_X7_sum, qs_X7_sum⟩
theorem zm_X7_broken : zMT yX7_broken RX7 cX7_broken 3 (some .int) 0 := ⟨qc_X7_broken, qn_RX7, rfl, by decide +kernel, by decide +kernel, by decide +kernel⟩
theorem zv_X7_broken : zMV yX7_broken RX7 := ⟨qi_X7_broken, qs_X7_broken⟩
theorem zm_X6_leastWay : zMT yX6_leastWay RX6 cX6_leastWay 3 (some .int) 2 := ⟨qc_X6_leastWay, qn_RX6, rfl, by decide +kernel, by decide +kernel, by decide +kernel⟩
theorem zv_X6_leastWay : zMV yX6_leastWay RX6 := ⟨qi_X6_leastWay, qs_X6_leastWay⟩
theorem zm_X7_leastWay : zMT yX7_leastWay RX7 cX7_leastWay 3 (some .int) 2 := ⟨qc_X7_leastWay, qn_RX7, rfl, by decide +kernel, by decide +kernel, by decide +kernel⟩
theorem zv_X7_leastWay : zMV yX7_leastWay RX7 := ⟨qi_X7_leastWay, qs_X7_leastWay⟩
theorem zm_X6_ways : zMT yX6_ways RX6 cX6_ways 3 (some .int) 2 := ⟨qc_X6_ways, qn_RX6, rfl, by decide +kernel, by decide +kernel, by decide +kernel⟩
theorem zv_X6_ways : zMV yX6_ways RX6 := ⟨qi_X6_ways, qs_X6_ways⟩
theorem zm_X4_shortestWays : zMT yX4_shortestWays RX4 cX4_shortestWays 3 (some .int) 2 := ⟨qc_X4_shortestWays, qn_RX4, rfl, by decide +kernel, by decide +kernel, by decide +kernel⟩
theorem zv_X4_shortestWays : zMV yX4_shortestWays RX4 := ⟨qi_X4_shortestWays, qs_X4_shortestWays⟩
theorem zm_X7_ways : zMT yX7_ways RX7 cX7_ways 3 (some .int) 2 := ⟨qc_X7_ways, qn_RX7, rfl, by decide +kernel, by decide +kernel, by decide +kernel⟩
theorem zv_X7_ways : zMV yX7_ways RX7 := ⟨qi_X7_ways, qs_X7_ways⟩
theorem zm_X6_pairs : zMT yX6_pairs RX6 cX6_pairs 1 (some .int) 0 := ⟨qc_X6_pairs, qn_RX6, rfl, by decide +kernel, by decide +kernel, by decide +kernel⟩
theorem zv_X6_pairs : zMV yX6_pairs RX6 := ⟨qi_X6_pairs, qs_X6_pairs⟩
theorem zm_X5_connectedPairs : zMT yX5_connectedPairs RX5 cX5_connectedPairs 6 (some .int) 1 := ⟨qc_X5_connectedPairs, qn_RX5, rfl, by decide +kernel, by decide +kernel, by decide +kernel⟩
theorem zv_X5_connectedPairs : zMV yX5_connectedPairs RX5 := ⟨qi_X5_connectedPairs, qs_X5_connectedPairs⟩
theorem zm_X7_pairs : zMT yX7_pairs RX7 cX7_pairs 1 (some .int) 0 := ⟨qc_X7_pairs, qn_RX7, rfl, by decide +kernel, by decide +kernel, by decide +kernel⟩
theorem zv_X7_pairs : zMV yX7_pairs RX7 := ⟨qi_X7_pairs, qs_X7_pairs⟩
theorem zm_X7_pairsNow : zMT yX7_pairsNow RX7 cX7_pairsNow 4 (some .int) 0 := ⟨qc_X7_pairsNow, qn_RX7, rfl, by decide +kernel, by decide +kernel, by decide +kernel⟩
theorem zv_X7_pairsNow : zMV yX7_pairsNow RX7 := ⟨qi_X7_pairsNow, qs_X7_pairsNow⟩
theorem zm_X6_worstLink : zMT yX6_worstLink RX6 cX6_worstLink 3 (some .int) 1 := ⟨qc_X6_worstLink, qn_RX6, rfl, by decide +kernel, by decide +kernel, by decide +kernel⟩
theorem zv_X6_worstLink : zMV yX6_worstLink RX6 := ⟨qi_X6_worstLink, qs_X6_worstLink⟩
theorem zm_X6_findWorstLink : zMT yX6_findWorstLink RX6 cX6_findWorstLink 5 (some .int) 0 := ⟨qc_X6_findWorstLink, qn_RX6, rfl, by decide +kernel, by decide +kernel, by decide +kernel⟩
theorem zv_X6_findWorstLink : zMV yX6_findWorstLink RX6 := ⟨qi_X6_findWorstLink, qs_X6_findWorstLink⟩
theorem zm_X0_isLink : zMT yX0_isLink RX0 cX0_isLink 2 (some .boolean) 1 := ⟨qc_X0_isLink, qn_RX0, rfl, by decide +kernel, by decide +kernel, by decide +kernel⟩
theorem zv_X0_isLink : zMV yX0_isLink RX0 := ⟨qi_X0_isLink, qs_X0_isLink⟩
theorem zm_X0_boxOfLink : zMT yX0_boxOfLink RX0 cX0_boxOfLink 1 (some .int) 1 := ⟨qc_X0_boxOfLink, qn_RX0, rfl, by decide +kernel, by decide +kernel, by decide +kernel⟩
theorem zm_X0_sideOfLink : zMT yX0_sideOfLink RX0 cX0_sideOfLink 1 (some .int) 1 := ⟨qc_X0_sideOfLink, qn_RX0, rfl, by decide +kernel, by decide +kernel, by decide +kernel⟩
theorem zm_X6_pairsWithout : zMT yX6_pairsWithout RX6 cX6_pairsWithout 2 (some .int) 1 := ⟨qc_X6_pairsWithout, qn_RX6, rfl, by decide +kernel, by decide +kernel, by decide +kernel⟩
theorem zv_X6_pairsWithout : zMV yX6_pairsWithout RX6 := ⟨qi_X6_pairsWithout, qs_X6_pairsWithout⟩
theorem zm_X7_worstLink : zMT yX7_worstLink RX7 cX7_worstLink 7 (some .int) 1 := ⟨qc_X7_worstLink, qn_RX7, rfl, by decide +kernel, by decide +kernel, by decide +kernel⟩
theorem zv_X7_worstLink : zMV yX7_worstLink RX7 := ⟨qi_X7_worstLink, qs_X7_worstLink⟩
theorem zm_X6_busiest : zMT yX6_busiest RX6 cX6_busiest 4 (some .int) 1 := ⟨qc_X6_busiest, qn_RX6, rfl, by decide +kernel, by decide +kernel, by decide +kernel⟩
theorem zv_X6_busiest : zMV yX6_busiest RX6 := ⟨qi_X6_busiest, qs_X6_busiest⟩
theorem zm_X7_busiest : zMT yX7_busiest RX7 cX7_busiest 4 (some .int) 1 := ⟨qc_X7_busiest, qn_RX7, rfl, by decide +kernel, by decide +kernel, by decide +kernel⟩
theorem zv_X7_busiest : zMV yX7_busiest RX7 := ⟨qi_X7_busiest, qs_X7_busiest⟩
theorem zm_X6_arrivesIn : zMT yX6_arrivesIn RX6 cX6_arrivesIn 3 (some .int) 1 := ⟨qc_X6_arrivesIn, qn_RX6, rfl, by decide +kernel, by decide +kernel, by decide +kernel⟩
theorem zv_X6_arrivesIn : zMV yX6_arrivesIn RX6 := ⟨qi_X6_arrivesIn, qs_X6_arrivesIn⟩
theorem zm_X7_arrivesIn : zMT yX7_arrivesIn RX7 cX7_arrivesIn 4 (some .int) 1 := ⟨qc_X7_arrivesIn, qn_RX7, rfl, by decide +kernel, by decide +kernel, by decide +kernel⟩
theorem zv_X7_arrivesIn : zMV yX7_arrivesIn RX7 := ⟨qi_X7_arrivesIn, qs_X7_arrivesIn⟩
theorem zm_X7_keep : zMT yX7_keep RX7 cX7_keep 2 none 0 := ⟨qc_X7_keep, qn_RX7, rfl, by decide +kernel, by decide +kernel, by decide +kernel⟩
theorem zv_X7_keep : zMV yX7_keep RX7 := ⟨qi_X7_keep, qs_X7_keep⟩
theorem zm_X7_comeBack : zMT yX7_comeBack RX7 cX7_comeBack 2 none 0 := ⟨qc_X7_comeBack, qn_RX7, rfl, by decide +kernel, by decide +kernel, by decide +kernel⟩
theorem zv_X7_comeBack : zMV yX7_comeBack RX7 := ⟨qi_X7_comeBack, qs_X7_comeBack⟩
theorem zm_X6_arrivedBy : zMT yX6_arrivedBy RX6 cX6_arrivedBy 2 (some .int) 1 := ⟨qc_X6_arrivedBy, qn_RX6, rfl, by decide +kernel, by decide +kernel, by decide +kernel⟩
theorem zv_X6_arrivedBy : zMV yX6_arrivedBy RX6 := ⟨qi_X6_arrivedBy, qs_X6_arrivedBy⟩
theorem zm_X7_arrivedBy : zMT yX7_arrivedBy RX7 cX7_arrivedBy 3 (some .int) 1 := ⟨qc_X7_arrivedBy, qn_RX7, rfl, by decide +kernel, by decide +kernel, by decide +kernel⟩
theorem zv_X7_arrivedBy : zMV yX7_arrivedBy RX7 := ⟨qi_X7_arrivedBy, qs_X7_arrivedBy⟩
theorem zm_X6_put : zMT yX6_put RX6 cX6_put 4 (some .int) 1 := ⟨qc_X6_put, qn_RX6, rfl, by decide +kernel, by decide +kernel, by decide +kernel⟩
theorem zv_X6_put : zMV yX6_put RX6 := ⟨qi_X6_put, qs_X6_put⟩
theorem zm_X3_countCharacters : zMT yX3_countCharacters RX3 cX3_countCharacters 7 (some .int) 1 := ⟨qc_X3_countCharacters, qn_RX3, rfl, by decide +kernel, by decide +kernel, by decide +kernel⟩
theorem zm_X3_fits : zMT yX3_fits RX3 cX3_fits 2 (some .boolean) 1 := ⟨qc_X3_fits, qn_RX3, rfl, by decide +kernel, by decide +kernel, by decide +kernel⟩
theorem zv_X3_fits : zMV yX3_fits RX3 := ⟨qi_X3_fits, qs_X3_fits⟩
theorem zm_X3_append : zMT yX3_append RX3 cX3_append 6 none 2 := ⟨qc_X3_append, qn_RX3, rfl, by decide +kernel, by decide +kernel, by decide +kernel⟩
theorem zv_X3_append : zMV yX3_append RX3 := ⟨qi_X3_append, qs_X3_append⟩
theorem zm_X7_put : zMT yX7_put RX7 cX7_put 7 (some .int) 1 := ⟨qc_X7_put, qn_RX7, rfl, by decide +kernel, by decide +kernel, by decide +kernel⟩
theorem zv_X7_put : zMV yX7_put RX7 := ⟨qi_X7_put, qs_X7_put⟩
theorem zm_X6_wipe : zMT yX6_wipe RX6 cX6_wipe 2 (some .int) 0 := ⟨qc_X6_wipe, qn_RX6, rfl, by decide +kernel, by decide +kernel, by decide +kernel⟩
theorem zv_X6_wipe : zMV yX6_wipe RX6 := ⟨qi_X6_wipe, qs_X6_wipe⟩
theorem zm_X7_wipe : zMT yX7_wipe RX7 cX7_wipe 2 (some .int) 0 := ⟨qc_X7_wipe, qn_RX7, rfl, by decide +kernel, by decide +kernel, by decide +kernel⟩
theorem zv_X7_wipe : zMV yX7_wipe RX7 := ⟨qi_X7_wipe, qs_X7_wipe⟩
theorem zm_X6_fault : zMT yX6_fault RX6 cX6_fault 1 (some .int) 0 := ⟨qc_X6_fault, qn_RX6, rfl, by decide +kernel, by decide +kernel, by decide +kernel⟩
theorem zv_X6_fault : zMV yX6_fault RX6 := ⟨qi_X6_fault, qs_X6_fault⟩
theorem zm_X3_readOrders : zMT yX3_readOrders RX3 cX3_readOrders 2 (some .int) 0 := ⟨qc_X3_readOrders, qn_RX3, rfl, by decide +kernel, by decide +kernel, by decide +kernel⟩
theorem zv_X3_readOrders : zMV yX3_readOrders RX3 := ⟨qi_X3_readOrders, qs_X3_readOrders⟩
theorem zm_X3_readOrder : zMT yX3_readOrder RX3 cX3_readOrder 4 (some .boolean) 0 := ⟨qc_X3_readOrder, qn_RX3, rfl, by decide +kernel, by decide +kernel, by decide +kernel⟩
theorem zv_X3_readOrder : zMV yX3_readOrder RX3 := ⟨qi_X3_readOrder, qs_X3_readOrder⟩
theorem zm_X3_signHere : zMT yX3_signHere RX3 cX3_signHere 1 (some .char) 0 := ⟨qc_X3_signHere, qn_RX3, rfl, by decide +kernel, by decide +kernel, by decide +kernel⟩
theorem zv_X3_signHere : zMV yX3_signHere RX3 := ⟨qi_X3_signHere, qs_X3_signHere⟩
theorem zm_X3_readNumber : zMT yX3_readNumber RX3 cX3_readNumber 3 (some .int) 0 := ⟨qc_X3_readNumber, qn_RX3, rfl, by decide +kernel, by decide +kernel, by decide +kernel⟩
theorem zv_X3_readNumber : zMV yX3_readNumber RX3 := ⟨qi_X3_readNumber, qs_X3_readNumber⟩
theorem zm_X3_readDigit : zMT yX3_readDigit RX3 cX3_readDigit 2 (some .int) 0 := ⟨qc_X3_readDigit, qn_RX3, rfl, by decide +kernel, by decide +kernel, by decide +kernel⟩
theorem zv_X3_readDigit : zMV yX3_readDigit RX3 := ⟨qi_X3_readDigit, qs_X3_readDigit⟩
theorem zm_X3_readSign : zMT yX3_readSign RX3 cX3_readSign 2 (some .boolean) 1 := ⟨qc_X3_readSign, qn_RX3, rfl, by decide +kernel, by decide +kernel, by decide +kernel⟩
theorem zv_X3_readSign : zMV yX3_readSign RX3 := ⟨qi_X3_readSign, qs_X3_readSign⟩
theorem zm_X3_readSide : zMT yX3_readSide RX3 cX3_readSide 3 (some .int) 0 := ⟨qc_X3_readSide, qn_RX3, rfl, by decide +kernel, by decide +kernel, by decide +kernel⟩
theorem zv_X3_readSide : zMV yX3_readSide RX3 := ⟨qi_X3_readSide, qs_X3_readSide⟩
theorem zm_X3_sideOfSign : zMT yX3_sideOfSign RX3 cX3_sideOfSign 1 (some .int) 1 := ⟨qc_X3_sideOfSign, qn_RX3, rfl, by decide +kernel, by decide +kernel, by decide +kernel⟩
theorem zm_X7_fault : zMT yX7_fault RX7 cX7_fault 1 (some .int) 0 := ⟨qc_X7_fault, qn_RX7, rfl, by decide +kernel, by decide +kernel, by decide +kernel⟩
theorem zv_X7_fault : zMV yX7_fault RX7 := ⟨qi_X7_fault, qs_X7_fault⟩
theorem zm_X7_faultOf : zMT yX7_faultOf RX7 cX7_faultOf 1 (some .int) 0 := ⟨qc_X7_faultOf, qn_RX7, rfl, by decide +kernel, by decide +kernel, by decide +kernel⟩
theorem zv_X7_faultOf : zMV yX7_faultOf RX7 := ⟨qi_X7_faultOf, qs_X7_faultOf⟩
theorem zm_X7_readOne : zMT yX7_readOne RX7 cX7_readOne 3 none 0 := ⟨qc_X7_readOne, qn_RX7, rfl, by decide +kernel, by decide +kernel, by decide +kernel⟩
theorem zv_X7_readOne : zMV yX7_readOne RX7 := ⟨qi_X7_readOne, qs_X7_readOne⟩
theorem zm_X7_sign : zMT yX7_sign RX7 cX7_sign 1 (some .int) 0 := ⟨qc_X7_sign, qn_RX7, rfl, by decide +kernel, by decide +kernel, by decide +kernel⟩
theorem zv_X7_sign : zMV yX7_sign RX7 := ⟨qi_X7_sign, qs_X7_sign⟩
theorem zm_X7_number : zMT yX7_number RX7 cX7_number 2 (some .int) 0 := ⟨qc_X7_number, qn_RX7, rfl, by decide +kernel, by decide +kernel, by decide +kernel⟩
theorem zv_X7_number : zMV yX7_number RX7 := ⟨qi_X7_number, qs_X7_number⟩
theorem zm_X7_side : zMT yX7_side RX7 cX7_side 3 (some .int) 0 := ⟨qc_X7_side, qn_RX7, rfl, by decide +kernel, by decide +kernel, by decide +kernel⟩
theorem zv_X7_side : zMV yX7_side RX7 := ⟨qi_X7_side, qs_X7_side⟩
theorem zm_X6_carryOut : zMT yX6_carryOut RX6 cX6_carryOut 2 (some .int) 0 := ⟨qc_X6_carryOut, qn_RX6, rfl, by decide +kernel, by decide +kernel, by decide +kernel⟩
theorem zv_X6_carryOut : zMV yX6_carryOut RX6 := ⟨qi_X6_carryOut, qs_X6_carryOut⟩
theorem zm_X6_obey : zMT yX6_obey RX6 cX6_obey 4 (some .boolean) 1 := ⟨qc_X6_obey, qn_RX6, rfl, by decide +kernel, by decide +kernel, by decide +kernel⟩
theorem zv_X6_obey : zMV yX6_obey RX6 := ⟨qi_X6_obey, qs_X6_obey⟩
theorem zm_X7_carryOut : zMT yX7_carryOut RX7 cX7_carryOut 2 (some .int) 0 := ⟨qc_X7_carryOut, qn_RX7, rfl, by decide +kernel, by decide +kernel, by decide +kernel⟩
theorem zv_X7_carryOut : zMV yX7_carryOut RX7 := ⟨qi_X7_carryOut, qs_X7_carryOut⟩
theorem zm_X7_carry : zMT yX7_carry RX7 cX7_carry 4 (some .int) 1 := ⟨qc_X7_carry, qn_RX7, rfl, by decide +kernel, by decide +kernel, by decide +kernel⟩
theorem zv_X7_carry : zMV yX7_carry RX7 := ⟨qi_X7_carry, qs_X7_carry⟩
theorem zm_X6_undo : zMT yX6_undo RX6 cX6_undo 1 (some .int) 0 := ⟨qc_X6_undo, qn_RX6, rfl, by decide +kernel, by decide +kernel, by decide +kernel⟩
theorem zv_X6_undo : zMV yX6_undo RX6 := ⟨qi_X6_undo, qs_X6_undo⟩
theorem zm_X7_undo : zMT yX7_undo RX7 cX7_undo 2 (some .int) 0 := ⟨qc_X7_undo, qn_RX7, rfl, by decide +kernel, by decide +kernel, by decide +kernel⟩
theorem zv_X7_undo : zMV yX7_undo RX7 := ⟨qi_X7_undo, qs_X7_undo⟩
theorem zm_X6_save : zMT yX6_save RX6 cX6_save 2 (some .int) 1 := ⟨qc_X6_save, qn_RX6, rfl, by decide +kernel, by decide +kernel, by decide +kernel⟩
theorem zv_X6_save : zMV yX6_save RX6 := ⟨qi_X6_save, qs_X6_save⟩
theorem zm_X6_isSlot : zMT yX6_isSlot RX6 cX6_isSlot 1 (some .boolean) 1 := ⟨qc_X6_isSlot, qn_RX6, rfl, by decide +kernel, by decide +kernel, by decide +kernel⟩
theorem zm_X7_save : zMT yX7_save RX7 cX7_save 3 (some .int) 1 := ⟨qc_X7_save, qn_RX7, rfl, by decide +kernel, by decide +kernel, by decide +kernel⟩
theorem zv_X7_save : zMV yX7_save RX7 := ⟨qi_X7_save, qs_X7_save⟩
theorem zm_X6_restore : zMT yX6_restore RX6 cX6_restore 2 (some .int) 1 := ⟨qc_X6_restore, qn_RX6, rfl, by decide +kernel, by decide +kernel, by decide +kernel⟩
theorem zv_X6_restore : zMV yX6_restore RX6 := ⟨qi_X6_restore, qs_X6_restore⟩
theorem zm_X7_restore : zMT yX7_restore RX7 cX7_restore 3 (some .int) 1 := ⟨qc_X7_restore, qn_RX7, rfl, by decide +kernel, by decide +kernel, by decide +kernel⟩
theorem zv_X7_restore : zMV yX7_restore RX7 := ⟨qi_X7_restore, qs_X7_restore⟩
end
section
/-! what the document says, over one row of numbers N (560 of them): 0 RULE, 1 DETOURS, 2 ROOM, 3 tick, 4 columns, 5 rows, 6 packets, 10.. broken links, 60.. moves by box and side, 160.. packets, ten numbers each -/
def zS (f : Int → Int) : Nat → Int
  | 0 => 0
  | n + 1 => zS f n + f n
theorem zS_s {f : Int → Int} {i : Int} (h : 0 ≤ i) : zS f (i + 1).toNat = zS f i.toNat + f i := by
  have e : (i + 1).toNat = i.toNat + 1 := by omega
  rw [e]
  show zS f i.toNat + f ((i.toNat : Nat) : Int) = _
  rw [Int.toNat_of_nonneg h]
theorem zS_cong {f g : Int → Int} : ∀ {n : Nat}, (∀ k : Int, 0 ≤ k → k < (n : Int) → f k = g k) → zS f n = zS g n
  | 0, _ => rfl
  | n + 1, h => by
    show zS f n + f n = zS g n + g n
    rw [zS_cong (n := n) (fun k h0 h1 => h k h0 (by omega)), h n (by omega) (by omega)]
theorem zS_nn {f : Int → Int} : ∀ {n : Nat}, (∀ k : Int, 0 ≤ k → k < (n : Int) → 0 ≤ f k) → 0 ≤ zS f n
  | 0, _ => Int.le_refl 0
  | n + 1, h => by
    have h1 := zS_nn (n := n) (f := f) (fun k h0 h1 => h k h0 (by omega))
    have h2 := h n (by omega) (by omega)
    show 0 ≤ zS f n + f n
    omega
theorem zS_le {f : Int → Int} {c : Int} : ∀ {n : Nat}, (∀ k : Int, 0 ≤ k → k < (n : Int) → f k ≤ c) → zS f n ≤ n * c
  | 0, _ => by show (0 : Int) ≤ ((0 : Nat) : Int) * c; simp
  | n + 1, h => by
    have h1 := zS_le (n := n) (f := f) (c := c) (fun k h0 h1 => h k h0 (by omega))
    have h2 := h n (by omega) (by omega)
    show zS f n + f n ≤ ((n + 1 : Nat) : Int) * c
    have e : ((n + 1 : Nat) : Int) * c = (n : Int) * c + c := by rw [Int.natCast_succ, Int.add_mul, Int.one_mul]
    rw [e]
    omega
/-- the box on a side; -1: none -/
def nb (N : Int → Int) (b d : Int) : Int :=
  if d = 0 then (if b % N 4 + 1 < N 4 then b + 1 else -1)
  else if d = 1 then (if 0 < b % N 4 then b - 1 else -1)
  else if d = 2 then (if b / N 4 + 1 < N 5 then b + N 4 else -1)
  else (if 0 < b / N 4 then b - N 4 else -1)
def nbm (N : Int → Int) (b d : Int) : Int := if nb N b d < 0 then -6 else nb N b d
def lkm (N : Int → Int) (b d : Int) : Int := 10 + 2 * (if d = 0 ∨ d = 2 then b else nbm N b d) + (if d < 2 then 0 else 1)
/-- a link to that side that is whole -/
def opn (N : Int → Int) (b d : Int) : Prop := 0 ≤ nb N b d ∧ N (lkm N b d) = 0
def dist (N : Int → Int) (a b : Int) : Int := zabs (a % N 4 - b % N 4) + zabs (a / N 4 - b / N 4)
def pk (N : Int → Int) (p j : Int) : Int := N (160 + 10 * p + j)
def wf (N : Int → Int) : Prop :=
  (0 ≤ N 0 ∧ N 0 ≤ 1) ∧ (0 ≤ N 1 ∧ N 1 ≤ 4) ∧ (1 ≤ N 2 ∧ N 2 ≤ 4) ∧ (2 ≤ N 4 ∧ N 4 ≤ 5) ∧ (2 ≤ N 5 ∧ N 5 ≤ 5) ∧ (0 ≤ N 6 ∧ N 6 ≤ 40) ∧
  (∀ k : Int, 10 ≤ k → k < 60 → 0 ≤ N k ∧ N k ≤ 1) ∧
  (∀ p : Int, 0 ≤ p → p < N 6 → (0 ≤ pk N p 0 ∧ pk N p 0 < N 4 * N 5) ∧ (0 ≤ pk N p 1 ∧ pk N p 1 < N 4 * N 5) ∧ (0 ≤ pk N p 2 ∧ pk N p 2 ≤ 2) ∧ (0 ≤ pk N p 3 ∧ pk N p 3 < N 4 * N 5) ∧ (0 ≤ pk N p 5 ∧ pk N p 5 ≤ 4) ∧ (0 ≤ pk N p 9 ∧ pk N p 9 ≤ 1))
theorem cr_rng {c r : Int} (hc : 2 ≤ c ∧ c ≤ 5) (hr : 2 ≤ r ∧ r ≤ 5) : 4 ≤ c * r ∧ c * r ≤ 25 := by
  have h : c = 2 ∨ c = 3 ∨ c = 4 ∨ c = 5 := by omega
  rcases h with rfl | rfl | rfl | rfl <;> omega
theorem wf_cr {N : Int → Int} (h : wf N) : 4 ≤ N 4 * N 5 ∧ N 4 * N 5 ≤ 25 := cr_rng h.2.2.2.1 h.2.2.2.2.1
/-- the facts about a box's column and row -/
theorem dm {c b : Int} (hc : 2 ≤ c ∧ c ≤ 5) (hb : 0 ≤ b) : b / c * c + b % c = b ∧ 0 ≤ b % c ∧ b % c < c ∧ 0 ≤ b / c ∧ b / c ≤ b ∧ 0 ≤ b / c * c ∧ (0 < b / c → c ≤ b / c * c) := by
  have h1 := Int.emod_add_mul_ediv b c
  have h2 := Int.emod_nonneg b (by omega : c ≠ 0)
  have h3 := Int.emod_lt_of_pos b (by omega : 0 < c)
  have h4 := Int.ediv_nonneg hb (by omega : 0 ≤ c)
  have h5 := Int.ediv_le_self c hb
  rw [Int.mul_comm c (b / c)] at h1
  have h6 : 0 < b / c → 1 * c ≤ b / c * c := fun h => Int.mul_le_mul_of_nonneg_right (by omega) (by omega)
  have h7 := Int.mul_nonneg h4 (by omega : 0 ≤ c)
  omega
theorem dmr {c r b : Int} (hc : 2 ≤ c ∧ c ≤ 5) (hb : 0 ≤ b) (h : b < c * r) : b / c < r := by
  apply Int.ediv_lt_of_lt_mul (by omega)
  rw [Int.mul_comm]
  exact h
noncomputable def insf (N : Int → Int) (b : Int) : Int → Int := fun p => zb (pk N p 2 = 1 ∧ pk N p 3 = b)
/-- how many packets are inside of a box -/
noncomputable def ins (N : Int → Int) (b : Int) : Int := zS (insf N b) (N 6).toNat
noncomputable def cntf (N : Int → Int) (b t : Int) : Int → Int := fun p => zb (pk N p 2 = t ∧ (b < 0 ∨ pk N p 3 = b))
noncomputable def cnt (N : Int → Int) (b t : Int) : Int := zS (cntf N b t) (N 6).toNat
def sumOf (N : Int → Int) (j : Int) : Int := zS (fun p => pk N p j) (N 6).toNat
def brokenOf (N : Int → Int) : Int := zS (fun k => N (10 + k)) 50
/-- a row of numbers, written over the places from a on -/
def zcp (f g : Int → Int) (a n : Int) : Int → Int := fun j => if a ≤ j ∧ j < a + n then g (j - a) else f j
theorem zcp_s {f g : Int → Int} {a n : Int} (hn : 0 ≤ n) : zu (zcp f g a n) (a + n) (g n) = zcp f g a (n + 1) := by
  funext j
  unfold zu zcp
  by_cases h1 : j = a + n
  · rw [if_pos h1, if_pos (by omega)]
    congr 1
    omega
  · rw [if_neg h1]
    by_cases h2 : a ≤ j ∧ j < a + n
    · rw [if_pos h2, if_pos (by omega)]
    · rw [if_neg h2, if_neg (by omega)]
theorem zcp_0 {f g : Int → Int} {a : Int} : zcp f g a 0 = f := by
  funext j
  unfold zcp
  rw [if_neg (by omega)]
theorem nb_rng {N : Int → Int} {b d : Int} (hw : wf N) (hb : 0 ≤ b ∧ b < N 4 * N 5) (hd : 0 ≤ d ∧ d ≤ 3) : -1 ≤ nb N b d ∧ nb N b d < N 4 * N 5 := by
  obtain ⟨w0, w1, w2, hc, hr, w6, wl, wp⟩ := hw
  have h1 := dm hc hb.1
  have h2 := dmr hc hb.1 hb.2
  have h3 : (b / N 4 + 1) * N 4 ≤ N 5 * N 4 := Int.mul_le_mul_of_nonneg_right (by omega) (by omega)
  rw [Int.add_mul, Int.one_mul, Int.mul_comm (N 5)] at h3
  have h4 : b / N 4 + 1 < N 5 → (b / N 4 + 2) * N 4 ≤ N 5 * N 4 := fun h => Int.mul_le_mul_of_nonneg_right (by omega) (by omega)
  rw [Int.add_mul, Int.mul_comm (N 5)] at h4
  have h5 : 0 < b / N 4 → 1 * N 4 ≤ b / N 4 * N 4 := fun h => Int.mul_le_mul_of_nonneg_right (by omega) (by omega)
  unfold nb
  by_cases e0 : d = 0
  · rw [if_pos e0]; split <;> omega
  · rw [if_neg e0]
    by_cases e1 : d = 1
    · rw [if_pos e1]; split <;> omega
    · rw [if_neg e1]
      by_cases e2 : d = 2
      · rw [if_pos e2]
        split
        · rename_i h; have := h4 h; omega
        · omega
      · rw [if_neg e2]
        split
        · rename_i h; have := h5 h; omega
        · omega
theorem lkm_rng {N : Int → Int} {b d : Int} (hw : wf N) (hb : 0 ≤ b ∧ b < N 4 * N 5) (hd : 0 ≤ d ∧ d ≤ 3) (h : 0 ≤ nb N b d) : 10 ≤ lkm N b d ∧ lkm N b d < 60 := by
  have h1 := nb_rng hw hb hd
  have h2 := wf_cr hw
  unfold lkm nbm
  rw [if_neg (by omega : ¬ nb N b d < 0)]
  (repeat' split) <;> omega
theorem zcp_z {f g : Int → Int} {n : Int} (hn : 0 ≤ n) : zu (zcp f g 0 n) n (g n) = zcp f g 0 (n + 1) := by
  have h := zcp_s (f := f) (g := g) (a := 0) hn
  rw [Int.zero_add] at h
  exact h
theorem zcp_out {f g : Int → Int} {a n j : Int} (h : j < a ∨ a + n ≤ j) : zcp f g a n j = f j := if_neg (by omega)
theorem zcp_in {f g : Int → Int} {a n j : Int} (h : a ≤ j ∧ j < a + n) : zcp f g a n j = g (j - a) := if_pos h
/-- a number by a proposition -/
noncomputable def zif (P : Prop) (a b : Int) : Int := @ite Int P (Classical.propDecidable P) a b
theorem zif_t {P : Prop} {a b : Int} (h : P) : zif P a b = a := if_pos h
theorem zif_f {P : Prop} {a b : Int} (h : ¬ P) : zif P a b = b := if_neg h
def bk (N : Int → Int) (p j v : Int) : Int → Int := zu N (160 + 10 * p + j) v
def stg (N : Int → Int) (p : Int) : Int := 10 * pk N p 3 + 5 * pk N p 9 + pk N p 5
def dtr (N : Int → Int) (a b to : Int) : Prop := dist N a to ≤ dist N b to
def okm (N : Int → Int) (s d to : Int) : Prop := opn N (s / 10) d ∧ ¬ (N 0 = 1 ∧ d = 0 ∧ s / 5 % 2 = 1) ∧ ¬ (dtr N (s / 10) (nb N (s / 10) d) to ∧ N 1 ≤ s % 5)
noncomputable def nxt (N : Int → Int) (s d to : Int) : Int := 10 * nb N (s / 10) d + 5 * (if d = 0 then s / 5 % 2 else 1) + s % 5 + zb (dtr N (s / 10) (nb N (s / 10) d) to)
noncomputable def mvd (N : Int → Int) (s d to : Int) : Int := zif (okm N s d to) (nxt N s d to) (-6)
def recU (it und : Int) : Int := if it = 0 then (if und = 6 then 6 else und + 1) else und
def recH (it und : Int) (hist now : Int → Int) : Int → Int :=
  if it = 0 then zcp (if und = 6 then zcp hist (fun j => hist (j + 560)) 0 2800 else hist) now ((if und = 6 then 5 else und) * 560) 560 else hist
theorem nbm_nn {N : Int → Int} {b d : Int} (h : 0 ≤ nb N b d) : nbm N b d = nb N b d := if_neg (by omega)
theorem dist_rng {N : Int → Int} {a b : Int} (hc : 2 ≤ N 4 ∧ N 4 ≤ 5) (ha : 0 ≤ a ∧ a < 1000000) (hb : 0 ≤ b ∧ b < 1000000) : 0 ≤ dist N a b ∧ dist N a b < 3000000 := by
  have h1 := dm hc ha.1
  have h2 := dm hc hb.1
  unfold dist zabs
  omega
theorem ins_rng {N : Int → Int} {b : Int} (hw : wf N) : 0 ≤ ins N b ∧ ins N b ≤ N 6 := by
  have h6 := hw.2.2.2.2.2.1
  have h1 := zS_nn (f := insf N b) (n := (N 6).toNat) (fun k _ _ => (zb_rng _).1)
  have h2 := zS_le (f := insf N b) (c := 1) (n := (N 6).toNat) (fun k _ _ => (zb_rng _).2)
  unfold ins
  omega
end
section
set_option maxRecDepth 20000 in
theorem c_X7_in {l : Launch} {Z : zZ} {v lo hi : Int} (hv : -2147483648 ≤ v ∧ v < 2147483648) (hlo : -2147483648 ≤ lo ∧ lo < 2147483648) (hhi : -2147483648 ≤ hi ∧ hi < 2147483648) : zI (T := Unit) l yX7_in (Cond.code yX7_in cX7_in 3 (some .boolean) :: wsL_law) ({ frames := 0, cells := 0, slots := 0, locals := 0 } : Room) Z [.int (iI v), .int (iI lo), .int (iI hi)] [] (fun _ => []) (fun ρ _ => ρ = zb (lo ≤ v ∧ v ≤ hi)) := by
  refine zI_of (C := RX7) (by decide +kernel) rfl (Nat.le_of_ble_eq_true rfl) (fun ρ => ρ = 0 ∨ ρ = 1) znZ (fun X ok fin => ?_)
  refine z_lsub ok (lv' := [(0, .int (iI v)), (1, .int (iI lo)), (2, .int (iI hi))]) [0, 1, 2] rfl ?_
  refine z_iload_n ok dX7_in_0 rfl ?_
  refine z_iload_n ok dX7_in_1 rfl ?_
  refine z_icmp_lt (tgt := 14) ok dX7_in_2 (by decide) (by omega) (by omega) (fun c2 => ?_) (fun c2 => ?_)
  · -- t
    refine z_iconst ok dX7_in_14 ?_
    exact fin 0 () 15 _ _ _ dX7_in_15 (by first | decide | exact zb_01 _ | omega) (by first | exact (zb_t (by omega)).symm | exact (zb_f (by omega)).symm) (by decide) (by decide)
  · -- f
    refine z_iload_n ok dX7_in_5 rfl ?_
    refine z_iload_n ok dX7_in_6 rfl ?_
    refine z_icmp_gt (tgt := 14) ok dX7_in_7 (by decide) (by omega) (by omega) (fun c7 => ?_) (fun c7 => ?_)
    · -- t
      refine z_iconst ok dX7_in_14 ?_
      exact fin 0 () 15 _ _ _ dX7_in_15 (by first | decide | exact zb_01 _ | omega) (by first | exact (zb_t (by omega)).symm | exact (zb_f (by omega)).symm) (by decide) (by decide)
    · -- f
      refine z_iconst ok dX7_in_10 ?_
      refine z_goto (tgt := 15) ok dX7_in_11 (by decide) ?_
      exact fin 1 () 15 _ _ _ dX7_in_15 (by first | decide | exact zb_01 _ | omega) (by first | exact (zb_t (by omega)).symm | exact (zb_f (by omega)).symm) (by decide) (by decide)
set_option maxRecDepth 20000 in
theorem c_X7_boxes {l : Launch} {Z : zZ} {q : Nat → Nat} {now kept hist : Int → Int} {und : Int} {sav isv pad : Int → Int} {sg it : Int} {far many laid sides stuck ord : Int → Int} {rd pl wr : Int}  : zI (T := Unit) l yX7_boxes (Cond.code yX7_boxes cX7_boxes 1 (some .int) :: wsL_law) ({ frames := 0, cells := 0, slots := 0, locals := 0 } : Room) Z [.ref (q 0)] (mW Z q now kept hist und sav isv pad sg it far many laid sides stuck ord rd pl wr) (fun _ => mW Z q now kept hist und sav isv pad sg it far many laid sides stuck ord rd pl wr) (fun ρ _ => ρ = now 4 * now 5) := by
  refine zI_of (C := RX7) (by decide +kernel) rfl (Nat.le_of_ble_eq_true rfl) (fun _ => True) znI (fun X ok fin => ?_)
  refine z_lsub ok (lv' := [(0, .ref (q 0))]) [0] rfl ?_
  refine z_aload_n ok dX7_boxes_0 rfl ?_
  refine z_get (v := .ref (q 1)) ok zc7 0 rfl 0 (by decide) qf_RX7_7 rfl rfl dX7_boxes_1 ?_
  refine z_iconst ok dX7_boxes_4 ?_
  refine z_iald (f := now) ok 1 rfl dX7_boxes_5 (by omega) (by decide) ?_
  refine z_aload_n ok dX7_boxes_6 rfl ?_
  refine z_get (v := .ref (q 1)) ok zc7 0 rfl 0 (by decide) qf_RX7_7 rfl rfl dX7_boxes_7 ?_
  refine z_iconst ok dX7_boxes_10 ?_
  refine z_iald (f := now) ok 1 rfl dX7_boxes_11 (by omega) (by decide) ?_
  refine z_imul ok dX7_boxes_12 ?_
  exact fin ((now 4) * (now 5)) () 13 _ _ _ dX7_boxes_13 (trivial) (rfl) (by decide) (by decide)
set_option maxRecDepth 20000 in
theorem c_X7_isBox {l : Launch} {Z : zZ} {q : Nat → Nat} {now kept hist : Int → Int} {und : Int} {sav isv pad : Int → Int} {sg it : Int} {far many laid sides stuck ord : Int → Int} {rd pl wr : Int} {box : Int} (hc : 2 ≤ now 4 ∧ now 4 ≤ 5) (hr : 2 ≤ now 5 ∧ now 5 ≤ 5) (hb : -2147483648 ≤ box ∧ box < 2147483648) : zI (T := Unit) l yX7_isBox (Cond.code yX7_isBox cX7_isBox 2 (some .boolean) :: wsL_law) ({ frames := 1, cells := 0, slots := 0, locals := 22 } : Room) Z [.ref (q 0), .int (iI box)] (mW Z q now kept hist und sav isv pad sg it far many laid sides stuck ord rd pl wr) (fun _ => mW Z q now kept hist und sav isv pad sg it far many laid sides stuck ord rd pl wr) (fun ρ _ => ρ = zb (0 ≤ box ∧ box < now 4 * now 5)) := by
  refine zI_of (C := RX7) (by decide +kernel) rfl (Nat.le_of_ble_eq_true rfl) (fun ρ => ρ = 0 ∨ ρ = 1) znZ (fun X ok fin => ?_)
  have hcr := cr_rng hc hr
  refine z_lsub ok (lv' := [(0, .ref (q 0)), (1, .int (iI box))]) [0, 1] rfl ?_
  refine z_iload_n ok dX7_isBox_0 rfl ?_
  refine z_iconst ok dX7_isBox_1 ?_
  refine z_aload_n ok dX7_isBox_2 rfl ?_
  refine z_callVi0 ok (fun l => c_X7_boxes  ) zm_X7_boxes zv_X7_boxes qm_RX7_55 dX7_isBox_3 (by decide) (by decide) rfl rfl (Nat.le_of_ble_eq_true rfl) (q0 := 0) rfl rfl rfl (fun ρ _ hρ => ?_)
  subst hρ
  refine z_eq (ws' := mW Z q now kept hist und sav isv pad sg it far many laid sides stuck ord rd pl wr) rfl ?_
  refine z_iconst ok dX7_isBox_6 ?_
  refine z_isub ok dX7_isBox_7 ?_
  refine z_callSie ok (fun l => c_X7_in  (by omega) (by omega) (by omega)) zm_X7_in qt_X7_in qm_RX7_59 dX7_isBox_8 (by decide) (by decide) rfl rfl (Nat.le_of_ble_eq_true rfl) (fun ρ _ hρ => ?_)
  subst hρ
  exact fin (zb (0 ≤ box ∧ box ≤ ((now 4 * now 5) - 1))) () 11 _ _ _ dX7_isBox_11 (by first | decide | exact zb_01 _ | omega) (zb_cong (by omega)) (by decide) (by decide)
set_option maxRecDepth 20000 in
theorem c_X7_beside {l : Launch} {Z : zZ} {q : Nat → Nat} {now kept hist : Int → Int} {und : Int} {sav isv pad : Int → Int} {sg it : Int} {far many laid sides stuck ord : Int → Int} {rd pl wr : Int} {box side : Int} (hc : 2 ≤ now 4 ∧ now 4 ≤ 5) (hr : 2 ≤ now 5 ∧ now 5 ≤ 5) (hb : 0 ≤ box ∧ box < now 4 * now 5) (hs : 0 ≤ side ∧ side ≤ 3) : zI (T := Unit) l yX7_beside (Cond.code yX7_beside cX7_beside 6 (some .int) :: wsL_law) ({ frames := 1, cells := 0, slots := 0, locals := 22 } : Room) Z [.ref (q 0), .int (iI box), .int (iI side)] (mW Z q now kept hist und sav isv pad sg it far many laid sides stuck ord rd pl wr) (fun _ => mW Z q now kept hist und sav isv pad sg it far many laid sides stuck ord rd pl wr) (fun ρ _ => ρ = nbm now box side) := by
  refine zI_of (C := RX7) (by decide +kernel) rfl (Nat.le_of_ble_eq_true rfl) (fun _ => True) znI (fun X ok fin => ?_)
  have hdm := dm hc hb.1
  have hdr := dmr hc hb.1 hb.2
  have hcr := cr_rng hc hr
  have h1 : (box / now 4 + 1) * now 4 = box / now 4 * now 4 + now 4 := by rw [Int.add_mul, Int.one_mul]
  have h2 : (box / now 4 - 1) * now 4 = box / now 4 * now 4 - now 4 := by rw [Int.sub_mul, Int.one_mul]
  refine z_lsub ok (lv' := [(0, .ref (q 0)), (1, .int (iI box)), (2, .int (iI side))]) [0, 1, 2] rfl ?_
  refine z_iload_n ok dX7_beside_0 rfl ?_
  refine z_aload_n ok dX7_beside_1 rfl ?_
  refine z_get (v := .ref (q 1)) ok zc7 0 rfl 0 (by decide) qf_RX7_7 rfl rfl dX7_beside_2 ?_
  refine z_iconst ok dX7_beside_5 ?_
  refine z_iald (f := now) ok 1 rfl dX7_beside_6 (by omega) (by decide) ?_
  refine z_irem ok dX7_beside_7 (by omega) (by omega) ?_
  refine z_istore_n (lv' := [(3, .int (iI (box % (now 4)))), (0, .ref (q 0)), (1, .int (iI box)), (2, .int (iI side))]) ok dX7_beside_8 (by decide) rfl ?_
  refine z_iload_n ok dX7_beside_9 rfl ?_
  refine z_aload_n ok dX7_beside_10 rfl ?_
  refine z_get (v := .ref (q 1)) ok zc7 0 rfl 0 (by decide) qf_RX7_7 rfl rfl dX7_beside_11 ?_
  refine z_iconst ok dX7_beside_14 ?_
  refine z_iald (f := now) ok 1 rfl dX7_beside_15 (by omega) (by decide) ?_
  refine z_idiv ok dX7_beside_16 (by omega) (by omega) ?_
  refine z_istore (lv' := [(4, .int (iI (box / (now 4)))), (3, .int (iI (box % (now 4)))), (0, .ref (q 0)), (1, .int (iI box)), (2, .int (iI side))]) ok dX7_beside_17 (by decide) rfl ?_
  refine z_iload_n ok dX7_beside_19 rfl ?_
  refine z_iconst ok dX7_beside_20 ?_
  refine z_icmp_ge (tgt := 74) ok dX7_beside_21 (by decide) (by omega) (by omega) (fun c21 => ?_) (fun c21 => ?_)
  · -- t
    refine z_iload_n ok dX7_beside_74 rfl ?_
    refine z_iconst ok dX7_beside_75 ?_
    refine z_icmp_ne (tgt := 86) ok dX7_beside_76 (by decide) (by omega) (by omega) (fun c76 => ?_) (fun c76 => ?_)
    · -- t
      refine z_iload ok dX7_beside_86 rfl ?_
      refine z_iconst ok dX7_beside_88 ?_
      refine z_isub ok dX7_beside_89 ?_
      refine z_istore (lv' := [(5, .int (iI ((box / (now 4)) - 1))), (4, .int (iI (box / (now 4)))), (3, .int (iI (box % (now 4)))), (0, .ref (q 0)), (1, .int (iI box)), (2, .int (iI side))]) ok dX7_beside_90 (by decide) rfl ?_
      refine z_iload ok dX7_beside_92 rfl ?_
      refine z_iconst ok dX7_beside_94 ?_
      refine z_aload_n ok dX7_beside_95 rfl ?_
      refine z_get (v := .ref (q 1)) ok zc7 0 rfl 0 (by decide) qf_RX7_7 rfl rfl dX7_beside_96 ?_
      refine z_iconst ok dX7_beside_99 ?_
      refine z_iald (f := now) ok 1 rfl dX7_beside_100 (by omega) (by decide) ?_
      refine z_iconst ok dX7_beside_101 ?_
      refine z_isub ok dX7_beside_102 ?_
      refine z_callSie ok (fun l => c_X7_in  (by omega) (by omega) (by omega)) zm_X7_in qt_X7_in qm_RX7_59 dX7_beside_103 (by decide) (by decide) rfl rfl (Nat.le_of_ble_eq_true rfl) (fun ρ _ hρ => ?_)
      subst hρ
      refine z_ifb_eq (tgt := 123) ok dX7_beside_106 (by decide) (fun c106 => ?_) (fun c106 => ?_)
      · -- t
        refine z_bipush ok dX7_beside_123 (by decide) ?_
        exact fin (-6) () 125 _ _ _ dX7_beside_125 (trivial) (by unfold nbm nb; (repeat' split) <;> omega) (by decide) (by decide)
      · -- f
        refine z_iload ok dX7_beside_109 rfl ?_
        refine z_aload_n ok dX7_beside_111 rfl ?_
        refine z_get (v := .ref (q 1)) ok zc7 0 rfl 0 (by decide) qf_RX7_7 rfl rfl dX7_beside_112 ?_
        refine z_iconst ok dX7_beside_115 ?_
        refine z_iald (f := now) ok 1 rfl dX7_beside_116 (by omega) (by decide) ?_
        refine z_imul ok dX7_beside_117 ?_
        refine z_iload_n ok dX7_beside_118 rfl ?_
        refine z_iadd ok dX7_beside_119 ?_
        refine z_goto (tgt := 125) ok dX7_beside_120 (by decide) ?_
        exact fin ((((box / (now 4)) - 1) * (now 4)) + (box % (now 4))) () 125 _ _ _ dX7_beside_125 (trivial) (by unfold nbm nb; (repeat' split) <;> omega) (by decide) (by decide)
    · -- f
      refine z_iload ok dX7_beside_79 rfl ?_
      refine z_iconst ok dX7_beside_81 ?_
      refine z_iadd ok dX7_beside_82 ?_
      refine z_goto (tgt := 90) ok dX7_beside_83 (by decide) ?_
      refine z_istore (lv' := [(5, .int (iI ((box / (now 4)) + 1))), (4, .int (iI (box / (now 4)))), (3, .int (iI (box % (now 4)))), (0, .ref (q 0)), (1, .int (iI box)), (2, .int (iI side))]) ok dX7_beside_90 (by decide) rfl ?_
      refine z_iload ok dX7_beside_92 rfl ?_
      refine z_iconst ok dX7_beside_94 ?_
      refine z_aload_n ok dX7_beside_95 rfl ?_
      refine z_get (v := .ref (q 1)) ok zc7 0 rfl 0 (by decide) qf_RX7_7 rfl rfl dX7_beside_96 ?_
      refine z_iconst ok dX7_beside_99 ?_
      refine z_iald (f := now) ok 1 rfl dX7_beside_100 (by omega) (by decide) ?_
      refine z_iconst ok dX7_beside_101 ?_
      refine z_isub ok dX7_beside_102 ?_
      refine z_callSie ok (fun l => c_X7_in  (by omega) (by omega) (by omega)) zm_X7_in qt_X7_in qm_RX7_59 dX7_beside_103 (by decide) (by decide) rfl rfl (Nat.le_of_ble_eq_true rfl) (fun ρ _ hρ => ?_)
      subst hρ
      refine z_ifb_eq (tgt := 123) ok dX7_beside_106 (by decide) (fun c106 => ?_) (fun c106 => ?_)
      · -- t
        refine z_bipush ok dX7_beside_123 (by decide) ?_
        exact fin (-6) () 125 _ _ _ dX7_beside_125 (trivial) (by unfold nbm nb; (repeat' split) <;> omega) (by decide) (by decide)
      · -- f
        refine z_iload ok dX7_beside_109 rfl ?_
        refine z_aload_n ok dX7_beside_111 rfl ?_
        refine z_get (v := .ref (q 1)) ok zc7 0 rfl 0 (by decide) qf_RX7_7 rfl rfl dX7_beside_112 ?_
        refine z_iconst ok dX7_beside_115 ?_
        refine z_iald (f := now) ok 1 rfl dX7_beside_116 (by omega) (by decide) ?_
        refine z_imul ok dX7_beside_117 ?_
        refine z_iload_n ok dX7_beside_118 rfl ?_
        refine z_iadd ok dX7_beside_119 ?_
        refine z_goto (tgt := 125) ok dX7_beside_120 (by decide) ?_
        exact fin ((((box / (now 4)) + 1) * (now 4)) + (box % (now 4))) () 125 _ _ _ dX7_beside_125 (trivial) (by unfold nbm nb; (repeat' split) <;> omega) (by decide) (by decide)
  · -- f
    refine z_iload_n ok dX7_beside_24 rfl ?_
    refine z_if_ne (tgt := 34) ok dX7_beside_25 (by decide) (by omega) (fun c25 => ?_) (fun c25 => ?_)
    · -- t
      refine z_iload_n ok dX7_beside_34 rfl ?_
      refine z_iconst ok dX7_beside_35 ?_
      refine z_isub ok dX7_beside_36 ?_
      refine z_istore (lv' := [(5, .int (iI ((box % (now 4)) - 1))), (4, .int (iI (box / (now 4)))), (3, .int (iI (box % (now 4)))), (0, .ref (q 0)), (1, .int (iI box)), (2, .int (iI side))]) ok dX7_beside_37 (by decide) rfl ?_
      refine z_iload ok dX7_beside_39 rfl ?_
      refine z_iconst ok dX7_beside_41 ?_
      refine z_aload_n ok dX7_beside_42 rfl ?_
      refine z_get (v := .ref (q 1)) ok zc7 0 rfl 0 (by decide) qf_RX7_7 rfl rfl dX7_beside_43 ?_
      refine z_iconst ok dX7_beside_46 ?_
      refine z_iald (f := now) ok 1 rfl dX7_beside_47 (by omega) (by decide) ?_
      refine z_iconst ok dX7_beside_48 ?_
      refine z_isub ok dX7_beside_49 ?_
      refine z_callSie ok (fun l => c_X7_in  (by omega) (by omega) (by omega)) zm_X7_in qt_X7_in qm_RX7_59 dX7_beside_50 (by decide) (by decide) rfl rfl (Nat.le_of_ble_eq_true rfl) (fun ρ _ hρ => ?_)
      subst hρ
      refine z_ifb_eq (tgt := 71) ok dX7_beside_53 (by decide) (fun c53 => ?_) (fun c53 => ?_)
      · -- t
        refine z_bipush ok dX7_beside_71 (by decide) ?_
        exact fin (-6) () 73 _ _ _ dX7_beside_73 (trivial) (by unfold nbm nb; (repeat' split) <;> omega) (by decide) (by decide)
      · -- f
        refine z_iload ok dX7_beside_56 rfl ?_
        refine z_aload_n ok dX7_beside_58 rfl ?_
        refine z_get (v := .ref (q 1)) ok zc7 0 rfl 0 (by decide) qf_RX7_7 rfl rfl dX7_beside_59 ?_
        refine z_iconst ok dX7_beside_62 ?_
        refine z_iald (f := now) ok 1 rfl dX7_beside_63 (by omega) (by decide) ?_
        refine z_imul ok dX7_beside_64 ?_
        refine z_iload ok dX7_beside_65 rfl ?_
        refine z_iadd ok dX7_beside_67 ?_
        refine z_goto (tgt := 73) ok dX7_beside_68 (by decide) ?_
        exact fin (((box / (now 4)) * (now 4)) + ((box % (now 4)) - 1)) () 73 _ _ _ dX7_beside_73 (trivial) (by unfold nbm nb; (repeat' split) <;> omega) (by decide) (by decide)
    · -- f
      refine z_iload_n ok dX7_beside_28 rfl ?_
      refine z_iconst ok dX7_beside_29 ?_
      refine z_iadd ok dX7_beside_30 ?_
      refine z_goto (tgt := 37) ok dX7_beside_31 (by decide) ?_
      refine z_istore (lv' := [(5, .int (iI ((box % (now 4)) + 1))), (4, .int (iI (box / (now 4)))), (3, .int (iI (box % (now 4)))), (0, .ref (q 0)), (1, .int (iI box)), (2, .int (iI side))]) ok dX7_beside_37 (by decide) rfl ?_
      refine z_iload ok dX7_beside_39 rfl ?_
      refine z_iconst ok dX7_beside_41 ?_
      refine z_aload_n ok dX7_beside_42 rfl ?_
      refine z_get (v := .ref (q 1)) ok zc7 0 rfl 0 (by decide) qf_RX7_7 rfl rfl dX7_beside_43 ?_
      refine z_iconst ok dX7_beside_46 ?_
      refine z_iald (f := now) ok 1 rfl dX7_beside_47 (by omega) (by decide) ?_
      refine z_iconst ok dX7_beside_48 ?_
      refine z_isub ok dX7_beside_49 ?_
      refine z_callSie ok (fun l => c_X7_in  (by omega) (by omega) (by omega)) zm_X7_in qt_X7_in qm_RX7_59 dX7_beside_50 (by decide) (by decide) rfl rfl (Nat.le_of_ble_eq_true rfl) (fun ρ _ hρ => ?_)
      subst hρ
      refine z_ifb_eq (tgt := 71) ok dX7_beside_53 (by decide) (fun c53 => ?_) (fun c53 => ?_)
      · -- t
        refine z_bipush ok dX7_beside_71 (by decide) ?_
        exact fin (-6) () 73 _ _ _ dX7_beside_73 (trivial) (by unfold nbm nb; (repeat' split) <;> omega) (by decide) (by decide)
      · -- f
        refine z_iload ok dX7_beside_56 rfl ?_
        refine z_aload_n ok dX7_beside_58 rfl ?_
        refine z_get (v := .ref (q 1)) ok zc7 0 rfl 0 (by decide) qf_RX7_7 rfl rfl dX7_beside_59 ?_
        refine z_iconst ok dX7_beside_62 ?_
        refine z_iald (f := now) ok 1 rfl dX7_beside_63 (by omega) (by decide) ?_
        refine z_imul ok dX7_beside_64 ?_
        refine z_iload ok dX7_beside_65 rfl ?_
        refine z_iadd ok dX7_beside_67 ?_
        refine z_goto (tgt := 73) ok dX7_beside_68 (by decide) ?_
        exact fin (((box / (now 4)) * (now 4)) + ((box % (now 4)) + 1)) () 73 _ _ _ dX7_beside_73 (trivial) (by unfold nbm nb; (repeat' split) <;> omega) (by decide) (by decide)
set_option maxRecDepth 20000 in
theorem c_X7_linkOf {l : Launch} {Z : zZ} {q : Nat → Nat} {now kept hist : Int → Int} {und : Int} {sav isv pad : Int → Int} {sg it : Int} {far many laid sides stuck ord : Int → Int} {rd pl wr : Int} {box side : Int} (hc : 2 ≤ now 4 ∧ now 4 ≤ 5) (hr : 2 ≤ now 5 ∧ now 5 ≤ 5) (hb : 0 ≤ box ∧ box < now 4 * now 5) (hs : 0 ≤ side ∧ side ≤ 3) : zI (T := Unit) l yX7_linkOf (Cond.code yX7_linkOf cX7_linkOf 4 (some .int) :: wsL_law) ({ frames := 2, cells := 0, slots := 0, locals := 47 } : Room) Z [.ref (q 0), .int (iI box), .int (iI side)] (mW Z q now kept hist und sav isv pad sg it far many laid sides stuck ord rd pl wr) (fun _ => mW Z q now kept hist und sav isv pad sg it far many laid sides stuck ord rd pl wr) (fun ρ _ => ρ = lkm now box side) := by
  refine zI_of (C := RX7) (by decide +kernel) rfl (Nat.le_of_ble_eq_true rfl) (fun _ => True) znI (fun X ok fin => ?_)
  have hcr := cr_rng hc hr
  refine z_lsub ok (lv' := [(0, .ref (q 0)), (1, .int (iI box)), (2, .int (iI side))]) [0, 1, 2] rfl ?_
  refine z_iload_n ok dX7_linkOf_0 rfl ?_
  refine z_if_eq (tgt := 9) ok dX7_linkOf_1 (by decide) (by omega) (fun c1 => ?_) (fun c1 => ?_)
  · -- t
    refine z_iload_n ok dX7_linkOf_9 rfl ?_
    refine z_goto (tgt := 19) ok dX7_linkOf_10 (by decide) ?_
    refine z_istore_n (lv' := [(3, .int (iI box)), (0, .ref (q 0)), (1, .int (iI box)), (2, .int (iI side))]) ok dX7_linkOf_19 (by decide) rfl ?_
    refine z_bipush ok dX7_linkOf_20 (by decide) ?_
    refine z_iconst ok dX7_linkOf_22 ?_
    refine z_iload_n ok dX7_linkOf_23 rfl ?_
    refine z_imul ok dX7_linkOf_24 ?_
    refine z_iadd ok dX7_linkOf_25 ?_
    refine z_iload_n ok dX7_linkOf_26 rfl ?_
    refine z_iconst ok dX7_linkOf_27 ?_
    refine z_icmp_ge (tgt := 35) ok dX7_linkOf_28 (by decide) (by omega) (by omega) (fun c28 => ?_) (fun c28 => ?_)
    · -- t
      refine z_iconst ok dX7_linkOf_35 ?_
      refine z_iadd ok dX7_linkOf_36 ?_
      exact fin ((10 + (2 * box)) + 1) () 37 _ _ _ dX7_linkOf_37 (trivial) (by unfold lkm; (repeat' split) <;> omega) (by decide) (by decide)
    · -- f
      refine z_iconst ok dX7_linkOf_31 ?_
      refine z_goto (tgt := 36) ok dX7_linkOf_32 (by decide) ?_
      refine z_iadd ok dX7_linkOf_36 ?_
      exact fin ((10 + (2 * box)) + 0) () 37 _ _ _ dX7_linkOf_37 (trivial) (by unfold lkm; (repeat' split) <;> omega) (by decide) (by decide)
  · -- f
    refine z_iload_n ok dX7_linkOf_4 rfl ?_
    refine z_iconst ok dX7_linkOf_5 ?_
    refine z_icmp_ne (tgt := 13) ok dX7_linkOf_6 (by decide) (by omega) (by omega) (fun c6 => ?_) (fun c6 => ?_)
    · -- t
      refine z_aload_n ok dX7_linkOf_13 rfl ?_
      refine z_iload_n ok dX7_linkOf_14 rfl ?_
      refine z_iload_n ok dX7_linkOf_15 rfl ?_
      refine z_callVi0 ok (fun l => c_X7_beside  (by omega) (by omega) (by omega) (by omega)) zm_X7_beside zv_X7_beside qm_RX7_63 dX7_linkOf_16 (by decide) (by decide) rfl rfl (Nat.le_of_ble_eq_true rfl) (q0 := 0) rfl rfl rfl (fun ρ _ hρ => ?_)
      subst hρ
      refine z_eq (ws' := mW Z q now kept hist und sav isv pad sg it far many laid sides stuck ord rd pl wr) rfl ?_
      refine z_istore_n (lv' := [(3, .int (iI (nbm now box side))), (0, .ref (q 0)), (1, .int (iI box)), (2, .int (iI side))]) ok dX7_linkOf_19 (by decide) rfl ?_
      refine z_bipush ok dX7_linkOf_20 (by decide) ?_
      refine z_iconst ok dX7_linkOf_22 ?_
      refine z_iload_n ok dX7_linkOf_23 rfl ?_
      refine z_imul ok dX7_linkOf_24 ?_
      refine z_iadd ok dX7_linkOf_25 ?_
      refine z_iload_n ok dX7_linkOf_26 rfl ?_
      refine z_iconst ok dX7_linkOf_27 ?_
      refine z_icmp_ge (tgt := 35) ok dX7_linkOf_28 (by decide) (by omega) (by omega) (fun c28 => ?_) (fun c28 => ?_)
      · -- t
        refine z_iconst ok dX7_linkOf_35 ?_
        refine z_iadd ok dX7_linkOf_36 ?_
        exact fin ((10 + (2 * (nbm now box side))) + 1) () 37 _ _ _ dX7_linkOf_37 (trivial) (by unfold lkm; (repeat' split) <;> omega) (by decide) (by decide)
      · -- f
        refine z_iconst ok dX7_linkOf_31 ?_
        refine z_goto (tgt := 36) ok dX7_linkOf_32 (by decide) ?_
        refine z_iadd ok dX7_linkOf_36 ?_
        exact fin ((10 + (2 * (nbm now box side))) + 0) () 37 _ _ _ dX7_linkOf_37 (trivial) (by unfold lkm; (repeat' split) <;> omega) (by decide) (by decide)
    · -- f
      refine z_iload_n ok dX7_linkOf_9 rfl ?_
      refine z_goto (tgt := 19) ok dX7_linkOf_10 (by decide) ?_
      refine z_istore_n (lv' := [(3, .int (iI box)), (0, .ref (q 0)), (1, .int (iI box)), (2, .int (iI side))]) ok dX7_linkOf_19 (by decide) rfl ?_
      refine z_bipush ok dX7_linkOf_20 (by decide) ?_
      refine z_iconst ok dX7_linkOf_22 ?_
      refine z_iload_n ok dX7_linkOf_23 rfl ?_
      refine z_imul ok dX7_linkOf_24 ?_
      refine z_iadd ok dX7_linkOf_25 ?_
      refine z_iload_n ok dX7_linkOf_26 rfl ?_
      refine z_iconst ok dX7_linkOf_27 ?_
      refine z_icmp_ge (tgt := 35) ok dX7_linkOf_28 (by decide) (by omega) (by omega) (fun c28 => ?_) (fun c28 => ?_)
      · -- t
        refine z_iconst ok dX7_linkOf_35 ?_
        refine z_iadd ok dX7_linkOf_36 ?_
        exact fin ((10 + (2 * box)) + 1) () 37 _ _ _ dX7_linkOf_37 (trivial) (by unfold lkm; (repeat' split) <;> omega) (by decide) (by decide)
      · -- f
        refine z_iconst ok dX7_linkOf_31 ?_
        refine z_goto (tgt := 36) ok dX7_linkOf_32 (by decide) ?_
        refine z_iadd ok dX7_linkOf_36 ?_
        exact fin ((10 + (2 * box)) + 0) () 37 _ _ _ dX7_linkOf_37 (trivial) (by unfold lkm; (repeat' split) <;> omega) (by decide) (by decide)
set_option maxRecDepth 20000 in
theorem c_X7_isWhole {l : Launch} {Z : zZ} {q : Nat → Nat} {now kept hist : Int → Int} {und : Int} {sav isv pad : Int → Int} {sg it : Int} {far many laid sides stuck ord : Int → Int} {rd pl wr : Int} {box side : Int} (hw : wf now) (hb : 0 ≤ box ∧ box < now 4 * now 5) (hs : 0 ≤ side ∧ side ≤ 3) : zI (T := Unit) l yX7_isWhole (Cond.code yX7_isWhole cX7_isWhole 3 (some .boolean) :: wsL_law) ({ frames := 3, cells := 0, slots := 0, locals := 70 } : Room) Z [.ref (q 0), .int (iI box), .int (iI side)] (mW Z q now kept hist und sav isv pad sg it far many laid sides stuck ord rd pl wr) (fun _ => mW Z q now kept hist und sav isv pad sg it far many laid sides stuck ord rd pl wr) (fun ρ _ => ρ = zb (opn now box side)) := by
  refine zI_of (C := RX7) (by decide +kernel) rfl (Nat.le_of_ble_eq_true rfl) (fun ρ => ρ = 0 ∨ ρ = 1) znZ (fun X ok fin => ?_)
  obtain ⟨w0, w1, w2, hc, hr, w6, wl, wp⟩ := id hw
  have hcr := cr_rng hc hr
  have hdm := dm hc hb.1
  have hlk : 0 ≤ nb now box side → 10 ≤ lkm now box side ∧ lkm now box side < 60 := lkm_rng hw hb hs
  have hnb := nb_rng hw hb hs
  have hnbm : nbm now box side = if nb now box side < 0 then -6 else nb now box side := rfl
  refine z_lsub ok (lv' := [(0, .ref (q 0)), (1, .int (iI box)), (2, .int (iI side))]) [0, 1, 2] rfl ?_
  refine z_aload_n ok dX7_isWhole_0 rfl ?_
  refine z_iload_n ok dX7_isWhole_1 rfl ?_
  refine z_iload_n ok dX7_isWhole_2 rfl ?_
  refine z_callVi0 ok (fun l => c_X7_beside  (by omega) (by omega) (by omega) (by omega)) zm_X7_beside zv_X7_beside qm_RX7_63 dX7_isWhole_3 (by decide) (by decide) rfl rfl (Nat.le_of_ble_eq_true rfl) (q0 := 0) rfl rfl rfl (fun ρ _ hρ => ?_)
  subst hρ
  refine z_eq (ws' := mW Z q now kept hist und sav isv pad sg it far many laid sides stuck ord rd pl wr) rfl ?_
  refine z_if_lt (tgt := 27) ok dX7_isWhole_6 (by decide) (by omega) (fun c6 => ?_) (fun c6 => ?_)
  · -- t
    refine z_iconst ok dX7_isWhole_27 ?_
    exact fin 0 () 28 _ _ _ dX7_isWhole_28 (by first | decide | exact zb_01 _ | omega) (by first | exact (zb_t ⟨hnb2, by omega⟩).symm | exact (zb_f (fun z => by have := z.2; omega)).symm | exact (zb_f (fun z => by have := z.1; omega)).symm) (by decide) (by decide)
  · -- f
    have hnb2 : 0 ≤ nb now box side := by split at hnbm <;> omega
    have hl := hlk hnb2
    have hbit := wl _ hl.1 hl.2
    refine z_aload_n ok dX7_isWhole_9 rfl ?_
    refine z_get (v := .ref (q 1)) ok zc7 0 rfl 0 (by decide) qf_RX7_7 rfl rfl dX7_isWhole_10 ?_
    refine z_aload_n ok dX7_isWhole_13 rfl ?_
    refine z_iload_n ok dX7_isWhole_14 rfl ?_
    refine z_iload_n ok dX7_isWhole_15 rfl ?_
    refine z_callVi0 ok (fun l => c_X7_linkOf  (by omega) (by omega) (by omega) (by omega)) zm_X7_linkOf zv_X7_linkOf qm_RX7_67 dX7_isWhole_16 (by decide) (by decide) rfl rfl (Nat.le_of_ble_eq_true rfl) (q0 := 0) rfl rfl rfl (fun ρ _ hρ => ?_)
    subst hρ
    refine z_eq (ws' := mW Z q now kept hist und sav isv pad sg it far many laid sides stuck ord rd pl wr) rfl ?_
    refine z_iald (f := now) ok 1 rfl dX7_isWhole_19 (by omega) (by decide) ?_
    refine z_if_ne (tgt := 27) ok dX7_isWhole_20 (by decide) (by omega) (fun c20 => ?_) (fun c20 => ?_)
    · -- t
      refine z_iconst ok dX7_isWhole_27 ?_
      exact fin 0 () 28 _ _ _ dX7_isWhole_28 (by first | decide | exact zb_01 _ | omega) (by first | exact (zb_t ⟨hnb2, by omega⟩).symm | exact (zb_f (fun z => by have := z.2; omega)).symm | exact (zb_f (fun z => by have := z.1; omega)).symm) (by decide) (by decide)
    · -- f
      refine z_iconst ok dX7_isWhole_23 ?_
      refine z_goto (tgt := 28) ok dX7_isWhole_24 (by decide) ?_
      exact fin 1 () 28 _ _ _ dX7_isWhole_28 (by first | decide | exact zb_01 _ | omega) (by first | exact (zb_t ⟨hnb2, by omega⟩).symm | exact (zb_f (fun z => by have := z.2; omega)).symm | exact (zb_f (fun z => by have := z.1; omega)).symm) (by decide) (by decide)
end
section
set_option maxRecDepth 20000 in
theorem c_X7_forget {l : Launch} {Z : zZ} {q : Nat → Nat} {now kept hist : Int → Int} {und : Int} {sav isv pad : Int → Int} {sg it : Int} {far many laid sides stuck ord : Int → Int} {rd pl wr : Int}  : zN (T := Unit) l yX7_forget (Cond.code yX7_forget cX7_forget 2 none :: wsL_law) ({ frames := 0, cells := 0, slots := 0, locals := 0 } : Room) Z [.ref (q 0)] (mW Z q now kept hist und sav isv pad sg it far many laid sides stuck ord rd pl wr) (fun _ => mW Z q now kept hist und sav isv pad sg it far many (zcp laid (fun _ => 0) 0 25) sides stuck ord rd pl wr) (fun _ => True) := by
  refine zN_of (C := RX7) (by decide +kernel) rfl (Nat.le_of_ble_eq_true rfl) (fun X ok fin => ?_)
  refine z_lsub ok (lv' := [(0, .ref (q 0))]) [0] rfl ?_
  refine z_iconst ok dX7_forget_0 ?_
  refine z_istore_n (lv' := [(1, .int (iI 0)), (0, .ref (q 0))]) ok dX7_forget_1 (by decide) rfl ?_
  have L2 : ∀ (fuel : Nat) (k : Int) (ld : Int → Int), 0 ≤ k → k ≤ 25 → ld = zcp laid (fun _ => 0) 0 k → (25 - k).toNat < fuel → zV X 0 0 (mW Z q now kept hist und sav isv pad sg it far many ld sides stuck ord rd pl wr) 2 [(0, .ref (q 0)), (1, .int (iI k))] [] := by
    intro fuel
    induction fuel with
    | zero => intro k ld h2_0 h2_1 h2_2 hf; exact absurd hf (Nat.not_lt_zero _)
    | succ fuel ih2 =>
      intro k ld h2_0 h2_1 h2_2 hf
      refine z_iload_n ok dX7_forget_2 rfl ?_
      refine z_bipush ok dX7_forget_3 (by decide) ?_
      refine z_icmp_ge (tgt := 21) ok dX7_forget_5 (by decide) (by omega) (by omega) (fun c5 => ?_) (fun c5 => ?_)
      · -- t
        have hk : k = 25 := by omega
        subst hk
        subst h2_2
        exact fin () 21 _ _ _ dX7_forget_21 (trivial) (by decide) (by decide)
      · -- f
        refine z_aload_n ok dX7_forget_8 rfl ?_
        refine z_get (v := .ref (q 9)) ok zc7 0 rfl 11 (by decide) qf_RX7_35 rfl rfl dX7_forget_9 ?_
        refine z_iload_n ok dX7_forget_12 rfl ?_
        refine z_iconst ok dX7_forget_13 ?_
        refine z_zast (f := ld) (v := 0) (ws' := mW Z q now kept hist und sav isv pad sg it far many (zu ld k 0) sides stuck ord rd pl wr) ok 9 rfl dX7_forget_14 (by omega) (by decide) (by first | decide | exact zb_01 _ | omega) rfl ?_
        refine z_iinc (lv' := [(1, .int (iI (k + 1))), (0, .ref (q 0))]) ok dX7_forget_15 1 rfl (by decide) rfl ?_
        refine z_goto (tgt := 2) ok dX7_forget_18 (by decide) ?_
        refine z_lsub ok (lv' := [(0, .ref (q 0)), (1, .int (iI (k + 1)))]) [1, 0] rfl ?_
        exact ih2 _ _ (by omega) (by omega) (by rw [h2_2]; exact zcp_z (by omega)) (by omega)
  refine z_lsub ok (lv' := [(0, .ref (q 0)), (1, .int (iI 0))]) [1, 0] rfl ?_
  exact L2 _ _ _ (by omega) (by omega) (zcp_0.symm) (Nat.lt_succ_self _)
set_option maxRecDepth 20000 in
theorem c_X7_keep {l : Launch} {Z : zZ} {q : Nat → Nat} {now kept hist : Int → Int} {und : Int} {sav isv pad : Int → Int} {sg it : Int} {far many laid sides stuck ord : Int → Int} {rd pl wr : Int}  : zN (T := Unit) l yX7_keep (Cond.code yX7_keep cX7_keep 2 none :: wsL_law) ({ frames := 0, cells := 0, slots := 0, locals := 0 } : Room) Z [.ref (q 0)] (mW Z q now kept hist und sav isv pad sg it far many laid sides stuck ord rd pl wr) (fun _ => mW Z q now (zcp kept now 0 560) hist und sav isv pad sg it far many laid sides stuck ord rd pl wr) (fun _ => True) := by
  refine zN_of (C := RX7) (by decide +kernel) rfl (Nat.le_of_ble_eq_true rfl) (fun X ok fin => ?_)
  refine z_lsub ok (lv' := [(0, .ref (q 0))]) [0] rfl ?_
  refine z_iconst ok dX7_keep_0 ?_
  refine z_istore_n (lv' := [(1, .int (iI 0)), (0, .ref (q 0))]) ok dX7_keep_1 (by decide) rfl ?_
  have L2 : ∀ (fuel : Nat) (k : Int) (ld : Int → Int), 0 ≤ k → k ≤ 560 → ld = zcp kept now 0 k → (560 - k).toNat < fuel → zV X 0 0 (mW Z q now ld hist und sav isv pad sg it far many laid sides stuck ord rd pl wr) 2 [(0, .ref (q 0)), (1, .int (iI k))] [] := by
    intro fuel
    induction fuel with
    | zero => intro k ld h2_0 h2_1 h2_2 hf; exact absurd hf (Nat.not_lt_zero _)
    | succ fuel ih2 =>
      intro k ld h2_0 h2_1 h2_2 hf
      refine z_iload_n ok dX7_keep_2 rfl ?_
      refine z_sipush ok dX7_keep_3 (by decide) ?_
      refine z_icmp_ge (tgt := 27) ok dX7_keep_6 (by decide) (by omega) (by omega) (fun c6 => ?_) (fun c6 => ?_)
      · -- t
        have hk : k = 560 := by omega
        subst hk
        subst h2_2
        exact fin () 27 _ _ _ dX7_keep_27 (trivial) (by decide) (by decide)
      · -- f
        refine z_aload_n ok dX7_keep_9 rfl ?_
        refine z_get (v := .ref (q 2)) ok zc7 0 rfl 1 (by decide) qf_RX7_13 rfl rfl dX7_keep_10 ?_
        refine z_iload_n ok dX7_keep_13 rfl ?_
        refine z_aload_n ok dX7_keep_14 rfl ?_
        refine z_get (v := .ref (q 1)) ok zc7 0 rfl 0 (by decide) qf_RX7_7 rfl rfl dX7_keep_15 ?_
        refine z_iload_n ok dX7_keep_18 rfl ?_
        refine z_iald (f := now) ok 1 rfl dX7_keep_19 (by omega) (by decide) ?_
        refine z_iast (f := ld) (v := now k) (ws' := mW Z q now (zu ld k (now k)) hist und sav isv pad sg it far many laid sides stuck ord rd pl wr) ok 2 rfl dX7_keep_20 (by omega) (by decide) rfl ?_
        refine z_iinc (lv' := [(1, .int (iI (k + 1))), (0, .ref (q 0))]) ok dX7_keep_21 1 rfl (by decide) rfl ?_
        refine z_goto (tgt := 2) ok dX7_keep_24 (by decide) ?_
        refine z_lsub ok (lv' := [(0, .ref (q 0)), (1, .int (iI (k + 1)))]) [1, 0] rfl ?_
        exact ih2 _ _ (by omega) (by omega) (by rw [h2_2]; exact zcp_z (by omega)) (by omega)
  refine z_lsub ok (lv' := [(0, .ref (q 0)), (1, .int (iI 0))]) [1, 0] rfl ?_
  exact L2 _ _ _ (by omega) (by omega) (zcp_0.symm) (Nat.lt_succ_self _)
set_option maxRecDepth 20000 in
theorem c_X7_comeBack {l : Launch} {Z : zZ} {q : Nat → Nat} {now kept hist : Int → Int} {und : Int} {sav isv pad : Int → Int} {sg it : Int} {far many laid sides stuck ord : Int → Int} {rd pl wr : Int}  : zN (T := Unit) l yX7_comeBack (Cond.code yX7_comeBack cX7_comeBack 2 none :: wsL_law) ({ frames := 0, cells := 0, slots := 0, locals := 0 } : Room) Z [.ref (q 0)] (mW Z q now kept hist und sav isv pad sg it far many laid sides stuck ord rd pl wr) (fun _ => mW Z q (zcp now kept 0 560) kept hist und sav isv pad sg it far many laid sides stuck ord rd pl wr) (fun _ => True) := by
  refine zN_of (C := RX7) (by decide +kernel) rfl (Nat.le_of_ble_eq_true rfl) (fun X ok fin => ?_)
  refine z_lsub ok (lv' := [(0, .ref (q 0))]) [0] rfl ?_
  refine z_iconst ok dX7_comeBack_0 ?_
  refine z_istore_n (lv' := [(1, .int (iI 0)), (0, .ref (q 0))]) ok dX7_comeBack_1 (by decide) rfl ?_
  have L2 : ∀ (fuel : Nat) (k : Int) (ld : Int → Int), 0 ≤ k → k ≤ 560 → ld = zcp now kept 0 k → (560 - k).toNat < fuel → zV X 0 0 (mW Z q ld kept hist und sav isv pad sg it far many laid sides stuck ord rd pl wr) 2 [(0, .ref (q 0)), (1, .int (iI k))] [] := by
    intro fuel
    induction fuel with
    | zero => intro k ld h2_0 h2_1 h2_2 hf; exact absurd hf (Nat.not_lt_zero _)
    | succ fuel ih2 =>
      intro k ld h2_0 h2_1 h2_2 hf
      refine z_iload_n ok dX7_comeBack_2 rfl ?_
      refine z_sipush ok dX7_comeBack_3 (by decide) ?_
      refine z_icmp_ge (tgt := 27) ok dX7_comeBack_6 (by decide) (by omega) (by omega) (fun c6 => ?_) (fun c6 => ?_)
      · -- t
        have hk : k = 560 := by omega
        subst hk
        subst h2_2
        exact fin () 27 _ _ _ dX7_comeBack_27 (trivial) (by decide) (by decide)
      · -- f
        refine z_aload_n ok dX7_comeBack_9 rfl ?_
        refine z_get (v := .ref (q 1)) ok zc7 0 rfl 0 (by decide) qf_RX7_7 rfl rfl dX7_comeBack_10 ?_
        refine z_iload_n ok dX7_comeBack_13 rfl ?_
        refine z_aload_n ok dX7_comeBack_14 rfl ?_
        refine z_get (v := .ref (q 2)) ok zc7 0 rfl 1 (by decide) qf_RX7_13 rfl rfl dX7_comeBack_15 ?_
        refine z_iload_n ok dX7_comeBack_18 rfl ?_
        refine z_iald (f := kept) ok 2 rfl dX7_comeBack_19 (by omega) (by decide) ?_
        refine z_iast (f := ld) (v := kept k) (ws' := mW Z q (zu ld k (kept k)) kept hist und sav isv pad sg it far many laid sides stuck ord rd pl wr) ok 1 rfl dX7_comeBack_20 (by omega) (by decide) rfl ?_
        refine z_iinc (lv' := [(1, .int (iI (k + 1))), (0, .ref (q 0))]) ok dX7_comeBack_21 1 rfl (by decide) rfl ?_
        refine z_goto (tgt := 2) ok dX7_comeBack_24 (by decide) ?_
        refine z_lsub ok (lv' := [(0, .ref (q 0)), (1, .int (iI (k + 1)))]) [1, 0] rfl ?_
        exact ih2 _ _ (by omega) (by omega) (by rw [h2_2]; exact zcp_z (by omega)) (by omega)
  refine z_lsub ok (lv' := [(0, .ref (q 0)), (1, .int (iI 0))]) [1, 0] rfl ?_
  exact L2 _ _ _ (by omega) (by omega) (zcp_0.symm) (Nat.lt_succ_self _)
set_option maxRecDepth 20000 in
theorem c_X7_record {l : Launch} {Z : zZ} {q : Nat → Nat} {now kept hist : Int → Int} {und : Int} {sav isv pad : Int → Int} {sg it : Int} {far many laid sides stuck ord : Int → Int} {rd pl wr : Int} (hu : 0 ≤ und ∧ und ≤ 6) (hit : 0 ≤ it ∧ it ≤ 1) : zN (T := Unit) l yX7_record (Cond.code yX7_record cX7_record 2 none :: wsL_law) ({ frames := 0, cells := 0, slots := 0, locals := 0 } : Room) Z [.ref (q 0)] (mW Z q now kept hist und sav isv pad sg it far many laid sides stuck ord rd pl wr) (fun _ => mW Z q now kept (recH it und hist now) (recU it und) sav isv pad sg it far many laid sides stuck ord rd pl wr) (fun _ => True) := by
  refine zN_of (C := RX7) (by decide +kernel) rfl (Nat.le_of_ble_eq_true rfl) (fun X ok fin => ?_)
  refine z_lsub ok (lv' := [(0, .ref (q 0))]) [0] rfl ?_
  refine z_aload_n ok dX7_record_0 rfl ?_
  refine z_get (v := .int (iI it)) ok zc7 0 rfl 8 (by decide) qf_RX7_47 rfl rfl dX7_record_1 ?_
  refine z_if_eq (tgt := 8) ok dX7_record_4 (by decide) (by omega) (fun c4 => ?_) (fun c4 => ?_)
  · -- t
    refine z_aload_n ok dX7_record_8 rfl ?_
    refine z_get (v := .int (iI und)) ok zc7 0 rfl 3 (by decide) qf_RX7_51 rfl rfl dX7_record_9 ?_
    refine z_bipush ok dX7_record_12 (by decide) ?_
    have L53 : ∀ (u : Int) (h1 : Int → Int), 0 ≤ u → u ≤ 5 → u = (if und = 6 then 5 else und) → h1 = (if und = 6 then zcp hist (fun j => hist (j + 560)) 0 2800 else hist) → zV X 0 0 (mW Z q now kept h1 u sav isv pad sg it far many laid sides stuck ord rd pl wr) 53 [(0, .ref (q 0))] [] := by
      intro u h1 h53_0 h53_1 h53_2 h53_3
      refine z_iconst ok dX7_record_53 ?_
      refine z_istore_n (lv' := [(1, .int (iI 0)), (0, .ref (q 0))]) ok dX7_record_54 (by decide) rfl ?_
      have L55 : ∀ (fuel : Nat) (k : Int) (h : Int → Int), 0 ≤ k → k ≤ 560 → h = zcp h1 now (u * 560) k → (560 - k).toNat < fuel → zV X 0 0 (mW Z q now kept h u sav isv pad sg it far many laid sides stuck ord rd pl wr) 55 [(0, .ref (q 0)), (1, .int (iI k))] [] := by
        intro fuel
        induction fuel with
        | zero => intro k h h55_0 h55_1 h55_2 hf; exact absurd hf (Nat.not_lt_zero _)
        | succ fuel ih55 =>
          intro k h h55_0 h55_1 h55_2 hf
          refine z_iload_n ok dX7_record_55 rfl ?_
          refine z_sipush ok dX7_record_56 (by decide) ?_
          refine z_icmp_ge (tgt := 89) ok dX7_record_59 (by decide) (by omega) (by omega) (fun c59 => ?_) (fun c59 => ?_)
          · -- t
            refine z_aload_n ok dX7_record_89 rfl ?_
            refine z_dup ok dX7_record_90 rfl ?_
            refine z_get (v := .int (iI u)) ok zc7 0 rfl 3 (by decide) qf_RX7_51 rfl rfl dX7_record_91 ?_
            refine z_iconst ok dX7_record_94 ?_
            refine z_iadd ok dX7_record_95 ?_
            refine z_put (ws' := mW Z q now kept h (u + 1) sav isv pad sg it far many laid sides stuck ord rd pl wr) ok zc7 0 rfl 3 (by decide) qf_RX7_51 rfl rfl rfl rfl (Nat.le_of_ble_eq_true rfl) dX7_record_96 rfl ?_
            have hk : k = 560 := by omega
            subst hk
            refine z_eq (ws' := mW Z q now kept (recH it und hist now) (recU it und) sav isv pad sg it far many laid sides stuck ord rd pl wr) (by unfold recH recU; rw [if_pos c4, if_pos c4, h55_2, h53_3, h53_2]; congr 1; split <;> omega) ?_
            exact fin () 99 _ _ _ dX7_record_99 (trivial) (by decide) (by decide)
          · -- f
            refine z_aload_n ok dX7_record_62 rfl ?_
            refine z_get (v := .ref (q 3)) ok zc7 0 rfl 2 (by decide) qf_RX7_16 rfl rfl dX7_record_63 ?_
            refine z_aload_n ok dX7_record_66 rfl ?_
            refine z_get (v := .int (iI u)) ok zc7 0 rfl 3 (by decide) qf_RX7_51 rfl rfl dX7_record_67 ?_
            refine z_sipush ok dX7_record_70 (by decide) ?_
            refine z_imul ok dX7_record_73 ?_
            refine z_iload_n ok dX7_record_74 rfl ?_
            refine z_iadd ok dX7_record_75 ?_
            refine z_aload_n ok dX7_record_76 rfl ?_
            refine z_get (v := .ref (q 1)) ok zc7 0 rfl 0 (by decide) qf_RX7_7 rfl rfl dX7_record_77 ?_
            refine z_iload_n ok dX7_record_80 rfl ?_
            refine z_iald (f := now) ok 1 rfl dX7_record_81 (by omega) (by decide) ?_
            refine z_iast (f := h) (v := now k) (ws' := mW Z q now kept (zu h ((u * 560) + k) (now k)) u sav isv pad sg it far many laid sides stuck ord rd pl wr) ok 3 rfl dX7_record_82 (by omega) (by decide) rfl ?_
            refine z_iinc (lv' := [(1, .int (iI (k + 1))), (0, .ref (q 0))]) ok dX7_record_83 1 rfl (by decide) rfl ?_
            refine z_goto (tgt := 55) ok dX7_record_86 (by decide) ?_
            refine z_lsub ok (lv' := [(0, .ref (q 0)), (1, .int (iI (k + 1)))]) [1, 0] rfl ?_
            exact ih55 _ _ (by omega) (by omega) (by rw [h55_2]; exact zcp_s (by omega)) (by omega)
      refine z_lsub ok (lv' := [(0, .ref (q 0)), (1, .int (iI 0))]) [1, 0] rfl ?_
      exact L55 _ _ _ (by omega) (by omega) (zcp_0.symm) (Nat.lt_succ_self _)
    refine z_icmp_ne (tgt := 53) ok dX7_record_14 (by decide) (by omega) (by omega) (fun c14 => ?_) (fun c14 => ?_)
    · -- t
      refine z_lsub ok (lv' := [(0, .ref (q 0))]) [0] rfl ?_
      exact L53 _ _ (by omega) (by omega) (by split <;> omega) (by first | (rw [if_neg (by omega)]; done) | (rw [if_pos (by omega), h19_2, show k = 2800 by omega]))
    · -- f
      refine z_iconst ok dX7_record_17 ?_
      refine z_istore_n (lv' := [(1, .int (iI 0)), (0, .ref (q 0))]) ok dX7_record_18 (by decide) rfl ?_
      have L19 : ∀ (fuel : Nat) (k : Int) (h : Int → Int), 0 ≤ k → k ≤ 2800 → h = zcp hist (fun j => hist (j + 560)) 0 k → (2800 - k).toNat < fuel → zV X 0 0 (mW Z q now kept h und sav isv pad sg it far many laid sides stuck ord rd pl wr) 19 [(0, .ref (q 0)), (1, .int (iI k))] [] := by
        intro fuel
        induction fuel with
        | zero => intro k h h19_0 h19_1 h19_2 hf; exact absurd hf (Nat.not_lt_zero _)
        | succ fuel ih19 =>
          intro k h h19_0 h19_1 h19_2 hf
          refine z_iload_n ok dX7_record_19 rfl ?_
          refine z_sipush ok dX7_record_20 (by decide) ?_
          refine z_icmp_ge (tgt := 48) ok dX7_record_23 (by decide) (by omega) (by omega) (fun c23 => ?_) (fun c23 => ?_)
          · -- t
            refine z_aload_n ok dX7_record_48 rfl ?_
            refine z_iconst ok dX7_record_49 ?_
            refine z_put (ws' := mW Z q now kept h 5 sav isv pad sg it far many laid sides stuck ord rd pl wr) ok zc7 0 rfl 3 (by decide) qf_RX7_51 rfl rfl rfl rfl (Nat.le_of_ble_eq_true rfl) dX7_record_50 rfl ?_
            refine z_lsub ok (lv' := [(0, .ref (q 0))]) [0] rfl ?_
            exact L53 _ _ (by omega) (by omega) (by split <;> omega) (by first | (rw [if_neg (by omega)]; done) | (rw [if_pos (by omega), h19_2, show k = 2800 by omega]))
          · -- f
            refine z_aload_n ok dX7_record_26 rfl ?_
            refine z_get (v := .ref (q 3)) ok zc7 0 rfl 2 (by decide) qf_RX7_16 rfl rfl dX7_record_27 ?_
            refine z_iload_n ok dX7_record_30 rfl ?_
            refine z_aload_n ok dX7_record_31 rfl ?_
            refine z_get (v := .ref (q 3)) ok zc7 0 rfl 2 (by decide) qf_RX7_16 rfl rfl dX7_record_32 ?_
            refine z_iload_n ok dX7_record_35 rfl ?_
            refine z_sipush ok dX7_record_36 (by decide) ?_
            refine z_iadd ok dX7_record_39 ?_
            refine z_iald (f := h) ok 3 rfl dX7_record_40 (by omega) (by decide) ?_
            refine z_iast (f := h) (v := h (k + 560)) (ws' := mW Z q now kept (zu h k (h (k + 560))) und sav isv pad sg it far many laid sides stuck ord rd pl wr) ok 3 rfl dX7_record_41 (by omega) (by decide) rfl ?_
            refine z_iinc (lv' := [(1, .int (iI (k + 1))), (0, .ref (q 0))]) ok dX7_record_42 1 rfl (by decide) rfl ?_
            refine z_goto (tgt := 19) ok dX7_record_45 (by decide) ?_
            refine z_lsub ok (lv' := [(0, .ref (q 0)), (1, .int (iI (k + 1)))]) [1, 0] rfl ?_
            exact ih19 _ _ (by omega) (by omega) (by rw [h19_2, zcp_out (j := k + 560) (by omega)]; exact zcp_z (g := fun j => hist (j + 560)) (by omega)) (by omega)
      refine z_lsub ok (lv' := [(0, .ref (q 0)), (1, .int (iI 0))]) [1, 0] rfl ?_
      exact L19 _ _ _ (by omega) (by omega) (zcp_0.symm) (Nat.lt_succ_self _)
  · -- f
    refine z_eq (ws' := mW Z q now kept (recH it und hist now) (recU it und) sav isv pad sg it far many laid sides stuck ord rd pl wr) (by unfold recH recU; rw [if_neg c4, if_neg c4]) ?_
    exact fin () 7 _ _ _ dX7_record_7 (trivial) (by decide) (by decide)
set_option maxRecDepth 20000 in
theorem c_X7_apart {l : Launch} {Z : zZ} {q : Nat → Nat} {now kept hist : Int → Int} {und : Int} {sav isv pad : Int → Int} {sg it : Int} {far many laid sides stuck ord : Int → Int} {rd pl wr : Int} {box other : Int} (hc : 2 ≤ now 4 ∧ now 4 ≤ 5) (hr : 2 ≤ now 5 ∧ now 5 ≤ 5) (hb : 0 ≤ box ∧ box < 1000000) (ho : 0 ≤ other ∧ other < 1000000) : zI (T := Unit) l yX7_apart (Cond.code yX7_apart cX7_apart 5 (some .int) :: wsL_law) ({ frames := 0, cells := 0, slots := 0, locals := 0 } : Room) Z [.ref (q 0), .int (iI box), .int (iI other)] (mW Z q now kept hist und sav isv pad sg it far many laid sides stuck ord rd pl wr) (fun _ => mW Z q now kept hist und sav isv pad sg it far many laid sides stuck ord rd pl wr) (fun ρ _ => ρ = dist now box other) := by
  refine zI_of (C := RX7) (by decide +kernel) rfl (Nat.le_of_ble_eq_true rfl) (fun _ => True) znI (fun X ok fin => ?_)
  have hd1 := dm hc hb.1
  have hd2 := dm hc ho.1
  refine z_lsub ok (lv' := [(0, .ref (q 0)), (1, .int (iI box)), (2, .int (iI other))]) [0, 1, 2] rfl ?_
  refine z_iload_n ok dX7_apart_0 rfl ?_
  refine z_aload_n ok dX7_apart_1 rfl ?_
  refine z_get (v := .ref (q 1)) ok zc7 0 rfl 0 (by decide) qf_RX7_7 rfl rfl dX7_apart_2 ?_
  refine z_iconst ok dX7_apart_5 ?_
  refine z_iald (f := now) ok 1 rfl dX7_apart_6 (by omega) (by decide) ?_
  refine z_irem ok dX7_apart_7 (by omega) (by omega) ?_
  refine z_iload_n ok dX7_apart_8 rfl ?_
  refine z_aload_n ok dX7_apart_9 rfl ?_
  refine z_get (v := .ref (q 1)) ok zc7 0 rfl 0 (by decide) qf_RX7_7 rfl rfl dX7_apart_10 ?_
  refine z_iconst ok dX7_apart_13 ?_
  refine z_iald (f := now) ok 1 rfl dX7_apart_14 (by omega) (by decide) ?_
  refine z_irem ok dX7_apart_15 (by omega) (by omega) ?_
  refine z_isub ok dX7_apart_16 ?_
  refine z_istore_n (lv' := [(3, .int (iI ((box % (now 4)) - (other % (now 4))))), (0, .ref (q 0)), (1, .int (iI box)), (2, .int (iI other))]) ok dX7_apart_17 (by decide) rfl ?_
  refine z_iload_n ok dX7_apart_18 rfl ?_
  refine z_aload_n ok dX7_apart_19 rfl ?_
  refine z_get (v := .ref (q 1)) ok zc7 0 rfl 0 (by decide) qf_RX7_7 rfl rfl dX7_apart_20 ?_
  refine z_iconst ok dX7_apart_23 ?_
  refine z_iald (f := now) ok 1 rfl dX7_apart_24 (by omega) (by decide) ?_
  refine z_idiv ok dX7_apart_25 (by omega) (by omega) ?_
  refine z_iload_n ok dX7_apart_26 rfl ?_
  refine z_aload_n ok dX7_apart_27 rfl ?_
  refine z_get (v := .ref (q 1)) ok zc7 0 rfl 0 (by decide) qf_RX7_7 rfl rfl dX7_apart_28 ?_
  refine z_iconst ok dX7_apart_31 ?_
  refine z_iald (f := now) ok 1 rfl dX7_apart_32 (by omega) (by decide) ?_
  refine z_idiv ok dX7_apart_33 (by omega) (by omega) ?_
  refine z_isub ok dX7_apart_34 ?_
  refine z_istore (lv' := [(4, .int (iI ((box / (now 4)) - (other / (now 4))))), (3, .int (iI ((box % (now 4)) - (other % (now 4))))), (0, .ref (q 0)), (1, .int (iI box)), (2, .int (iI other))]) ok dX7_apart_35 (by decide) rfl ?_
  refine z_iload_n ok dX7_apart_37 rfl ?_
  refine z_if_ge (tgt := 46) ok dX7_apart_38 (by decide) (by omega) (fun c38 => ?_) (fun c38 => ?_)
  · -- t
    refine z_iload_n ok dX7_apart_46 rfl ?_
    refine z_iload ok dX7_apart_47 rfl ?_
    refine z_if_ge (tgt := 58) ok dX7_apart_49 (by decide) (by omega) (fun c49 => ?_) (fun c49 => ?_)
    · -- t
      refine z_iload ok dX7_apart_58 rfl ?_
      refine z_iadd ok dX7_apart_60 ?_
      exact fin (((box % (now 4)) - (other % (now 4))) + ((box / (now 4)) - (other / (now 4)))) () 61 _ _ _ dX7_apart_61 (trivial) (by unfold dist zabs; omega) (by decide) (by decide)
    · -- f
      refine z_iload ok dX7_apart_52 rfl ?_
      refine z_ineg ok dX7_apart_54 ?_
      refine z_goto (tgt := 60) ok dX7_apart_55 (by decide) ?_
      refine z_iadd ok dX7_apart_60 ?_
      exact fin (((box % (now 4)) - (other % (now 4))) + (-((box / (now 4)) - (other / (now 4))))) () 61 _ _ _ dX7_apart_61 (trivial) (by unfold dist zabs; omega) (by decide) (by decide)
  · -- f
    refine z_iload_n ok dX7_apart_41 rfl ?_
    refine z_ineg ok dX7_apart_42 ?_
    refine z_goto (tgt := 47) ok dX7_apart_43 (by decide) ?_
    refine z_iload ok dX7_apart_47 rfl ?_
    refine z_if_ge (tgt := 58) ok dX7_apart_49 (by decide) (by omega) (fun c49 => ?_) (fun c49 => ?_)
    · -- t
      refine z_iload ok dX7_apart_58 rfl ?_
      refine z_iadd ok dX7_apart_60 ?_
      exact fin ((-((box % (now 4)) - (other % (now 4)))) + ((box / (now 4)) - (other / (now 4)))) () 61 _ _ _ dX7_apart_61 (trivial) (by unfold dist zabs; omega) (by decide) (by decide)
    · -- f
      refine z_iload ok dX7_apart_52 rfl ?_
      refine z_ineg ok dX7_apart_54 ?_
      refine z_goto (tgt := 60) ok dX7_apart_55 (by decide) ?_
      refine z_iadd ok dX7_apart_60 ?_
      exact fin ((-((box % (now 4)) - (other % (now 4)))) + (-((box / (now 4)) - (other / (now 4))))) () 61 _ _ _ dX7_apart_61 (trivial) (by unfold dist zabs; omega) (by decide) (by decide)
set_option maxRecDepth 20000 in
theorem c_X7_isDetour {l : Launch} {Z : zZ} {q : Nat → Nat} {now kept hist : Int → Int} {und : Int} {sav isv pad : Int → Int} {sg it : Int} {far many laid sides stuck ord : Int → Int} {rd pl wr : Int} {box next to : Int} (hc : 2 ≤ now 4 ∧ now 4 ≤ 5) (hr : 2 ≤ now 5 ∧ now 5 ≤ 5) (hb : 0 ≤ box ∧ box < 1000000) (hn : 0 ≤ next ∧ next < 1000000) (ht : 0 ≤ to ∧ to < 1000000) : zI (T := Unit) l yX7_isDetour (Cond.code yX7_isDetour cX7_isDetour 4 (some .boolean) :: wsL_law) ({ frames := 1, cells := 0, slots := 0, locals := 24 } : Room) Z [.ref (q 0), .int (iI box), .int (iI next), .int (iI to)] (mW Z q now kept hist und sav isv pad sg it far many laid sides stuck ord rd pl wr) (fun _ => mW Z q now kept hist und sav isv pad sg it far many laid sides stuck ord rd pl wr) (fun ρ _ => ρ = zb (dtr now box next to)) := by
  refine zI_of (C := RX7) (by decide +kernel) rfl (Nat.le_of_ble_eq_true rfl) (fun ρ => ρ = 0 ∨ ρ = 1) znZ (fun X ok fin => ?_)
  have hd1 := dist_rng (N := now) hc hb ht
  have hd2 := dist_rng (N := now) hc hn ht
  refine z_lsub ok (lv' := [(0, .ref (q 0)), (1, .int (iI box)), (2, .int (iI next)), (3, .int (iI to))]) [0, 1, 2, 3] rfl ?_
  refine z_aload_n ok dX7_isDetour_0 rfl ?_
  refine z_iload_n ok dX7_isDetour_1 rfl ?_
  refine z_iload_n ok dX7_isDetour_2 rfl ?_
  refine z_callVi0 ok (fun l => c_X7_apart  (by omega) (by omega) (by omega) (by omega)) zm_X7_apart zv_X7_apart qm_RX7_80 dX7_isDetour_3 (by decide) (by decide) rfl rfl (Nat.le_of_ble_eq_true rfl) (q0 := 0) rfl rfl rfl (fun ρ _ hρ => ?_)
  subst hρ
  refine z_eq (ws' := mW Z q now kept hist und sav isv pad sg it far many laid sides stuck ord rd pl wr) rfl ?_
  refine z_aload_n ok dX7_isDetour_6 rfl ?_
  refine z_iload_n ok dX7_isDetour_7 rfl ?_
  refine z_iload_n ok dX7_isDetour_8 rfl ?_
  refine z_callVi0 ok (fun l => c_X7_apart  (by omega) (by omega) (by omega) (by omega)) zm_X7_apart zv_X7_apart qm_RX7_80 dX7_isDetour_9 (by decide) (by decide) rfl rfl (Nat.le_of_ble_eq_true rfl) (q0 := 0) rfl rfl rfl (fun ρ _ hρ => ?_)
  subst hρ
  refine z_eq (ws' := mW Z q now kept hist und sav isv pad sg it far many laid sides stuck ord rd pl wr) rfl ?_
  refine z_icmp_lt (tgt := 19) ok dX7_isDetour_12 (by decide) (by omega) (by omega) (fun c12 => ?_) (fun c12 => ?_)
  · -- t
    refine z_iconst ok dX7_isDetour_19 ?_
    exact fin 0 () 20 _ _ _ dX7_isDetour_20 (by first | decide | exact zb_01 _ | omega) (by first | exact (zb_t (by unfold dtr; omega)).symm | exact (zb_f (by unfold dtr; omega)).symm) (by decide) (by decide)
  · -- f
    refine z_iconst ok dX7_isDetour_15 ?_
    refine z_goto (tgt := 20) ok dX7_isDetour_16 (by decide) ?_
    exact fin 1 () 20 _ _ _ dX7_isDetour_20 (by first | decide | exact zb_01 _ | omega) (by first | exact (zb_t (by unfold dtr; omega)).symm | exact (zb_f (by unfold dtr; omega)).symm) (by decide) (by decide)
set_option maxRecDepth 20000 in
theorem c_X7_moved {l : Launch} {Z : zZ} {q : Nat → Nat} {now kept hist : Int → Int} {und : Int} {sav isv pad : Int → Int} {sg it : Int} {far many laid sides stuck ord : Int → Int} {rd pl wr : Int} {s side to : Int} (hw : wf now) (hs : 0 ≤ s ∧ s < 10 * (now 4 * now 5)) (hd : 0 ≤ side ∧ side ≤ 3) (ht : 0 ≤ to ∧ to < now 4 * now 5) : zI (T := Unit) l yX7_moved (Cond.code yX7_moved cX7_moved 9 (some .int) :: wsL_law) ({ frames := 4, cells := 0, slots := 0, locals := 92 } : Room) Z [.ref (q 0), .int (iI s), .int (iI side), .int (iI to)] (mW Z q now kept hist und sav isv pad sg it far many laid sides stuck ord rd pl wr) (fun _ => mW Z q now kept hist und sav isv pad sg it far many laid sides stuck ord rd pl wr) (fun ρ _ => ρ = mvd now s side to) := by
  refine zI_of (C := RX7) (by decide +kernel) rfl (Nat.le_of_ble_eq_true rfl) (fun _ => True) znI (fun X ok fin => ?_)
  obtain ⟨w0, w1, w2, hc, hr, w6, wl, wp⟩ := id hw
  have hcr := cr_rng hc hr
  have hnb := nb_rng (b := s / 10) hw (by omega) hd
  refine z_lsub ok (lv' := [(0, .ref (q 0)), (1, .int (iI s)), (2, .int (iI side)), (3, .int (iI to))]) [0, 1, 2, 3] rfl ?_
  refine z_iload_n ok dX7_moved_0 rfl ?_
  refine z_bipush ok dX7_moved_1 (by decide) ?_
  refine z_idiv ok dX7_moved_3 (by omega) (by omega) ?_
  refine z_istore (lv' := [(4, .int (iI (s / 10))), (0, .ref (q 0)), (1, .int (iI s)), (2, .int (iI side)), (3, .int (iI to))]) ok dX7_moved_4 (by decide) rfl ?_
  refine z_iload_n ok dX7_moved_6 rfl ?_
  refine z_iconst ok dX7_moved_7 ?_
  refine z_idiv ok dX7_moved_8 (by omega) (by omega) ?_
  refine z_iconst ok dX7_moved_9 ?_
  refine z_irem ok dX7_moved_10 (by omega) (by omega) ?_
  refine z_istore (lv' := [(5, .int (iI ((s / 5) % 2))), (4, .int (iI (s / 10))), (0, .ref (q 0)), (1, .int (iI s)), (2, .int (iI side)), (3, .int (iI to))]) ok dX7_moved_11 (by decide) rfl ?_
  refine z_iload_n ok dX7_moved_13 rfl ?_
  refine z_iconst ok dX7_moved_14 ?_
  refine z_irem ok dX7_moved_15 (by omega) (by omega) ?_
  refine z_istore (lv' := [(6, .int (iI (s % 5))), (5, .int (iI ((s / 5) % 2))), (4, .int (iI (s / 10))), (0, .ref (q 0)), (1, .int (iI s)), (2, .int (iI side)), (3, .int (iI to))]) ok dX7_moved_16 (by decide) rfl ?_
  refine z_aload_n ok dX7_moved_18 rfl ?_
  refine z_iload ok dX7_moved_19 rfl ?_
  refine z_iload_n ok dX7_moved_21 rfl ?_
  refine z_callVi0 ok (fun l => c_X7_isWhole  (hw) (by omega) (hd)) zm_X7_isWhole zv_X7_isWhole qm_RX7_83 dX7_moved_22 (by decide) (by decide) rfl rfl (Nat.le_of_ble_eq_true rfl) (q0 := 0) rfl rfl rfl (fun ρ _ hρ => ?_)
  subst hρ
  refine z_eq (ws' := mW Z q now kept hist und sav isv pad sg it far many laid sides stuck ord rd pl wr) rfl ?_
  refine z_ifb_eq (tgt := 48) ok dX7_moved_25 (by decide) (fun c25 => ?_) (fun c25 => ?_)
  · -- t
    refine z_bipush ok dX7_moved_48 (by decide) ?_
    exact fin (-6) () 50 _ _ _ dX7_moved_50 (trivial) (by unfold mvd; exact (zif_f (fun z => by first | exact c25 z.1 | exact z.2.1 ⟨by omega, by omega, by omega⟩)).symm) (by decide) (by decide)
  · -- f
    refine z_aload_n ok dX7_moved_28 rfl ?_
    refine z_get (v := .ref (q 1)) ok zc7 0 rfl 0 (by decide) qf_RX7_7 rfl rfl dX7_moved_29 ?_
    refine z_iconst ok dX7_moved_32 ?_
    refine z_iald (f := now) ok 1 rfl dX7_moved_33 (by omega) (by decide) ?_
    refine z_iconst ok dX7_moved_34 ?_
    refine z_icmp_ne (tgt := 51) ok dX7_moved_35 (by decide) (by omega) (by omega) (fun c35 => ?_) (fun c35 => ?_)
    · -- t
      have ho : opn now (s / 10) side := c25
      have hn0 := ho.1
      have hnm := nbm_nn hn0
      refine z_aload_n ok dX7_moved_51 rfl ?_
      refine z_iload ok dX7_moved_52 rfl ?_
      refine z_iload_n ok dX7_moved_54 rfl ?_
      refine z_callVi0 ok (fun l => c_X7_beside  (by omega) (by omega) (by omega) (by omega)) zm_X7_beside zv_X7_beside qm_RX7_63 dX7_moved_55 (by decide) (by decide) rfl rfl (Nat.le_of_ble_eq_true rfl) (q0 := 0) rfl rfl rfl (fun ρ _ hρ => ?_)
      subst hρ
      refine z_eq (ws' := mW Z q now kept hist und sav isv pad sg it far many laid sides stuck ord rd pl wr) rfl ?_
      rw [hnm]
      refine z_istore (lv' := [(7, .int (iI (nb now (s / 10) side))), (6, .int (iI (s % 5))), (5, .int (iI ((s / 5) % 2))), (4, .int (iI (s / 10))), (0, .ref (q 0)), (1, .int (iI s)), (2, .int (iI side)), (3, .int (iI to))]) ok dX7_moved_58 (by decide) rfl ?_
      refine z_aload_n ok dX7_moved_60 rfl ?_
      refine z_iload ok dX7_moved_61 rfl ?_
      refine z_iload ok dX7_moved_63 rfl ?_
      refine z_iload_n ok dX7_moved_65 rfl ?_
      refine z_callVi0 ok (fun l => c_X7_isDetour  (by omega) (by omega) (by omega) (by omega) (by omega)) zm_X7_isDetour zv_X7_isDetour qm_RX7_87 dX7_moved_66 (by decide) (by decide) rfl rfl (Nat.le_of_ble_eq_true rfl) (q0 := 0) rfl rfl rfl (fun ρ _ hρ => ?_)
      subst hρ
      refine z_eq (ws' := mW Z q now kept hist und sav isv pad sg it far many laid sides stuck ord rd pl wr) rfl ?_
      refine z_istore (lv' := [(8, .int (iI (zb (dtr now (s / 10) (nb now (s / 10) side) to)))), (7, .int (iI (nb now (s / 10) side))), (6, .int (iI (s % 5))), (5, .int (iI ((s / 5) % 2))), (4, .int (iI (s / 10))), (0, .ref (q 0)), (1, .int (iI s)), (2, .int (iI side)), (3, .int (iI to))]) ok dX7_moved_69 (by decide) rfl ?_
      refine z_iload ok dX7_moved_71 rfl ?_
      refine z_ifb_eq (tgt := 90) ok dX7_moved_73 (by decide) (fun c73 => ?_) (fun c73 => ?_)
      · -- t
        refine z_bipush ok dX7_moved_90 (by decide) ?_
        refine z_iload ok dX7_moved_92 rfl ?_
        refine z_imul ok dX7_moved_94 ?_
        refine z_iconst ok dX7_moved_95 ?_
        refine z_iload_n ok dX7_moved_96 rfl ?_
        refine z_if_ne (tgt := 105) ok dX7_moved_97 (by decide) (by omega) (fun c97 => ?_) (fun c97 => ?_)
        · -- t
          refine z_iconst ok dX7_moved_105 ?_
          refine z_imul ok dX7_moved_106 ?_
          refine z_iadd ok dX7_moved_107 ?_
          refine z_iload ok dX7_moved_108 rfl ?_
          refine z_iadd ok dX7_moved_110 ?_
          refine z_iload ok dX7_moved_111 rfl ?_
          refine z_ifb_eq (tgt := 120) ok dX7_moved_113 (by decide) (fun c113 => ?_) (fun c113 => ?_)
          · -- t
            refine z_iconst ok dX7_moved_120 ?_
            refine z_iadd ok dX7_moved_121 ?_
            exact fin ((((10 * (nb now (s / 10) side)) + (5 * 1)) + (s % 5)) + 0) () 122 _ _ _ dX7_moved_122 (trivial) (by first | exact absurd c113 c73 | exact absurd c73 c113 | (unfold mvd nxt; rw [zif_t ⟨ho, by omega, fun z => by first | exact c73 z.1 | (have := z.2; omega)⟩]; (first | rw [zb_t c73] | rw [zb_f c73]); (try split) <;> omega)) (by decide) (by decide)
          · -- f
            refine z_iconst ok dX7_moved_116 ?_
            refine z_goto (tgt := 121) ok dX7_moved_117 (by decide) ?_
            refine z_iadd ok dX7_moved_121 ?_
            exact fin ((((10 * (nb now (s / 10) side)) + (5 * 1)) + (s % 5)) + 1) () 122 _ _ _ dX7_moved_122 (trivial) (by first | exact absurd c113 c73 | exact absurd c73 c113 | (unfold mvd nxt; rw [zif_t ⟨ho, by omega, fun z => by first | exact c73 z.1 | (have := z.2; omega)⟩]; (first | rw [zb_t c73] | rw [zb_f c73]); (try split) <;> omega)) (by decide) (by decide)
        · -- f
          refine z_iload ok dX7_moved_100 rfl ?_
          refine z_goto (tgt := 106) ok dX7_moved_102 (by decide) ?_
          refine z_imul ok dX7_moved_106 ?_
          refine z_iadd ok dX7_moved_107 ?_
          refine z_iload ok dX7_moved_108 rfl ?_
          refine z_iadd ok dX7_moved_110 ?_
          refine z_iload ok dX7_moved_111 rfl ?_
          refine z_ifb_eq (tgt := 120) ok dX7_moved_113 (by decide) (fun c113 => ?_) (fun c113 => ?_)
          · -- t
            refine z_iconst ok dX7_moved_120 ?_
            refine z_iadd ok dX7_moved_121 ?_
            exact fin ((((10 * (nb now (s / 10) side)) + (5 * ((s / 5) % 2))) + (s % 5)) + 0) () 122 _ _ _ dX7_moved_122 (trivial) (by first | exact absurd c113 c73 | exact absurd c73 c113 | (unfold mvd nxt; rw [zif_t ⟨ho, by omega, fun z => by first | exact c73 z.1 | (have := z.2; omega)⟩]; (first | rw [zb_t c73] | rw [zb_f c73]); (try split) <;> omega)) (by decide) (by decide)
          · -- f
            refine z_iconst ok dX7_moved_116 ?_
            refine z_goto (tgt := 121) ok dX7_moved_117 (by decide) ?_
            refine z_iadd ok dX7_moved_121 ?_
            exact fin ((((10 * (nb now (s / 10) side)) + (5 * ((s / 5) % 2))) + (s % 5)) + 1) () 122 _ _ _ dX7_moved_122 (trivial) (by first | exact absurd c113 c73 | exact absurd c73 c113 | (unfold mvd nxt; rw [zif_t ⟨ho, by omega, fun z => by first | exact c73 z.1 | (have := z.2; omega)⟩]; (first | rw [zb_t c73] | rw [zb_f c73]); (try split) <;> omega)) (by decide) (by decide)
      · -- f
        refine z_iload ok dX7_moved_76 rfl ?_
        refine z_aload_n ok dX7_moved_78 rfl ?_
        refine z_get (v := .ref (q 1)) ok zc7 0 rfl 0 (by decide) qf_RX7_7 rfl rfl dX7_moved_79 ?_
        refine z_iconst ok dX7_moved_82 ?_
        refine z_iald (f := now) ok 1 rfl dX7_moved_83 (by omega) (by decide) ?_
        refine z_icmp_lt (tgt := 90) ok dX7_moved_84 (by decide) (by omega) (by omega) (fun c84 => ?_) (fun c84 => ?_)
        · -- t
          refine z_bipush ok dX7_moved_90 (by decide) ?_
          refine z_iload ok dX7_moved_92 rfl ?_
          refine z_imul ok dX7_moved_94 ?_
          refine z_iconst ok dX7_moved_95 ?_
          refine z_iload_n ok dX7_moved_96 rfl ?_
          refine z_if_ne (tgt := 105) ok dX7_moved_97 (by decide) (by omega) (fun c97 => ?_) (fun c97 => ?_)
          · -- t
            refine z_iconst ok dX7_moved_105 ?_
            refine z_imul ok dX7_moved_106 ?_
            refine z_iadd ok dX7_moved_107 ?_
            refine z_iload ok dX7_moved_108 rfl ?_
            refine z_iadd ok dX7_moved_110 ?_
            refine z_iload ok dX7_moved_111 rfl ?_
            refine z_ifb_eq (tgt := 120) ok dX7_moved_113 (by decide) (fun c113 => ?_) (fun c113 => ?_)
            · -- t
              refine z_iconst ok dX7_moved_120 ?_
              refine z_iadd ok dX7_moved_121 ?_
              exact fin ((((10 * (nb now (s / 10) side)) + (5 * 1)) + (s % 5)) + 0) () 122 _ _ _ dX7_moved_122 (trivial) (by first | exact absurd c113 c73 | exact absurd c73 c113 | (unfold mvd nxt; rw [zif_t ⟨ho, by omega, fun z => by first | exact c73 z.1 | (have := z.2; omega)⟩]; (first | rw [zb_t c73] | rw [zb_f c73]); (try split) <;> omega)) (by decide) (by decide)
            · -- f
              refine z_iconst ok dX7_moved_116 ?_
              refine z_goto (tgt := 121) ok dX7_moved_117 (by decide) ?_
              refine z_iadd ok dX7_moved_121 ?_
              exact fin ((((10 * (nb now (s / 10) side)) + (5 * 1)) + (s % 5)) + 1) () 122 _ _ _ dX7_moved_122 (trivial) (by first | exact absurd c113 c73 | exact absurd c73 c113 | (unfold mvd nxt; rw [zif_t ⟨ho, by omega, fun z => by first | exact c73 z.1 | (have := z.2; omega)⟩]; (first | rw [zb_t c73] | rw [zb_f c73]); (try split) <;> omega)) (by decide) (by decide)
          · -- f
            refine z_iload ok dX7_moved_100 rfl ?_
            refine z_goto (tgt := 106) ok dX7_moved_102 (by decide) ?_
            refine z_imul ok dX7_moved_106 ?_
            refine z_iadd ok dX7_moved_107 ?_
            refine z_iload ok dX7_moved_108 rfl ?_
            refine z_iadd ok dX7_moved_110 ?_
            refine z_iload ok dX7_moved_111 rfl ?_
            refine z_ifb_eq (tgt := 120) ok dX7_moved_113 (by decide) (fun c113 => ?_) (fun c113 => ?_)
            · -- t
              refine z_iconst ok dX7_moved_120 ?_
              refine z_iadd ok dX7_moved_121 ?_
              exact fin ((((10 * (nb now (s / 10) side)) + (5 * ((s / 5) % 2))) + (s % 5)) + 0) () 122 _ _ _ dX7_moved_122 (trivial) (by first | exact absurd c113 c73 | exact absurd c73 c113 | (unfold mvd nxt; rw [zif_t ⟨ho, by omega, fun z => by first | exact c73 z.1 | (have := z.2; omega)⟩]; (first | rw [zb_t c73] | rw [zb_f c73]); (try split) <;> omega)) (by decide) (by decide)
            · -- f
              refine z_iconst ok dX7_moved_116 ?_
              refine z_goto (tgt := 121) ok dX7_moved_117 (by decide) ?_
              refine z_iadd ok dX7_moved_121 ?_
              exact fin ((((10 * (nb now (s / 10) side)) + (5 * ((s / 5) % 2))) + (s % 5)) + 1) () 122 _ _ _ dX7_moved_122 (trivial) (by first | exact absurd c113 c73 | exact absurd c73 c113 | (unfold mvd nxt; rw [zif_t ⟨ho, by omega, fun z => by first | exact c73 z.1 | (have := z.2; omega)⟩]; (first | rw [zb_t c73] | rw [zb_f c73]); (try split) <;> omega)) (by decide) (by decide)
        · -- f
          refine z_bipush ok dX7_moved_87 (by decide) ?_
          exact fin (-6) () 89 _ _ _ dX7_moved_89 (trivial) (by unfold mvd; exact (zif_f (fun z => z.2.2 ⟨c73, by omega⟩)).symm) (by decide) (by decide)
    · -- f
      refine z_iload_n ok dX7_moved_38 rfl ?_
      refine z_if_ne (tgt := 51) ok dX7_moved_39 (by decide) (by omega) (fun c39 => ?_) (fun c39 => ?_)
      · -- t
        have ho : opn now (s / 10) side := c25
        have hn0 := ho.1
        have hnm := nbm_nn hn0
        refine z_aload_n ok dX7_moved_51 rfl ?_
        refine z_iload ok dX7_moved_52 rfl ?_
        refine z_iload_n ok dX7_moved_54 rfl ?_
        refine z_callVi0 ok (fun l => c_X7_beside  (by omega) (by omega) (by omega) (by omega)) zm_X7_beside zv_X7_beside qm_RX7_63 dX7_moved_55 (by decide) (by decide) rfl rfl (Nat.le_of_ble_eq_true rfl) (q0 := 0) rfl rfl rfl (fun ρ _ hρ => ?_)
        subst hρ
        refine z_eq (ws' := mW Z q now kept hist und sav isv pad sg it far many laid sides stuck ord rd pl wr) rfl ?_
        rw [hnm]
        refine z_istore (lv' := [(7, .int (iI (nb now (s / 10) side))), (6, .int (iI (s % 5))), (5, .int (iI ((s / 5) % 2))), (4, .int (iI (s / 10))), (0, .ref (q 0)), (1, .int (iI s)), (2, .int (iI side)), (3, .int (iI to))]) ok dX7_moved_58 (by decide) rfl ?_
        refine z_aload_n ok dX7_moved_60 rfl ?_
        refine z_iload ok dX7_moved_61 rfl ?_
        refine z_iload ok dX7_moved_63 rfl ?_
        refine z_iload_n ok dX7_moved_65 rfl ?_
        refine z_callVi0 ok (fun l => c_X7_isDetour  (by omega) (by omega) (by omega) (by omega) (by omega)) zm_X7_isDetour zv_X7_isDetour qm_RX7_87 dX7_moved_66 (by decide) (by decide) rfl rfl (Nat.le_of_ble_eq_true rfl) (q0 := 0) rfl rfl rfl (fun ρ _ hρ => ?_)
        subst hρ
        refine z_eq (ws' := mW Z q now kept hist und sav isv pad sg it far many laid sides stuck ord rd pl wr) rfl ?_
        refine z_istore (lv' := [(8, .int (iI (zb (dtr now (s / 10) (nb now (s / 10) side) to)))), (7, .int (iI (nb now (s / 10) side))), (6, .int (iI (s % 5))), (5, .int (iI ((s / 5) % 2))), (4, .int (iI (s / 10))), (0, .ref (q 0)), (1, .int (iI s)), (2, .int (iI side)), (3, .int (iI to))]) ok dX7_moved_69 (by decide) rfl ?_
        refine z_iload ok dX7_moved_71 rfl ?_
        refine z_ifb_eq (tgt := 90) ok dX7_moved_73 (by decide) (fun c73 => ?_) (fun c73 => ?_)
        · -- t
          refine z_bipush ok dX7_moved_90 (by decide) ?_
          refine z_iload ok dX7_moved_92 rfl ?_
          refine z_imul ok dX7_moved_94 ?_
          refine z_iconst ok dX7_moved_95 ?_
          refine z_iload_n ok dX7_moved_96 rfl ?_
          refine z_if_ne (tgt := 105) ok dX7_moved_97 (by decide) (by omega) (fun c97 => ?_) (fun c97 => ?_)
          · -- t
            refine z_iconst ok dX7_moved_105 ?_
            refine z_imul ok dX7_moved_106 ?_
            refine z_iadd ok dX7_moved_107 ?_
            refine z_iload ok dX7_moved_108 rfl ?_
            refine z_iadd ok dX7_moved_110 ?_
            refine z_iload ok dX7_moved_111 rfl ?_
            refine z_ifb_eq (tgt := 120) ok dX7_moved_113 (by decide) (fun c113 => ?_) (fun c113 => ?_)
            · -- t
              refine z_iconst ok dX7_moved_120 ?_
              refine z_iadd ok dX7_moved_121 ?_
              exact fin ((((10 * (nb now (s / 10) side)) + (5 * 1)) + (s % 5)) + 0) () 122 _ _ _ dX7_moved_122 (trivial) (by first | exact absurd c113 c73 | exact absurd c73 c113 | (unfold mvd nxt; rw [zif_t ⟨ho, by omega, fun z => by first | exact c73 z.1 | (have := z.2; omega)⟩]; (first | rw [zb_t c73] | rw [zb_f c73]); (try split) <;> omega)) (by decide) (by decide)
            · -- f
              refine z_iconst ok dX7_moved_116 ?_
              refine z_goto (tgt := 121) ok dX7_moved_117 (by decide) ?_
              refine z_iadd ok dX7_moved_121 ?_
              exact fin ((((10 * (nb now (s / 10) side)) + (5 * 1)) + (s % 5)) + 1) () 122 _ _ _ dX7_moved_122 (trivial) (by first | exact absurd c113 c73 | exact absurd c73 c113 | (unfold mvd nxt; rw [zif_t ⟨ho, by omega, fun z => by first | exact c73 z.1 | (have := z.2; omega)⟩]; (first | rw [zb_t c73] | rw [zb_f c73]); (try split) <;> omega)) (by decide) (by decide)
          · -- f
            refine z_iload ok dX7_moved_100 rfl ?_
            refine z_goto (tgt := 106) ok dX7_moved_102 (by decide) ?_
            refine z_imul ok dX7_moved_106 ?_
            refine z_iadd ok dX7_moved_107 ?_
            refine z_iload ok dX7_moved_108 rfl ?_
            refine z_iadd ok dX7_moved_110 ?_
            refine z_iload ok dX7_moved_111 rfl ?_
            refine z_ifb_eq (tgt := 120) ok dX7_moved_113 (by decide) (fun c113 => ?_) (fun c113 => ?_)
            · -- t
              refine z_iconst ok dX7_moved_120 ?_
              refine z_iadd ok dX7_moved_121 ?_
              exact fin ((((10 * (nb now (s / 10) side)) + (5 * ((s / 5) % 2))) + (s % 5)) + 0) () 122 _ _ _ dX7_moved_122 (trivial) (by first | exact absurd c113 c73 | exact absurd c73 c113 | (unfold mvd nxt; rw [zif_t ⟨ho, by omega, fun z => by first | exact c73 z.1 | (have := z.2; omega)⟩]; (first | rw [zb_t c73] | rw [zb_f c73]); (try split) <;> omega)) (by decide) (by decide)
            · -- f
              refine z_iconst ok dX7_moved_116 ?_
              refine z_goto (tgt := 121) ok dX7_moved_117 (by decide) ?_
              refine z_iadd ok dX7_moved_121 ?_
              exact fin ((((10 * (nb now (s / 10) side)) + (5 * ((s / 5) % 2))) + (s % 5)) + 1) () 122 _ _ _ dX7_moved_122 (trivial) (by first | exact absurd c113 c73 | exact absurd c73 c113 | (unfold mvd nxt; rw [zif_t ⟨ho, by omega, fun z => by first | exact c73 z.1 | (have := z.2; omega)⟩]; (first | rw [zb_t c73] | rw [zb_f c73]); (try split) <;> omega)) (by decide) (by decide)
        · -- f
          refine z_iload ok dX7_moved_76 rfl ?_
          refine z_aload_n ok dX7_moved_78 rfl ?_
          refine z_get (v := .ref (q 1)) ok zc7 0 rfl 0 (by decide) qf_RX7_7 rfl rfl dX7_moved_79 ?_
          refine z_iconst ok dX7_moved_82 ?_
          refine z_iald (f := now) ok 1 rfl dX7_moved_83 (by omega) (by decide) ?_
          refine z_icmp_lt (tgt := 90) ok dX7_moved_84 (by decide) (by omega) (by omega) (fun c84 => ?_) (fun c84 => ?_)
          · -- t
            refine z_bipush ok dX7_moved_90 (by decide) ?_
            refine z_iload ok dX7_moved_92 rfl ?_
            refine z_imul ok dX7_moved_94 ?_
            refine z_iconst ok dX7_moved_95 ?_
            refine z_iload_n ok dX7_moved_96 rfl ?_
            refine z_if_ne (tgt := 105) ok dX7_moved_97 (by decide) (by omega) (fun c97 => ?_) (fun c97 => ?_)
            · -- t
              refine z_iconst ok dX7_moved_105 ?_
              refine z_imul ok dX7_moved_106 ?_
              refine z_iadd ok dX7_moved_107 ?_
              refine z_iload ok dX7_moved_108 rfl ?_
              refine z_iadd ok dX7_moved_110 ?_
              refine z_iload ok dX7_moved_111 rfl ?_
              refine z_ifb_eq (tgt := 120) ok dX7_moved_113 (by decide) (fun c113 => ?_) (fun c113 => ?_)
              · -- t
                refine z_iconst ok dX7_moved_120 ?_
                refine z_iadd ok dX7_moved_121 ?_
                exact fin ((((10 * (nb now (s / 10) side)) + (5 * 1)) + (s % 5)) + 0) () 122 _ _ _ dX7_moved_122 (trivial) (by first | exact absurd c113 c73 | exact absurd c73 c113 | (unfold mvd nxt; rw [zif_t ⟨ho, by omega, fun z => by first | exact c73 z.1 | (have := z.2; omega)⟩]; (first | rw [zb_t c73] | rw [zb_f c73]); (try split) <;> omega)) (by decide) (by decide)
              · -- f
                refine z_iconst ok dX7_moved_116 ?_
                refine z_goto (tgt := 121) ok dX7_moved_117 (by decide) ?_
                refine z_iadd ok dX7_moved_121 ?_
                exact fin ((((10 * (nb now (s / 10) side)) + (5 * 1)) + (s % 5)) + 1) () 122 _ _ _ dX7_moved_122 (trivial) (by first | exact absurd c113 c73 | exact absurd c73 c113 | (unfold mvd nxt; rw [zif_t ⟨ho, by omega, fun z => by first | exact c73 z.1 | (have := z.2; omega)⟩]; (first | rw [zb_t c73] | rw [zb_f c73]); (try split) <;> omega)) (by decide) (by decide)
            · -- f
              refine z_iload ok dX7_moved_100 rfl ?_
              refine z_goto (tgt := 106) ok dX7_moved_102 (by decide) ?_
              refine z_imul ok dX7_moved_106 ?_
              refine z_iadd ok dX7_moved_107 ?_
              refine z_iload ok dX7_moved_108 rfl ?_
              refine z_iadd ok dX7_moved_110 ?_
              refine z_iload ok dX7_moved_111 rfl ?_
              refine z_ifb_eq (tgt := 120) ok dX7_moved_113 (by decide) (fun c113 => ?_) (fun c113 => ?_)
              · -- t
                refine z_iconst ok dX7_moved_120 ?_
                refine z_iadd ok dX7_moved_121 ?_
                exact fin ((((10 * (nb now (s / 10) side)) + (5 * ((s / 5) % 2))) + (s % 5)) + 0) () 122 _ _ _ dX7_moved_122 (trivial) (by first | exact absurd c113 c73 | exact absurd c73 c113 | (unfold mvd nxt; rw [zif_t ⟨ho, by omega, fun z => by first | exact c73 z.1 | (have := z.2; omega)⟩]; (first | rw [zb_t c73] | rw [zb_f c73]); (try split) <;> omega)) (by decide) (by decide)
              · -- f
                refine z_iconst ok dX7_moved_116 ?_
                refine z_goto (tgt := 121) ok dX7_moved_117 (by decide) ?_
                refine z_iadd ok dX7_moved_121 ?_
                exact fin ((((10 * (nb now (s / 10) side)) + (5 * ((s / 5) % 2))) + (s % 5)) + 1) () 122 _ _ _ dX7_moved_122 (trivial) (by first | exact absurd c113 c73 | exact absurd c73 c113 | (unfold mvd nxt; rw [zif_t ⟨ho, by omega, fun z => by first | exact c73 z.1 | (have := z.2; omega)⟩]; (first | rw [zb_t c73] | rw [zb_f c73]); (try split) <;> omega)) (by decide) (by decide)
          · -- f
            refine z_bipush ok dX7_moved_87 (by decide) ?_
            exact fin (-6) () 89 _ _ _ dX7_moved_89 (trivial) (by unfold mvd; exact (zif_f (fun z => z.2.2 ⟨c73, by omega⟩)).symm) (by decide) (by decide)
      · -- f
        refine z_iload ok dX7_moved_42 rfl ?_
        refine z_iconst ok dX7_moved_44 ?_
        refine z_icmp_ne (tgt := 51) ok dX7_moved_45 (by decide) (by omega) (by omega) (fun c45 => ?_) (fun c45 => ?_)
        · -- t
          have ho : opn now (s / 10) side := c25
          have hn0 := ho.1
          have hnm := nbm_nn hn0
          refine z_aload_n ok dX7_moved_51 rfl ?_
          refine z_iload ok dX7_moved_52 rfl ?_
          refine z_iload_n ok dX7_moved_54 rfl ?_
          refine z_callVi0 ok (fun l => c_X7_beside  (by omega) (by omega) (by omega) (by omega)) zm_X7_beside zv_X7_beside qm_RX7_63 dX7_moved_55 (by decide) (by decide) rfl rfl (Nat.le_of_ble_eq_true rfl) (q0 := 0) rfl rfl rfl (fun ρ _ hρ => ?_)
          subst hρ
          refine z_eq (ws' := mW Z q now kept hist und sav isv pad sg it far many laid sides stuck ord rd pl wr) rfl ?_
          rw [hnm]
          refine z_istore (lv' := [(7, .int (iI (nb now (s / 10) side))), (6, .int (iI (s % 5))), (5, .int (iI ((s / 5) % 2))), (4, .int (iI (s / 10))), (0, .ref (q 0)), (1, .int (iI s)), (2, .int (iI side)), (3, .int (iI to))]) ok dX7_moved_58 (by decide) rfl ?_
          refine z_aload_n ok dX7_moved_60 rfl ?_
          refine z_iload ok dX7_moved_61 rfl ?_
          refine z_iload ok dX7_moved_63 rfl ?_
          refine z_iload_n ok dX7_moved_65 rfl ?_
          refine z_callVi0 ok (fun l => c_X7_isDetour  (by omega) (by omega) (by omega) (by omega) (by omega)) zm_X7_isDetour zv_X7_isDetour qm_RX7_87 dX7_moved_66 (by decide) (by decide) rfl rfl (Nat.le_of_ble_eq_true rfl) (q0 := 0) rfl rfl rfl (fun ρ _ hρ => ?_)
          subst hρ
          refine z_eq (ws' := mW Z q now kept hist und sav isv pad sg it far many laid sides stuck ord rd pl wr) rfl ?_
          refine z_istore (lv' := [(8, .int (iI (zb (dtr now (s / 10) (nb now (s / 10) side) to)))), (7, .int (iI (nb now (s / 10) side))), (6, .int (iI (s % 5))), (5, .int (iI ((s / 5) % 2))), (4, .int (iI (s / 10))), (0, .ref (q 0)), (1, .int (iI s)), (2, .int (iI side)), (3, .int (iI to))]) ok dX7_moved_69 (by decide) rfl ?_
          refine z_iload ok dX7_moved_71 rfl ?_
          refine z_ifb_eq (tgt := 90) ok dX7_moved_73 (by decide) (fun c73 => ?_) (fun c73 => ?_)
          · -- t
            refine z_bipush ok dX7_moved_90 (by decide) ?_
            refine z_iload ok dX7_moved_92 rfl ?_
            refine z_imul ok dX7_moved_94 ?_
            refine z_iconst ok dX7_moved_95 ?_
            refine z_iload_n ok dX7_moved_96 rfl ?_
            refine z_if_ne (tgt := 105) ok dX7_moved_97 (by decide) (by omega) (fun c97 => ?_) (fun c97 => ?_)
            · -- t
              refine z_iconst ok dX7_moved_105 ?_
              refine z_imul ok dX7_moved_106 ?_
              refine z_iadd ok dX7_moved_107 ?_
              refine z_iload ok dX7_moved_108 rfl ?_
              refine z_iadd ok dX7_moved_110 ?_
              refine z_iload ok dX7_moved_111 rfl ?_
              refine z_ifb_eq (tgt := 120) ok dX7_moved_113 (by decide) (fun c113 => ?_) (fun c113 => ?_)
              · -- t
                refine z_iconst ok dX7_moved_120 ?_
                refine z_iadd ok dX7_moved_121 ?_
                exact fin ((((10 * (nb now (s / 10) side)) + (5 * 1)) + (s % 5)) + 0) () 122 _ _ _ dX7_moved_122 (trivial) (by first | exact absurd c113 c73 | exact absurd c73 c113 | (unfold mvd nxt; rw [zif_t ⟨ho, by omega, fun z => by first | exact c73 z.1 | (have := z.2; omega)⟩]; (first | rw [zb_t c73] | rw [zb_f c73]); (try split) <;> omega)) (by decide) (by decide)
              · -- f
                refine z_iconst ok dX7_moved_116 ?_
                refine z_goto (tgt := 121) ok dX7_moved_117 (by decide) ?_
                refine z_iadd ok dX7_moved_121 ?_
                exact fin ((((10 * (nb now (s / 10) side)) + (5 * 1)) + (s % 5)) + 1) () 122 _ _ _ dX7_moved_122 (trivial) (by first | exact absurd c113 c73 | exact absurd c73 c113 | (unfold mvd nxt; rw [zif_t ⟨ho, by omega, fun z => by first | exact c73 z.1 | (have := z.2; omega)⟩]; (first | rw [zb_t c73] | rw [zb_f c73]); (try split) <;> omega)) (by decide) (by decide)
            · -- f
              refine z_iload ok dX7_moved_100 rfl ?_
              refine z_goto (tgt := 106) ok dX7_moved_102 (by decide) ?_
              refine z_imul ok dX7_moved_106 ?_
              refine z_iadd ok dX7_moved_107 ?_
              refine z_iload ok dX7_moved_108 rfl ?_
              refine z_iadd ok dX7_moved_110 ?_
              refine z_iload ok dX7_moved_111 rfl ?_
              refine z_ifb_eq (tgt := 120) ok dX7_moved_113 (by decide) (fun c113 => ?_) (fun c113 => ?_)
              · -- t
                refine z_iconst ok dX7_moved_120 ?_
                refine z_iadd ok dX7_moved_121 ?_
                exact fin ((((10 * (nb now (s / 10) side)) + (5 * ((s / 5) % 2))) + (s % 5)) + 0) () 122 _ _ _ dX7_moved_122 (trivial) (by first | exact absurd c113 c73 | exact absurd c73 c113 | (unfold mvd nxt; rw [zif_t ⟨ho, by omega, fun z => by first | exact c73 z.1 | (have := z.2; omega)⟩]; (first | rw [zb_t c73] | rw [zb_f c73]); (try split) <;> omega)) (by decide) (by decide)
              · -- f
                refine z_iconst ok dX7_moved_116 ?_
                refine z_goto (tgt := 121) ok dX7_moved_117 (by decide) ?_
                refine z_iadd ok dX7_moved_121 ?_
                exact fin ((((10 * (nb now (s / 10) side)) + (5 * ((s / 5) % 2))) + (s % 5)) + 1) () 122 _ _ _ dX7_moved_122 (trivial) (by first | exact absurd c113 c73 | exact absurd c73 c113 | (unfold mvd nxt; rw [zif_t ⟨ho, by omega, fun z => by first | exact c73 z.1 | (have := z.2; omega)⟩]; (first | rw [zb_t c73] | rw [zb_f c73]); (try split) <;> omega)) (by decide) (by decide)
          · -- f
            refine z_iload ok dX7_moved_76 rfl ?_
            refine z_aload_n ok dX7_moved_78 rfl ?_
            refine z_get (v := .ref (q 1)) ok zc7 0 rfl 0 (by decide) qf_RX7_7 rfl rfl dX7_moved_79 ?_
            refine z_iconst ok dX7_moved_82 ?_
            refine z_iald (f := now) ok 1 rfl dX7_moved_83 (by omega) (by decide) ?_
            refine z_icmp_lt (tgt := 90) ok dX7_moved_84 (by decide) (by omega) (by omega) (fun c84 => ?_) (fun c84 => ?_)
            · -- t
              refine z_bipush ok dX7_moved_90 (by decide) ?_
              refine z_iload ok dX7_moved_92 rfl ?_
              refine z_imul ok dX7_moved_94 ?_
              refine z_iconst ok dX7_moved_95 ?_
              refine z_iload_n ok dX7_moved_96 rfl ?_
              refine z_if_ne (tgt := 105) ok dX7_moved_97 (by decide) (by omega) (fun c97 => ?_) (fun c97 => ?_)
              · -- t
                refine z_iconst ok dX7_moved_105 ?_
                refine z_imul ok dX7_moved_106 ?_
                refine z_iadd ok dX7_moved_107 ?_
                refine z_iload ok dX7_moved_108 rfl ?_
                refine z_iadd ok dX7_moved_110 ?_
                refine z_iload ok dX7_moved_111 rfl ?_
                refine z_ifb_eq (tgt := 120) ok dX7_moved_113 (by decide) (fun c113 => ?_) (fun c113 => ?_)
                · -- t
                  refine z_iconst ok dX7_moved_120 ?_
                  refine z_iadd ok dX7_moved_121 ?_
                  exact fin ((((10 * (nb now (s / 10) side)) + (5 * 1)) + (s % 5)) + 0) () 122 _ _ _ dX7_moved_122 (trivial) (by first | exact absurd c113 c73 | exact absurd c73 c113 | (unfold mvd nxt; rw [zif_t ⟨ho, by omega, fun z => by first | exact c73 z.1 | (have := z.2; omega)⟩]; (first | rw [zb_t c73] | rw [zb_f c73]); (try split) <;> omega)) (by decide) (by decide)
                · -- f
                  refine z_iconst ok dX7_moved_116 ?_
                  refine z_goto (tgt := 121) ok dX7_moved_117 (by decide) ?_
                  refine z_iadd ok dX7_moved_121 ?_
                  exact fin ((((10 * (nb now (s / 10) side)) + (5 * 1)) + (s % 5)) + 1) () 122 _ _ _ dX7_moved_122 (trivial) (by first | exact absurd c113 c73 | exact absurd c73 c113 | (unfold mvd nxt; rw [zif_t ⟨ho, by omega, fun z => by first | exact c73 z.1 | (have := z.2; omega)⟩]; (first | rw [zb_t c73] | rw [zb_f c73]); (try split) <;> omega)) (by decide) (by decide)
              · -- f
                refine z_iload ok dX7_moved_100 rfl ?_
                refine z_goto (tgt := 106) ok dX7_moved_102 (by decide) ?_
                refine z_imul ok dX7_moved_106 ?_
                refine z_iadd ok dX7_moved_107 ?_
                refine z_iload ok dX7_moved_108 rfl ?_
                refine z_iadd ok dX7_moved_110 ?_
                refine z_iload ok dX7_moved_111 rfl ?_
                refine z_ifb_eq (tgt := 120) ok dX7_moved_113 (by decide) (fun c113 => ?_) (fun c113 => ?_)
                · -- t
                  refine z_iconst ok dX7_moved_120 ?_
                  refine z_iadd ok dX7_moved_121 ?_
                  exact fin ((((10 * (nb now (s / 10) side)) + (5 * ((s / 5) % 2))) + (s % 5)) + 0) () 122 _ _ _ dX7_moved_122 (trivial) (by first | exact absurd c113 c73 | exact absurd c73 c113 | (unfold mvd nxt; rw [zif_t ⟨ho, by omega, fun z => by first | exact c73 z.1 | (have := z.2; omega)⟩]; (first | rw [zb_t c73] | rw [zb_f c73]); (try split) <;> omega)) (by decide) (by decide)
                · -- f
                  refine z_iconst ok dX7_moved_116 ?_
                  refine z_goto (tgt := 121) ok dX7_moved_117 (by decide) ?_
                  refine z_iadd ok dX7_moved_121 ?_
                  exact fin ((((10 * (nb now (s / 10) side)) + (5 * ((s / 5) % 2))) + (s % 5)) + 1) () 122 _ _ _ dX7_moved_122 (trivial) (by first | exact absurd c113 c73 | exact absurd c73 c113 | (unfold mvd nxt; rw [zif_t ⟨ho, by omega, fun z => by first | exact c73 z.1 | (have := z.2; omega)⟩]; (first | rw [zb_t c73] | rw [zb_f c73]); (try split) <;> omega)) (by decide) (by decide)
            · -- f
              refine z_bipush ok dX7_moved_87 (by decide) ?_
              exact fin (-6) () 89 _ _ _ dX7_moved_89 (trivial) (by unfold mvd; exact (zif_f (fun z => z.2.2 ⟨c73, by omega⟩)).symm) (by decide) (by decide)
        · -- f
          refine z_bipush ok dX7_moved_48 (by decide) ?_
          exact fin (-6) () 50 _ _ _ dX7_moved_50 (trivial) (by unfold mvd; exact (zif_f (fun z => by first | exact c25 z.1 | exact z.2.1 ⟨by omega, by omega, by omega⟩)).symm) (by decide) (by decide)
set_option maxRecDepth 20000 in
theorem c_X7_of {l : Launch} {Z : zZ} {q : Nat → Nat} {now kept hist : Int → Int} {und : Int} {sav isv pad : Int → Int} {sg it : Int} {far many laid sides stuck ord : Int → Int} {rd pl wr : Int} {p j : Int} (hp : 0 ≤ p ∧ p < 40) (hj : 0 ≤ j ∧ j ≤ 9) : zI (T := Unit) l yX7_of (Cond.code yX7_of cX7_of 3 (some .int) :: wsL_law) ({ frames := 0, cells := 0, slots := 0, locals := 0 } : Room) Z [.ref (q 0), .int (iI p), .int (iI j)] (mW Z q now kept hist und sav isv pad sg it far many laid sides stuck ord rd pl wr) (fun _ => mW Z q now kept hist und sav isv pad sg it far many laid sides stuck ord rd pl wr) (fun ρ _ => ρ = pk now p j) := by
  refine zI_of (C := RX7) (by decide +kernel) rfl (Nat.le_of_ble_eq_true rfl) (fun _ => True) znI (fun X ok fin => ?_)
  refine z_lsub ok (lv' := [(0, .ref (q 0)), (1, .int (iI p)), (2, .int (iI j))]) [0, 1, 2] rfl ?_
  refine z_aload_n ok dX7_of_0 rfl ?_
  refine z_get (v := .ref (q 1)) ok zc7 0 rfl 0 (by decide) qf_RX7_7 rfl rfl dX7_of_1 ?_
  refine z_sipush ok dX7_of_4 (by decide) ?_
  refine z_bipush ok dX7_of_7 (by decide) ?_
  refine z_iload_n ok dX7_of_9 rfl ?_
  refine z_imul ok dX7_of_10 ?_
  refine z_iadd ok dX7_of_11 ?_
  refine z_iload_n ok dX7_of_12 rfl ?_
  refine z_iadd ok dX7_of_13 ?_
  refine z_iald (f := now) ok 1 rfl dX7_of_14 (by omega) (by decide) ?_
  exact fin (now ((160 + (10 * p)) + j)) () 15 _ _ _ dX7_of_15 (trivial) (rfl) (by decide) (by decide)
set_option maxRecDepth 20000 in
theorem c_X7_book {l : Launch} {Z : zZ} {q : Nat → Nat} {now kept hist : Int → Int} {und : Int} {sav isv pad : Int → Int} {sg it : Int} {far many laid sides stuck ord : Int → Int} {rd pl wr : Int} {p j v : Int} (hp : 0 ≤ p ∧ p < 40) (hj : 0 ≤ j ∧ j ≤ 9) : zN (T := Unit) l yX7_book (Cond.code yX7_book cX7_book 4 none :: wsL_law) ({ frames := 0, cells := 0, slots := 0, locals := 0 } : Room) Z [.ref (q 0), .int (iI p), .int (iI j), .int (iI v)] (mW Z q now kept hist und sav isv pad sg it far many laid sides stuck ord rd pl wr) (fun _ => mW Z q (bk now p j v) kept hist und sav isv pad sg it far many laid sides stuck ord rd pl wr) (fun _ => True) := by
  refine zN_of (C := RX7) (by decide +kernel) rfl (Nat.le_of_ble_eq_true rfl) (fun X ok fin => ?_)
  refine z_lsub ok (lv' := [(0, .ref (q 0)), (1, .int (iI p)), (2, .int (iI j)), (3, .int (iI v))]) [0, 1, 2, 3] rfl ?_
  refine z_aload_n ok dX7_book_0 rfl ?_
  refine z_get (v := .ref (q 1)) ok zc7 0 rfl 0 (by decide) qf_RX7_7 rfl rfl dX7_book_1 ?_
  refine z_sipush ok dX7_book_4 (by decide) ?_
  refine z_bipush ok dX7_book_7 (by decide) ?_
  refine z_iload_n ok dX7_book_9 rfl ?_
  refine z_imul ok dX7_book_10 ?_
  refine z_iadd ok dX7_book_11 ?_
  refine z_iload_n ok dX7_book_12 rfl ?_
  refine z_iadd ok dX7_book_13 ?_
  refine z_iload_n ok dX7_book_14 rfl ?_
  refine z_iast (f := now) (v := v) (ws' := mW Z q (zu now ((160 + (10 * p)) + j) v) kept hist und sav isv pad sg it far many laid sides stuck ord rd pl wr) ok 1 rfl dX7_book_15 (by omega) (by decide) rfl ?_
  exact fin () 16 _ _ _ dX7_book_16 (trivial) (by decide) (by decide)
set_option maxRecDepth 20000 in
theorem c_X7_standing {l : Launch} {Z : zZ} {q : Nat → Nat} {now kept hist : Int → Int} {und : Int} {sav isv pad : Int → Int} {sg it : Int} {far many laid sides stuck ord : Int → Int} {rd pl wr : Int} {p : Int} (hp : 0 ≤ p ∧ p < 40) : zI (T := Unit) l yX7_standing (Cond.code yX7_standing cX7_standing 2 (some .int) :: wsL_law) ({ frames := 1, cells := 0, slots := 0, locals := 22 } : Room) Z [.ref (q 0), .int (iI p)] (mW Z q now kept hist und sav isv pad sg it far many laid sides stuck ord rd pl wr) (fun _ => mW Z q now kept hist und sav isv pad sg it far many laid sides stuck ord rd pl wr) (fun ρ _ => ρ = stg now p) := by
  refine zI_of (C := RX7) (by decide +kernel) rfl (Nat.le_of_ble_eq_true rfl) (fun _ => True) znI (fun X ok fin => ?_)
  refine z_lsub ok (lv' := [(0, .ref (q 0)), (1, .int (iI p))]) [0, 1] rfl ?_
  refine z_bipush ok dX7_standing_0 (by decide) ?_
  refine z_aload_n ok dX7_standing_2 rfl ?_
  refine z_iload_n ok dX7_standing_3 rfl ?_
  refine z_iconst ok dX7_standing_4 ?_
  refine z_callVi0 ok (fun l => c_X7_of  (by omega) (by omega)) zm_X7_of zv_X7_of qm_RX7_98 dX7_standing_5 (by decide) (by decide) rfl rfl (Nat.le_of_ble_eq_true rfl) (q0 := 0) rfl rfl rfl (fun ρ _ hρ => ?_)
  subst hρ
  refine z_eq (ws' := mW Z q now kept hist und sav isv pad sg it far many laid sides stuck ord rd pl wr) rfl ?_
  refine z_imul ok dX7_standing_8 ?_
  refine z_iconst ok dX7_standing_9 ?_
  refine z_aload_n ok dX7_standing_10 rfl ?_
  refine z_iload_n ok dX7_standing_11 rfl ?_
  refine z_bipush ok dX7_standing_12 (by decide) ?_
  refine z_callVi0 ok (fun l => c_X7_of  (by omega) (by omega)) zm_X7_of zv_X7_of qm_RX7_98 dX7_standing_14 (by decide) (by decide) rfl rfl (Nat.le_of_ble_eq_true rfl) (q0 := 0) rfl rfl rfl (fun ρ _ hρ => ?_)
  subst hρ
  refine z_eq (ws' := mW Z q now kept hist und sav isv pad sg it far many laid sides stuck ord rd pl wr) rfl ?_
  refine z_imul ok dX7_standing_17 ?_
  refine z_iadd ok dX7_standing_18 ?_
  refine z_aload_n ok dX7_standing_19 rfl ?_
  refine z_iload_n ok dX7_standing_20 rfl ?_
  refine z_iconst ok dX7_standing_21 ?_
  refine z_callVi0 ok (fun l => c_X7_of  (by omega) (by omega)) zm_X7_of zv_X7_of qm_RX7_98 dX7_standing_22 (by decide) (by decide) rfl rfl (Nat.le_of_ble_eq_true rfl) (q0 := 0) rfl rfl rfl (fun ρ _ hρ => ?_)
  subst hρ
  refine z_eq (ws' := mW Z q now kept hist und sav isv pad sg it far many laid sides stuck ord rd pl wr) rfl ?_
  refine z_iadd ok dX7_standing_25 ?_
  exact fin (((10 * (pk now p 3)) + (5 * (pk now p 9))) + (pk now p 5)) () 26 _ _ _ dX7_standing_26 (trivial) (rfl) (by decide) (by decide)
set_option maxRecDepth 20000 in
theorem c_X7_isPacket {l : Launch} {Z : zZ} {q : Nat → Nat} {now kept hist : Int → Int} {und : Int} {sav isv pad : Int → Int} {sg it : Int} {far many laid sides stuck ord : Int → Int} {rd pl wr : Int} {p : Int} (h6 : 0 ≤ now 6 ∧ now 6 ≤ 40) (hp : -2147483648 ≤ p ∧ p < 2147483648) : zI (T := Unit) l yX7_isPacket (Cond.code yX7_isPacket cX7_isPacket 2 (some .boolean) :: wsL_law) ({ frames := 1, cells := 0, slots := 0, locals := 22 } : Room) Z [.ref (q 0), .int (iI p)] (mW Z q now kept hist und sav isv pad sg it far many laid sides stuck ord rd pl wr) (fun _ => mW Z q now kept hist und sav isv pad sg it far many laid sides stuck ord rd pl wr) (fun ρ _ => ρ = zb (0 ≤ p ∧ p < now 6)) := by
  refine zI_of (C := RX7) (by decide +kernel) rfl (Nat.le_of_ble_eq_true rfl) (fun ρ => ρ = 0 ∨ ρ = 1) znZ (fun X ok fin => ?_)
  refine z_lsub ok (lv' := [(0, .ref (q 0)), (1, .int (iI p))]) [0, 1] rfl ?_
  refine z_iload_n ok dX7_isPacket_0 rfl ?_
  refine z_iconst ok dX7_isPacket_1 ?_
  refine z_aload_n ok dX7_isPacket_2 rfl ?_
  refine z_get (v := .ref (q 1)) ok zc7 0 rfl 0 (by decide) qf_RX7_7 rfl rfl dX7_isPacket_3 ?_
  refine z_bipush ok dX7_isPacket_6 (by decide) ?_
  refine z_iald (f := now) ok 1 rfl dX7_isPacket_8 (by omega) (by decide) ?_
  refine z_iconst ok dX7_isPacket_9 ?_
  refine z_isub ok dX7_isPacket_10 ?_
  refine z_callSie ok (fun l => c_X7_in  (by omega) (by omega) (by omega)) zm_X7_in qt_X7_in qm_RX7_59 dX7_isPacket_11 (by decide) (by decide) rfl rfl (Nat.le_of_ble_eq_true rfl) (fun ρ _ hρ => ?_)
  subst hρ
  exact fin (zb (0 ≤ p ∧ p ≤ ((now 6) - 1))) () 14 _ _ _ dX7_isPacket_14 (by first | decide | exact zb_01 _ | omega) (zb_cong (by omega)) (by decide) (by decide)
set_option maxRecDepth 20000 in
theorem c_X7_insideOf {l : Launch} {Z : zZ} {q : Nat → Nat} {now kept hist : Int → Int} {und : Int} {sav isv pad : Int → Int} {sg it : Int} {far many laid sides stuck ord : Int → Int} {rd pl wr : Int} {box : Int} (hw : wf now) (hb : -2147483648 ≤ box ∧ box < 2147483648) : zI (T := Unit) l yX7_insideOf (Cond.code yX7_insideOf cX7_insideOf 4 (some .int) :: wsL_law) ({ frames := 1, cells := 0, slots := 0, locals := 22 } : Room) Z [.ref (q 0), .int (iI box)] (mW Z q now kept hist und sav isv pad sg it far many laid sides stuck ord rd pl wr) (fun _ => mW Z q now kept hist und sav isv pad sg it far many laid sides stuck ord rd pl wr) (fun ρ _ => ρ = ins now box) := by
  refine zI_of (C := RX7) (by decide +kernel) rfl (Nat.le_of_ble_eq_true rfl) (fun _ => True) znI (fun X ok fin => ?_)
  obtain ⟨w0, w1, w2, hc, hr, w6, wl, wp⟩ := id hw
  have hcr := cr_rng hc hr
  refine z_lsub ok (lv' := [(0, .ref (q 0)), (1, .int (iI box))]) [0, 1] rfl ?_
  refine z_iconst ok dX7_insideOf_0 ?_
  refine z_istore_n (lv' := [(2, .int (iI 0)), (0, .ref (q 0)), (1, .int (iI box))]) ok dX7_insideOf_1 (by decide) rfl ?_
  refine z_iconst ok dX7_insideOf_2 ?_
  refine z_istore_n (lv' := [(3, .int (iI 0)), (2, .int (iI 0)), (0, .ref (q 0)), (1, .int (iI box))]) ok dX7_insideOf_3 (by decide) rfl ?_
  have L4 : ∀ (fuel : Nat) (i n : Int), 0 ≤ i → i ≤ now 6 → n = zS (insf now box) i.toNat → (now 6 - i).toNat < fuel → zV X 0 0 (mW Z q now kept hist und sav isv pad sg it far many laid sides stuck ord rd pl wr) 4 [(0, .ref (q 0)), (1, .int (iI box)), (2, .int (iI n)), (3, .int (iI i))] [] := by
    intro fuel
    induction fuel with
    | zero => intro i n h4_0 h4_1 h4_2 hf; exact absurd hf (Nat.not_lt_zero _)
    | succ fuel ih4 =>
      intro i n h4_0 h4_1 h4_2 hf
      refine z_iload_n ok dX7_insideOf_4 rfl ?_
      refine z_aload_n ok dX7_insideOf_5 rfl ?_
      refine z_get (v := .ref (q 1)) ok zc7 0 rfl 0 (by decide) qf_RX7_7 rfl rfl dX7_insideOf_6 ?_
      refine z_bipush ok dX7_insideOf_9 (by decide) ?_
      refine z_iald (f := now) ok 1 rfl dX7_insideOf_11 (by omega) (by decide) ?_
      refine z_icmp_ge (tgt := 49) ok dX7_insideOf_12 (by decide) (by omega) (by omega) (fun c12 => ?_) (fun c12 => ?_)
      · -- t
        refine z_iload_n ok dX7_insideOf_49 rfl ?_
        exact fin n () 50 _ _ _ dX7_insideOf_50 (trivial) (by rw [h4_2, show i = now 6 by omega]; rfl) (by decide) (by decide)
      · -- f
        have wpi := wp i (by omega) (by omega)
        refine z_iload_n ok dX7_insideOf_15 rfl ?_
        refine z_aload_n ok dX7_insideOf_16 rfl ?_
        refine z_iload_n ok dX7_insideOf_17 rfl ?_
        refine z_iconst ok dX7_insideOf_18 ?_
        refine z_callVi0 ok (fun l => c_X7_of  (by omega) (by omega)) zm_X7_of zv_X7_of qm_RX7_98 dX7_insideOf_19 (by decide) (by decide) rfl rfl (Nat.le_of_ble_eq_true rfl) (q0 := 0) rfl rfl rfl (fun ρ _ hρ => ?_)
        subst hρ
        refine z_eq (ws' := mW Z q now kept hist und sav isv pad sg it far many laid sides stuck ord rd pl wr) rfl ?_
        refine z_iconst ok dX7_insideOf_22 ?_
        refine z_icmp_ne (tgt := 40) ok dX7_insideOf_23 (by decide) (by omega) (by omega) (fun c23 => ?_) (fun c23 => ?_)
        · -- t
          refine z_iconst ok dX7_insideOf_40 ?_
          refine z_iadd ok dX7_insideOf_41 ?_
          refine z_istore_n (lv' := [(2, .int (iI (n + 0))), (0, .ref (q 0)), (1, .int (iI box)), (3, .int (iI i))]) ok dX7_insideOf_42 (by decide) rfl ?_
          refine z_iinc (lv' := [(3, .int (iI (i + 1))), (2, .int (iI (n + 0))), (0, .ref (q 0)), (1, .int (iI box))]) ok dX7_insideOf_43 3 rfl (by decide) rfl ?_
          refine z_goto (tgt := 4) ok dX7_insideOf_46 (by decide) ?_
          refine z_lsub ok (lv' := [(0, .ref (q 0)), (1, .int (iI box)), (2, .int (iI (n + 0))), (3, .int (iI (i + 1)))]) [2, 3, 1, 0] rfl ?_
          exact ih4 _ _ (by omega) (by omega) (by rw [zS_s (by omega)]; first | (rw [show insf now box i = 1 from zb_t (by omega)]; omega) | (rw [show insf now box i = 0 from zb_f (by omega)]; omega)) (by omega)
        · -- f
          refine z_aload_n ok dX7_insideOf_26 rfl ?_
          refine z_iload_n ok dX7_insideOf_27 rfl ?_
          refine z_iconst ok dX7_insideOf_28 ?_
          refine z_callVi0 ok (fun l => c_X7_of  (by omega) (by omega)) zm_X7_of zv_X7_of qm_RX7_98 dX7_insideOf_29 (by decide) (by decide) rfl rfl (Nat.le_of_ble_eq_true rfl) (q0 := 0) rfl rfl rfl (fun ρ _ hρ => ?_)
          subst hρ
          refine z_eq (ws' := mW Z q now kept hist und sav isv pad sg it far many laid sides stuck ord rd pl wr) rfl ?_
          refine z_iload_n ok dX7_insideOf_32 rfl ?_
          refine z_icmp_ne (tgt := 40) ok dX7_insideOf_33 (by decide) (by omega) (by omega) (fun c33 => ?_) (fun c33 => ?_)
          · -- t
            refine z_iconst ok dX7_insideOf_40 ?_
            refine z_iadd ok dX7_insideOf_41 ?_
            refine z_istore_n (lv' := [(2, .int (iI (n + 0))), (0, .ref (q 0)), (1, .int (iI box)), (3, .int (iI i))]) ok dX7_insideOf_42 (by decide) rfl ?_
            refine z_iinc (lv' := [(3, .int (iI (i + 1))), (2, .int (iI (n + 0))), (0, .ref (q 0)), (1, .int (iI box))]) ok dX7_insideOf_43 3 rfl (by decide) rfl ?_
            refine z_goto (tgt := 4) ok dX7_insideOf_46 (by decide) ?_
            refine z_lsub ok (lv' := [(0, .ref (q 0)), (1, .int (iI box)), (2, .int (iI (n + 0))), (3, .int (iI (i + 1)))]) [2, 3, 1, 0] rfl ?_
            exact ih4 _ _ (by omega) (by omega) (by rw [zS_s (by omega)]; first | (rw [show insf now box i = 1 from zb_t (by omega)]; omega) | (rw [show insf now box i = 0 from zb_f (by omega)]; omega)) (by omega)
          · -- f
            refine z_iconst ok dX7_insideOf_36 ?_
            refine z_goto (tgt := 41) ok dX7_insideOf_37 (by decide) ?_
            refine z_iadd ok dX7_insideOf_41 ?_
            refine z_istore_n (lv' := [(2, .int (iI (n + 1))), (0, .ref (q 0)), (1, .int (iI box)), (3, .int (iI i))]) ok dX7_insideOf_42 (by decide) rfl ?_
            refine z_iinc (lv' := [(3, .int (iI (i + 1))), (2, .int (iI (n + 1))), (0, .ref (q 0)), (1, .int (iI box))]) ok dX7_insideOf_43 3 rfl (by decide) rfl ?_
            refine z_goto (tgt := 4) ok dX7_insideOf_46 (by decide) ?_
            refine z_lsub ok (lv' := [(0, .ref (q 0)), (1, .int (iI box)), (2, .int (iI (n + 1))), (3, .int (iI (i + 1)))]) [2, 3, 1, 0] rfl ?_
            exact ih4 _ _ (by omega) (by omega) (by rw [zS_s (by omega)]; first | (rw [show insf now box i = 1 from zb_t (by omega)]; omega) | (rw [show insf now box i = 0 from zb_f (by omega)]; omega)) (by omega)
  refine z_lsub ok (lv' := [(0, .ref (q 0)), (1, .int (iI box)), (2, .int (iI 0)), (3, .int (iI 0))]) [2, 3, 1, 0] rfl ?_
  exact L4 _ _ _ (by omega) (by omega) (rfl) (Nat.lt_succ_self _)
set_option maxRecDepth 20000 in
theorem c_X7_hasRoom {l : Launch} {Z : zZ} {q : Nat → Nat} {now kept hist : Int → Int} {und : Int} {sav isv pad : Int → Int} {sg it : Int} {far many laid sides stuck ord : Int → Int} {rd pl wr : Int} {box : Int} (hw : wf now) (hb : -2147483648 ≤ box ∧ box < 2147483648) : zI (T := Unit) l yX7_hasRoom (Cond.code yX7_hasRoom cX7_hasRoom 2 (some .boolean) :: wsL_law) ({ frames := 2, cells := 0, slots := 0, locals := 45 } : Room) Z [.ref (q 0), .int (iI box)] (mW Z q now kept hist und sav isv pad sg it far many laid sides stuck ord rd pl wr) (fun _ => mW Z q now kept hist und sav isv pad sg it far many laid sides stuck ord rd pl wr) (fun ρ _ => ρ = zb (ins now box < now 2)) := by
  refine zI_of (C := RX7) (by decide +kernel) rfl (Nat.le_of_ble_eq_true rfl) (fun ρ => ρ = 0 ∨ ρ = 1) znZ (fun X ok fin => ?_)
  obtain ⟨w0, w1, w2, hc, hr, w6, wl, wp⟩ := id hw
  have hcr := cr_rng hc hr
  have hin := ins_rng (b := box) hw
  refine z_lsub ok (lv' := [(0, .ref (q 0)), (1, .int (iI box))]) [0, 1] rfl ?_
  refine z_aload_n ok dX7_hasRoom_0 rfl ?_
  refine z_iload_n ok dX7_hasRoom_1 rfl ?_
  refine z_callVi0 ok (fun l => c_X7_insideOf  (hw) (hb)) zm_X7_insideOf zv_X7_insideOf qm_RX7_108 dX7_hasRoom_2 (by decide) (by decide) rfl rfl (Nat.le_of_ble_eq_true rfl) (q0 := 0) rfl rfl rfl (fun ρ _ hρ => ?_)
  subst hρ
  refine z_eq (ws' := mW Z q now kept hist und sav isv pad sg it far many laid sides stuck ord rd pl wr) rfl ?_
  refine z_aload_n ok dX7_hasRoom_5 rfl ?_
  refine z_get (v := .ref (q 1)) ok zc7 0 rfl 0 (by decide) qf_RX7_7 rfl rfl dX7_hasRoom_6 ?_
  refine z_iconst ok dX7_hasRoom_9 ?_
  refine z_iald (f := now) ok 1 rfl dX7_hasRoom_10 (by omega) (by decide) ?_
  refine z_icmp_ge (tgt := 18) ok dX7_hasRoom_11 (by decide) (by omega) (by omega) (fun c11 => ?_) (fun c11 => ?_)
  · -- t
    refine z_iconst ok dX7_hasRoom_18 ?_
    exact fin 0 () 19 _ _ _ dX7_hasRoom_19 (by first | decide | exact zb_01 _ | omega) (by first | exact (zb_t (by omega)).symm | exact (zb_f (by omega)).symm) (by decide) (by decide)
  · -- f
    refine z_iconst ok dX7_hasRoom_14 ?_
    refine z_goto (tgt := 19) ok dX7_hasRoom_15 (by decide) ?_
    exact fin 1 () 19 _ _ _ dX7_hasRoom_19 (by first | decide | exact zb_01 _ | omega) (by first | exact (zb_t (by omega)).symm | exact (zb_f (by omega)).symm) (by decide) (by decide)
set_option maxRecDepth 20000 in
theorem c_X7_packetsOf {l : Launch} {Z : zZ} {q : Nat → Nat} {now kept hist : Int → Int} {und : Int} {sav isv pad : Int → Int} {sg it : Int} {far many laid sides stuck ord : Int → Int} {rd pl wr : Int} {box t : Int} (hw : wf now) (hb : -2147483648 ≤ box ∧ box < 2147483648) (ht : -2147483648 ≤ t ∧ t < 2147483648) : zI (T := Unit) l yX7_packetsOf (Cond.code yX7_packetsOf cX7_packetsOf 5 (some .int) :: wsL_law) ({ frames := 1, cells := 0, slots := 0, locals := 22 } : Room) Z [.ref (q 0), .int (iI box), .int (iI t)] (mW Z q now kept hist und sav isv pad sg it far many laid sides stuck ord rd pl wr) (fun _ => mW Z q now kept hist und sav isv pad sg it far many laid sides stuck ord rd pl wr) (fun ρ _ => ρ = cnt now box t) := by
  refine zI_of (C := RX7) (by decide +kernel) rfl (Nat.le_of_ble_eq_true rfl) (fun _ => True) znI (fun X ok fin => ?_)
  obtain ⟨w0, w1, w2, hc, hr, w6, wl, wp⟩ := id hw
  have hcr := cr_rng hc hr
  refine z_lsub ok (lv' := [(0, .ref (q 0)), (1, .int (iI box)), (2, .int (iI t))]) [0, 1, 2] rfl ?_
  refine z_iconst ok dX7_packetsOf_0 ?_
  refine z_istore_n (lv' := [(3, .int (iI 0)), (0, .ref (q 0)), (1, .int (iI box)), (2, .int (iI t))]) ok dX7_packetsOf_1 (by decide) rfl ?_
  refine z_iconst ok dX7_packetsOf_2 ?_
  refine z_istore (lv' := [(4, .int (iI 0)), (3, .int (iI 0)), (0, .ref (q 0)), (1, .int (iI box)), (2, .int (iI t))]) ok dX7_packetsOf_3 (by decide) rfl ?_
  have L5 : ∀ (fuel : Nat) (i n : Int), 0 ≤ i → i ≤ now 6 → n = zS (cntf now box t) i.toNat → (now 6 - i).toNat < fuel → zV X 0 0 (mW Z q now kept hist und sav isv pad sg it far many laid sides stuck ord rd pl wr) 5 [(0, .ref (q 0)), (1, .int (iI box)), (2, .int (iI t)), (3, .int (iI n)), (4, .int (iI i))] [] := by
    intro fuel
    induction fuel with
    | zero => intro i n h5_0 h5_1 h5_2 hf; exact absurd hf (Nat.not_lt_zero _)
    | succ fuel ih5 =>
      intro i n h5_0 h5_1 h5_2 hf
      refine z_iload ok dX7_packetsOf_5 rfl ?_
      refine z_aload_n ok dX7_packetsOf_7 rfl ?_
      refine z_get (v := .ref (q 1)) ok zc7 0 rfl 0 (by decide) qf_RX7_7 rfl rfl dX7_packetsOf_8 ?_
      refine z_bipush ok dX7_packetsOf_11 (by decide) ?_
      refine z_iald (f := now) ok 1 rfl dX7_packetsOf_13 (by omega) (by decide) ?_
      refine z_icmp_ge (tgt := 57) ok dX7_packetsOf_14 (by decide) (by omega) (by omega) (fun c14 => ?_) (fun c14 => ?_)
      · -- t
        refine z_iload_n ok dX7_packetsOf_57 rfl ?_
        exact fin n () 58 _ _ _ dX7_packetsOf_58 (trivial) (by rw [h5_2, show i = now 6 by omega]; rfl) (by decide) (by decide)
      · -- f
        have wpi := wp i (by omega) (by omega)
        refine z_iload_n ok dX7_packetsOf_17 rfl ?_
        refine z_aload_n ok dX7_packetsOf_18 rfl ?_
        refine z_iload ok dX7_packetsOf_19 rfl ?_
        refine z_iconst ok dX7_packetsOf_21 ?_
        refine z_callVi0 ok (fun l => c_X7_of  (by omega) (by omega)) zm_X7_of zv_X7_of qm_RX7_98 dX7_packetsOf_22 (by decide) (by decide) rfl rfl (Nat.le_of_ble_eq_true rfl) (q0 := 0) rfl rfl rfl (fun ρ _ hρ => ?_)
        subst hρ
        refine z_eq (ws' := mW Z q now kept hist und sav isv pad sg it far many laid sides stuck ord rd pl wr) rfl ?_
        refine z_iload_n ok dX7_packetsOf_25 rfl ?_
        refine z_icmp_ne (tgt := 48) ok dX7_packetsOf_26 (by decide) (by omega) (by omega) (fun c26 => ?_) (fun c26 => ?_)
        · -- t
          refine z_iconst ok dX7_packetsOf_48 ?_
          refine z_iadd ok dX7_packetsOf_49 ?_
          refine z_istore_n (lv' := [(3, .int (iI (n + 0))), (0, .ref (q 0)), (1, .int (iI box)), (2, .int (iI t)), (4, .int (iI i))]) ok dX7_packetsOf_50 (by decide) rfl ?_
          refine z_iinc (lv' := [(4, .int (iI (i + 1))), (3, .int (iI (n + 0))), (0, .ref (q 0)), (1, .int (iI box)), (2, .int (iI t))]) ok dX7_packetsOf_51 4 rfl (by decide) rfl ?_
          refine z_goto (tgt := 5) ok dX7_packetsOf_54 (by decide) ?_
          refine z_lsub ok (lv' := [(0, .ref (q 0)), (1, .int (iI box)), (2, .int (iI t)), (3, .int (iI (n + 0))), (4, .int (iI (i + 1)))]) [2, 3, 4, 1, 0] rfl ?_
          exact ih5 _ _ (by omega) (by omega) (by rw [zS_s (by omega)]; first | (rw [show cntf now box t i = 1 from zb_t (by omega)]; omega) | (rw [show cntf now box t i = 0 from zb_f (by omega)]; omega)) (by omega)
        · -- f
          refine z_iload_n ok dX7_packetsOf_29 rfl ?_
          refine z_if_lt (tgt := 44) ok dX7_packetsOf_30 (by decide) (by omega) (fun c30 => ?_) (fun c30 => ?_)
          · -- t
            refine z_iconst ok dX7_packetsOf_44 ?_
            refine z_goto (tgt := 49) ok dX7_packetsOf_45 (by decide) ?_
            refine z_iadd ok dX7_packetsOf_49 ?_
            refine z_istore_n (lv' := [(3, .int (iI (n + 1))), (0, .ref (q 0)), (1, .int (iI box)), (2, .int (iI t)), (4, .int (iI i))]) ok dX7_packetsOf_50 (by decide) rfl ?_
            refine z_iinc (lv' := [(4, .int (iI (i + 1))), (3, .int (iI (n + 1))), (0, .ref (q 0)), (1, .int (iI box)), (2, .int (iI t))]) ok dX7_packetsOf_51 4 rfl (by decide) rfl ?_
            refine z_goto (tgt := 5) ok dX7_packetsOf_54 (by decide) ?_
            refine z_lsub ok (lv' := [(0, .ref (q 0)), (1, .int (iI box)), (2, .int (iI t)), (3, .int (iI (n + 1))), (4, .int (iI (i + 1)))]) [2, 3, 4, 1, 0] rfl ?_
            exact ih5 _ _ (by omega) (by omega) (by rw [zS_s (by omega)]; first | (rw [show cntf now box t i = 1 from zb_t (by omega)]; omega) | (rw [show cntf now box t i = 0 from zb_f (by omega)]; omega)) (by omega)
          · -- f
            refine z_aload_n ok dX7_packetsOf_33 rfl ?_
            refine z_iload ok dX7_packetsOf_34 rfl ?_
            refine z_iconst ok dX7_packetsOf_36 ?_
            refine z_callVi0 ok (fun l => c_X7_of  (by omega) (by omega)) zm_X7_of zv_X7_of qm_RX7_98 dX7_packetsOf_37 (by decide) (by decide) rfl rfl (Nat.le_of_ble_eq_true rfl) (q0 := 0) rfl rfl rfl (fun ρ _ hρ => ?_)
            subst hρ
            refine z_eq (ws' := mW Z q now kept hist und sav isv pad sg it far many laid sides stuck ord rd pl wr) rfl ?_
            refine z_iload_n ok dX7_packetsOf_40 rfl ?_
            refine z_icmp_ne (tgt := 48) ok dX7_packetsOf_41 (by decide) (by omega) (by omega) (fun c41 => ?_) (fun c41 => ?_)
            · -- t
              refine z_iconst ok dX7_packetsOf_48 ?_
              refine z_iadd ok dX7_packetsOf_49 ?_
              refine z_istore_n (lv' := [(3, .int (iI (n + 0))), (0, .ref (q 0)), (1, .int (iI box)), (2, .int (iI t)), (4, .int (iI i))]) ok dX7_packetsOf_50 (by decide) rfl ?_
              refine z_iinc (lv' := [(4, .int (iI (i + 1))), (3, .int (iI (n + 0))), (0, .ref (q 0)), (1, .int (iI box)), (2, .int (iI t))]) ok dX7_packetsOf_51 4 rfl (by decide) rfl ?_
              refine z_goto (tgt := 5) ok dX7_packetsOf_54 (by decide) ?_
              refine z_lsub ok (lv' := [(0, .ref (q 0)), (1, .int (iI box)), (2, .int (iI t)), (3, .int (iI (n + 0))), (4, .int (iI (i + 1)))]) [2, 3, 4, 1, 0] rfl ?_
              exact ih5 _ _ (by omega) (by omega) (by rw [zS_s (by omega)]; first | (rw [show cntf now box t i = 1 from zb_t (by omega)]; omega) | (rw [show cntf now box t i = 0 from zb_f (by omega)]; omega)) (by omega)
            · -- f
              refine z_iconst ok dX7_packetsOf_44 ?_
              refine z_goto (tgt := 49) ok dX7_packetsOf_45 (by decide) ?_
              refine z_iadd ok dX7_packetsOf_49 ?_
              refine z_istore_n (lv' := [(3, .int (iI (n + 1))), (0, .ref (q 0)), (1, .int (iI box)), (2, .int (iI t)), (4, .int (iI i))]) ok dX7_packetsOf_50 (by decide) rfl ?_
              refine z_iinc (lv' := [(4, .int (iI (i + 1))), (3, .int (iI (n + 1))), (0, .ref (q 0)), (1, .int (iI box)), (2, .int (iI t))]) ok dX7_packetsOf_51 4 rfl (by decide) rfl ?_
              refine z_goto (tgt := 5) ok dX7_packetsOf_54 (by decide) ?_
              refine z_lsub ok (lv' := [(0, .ref (q 0)), (1, .int (iI box)), (2, .int (iI t)), (3, .int (iI (n + 1))), (4, .int (iI (i + 1)))]) [2, 3, 4, 1, 0] rfl ?_
              exact ih5 _ _ (by omega) (by omega) (by rw [zS_s (by omega)]; first | (rw [show cntf now box t i = 1 from zb_t (by omega)]; omega) | (rw [show cntf now box t i = 0 from zb_f (by omega)]; omega)) (by omega)
  refine z_lsub ok (lv' := [(0, .ref (q 0)), (1, .int (iI box)), (2, .int (iI t)), (3, .int (iI 0)), (4, .int (iI 0))]) [2, 3, 4, 1, 0] rfl ?_
  exact L5 _ _ _ (by omega) (by omega) (rfl) (Nat.lt_succ_self _)
set_option maxRecDepth 20000 in
theorem c_X7_sum {l : Launch} {Z : zZ} {q : Nat → Nat} {now kept hist : Int → Int} {und : Int} {sav isv pad : Int → Int} {sg it : Int} {far many laid sides stuck ord : Int → Int} {rd pl wr : Int} {j : Int} (h6 : 0 ≤ now 6 ∧ now 6 ≤ 40) (hj : 0 ≤ j ∧ j ≤ 9) : zI (T := Unit) l yX7_sum (Cond.code yX7_sum cX7_sum 4 (some .int) :: wsL_law) ({ frames := 1, cells := 0, slots := 0, locals := 22 } : Room) Z [.ref (q 0), .int (iI j)] (mW Z q now kept hist und sav isv pad sg it far many laid sides stuck ord rd pl wr) (fun _ => mW Z q now kept hist und sav isv pad sg it far many laid sides stuck ord rd pl wr) (fun ρ _ => ρ = sumOf now j) := by
  refine zI_of (C := RX7) (by decide +kernel) rfl (Nat.le_of_ble_eq_true rfl) (fun _ => True) znI (fun X ok fin => ?_)
  refine z_lsub ok (lv' := [(0, .ref (q 0)), (1, .int (iI j))]) [0, 1] rfl ?_
  refine z_iconst ok dX7_sum_0 ?_
  refine z_istore_n (lv' := [(2, .int (iI 0)), (0, .ref (q 0)), (1, .int (iI j))]) ok dX7_sum_1 (by decide) rfl ?_
  refine z_iconst ok dX7_sum_2 ?_
  refine z_istore_n (lv' := [(3, .int (iI 0)), (2, .int (iI 0)), (0, .ref (q 0)), (1, .int (iI j))]) ok dX7_sum_3 (by decide) rfl ?_
  have L4 : ∀ (fuel : Nat) (i n : Int), 0 ≤ i → i ≤ now 6 → n = zS (fun p => pk now p j) i.toNat → (now 6 - i).toNat < fuel → zV X 0 0 (mW Z q now kept hist und sav isv pad sg it far many laid sides stuck ord rd pl wr) 4 [(0, .ref (q 0)), (1, .int (iI j)), (2, .int (iI n)), (3, .int (iI i))] [] := by
    intro fuel
    induction fuel with
    | zero => intro i n h4_0 h4_1 h4_2 hf; exact absurd hf (Nat.not_lt_zero _)
    | succ fuel ih4 =>
      intro i n h4_0 h4_1 h4_2 hf
      refine z_iload_n ok dX7_sum_4 rfl ?_
      refine z_aload_n ok dX7_sum_5 rfl ?_
      refine z_get (v := .ref (q 1)) ok zc7 0 rfl 0 (by decide) qf_RX7_7 rfl rfl dX7_sum_6 ?_
      refine z_bipush ok dX7_sum_9 (by decide) ?_
      refine z_iald (f := now) ok 1 rfl dX7_sum_11 (by omega) (by decide) ?_
      refine z_icmp_ge (tgt := 30) ok dX7_sum_12 (by decide) (by omega) (by omega) (fun c12 => ?_) (fun c12 => ?_)
      · -- t
        refine z_iload_n ok dX7_sum_30 rfl ?_
        exact fin n () 31 _ _ _ dX7_sum_31 (trivial) (by rw [h4_2, show i = now 6 by omega]; rfl) (by decide) (by decide)
      · -- f
        refine z_iload_n ok dX7_sum_15 rfl ?_
        refine z_aload_n ok dX7_sum_16 rfl ?_
        refine z_iload_n ok dX7_sum_17 rfl ?_
        refine z_iload_n ok dX7_sum_18 rfl ?_
        refine z_callVi0 ok (fun l => c_X7_of  (by omega) (by omega)) zm_X7_of zv_X7_of qm_RX7_98 dX7_sum_19 (by decide) (by decide) rfl rfl (Nat.le_of_ble_eq_true rfl) (q0 := 0) rfl rfl rfl (fun ρ _ hρ => ?_)
        subst hρ
        refine z_eq (ws' := mW Z q now kept hist und sav isv pad sg it far many laid sides stuck ord rd pl wr) rfl ?_
        refine z_iadd ok dX7_sum_22 ?_
        refine z_istore_n (lv' := [(2, .int (iI (n + (pk now i j)))), (0, .ref (q 0)), (1, .int (iI j)), (3, .int (iI i))]) ok dX7_sum_23 (by decide) rfl ?_
        refine z_iinc (lv' := [(3, .int (iI (i + 1))), (2, .int (iI (n + (pk now i j)))), (0, .ref (q 0)), (1, .int (iI j))]) ok dX7_sum_24 3 rfl (by decide) rfl ?_
        refine z_goto (tgt := 4) ok dX7_sum_27 (by decide) ?_
        refine z_lsub ok (lv' := [(0, .ref (q 0)), (1, .int (iI j)), (2, .int (iI (n + (pk now i j)))), (3, .int (iI (i + 1)))]) [2, 3, 1, 0] rfl ?_
        exact ih4 _ _ (by omega) (by omega) (by rw [zS_s (by omega), h4_2]) (by omega)
  refine z_lsub ok (lv' := [(0, .ref (q 0)), (1, .int (iI j)), (2, .int (iI 0)), (3, .int (iI 0))]) [2, 3, 1, 0] rfl ?_
  exact L4 _ _ _ (by omega) (by omega) (rfl) (Nat.lt_succ_self _)
set_option maxRecDepth 20000 in
theorem c_X7_broken {l : Launch} {Z : zZ} {q : Nat → Nat} {now kept hist : Int → Int} {und : Int} {sav isv pad : Int → Int} {sg it : Int} {far many laid sides stuck ord : Int → Int} {rd pl wr : Int}  : zI (T := Unit) l yX7_broken (Cond.code yX7_broken cX7_broken 3 (some .int) :: wsL_law) ({ frames := 0, cells := 0, slots := 0, locals := 0 } : Room) Z [.ref (q 0)] (mW Z q now kept hist und sav isv pad sg it far many laid sides stuck ord rd pl wr) (fun _ => mW Z q now kept hist und sav isv pad sg it far many laid sides stuck ord rd pl wr) (fun ρ _ => ρ = brokenOf now) := by
  refine zI_of (C := RX7) (by decide +kernel) rfl (Nat.le_of_ble_eq_true rfl) (fun _ => True) znI (fun X ok fin => ?_)
  refine z_lsub ok (lv' := [(0, .ref (q 0))]) [0] rfl ?_
  refine z_iconst ok dX7_broken_0 ?_
  refine z_istore_n (lv' := [(1, .int (iI 0)), (0, .ref (q 0))]) ok dX7_broken_1 (by decide) rfl ?_
  refine z_bipush ok dX7_broken_2 (by decide) ?_
  refine z_istore_n (lv' := [(2, .int (iI 10)), (1, .int (iI 0)), (0, .ref (q 0))]) ok dX7_broken_4 (by decide) rfl ?_
  have L5 : ∀ (fuel : Nat) (i n : Int), 0 ≤ i → i ≤ 50 → n = zS (fun k => now (10 + k)) i.toNat → (50 - i).toNat < fuel → zV X 0 0 (mW Z q now kept hist und sav isv pad sg it far many laid sides stuck ord rd pl wr) 5 [(0, .ref (q 0)), (1, .int (iI n)), (2, .int (iI (10 + i)))] [] := by
    intro fuel
    induction fuel with
    | zero => intro i n h5_0 h5_1 h5_2 hf; exact absurd hf (Nat.not_lt_zero _)
    | succ fuel ih5 =>
      intro i n h5_0 h5_1 h5_2 hf
      refine z_iload_n ok dX7_broken_5 rfl ?_
      refine z_bipush ok dX7_broken_6 (by decide) ?_
      refine z_icmp_ge (tgt := 26) ok dX7_broken_8 (by decide) (by omega) (by omega) (fun c8 => ?_) (fun c8 => ?_)
      · -- t
        refine z_iload_n ok dX7_broken_26 rfl ?_
        exact fin n () 27 _ _ _ dX7_broken_27 (trivial) (by rw [h5_2, show i = 50 by omega]; rfl) (by decide) (by decide)
      · -- f
        refine z_iload_n ok dX7_broken_11 rfl ?_
        refine z_aload_n ok dX7_broken_12 rfl ?_
        refine z_get (v := .ref (q 1)) ok zc7 0 rfl 0 (by decide) qf_RX7_7 rfl rfl dX7_broken_13 ?_
        refine z_iload_n ok dX7_broken_16 rfl ?_
        refine z_iald (f := now) ok 1 rfl dX7_broken_17 (by omega) (by decide) ?_
        refine z_iadd ok dX7_broken_18 ?_
        refine z_istore_n (lv' := [(1, .int (iI (n + (now (10 + i))))), (0, .ref (q 0)), (2, .int (iI (10 + i)))]) ok dX7_broken_19 (by decide) rfl ?_
        refine z_iinc (lv' := [(2, .int (iI ((10 + i) + 1))), (1, .int (iI (n + (now (10 + i))))), (0, .ref (q 0))]) ok dX7_broken_20 2 rfl (by decide) rfl ?_
        refine z_goto (tgt := 5) ok dX7_broken_23 (by decide) ?_
        refine z_lsub ok (lv' := [(0, .ref (q 0)), (1, .int (iI (n + (now (10 + i))))), (2, .int (iI ((10 + i) + 1)))]) [2, 1, 0] rfl ?_
        rw [show 10 + i + 1 = 10 + (i + 1) by omega]
        exact ih5 (i + 1) _ (by omega) (by omega) (by rw [zS_s (by omega), h5_2]) (by omega)
  refine z_lsub ok (lv' := [(0, .ref (q 0)), (1, .int (iI 0)), (2, .int (iI 10))]) [2, 1, 0] rfl ?_
  exact L5 _ 0 0 (by omega) (by omega) (rfl) (Nat.lt_succ_self _)
set_option maxRecDepth 20000 in
theorem c_X7_sign {l : Launch} {Z : zZ} {q : Nat → Nat} {now kept hist : Int → Int} {und : Int} {sav isv pad : Int → Int} {sg it : Int} {far many laid sides stuck ord : Int → Int} {rd pl wr : Int} (hsg : 0 ≤ sg ∧ sg ≤ 80) (hpl : 0 ≤ pl ∧ pl ≤ 1000) : zI (T := Unit) l yX7_sign (Cond.code yX7_sign cX7_sign 1 (some .int) :: wsL_law) ({ frames := 0, cells := 0, slots := 0, locals := 0 } : Room) Z [.ref (q 0)] (mW Z q now kept hist und sav isv pad sg it far many laid sides stuck ord rd pl wr) (fun _ => mW Z q now kept hist und sav isv pad sg it far many laid sides stuck ord rd pl wr) (fun ρ _ => ρ = (if pl < sg then pad pl else 0)) := by
  refine zI_of (C := RX7) (by decide +kernel) rfl (Nat.le_of_ble_eq_true rfl) (fun _ => True) znI (fun X ok fin => ?_)
  refine z_lsub ok (lv' := [(0, .ref (q 0))]) [0] rfl ?_
  refine z_aload_n ok dX7_sign_0 rfl ?_
  refine z_get (v := .int (iI pl)) ok zc7 0 rfl 16 (by decide) qf_RX7_164 rfl rfl dX7_sign_1 ?_
  refine z_aload_n ok dX7_sign_4 rfl ?_
  refine z_get (v := .int (iI sg)) ok zc7 0 rfl 7 (by decide) qf_RX7_152 rfl rfl dX7_sign_5 ?_
  refine z_icmp_ge (tgt := 23) ok dX7_sign_8 (by decide) (by omega) (by omega) (fun c8 => ?_) (fun c8 => ?_)
  · -- t
    refine z_iconst ok dX7_sign_23 ?_
    exact fin 0 () 24 _ _ _ dX7_sign_24 (trivial) (by first | (rw [if_pos (by omega)]) | (rw [if_neg (by omega)])) (by decide) (by decide)
  · -- f
    refine z_aload_n ok dX7_sign_11 rfl ?_
    refine z_get (v := .ref (q 6)) ok zc7 0 rfl 6 (by decide) qf_RX7_26 rfl rfl dX7_sign_12 ?_
    refine z_aload_n ok dX7_sign_15 rfl ?_
    refine z_get (v := .int (iI pl)) ok zc7 0 rfl 16 (by decide) qf_RX7_164 rfl rfl dX7_sign_16 ?_
    refine z_iald (f := pad) ok 6 rfl dX7_sign_19 (by omega) (by decide) ?_
    refine z_goto (tgt := 24) ok dX7_sign_20 (by decide) ?_
    exact fin (pad pl) () 24 _ _ _ dX7_sign_24 (trivial) (by first | (rw [if_pos (by omega)]) | (rw [if_neg (by omega)])) (by decide) (by decide)
end
section
theorem zz_stub : True := trivial
end
