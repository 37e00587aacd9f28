section
-- ===== PART A: goes FIRST, ahead of the names: the tables' words, and 'selects' of the private methods out of them =====
/-- a private method of a class that the tables say can be made, by its rows of tables_1 -/
def lw_okq (q : MethodName × Nat) : Prop := (q.1.cls ≠ "java/lang/invoke/MethodHandle" ∧ q.1.cls ≠ "java/lang/invoke/VarHandle") ∧ Cond.instantiable q.1.cls q.2 ∈ tables_1 ∧ Cond.privateMethod q.1 ∈ tables_1 ∧ Cond.instanceMethod q.1 ∈ tables_1
theorem lw_p0 : lw_okq (⟨"SliceSolver$Text", "kindOfWord", "(II)I"⟩, 7) := ⟨⟨by decide +kernel, by decide +kernel⟩, List.mem_of_getElem? (i := 29) (by decide +kernel), List.mem_of_getElem? (i := 301) (by decide +kernel), List.mem_of_getElem? (i := 302) (by decide +kernel)⟩
theorem lw_p1 : lw_okq (⟨"SliceSolver$Text", "isWord", "(IILjava/lang/String;)Z"⟩, 7) := ⟨⟨by decide +kernel, by decide +kernel⟩, List.mem_of_getElem? (i := 29) (by decide +kernel), List.mem_of_getElem? (i := 306) (by decide +kernel), List.mem_of_getElem? (i := 307) (by decide +kernel)⟩
theorem lw_p2 : lw_okq (⟨"SliceSolver$Reader", "readDeclaration", "(LSliceSolver$Problem;)Z"⟩, 4) := ⟨⟨by decide +kernel, by decide +kernel⟩, List.mem_of_getElem? (i := 59) (by decide +kernel), List.mem_of_getElem? (i := 367) (by decide +kernel), List.mem_of_getElem? (i := 368) (by decide +kernel)⟩
theorem lw_p3 : lw_okq (⟨"SliceSolver$Reader", "readStatement", "(LSliceSolver$Problem;)Z"⟩, 4) := ⟨⟨by decide +kernel, by decide +kernel⟩, List.mem_of_getElem? (i := 59) (by decide +kernel), List.mem_of_getElem? (i := 394) (by decide +kernel), List.mem_of_getElem? (i := 395) (by decide +kernel)⟩
theorem lw_p4 : lw_okq (⟨"SliceSolver$Reader", "readTerm", "(LSliceSolver$Problem;)Z"⟩, 4) := ⟨⟨by decide +kernel, by decide +kernel⟩, List.mem_of_getElem? (i := 59) (by decide +kernel), List.mem_of_getElem? (i := 402) (by decide +kernel), List.mem_of_getElem? (i := 403) (by decide +kernel)⟩
theorem lw_p5 : lw_okq (⟨"SliceSolver$Reader", "readPart", "(LSliceSolver$Problem;)Z"⟩, 4) := ⟨⟨by decide +kernel, by decide +kernel⟩, List.mem_of_getElem? (i := 59) (by decide +kernel), List.mem_of_getElem? (i := 410) (by decide +kernel), List.mem_of_getElem? (i := 411) (by decide +kernel)⟩
theorem lw_p6 : lw_okq (⟨"SliceSolver$Reader", "readConstant", "()Z"⟩, 4) := ⟨⟨by decide +kernel, by decide +kernel⟩, List.mem_of_getElem? (i := 59) (by decide +kernel), List.mem_of_getElem? (i := 414) (by decide +kernel), List.mem_of_getElem? (i := 415) (by decide +kernel)⟩
theorem lw_p7 : lw_okq (⟨"SliceSolver$Reader", "readRange", "()Z"⟩, 4) := ⟨⟨by decide +kernel, by decide +kernel⟩, List.mem_of_getElem? (i := 59) (by decide +kernel), List.mem_of_getElem? (i := 434) (by decide +kernel), List.mem_of_getElem? (i := 435) (by decide +kernel)⟩
theorem lw_p8 : lw_okq (⟨"SliceSolver$History", "forgetOldest", "()V"⟩, 2) := ⟨⟨by decide +kernel, by decide +kernel⟩, List.mem_of_getElem? (i := 140) (by decide +kernel), List.mem_of_getElem? (i := 477) (by decide +kernel), List.mem_of_getElem? (i := 478) (by decide +kernel)⟩
theorem lw_p9 : lw_okq (⟨"SliceSolver$Statements", "move", "(LSliceSolver$Statements;III)V"⟩, 5) := ⟨⟨by decide +kernel, by decide +kernel⟩, List.mem_of_getElem? (i := 100) (by decide +kernel), List.mem_of_getElem? (i := 495) (by decide +kernel), List.mem_of_getElem? (i := 496) (by decide +kernel)⟩
theorem lw_p10 : lw_okq (⟨"SliceSolver", "slice", "()V"⟩, 13) := ⟨⟨by decide +kernel, by decide +kernel⟩, List.mem_of_getElem? (i := 21) (by decide +kernel), List.mem_of_getElem? (i := 501) (by decide +kernel), List.mem_of_getElem? (i := 502) (by decide +kernel)⟩
theorem lw_p11 : lw_okq (⟨"SliceSolver$Cuts", "cutAroundParts", "(LSliceSolver$Problem;II)V"⟩, 1) := ⟨⟨by decide +kernel, by decide +kernel⟩, List.mem_of_getElem? (i := 156) (by decide +kernel), List.mem_of_getElem? (i := 514) (by decide +kernel), List.mem_of_getElem? (i := 515) (by decide +kernel)⟩
theorem lw_p12 : lw_okq (⟨"SliceSolver$Cuts", "cutBelow", "(LSliceSolver$Problem;II)V"⟩, 1) := ⟨⟨by decide +kernel, by decide +kernel⟩, List.mem_of_getElem? (i := 156) (by decide +kernel), List.mem_of_getElem? (i := 543) (by decide +kernel), List.mem_of_getElem? (i := 544) (by decide +kernel)⟩
theorem lw_p13 : lw_okq (⟨"SliceSolver$Cuts", "spread", "(LSliceSolver$Statements;III)Z"⟩, 1) := ⟨⟨by decide +kernel, by decide +kernel⟩, List.mem_of_getElem? (i := 156) (by decide +kernel), List.mem_of_getElem? (i := 548) (by decide +kernel), List.mem_of_getElem? (i := 549) (by decide +kernel)⟩
theorem lw_p14 : lw_okq (⟨"SliceSolver$Cuts", "isCut", "(I)Z"⟩, 1) := ⟨⟨by decide +kernel, by decide +kernel⟩, List.mem_of_getElem? (i := 156) (by decide +kernel), List.mem_of_getElem? (i := 552) (by decide +kernel), List.mem_of_getElem? (i := 553) (by decide +kernel)⟩
theorem lw_p15 : lw_okq (⟨"SliceSolver$Cuts", "isMarked", "(LSliceSolver$Statements;III)Z"⟩, 1) := ⟨⟨by decide +kernel, by decide +kernel⟩, List.mem_of_getElem? (i := 156) (by decide +kernel), List.mem_of_getElem? (i := 556) (by decide +kernel), List.mem_of_getElem? (i := 557) (by decide +kernel)⟩
def lw_privs_1 : List (MethodName × Nat) := [(⟨"SliceSolver$Text", "kindOfWord", "(II)I"⟩, 7), (⟨"SliceSolver$Text", "isWord", "(IILjava/lang/String;)Z"⟩, 7), (⟨"SliceSolver$Reader", "readDeclaration", "(LSliceSolver$Problem;)Z"⟩, 4), (⟨"SliceSolver$Reader", "readStatement", "(LSliceSolver$Problem;)Z"⟩, 4), (⟨"SliceSolver$Reader", "readTerm", "(LSliceSolver$Problem;)Z"⟩, 4), (⟨"SliceSolver$Reader", "readPart", "(LSliceSolver$Problem;)Z"⟩, 4), (⟨"SliceSolver$Reader", "readConstant", "()Z"⟩, 4), (⟨"SliceSolver$Reader", "readRange", "()Z"⟩, 4), (⟨"SliceSolver$History", "forgetOldest", "()V"⟩, 2), (⟨"SliceSolver$Statements", "move", "(LSliceSolver$Statements;III)V"⟩, 5), (⟨"SliceSolver", "slice", "()V"⟩, 13), (⟨"SliceSolver$Cuts", "cutAroundParts", "(LSliceSolver$Problem;II)V"⟩, 1), (⟨"SliceSolver$Cuts", "cutBelow", "(LSliceSolver$Problem;II)V"⟩, 1), (⟨"SliceSolver$Cuts", "spread", "(LSliceSolver$Statements;III)Z"⟩, 1), (⟨"SliceSolver$Cuts", "isCut", "(I)Z"⟩, 1), (⟨"SliceSolver$Cuts", "isMarked", "(LSliceSolver$Statements;III)Z"⟩, 1)]
theorem lw_r1 : ∀ q ∈ lw_privs_1, lw_okq q := List.forall_mem_cons.mpr ⟨lw_p0, List.forall_mem_cons.mpr ⟨lw_p1, List.forall_mem_cons.mpr ⟨lw_p2, List.forall_mem_cons.mpr ⟨lw_p3, List.forall_mem_cons.mpr ⟨lw_p4, List.forall_mem_cons.mpr ⟨lw_p5, List.forall_mem_cons.mpr ⟨lw_p6, List.forall_mem_cons.mpr ⟨lw_p7, List.forall_mem_cons.mpr ⟨lw_p8, List.forall_mem_cons.mpr ⟨lw_p9, List.forall_mem_cons.mpr ⟨lw_p10, List.forall_mem_cons.mpr ⟨lw_p11, List.forall_mem_cons.mpr ⟨lw_p12, List.forall_mem_cons.mpr ⟨lw_p13, List.forall_mem_cons.mpr ⟨lw_p14, List.forall_mem_cons.mpr ⟨lw_p15, fun _ h => absurd h List.not_mem_nil⟩⟩⟩⟩⟩⟩⟩⟩⟩⟩⟩⟩⟩⟩⟩⟩
theorem lw_p16 : lw_okq (⟨"SliceSolver$Classes", "join", "(II)V"⟩, 3) := ⟨⟨by decide +kernel, by decide +kernel⟩, List.mem_of_getElem? (i := 166) (by decide +kernel), List.mem_of_getElem? (i := 568) (by decide +kernel), List.mem_of_getElem? (i := 569) (by decide +kernel)⟩
theorem lw_p17 : lw_okq (⟨"SliceSolver$Classes", "fix", "(II)V"⟩, 3) := ⟨⟨by decide +kernel, by decide +kernel⟩, List.mem_of_getElem? (i := 166) (by decide +kernel), List.mem_of_getElem? (i := 577) (by decide +kernel), List.mem_of_getElem? (i := 578) (by decide +kernel)⟩
theorem lw_p18 : lw_okq (⟨"SliceSolver$Classes", "unite", "(II)V"⟩, 3) := ⟨⟨by decide +kernel, by decide +kernel⟩, List.mem_of_getElem? (i := 166) (by decide +kernel), List.mem_of_getElem? (i := 581) (by decide +kernel), List.mem_of_getElem? (i := 582) (by decide +kernel)⟩
theorem lw_p19 : lw_okq (⟨"SliceSolver", "slicesOf", "(I)I"⟩, 13) := ⟨⟨by decide +kernel, by decide +kernel⟩, List.mem_of_getElem? (i := 21) (by decide +kernel), List.mem_of_getElem? (i := 624) (by decide +kernel), List.mem_of_getElem? (i := 625) (by decide +kernel)⟩
theorem lw_p20 : lw_okq (⟨"SliceSolver", "isSlice", "(II)Z"⟩, 13) := ⟨⟨by decide +kernel, by decide +kernel⟩, List.mem_of_getElem? (i := 21) (by decide +kernel), List.mem_of_getElem? (i := 642) (by decide +kernel), List.mem_of_getElem? (i := 643) (by decide +kernel)⟩
theorem lw_p21 : lw_okq (⟨"SliceSolver", "tryEquations", "(I)V"⟩, 13) := ⟨⟨by decide +kernel, by decide +kernel⟩, List.mem_of_getElem? (i := 21) (by decide +kernel), List.mem_of_getElem? (i := 686) (by decide +kernel), List.mem_of_getElem? (i := 687) (by decide +kernel)⟩
theorem lw_p22 : lw_okq (⟨"SliceSolver", "isBit", "(II)Z"⟩, 13) := ⟨⟨by decide +kernel, by decide +kernel⟩, List.mem_of_getElem? (i := 21) (by decide +kernel), List.mem_of_getElem? (i := 694) (by decide +kernel), List.mem_of_getElem? (i := 695) (by decide +kernel)⟩
theorem lw_p23 : lw_okq (⟨"SliceSolver", "chosenModel", "()LSliceSolver$Model;"⟩, 13) := ⟨⟨by decide +kernel, by decide +kernel⟩, List.mem_of_getElem? (i := 21) (by decide +kernel), List.mem_of_getElem? (i := 714) (by decide +kernel), List.mem_of_getElem? (i := 715) (by decide +kernel)⟩
theorem lw_p24 : lw_okq (⟨"SliceSolver$Model", "wordOfZeros", "(LSliceSolver$Statements;LSliceSolver$Classes;)J"⟩, 5) := ⟨⟨by decide +kernel, by decide +kernel⟩, List.mem_of_getElem? (i := 189) (by decide +kernel), List.mem_of_getElem? (i := 723) (by decide +kernel), List.mem_of_getElem? (i := 724) (by decide +kernel)⟩
theorem lw_p25 : lw_okq (⟨"SliceSolver$Model", "constantPlace", "(IJLSliceSolver$Classes;)J"⟩, 5) := ⟨⟨by decide +kernel, by decide +kernel⟩, List.mem_of_getElem? (i := 189) (by decide +kernel), List.mem_of_getElem? (i := 733) (by decide +kernel), List.mem_of_getElem? (i := 734) (by decide +kernel)⟩
theorem lw_p26 : lw_okq (⟨"SliceSolver$Model", "gatherCandidates", "()V"⟩, 5) := ⟨⟨by decide +kernel, by decide +kernel⟩, List.mem_of_getElem? (i := 189) (by decide +kernel), List.mem_of_getElem? (i := 739) (by decide +kernel), List.mem_of_getElem? (i := 740) (by decide +kernel)⟩
theorem lw_p27 : lw_okq (⟨"SliceSolver$Model", "pickLast", "(IIJ)Z"⟩, 5) := ⟨⟨by decide +kernel, by decide +kernel⟩, List.mem_of_getElem? (i := 189) (by decide +kernel), List.mem_of_getElem? (i := 749) (by decide +kernel), List.mem_of_getElem? (i := 750) (by decide +kernel)⟩
theorem lw_p28 : lw_okq (⟨"SliceSolver$Model", "pickLastTwo", "(IIJ)Z"⟩, 5) := ⟨⟨by decide +kernel, by decide +kernel⟩, List.mem_of_getElem? (i := 189) (by decide +kernel), List.mem_of_getElem? (i := 753) (by decide +kernel), List.mem_of_getElem? (i := 754) (by decide +kernel)⟩
theorem lw_p29 : lw_okq (⟨"SliceSolver$Model", "pickThree", "(J)Z"⟩, 5) := ⟨⟨by decide +kernel, by decide +kernel⟩, List.mem_of_getElem? (i := 189) (by decide +kernel), List.mem_of_getElem? (i := 757) (by decide +kernel), List.mem_of_getElem? (i := 758) (by decide +kernel)⟩
theorem lw_p30 : lw_okq (⟨"SliceSolver", "snapshot", "(I)LSliceSolver$Problem;"⟩, 13) := ⟨⟨by decide +kernel, by decide +kernel⟩, List.mem_of_getElem? (i := 21) (by decide +kernel), List.mem_of_getElem? (i := 804) (by decide +kernel), List.mem_of_getElem? (i := 805) (by decide +kernel)⟩
theorem lw_p31 : lw_okq (⟨"SliceSolverModel", "advance", "()V"⟩, 26) := ⟨⟨by decide +kernel, by decide +kernel⟩, List.mem_of_getElem? (i := 816) (by decide +kernel), List.mem_of_getElem? (i := 917) (by decide +kernel), List.mem_of_getElem? (i := 918) (by decide +kernel)⟩
def lw_privs_2 : List (MethodName × Nat) := [(⟨"SliceSolver$Classes", "join", "(II)V"⟩, 3), (⟨"SliceSolver$Classes", "fix", "(II)V"⟩, 3), (⟨"SliceSolver$Classes", "unite", "(II)V"⟩, 3), (⟨"SliceSolver", "slicesOf", "(I)I"⟩, 13), (⟨"SliceSolver", "isSlice", "(II)Z"⟩, 13), (⟨"SliceSolver", "tryEquations", "(I)V"⟩, 13), (⟨"SliceSolver", "isBit", "(II)Z"⟩, 13), (⟨"SliceSolver", "chosenModel", "()LSliceSolver$Model;"⟩, 13), (⟨"SliceSolver$Model", "wordOfZeros", "(LSliceSolver$Statements;LSliceSolver$Classes;)J"⟩, 5), (⟨"SliceSolver$Model", "constantPlace", "(IJLSliceSolver$Classes;)J"⟩, 5), (⟨"SliceSolver$Model", "gatherCandidates", "()V"⟩, 5), (⟨"SliceSolver$Model", "pickLast", "(IIJ)Z"⟩, 5), (⟨"SliceSolver$Model", "pickLastTwo", "(IIJ)Z"⟩, 5), (⟨"SliceSolver$Model", "pickThree", "(J)Z"⟩, 5), (⟨"SliceSolver", "snapshot", "(I)LSliceSolver$Problem;"⟩, 13), (⟨"SliceSolverModel", "advance", "()V"⟩, 26)]
theorem lw_r2 : ∀ q ∈ lw_privs_2, lw_okq q := List.forall_mem_cons.mpr ⟨lw_p16, List.forall_mem_cons.mpr ⟨lw_p17, List.forall_mem_cons.mpr ⟨lw_p18, List.forall_mem_cons.mpr ⟨lw_p19, List.forall_mem_cons.mpr ⟨lw_p20, List.forall_mem_cons.mpr ⟨lw_p21, List.forall_mem_cons.mpr ⟨lw_p22, List.forall_mem_cons.mpr ⟨lw_p23, List.forall_mem_cons.mpr ⟨lw_p24, List.forall_mem_cons.mpr ⟨lw_p25, List.forall_mem_cons.mpr ⟨lw_p26, List.forall_mem_cons.mpr ⟨lw_p27, List.forall_mem_cons.mpr ⟨lw_p28, List.forall_mem_cons.mpr ⟨lw_p29, List.forall_mem_cons.mpr ⟨lw_p30, List.forall_mem_cons.mpr ⟨lw_p31, fun _ h => absurd h List.not_mem_nil⟩⟩⟩⟩⟩⟩⟩⟩⟩⟩⟩⟩⟩⟩⟩⟩
theorem lw_p32 : lw_okq (⟨"SliceSolverModel", "characterAt", "(I)I"⟩, 26) := ⟨⟨by decide +kernel, by decide +kernel⟩, List.mem_of_getElem? (i := 816) (by decide +kernel), List.mem_of_getElem? (i := 921) (by decide +kernel), List.mem_of_getElem? (i := 922) (by decide +kernel)⟩
theorem lw_p33 : lw_okq (⟨"SliceSolverModel", "wordOf", "()I"⟩, 26) := ⟨⟨by decide +kernel, by decide +kernel⟩, List.mem_of_getElem? (i := 816) (by decide +kernel), List.mem_of_getElem? (i := 925) (by decide +kernel), List.mem_of_getElem? (i := 926) (by decide +kernel)⟩
theorem lw_p34 : lw_okq (⟨"SliceSolverModel", "isFine", "()Z"⟩, 26) := ⟨⟨by decide +kernel, by decide +kernel⟩, List.mem_of_getElem? (i := 816) (by decide +kernel), List.mem_of_getElem? (i := 932) (by decide +kernel), List.mem_of_getElem? (i := 933) (by decide +kernel)⟩
theorem lw_p35 : lw_okq (⟨"SliceSolverModel", "readItem", "()V"⟩, 26) := ⟨⟨by decide +kernel, by decide +kernel⟩, List.mem_of_getElem? (i := 816) (by decide +kernel), List.mem_of_getElem? (i := 936) (by decide +kernel), List.mem_of_getElem? (i := 937) (by decide +kernel)⟩
theorem lw_p36 : lw_okq (⟨"SliceSolverModel", "readDeclaration", "()V"⟩, 26) := ⟨⟨by decide +kernel, by decide +kernel⟩, List.mem_of_getElem? (i := 816) (by decide +kernel), List.mem_of_getElem? (i := 940) (by decide +kernel), List.mem_of_getElem? (i := 941) (by decide +kernel)⟩
theorem lw_p37 : lw_okq (⟨"SliceSolverModel", "take", "(Z)I"⟩, 26) := ⟨⟨by decide +kernel, by decide +kernel⟩, List.mem_of_getElem? (i := 816) (by decide +kernel), List.mem_of_getElem? (i := 944) (by decide +kernel), List.mem_of_getElem? (i := 945) (by decide +kernel)⟩
theorem lw_p38 : lw_okq (⟨"SliceSolverModel", "isName", "()Z"⟩, 26) := ⟨⟨by decide +kernel, by decide +kernel⟩, List.mem_of_getElem? (i := 816) (by decide +kernel), List.mem_of_getElem? (i := 948) (by decide +kernel), List.mem_of_getElem? (i := 949) (by decide +kernel)⟩
theorem lw_p39 : lw_okq (⟨"SliceSolverModel", "number", "(II)I"⟩, 26) := ⟨⟨by decide +kernel, by decide +kernel⟩, List.mem_of_getElem? (i := 816) (by decide +kernel), List.mem_of_getElem? (i := 952) (by decide +kernel), List.mem_of_getElem? (i := 953) (by decide +kernel)⟩
theorem lw_p40 : lw_okq (⟨"SliceSolverModel", "isSign", "(I)Z"⟩, 26) := ⟨⟨by decide +kernel, by decide +kernel⟩, List.mem_of_getElem? (i := 816) (by decide +kernel), List.mem_of_getElem? (i := 956) (by decide +kernel), List.mem_of_getElem? (i := 957) (by decide +kernel)⟩
theorem lw_p41 : lw_okq (⟨"SliceSolverModel", "readStatement", "(Z)V"⟩, 26) := ⟨⟨by decide +kernel, by decide +kernel⟩, List.mem_of_getElem? (i := 816) (by decide +kernel), List.mem_of_getElem? (i := 960) (by decide +kernel), List.mem_of_getElem? (i := 961) (by decide +kernel)⟩
theorem lw_p42 : lw_okq (⟨"SliceSolverModel", "readTerm", "()V"⟩, 26) := ⟨⟨by decide +kernel, by decide +kernel⟩, List.mem_of_getElem? (i := 816) (by decide +kernel), List.mem_of_getElem? (i := 964) (by decide +kernel), List.mem_of_getElem? (i := 965) (by decide +kernel)⟩
theorem lw_p43 : lw_okq (⟨"SliceSolverModel", "readPart", "()V"⟩, 26) := ⟨⟨by decide +kernel, by decide +kernel⟩, List.mem_of_getElem? (i := 816) (by decide +kernel), List.mem_of_getElem? (i := 968) (by decide +kernel), List.mem_of_getElem? (i := 969) (by decide +kernel)⟩
theorem lw_p44 : lw_okq (⟨"SliceSolverModel", "readConstant", "()V"⟩, 26) := ⟨⟨by decide +kernel, by decide +kernel⟩, List.mem_of_getElem? (i := 816) (by decide +kernel), List.mem_of_getElem? (i := 972) (by decide +kernel), List.mem_of_getElem? (i := 973) (by decide +kernel)⟩
theorem lw_p45 : lw_okq (⟨"SliceSolverModel", "addBit", "(I)V"⟩, 26) := ⟨⟨by decide +kernel, by decide +kernel⟩, List.mem_of_getElem? (i := 816) (by decide +kernel), List.mem_of_getElem? (i := 976) (by decide +kernel), List.mem_of_getElem? (i := 977) (by decide +kernel)⟩
theorem lw_p46 : lw_okq (⟨"SliceSolverModel", "readRange", "()V"⟩, 26) := ⟨⟨by decide +kernel, by decide +kernel⟩, List.mem_of_getElem? (i := 816) (by decide +kernel), List.mem_of_getElem? (i := 980) (by decide +kernel), List.mem_of_getElem? (i := 981) (by decide +kernel)⟩
theorem lw_p47 : lw_okq (⟨"SliceSolverModel", "putTerm", "(I)V"⟩, 26) := ⟨⟨by decide +kernel, by decide +kernel⟩, List.mem_of_getElem? (i := 816) (by decide +kernel), List.mem_of_getElem? (i := 984) (by decide +kernel), List.mem_of_getElem? (i := 985) (by decide +kernel)⟩
def lw_privs_3 : List (MethodName × Nat) := [(⟨"SliceSolverModel", "characterAt", "(I)I"⟩, 26), (⟨"SliceSolverModel", "wordOf", "()I"⟩, 26), (⟨"SliceSolverModel", "isFine", "()Z"⟩, 26), (⟨"SliceSolverModel", "readItem", "()V"⟩, 26), (⟨"SliceSolverModel", "readDeclaration", "()V"⟩, 26), (⟨"SliceSolverModel", "take", "(Z)I"⟩, 26), (⟨"SliceSolverModel", "isName", "()Z"⟩, 26), (⟨"SliceSolverModel", "number", "(II)I"⟩, 26), (⟨"SliceSolverModel", "isSign", "(I)Z"⟩, 26), (⟨"SliceSolverModel", "readStatement", "(Z)V"⟩, 26), (⟨"SliceSolverModel", "readTerm", "()V"⟩, 26), (⟨"SliceSolverModel", "readPart", "()V"⟩, 26), (⟨"SliceSolverModel", "readConstant", "()V"⟩, 26), (⟨"SliceSolverModel", "addBit", "(I)V"⟩, 26), (⟨"SliceSolverModel", "readRange", "()V"⟩, 26), (⟨"SliceSolverModel", "putTerm", "(I)V"⟩, 26)]
theorem lw_r3 : ∀ q ∈ lw_privs_3, lw_okq q := List.forall_mem_cons.mpr ⟨lw_p32, List.forall_mem_cons.mpr ⟨lw_p33, List.forall_mem_cons.mpr ⟨lw_p34, List.forall_mem_cons.mpr ⟨lw_p35, List.forall_mem_cons.mpr ⟨lw_p36, List.forall_mem_cons.mpr ⟨lw_p37, List.forall_mem_cons.mpr ⟨lw_p38, List.forall_mem_cons.mpr ⟨lw_p39, List.forall_mem_cons.mpr ⟨lw_p40, List.forall_mem_cons.mpr ⟨lw_p41, List.forall_mem_cons.mpr ⟨lw_p42, List.forall_mem_cons.mpr ⟨lw_p43, List.forall_mem_cons.mpr ⟨lw_p44, List.forall_mem_cons.mpr ⟨lw_p45, List.forall_mem_cons.mpr ⟨lw_p46, List.forall_mem_cons.mpr ⟨lw_p47, fun _ h => absurd h List.not_mem_nil⟩⟩⟩⟩⟩⟩⟩⟩⟩⟩⟩⟩⟩⟩⟩⟩
theorem lw_p48 : lw_okq (⟨"SliceSolverModel", "keep", "()V"⟩, 26) := ⟨⟨by decide +kernel, by decide +kernel⟩, List.mem_of_getElem? (i := 816) (by decide +kernel), List.mem_of_getElem? (i := 988) (by decide +kernel), List.mem_of_getElem? (i := 989) (by decide +kernel)⟩
theorem lw_p49 : lw_okq (⟨"SliceSolverModel", "removeAt", "(II)V"⟩, 26) := ⟨⟨by decide +kernel, by decide +kernel⟩, List.mem_of_getElem? (i := 816) (by decide +kernel), List.mem_of_getElem? (i := 996) (by decide +kernel), List.mem_of_getElem? (i := 997) (by decide +kernel)⟩
theorem lw_p50 : lw_okq (⟨"SliceSolverModel", "findCuts", "()V"⟩, 26) := ⟨⟨by decide +kernel, by decide +kernel⟩, List.mem_of_getElem? (i := 816) (by decide +kernel), List.mem_of_getElem? (i := 1023) (by decide +kernel), List.mem_of_getElem? (i := 1024) (by decide +kernel)⟩
theorem lw_p51 : lw_okq (⟨"SliceSolverModel", "cutEnds", "(II)V"⟩, 26) := ⟨⟨by decide +kernel, by decide +kernel⟩, List.mem_of_getElem? (i := 816) (by decide +kernel), List.mem_of_getElem? (i := 1027) (by decide +kernel), List.mem_of_getElem? (i := 1028) (by decide +kernel)⟩
theorem lw_p52 : lw_okq (⟨"SliceSolverModel", "widthOf", "(I)I"⟩, 26) := ⟨⟨by decide +kernel, by decide +kernel⟩, List.mem_of_getElem? (i := 816) (by decide +kernel), List.mem_of_getElem? (i := 1031) (by decide +kernel), List.mem_of_getElem? (i := 1032) (by decide +kernel)⟩
theorem lw_p53 : lw_okq (⟨"SliceSolverModel", "bitOf", "(III)I"⟩, 26) := ⟨⟨by decide +kernel, by decide +kernel⟩, List.mem_of_getElem? (i := 816) (by decide +kernel), List.mem_of_getElem? (i := 1035) (by decide +kernel), List.mem_of_getElem? (i := 1036) (by decide +kernel)⟩
theorem lw_p54 : lw_okq (⟨"SliceSolverModel", "isOfVariable", "(I)Z"⟩, 26) := ⟨⟨by decide +kernel, by decide +kernel⟩, List.mem_of_getElem? (i := 816) (by decide +kernel), List.mem_of_getElem? (i := 1039) (by decide +kernel), List.mem_of_getElem? (i := 1040) (by decide +kernel)⟩
theorem lw_p55 : lw_okq (⟨"SliceSolverModel", "addCut", "(I)V"⟩, 26) := ⟨⟨by decide +kernel, by decide +kernel⟩, List.mem_of_getElem? (i := 816) (by decide +kernel), List.mem_of_getElem? (i := 1049) (by decide +kernel), List.mem_of_getElem? (i := 1050) (by decide +kernel)⟩
theorem lw_p56 : lw_okq (⟨"SliceSolverModel", "carry", "(III)V"⟩, 26) := ⟨⟨by decide +kernel, by decide +kernel⟩, List.mem_of_getElem? (i := 816) (by decide +kernel), List.mem_of_getElem? (i := 1053) (by decide +kernel), List.mem_of_getElem? (i := 1054) (by decide +kernel)⟩
theorem lw_p57 : lw_okq (⟨"SliceSolverModel", "isMarked", "(III)Z"⟩, 26) := ⟨⟨by decide +kernel, by decide +kernel⟩, List.mem_of_getElem? (i := 816) (by decide +kernel), List.mem_of_getElem? (i := 1057) (by decide +kernel), List.mem_of_getElem? (i := 1058) (by decide +kernel)⟩
theorem lw_p58 : lw_okq (⟨"SliceSolverModel", "slicesOf", "(I)I"⟩, 26) := ⟨⟨by decide +kernel, by decide +kernel⟩, List.mem_of_getElem? (i := 816) (by decide +kernel), List.mem_of_getElem? (i := 1061) (by decide +kernel), List.mem_of_getElem? (i := 1062) (by decide +kernel)⟩
theorem lw_p59 : lw_okq (⟨"SliceSolverModel", "isSlice", "(II)Z"⟩, 26) := ⟨⟨by decide +kernel, by decide +kernel⟩, List.mem_of_getElem? (i := 816) (by decide +kernel), List.mem_of_getElem? (i := 1069) (by decide +kernel), List.mem_of_getElem? (i := 1070) (by decide +kernel)⟩
theorem lw_p60 : lw_okq (⟨"SliceSolverModel", "startOf", "(II)I"⟩, 26) := ⟨⟨by decide +kernel, by decide +kernel⟩, List.mem_of_getElem? (i := 816) (by decide +kernel), List.mem_of_getElem? (i := 1073) (by decide +kernel), List.mem_of_getElem? (i := 1074) (by decide +kernel)⟩
theorem lw_p61 : lw_okq (⟨"SliceSolverModel", "solveAll", "()Z"⟩, 26) := ⟨⟨by decide +kernel, by decide +kernel⟩, List.mem_of_getElem? (i := 816) (by decide +kernel), List.mem_of_getElem? (i := 1085) (by decide +kernel), List.mem_of_getElem? (i := 1086) (by decide +kernel)⟩
theorem lw_p62 : lw_okq (⟨"SliceSolverModel", "solve", "(I)Z"⟩, 26) := ⟨⟨by decide +kernel, by decide +kernel⟩, List.mem_of_getElem? (i := 816) (by decide +kernel), List.mem_of_getElem? (i := 1089) (by decide +kernel), List.mem_of_getElem? (i := 1090) (by decide +kernel)⟩
theorem lw_p63 : lw_okq (⟨"SliceSolverModel", "equateTerms", "(I)V"⟩, 26) := ⟨⟨by decide +kernel, by decide +kernel⟩, List.mem_of_getElem? (i := 816) (by decide +kernel), List.mem_of_getElem? (i := 1093) (by decide +kernel), List.mem_of_getElem? (i := 1094) (by decide +kernel)⟩
def lw_privs_4 : List (MethodName × Nat) := [(⟨"SliceSolverModel", "keep", "()V"⟩, 26), (⟨"SliceSolverModel", "removeAt", "(II)V"⟩, 26), (⟨"SliceSolverModel", "findCuts", "()V"⟩, 26), (⟨"SliceSolverModel", "cutEnds", "(II)V"⟩, 26), (⟨"SliceSolverModel", "widthOf", "(I)I"⟩, 26), (⟨"SliceSolverModel", "bitOf", "(III)I"⟩, 26), (⟨"SliceSolverModel", "isOfVariable", "(I)Z"⟩, 26), (⟨"SliceSolverModel", "addCut", "(I)V"⟩, 26), (⟨"SliceSolverModel", "carry", "(III)V"⟩, 26), (⟨"SliceSolverModel", "isMarked", "(III)Z"⟩, 26), (⟨"SliceSolverModel", "slicesOf", "(I)I"⟩, 26), (⟨"SliceSolverModel", "isSlice", "(II)Z"⟩, 26), (⟨"SliceSolverModel", "startOf", "(II)I"⟩, 26), (⟨"SliceSolverModel", "solveAll", "()Z"⟩, 26), (⟨"SliceSolverModel", "solve", "(I)Z"⟩, 26), (⟨"SliceSolverModel", "equateTerms", "(I)V"⟩, 26)]
theorem lw_r4 : ∀ q ∈ lw_privs_4, lw_okq q := List.forall_mem_cons.mpr ⟨lw_p48, List.forall_mem_cons.mpr ⟨lw_p49, List.forall_mem_cons.mpr ⟨lw_p50, List.forall_mem_cons.mpr ⟨lw_p51, List.forall_mem_cons.mpr ⟨lw_p52, List.forall_mem_cons.mpr ⟨lw_p53, List.forall_mem_cons.mpr ⟨lw_p54, List.forall_mem_cons.mpr ⟨lw_p55, List.forall_mem_cons.mpr ⟨lw_p56, List.forall_mem_cons.mpr ⟨lw_p57, List.forall_mem_cons.mpr ⟨lw_p58, List.forall_mem_cons.mpr ⟨lw_p59, List.forall_mem_cons.mpr ⟨lw_p60, List.forall_mem_cons.mpr ⟨lw_p61, List.forall_mem_cons.mpr ⟨lw_p62, List.forall_mem_cons.mpr ⟨lw_p63, fun _ h => absurd h List.not_mem_nil⟩⟩⟩⟩⟩⟩⟩⟩⟩⟩⟩⟩⟩⟩⟩⟩
theorem lw_p64 : lw_okq (⟨"SliceSolverModel", "equate", "(II)V"⟩, 26) := ⟨⟨by decide +kernel, by decide +kernel⟩, List.mem_of_getElem? (i := 816) (by decide +kernel), List.mem_of_getElem? (i := 1097) (by decide +kernel), List.mem_of_getElem? (i := 1098) (by decide +kernel)⟩
theorem lw_p65 : lw_okq (⟨"SliceSolverModel", "rootOf", "(I)I"⟩, 26) := ⟨⟨by decide +kernel, by decide +kernel⟩, List.mem_of_getElem? (i := 816) (by decide +kernel), List.mem_of_getElem? (i := 1101) (by decide +kernel), List.mem_of_getElem? (i := 1102) (by decide +kernel)⟩
theorem lw_p66 : lw_okq (⟨"SliceSolverModel", "fix", "(II)V"⟩, 26) := ⟨⟨by decide +kernel, by decide +kernel⟩, List.mem_of_getElem? (i := 816) (by decide +kernel), List.mem_of_getElem? (i := 1105) (by decide +kernel), List.mem_of_getElem? (i := 1106) (by decide +kernel)⟩
theorem lw_p67 : lw_okq (⟨"SliceSolverModel", "join", "(II)V"⟩, 26) := ⟨⟨by decide +kernel, by decide +kernel⟩, List.mem_of_getElem? (i := 816) (by decide +kernel), List.mem_of_getElem? (i := 1109) (by decide +kernel), List.mem_of_getElem? (i := 1110) (by decide +kernel)⟩
theorem lw_p68 : lw_okq (⟨"SliceSolverModel", "sliceOfBit", "(II)I"⟩, 26) := ⟨⟨by decide +kernel, by decide +kernel⟩, List.mem_of_getElem? (i := 816) (by decide +kernel), List.mem_of_getElem? (i := 1113) (by decide +kernel), List.mem_of_getElem? (i := 1114) (by decide +kernel)⟩
theorem lw_p69 : lw_okq (⟨"SliceSolverModel", "isBit", "(II)Z"⟩, 26) := ⟨⟨by decide +kernel, by decide +kernel⟩, List.mem_of_getElem? (i := 816) (by decide +kernel), List.mem_of_getElem? (i := 1137) (by decide +kernel), List.mem_of_getElem? (i := 1138) (by decide +kernel)⟩
theorem lw_p70 : lw_okq (⟨"SliceSolverModel", "isFree", "(I)Z"⟩, 26) := ⟨⟨by decide +kernel, by decide +kernel⟩, List.mem_of_getElem? (i := 816) (by decide +kernel), List.mem_of_getElem? (i := 1149) (by decide +kernel), List.mem_of_getElem? (i := 1150) (by decide +kernel)⟩
theorem lw_p71 : lw_okq (⟨"SliceSolverModel", "choose", "()Z"⟩, 26) := ⟨⟨by decide +kernel, by decide +kernel⟩, List.mem_of_getElem? (i := 816) (by decide +kernel), List.mem_of_getElem? (i := 1157) (by decide +kernel), List.mem_of_getElem? (i := 1158) (by decide +kernel)⟩
theorem lw_p72 : lw_okq (⟨"SliceSolverModel", "findUsed", "()V"⟩, 26) := ⟨⟨by decide +kernel, by decide +kernel⟩, List.mem_of_getElem? (i := 816) (by decide +kernel), List.mem_of_getElem? (i := 1161) (by decide +kernel), List.mem_of_getElem? (i := 1162) (by decide +kernel)⟩
theorem lw_p73 : lw_okq (⟨"SliceSolverModel", "occurs", "(I)Z"⟩, 26) := ⟨⟨by decide +kernel, by decide +kernel⟩, List.mem_of_getElem? (i := 816) (by decide +kernel), List.mem_of_getElem? (i := 1165) (by decide +kernel), List.mem_of_getElem? (i := 1166) (by decide +kernel)⟩
theorem lw_p74 : lw_okq (⟨"SliceSolverModel", "search", "(I)Z"⟩, 26) := ⟨⟨by decide +kernel, by decide +kernel⟩, List.mem_of_getElem? (i := 816) (by decide +kernel), List.mem_of_getElem? (i := 1169) (by decide +kernel), List.mem_of_getElem? (i := 1170) (by decide +kernel)⟩
theorem lw_p75 : lw_okq (⟨"SliceSolverModel", "isModel", "()Z"⟩, 26) := ⟨⟨by decide +kernel, by decide +kernel⟩, List.mem_of_getElem? (i := 816) (by decide +kernel), List.mem_of_getElem? (i := 1173) (by decide +kernel), List.mem_of_getElem? (i := 1174) (by decide +kernel)⟩
theorem lw_p76 : lw_okq (⟨"SliceSolverModel", "holds", "(I)Z"⟩, 26) := ⟨⟨by decide +kernel, by decide +kernel⟩, List.mem_of_getElem? (i := 816) (by decide +kernel), List.mem_of_getElem? (i := 1177) (by decide +kernel), List.mem_of_getElem? (i := 1178) (by decide +kernel)⟩
theorem lw_p77 : lw_okq (⟨"SliceSolverModel", "valueOf", "(I)I"⟩, 26) := ⟨⟨by decide +kernel, by decide +kernel⟩, List.mem_of_getElem? (i := 816) (by decide +kernel), List.mem_of_getElem? (i := 1181) (by decide +kernel), List.mem_of_getElem? (i := 1182) (by decide +kernel)⟩
def lw_privs_5 : List (MethodName × Nat) := [(⟨"SliceSolverModel", "equate", "(II)V"⟩, 26), (⟨"SliceSolverModel", "rootOf", "(I)I"⟩, 26), (⟨"SliceSolverModel", "fix", "(II)V"⟩, 26), (⟨"SliceSolverModel", "join", "(II)V"⟩, 26), (⟨"SliceSolverModel", "sliceOfBit", "(II)I"⟩, 26), (⟨"SliceSolverModel", "isBit", "(II)Z"⟩, 26), (⟨"SliceSolverModel", "isFree", "(I)Z"⟩, 26), (⟨"SliceSolverModel", "choose", "()Z"⟩, 26), (⟨"SliceSolverModel", "findUsed", "()V"⟩, 26), (⟨"SliceSolverModel", "occurs", "(I)Z"⟩, 26), (⟨"SliceSolverModel", "search", "(I)Z"⟩, 26), (⟨"SliceSolverModel", "isModel", "()Z"⟩, 26), (⟨"SliceSolverModel", "holds", "(I)Z"⟩, 26), (⟨"SliceSolverModel", "valueOf", "(I)I"⟩, 26)]
theorem lw_r5 : ∀ q ∈ lw_privs_5, lw_okq q := List.forall_mem_cons.mpr ⟨lw_p64, List.forall_mem_cons.mpr ⟨lw_p65, List.forall_mem_cons.mpr ⟨lw_p66, List.forall_mem_cons.mpr ⟨lw_p67, List.forall_mem_cons.mpr ⟨lw_p68, List.forall_mem_cons.mpr ⟨lw_p69, List.forall_mem_cons.mpr ⟨lw_p70, List.forall_mem_cons.mpr ⟨lw_p71, List.forall_mem_cons.mpr ⟨lw_p72, List.forall_mem_cons.mpr ⟨lw_p73, List.forall_mem_cons.mpr ⟨lw_p74, List.forall_mem_cons.mpr ⟨lw_p75, List.forall_mem_cons.mpr ⟨lw_p76, List.forall_mem_cons.mpr ⟨lw_p77, fun _ h => absurd h List.not_mem_nil⟩⟩⟩⟩⟩⟩⟩⟩⟩⟩⟩⟩⟩⟩
def lw_privs : List (MethodName × Nat) := lw_privs_1 ++ (lw_privs_2 ++ (lw_privs_3 ++ (lw_privs_4 ++ (lw_privs_5))))
def lw_tbl : List Cond := k2_sels lw_privs ++ tables_1
theorem lw_privs_ok : ∀ q ∈ lw_privs, lw_okq q := by
  show ∀ q ∈ lw_privs_1 ++ (lw_privs_2 ++ (lw_privs_3 ++ (lw_privs_4 ++ (lw_privs_5)))), lw_okq q
  exact List.forall_mem_append.mpr ⟨lw_r1, List.forall_mem_append.mpr ⟨lw_r2, List.forall_mem_append.mpr ⟨lw_r3, List.forall_mem_append.mpr ⟨lw_r4, lw_r5⟩⟩⟩⟩
end
section
def RX0 : String := "SliceSolver$Classes"
def TX0 : u_T := fun k => match k with
  | 0 => ("SliceSolver$Classes", "parents", "[I", true)
  | 1 => ("SliceSolver$Classes", "constants", "[I", true)
  | _ => ("SliceSolver$Classes", "isAgreed", "Z", false)
def tyX0 : Nat → FieldType := fun k => match k with
  | 0 => .array .int
  | 1 => .array .int
  | _ => .boolean
theorem nmX0 : ∀ a, a < 3 → ∀ b, b < 3 → a ≠ b → (TX0 a).2.1 ≠ (TX0 b).2.1 := by decide +kernel
theorem tyX0_ok : ∀ k, k < 3 → parseFieldDescriptor (TX0 k).2.2.1 = some (tyX0 k) := by decide +kernel
abbrev cX0_init : ByteArray := prog_2_method_1_code
def yX0_init : MethodName := ⟨RX0, "<init>", "()V"⟩
abbrev cX0_clear : ByteArray := prog_2_method_2_code
def yX0_clear : MethodName := ⟨RX0, "clear", "()V"⟩
abbrev cX0_agree : ByteArray := prog_2_method_3_code
def yX0_agree : MethodName := ⟨RX0, "agree", "()Z"⟩
abbrev cX0_rootOf : ByteArray := prog_2_method_4_code
def yX0_rootOf : MethodName := ⟨RX0, "rootOf", "(I)I"⟩
abbrev cX0_constantOf : ByteArray := prog_2_method_5_code
def yX0_constantOf : MethodName := ⟨RX0, "constantOf", "(I)I"⟩
abbrev cX0_equate : ByteArray := prog_2_method_6_code
def yX0_equate : MethodName := ⟨RX0, "equate", "(LSliceSolver$Statements;I)V"⟩
abbrev cX0_join : ByteArray := prog_2_method_7_code
def yX0_join : MethodName := ⟨RX0, "join", "(II)V"⟩
abbrev cX0_fix : ByteArray := prog_2_method_8_code
def yX0_fix : MethodName := ⟨RX0, "fix", "(II)V"⟩
abbrev cX0_unite : ByteArray := prog_2_method_9_code
def yX0_unite : MethodName := ⟨RX0, "unite", "(II)V"⟩
def RX1 : String := "SliceSolver$Cuts"
def TX1 : u_T := fun k => match k with
  | _ => ("SliceSolver$Cuts", "sets", "[I", true)
def tyX1 : Nat → FieldType := fun k => match k with
  | _ => .array .int
theorem nmX1 : ∀ a, a < 1 → ∀ b, b < 1 → a ≠ b → (TX1 a).2.1 ≠ (TX1 b).2.1 := by decide +kernel
theorem tyX1_ok : ∀ k, k < 1 → parseFieldDescriptor (TX1 k).2.2.1 = some (tyX1 k) := by decide +kernel
abbrev cX1_init : ByteArray := prog_3_method_1_code
def yX1_init : MethodName := ⟨RX1, "<init>", "()V"⟩
abbrev cX1_countOf : ByteArray := prog_3_method_2_code
def yX1_countOf : MethodName := ⟨RX1, "countOf", "(I)I"⟩
abbrev cX1_startOf : ByteArray := prog_3_method_3_code
def yX1_startOf : MethodName := ⟨RX1, "startOf", "(II)I"⟩
abbrev cX1_sliceAt : ByteArray := prog_3_method_4_code
def yX1_sliceAt : MethodName := ⟨RX1, "sliceAt", "(II)I"⟩
abbrev cX1_cut : ByteArray := prog_3_method_5_code
def yX1_cut : MethodName := ⟨RX1, "cut", "(LSliceSolver$Problem;)V"⟩
abbrev cX1_cutAroundParts : ByteArray := prog_3_method_6_code
def yX1_cutAroundParts : MethodName := ⟨RX1, "cutAroundParts", "(LSliceSolver$Problem;II)V"⟩
abbrev cX1_cutBelow : ByteArray := prog_3_method_7_code
def yX1_cutBelow : MethodName := ⟨RX1, "cutBelow", "(LSliceSolver$Problem;II)V"⟩
abbrev cX1_spread : ByteArray := prog_3_method_8_code
def yX1_spread : MethodName := ⟨RX1, "spread", "(LSliceSolver$Statements;III)Z"⟩
abbrev cX1_isMarked : ByteArray := prog_3_method_9_code
def yX1_isMarked : MethodName := ⟨RX1, "isMarked", "(LSliceSolver$Statements;III)Z"⟩
abbrev cX1_isCut : ByteArray := prog_3_method_10_code
def yX1_isCut : MethodName := ⟨RX1, "isCut", "(I)Z"⟩
def RX2 : String := "SliceSolver$History"
def TX2 : u_T := fun k => match k with
  | 0 => ("SliceSolver$History", "saved", "[LSliceSolver$Problem;", true)
  | _ => ("SliceSolver$History", "depth", "I", false)
def tyX2 : Nat → FieldType := fun k => match k with
  | 0 => .array (.object "SliceSolver$Problem")
  | _ => .int
theorem nmX2 : ∀ a, a < 2 → ∀ b, b < 2 → a ≠ b → (TX2 a).2.1 ≠ (TX2 b).2.1 := by decide +kernel
theorem tyX2_ok : ∀ k, k < 2 → parseFieldDescriptor (TX2 k).2.2.1 = some (tyX2 k) := by decide +kernel
abbrev cX2_init : ByteArray := prog_4_method_1_code
def yX2_init : MethodName := ⟨RX2, "<init>", "()V"⟩
abbrev cX2_depth : ByteArray := prog_4_method_2_code
def yX2_depth : MethodName := ⟨RX2, "depth", "()I"⟩
abbrev cX2_clear : ByteArray := prog_4_method_3_code
def yX2_clear : MethodName := ⟨RX2, "clear", "()V"⟩
abbrev cX2_push : ByteArray := prog_4_method_4_code
def yX2_push : MethodName := ⟨RX2, "push", "(LSliceSolver$Problem;)V"⟩
abbrev cX2_popInto : ByteArray := prog_4_method_5_code
def yX2_popInto : MethodName := ⟨RX2, "popInto", "(LSliceSolver$Problem;)V"⟩
abbrev cX2_forgetOldest : ByteArray := prog_4_method_6_code
def yX2_forgetOldest : MethodName := ⟨RX2, "forgetOldest", "()V"⟩
def RX3 : String := "SliceSolver$Model"
def TX3 : u_T := fun k => match k with
  | 0 => ("SliceSolver$Model", "flips", "[J", true)
  | 1 => ("SliceSolver$Model", "candidates", "[I", true)
  | 2 => ("SliceSolver$Model", "candidateCount", "I", false)
  | 3 => ("SliceSolver$Model", "ones", "[I", true)
  | _ => ("SliceSolver$Model", "oneCount", "I", false)
def tyX3 : Nat → FieldType := fun k => match k with
  | 0 => .array .long
  | 1 => .array .int
  | 2 => .int
  | 3 => .array .int
  | _ => .int
theorem nmX3 : ∀ a, a < 5 → ∀ b, b < 5 → a ≠ b → (TX3 a).2.1 ≠ (TX3 b).2.1 := by decide +kernel
theorem tyX3_ok : ∀ k, k < 5 → parseFieldDescriptor (TX3 k).2.2.1 = some (tyX3 k) := by decide +kernel
abbrev cX3_init : ByteArray := prog_5_method_1_code
def yX3_init : MethodName := ⟨RX3, "<init>", "()V"⟩
abbrev cX3_oneCount : ByteArray := prog_5_method_2_code
def yX3_oneCount : MethodName := ⟨RX3, "oneCount", "()I"⟩
abbrev cX3_hasOne : ByteArray := prog_5_method_3_code
def yX3_hasOne : MethodName := ⟨RX3, "hasOne", "(I)Z"⟩
abbrev cX3_choose : ByteArray := prog_5_method_4_code
def yX3_choose : MethodName := ⟨RX3, "choose", "(LSliceSolver$Statements;LSliceSolver$Classes;)V"⟩
abbrev cX3_wordOfZeros : ByteArray := prog_5_method_5_code
def yX3_wordOfZeros : MethodName := ⟨RX3, "wordOfZeros", "(LSliceSolver$Statements;LSliceSolver$Classes;)J"⟩
abbrev cX3_constantPlace : ByteArray := prog_5_method_6_code
def yX3_constantPlace : MethodName := ⟨RX3, "constantPlace", "(IJLSliceSolver$Classes;)J"⟩
abbrev cX3_gatherCandidates : ByteArray := prog_5_method_7_code
def yX3_gatherCandidates : MethodName := ⟨RX3, "gatherCandidates", "()V"⟩
abbrev cX3_pickThree : ByteArray := prog_5_method_8_code
def yX3_pickThree : MethodName := ⟨RX3, "pickThree", "(J)Z"⟩
abbrev cX3_pickLastTwo : ByteArray := prog_5_method_9_code
def yX3_pickLastTwo : MethodName := ⟨RX3, "pickLastTwo", "(IIJ)Z"⟩
abbrev cX3_pickLast : ByteArray := prog_5_method_10_code
def yX3_pickLast : MethodName := ⟨RX3, "pickLast", "(IIJ)Z"⟩
abbrev cX3_holds : ByteArray := prog_5_method_11_code
def yX3_holds : MethodName := ⟨RX3, "holds", "(J)Z"⟩
def RX4 : String := "SliceSolver$Problem"
def TX4 : u_T := fun k => match k with
  | 0 => ("SliceSolver$Problem", "widths", "[I", true)
  | 1 => ("SliceSolver$Problem", "equations", "LSliceSolver$Statements;", true)
  | _ => ("SliceSolver$Problem", "disequations", "LSliceSolver$Statements;", true)
def tyX4 : Nat → FieldType := fun k => match k with
  | 0 => .array .int
  | 1 => .object "SliceSolver$Statements"
  | _ => .object "SliceSolver$Statements"
theorem nmX4 : ∀ a, a < 3 → ∀ b, b < 3 → a ≠ b → (TX4 a).2.1 ≠ (TX4 b).2.1 := by decide +kernel
theorem tyX4_ok : ∀ k, k < 3 → parseFieldDescriptor (TX4 k).2.2.1 = some (tyX4 k) := by decide +kernel
abbrev cX4_init : ByteArray := prog_6_method_1_code
def yX4_init : MethodName := ⟨RX4, "<init>", "()V"⟩
abbrev cX4_widthOf : ByteArray := prog_6_method_2_code
def yX4_widthOf : MethodName := ⟨RX4, "widthOf", "(I)I"⟩
abbrev cX4_statementCount : ByteArray := prog_6_method_3_code
def yX4_statementCount : MethodName := ⟨RX4, "statementCount", "()I"⟩
abbrev cX4_declare : ByteArray := prog_6_method_4_code
def yX4_declare : MethodName := ⟨RX4, "declare", "(II)V"⟩
abbrev cX4_clear : ByteArray := prog_6_method_5_code
def yX4_clear : MethodName := ⟨RX4, "clear", "()V"⟩
abbrev cX4_copyFrom : ByteArray := prog_6_method_6_code
def yX4_copyFrom : MethodName := ⟨RX4, "copyFrom", "(LSliceSolver$Problem;)V"⟩
def RX5 : String := "SliceSolver$Reader"
def TX5 : u_T := fun k => match k with
  | 0 => ("SliceSolver$Reader", "text", "LSliceSolver$Text;", true)
  | 1 => ("SliceSolver$Reader", "term", "LSliceSolver$Term;", true)
  | 2 => ("SliceSolver$Reader", "high", "I", false)
  | _ => ("SliceSolver$Reader", "low", "I", false)
def tyX5 : Nat → FieldType := fun k => match k with
  | 0 => .object "SliceSolver$Text"
  | 1 => .object "SliceSolver$Term"
  | 2 => .int
  | _ => .int
theorem nmX5 : ∀ a, a < 4 → ∀ b, b < 4 → a ≠ b → (TX5 a).2.1 ≠ (TX5 b).2.1 := by decide +kernel
theorem tyX5_ok : ∀ k, k < 4 → parseFieldDescriptor (TX5 k).2.2.1 = some (tyX5 k) := by decide +kernel
abbrev cX5_init : ByteArray := prog_7_method_1_code
def yX5_init : MethodName := ⟨RX5, "<init>", "(LSliceSolver$Text;)V"⟩
abbrev cX5_read : ByteArray := prog_7_method_2_code
def yX5_read : MethodName := ⟨RX5, "read", "(LSliceSolver$Problem;)I"⟩
abbrev cX5_readDeclaration : ByteArray := prog_7_method_3_code
def yX5_readDeclaration : MethodName := ⟨RX5, "readDeclaration", "(LSliceSolver$Problem;)Z"⟩
abbrev cX5_readStatement : ByteArray := prog_7_method_4_code
def yX5_readStatement : MethodName := ⟨RX5, "readStatement", "(LSliceSolver$Problem;)Z"⟩
abbrev cX5_readTerm : ByteArray := prog_7_method_5_code
def yX5_readTerm : MethodName := ⟨RX5, "readTerm", "(LSliceSolver$Problem;)Z"⟩
abbrev cX5_readPart : ByteArray := prog_7_method_6_code
def yX5_readPart : MethodName := ⟨RX5, "readPart", "(LSliceSolver$Problem;)Z"⟩
abbrev cX5_readRange : ByteArray := prog_7_method_7_code
def yX5_readRange : MethodName := ⟨RX5, "readRange", "()Z"⟩
abbrev cX5_readConstant : ByteArray := prog_7_method_8_code
def yX5_readConstant : MethodName := ⟨RX5, "readConstant", "()Z"⟩
def RX6 : String := "SliceSolver$Statements"
def TX6 : u_T := fun k => match k with
  | 0 => ("SliceSolver$Statements", "capacity", "I", true)
  | 1 => ("SliceSolver$Statements", "count", "I", false)
  | 2 => ("SliceSolver$Statements", "widths", "[I", true)
  | 3 => ("SliceSolver$Statements", "nodes", "[I", true)
  | _ => ("SliceSolver$Statements", "partEnds", "[I", true)
def tyX6 : Nat → FieldType := fun k => match k with
  | 0 => .int
  | 1 => .int
  | 2 => .array .int
  | 3 => .array .int
  | _ => .array .int
theorem nmX6 : ∀ a, a < 5 → ∀ b, b < 5 → a ≠ b → (TX6 a).2.1 ≠ (TX6 b).2.1 := by decide +kernel
theorem tyX6_ok : ∀ k, k < 5 → parseFieldDescriptor (TX6 k).2.2.1 = some (tyX6 k) := by decide +kernel
abbrev cX6_init : ByteArray := prog_8_method_1_code
def yX6_init : MethodName := ⟨RX6, "<init>", "(I)V"⟩
abbrev cX6_count : ByteArray := prog_8_method_2_code
def yX6_count : MethodName := ⟨RX6, "count", "()I"⟩
abbrev cX6_isFull : ByteArray := prog_8_method_3_code
def yX6_isFull : MethodName := ⟨RX6, "isFull", "()Z"⟩
abbrev cX6_has : ByteArray := prog_8_method_4_code
def yX6_has : MethodName := ⟨RX6, "has", "(I)Z"⟩
abbrev cX6_widthOf : ByteArray := prog_8_method_5_code
def yX6_widthOf : MethodName := ⟨RX6, "widthOf", "(I)I"⟩
abbrev cX6_node : ByteArray := prog_8_method_6_code
def yX6_node : MethodName := ⟨RX6, "node", "(III)I"⟩
abbrev cX6_partEndsAt : ByteArray := prog_8_method_7_code
def yX6_partEndsAt : MethodName := ⟨RX6, "partEndsAt", "(III)Z"⟩
abbrev cX6_clear : ByteArray := prog_8_method_8_code
def yX6_clear : MethodName := ⟨RX6, "clear", "()V"⟩
abbrev cX6_putTerm : ByteArray := prog_8_method_9_code
def yX6_putTerm : MethodName := ⟨RX6, "putTerm", "(ILSliceSolver$Term;)V"⟩
abbrev cX6_finish : ByteArray := prog_8_method_10_code
def yX6_finish : MethodName := ⟨RX6, "finish", "(I)V"⟩
abbrev cX6_copyFrom : ByteArray := prog_8_method_11_code
def yX6_copyFrom : MethodName := ⟨RX6, "copyFrom", "(LSliceSolver$Statements;)V"⟩
abbrev cX6_drop : ByteArray := prog_8_method_12_code
def yX6_drop : MethodName := ⟨RX6, "drop", "(I)V"⟩
abbrev cX6_move : ByteArray := prog_8_method_13_code
def yX6_move : MethodName := ⟨RX6, "move", "(LSliceSolver$Statements;III)V"⟩
def RX7 : String := "SliceSolver$Term"
def TX7 : u_T := fun k => match k with
  | 0 => ("SliceSolver$Term", "nodes", "[I", true)
  | 1 => ("SliceSolver$Term", "partBegins", "I", false)
  | _ => ("SliceSolver$Term", "width", "I", false)
def tyX7 : Nat → FieldType := fun k => match k with
  | 0 => .array .int
  | 1 => .int
  | _ => .int
theorem nmX7 : ∀ a, a < 3 → ∀ b, b < 3 → a ≠ b → (TX7 a).2.1 ≠ (TX7 b).2.1 := by decide +kernel
theorem tyX7_ok : ∀ k, k < 3 → parseFieldDescriptor (TX7 k).2.2.1 = some (tyX7 k) := by decide +kernel
abbrev cX7_init : ByteArray := prog_9_method_1_code
def yX7_init : MethodName := ⟨RX7, "<init>", "()V"⟩
abbrev cX7_clear : ByteArray := prog_9_method_2_code
def yX7_clear : MethodName := ⟨RX7, "clear", "()V"⟩
abbrev cX7_bitCount : ByteArray := prog_9_method_3_code
def yX7_bitCount : MethodName := ⟨RX7, "bitCount", "()I"⟩
abbrev cX7_beginPart : ByteArray := prog_9_method_4_code
def yX7_beginPart : MethodName := ⟨RX7, "beginPart", "()V"⟩
abbrev cX7_add : ByteArray := prog_9_method_5_code
def yX7_add : MethodName := ⟨RX7, "add", "(I)V"⟩
abbrev cX7_addRange : ByteArray := prog_9_method_6_code
def yX7_addRange : MethodName := ⟨RX7, "addRange", "(II)V"⟩
abbrev cX7_node : ByteArray := prog_9_method_7_code
def yX7_node : MethodName := ⟨RX7, "node", "(I)I"⟩
abbrev cX7_partBeginsAt : ByteArray := prog_9_method_8_code
def yX7_partBeginsAt : MethodName := ⟨RX7, "partBeginsAt", "(I)Z"⟩
def RX8 : String := "SliceSolver$Text"
def TX8 : u_T := fun k => match k with
  | 0 => ("SliceSolver$Text", "signs", "[C", true)
  | 1 => ("SliceSolver$Text", "length", "I", false)
  | 2 => ("SliceSolver$Text", "kinds", "[I", true)
  | 3 => ("SliceSolver$Text", "starts", "[I", true)
  | 4 => ("SliceSolver$Text", "lengths", "[I", true)
  | 5 => ("SliceSolver$Text", "tokens", "I", false)
  | _ => ("SliceSolver$Text", "at", "I", false)
def tyX8 : Nat → FieldType := fun k => match k with
  | 0 => .array .char
  | 1 => .int
  | 2 => .array .int
  | 3 => .array .int
  | 4 => .array .int
  | 5 => .int
  | _ => .int
theorem nmX8 : ∀ a, a < 7 → ∀ b, b < 7 → a ≠ b → (TX8 a).2.1 ≠ (TX8 b).2.1 := by decide +kernel
theorem tyX8_ok : ∀ k, k < 7 → parseFieldDescriptor (TX8 k).2.2.1 = some (tyX8 k) := by decide +kernel
abbrev cX8_init : ByteArray := prog_10_method_1_code
def yX8_init : MethodName := ⟨RX8, "<init>", "()V"⟩
abbrev cX8_length : ByteArray := prog_10_method_2_code
def yX8_length : MethodName := ⟨RX8, "length", "()I"⟩
abbrev cX8_isFull : ByteArray := prog_10_method_3_code
def yX8_isFull : MethodName := ⟨RX8, "isFull", "()Z"⟩
abbrev cX8_add : ByteArray := prog_10_method_4_code
def yX8_add : MethodName := ⟨RX8, "add", "(C)V"⟩
abbrev cX8_clear : ByteArray := prog_10_method_5_code
def yX8_clear : MethodName := ⟨RX8, "clear", "()V"⟩
abbrev cX8_split : ByteArray := prog_10_method_6_code
def yX8_split : MethodName := ⟨RX8, "split", "()V"⟩
abbrev cX8_kind : ByteArray := prog_10_method_7_code
def yX8_kind : MethodName := ⟨RX8, "kind", "()I"⟩
abbrev cX8_start : ByteArray := prog_10_method_8_code
def yX8_start : MethodName := ⟨RX8, "start", "()I"⟩
abbrev cX8_advance : ByteArray := prog_10_method_9_code
def yX8_advance : MethodName := ⟨RX8, "advance", "()V"⟩
abbrev cX8_pass : ByteArray := prog_10_method_10_code
def yX8_pass : MethodName := ⟨RX8, "pass", "(I)Z"⟩
abbrev cX8_name : ByteArray := prog_10_method_11_code
def yX8_name : MethodName := ⟨RX8, "name", "()I"⟩
abbrev cX8_number : ByteArray := prog_10_method_12_code
def yX8_number : MethodName := ⟨RX8, "number", "()I"⟩
abbrev cX8_constantBits : ByteArray := prog_10_method_13_code
def yX8_constantBits : MethodName := ⟨RX8, "constantBits", "()I"⟩
abbrev cX8_constantBit : ByteArray := prog_10_method_14_code
def yX8_constantBit : MethodName := ⟨RX8, "constantBit", "(I)I"⟩
abbrev cX8_kindOfWord : ByteArray := prog_10_method_15_code
def yX8_kindOfWord : MethodName := ⟨RX8, "kindOfWord", "(II)I"⟩
abbrev cX8_isWord : ByteArray := prog_10_method_16_code
def yX8_isWord : MethodName := ⟨RX8, "isWord", "(IILjava/lang/String;)Z"⟩
abbrev cX8_kindOfSign : ByteArray := prog_10_method_17_code
def yX8_kindOfSign : MethodName := ⟨RX8, "kindOfSign", "(C)I"⟩
def RX9 : String := "SliceSolver"
def TX9 : u_T := fun k => match k with
  | 0 => ("SliceSolver", "text", "LSliceSolver$Text;", true)
  | 1 => ("SliceSolver", "reader", "LSliceSolver$Reader;", true)
  | 2 => ("SliceSolver", "problem", "LSliceSolver$Problem;", true)
  | 3 => ("SliceSolver", "draft", "LSliceSolver$Problem;", true)
  | 4 => ("SliceSolver", "history", "LSliceSolver$History;", true)
  | 5 => ("SliceSolver", "firstSnapshot", "LSliceSolver$Problem;", true)
  | 6 => ("SliceSolver", "secondSnapshot", "LSliceSolver$Problem;", true)
  | 7 => ("SliceSolver", "filledSlots", "I", false)
  | 8 => ("SliceSolver", "cuts", "LSliceSolver$Cuts;", true)
  | 9 => ("SliceSolver", "classes", "LSliceSolver$Classes;", true)
  | 10 => ("SliceSolver", "trial", "LSliceSolver$Classes;", true)
  | 11 => ("SliceSolver", "model", "LSliceSolver$Model;", true)
  | _ => ("SliceSolver", "modelIsCurrent", "Z", false)
def tyX9 : Nat → FieldType := fun k => match k with
  | 0 => .object "SliceSolver$Text"
  | 1 => .object "SliceSolver$Reader"
  | 2 => .object "SliceSolver$Problem"
  | 3 => .object "SliceSolver$Problem"
  | 4 => .object "SliceSolver$History"
  | 5 => .object "SliceSolver$Problem"
  | 6 => .object "SliceSolver$Problem"
  | 7 => .int
  | 8 => .object "SliceSolver$Cuts"
  | 9 => .object "SliceSolver$Classes"
  | 10 => .object "SliceSolver$Classes"
  | 11 => .object "SliceSolver$Model"
  | _ => .boolean
theorem nmX9 : ∀ a, a < 13 → ∀ b, b < 13 → a ≠ b → (TX9 a).2.1 ≠ (TX9 b).2.1 := by decide +kernel
theorem tyX9_ok : ∀ k, k < 13 → parseFieldDescriptor (TX9 k).2.2.1 = some (tyX9 k) := by decide +kernel
abbrev cX9_init : ByteArray := prog_1_method_1_code
def yX9_init : MethodName := ⟨RX9, "<init>", "()V"⟩
abbrev cX9_append : ByteArray := prog_1_method_2_code
def yX9_append : MethodName := ⟨RX9, "append", "(I)I"⟩
abbrev cX9_clearText : ByteArray := prog_1_method_3_code
def yX9_clearText : MethodName := ⟨RX9, "clearText", "()I"⟩
abbrev cX9_load : ByteArray := prog_1_method_4_code
def yX9_load : MethodName := ⟨RX9, "load", "()I"⟩
abbrev cX9_removeEquation : ByteArray := prog_1_method_5_code
def yX9_removeEquation : MethodName := ⟨RX9, "removeEquation", "(I)I"⟩
abbrev cX9_removeDisequation : ByteArray := prog_1_method_6_code
def yX9_removeDisequation : MethodName := ⟨RX9, "removeDisequation", "(I)I"⟩
abbrev cX9_width : ByteArray := prog_1_method_7_code
def yX9_width : MethodName := ⟨RX9, "width", "(I)I"⟩
abbrev cX9_equationCount : ByteArray := prog_1_method_8_code
def yX9_equationCount : MethodName := ⟨RX9, "equationCount", "()I"⟩
abbrev cX9_disequationCount : ByteArray := prog_1_method_9_code
def yX9_disequationCount : MethodName := ⟨RX9, "disequationCount", "()I"⟩
abbrev cX9_sliceCount : ByteArray := prog_1_method_10_code
def yX9_sliceCount : MethodName := ⟨RX9, "sliceCount", "(I)I"⟩
abbrev cX9_sliceStart : ByteArray := prog_1_method_11_code
def yX9_sliceStart : MethodName := ⟨RX9, "sliceStart", "(II)I"⟩
abbrev cX9_sliceWidth : ByteArray := prog_1_method_12_code
def yX9_sliceWidth : MethodName := ⟨RX9, "sliceWidth", "(II)I"⟩
abbrev cX9_representative : ByteArray := prog_1_method_13_code
def yX9_representative : MethodName := ⟨RX9, "representative", "(II)I"⟩
abbrev cX9_classCount : ByteArray := prog_1_method_14_code
def yX9_classCount : MethodName := ⟨RX9, "classCount", "()I"⟩
abbrev cX9_isConsistent : ByteArray := prog_1_method_15_code
def yX9_isConsistent : MethodName := ⟨RX9, "isConsistent", "()I"⟩
abbrev cX9_firstConflict : ByteArray := prog_1_method_16_code
def yX9_firstConflict : MethodName := ⟨RX9, "firstConflict", "()I"⟩
abbrev cX9_conflictSet : ByteArray := prog_1_method_17_code
def yX9_conflictSet : MethodName := ⟨RX9, "conflictSet", "()I"⟩
abbrev cX9_fixedBit : ByteArray := prog_1_method_18_code
def yX9_fixedBit : MethodName := ⟨RX9, "fixedBit", "(II)I"⟩
abbrev cX9_compareBits : ByteArray := prog_1_method_19_code
def yX9_compareBits : MethodName := ⟨RX9, "compareBits", "(IIII)I"⟩
abbrev cX9_freeBits : ByteArray := prog_1_method_20_code
def yX9_freeBits : MethodName := ⟨RX9, "freeBits", "()I"⟩
abbrev cX9_isSatisfiable : ByteArray := prog_1_method_21_code
def yX9_isSatisfiable : MethodName := ⟨RX9, "isSatisfiable", "()I"⟩
abbrev cX9_oneBits : ByteArray := prog_1_method_22_code
def yX9_oneBits : MethodName := ⟨RX9, "oneBits", "()I"⟩
abbrev cX9_value : ByteArray := prog_1_method_23_code
def yX9_value : MethodName := ⟨RX9, "value", "(I)I"⟩
abbrev cX9_isImplied : ByteArray := prog_1_method_24_code
def yX9_isImplied : MethodName := ⟨RX9, "isImplied", "(I)I"⟩
abbrev cX9_undo : ByteArray := prog_1_method_25_code
def yX9_undo : MethodName := ⟨RX9, "undo", "()I"⟩
abbrev cX9_undoDepth : ByteArray := prog_1_method_26_code
def yX9_undoDepth : MethodName := ⟨RX9, "undoDepth", "()I"⟩
abbrev cX9_save : ByteArray := prog_1_method_27_code
def yX9_save : MethodName := ⟨RX9, "save", "(I)I"⟩
abbrev cX9_restore : ByteArray := prog_1_method_28_code
def yX9_restore : MethodName := ⟨RX9, "restore", "(I)I"⟩
abbrev cX9_slice : ByteArray := prog_1_method_29_code
def yX9_slice : MethodName := ⟨RX9, "slice", "()V"⟩
abbrev cX9_tryEquations : ByteArray := prog_1_method_30_code
def yX9_tryEquations : MethodName := ⟨RX9, "tryEquations", "(I)V"⟩
abbrev cX9_chosenModel : ByteArray := prog_1_method_31_code
def yX9_chosenModel : MethodName := ⟨RX9, "chosenModel", "()LSliceSolver$Model;"⟩
abbrev cX9_slicesOf : ByteArray := prog_1_method_32_code
def yX9_slicesOf : MethodName := ⟨RX9, "slicesOf", "(I)I"⟩
abbrev cX9_isSlice : ByteArray := prog_1_method_33_code
def yX9_isSlice : MethodName := ⟨RX9, "isSlice", "(II)Z"⟩
abbrev cX9_isBit : ByteArray := prog_1_method_34_code
def yX9_isBit : MethodName := ⟨RX9, "isBit", "(II)Z"⟩
abbrev cX9_snapshot : ByteArray := prog_1_method_35_code
def yX9_snapshot : MethodName := ⟨RX9, "snapshot", "(I)LSliceSolver$Problem;"⟩
abbrev cX9_isSlot : ByteArray := prog_1_method_36_code
def yX9_isSlot : MethodName := ⟨RX9, "isSlot", "(I)Z"⟩
abbrev cX9_isVariable : ByteArray := prog_1_method_37_code
def yX9_isVariable : MethodName := ⟨RX9, "isVariable", "(I)Z"⟩
abbrev cX9_nodeOf : ByteArray := prog_1_method_38_code
def yX9_nodeOf : MethodName := ⟨RX9, "nodeOf", "(II)I"⟩
abbrev cX9_variableOf : ByteArray := prog_1_method_39_code
def yX9_variableOf : MethodName := ⟨RX9, "variableOf", "(I)I"⟩
abbrev cX9_bitOf : ByteArray := prog_1_method_40_code
def yX9_bitOf : MethodName := ⟨RX9, "bitOf", "(I)I"⟩
abbrev cX9_isConstantNode : ByteArray := prog_1_method_41_code
def yX9_isConstantNode : MethodName := ⟨RX9, "isConstantNode", "(I)Z"⟩
def RX10 : String := "SliceSolverModel"
def TX10 : u_T := fun k => match k with
  | 0 => ("SliceSolverModel", "thrown", "I", false)
  | 1 => ("SliceSolverModel", "s", "[I", true)
  | 2 => ("SliceSolverModel", "draft", "[I", true)
  | 3 => ("SliceSolverModel", "history", "[I", true)
  | 4 => ("SliceSolverModel", "depth", "I", false)
  | 5 => ("SliceSolverModel", "slots", "[I", true)
  | 6 => ("SliceSolverModel", "isSaved", "[Z", true)
  | 7 => ("SliceSolverModel", "text", "[I", true)
  | 8 => ("SliceSolverModel", "length", "I", false)
  | 9 => ("SliceSolverModel", "next", "I", false)
  | 10 => ("SliceSolverModel", "start", "I", false)
  | 11 => ("SliceSolverModel", "token", "I", false)
  | 12 => ("SliceSolverModel", "value", "I", false)
  | 13 => ("SliceSolverModel", "error", "I", false)
  | 14 => ("SliceSolverModel", "bits", "[I", true)
  | 15 => ("SliceSolverModel", "width", "I", false)
  | 16 => ("SliceSolverModel", "part", "I", false)
  | 17 => ("SliceSolverModel", "cut", "[Z", true)
  | 18 => ("SliceSolverModel", "hasChanged", "Z", false)
  | 19 => ("SliceSolverModel", "parent", "[I", true)
  | 20 => ("SliceSolverModel", "fixed", "[I", true)
  | 21 => ("SliceSolverModel", "isBroken", "Z", false)
  | 22 => ("SliceSolverModel", "ones", "[I", true)
  | 23 => ("SliceSolverModel", "oneCount", "I", false)
  | 24 => ("SliceSolverModel", "used", "[I", true)
  | _ => ("SliceSolverModel", "usedCount", "I", false)
def tyX10 : Nat → FieldType := fun k => match k with
  | 0 => .int
  | 1 => .array .int
  | 2 => .array .int
  | 3 => .array .int
  | 4 => .int
  | 5 => .array .int
  | 6 => .array .boolean
  | 7 => .array .int
  | 8 => .int
  | 9 => .int
  | 10 => .int
  | 11 => .int
  | 12 => .int
  | 13 => .int
  | 14 => .array .int
  | 15 => .int
  | 16 => .int
  | 17 => .array .boolean
  | 18 => .boolean
  | 19 => .array .int
  | 20 => .array .int
  | 21 => .boolean
  | 22 => .array .int
  | 23 => .int
  | 24 => .array .int
  | _ => .int
theorem nmX10 : ∀ a, a < 26 → ∀ b, b < 26 → a ≠ b → (TX10 a).2.1 ≠ (TX10 b).2.1 := by decide +kernel
theorem tyX10_ok : ∀ k, k < 26 → parseFieldDescriptor (TX10 k).2.2.1 = some (tyX10 k) := by decide +kernel
abbrev cX10_init : ByteArray := prog_12_method_1_code
def yX10_init : MethodName := ⟨RX10, "<init>", "()V"⟩
abbrev cX10_in : ByteArray := prog_12_method_3_code
def yX10_in : MethodName := ⟨RX10, "in", "(III)Z"⟩
abbrev cX10_characterAt : ByteArray := prog_12_method_4_code
def yX10_characterAt : MethodName := ⟨RX10, "characterAt", "(I)I"⟩
abbrev cX10_wordOf : ByteArray := prog_12_method_5_code
def yX10_wordOf : MethodName := ⟨RX10, "wordOf", "()I"⟩
abbrev cX10_isSignCharacter : ByteArray := prog_12_method_6_code
def yX10_isSignCharacter : MethodName := ⟨RX10, "isSignCharacter", "(I)Z"⟩
abbrev cX10_advance : ByteArray := prog_12_method_7_code
def yX10_advance : MethodName := ⟨RX10, "advance", "()V"⟩
abbrev cX10_isFine : ByteArray := prog_12_method_8_code
def yX10_isFine : MethodName := ⟨RX10, "isFine", "()Z"⟩
abbrev cX10_take : ByteArray := prog_12_method_9_code
def yX10_take : MethodName := ⟨RX10, "take", "(Z)I"⟩
abbrev cX10_isSign : ByteArray := prog_12_method_10_code
def yX10_isSign : MethodName := ⟨RX10, "isSign", "(I)Z"⟩
abbrev cX10_number : ByteArray := prog_12_method_11_code
def yX10_number : MethodName := ⟨RX10, "number", "(II)I"⟩
abbrev cX10_isName : ByteArray := prog_12_method_12_code
def yX10_isName : MethodName := ⟨RX10, "isName", "()Z"⟩
abbrev cX10_addBit : ByteArray := prog_12_method_13_code
def yX10_addBit : MethodName := ⟨RX10, "addBit", "(I)V"⟩
abbrev cX10_readRange : ByteArray := prog_12_method_14_code
def yX10_readRange : MethodName := ⟨RX10, "readRange", "()V"⟩
abbrev cX10_readConstant : ByteArray := prog_12_method_15_code
def yX10_readConstant : MethodName := ⟨RX10, "readConstant", "()V"⟩
abbrev cX10_readPart : ByteArray := prog_12_method_16_code
def yX10_readPart : MethodName := ⟨RX10, "readPart", "()V"⟩
abbrev cX10_readTerm : ByteArray := prog_12_method_17_code
def yX10_readTerm : MethodName := ⟨RX10, "readTerm", "()V"⟩
abbrev cX10_putTerm : ByteArray := prog_12_method_18_code
def yX10_putTerm : MethodName := ⟨RX10, "putTerm", "(I)V"⟩
abbrev cX10_readStatement : ByteArray := prog_12_method_19_code
def yX10_readStatement : MethodName := ⟨RX10, "readStatement", "(Z)V"⟩
abbrev cX10_readDeclaration : ByteArray := prog_12_method_20_code
def yX10_readDeclaration : MethodName := ⟨RX10, "readDeclaration", "()V"⟩
abbrev cX10_readItem : ByteArray := prog_12_method_21_code
def yX10_readItem : MethodName := ⟨RX10, "readItem", "()V"⟩
abbrev cX10_append : ByteArray := prog_12_method_22_code
def yX10_append : MethodName := ⟨RX10, "append", "(I)I"⟩
abbrev cX10_clearText : ByteArray := prog_12_method_23_code
def yX10_clearText : MethodName := ⟨RX10, "clearText", "()I"⟩
abbrev cX10_load : ByteArray := prog_12_method_24_code
def yX10_load : MethodName := ⟨RX10, "load", "()I"⟩
abbrev cX10_keep : ByteArray := prog_12_method_25_code
def yX10_keep : MethodName := ⟨RX10, "keep", "()V"⟩
abbrev cX10_removeAt : ByteArray := prog_12_method_26_code
def yX10_removeAt : MethodName := ⟨RX10, "removeAt", "(II)V"⟩
abbrev cX10_removeEquation : ByteArray := prog_12_method_27_code
def yX10_removeEquation : MethodName := ⟨RX10, "removeEquation", "(I)I"⟩
abbrev cX10_removeDisequation : ByteArray := prog_12_method_28_code
def yX10_removeDisequation : MethodName := ⟨RX10, "removeDisequation", "(I)I"⟩
abbrev cX10_isVariable : ByteArray := prog_12_method_29_code
def yX10_isVariable : MethodName := ⟨RX10, "isVariable", "(I)Z"⟩
abbrev cX10_width : ByteArray := prog_12_method_30_code
def yX10_width : MethodName := ⟨RX10, "width", "(I)I"⟩
abbrev cX10_equationCount : ByteArray := prog_12_method_31_code
def yX10_equationCount : MethodName := ⟨RX10, "equationCount", "()I"⟩
abbrev cX10_disequationCount : ByteArray := prog_12_method_32_code
def yX10_disequationCount : MethodName := ⟨RX10, "disequationCount", "()I"⟩
abbrev cX10_widthOf : ByteArray := prog_12_method_33_code
def yX10_widthOf : MethodName := ⟨RX10, "widthOf", "(I)I"⟩
abbrev cX10_bitOf : ByteArray := prog_12_method_34_code
def yX10_bitOf : MethodName := ⟨RX10, "bitOf", "(III)I"⟩
abbrev cX10_addCut : ByteArray := prog_12_method_35_code
def yX10_addCut : MethodName := ⟨RX10, "addCut", "(I)V"⟩
abbrev cX10_isOfVariable : ByteArray := prog_12_method_36_code
def yX10_isOfVariable : MethodName := ⟨RX10, "isOfVariable", "(I)Z"⟩
abbrev cX10_variableBit : ByteArray := prog_12_method_37_code
def yX10_variableBit : MethodName := ⟨RX10, "variableBit", "(I)I"⟩
abbrev cX10_areOfOnePart : ByteArray := prog_12_method_38_code
def yX10_areOfOnePart : MethodName := ⟨RX10, "areOfOnePart", "(II)Z"⟩
abbrev cX10_cutEnds : ByteArray := prog_12_method_39_code
def yX10_cutEnds : MethodName := ⟨RX10, "cutEnds", "(II)V"⟩
abbrev cX10_isMarked : ByteArray := prog_12_method_40_code
def yX10_isMarked : MethodName := ⟨RX10, "isMarked", "(III)Z"⟩
abbrev cX10_carry : ByteArray := prog_12_method_41_code
def yX10_carry : MethodName := ⟨RX10, "carry", "(III)V"⟩
abbrev cX10_findCuts : ByteArray := prog_12_method_42_code
def yX10_findCuts : MethodName := ⟨RX10, "findCuts", "()V"⟩
abbrev cX10_slicesOf : ByteArray := prog_12_method_43_code
def yX10_slicesOf : MethodName := ⟨RX10, "slicesOf", "(I)I"⟩
abbrev cX10_startOf : ByteArray := prog_12_method_44_code
def yX10_startOf : MethodName := ⟨RX10, "startOf", "(II)I"⟩
abbrev cX10_sliceOfBit : ByteArray := prog_12_method_45_code
def yX10_sliceOfBit : MethodName := ⟨RX10, "sliceOfBit", "(II)I"⟩
abbrev cX10_sliceCount : ByteArray := prog_12_method_46_code
def yX10_sliceCount : MethodName := ⟨RX10, "sliceCount", "(I)I"⟩
abbrev cX10_isSlice : ByteArray := prog_12_method_47_code
def yX10_isSlice : MethodName := ⟨RX10, "isSlice", "(II)Z"⟩
abbrev cX10_sliceStart : ByteArray := prog_12_method_48_code
def yX10_sliceStart : MethodName := ⟨RX10, "sliceStart", "(II)I"⟩
abbrev cX10_sliceWidth : ByteArray := prog_12_method_49_code
def yX10_sliceWidth : MethodName := ⟨RX10, "sliceWidth", "(II)I"⟩
abbrev cX10_rootOf : ByteArray := prog_12_method_50_code
def yX10_rootOf : MethodName := ⟨RX10, "rootOf", "(I)I"⟩
abbrev cX10_fix : ByteArray := prog_12_method_51_code
def yX10_fix : MethodName := ⟨RX10, "fix", "(II)V"⟩
abbrev cX10_equate : ByteArray := prog_12_method_52_code
def yX10_equate : MethodName := ⟨RX10, "equate", "(II)V"⟩
abbrev cX10_join : ByteArray := prog_12_method_53_code
def yX10_join : MethodName := ⟨RX10, "join", "(II)V"⟩
abbrev cX10_equateTerms : ByteArray := prog_12_method_54_code
def yX10_equateTerms : MethodName := ⟨RX10, "equateTerms", "(I)V"⟩
abbrev cX10_solve : ByteArray := prog_12_method_55_code
def yX10_solve : MethodName := ⟨RX10, "solve", "(I)Z"⟩
abbrev cX10_solveAll : ByteArray := prog_12_method_56_code
def yX10_solveAll : MethodName := ⟨RX10, "solveAll", "()Z"⟩
abbrev cX10_representative : ByteArray := prog_12_method_57_code
def yX10_representative : MethodName := ⟨RX10, "representative", "(II)I"⟩
abbrev cX10_classCount : ByteArray := prog_12_method_58_code
def yX10_classCount : MethodName := ⟨RX10, "classCount", "()I"⟩
abbrev cX10_isConsistent : ByteArray := prog_12_method_59_code
def yX10_isConsistent : MethodName := ⟨RX10, "isConsistent", "()I"⟩
abbrev cX10_firstConflict : ByteArray := prog_12_method_60_code
def yX10_firstConflict : MethodName := ⟨RX10, "firstConflict", "()I"⟩
abbrev cX10_conflictSet : ByteArray := prog_12_method_61_code
def yX10_conflictSet : MethodName := ⟨RX10, "conflictSet", "()I"⟩
abbrev cX10_isBit : ByteArray := prog_12_method_62_code
def yX10_isBit : MethodName := ⟨RX10, "isBit", "(II)Z"⟩
abbrev cX10_fixedBit : ByteArray := prog_12_method_63_code
def yX10_fixedBit : MethodName := ⟨RX10, "fixedBit", "(II)I"⟩
abbrev cX10_compareBits : ByteArray := prog_12_method_64_code
def yX10_compareBits : MethodName := ⟨RX10, "compareBits", "(IIII)I"⟩
abbrev cX10_isFree : ByteArray := prog_12_method_65_code
def yX10_isFree : MethodName := ⟨RX10, "isFree", "(I)Z"⟩
abbrev cX10_freeBits : ByteArray := prog_12_method_66_code
def yX10_freeBits : MethodName := ⟨RX10, "freeBits", "()I"⟩
abbrev cX10_valueOf : ByteArray := prog_12_method_67_code
def yX10_valueOf : MethodName := ⟨RX10, "valueOf", "(I)I"⟩
abbrev cX10_holds : ByteArray := prog_12_method_68_code
def yX10_holds : MethodName := ⟨RX10, "holds", "(I)Z"⟩
abbrev cX10_isModel : ByteArray := prog_12_method_69_code
def yX10_isModel : MethodName := ⟨RX10, "isModel", "()Z"⟩
abbrev cX10_occurs : ByteArray := prog_12_method_70_code
def yX10_occurs : MethodName := ⟨RX10, "occurs", "(I)Z"⟩
abbrev cX10_findUsed : ByteArray := prog_12_method_71_code
def yX10_findUsed : MethodName := ⟨RX10, "findUsed", "()V"⟩
abbrev cX10_search : ByteArray := prog_12_method_72_code
def yX10_search : MethodName := ⟨RX10, "search", "(I)Z"⟩
abbrev cX10_choose : ByteArray := prog_12_method_73_code
def yX10_choose : MethodName := ⟨RX10, "choose", "()Z"⟩
abbrev cX10_isSatisfiable : ByteArray := prog_12_method_74_code
def yX10_isSatisfiable : MethodName := ⟨RX10, "isSatisfiable", "()I"⟩
abbrev cX10_oneBits : ByteArray := prog_12_method_75_code
def yX10_oneBits : MethodName := ⟨RX10, "oneBits", "()I"⟩
abbrev cX10_value : ByteArray := prog_12_method_76_code
def yX10_value : MethodName := ⟨RX10, "value", "(I)I"⟩
abbrev cX10_isImplied : ByteArray := prog_12_method_77_code
def yX10_isImplied : MethodName := ⟨RX10, "isImplied", "(I)I"⟩
abbrev cX10_undo : ByteArray := prog_12_method_78_code
def yX10_undo : MethodName := ⟨RX10, "undo", "()I"⟩
abbrev cX10_undoDepth : ByteArray := prog_12_method_79_code
def yX10_undoDepth : MethodName := ⟨RX10, "undoDepth", "()I"⟩
abbrev cX10_save : ByteArray := prog_12_method_80_code
def yX10_save : MethodName := ⟨RX10, "save", "(I)I"⟩
abbrev cX10_restore : ByteArray := prog_12_method_81_code
def yX10_restore : MethodName := ⟨RX10, "restore", "(I)I"⟩
def RJ6 : String := "java/lang/Integer"
def TJ6 : u_T := fun k => match k with
  | _ => ("", "", "", false)
def tyJ6 : Nat → FieldType := fun k => match k with
  | _ => .int
theorem nmJ6 : ∀ a, a < 0 → ∀ b, b < 0 → a ≠ b → (TJ6 a).2.1 ≠ (TJ6 b).2.1 := by decide +kernel
theorem tyJ6_ok : ∀ k, k < 0 → parseFieldDescriptor (TJ6 k).2.2.1 = some (tyJ6 k) := by decide +kernel
abbrev cJ6_bitCount_0f7a4 : ByteArray := prog_13_method_49_code
def yJ6_bitCount_0f7a4 : MethodName := ⟨RJ6, "bitCount", "(I)I"⟩
def RJ9 : String := "java/lang/Math"
def TJ9 : u_T := fun k => match k with
  | _ => ("", "", "", false)
def tyJ9 : Nat → FieldType := fun k => match k with
  | _ => .int
theorem nmJ9 : ∀ a, a < 0 → ∀ b, b < 0 → a ≠ b → (TJ9 a).2.1 ≠ (TJ9 b).2.1 := by decide +kernel
theorem tyJ9_ok : ∀ k, k < 0 → parseFieldDescriptor (TJ9 k).2.2.1 = some (tyJ9 k) := by decide +kernel
abbrev cJ9_max_7cf53 : ByteArray := prog_14_method_65_code
def yJ9_max_7cf53 : MethodName := ⟨RJ9, "max", "(II)I"⟩
abbrev cJ9_min_7cf53 : ByteArray := prog_14_method_69_code
def yJ9_min_7cf53 : MethodName := ⟨RJ9, "min", "(II)I"⟩
def RJ0 : String := "java/lang/String"
def TJ0 : u_T := fun k => match k with
  | _ => ("", "", "", false)
def tyJ0 : Nat → FieldType := fun k => match k with
  | _ => .int
theorem nmJ0 : ∀ a, a < 0 → ∀ b, b < 0 → a ≠ b → (TJ0 a).2.1 ≠ (TJ0 b).2.1 := by decide +kernel
theorem tyJ0_ok : ∀ k, k < 0 → parseFieldDescriptor (TJ0 k).2.2.1 = some (tyJ0 k) := by decide +kernel
abbrev cJ0_length_8abf5 : ByteArray := prog_15_method_54_code
def yJ0_length_8abf5 : MethodName := ⟨RJ0, "length", "()I"⟩
abbrev cJ0_charAt_5068e : ByteArray := prog_15_method_56_code
def yJ0_charAt_5068e : MethodName := ⟨RJ0, "charAt", "(I)C"⟩
abbrev cJ0_coder_7d493 : ByteArray := prog_15_method_152_code
def yJ0_coder_7d493 : MethodName := ⟨RJ0, "coder", "()B"⟩
abbrev cJ0_isLatin1_aae02 : ByteArray := prog_15_method_154_code
def yJ0_isLatin1_aae02 : MethodName := ⟨RJ0, "isLatin1", "()Z"⟩
abbrev cJ0_checkIndex_df160 : ByteArray := prog_15_method_155_code
def yJ0_checkIndex_df160 : MethodName := ⟨RJ0, "checkIndex", "(II)V"⟩
def RJ1 : String := "java/lang/StringLatin1"
def TJ1 : u_T := fun k => match k with
  | _ => ("", "", "", false)
def tyJ1 : Nat → FieldType := fun k => match k with
  | _ => .int
theorem nmJ1 : ∀ a, a < 0 → ∀ b, b < 0 → a ≠ b → (TJ1 a).2.1 ≠ (TJ1 b).2.1 := by decide +kernel
theorem tyJ1_ok : ∀ k, k < 0 → parseFieldDescriptor (TJ1 k).2.2.1 = some (tyJ1 k) := by decide +kernel
abbrev cJ1_charAt_3b067 : ByteArray := prog_16_method_2_code
def yJ1_charAt_3b067 : MethodName := ⟨RJ1, "charAt", "([BI)C"⟩
def RJ2 : String := "java/lang/StringUTF16"
def TJ2 : u_T := fun k => match k with
  | _ => ("", "", "", false)
def tyJ2 : Nat → FieldType := fun k => match k with
  | _ => .int
theorem nmJ2 : ∀ a, a < 0 → ∀ b, b < 0 → a ≠ b → (TJ2 a).2.1 ≠ (TJ2 b).2.1 := by decide +kernel
theorem tyJ2_ok : ∀ k, k < 0 → parseFieldDescriptor (TJ2 k).2.2.1 = some (tyJ2 k) := by decide +kernel
abbrev cJ2_getChar_3b067 : ByteArray := prog_17_method_5_code
def yJ2_getChar_3b067 : MethodName := ⟨RJ2, "getChar", "([BI)C"⟩
abbrev cJ2_length_9d52b : ByteArray := prog_17_method_6_code
def yJ2_length_9d52b : MethodName := ⟨RJ2, "length", "([B)I"⟩
abbrev cJ2_charAt_3b067 : ByteArray := prog_17_method_83_code
def yJ2_charAt_3b067 : MethodName := ⟨RJ2, "charAt", "([BI)C"⟩
abbrev cJ2_checkIndex_2214a : ByteArray := prog_17_method_91_code
def yJ2_checkIndex_2214a : MethodName := ⟨RJ2, "checkIndex", "(I[B)V"⟩
def RJ10 : String := "java/lang/System"
def TJ10 : u_T := fun k => match k with
  | _ => ("", "", "", false)
def tyJ10 : Nat → FieldType := fun k => match k with
  | _ => .int
theorem nmJ10 : ∀ a, a < 0 → ∀ b, b < 0 → a ≠ b → (TJ10 a).2.1 ≠ (TJ10 b).2.1 := by decide +kernel
theorem tyJ10_ok : ∀ k, k < 0 → parseFieldDescriptor (TJ10 k).2.2.1 = some (tyJ10 k) := by decide +kernel
def RJ7 : String := "java/util/Arrays"
def TJ7 : u_T := fun k => match k with
  | _ => ("", "", "", false)
def tyJ7 : Nat → FieldType := fun k => match k with
  | _ => .int
theorem nmJ7 : ∀ a, a < 0 → ∀ b, b < 0 → a ≠ b → (TJ7 a).2.1 ≠ (TJ7 b).2.1 := by decide +kernel
theorem tyJ7_ok : ∀ k, k < 0 → parseFieldDescriptor (TJ7 k).2.2.1 = some (tyJ7 k) := by decide +kernel
abbrev cJ7_fill_d0a16 : ByteArray := prog_19_method_101_code
def yJ7_fill_d0a16 : MethodName := ⟨RJ7, "fill", "([JJ)V"⟩
abbrev cJ7_fill_53178 : ByteArray := prog_19_method_103_code
def yJ7_fill_53178 : MethodName := ⟨RJ7, "fill", "([II)V"⟩
def RJ3 : String := "jdk/internal/util/Preconditions"
def TJ3 : u_T := fun k => match k with
  | _ => ("", "", "", false)
def tyJ3 : Nat → FieldType := fun k => match k with
  | _ => .int
theorem nmJ3 : ∀ a, a < 0 → ∀ b, b < 0 → a ≠ b → (TJ3 a).2.1 ≠ (TJ3 b).2.1 := by decide +kernel
theorem tyJ3_ok : ∀ k, k < 0 → parseFieldDescriptor (TJ3 k).2.2.1 = some (tyJ3 k) := by decide +kernel
abbrev cJ3_checkIndex_8e157 : ByteArray := prog_20_method_11_code
def yJ3_checkIndex_8e157 : MethodName := ⟨RJ3, "checkIndex", "(IILjava/util/function/BiFunction;)I"⟩
def RL : String := "SliceSolverLaw"
abbrev cL_law : ByteArray := code
def yL_law : MethodName := ⟨RL, "law", "([I)Z"⟩
abbrev vwCl : List vw_C := [(RX0, TX0, 3), (RX1, TX1, 1), (RX2, TX2, 2), (RX3, TX3, 5), (RX4, TX4, 3), (RX5, TX5, 4), (RX6, TX6, 5), (RX7, TX7, 3), (RX8, TX8, 7), (RX9, TX9, 13), (RX10, TX10, 26)]
end
section
theorem dX0_init_0 : decode cX0_init 0 = .ok (.aload_n 0, 1) := by decide +kernel
theorem dX0_init_1 : decode cX0_init 1 = .ok (.invokespecial 3, 3) := by decide +kernel
theorem dX0_init_4 : decode cX0_init 4 = .ok (.aload_n 0, 1) := by decide +kernel
theorem dX0_init_5 : decode cX0_init 5 = .ok (.sipush 128, 3) := by decide +kernel
theorem dX0_init_8 : decode cX0_init 8 = .ok (.newarray .int, 2) := by decide +kernel
theorem dX0_init_10 : decode cX0_init 10 = .ok (.putfield 9, 3) := by decide +kernel
theorem dX0_init_13 : decode cX0_init 13 = .ok (.aload_n 0, 1) := by decide +kernel
theorem dX0_init_14 : decode cX0_init 14 = .ok (.sipush 128, 3) := by decide +kernel
theorem dX0_init_17 : decode cX0_init 17 = .ok (.newarray .int, 2) := by decide +kernel
theorem dX0_init_19 : decode cX0_init 19 = .ok (.putfield 15, 3) := by decide +kernel
theorem dX0_init_22 : decode cX0_init 22 = .ok (.aload_n 0, 1) := by decide +kernel
theorem dX0_init_23 : decode cX0_init 23 = .ok (.invokevirtual 18, 3) := by decide +kernel
theorem dX0_init_26 : decode cX0_init 26 = .ok (.return_, 1) := by decide +kernel
theorem dX0_clear_0 : decode cX0_clear 0 = .ok (.iconst 0, 1) := by decide +kernel
theorem dX0_clear_1 : decode cX0_clear 1 = .ok (.istore_n 1, 1) := by decide +kernel
theorem dX0_clear_2 : decode cX0_clear 2 = .ok (.iload_n 1, 1) := by decide +kernel
theorem dX0_clear_3 : decode cX0_clear 3 = .ok (.sipush 128, 3) := by decide +kernel
theorem dX0_clear_6 : decode cX0_clear 6 = .ok (.if_icmp .ge 16, 3) := by decide +kernel
theorem dX0_clear_9 : decode cX0_clear 9 = .ok (.aload_n 0, 1) := by decide +kernel
theorem dX0_clear_10 : decode cX0_clear 10 = .ok (.getfield 9, 3) := by decide +kernel
theorem dX0_clear_13 : decode cX0_clear 13 = .ok (.iload_n 1, 1) := by decide +kernel
theorem dX0_clear_14 : decode cX0_clear 14 = .ok (.iload_n 1, 1) := by decide +kernel
theorem dX0_clear_15 : decode cX0_clear 15 = .ok (.iastore, 1) := by decide +kernel
theorem dX0_clear_16 : decode cX0_clear 16 = .ok (.iinc 1 1, 3) := by decide +kernel
theorem dX0_clear_19 : decode cX0_clear 19 = .ok (.goto (-17), 3) := by decide +kernel
theorem dX0_clear_22 : decode cX0_clear 22 = .ok (.aload_n 0, 1) := by decide +kernel
theorem dX0_clear_23 : decode cX0_clear 23 = .ok (.getfield 15, 3) := by decide +kernel
theorem dX0_clear_26 : decode cX0_clear 26 = .ok (.iconst (-1), 1) := by decide +kernel
theorem dX0_clear_27 : decode cX0_clear 27 = .ok (.invokestatic 21, 3) := by decide +kernel
theorem dX0_clear_30 : decode cX0_clear 30 = .ok (.aload_n 0, 1) := by decide +kernel
theorem dX0_clear_31 : decode cX0_clear 31 = .ok (.iconst 1, 1) := by decide +kernel
theorem dX0_clear_32 : decode cX0_clear 32 = .ok (.putfield 27, 3) := by decide +kernel
theorem dX0_clear_35 : decode cX0_clear 35 = .ok (.return_, 1) := by decide +kernel
theorem dX0_agree_0 : decode cX0_agree 0 = .ok (.aload_n 0, 1) := by decide +kernel
theorem dX0_agree_1 : decode cX0_agree 1 = .ok (.getfield 27, 3) := by decide +kernel
theorem dX0_agree_4 : decode cX0_agree 4 = .ok (.ireturn, 1) := by decide +kernel
theorem dX0_rootOf_0 : decode cX0_rootOf 0 = .ok (.iload_n 1, 1) := by decide +kernel
theorem dX0_rootOf_1 : decode cX0_rootOf 1 = .ok (.istore_n 2, 1) := by decide +kernel
theorem dX0_rootOf_2 : decode cX0_rootOf 2 = .ok (.iconst 0, 1) := by decide +kernel
theorem dX0_rootOf_3 : decode cX0_rootOf 3 = .ok (.istore_n 3, 1) := by decide +kernel
theorem dX0_rootOf_4 : decode cX0_rootOf 4 = .ok (.iload_n 3, 1) := by decide +kernel
theorem dX0_rootOf_5 : decode cX0_rootOf 5 = .ok (.sipush 128, 3) := by decide +kernel
theorem dX0_rootOf_8 : decode cX0_rootOf 8 = .ok (.if_icmp .ge 43, 3) := by decide +kernel
theorem dX0_rootOf_11 : decode cX0_rootOf 11 = .ok (.aload_n 0, 1) := by decide +kernel
theorem dX0_rootOf_12 : decode cX0_rootOf 12 = .ok (.getfield 9, 3) := by decide +kernel
theorem dX0_rootOf_15 : decode cX0_rootOf 15 = .ok (.iload_n 2, 1) := by decide +kernel
theorem dX0_rootOf_16 : decode cX0_rootOf 16 = .ok (.iaload, 1) := by decide +kernel
theorem dX0_rootOf_17 : decode cX0_rootOf 17 = .ok (.iload_n 2, 1) := by decide +kernel
theorem dX0_rootOf_18 : decode cX0_rootOf 18 = .ok (.if_icmp .eq 33, 3) := by decide +kernel
theorem dX0_rootOf_21 : decode cX0_rootOf 21 = .ok (.aload_n 0, 1) := by decide +kernel
theorem dX0_rootOf_22 : decode cX0_rootOf 22 = .ok (.getfield 9, 3) := by decide +kernel
theorem dX0_rootOf_25 : decode cX0_rootOf 25 = .ok (.iload_n 2, 1) := by decide +kernel
theorem dX0_rootOf_26 : decode cX0_rootOf 26 = .ok (.aload_n 0, 1) := by decide +kernel
theorem dX0_rootOf_27 : decode cX0_rootOf 27 = .ok (.getfield 9, 3) := by decide +kernel
theorem dX0_rootOf_30 : decode cX0_rootOf 30 = .ok (.aload_n 0, 1) := by decide +kernel
theorem dX0_rootOf_31 : decode cX0_rootOf 31 = .ok (.getfield 9, 3) := by decide +kernel
theorem dX0_rootOf_34 : decode cX0_rootOf 34 = .ok (.iload_n 2, 1) := by decide +kernel
theorem dX0_rootOf_35 : decode cX0_rootOf 35 = .ok (.iaload, 1) := by decide +kernel
theorem dX0_rootOf_36 : decode cX0_rootOf 36 = .ok (.iaload, 1) := by decide +kernel
theorem dX0_rootOf_37 : decode cX0_rootOf 37 = .ok (.iastore, 1) := by decide +kernel
theorem dX0_rootOf_38 : decode cX0_rootOf 38 = .ok (.aload_n 0, 1) := by decide +kernel
theorem dX0_rootOf_39 : decode cX0_rootOf 39 = .ok (.getfield 9, 3) := by decide +kernel
theorem dX0_rootOf_42 : decode cX0_rootOf 42 = .ok (.iload_n 2, 1) := by decide +kernel
theorem dX0_rootOf_43 : decode cX0_rootOf 43 = .ok (.iaload, 1) := by decide +kernel
theorem dX0_rootOf_44 : decode cX0_rootOf 44 = .ok (.istore_n 2, 1) := by decide +kernel
theorem dX0_rootOf_45 : decode cX0_rootOf 45 = .ok (.iinc 3 1, 3) := by decide +kernel
theorem dX0_rootOf_48 : decode cX0_rootOf 48 = .ok (.goto (-44), 3) := by decide +kernel
theorem dX0_rootOf_51 : decode cX0_rootOf 51 = .ok (.iload_n 2, 1) := by decide +kernel
theorem dX0_rootOf_52 : decode cX0_rootOf 52 = .ok (.ireturn, 1) := by decide +kernel
theorem dX0_constantOf_0 : decode cX0_constantOf 0 = .ok (.iload_n 1, 1) := by decide +kernel
theorem dX0_constantOf_1 : decode cX0_constantOf 1 = .ok (.invokestatic 31, 3) := by decide +kernel
theorem dX0_constantOf_4 : decode cX0_constantOf 4 = .ok (.ifCond .eq 11, 3) := by decide +kernel
theorem dX0_constantOf_7 : decode cX0_constantOf 7 = .ok (.iload_n 1, 1) := by decide +kernel
theorem dX0_constantOf_8 : decode cX0_constantOf 8 = .ok (.sipush 128, 3) := by decide +kernel
theorem dX0_constantOf_11 : decode cX0_constantOf 11 = .ok (.isub, 1) := by decide +kernel
theorem dX0_constantOf_12 : decode cX0_constantOf 12 = .ok (.goto 13, 3) := by decide +kernel
theorem dX0_constantOf_15 : decode cX0_constantOf 15 = .ok (.aload_n 0, 1) := by decide +kernel
theorem dX0_constantOf_16 : decode cX0_constantOf 16 = .ok (.getfield 15, 3) := by decide +kernel
theorem dX0_constantOf_19 : decode cX0_constantOf 19 = .ok (.aload_n 0, 1) := by decide +kernel
theorem dX0_constantOf_20 : decode cX0_constantOf 20 = .ok (.iload_n 1, 1) := by decide +kernel
theorem dX0_constantOf_21 : decode cX0_constantOf 21 = .ok (.invokevirtual 35, 3) := by decide +kernel
theorem dX0_constantOf_24 : decode cX0_constantOf 24 = .ok (.iaload, 1) := by decide +kernel
theorem dX0_constantOf_25 : decode cX0_constantOf 25 = .ok (.ireturn, 1) := by decide +kernel
theorem dX0_equate_0 : decode cX0_equate 0 = .ok (.iconst 0, 1) := by decide +kernel
theorem dX0_equate_1 : decode cX0_equate 1 = .ok (.istore_n 3, 1) := by decide +kernel
theorem dX0_equate_2 : decode cX0_equate 2 = .ok (.iload_n 3, 1) := by decide +kernel
theorem dX0_equate_3 : decode cX0_equate 3 = .ok (.aload_n 1, 1) := by decide +kernel
theorem dX0_equate_4 : decode cX0_equate 4 = .ok (.iload_n 2, 1) := by decide +kernel
theorem dX0_equate_5 : decode cX0_equate 5 = .ok (.invokevirtual 39, 3) := by decide +kernel
theorem dX0_equate_8 : decode cX0_equate 8 = .ok (.if_icmp .ge 27, 3) := by decide +kernel
theorem dX0_equate_11 : decode cX0_equate 11 = .ok (.aload_n 0, 1) := by decide +kernel
theorem dX0_equate_12 : decode cX0_equate 12 = .ok (.aload_n 1, 1) := by decide +kernel
theorem dX0_equate_13 : decode cX0_equate 13 = .ok (.iload_n 2, 1) := by decide +kernel
theorem dX0_equate_14 : decode cX0_equate 14 = .ok (.iconst 0, 1) := by decide +kernel
theorem dX0_equate_15 : decode cX0_equate 15 = .ok (.iload_n 3, 1) := by decide +kernel
theorem dX0_equate_16 : decode cX0_equate 16 = .ok (.invokevirtual 44, 3) := by decide +kernel
theorem dX0_equate_19 : decode cX0_equate 19 = .ok (.aload_n 1, 1) := by decide +kernel
theorem dX0_equate_20 : decode cX0_equate 20 = .ok (.iload_n 2, 1) := by decide +kernel
theorem dX0_equate_21 : decode cX0_equate 21 = .ok (.iconst 1, 1) := by decide +kernel
theorem dX0_equate_22 : decode cX0_equate 22 = .ok (.iload_n 3, 1) := by decide +kernel
theorem dX0_equate_23 : decode cX0_equate 23 = .ok (.invokevirtual 44, 3) := by decide +kernel
theorem dX0_equate_26 : decode cX0_equate 26 = .ok (.invokevirtual 48, 3) := by decide +kernel
theorem dX0_equate_29 : decode cX0_equate 29 = .ok (.iinc 3 1, 3) := by decide +kernel
theorem dX0_equate_32 : decode cX0_equate 32 = .ok (.goto (-30), 3) := by decide +kernel
theorem dX0_equate_35 : decode cX0_equate 35 = .ok (.return_, 1) := by decide +kernel
theorem dX0_join_0 : decode cX0_join 0 = .ok (.iload_n 1, 1) := by decide +kernel
theorem dX0_join_1 : decode cX0_join 1 = .ok (.invokestatic 31, 3) := by decide +kernel
theorem dX0_join_4 : decode cX0_join 4 = .ok (.ifCond .eq 34, 3) := by decide +kernel
theorem dX0_join_7 : decode cX0_join 7 = .ok (.iload_n 2, 1) := by decide +kernel
theorem dX0_join_8 : decode cX0_join 8 = .ok (.invokestatic 31, 3) := by decide +kernel
theorem dX0_join_11 : decode cX0_join 11 = .ok (.ifCond .eq 27, 3) := by decide +kernel
theorem dX0_join_14 : decode cX0_join 14 = .ok (.aload_n 0, 1) := by decide +kernel
theorem dX0_join_15 : decode cX0_join 15 = .ok (.aload_n 0, 1) := by decide +kernel
theorem dX0_join_16 : decode cX0_join 16 = .ok (.getfield 27, 3) := by decide +kernel
theorem dX0_join_19 : decode cX0_join 19 = .ok (.ifCond .eq 12, 3) := by decide +kernel
theorem dX0_join_22 : decode cX0_join 22 = .ok (.iload_n 1, 1) := by decide +kernel
theorem dX0_join_23 : decode cX0_join 23 = .ok (.iload_n 2, 1) := by decide +kernel
theorem dX0_join_24 : decode cX0_join 24 = .ok (.if_icmp .ne 7, 3) := by decide +kernel
theorem dX0_join_27 : decode cX0_join 27 = .ok (.iconst 1, 1) := by decide +kernel
theorem dX0_join_28 : decode cX0_join 28 = .ok (.goto 4, 3) := by decide +kernel
theorem dX0_join_31 : decode cX0_join 31 = .ok (.iconst 0, 1) := by decide +kernel
theorem dX0_join_32 : decode cX0_join 32 = .ok (.putfield 27, 3) := by decide +kernel
theorem dX0_join_35 : decode cX0_join 35 = .ok (.goto 65, 3) := by decide +kernel
theorem dX0_join_38 : decode cX0_join 38 = .ok (.iload_n 1, 1) := by decide +kernel
theorem dX0_join_39 : decode cX0_join 39 = .ok (.invokestatic 31, 3) := by decide +kernel
theorem dX0_join_42 : decode cX0_join 42 = .ok (.ifCond .eq 20, 3) := by decide +kernel
theorem dX0_join_45 : decode cX0_join 45 = .ok (.aload_n 0, 1) := by decide +kernel
theorem dX0_join_46 : decode cX0_join 46 = .ok (.aload_n 0, 1) := by decide +kernel
theorem dX0_join_47 : decode cX0_join 47 = .ok (.iload_n 2, 1) := by decide +kernel
theorem dX0_join_48 : decode cX0_join 48 = .ok (.invokevirtual 35, 3) := by decide +kernel
theorem dX0_join_51 : decode cX0_join 51 = .ok (.iload_n 1, 1) := by decide +kernel
theorem dX0_join_52 : decode cX0_join 52 = .ok (.sipush 128, 3) := by decide +kernel
theorem dX0_join_55 : decode cX0_join 55 = .ok (.isub, 1) := by decide +kernel
theorem dX0_join_56 : decode cX0_join 56 = .ok (.invokevirtual 52, 3) := by decide +kernel
theorem dX0_join_59 : decode cX0_join 59 = .ok (.goto 41, 3) := by decide +kernel
theorem dX0_join_62 : decode cX0_join 62 = .ok (.iload_n 2, 1) := by decide +kernel
theorem dX0_join_63 : decode cX0_join 63 = .ok (.invokestatic 31, 3) := by decide +kernel
theorem dX0_join_66 : decode cX0_join 66 = .ok (.ifCond .eq 20, 3) := by decide +kernel
theorem dX0_join_69 : decode cX0_join 69 = .ok (.aload_n 0, 1) := by decide +kernel
theorem dX0_join_70 : decode cX0_join 70 = .ok (.aload_n 0, 1) := by decide +kernel
theorem dX0_join_71 : decode cX0_join 71 = .ok (.iload_n 1, 1) := by decide +kernel
theorem dX0_join_72 : decode cX0_join 72 = .ok (.invokevirtual 35, 3) := by decide +kernel
theorem dX0_join_75 : decode cX0_join 75 = .ok (.iload_n 2, 1) := by decide +kernel
theorem dX0_join_76 : decode cX0_join 76 = .ok (.sipush 128, 3) := by decide +kernel
theorem dX0_join_79 : decode cX0_join 79 = .ok (.isub, 1) := by decide +kernel
theorem dX0_join_80 : decode cX0_join 80 = .ok (.invokevirtual 52, 3) := by decide +kernel
theorem dX0_join_83 : decode cX0_join 83 = .ok (.goto 17, 3) := by decide +kernel
theorem dX0_join_86 : decode cX0_join 86 = .ok (.aload_n 0, 1) := by decide +kernel
theorem dX0_join_87 : decode cX0_join 87 = .ok (.aload_n 0, 1) := by decide +kernel
theorem dX0_join_88 : decode cX0_join 88 = .ok (.iload_n 1, 1) := by decide +kernel
theorem dX0_join_89 : decode cX0_join 89 = .ok (.invokevirtual 35, 3) := by decide +kernel
theorem dX0_join_92 : decode cX0_join 92 = .ok (.aload_n 0, 1) := by decide +kernel
theorem dX0_join_93 : decode cX0_join 93 = .ok (.iload_n 2, 1) := by decide +kernel
theorem dX0_join_94 : decode cX0_join 94 = .ok (.invokevirtual 35, 3) := by decide +kernel
theorem dX0_join_97 : decode cX0_join 97 = .ok (.invokevirtual 55, 3) := by decide +kernel
theorem dX0_join_100 : decode cX0_join 100 = .ok (.return_, 1) := by decide +kernel
theorem dX0_fix_0 : decode cX0_fix 0 = .ok (.aload_n 0, 1) := by decide +kernel
theorem dX0_fix_1 : decode cX0_fix 1 = .ok (.getfield 15, 3) := by decide +kernel
theorem dX0_fix_4 : decode cX0_fix 4 = .ok (.iload_n 1, 1) := by decide +kernel
theorem dX0_fix_5 : decode cX0_fix 5 = .ok (.iaload, 1) := by decide +kernel
theorem dX0_fix_6 : decode cX0_fix 6 = .ok (.iconst (-1), 1) := by decide +kernel
theorem dX0_fix_7 : decode cX0_fix 7 = .ok (.if_icmp .ne 13, 3) := by decide +kernel
theorem dX0_fix_10 : decode cX0_fix 10 = .ok (.aload_n 0, 1) := by decide +kernel
theorem dX0_fix_11 : decode cX0_fix 11 = .ok (.getfield 15, 3) := by decide +kernel
theorem dX0_fix_14 : decode cX0_fix 14 = .ok (.iload_n 1, 1) := by decide +kernel
theorem dX0_fix_15 : decode cX0_fix 15 = .ok (.iload_n 2, 1) := by decide +kernel
theorem dX0_fix_16 : decode cX0_fix 16 = .ok (.iastore, 1) := by decide +kernel
theorem dX0_fix_17 : decode cX0_fix 17 = .ok (.goto 23, 3) := by decide +kernel
theorem dX0_fix_20 : decode cX0_fix 20 = .ok (.iload_n 2, 1) := by decide +kernel
theorem dX0_fix_21 : decode cX0_fix 21 = .ok (.iconst (-1), 1) := by decide +kernel
theorem dX0_fix_22 : decode cX0_fix 22 = .ok (.if_icmp .eq 18, 3) := by decide +kernel
theorem dX0_fix_25 : decode cX0_fix 25 = .ok (.aload_n 0, 1) := by decide +kernel
theorem dX0_fix_26 : decode cX0_fix 26 = .ok (.getfield 15, 3) := by decide +kernel
theorem dX0_fix_29 : decode cX0_fix 29 = .ok (.iload_n 1, 1) := by decide +kernel
theorem dX0_fix_30 : decode cX0_fix 30 = .ok (.iaload, 1) := by decide +kernel
theorem dX0_fix_31 : decode cX0_fix 31 = .ok (.iload_n 2, 1) := by decide +kernel
theorem dX0_fix_32 : decode cX0_fix 32 = .ok (.if_icmp .eq 8, 3) := by decide +kernel
theorem dX0_fix_35 : decode cX0_fix 35 = .ok (.aload_n 0, 1) := by decide +kernel
theorem dX0_fix_36 : decode cX0_fix 36 = .ok (.iconst 0, 1) := by decide +kernel
theorem dX0_fix_37 : decode cX0_fix 37 = .ok (.putfield 27, 3) := by decide +kernel
theorem dX0_fix_40 : decode cX0_fix 40 = .ok (.return_, 1) := by decide +kernel
theorem dX0_unite_0 : decode cX0_unite 0 = .ok (.iload_n 1, 1) := by decide +kernel
theorem dX0_unite_1 : decode cX0_unite 1 = .ok (.iload_n 2, 1) := by decide +kernel
theorem dX0_unite_2 : decode cX0_unite 2 = .ok (.invokestatic 58, 3) := by decide +kernel
theorem dX0_unite_5 : decode cX0_unite 5 = .ok (.istore_n 3, 1) := by decide +kernel
theorem dX0_unite_6 : decode cX0_unite 6 = .ok (.iload_n 1, 1) := by decide +kernel
theorem dX0_unite_7 : decode cX0_unite 7 = .ok (.iload_n 2, 1) := by decide +kernel
theorem dX0_unite_8 : decode cX0_unite 8 = .ok (.invokestatic 64, 3) := by decide +kernel
theorem dX0_unite_11 : decode cX0_unite 11 = .ok (.istore 4, 2) := by decide +kernel
theorem dX0_unite_13 : decode cX0_unite 13 = .ok (.iload_n 3, 1) := by decide +kernel
theorem dX0_unite_14 : decode cX0_unite 14 = .ok (.iload 4, 2) := by decide +kernel
theorem dX0_unite_16 : decode cX0_unite 16 = .ok (.if_icmp .eq 23, 3) := by decide +kernel
theorem dX0_unite_19 : decode cX0_unite 19 = .ok (.aload_n 0, 1) := by decide +kernel
theorem dX0_unite_20 : decode cX0_unite 20 = .ok (.getfield 9, 3) := by decide +kernel
theorem dX0_unite_23 : decode cX0_unite 23 = .ok (.iload 4, 2) := by decide +kernel
theorem dX0_unite_25 : decode cX0_unite 25 = .ok (.iload_n 3, 1) := by decide +kernel
theorem dX0_unite_26 : decode cX0_unite 26 = .ok (.iastore, 1) := by decide +kernel
theorem dX0_unite_27 : decode cX0_unite 27 = .ok (.aload_n 0, 1) := by decide +kernel
theorem dX0_unite_28 : decode cX0_unite 28 = .ok (.iload_n 3, 1) := by decide +kernel
theorem dX0_unite_29 : decode cX0_unite 29 = .ok (.aload_n 0, 1) := by decide +kernel
theorem dX0_unite_30 : decode cX0_unite 30 = .ok (.getfield 15, 3) := by decide +kernel
theorem dX0_unite_33 : decode cX0_unite 33 = .ok (.iload 4, 2) := by decide +kernel
theorem dX0_unite_35 : decode cX0_unite 35 = .ok (.iaload, 1) := by decide +kernel
theorem dX0_unite_36 : decode cX0_unite 36 = .ok (.invokevirtual 52, 3) := by decide +kernel
theorem dX0_unite_39 : decode cX0_unite 39 = .ok (.return_, 1) := by decide +kernel
theorem dX1_init_0 : decode cX1_init 0 = .ok (.aload_n 0, 1) := by decide +kernel
theorem dX1_init_1 : decode cX1_init 1 = .ok (.invokespecial 3, 3) := by decide +kernel
theorem dX1_init_4 : decode cX1_init 4 = .ok (.aload_n 0, 1) := by decide +kernel
theorem dX1_init_5 : decode cX1_init 5 = .ok (.bipush 8, 2) := by decide +kernel
theorem dX1_init_7 : decode cX1_init 7 = .ok (.newarray .int, 2) := by decide +kernel
theorem dX1_init_9 : decode cX1_init 9 = .ok (.putfield 9, 3) := by decide +kernel
theorem dX1_init_12 : decode cX1_init 12 = .ok (.return_, 1) := by decide +kernel
theorem dX1_countOf_0 : decode cX1_countOf 0 = .ok (.aload_n 0, 1) := by decide +kernel
theorem dX1_countOf_1 : decode cX1_countOf 1 = .ok (.getfield 9, 3) := by decide +kernel
theorem dX1_countOf_4 : decode cX1_countOf 4 = .ok (.iload_n 1, 1) := by decide +kernel
theorem dX1_countOf_5 : decode cX1_countOf 5 = .ok (.iaload, 1) := by decide +kernel
theorem dX1_countOf_6 : decode cX1_countOf 6 = .ok (.invokestatic 15, 3) := by decide +kernel
theorem dX1_countOf_9 : decode cX1_countOf 9 = .ok (.ireturn, 1) := by decide +kernel
theorem dX1_startOf_0 : decode cX1_startOf 0 = .ok (.iconst 0, 1) := by decide +kernel
theorem dX1_startOf_1 : decode cX1_startOf 1 = .ok (.istore_n 3, 1) := by decide +kernel
theorem dX1_startOf_2 : decode cX1_startOf 2 = .ok (.iconst 1, 1) := by decide +kernel
theorem dX1_startOf_3 : decode cX1_startOf 3 = .ok (.istore 4, 2) := by decide +kernel
theorem dX1_startOf_5 : decode cX1_startOf 5 = .ok (.iload 4, 2) := by decide +kernel
theorem dX1_startOf_7 : decode cX1_startOf 7 = .ok (.bipush 16, 2) := by decide +kernel
theorem dX1_startOf_9 : decode cX1_startOf 9 = .ok (.if_icmp .ge 39, 3) := by decide +kernel
theorem dX1_startOf_12 : decode cX1_startOf 12 = .ok (.iload_n 3, 1) := by decide +kernel
theorem dX1_startOf_13 : decode cX1_startOf 13 = .ok (.iload_n 2, 1) := by decide +kernel
theorem dX1_startOf_14 : decode cX1_startOf 14 = .ok (.if_icmp .ge 34, 3) := by decide +kernel
theorem dX1_startOf_17 : decode cX1_startOf 17 = .ok (.aload_n 0, 1) := by decide +kernel
theorem dX1_startOf_18 : decode cX1_startOf 18 = .ok (.getfield 9, 3) := by decide +kernel
theorem dX1_startOf_21 : decode cX1_startOf 21 = .ok (.iload_n 1, 1) := by decide +kernel
theorem dX1_startOf_22 : decode cX1_startOf 22 = .ok (.iaload, 1) := by decide +kernel
theorem dX1_startOf_23 : decode cX1_startOf 23 = .ok (.iconst 1, 1) := by decide +kernel
theorem dX1_startOf_24 : decode cX1_startOf 24 = .ok (.iload 4, 2) := by decide +kernel
theorem dX1_startOf_26 : decode cX1_startOf 26 = .ok (.ishl, 1) := by decide +kernel
theorem dX1_startOf_27 : decode cX1_startOf 27 = .ok (.iand, 1) := by decide +kernel
theorem dX1_startOf_28 : decode cX1_startOf 28 = .ok (.ifCond .eq 14, 3) := by decide +kernel
theorem dX1_startOf_31 : decode cX1_startOf 31 = .ok (.iinc 3 1, 3) := by decide +kernel
theorem dX1_startOf_34 : decode cX1_startOf 34 = .ok (.iload_n 3, 1) := by decide +kernel
theorem dX1_startOf_35 : decode cX1_startOf 35 = .ok (.iload_n 2, 1) := by decide +kernel
theorem dX1_startOf_36 : decode cX1_startOf 36 = .ok (.if_icmp .ne 6, 3) := by decide +kernel
theorem dX1_startOf_39 : decode cX1_startOf 39 = .ok (.iload 4, 2) := by decide +kernel
theorem dX1_startOf_41 : decode cX1_startOf 41 = .ok (.ireturn, 1) := by decide +kernel
theorem dX1_startOf_42 : decode cX1_startOf 42 = .ok (.iinc 4 1, 3) := by decide +kernel
theorem dX1_startOf_45 : decode cX1_startOf 45 = .ok (.goto (-40), 3) := by decide +kernel
theorem dX1_startOf_48 : decode cX1_startOf 48 = .ok (.iconst 0, 1) := by decide +kernel
theorem dX1_startOf_49 : decode cX1_startOf 49 = .ok (.ireturn, 1) := by decide +kernel
theorem dX1_sliceAt_0 : decode cX1_sliceAt 0 = .ok (.aload_n 0, 1) := by decide +kernel
theorem dX1_sliceAt_1 : decode cX1_sliceAt 1 = .ok (.getfield 9, 3) := by decide +kernel
theorem dX1_sliceAt_4 : decode cX1_sliceAt 4 = .ok (.iload_n 1, 1) := by decide +kernel
theorem dX1_sliceAt_5 : decode cX1_sliceAt 5 = .ok (.iaload, 1) := by decide +kernel
theorem dX1_sliceAt_6 : decode cX1_sliceAt 6 = .ok (.iconst 2, 1) := by decide +kernel
theorem dX1_sliceAt_7 : decode cX1_sliceAt 7 = .ok (.iload_n 2, 1) := by decide +kernel
theorem dX1_sliceAt_8 : decode cX1_sliceAt 8 = .ok (.ishl, 1) := by decide +kernel
theorem dX1_sliceAt_9 : decode cX1_sliceAt 9 = .ok (.iconst 1, 1) := by decide +kernel
theorem dX1_sliceAt_10 : decode cX1_sliceAt 10 = .ok (.isub, 1) := by decide +kernel
theorem dX1_sliceAt_11 : decode cX1_sliceAt 11 = .ok (.iand, 1) := by decide +kernel
theorem dX1_sliceAt_12 : decode cX1_sliceAt 12 = .ok (.istore_n 3, 1) := by decide +kernel
theorem dX1_sliceAt_13 : decode cX1_sliceAt 13 = .ok (.iload_n 3, 1) := by decide +kernel
theorem dX1_sliceAt_14 : decode cX1_sliceAt 14 = .ok (.invokestatic 15, 3) := by decide +kernel
theorem dX1_sliceAt_17 : decode cX1_sliceAt 17 = .ok (.ireturn, 1) := by decide +kernel
theorem dX1_cut_0 : decode cX1_cut 0 = .ok (.aload_n 0, 1) := by decide +kernel
theorem dX1_cut_1 : decode cX1_cut 1 = .ok (.getfield 9, 3) := by decide +kernel
theorem dX1_cut_4 : decode cX1_cut 4 = .ok (.iconst 0, 1) := by decide +kernel
theorem dX1_cut_5 : decode cX1_cut 5 = .ok (.invokestatic 21, 3) := by decide +kernel
theorem dX1_cut_8 : decode cX1_cut 8 = .ok (.iconst 0, 1) := by decide +kernel
theorem dX1_cut_9 : decode cX1_cut 9 = .ok (.istore_n 2, 1) := by decide +kernel
theorem dX1_cut_10 : decode cX1_cut 10 = .ok (.iload_n 2, 1) := by decide +kernel
theorem dX1_cut_11 : decode cX1_cut 11 = .ok (.aload_n 1, 1) := by decide +kernel
theorem dX1_cut_12 : decode cX1_cut 12 = .ok (.getfield 27, 3) := by decide +kernel
theorem dX1_cut_15 : decode cX1_cut 15 = .ok (.invokevirtual 33, 3) := by decide +kernel
theorem dX1_cut_18 : decode cX1_cut 18 = .ok (.if_icmp .ge 23, 3) := by decide +kernel
theorem dX1_cut_21 : decode cX1_cut 21 = .ok (.aload_n 0, 1) := by decide +kernel
theorem dX1_cut_22 : decode cX1_cut 22 = .ok (.aload_n 1, 1) := by decide +kernel
theorem dX1_cut_23 : decode cX1_cut 23 = .ok (.iload_n 2, 1) := by decide +kernel
theorem dX1_cut_24 : decode cX1_cut 24 = .ok (.iconst 0, 1) := by decide +kernel
theorem dX1_cut_25 : decode cX1_cut 25 = .ok (.invokevirtual 39, 3) := by decide +kernel
theorem dX1_cut_28 : decode cX1_cut 28 = .ok (.aload_n 0, 1) := by decide +kernel
theorem dX1_cut_29 : decode cX1_cut 29 = .ok (.aload_n 1, 1) := by decide +kernel
theorem dX1_cut_30 : decode cX1_cut 30 = .ok (.iload_n 2, 1) := by decide +kernel
theorem dX1_cut_31 : decode cX1_cut 31 = .ok (.iconst 1, 1) := by decide +kernel
theorem dX1_cut_32 : decode cX1_cut 32 = .ok (.invokevirtual 39, 3) := by decide +kernel
theorem dX1_cut_35 : decode cX1_cut 35 = .ok (.iinc 2 1, 3) := by decide +kernel
theorem dX1_cut_38 : decode cX1_cut 38 = .ok (.goto (-28), 3) := by decide +kernel
theorem dX1_cut_41 : decode cX1_cut 41 = .ok (.iconst 1, 1) := by decide +kernel
theorem dX1_cut_42 : decode cX1_cut 42 = .ok (.istore_n 2, 1) := by decide +kernel
theorem dX1_cut_43 : decode cX1_cut 43 = .ok (.iconst 0, 1) := by decide +kernel
theorem dX1_cut_44 : decode cX1_cut 44 = .ok (.istore_n 3, 1) := by decide +kernel
theorem dX1_cut_45 : decode cX1_cut 45 = .ok (.iload_n 3, 1) := by decide +kernel
theorem dX1_cut_46 : decode cX1_cut 46 = .ok (.sipush 128, 3) := by decide +kernel
theorem dX1_cut_49 : decode cX1_cut 49 = .ok (.if_icmp .ge 84, 3) := by decide +kernel
theorem dX1_cut_52 : decode cX1_cut 52 = .ok (.iload_n 2, 1) := by decide +kernel
theorem dX1_cut_53 : decode cX1_cut 53 = .ok (.ifCond .eq 80, 3) := by decide +kernel
theorem dX1_cut_56 : decode cX1_cut 56 = .ok (.iconst 0, 1) := by decide +kernel
theorem dX1_cut_57 : decode cX1_cut 57 = .ok (.istore_n 2, 1) := by decide +kernel
theorem dX1_cut_58 : decode cX1_cut 58 = .ok (.iconst 0, 1) := by decide +kernel
theorem dX1_cut_59 : decode cX1_cut 59 = .ok (.istore 4, 2) := by decide +kernel
theorem dX1_cut_61 : decode cX1_cut 61 = .ok (.iload 4, 2) := by decide +kernel
theorem dX1_cut_63 : decode cX1_cut 63 = .ok (.aload_n 1, 1) := by decide +kernel
theorem dX1_cut_64 : decode cX1_cut 64 = .ok (.getfield 27, 3) := by decide +kernel
theorem dX1_cut_67 : decode cX1_cut 67 = .ok (.invokevirtual 33, 3) := by decide +kernel
theorem dX1_cut_70 : decode cX1_cut 70 = .ok (.if_icmp .ge 57, 3) := by decide +kernel
theorem dX1_cut_73 : decode cX1_cut 73 = .ok (.aload_n 0, 1) := by decide +kernel
theorem dX1_cut_74 : decode cX1_cut 74 = .ok (.aload_n 1, 1) := by decide +kernel
theorem dX1_cut_75 : decode cX1_cut 75 = .ok (.getfield 27, 3) := by decide +kernel
theorem dX1_cut_78 : decode cX1_cut 78 = .ok (.iload 4, 2) := by decide +kernel
theorem dX1_cut_80 : decode cX1_cut 80 = .ok (.iconst 1, 1) := by decide +kernel
theorem dX1_cut_81 : decode cX1_cut 81 = .ok (.iconst 0, 1) := by decide +kernel
theorem dX1_cut_82 : decode cX1_cut 82 = .ok (.invokevirtual 43, 3) := by decide +kernel
theorem dX1_cut_85 : decode cX1_cut 85 = .ok (.istore 5, 2) := by decide +kernel
theorem dX1_cut_87 : decode cX1_cut 87 = .ok (.aload_n 0, 1) := by decide +kernel
theorem dX1_cut_88 : decode cX1_cut 88 = .ok (.aload_n 1, 1) := by decide +kernel
theorem dX1_cut_89 : decode cX1_cut 89 = .ok (.getfield 27, 3) := by decide +kernel
theorem dX1_cut_92 : decode cX1_cut 92 = .ok (.iload 4, 2) := by decide +kernel
theorem dX1_cut_94 : decode cX1_cut 94 = .ok (.iconst 0, 1) := by decide +kernel
theorem dX1_cut_95 : decode cX1_cut 95 = .ok (.iconst 1, 1) := by decide +kernel
theorem dX1_cut_96 : decode cX1_cut 96 = .ok (.invokevirtual 43, 3) := by decide +kernel
theorem dX1_cut_99 : decode cX1_cut 99 = .ok (.istore 6, 2) := by decide +kernel
theorem dX1_cut_101 : decode cX1_cut 101 = .ok (.iload_n 2, 1) := by decide +kernel
theorem dX1_cut_102 : decode cX1_cut 102 = .ok (.ifCond .ne 13, 3) := by decide +kernel
theorem dX1_cut_105 : decode cX1_cut 105 = .ok (.iload 5, 2) := by decide +kernel
theorem dX1_cut_107 : decode cX1_cut 107 = .ok (.ifCond .ne 8, 3) := by decide +kernel
theorem dX1_cut_110 : decode cX1_cut 110 = .ok (.iload 6, 2) := by decide +kernel
theorem dX1_cut_112 : decode cX1_cut 112 = .ok (.ifCond .eq 7, 3) := by decide +kernel
theorem dX1_cut_115 : decode cX1_cut 115 = .ok (.iconst 1, 1) := by decide +kernel
theorem dX1_cut_116 : decode cX1_cut 116 = .ok (.goto 4, 3) := by decide +kernel
theorem dX1_cut_119 : decode cX1_cut 119 = .ok (.iconst 0, 1) := by decide +kernel
theorem dX1_cut_120 : decode cX1_cut 120 = .ok (.istore_n 2, 1) := by decide +kernel
theorem dX1_cut_121 : decode cX1_cut 121 = .ok (.iinc 4 1, 3) := by decide +kernel
theorem dX1_cut_124 : decode cX1_cut 124 = .ok (.goto (-63), 3) := by decide +kernel
theorem dX1_cut_127 : decode cX1_cut 127 = .ok (.iinc 3 1, 3) := by decide +kernel
theorem dX1_cut_130 : decode cX1_cut 130 = .ok (.goto (-85), 3) := by decide +kernel
theorem dX1_cut_133 : decode cX1_cut 133 = .ok (.return_, 1) := by decide +kernel
theorem dX1_cutAroundParts_0 : decode cX1_cutAroundParts 0 = .ok (.aload_n 1, 1) := by decide +kernel
theorem dX1_cutAroundParts_1 : decode cX1_cutAroundParts 1 = .ok (.getfield 27, 3) := by decide +kernel
theorem dX1_cutAroundParts_4 : decode cX1_cutAroundParts 4 = .ok (.astore 4, 2) := by decide +kernel
theorem dX1_cutAroundParts_6 : decode cX1_cutAroundParts 6 = .ok (.aload 4, 2) := by decide +kernel
theorem dX1_cutAroundParts_8 : decode cX1_cutAroundParts 8 = .ok (.iload_n 2, 1) := by decide +kernel
theorem dX1_cutAroundParts_9 : decode cX1_cutAroundParts 9 = .ok (.invokevirtual 47, 3) := by decide +kernel
theorem dX1_cutAroundParts_12 : decode cX1_cutAroundParts 12 = .ok (.istore 5, 2) := by decide +kernel
theorem dX1_cutAroundParts_14 : decode cX1_cutAroundParts 14 = .ok (.iconst 0, 1) := by decide +kernel
theorem dX1_cutAroundParts_15 : decode cX1_cutAroundParts 15 = .ok (.istore 6, 2) := by decide +kernel
theorem dX1_cutAroundParts_17 : decode cX1_cutAroundParts 17 = .ok (.iload 6, 2) := by decide +kernel
theorem dX1_cutAroundParts_19 : decode cX1_cutAroundParts 19 = .ok (.iload 5, 2) := by decide +kernel
theorem dX1_cutAroundParts_21 : decode cX1_cutAroundParts 21 = .ok (.if_icmp .ge 103, 3) := by decide +kernel
theorem dX1_cutAroundParts_24 : decode cX1_cutAroundParts 24 = .ok (.aload 4, 2) := by decide +kernel
theorem dX1_cutAroundParts_26 : decode cX1_cutAroundParts 26 = .ok (.iload_n 2, 1) := by decide +kernel
theorem dX1_cutAroundParts_27 : decode cX1_cutAroundParts 27 = .ok (.iload_n 3, 1) := by decide +kernel
theorem dX1_cutAroundParts_28 : decode cX1_cutAroundParts 28 = .ok (.iload 6, 2) := by decide +kernel
theorem dX1_cutAroundParts_30 : decode cX1_cutAroundParts 30 = .ok (.invokevirtual 50, 3) := by decide +kernel
theorem dX1_cutAroundParts_33 : decode cX1_cutAroundParts 33 = .ok (.istore 7, 2) := by decide +kernel
theorem dX1_cutAroundParts_35 : decode cX1_cutAroundParts 35 = .ok (.iload 7, 2) := by decide +kernel
theorem dX1_cutAroundParts_37 : decode cX1_cutAroundParts 37 = .ok (.invokestatic 54, 3) := by decide +kernel
theorem dX1_cutAroundParts_40 : decode cX1_cutAroundParts 40 = .ok (.ifCond .eq 6, 3) := by decide +kernel
theorem dX1_cutAroundParts_43 : decode cX1_cutAroundParts 43 = .ok (.goto 75, 3) := by decide +kernel
theorem dX1_cutAroundParts_46 : decode cX1_cutAroundParts 46 = .ok (.iload 6, 2) := by decide +kernel
theorem dX1_cutAroundParts_48 : decode cX1_cutAroundParts 48 = .ok (.ifCond .eq 15, 3) := by decide +kernel
theorem dX1_cutAroundParts_51 : decode cX1_cutAroundParts 51 = .ok (.aload 4, 2) := by decide +kernel
theorem dX1_cutAroundParts_53 : decode cX1_cutAroundParts 53 = .ok (.iload_n 2, 1) := by decide +kernel
theorem dX1_cutAroundParts_54 : decode cX1_cutAroundParts 54 = .ok (.iload_n 3, 1) := by decide +kernel
theorem dX1_cutAroundParts_55 : decode cX1_cutAroundParts 55 = .ok (.iload 6, 2) := by decide +kernel
theorem dX1_cutAroundParts_57 : decode cX1_cutAroundParts 57 = .ok (.invokevirtual 58, 3) := by decide +kernel
theorem dX1_cutAroundParts_60 : decode cX1_cutAroundParts 60 = .ok (.ifCond .eq 18, 3) := by decide +kernel
theorem dX1_cutAroundParts_63 : decode cX1_cutAroundParts 63 = .ok (.aload_n 0, 1) := by decide +kernel
theorem dX1_cutAroundParts_64 : decode cX1_cutAroundParts 64 = .ok (.aload_n 1, 1) := by decide +kernel
theorem dX1_cutAroundParts_65 : decode cX1_cutAroundParts 65 = .ok (.iload 7, 2) := by decide +kernel
theorem dX1_cutAroundParts_67 : decode cX1_cutAroundParts 67 = .ok (.invokestatic 62, 3) := by decide +kernel
theorem dX1_cutAroundParts_70 : decode cX1_cutAroundParts 70 = .ok (.iload 7, 2) := by decide +kernel
theorem dX1_cutAroundParts_72 : decode cX1_cutAroundParts 72 = .ok (.invokestatic 65, 3) := by decide +kernel
theorem dX1_cutAroundParts_75 : decode cX1_cutAroundParts 75 = .ok (.invokevirtual 68, 3) := by decide +kernel
theorem dX1_cutAroundParts_78 : decode cX1_cutAroundParts 78 = .ok (.iload 6, 2) := by decide +kernel
theorem dX1_cutAroundParts_80 : decode cX1_cutAroundParts 80 = .ok (.iload 5, 2) := by decide +kernel
theorem dX1_cutAroundParts_82 : decode cX1_cutAroundParts 82 = .ok (.iconst 1, 1) := by decide +kernel
theorem dX1_cutAroundParts_83 : decode cX1_cutAroundParts 83 = .ok (.isub, 1) := by decide +kernel
theorem dX1_cutAroundParts_84 : decode cX1_cutAroundParts 84 = .ok (.if_icmp .eq 17, 3) := by decide +kernel
theorem dX1_cutAroundParts_87 : decode cX1_cutAroundParts 87 = .ok (.aload 4, 2) := by decide +kernel
theorem dX1_cutAroundParts_89 : decode cX1_cutAroundParts 89 = .ok (.iload_n 2, 1) := by decide +kernel
theorem dX1_cutAroundParts_90 : decode cX1_cutAroundParts 90 = .ok (.iload_n 3, 1) := by decide +kernel
theorem dX1_cutAroundParts_91 : decode cX1_cutAroundParts 91 = .ok (.iload 6, 2) := by decide +kernel
theorem dX1_cutAroundParts_93 : decode cX1_cutAroundParts 93 = .ok (.iconst 1, 1) := by decide +kernel
theorem dX1_cutAroundParts_94 : decode cX1_cutAroundParts 94 = .ok (.iadd, 1) := by decide +kernel
theorem dX1_cutAroundParts_95 : decode cX1_cutAroundParts 95 = .ok (.invokevirtual 58, 3) := by decide +kernel
theorem dX1_cutAroundParts_98 : decode cX1_cutAroundParts 98 = .ok (.ifCond .eq 20, 3) := by decide +kernel
theorem dX1_cutAroundParts_101 : decode cX1_cutAroundParts 101 = .ok (.aload_n 0, 1) := by decide +kernel
theorem dX1_cutAroundParts_102 : decode cX1_cutAroundParts 102 = .ok (.aload_n 1, 1) := by decide +kernel
theorem dX1_cutAroundParts_103 : decode cX1_cutAroundParts 103 = .ok (.iload 7, 2) := by decide +kernel
theorem dX1_cutAroundParts_105 : decode cX1_cutAroundParts 105 = .ok (.invokestatic 62, 3) := by decide +kernel
theorem dX1_cutAroundParts_108 : decode cX1_cutAroundParts 108 = .ok (.iload 7, 2) := by decide +kernel
theorem dX1_cutAroundParts_110 : decode cX1_cutAroundParts 110 = .ok (.invokestatic 65, 3) := by decide +kernel
theorem dX1_cutAroundParts_113 : decode cX1_cutAroundParts 113 = .ok (.iconst 1, 1) := by decide +kernel
theorem dX1_cutAroundParts_114 : decode cX1_cutAroundParts 114 = .ok (.iadd, 1) := by decide +kernel
theorem dX1_cutAroundParts_115 : decode cX1_cutAroundParts 115 = .ok (.invokevirtual 68, 3) := by decide +kernel
theorem dX1_cutAroundParts_118 : decode cX1_cutAroundParts 118 = .ok (.iinc 6 1, 3) := by decide +kernel
theorem dX1_cutAroundParts_121 : decode cX1_cutAroundParts 121 = .ok (.goto (-104), 3) := by decide +kernel
theorem dX1_cutAroundParts_124 : decode cX1_cutAroundParts 124 = .ok (.return_, 1) := by decide +kernel
theorem dX1_cutBelow_0 : decode cX1_cutBelow 0 = .ok (.iload_n 3, 1) := by decide +kernel
theorem dX1_cutBelow_1 : decode cX1_cutBelow 1 = .ok (.iconst 1, 1) := by decide +kernel
theorem dX1_cutBelow_2 : decode cX1_cutBelow 2 = .ok (.if_icmp .lt 24, 3) := by decide +kernel
theorem dX1_cutBelow_5 : decode cX1_cutBelow 5 = .ok (.iload_n 3, 1) := by decide +kernel
theorem dX1_cutBelow_6 : decode cX1_cutBelow 6 = .ok (.aload_n 1, 1) := by decide +kernel
theorem dX1_cutBelow_7 : decode cX1_cutBelow 7 = .ok (.iload_n 2, 1) := by decide +kernel
theorem dX1_cutBelow_8 : decode cX1_cutBelow 8 = .ok (.invokevirtual 71, 3) := by decide +kernel
theorem dX1_cutBelow_11 : decode cX1_cutBelow 11 = .ok (.if_icmp .ge 15, 3) := by decide +kernel
theorem dX1_cutBelow_14 : decode cX1_cutBelow 14 = .ok (.aload_n 0, 1) := by decide +kernel
theorem dX1_cutBelow_15 : decode cX1_cutBelow 15 = .ok (.getfield 9, 3) := by decide +kernel
theorem dX1_cutBelow_18 : decode cX1_cutBelow 18 = .ok (.iload_n 2, 1) := by decide +kernel
theorem dX1_cutBelow_19 : decode cX1_cutBelow 19 = .ok (.dup2, 1) := by decide +kernel
theorem dX1_cutBelow_20 : decode cX1_cutBelow 20 = .ok (.iaload, 1) := by decide +kernel
theorem dX1_cutBelow_21 : decode cX1_cutBelow 21 = .ok (.iconst 1, 1) := by decide +kernel
theorem dX1_cutBelow_22 : decode cX1_cutBelow 22 = .ok (.iload_n 3, 1) := by decide +kernel
theorem dX1_cutBelow_23 : decode cX1_cutBelow 23 = .ok (.ishl, 1) := by decide +kernel
theorem dX1_cutBelow_24 : decode cX1_cutBelow 24 = .ok (.ior, 1) := by decide +kernel
theorem dX1_cutBelow_25 : decode cX1_cutBelow 25 = .ok (.iastore, 1) := by decide +kernel
theorem dX1_cutBelow_26 : decode cX1_cutBelow 26 = .ok (.return_, 1) := by decide +kernel
theorem dX1_spread_0 : decode cX1_spread 0 = .ok (.iconst 0, 1) := by decide +kernel
theorem dX1_spread_1 : decode cX1_spread 1 = .ok (.istore 5, 2) := by decide +kernel
theorem dX1_spread_3 : decode cX1_spread 3 = .ok (.iconst 1, 1) := by decide +kernel
theorem dX1_spread_4 : decode cX1_spread 4 = .ok (.istore 6, 2) := by decide +kernel
theorem dX1_spread_6 : decode cX1_spread 6 = .ok (.iload 6, 2) := by decide +kernel
theorem dX1_spread_8 : decode cX1_spread 8 = .ok (.aload_n 1, 1) := by decide +kernel
theorem dX1_spread_9 : decode cX1_spread 9 = .ok (.iload_n 2, 1) := by decide +kernel
theorem dX1_spread_10 : decode cX1_spread 10 = .ok (.invokevirtual 47, 3) := by decide +kernel
theorem dX1_spread_13 : decode cX1_spread 13 = .ok (.if_icmp .ge 96, 3) := by decide +kernel
theorem dX1_spread_16 : decode cX1_spread 16 = .ok (.aload_n 1, 1) := by decide +kernel
theorem dX1_spread_17 : decode cX1_spread 17 = .ok (.iload_n 2, 1) := by decide +kernel
theorem dX1_spread_18 : decode cX1_spread 18 = .ok (.iload 4, 2) := by decide +kernel
theorem dX1_spread_20 : decode cX1_spread 20 = .ok (.iload 6, 2) := by decide +kernel
theorem dX1_spread_22 : decode cX1_spread 22 = .ok (.invokevirtual 50, 3) := by decide +kernel
theorem dX1_spread_25 : decode cX1_spread 25 = .ok (.istore 7, 2) := by decide +kernel
theorem dX1_spread_27 : decode cX1_spread 27 = .ok (.iload 7, 2) := by decide +kernel
theorem dX1_spread_29 : decode cX1_spread 29 = .ok (.invokestatic 54, 3) := by decide +kernel
theorem dX1_spread_32 : decode cX1_spread 32 = .ok (.ifCond .ne 19, 3) := by decide +kernel
theorem dX1_spread_35 : decode cX1_spread 35 = .ok (.aload_n 1, 1) := by decide +kernel
theorem dX1_spread_36 : decode cX1_spread 36 = .ok (.iload_n 2, 1) := by decide +kernel
theorem dX1_spread_37 : decode cX1_spread 37 = .ok (.iload 4, 2) := by decide +kernel
theorem dX1_spread_39 : decode cX1_spread 39 = .ok (.iload 6, 2) := by decide +kernel
theorem dX1_spread_41 : decode cX1_spread 41 = .ok (.invokevirtual 58, 3) := by decide +kernel
theorem dX1_spread_44 : decode cX1_spread 44 = .ok (.ifCond .ne 7, 3) := by decide +kernel
theorem dX1_spread_47 : decode cX1_spread 47 = .ok (.iconst 1, 1) := by decide +kernel
theorem dX1_spread_48 : decode cX1_spread 48 = .ok (.goto 4, 3) := by decide +kernel
theorem dX1_spread_51 : decode cX1_spread 51 = .ok (.iconst 0, 1) := by decide +kernel
theorem dX1_spread_52 : decode cX1_spread 52 = .ok (.istore 8, 2) := by decide +kernel
theorem dX1_spread_54 : decode cX1_spread 54 = .ok (.iload 8, 2) := by decide +kernel
theorem dX1_spread_56 : decode cX1_spread 56 = .ok (.ifCond .eq 47, 3) := by decide +kernel
theorem dX1_spread_59 : decode cX1_spread 59 = .ok (.aload_n 0, 1) := by decide +kernel
theorem dX1_spread_60 : decode cX1_spread 60 = .ok (.iload 7, 2) := by decide +kernel
theorem dX1_spread_62 : decode cX1_spread 62 = .ok (.invokevirtual 72, 3) := by decide +kernel
theorem dX1_spread_65 : decode cX1_spread 65 = .ok (.ifCond .ne 38, 3) := by decide +kernel
theorem dX1_spread_68 : decode cX1_spread 68 = .ok (.aload_n 0, 1) := by decide +kernel
theorem dX1_spread_69 : decode cX1_spread 69 = .ok (.aload_n 1, 1) := by decide +kernel
theorem dX1_spread_70 : decode cX1_spread 70 = .ok (.iload_n 2, 1) := by decide +kernel
theorem dX1_spread_71 : decode cX1_spread 71 = .ok (.iload_n 3, 1) := by decide +kernel
theorem dX1_spread_72 : decode cX1_spread 72 = .ok (.iload 6, 2) := by decide +kernel
theorem dX1_spread_74 : decode cX1_spread 74 = .ok (.invokevirtual 75, 3) := by decide +kernel
theorem dX1_spread_77 : decode cX1_spread 77 = .ok (.ifCond .eq 26, 3) := by decide +kernel
theorem dX1_spread_80 : decode cX1_spread 80 = .ok (.aload_n 0, 1) := by decide +kernel
theorem dX1_spread_81 : decode cX1_spread 81 = .ok (.getfield 9, 3) := by decide +kernel
theorem dX1_spread_84 : decode cX1_spread 84 = .ok (.iload 7, 2) := by decide +kernel
theorem dX1_spread_86 : decode cX1_spread 86 = .ok (.invokestatic 62, 3) := by decide +kernel
theorem dX1_spread_89 : decode cX1_spread 89 = .ok (.dup2, 1) := by decide +kernel
theorem dX1_spread_90 : decode cX1_spread 90 = .ok (.iaload, 1) := by decide +kernel
theorem dX1_spread_91 : decode cX1_spread 91 = .ok (.iconst 1, 1) := by decide +kernel
theorem dX1_spread_92 : decode cX1_spread 92 = .ok (.iload 7, 2) := by decide +kernel
theorem dX1_spread_94 : decode cX1_spread 94 = .ok (.invokestatic 65, 3) := by decide +kernel
theorem dX1_spread_97 : decode cX1_spread 97 = .ok (.ishl, 1) := by decide +kernel
theorem dX1_spread_98 : decode cX1_spread 98 = .ok (.ior, 1) := by decide +kernel
theorem dX1_spread_99 : decode cX1_spread 99 = .ok (.iastore, 1) := by decide +kernel
theorem dX1_spread_100 : decode cX1_spread 100 = .ok (.iconst 1, 1) := by decide +kernel
theorem dX1_spread_101 : decode cX1_spread 101 = .ok (.istore 5, 2) := by decide +kernel
theorem dX1_spread_103 : decode cX1_spread 103 = .ok (.iinc 6 1, 3) := by decide +kernel
theorem dX1_spread_106 : decode cX1_spread 106 = .ok (.goto (-100), 3) := by decide +kernel
theorem dX1_spread_109 : decode cX1_spread 109 = .ok (.iload 5, 2) := by decide +kernel
theorem dX1_spread_111 : decode cX1_spread 111 = .ok (.ireturn, 1) := by decide +kernel
theorem dX1_isMarked_0 : decode cX1_isMarked 0 = .ok (.aload_n 1, 1) := by decide +kernel
theorem dX1_isMarked_1 : decode cX1_isMarked 1 = .ok (.iload_n 2, 1) := by decide +kernel
theorem dX1_isMarked_2 : decode cX1_isMarked 2 = .ok (.iload_n 3, 1) := by decide +kernel
theorem dX1_isMarked_3 : decode cX1_isMarked 3 = .ok (.iload 4, 2) := by decide +kernel
theorem dX1_isMarked_5 : decode cX1_isMarked 5 = .ok (.invokevirtual 58, 3) := by decide +kernel
theorem dX1_isMarked_8 : decode cX1_isMarked 8 = .ok (.ifCond .eq 5, 3) := by decide +kernel
theorem dX1_isMarked_11 : decode cX1_isMarked 11 = .ok (.iconst 1, 1) := by decide +kernel
theorem dX1_isMarked_12 : decode cX1_isMarked 12 = .ok (.ireturn, 1) := by decide +kernel
theorem dX1_isMarked_13 : decode cX1_isMarked 13 = .ok (.aload_n 1, 1) := by decide +kernel
theorem dX1_isMarked_14 : decode cX1_isMarked 14 = .ok (.iload_n 2, 1) := by decide +kernel
theorem dX1_isMarked_15 : decode cX1_isMarked 15 = .ok (.iload_n 3, 1) := by decide +kernel
theorem dX1_isMarked_16 : decode cX1_isMarked 16 = .ok (.iload 4, 2) := by decide +kernel
theorem dX1_isMarked_18 : decode cX1_isMarked 18 = .ok (.invokevirtual 50, 3) := by decide +kernel
theorem dX1_isMarked_21 : decode cX1_isMarked 21 = .ok (.istore 5, 2) := by decide +kernel
theorem dX1_isMarked_23 : decode cX1_isMarked 23 = .ok (.iload 5, 2) := by decide +kernel
theorem dX1_isMarked_25 : decode cX1_isMarked 25 = .ok (.invokestatic 54, 3) := by decide +kernel
theorem dX1_isMarked_28 : decode cX1_isMarked 28 = .ok (.ifCond .ne 16, 3) := by decide +kernel
theorem dX1_isMarked_31 : decode cX1_isMarked 31 = .ok (.aload_n 0, 1) := by decide +kernel
theorem dX1_isMarked_32 : decode cX1_isMarked 32 = .ok (.iload 5, 2) := by decide +kernel
theorem dX1_isMarked_34 : decode cX1_isMarked 34 = .ok (.invokevirtual 72, 3) := by decide +kernel
theorem dX1_isMarked_37 : decode cX1_isMarked 37 = .ok (.ifCond .eq 7, 3) := by decide +kernel
theorem dX1_isMarked_40 : decode cX1_isMarked 40 = .ok (.iconst 1, 1) := by decide +kernel
theorem dX1_isMarked_41 : decode cX1_isMarked 41 = .ok (.goto 4, 3) := by decide +kernel
theorem dX1_isMarked_44 : decode cX1_isMarked 44 = .ok (.iconst 0, 1) := by decide +kernel
theorem dX1_isMarked_45 : decode cX1_isMarked 45 = .ok (.ireturn, 1) := by decide +kernel
theorem dX1_isCut_0 : decode cX1_isCut 0 = .ok (.aload_n 0, 1) := by decide +kernel
theorem dX1_isCut_1 : decode cX1_isCut 1 = .ok (.getfield 9, 3) := by decide +kernel
theorem dX1_isCut_4 : decode cX1_isCut 4 = .ok (.iload_n 1, 1) := by decide +kernel
theorem dX1_isCut_5 : decode cX1_isCut 5 = .ok (.invokestatic 62, 3) := by decide +kernel
theorem dX1_isCut_8 : decode cX1_isCut 8 = .ok (.iaload, 1) := by decide +kernel
theorem dX1_isCut_9 : decode cX1_isCut 9 = .ok (.iconst 1, 1) := by decide +kernel
theorem dX1_isCut_10 : decode cX1_isCut 10 = .ok (.iload_n 1, 1) := by decide +kernel
theorem dX1_isCut_11 : decode cX1_isCut 11 = .ok (.invokestatic 65, 3) := by decide +kernel
theorem dX1_isCut_14 : decode cX1_isCut 14 = .ok (.ishl, 1) := by decide +kernel
theorem dX1_isCut_15 : decode cX1_isCut 15 = .ok (.iand, 1) := by decide +kernel
theorem dX1_isCut_16 : decode cX1_isCut 16 = .ok (.ifCond .eq 7, 3) := by decide +kernel
theorem dX1_isCut_19 : decode cX1_isCut 19 = .ok (.iconst 1, 1) := by decide +kernel
theorem dX1_isCut_20 : decode cX1_isCut 20 = .ok (.goto 4, 3) := by decide +kernel
theorem dX1_isCut_23 : decode cX1_isCut 23 = .ok (.iconst 0, 1) := by decide +kernel
theorem dX1_isCut_24 : decode cX1_isCut 24 = .ok (.ireturn, 1) := by decide +kernel
theorem dX2_init_0 : decode cX2_init 0 = .ok (.aload_n 0, 1) := by decide +kernel
theorem dX2_init_1 : decode cX2_init 1 = .ok (.invokespecial 3, 3) := by decide +kernel
theorem dX2_init_4 : decode cX2_init 4 = .ok (.aload_n 0, 1) := by decide +kernel
theorem dX2_init_5 : decode cX2_init 5 = .ok (.bipush 6, 2) := by decide +kernel
theorem dX2_init_7 : decode cX2_init 7 = .ok (.anewarray 9, 3) := by decide +kernel
theorem dX2_init_10 : decode cX2_init 10 = .ok (.putfield 11, 3) := by decide +kernel
theorem dX2_init_13 : decode cX2_init 13 = .ok (.iconst 0, 1) := by decide +kernel
theorem dX2_init_14 : decode cX2_init 14 = .ok (.istore_n 1, 1) := by decide +kernel
theorem dX2_init_15 : decode cX2_init 15 = .ok (.iload_n 1, 1) := by decide +kernel
theorem dX2_init_16 : decode cX2_init 16 = .ok (.bipush 6, 2) := by decide +kernel
theorem dX2_init_18 : decode cX2_init 18 = .ok (.if_icmp .ge 22, 3) := by decide +kernel
theorem dX2_init_21 : decode cX2_init 21 = .ok (.aload_n 0, 1) := by decide +kernel
theorem dX2_init_22 : decode cX2_init 22 = .ok (.getfield 11, 3) := by decide +kernel
theorem dX2_init_25 : decode cX2_init 25 = .ok (.iload_n 1, 1) := by decide +kernel
theorem dX2_init_26 : decode cX2_init 26 = .ok (.new 9, 3) := by decide +kernel
theorem dX2_init_29 : decode cX2_init 29 = .ok (.dup, 1) := by decide +kernel
theorem dX2_init_30 : decode cX2_init 30 = .ok (.invokespecial 17, 3) := by decide +kernel
theorem dX2_init_33 : decode cX2_init 33 = .ok (.aastore, 1) := by decide +kernel
theorem dX2_init_34 : decode cX2_init 34 = .ok (.iinc 1 1, 3) := by decide +kernel
theorem dX2_init_37 : decode cX2_init 37 = .ok (.goto (-22), 3) := by decide +kernel
theorem dX2_init_40 : decode cX2_init 40 = .ok (.return_, 1) := by decide +kernel
theorem dX2_depth_0 : decode cX2_depth 0 = .ok (.aload_n 0, 1) := by decide +kernel
theorem dX2_depth_1 : decode cX2_depth 1 = .ok (.getfield 18, 3) := by decide +kernel
theorem dX2_depth_4 : decode cX2_depth 4 = .ok (.ireturn, 1) := by decide +kernel
theorem dX2_clear_0 : decode cX2_clear 0 = .ok (.aload_n 0, 1) := by decide +kernel
theorem dX2_clear_1 : decode cX2_clear 1 = .ok (.iconst 0, 1) := by decide +kernel
theorem dX2_clear_2 : decode cX2_clear 2 = .ok (.putfield 18, 3) := by decide +kernel
theorem dX2_clear_5 : decode cX2_clear 5 = .ok (.return_, 1) := by decide +kernel
theorem dX2_push_0 : decode cX2_push 0 = .ok (.aload_n 0, 1) := by decide +kernel
theorem dX2_push_1 : decode cX2_push 1 = .ok (.getfield 18, 3) := by decide +kernel
theorem dX2_push_4 : decode cX2_push 4 = .ok (.bipush 6, 2) := by decide +kernel
theorem dX2_push_6 : decode cX2_push 6 = .ok (.if_icmp .lt 7, 3) := by decide +kernel
theorem dX2_push_9 : decode cX2_push 9 = .ok (.aload_n 0, 1) := by decide +kernel
theorem dX2_push_10 : decode cX2_push 10 = .ok (.invokevirtual 22, 3) := by decide +kernel
theorem dX2_push_13 : decode cX2_push 13 = .ok (.aload_n 0, 1) := by decide +kernel
theorem dX2_push_14 : decode cX2_push 14 = .ok (.getfield 11, 3) := by decide +kernel
theorem dX2_push_17 : decode cX2_push 17 = .ok (.aload_n 0, 1) := by decide +kernel
theorem dX2_push_18 : decode cX2_push 18 = .ok (.getfield 18, 3) := by decide +kernel
theorem dX2_push_21 : decode cX2_push 21 = .ok (.aaload, 1) := by decide +kernel
theorem dX2_push_22 : decode cX2_push 22 = .ok (.aload_n 1, 1) := by decide +kernel
theorem dX2_push_23 : decode cX2_push 23 = .ok (.invokevirtual 25, 3) := by decide +kernel
theorem dX2_push_26 : decode cX2_push 26 = .ok (.aload_n 0, 1) := by decide +kernel
theorem dX2_push_27 : decode cX2_push 27 = .ok (.dup, 1) := by decide +kernel
theorem dX2_push_28 : decode cX2_push 28 = .ok (.getfield 18, 3) := by decide +kernel
theorem dX2_push_31 : decode cX2_push 31 = .ok (.iconst 1, 1) := by decide +kernel
theorem dX2_push_32 : decode cX2_push 32 = .ok (.iadd, 1) := by decide +kernel
theorem dX2_push_33 : decode cX2_push 33 = .ok (.putfield 18, 3) := by decide +kernel
theorem dX2_push_36 : decode cX2_push 36 = .ok (.return_, 1) := by decide +kernel
theorem dX2_popInto_0 : decode cX2_popInto 0 = .ok (.aload_n 0, 1) := by decide +kernel
theorem dX2_popInto_1 : decode cX2_popInto 1 = .ok (.getfield 18, 3) := by decide +kernel
theorem dX2_popInto_4 : decode cX2_popInto 4 = .ok (.ifCond .le 26, 3) := by decide +kernel
theorem dX2_popInto_7 : decode cX2_popInto 7 = .ok (.aload_n 0, 1) := by decide +kernel
theorem dX2_popInto_8 : decode cX2_popInto 8 = .ok (.dup, 1) := by decide +kernel
theorem dX2_popInto_9 : decode cX2_popInto 9 = .ok (.getfield 18, 3) := by decide +kernel
theorem dX2_popInto_12 : decode cX2_popInto 12 = .ok (.iconst 1, 1) := by decide +kernel
theorem dX2_popInto_13 : decode cX2_popInto 13 = .ok (.isub, 1) := by decide +kernel
theorem dX2_popInto_14 : decode cX2_popInto 14 = .ok (.putfield 18, 3) := by decide +kernel
theorem dX2_popInto_17 : decode cX2_popInto 17 = .ok (.aload_n 1, 1) := by decide +kernel
theorem dX2_popInto_18 : decode cX2_popInto 18 = .ok (.aload_n 0, 1) := by decide +kernel
theorem dX2_popInto_19 : decode cX2_popInto 19 = .ok (.getfield 11, 3) := by decide +kernel
theorem dX2_popInto_22 : decode cX2_popInto 22 = .ok (.aload_n 0, 1) := by decide +kernel
theorem dX2_popInto_23 : decode cX2_popInto 23 = .ok (.getfield 18, 3) := by decide +kernel
theorem dX2_popInto_26 : decode cX2_popInto 26 = .ok (.aaload, 1) := by decide +kernel
theorem dX2_popInto_27 : decode cX2_popInto 27 = .ok (.invokevirtual 25, 3) := by decide +kernel
theorem dX2_popInto_30 : decode cX2_popInto 30 = .ok (.return_, 1) := by decide +kernel
theorem dX2_forgetOldest_0 : decode cX2_forgetOldest 0 = .ok (.aload_n 0, 1) := by decide +kernel
theorem dX2_forgetOldest_1 : decode cX2_forgetOldest 1 = .ok (.getfield 11, 3) := by decide +kernel
theorem dX2_forgetOldest_4 : decode cX2_forgetOldest 4 = .ok (.iconst 0, 1) := by decide +kernel
theorem dX2_forgetOldest_5 : decode cX2_forgetOldest 5 = .ok (.aaload, 1) := by decide +kernel
theorem dX2_forgetOldest_6 : decode cX2_forgetOldest 6 = .ok (.astore_n 1, 1) := by decide +kernel
theorem dX2_forgetOldest_7 : decode cX2_forgetOldest 7 = .ok (.iconst 1, 1) := by decide +kernel
theorem dX2_forgetOldest_8 : decode cX2_forgetOldest 8 = .ok (.istore_n 2, 1) := by decide +kernel
theorem dX2_forgetOldest_9 : decode cX2_forgetOldest 9 = .ok (.iload_n 2, 1) := by decide +kernel
theorem dX2_forgetOldest_10 : decode cX2_forgetOldest 10 = .ok (.bipush 6, 2) := by decide +kernel
theorem dX2_forgetOldest_12 : decode cX2_forgetOldest 12 = .ok (.if_icmp .ge 23, 3) := by decide +kernel
theorem dX2_forgetOldest_15 : decode cX2_forgetOldest 15 = .ok (.aload_n 0, 1) := by decide +kernel
theorem dX2_forgetOldest_16 : decode cX2_forgetOldest 16 = .ok (.getfield 11, 3) := by decide +kernel
theorem dX2_forgetOldest_19 : decode cX2_forgetOldest 19 = .ok (.iload_n 2, 1) := by decide +kernel
theorem dX2_forgetOldest_20 : decode cX2_forgetOldest 20 = .ok (.iconst 1, 1) := by decide +kernel
theorem dX2_forgetOldest_21 : decode cX2_forgetOldest 21 = .ok (.isub, 1) := by decide +kernel
theorem dX2_forgetOldest_22 : decode cX2_forgetOldest 22 = .ok (.aload_n 0, 1) := by decide +kernel
theorem dX2_forgetOldest_23 : decode cX2_forgetOldest 23 = .ok (.getfield 11, 3) := by decide +kernel
theorem dX2_forgetOldest_26 : decode cX2_forgetOldest 26 = .ok (.iload_n 2, 1) := by decide +kernel
theorem dX2_forgetOldest_27 : decode cX2_forgetOldest 27 = .ok (.aaload, 1) := by decide +kernel
theorem dX2_forgetOldest_28 : decode cX2_forgetOldest 28 = .ok (.aastore, 1) := by decide +kernel
theorem dX2_forgetOldest_29 : decode cX2_forgetOldest 29 = .ok (.iinc 2 1, 3) := by decide +kernel
theorem dX2_forgetOldest_32 : decode cX2_forgetOldest 32 = .ok (.goto (-23), 3) := by decide +kernel
theorem dX2_forgetOldest_35 : decode cX2_forgetOldest 35 = .ok (.aload_n 0, 1) := by decide +kernel
theorem dX2_forgetOldest_36 : decode cX2_forgetOldest 36 = .ok (.getfield 11, 3) := by decide +kernel
theorem dX2_forgetOldest_39 : decode cX2_forgetOldest 39 = .ok (.iconst 5, 1) := by decide +kernel
theorem dX2_forgetOldest_40 : decode cX2_forgetOldest 40 = .ok (.aload_n 1, 1) := by decide +kernel
theorem dX2_forgetOldest_41 : decode cX2_forgetOldest 41 = .ok (.aastore, 1) := by decide +kernel
theorem dX2_forgetOldest_42 : decode cX2_forgetOldest 42 = .ok (.aload_n 0, 1) := by decide +kernel
theorem dX2_forgetOldest_43 : decode cX2_forgetOldest 43 = .ok (.iconst 5, 1) := by decide +kernel
theorem dX2_forgetOldest_44 : decode cX2_forgetOldest 44 = .ok (.putfield 18, 3) := by decide +kernel
theorem dX2_forgetOldest_47 : decode cX2_forgetOldest 47 = .ok (.return_, 1) := by decide +kernel
theorem dX3_init_0 : decode cX3_init 0 = .ok (.aload_n 0, 1) := by decide +kernel
theorem dX3_init_1 : decode cX3_init 1 = .ok (.invokespecial 3, 3) := by decide +kernel
theorem dX3_init_4 : decode cX3_init 4 = .ok (.aload_n 0, 1) := by decide +kernel
theorem dX3_init_5 : decode cX3_init 5 = .ok (.sipush 128, 3) := by decide +kernel
theorem dX3_init_8 : decode cX3_init 8 = .ok (.newarray .long, 2) := by decide +kernel
theorem dX3_init_10 : decode cX3_init 10 = .ok (.putfield 9, 3) := by decide +kernel
theorem dX3_init_13 : decode cX3_init 13 = .ok (.aload_n 0, 1) := by decide +kernel
theorem dX3_init_14 : decode cX3_init 14 = .ok (.sipush 128, 3) := by decide +kernel
theorem dX3_init_17 : decode cX3_init 17 = .ok (.newarray .int, 2) := by decide +kernel
theorem dX3_init_19 : decode cX3_init 19 = .ok (.putfield 15, 3) := by decide +kernel
theorem dX3_init_22 : decode cX3_init 22 = .ok (.aload_n 0, 1) := by decide +kernel
theorem dX3_init_23 : decode cX3_init 23 = .ok (.iconst 3, 1) := by decide +kernel
theorem dX3_init_24 : decode cX3_init 24 = .ok (.newarray .int, 2) := by decide +kernel
theorem dX3_init_26 : decode cX3_init 26 = .ok (.putfield 19, 3) := by decide +kernel
theorem dX3_init_29 : decode cX3_init 29 = .ok (.return_, 1) := by decide +kernel
theorem dX3_oneCount_0 : decode cX3_oneCount 0 = .ok (.aload_n 0, 1) := by decide +kernel
theorem dX3_oneCount_1 : decode cX3_oneCount 1 = .ok (.getfield 22, 3) := by decide +kernel
theorem dX3_oneCount_4 : decode cX3_oneCount 4 = .ok (.ireturn, 1) := by decide +kernel
theorem dX3_hasOne_0 : decode cX3_hasOne 0 = .ok (.iconst 0, 1) := by decide +kernel
theorem dX3_hasOne_1 : decode cX3_hasOne 1 = .ok (.istore_n 2, 1) := by decide +kernel
theorem dX3_hasOne_2 : decode cX3_hasOne 2 = .ok (.iload_n 2, 1) := by decide +kernel
theorem dX3_hasOne_3 : decode cX3_hasOne 3 = .ok (.aload_n 0, 1) := by decide +kernel
theorem dX3_hasOne_4 : decode cX3_hasOne 4 = .ok (.getfield 22, 3) := by decide +kernel
theorem dX3_hasOne_7 : decode cX3_hasOne 7 = .ok (.if_icmp .ge 21, 3) := by decide +kernel
theorem dX3_hasOne_10 : decode cX3_hasOne 10 = .ok (.aload_n 0, 1) := by decide +kernel
theorem dX3_hasOne_11 : decode cX3_hasOne 11 = .ok (.getfield 19, 3) := by decide +kernel
theorem dX3_hasOne_14 : decode cX3_hasOne 14 = .ok (.iload_n 2, 1) := by decide +kernel
theorem dX3_hasOne_15 : decode cX3_hasOne 15 = .ok (.iaload, 1) := by decide +kernel
theorem dX3_hasOne_16 : decode cX3_hasOne 16 = .ok (.iload_n 1, 1) := by decide +kernel
theorem dX3_hasOne_17 : decode cX3_hasOne 17 = .ok (.if_icmp .ne 5, 3) := by decide +kernel
theorem dX3_hasOne_20 : decode cX3_hasOne 20 = .ok (.iconst 1, 1) := by decide +kernel
theorem dX3_hasOne_21 : decode cX3_hasOne 21 = .ok (.ireturn, 1) := by decide +kernel
theorem dX3_hasOne_22 : decode cX3_hasOne 22 = .ok (.iinc 2 1, 3) := by decide +kernel
theorem dX3_hasOne_25 : decode cX3_hasOne 25 = .ok (.goto (-23), 3) := by decide +kernel
theorem dX3_hasOne_28 : decode cX3_hasOne 28 = .ok (.iconst 0, 1) := by decide +kernel
theorem dX3_hasOne_29 : decode cX3_hasOne 29 = .ok (.ireturn, 1) := by decide +kernel
theorem dX3_choose_0 : decode cX3_choose 0 = .ok (.aload_n 0, 1) := by decide +kernel
theorem dX3_choose_1 : decode cX3_choose 1 = .ok (.bipush (-9), 2) := by decide +kernel
theorem dX3_choose_3 : decode cX3_choose 3 = .ok (.putfield 22, 3) := by decide +kernel
theorem dX3_choose_6 : decode cX3_choose 6 = .ok (.aload_n 2, 1) := by decide +kernel
theorem dX3_choose_7 : decode cX3_choose 7 = .ok (.invokevirtual 26, 3) := by decide +kernel
theorem dX3_choose_10 : decode cX3_choose 10 = .ok (.ifCond .ne 4, 3) := by decide +kernel
theorem dX3_choose_13 : decode cX3_choose 13 = .ok (.return_, 1) := by decide +kernel
theorem dX3_choose_14 : decode cX3_choose 14 = .ok (.aload_n 0, 1) := by decide +kernel
theorem dX3_choose_15 : decode cX3_choose 15 = .ok (.aload_n 1, 1) := by decide +kernel
theorem dX3_choose_16 : decode cX3_choose 16 = .ok (.aload_n 2, 1) := by decide +kernel
theorem dX3_choose_17 : decode cX3_choose 17 = .ok (.invokevirtual 32, 3) := by decide +kernel
theorem dX3_choose_20 : decode cX3_choose 20 = .ok (.lstore_n 3, 1) := by decide +kernel
theorem dX3_choose_21 : decode cX3_choose 21 = .ok (.aload_n 0, 1) := by decide +kernel
theorem dX3_choose_22 : decode cX3_choose 22 = .ok (.invokevirtual 36, 3) := by decide +kernel
theorem dX3_choose_25 : decode cX3_choose 25 = .ok (.lload_n 3, 1) := by decide +kernel
theorem dX3_choose_26 : decode cX3_choose 26 = .ok (.invokestatic 39, 3) := by decide +kernel
theorem dX3_choose_29 : decode cX3_choose 29 = .ok (.ifCond .eq 11, 3) := by decide +kernel
theorem dX3_choose_32 : decode cX3_choose 32 = .ok (.aload_n 0, 1) := by decide +kernel
theorem dX3_choose_33 : decode cX3_choose 33 = .ok (.iconst 0, 1) := by decide +kernel
theorem dX3_choose_34 : decode cX3_choose 34 = .ok (.putfield 22, 3) := by decide +kernel
theorem dX3_choose_37 : decode cX3_choose 37 = .ok (.goto 52, 3) := by decide +kernel
theorem dX3_choose_40 : decode cX3_choose 40 = .ok (.aload_n 0, 1) := by decide +kernel
theorem dX3_choose_41 : decode cX3_choose 41 = .ok (.iconst 0, 1) := by decide +kernel
theorem dX3_choose_42 : decode cX3_choose 42 = .ok (.iconst 0, 1) := by decide +kernel
theorem dX3_choose_43 : decode cX3_choose 43 = .ok (.lload_n 3, 1) := by decide +kernel
theorem dX3_choose_44 : decode cX3_choose 44 = .ok (.invokevirtual 43, 3) := by decide +kernel
theorem dX3_choose_47 : decode cX3_choose 47 = .ok (.ifCond .eq 11, 3) := by decide +kernel
theorem dX3_choose_50 : decode cX3_choose 50 = .ok (.aload_n 0, 1) := by decide +kernel
theorem dX3_choose_51 : decode cX3_choose 51 = .ok (.iconst 1, 1) := by decide +kernel
theorem dX3_choose_52 : decode cX3_choose 52 = .ok (.putfield 22, 3) := by decide +kernel
theorem dX3_choose_55 : decode cX3_choose 55 = .ok (.goto 34, 3) := by decide +kernel
theorem dX3_choose_58 : decode cX3_choose 58 = .ok (.aload_n 0, 1) := by decide +kernel
theorem dX3_choose_59 : decode cX3_choose 59 = .ok (.iconst 0, 1) := by decide +kernel
theorem dX3_choose_60 : decode cX3_choose 60 = .ok (.iconst 0, 1) := by decide +kernel
theorem dX3_choose_61 : decode cX3_choose 61 = .ok (.lload_n 3, 1) := by decide +kernel
theorem dX3_choose_62 : decode cX3_choose 62 = .ok (.invokevirtual 47, 3) := by decide +kernel
theorem dX3_choose_65 : decode cX3_choose 65 = .ok (.ifCond .eq 11, 3) := by decide +kernel
theorem dX3_choose_68 : decode cX3_choose 68 = .ok (.aload_n 0, 1) := by decide +kernel
theorem dX3_choose_69 : decode cX3_choose 69 = .ok (.iconst 2, 1) := by decide +kernel
theorem dX3_choose_70 : decode cX3_choose 70 = .ok (.putfield 22, 3) := by decide +kernel
theorem dX3_choose_73 : decode cX3_choose 73 = .ok (.goto 16, 3) := by decide +kernel
theorem dX3_choose_76 : decode cX3_choose 76 = .ok (.aload_n 0, 1) := by decide +kernel
theorem dX3_choose_77 : decode cX3_choose 77 = .ok (.lload_n 3, 1) := by decide +kernel
theorem dX3_choose_78 : decode cX3_choose 78 = .ok (.invokevirtual 50, 3) := by decide +kernel
theorem dX3_choose_81 : decode cX3_choose 81 = .ok (.ifCond .eq 8, 3) := by decide +kernel
theorem dX3_choose_84 : decode cX3_choose 84 = .ok (.aload_n 0, 1) := by decide +kernel
theorem dX3_choose_85 : decode cX3_choose 85 = .ok (.iconst 3, 1) := by decide +kernel
theorem dX3_choose_86 : decode cX3_choose 86 = .ok (.putfield 22, 3) := by decide +kernel
theorem dX3_choose_89 : decode cX3_choose 89 = .ok (.return_, 1) := by decide +kernel
theorem dX3_wordOfZeros_0 : decode cX3_wordOfZeros 0 = .ok (.aload_n 0, 1) := by decide +kernel
theorem dX3_wordOfZeros_1 : decode cX3_wordOfZeros 1 = .ok (.getfield 9, 3) := by decide +kernel
theorem dX3_wordOfZeros_4 : decode cX3_wordOfZeros 4 = .ok (.lconst 0, 1) := by decide +kernel
theorem dX3_wordOfZeros_5 : decode cX3_wordOfZeros 5 = .ok (.invokestatic 53, 3) := by decide +kernel
theorem dX3_wordOfZeros_8 : decode cX3_wordOfZeros 8 = .ok (.lconst 0, 1) := by decide +kernel
theorem dX3_wordOfZeros_9 : decode cX3_wordOfZeros 9 = .ok (.lstore_n 3, 1) := by decide +kernel
theorem dX3_wordOfZeros_10 : decode cX3_wordOfZeros 10 = .ok (.iconst 0, 1) := by decide +kernel
theorem dX3_wordOfZeros_11 : decode cX3_wordOfZeros 11 = .ok (.istore 5, 2) := by decide +kernel
theorem dX3_wordOfZeros_13 : decode cX3_wordOfZeros 13 = .ok (.iload 5, 2) := by decide +kernel
theorem dX3_wordOfZeros_15 : decode cX3_wordOfZeros 15 = .ok (.iconst 3, 1) := by decide +kernel
theorem dX3_wordOfZeros_16 : decode cX3_wordOfZeros 16 = .ok (.if_icmp .ge 98, 3) := by decide +kernel
theorem dX3_wordOfZeros_19 : decode cX3_wordOfZeros 19 = .ok (.aload_n 1, 1) := by decide +kernel
theorem dX3_wordOfZeros_20 : decode cX3_wordOfZeros 20 = .ok (.iload 5, 2) := by decide +kernel
theorem dX3_wordOfZeros_22 : decode cX3_wordOfZeros 22 = .ok (.invokevirtual 59, 3) := by decide +kernel
theorem dX3_wordOfZeros_25 : decode cX3_wordOfZeros 25 = .ok (.ifCond .ne 13, 3) := by decide +kernel
theorem dX3_wordOfZeros_28 : decode cX3_wordOfZeros 28 = .ok (.lload_n 3, 1) := by decide +kernel
theorem dX3_wordOfZeros_29 : decode cX3_wordOfZeros 29 = .ok (.lconst 1, 1) := by decide +kernel
theorem dX3_wordOfZeros_30 : decode cX3_wordOfZeros 30 = .ok (.iload 5, 2) := by decide +kernel
theorem dX3_wordOfZeros_32 : decode cX3_wordOfZeros 32 = .ok (.bipush 16, 2) := by decide +kernel
theorem dX3_wordOfZeros_34 : decode cX3_wordOfZeros 34 = .ok (.imul, 1) := by decide +kernel
theorem dX3_wordOfZeros_35 : decode cX3_wordOfZeros 35 = .ok (.lshl, 1) := by decide +kernel
theorem dX3_wordOfZeros_36 : decode cX3_wordOfZeros 36 = .ok (.lor, 1) := by decide +kernel
theorem dX3_wordOfZeros_37 : decode cX3_wordOfZeros 37 = .ok (.lstore_n 3, 1) := by decide +kernel
theorem dX3_wordOfZeros_38 : decode cX3_wordOfZeros 38 = .ok (.iconst 0, 1) := by decide +kernel
theorem dX3_wordOfZeros_39 : decode cX3_wordOfZeros 39 = .ok (.istore 6, 2) := by decide +kernel
theorem dX3_wordOfZeros_41 : decode cX3_wordOfZeros 41 = .ok (.iload 6, 2) := by decide +kernel
theorem dX3_wordOfZeros_43 : decode cX3_wordOfZeros 43 = .ok (.aload_n 1, 1) := by decide +kernel
theorem dX3_wordOfZeros_44 : decode cX3_wordOfZeros 44 = .ok (.iload 5, 2) := by decide +kernel
theorem dX3_wordOfZeros_46 : decode cX3_wordOfZeros 46 = .ok (.invokevirtual 65, 3) := by decide +kernel
theorem dX3_wordOfZeros_49 : decode cX3_wordOfZeros 49 = .ok (.if_icmp .ge 59, 3) := by decide +kernel
theorem dX3_wordOfZeros_52 : decode cX3_wordOfZeros 52 = .ok (.lconst 1, 1) := by decide +kernel
theorem dX3_wordOfZeros_53 : decode cX3_wordOfZeros 53 = .ok (.iload 5, 2) := by decide +kernel
theorem dX3_wordOfZeros_55 : decode cX3_wordOfZeros 55 = .ok (.bipush 16, 2) := by decide +kernel
theorem dX3_wordOfZeros_57 : decode cX3_wordOfZeros 57 = .ok (.imul, 1) := by decide +kernel
theorem dX3_wordOfZeros_58 : decode cX3_wordOfZeros 58 = .ok (.iload 6, 2) := by decide +kernel
theorem dX3_wordOfZeros_60 : decode cX3_wordOfZeros 60 = .ok (.iadd, 1) := by decide +kernel
theorem dX3_wordOfZeros_61 : decode cX3_wordOfZeros 61 = .ok (.lshl, 1) := by decide +kernel
theorem dX3_wordOfZeros_62 : decode cX3_wordOfZeros 62 = .ok (.lstore 7, 2) := by decide +kernel
theorem dX3_wordOfZeros_64 : decode cX3_wordOfZeros 64 = .ok (.lload_n 3, 1) := by decide +kernel
theorem dX3_wordOfZeros_65 : decode cX3_wordOfZeros 65 = .ok (.aload_n 0, 1) := by decide +kernel
theorem dX3_wordOfZeros_66 : decode cX3_wordOfZeros 66 = .ok (.aload_n 1, 1) := by decide +kernel
theorem dX3_wordOfZeros_67 : decode cX3_wordOfZeros 67 = .ok (.iload 5, 2) := by decide +kernel
theorem dX3_wordOfZeros_69 : decode cX3_wordOfZeros 69 = .ok (.iconst 0, 1) := by decide +kernel
theorem dX3_wordOfZeros_70 : decode cX3_wordOfZeros 70 = .ok (.iload 6, 2) := by decide +kernel
theorem dX3_wordOfZeros_72 : decode cX3_wordOfZeros 72 = .ok (.invokevirtual 69, 3) := by decide +kernel
theorem dX3_wordOfZeros_75 : decode cX3_wordOfZeros 75 = .ok (.lload 7, 2) := by decide +kernel
theorem dX3_wordOfZeros_77 : decode cX3_wordOfZeros 77 = .ok (.aload_n 2, 1) := by decide +kernel
theorem dX3_wordOfZeros_78 : decode cX3_wordOfZeros 78 = .ok (.invokevirtual 73, 3) := by decide +kernel
theorem dX3_wordOfZeros_81 : decode cX3_wordOfZeros 81 = .ok (.lxor, 1) := by decide +kernel
theorem dX3_wordOfZeros_82 : decode cX3_wordOfZeros 82 = .ok (.lstore_n 3, 1) := by decide +kernel
theorem dX3_wordOfZeros_83 : decode cX3_wordOfZeros 83 = .ok (.lload_n 3, 1) := by decide +kernel
theorem dX3_wordOfZeros_84 : decode cX3_wordOfZeros 84 = .ok (.aload_n 0, 1) := by decide +kernel
theorem dX3_wordOfZeros_85 : decode cX3_wordOfZeros 85 = .ok (.aload_n 1, 1) := by decide +kernel
theorem dX3_wordOfZeros_86 : decode cX3_wordOfZeros 86 = .ok (.iload 5, 2) := by decide +kernel
theorem dX3_wordOfZeros_88 : decode cX3_wordOfZeros 88 = .ok (.iconst 1, 1) := by decide +kernel
theorem dX3_wordOfZeros_89 : decode cX3_wordOfZeros 89 = .ok (.iload 6, 2) := by decide +kernel
theorem dX3_wordOfZeros_91 : decode cX3_wordOfZeros 91 = .ok (.invokevirtual 69, 3) := by decide +kernel
theorem dX3_wordOfZeros_94 : decode cX3_wordOfZeros 94 = .ok (.lload 7, 2) := by decide +kernel
theorem dX3_wordOfZeros_96 : decode cX3_wordOfZeros 96 = .ok (.aload_n 2, 1) := by decide +kernel
theorem dX3_wordOfZeros_97 : decode cX3_wordOfZeros 97 = .ok (.invokevirtual 73, 3) := by decide +kernel
theorem dX3_wordOfZeros_100 : decode cX3_wordOfZeros 100 = .ok (.lxor, 1) := by decide +kernel
theorem dX3_wordOfZeros_101 : decode cX3_wordOfZeros 101 = .ok (.lstore_n 3, 1) := by decide +kernel
theorem dX3_wordOfZeros_102 : decode cX3_wordOfZeros 102 = .ok (.iinc 6 1, 3) := by decide +kernel
theorem dX3_wordOfZeros_105 : decode cX3_wordOfZeros 105 = .ok (.goto (-64), 3) := by decide +kernel
theorem dX3_wordOfZeros_108 : decode cX3_wordOfZeros 108 = .ok (.iinc 5 1, 3) := by decide +kernel
theorem dX3_wordOfZeros_111 : decode cX3_wordOfZeros 111 = .ok (.goto (-98), 3) := by decide +kernel
theorem dX3_wordOfZeros_114 : decode cX3_wordOfZeros 114 = .ok (.lload_n 3, 1) := by decide +kernel
theorem dX3_wordOfZeros_115 : decode cX3_wordOfZeros 115 = .ok (.lreturn, 1) := by decide +kernel
theorem dX3_constantPlace_0 : decode cX3_constantPlace 0 = .ok (.aload 4, 2) := by decide +kernel
theorem dX3_constantPlace_2 : decode cX3_constantPlace 2 = .ok (.iload_n 1, 1) := by decide +kernel
theorem dX3_constantPlace_3 : decode cX3_constantPlace 3 = .ok (.invokevirtual 77, 3) := by decide +kernel
theorem dX3_constantPlace_6 : decode cX3_constantPlace 6 = .ok (.istore 5, 2) := by decide +kernel
theorem dX3_constantPlace_8 : decode cX3_constantPlace 8 = .ok (.iload 5, 2) := by decide +kernel
theorem dX3_constantPlace_10 : decode cX3_constantPlace 10 = .ok (.iconst (-1), 1) := by decide +kernel
theorem dX3_constantPlace_11 : decode cX3_constantPlace 11 = .ok (.if_icmp .ne 18, 3) := by decide +kernel
theorem dX3_constantPlace_14 : decode cX3_constantPlace 14 = .ok (.aload_n 0, 1) := by decide +kernel
theorem dX3_constantPlace_15 : decode cX3_constantPlace 15 = .ok (.getfield 9, 3) := by decide +kernel
theorem dX3_constantPlace_18 : decode cX3_constantPlace 18 = .ok (.aload 4, 2) := by decide +kernel
theorem dX3_constantPlace_20 : decode cX3_constantPlace 20 = .ok (.iload_n 1, 1) := by decide +kernel
theorem dX3_constantPlace_21 : decode cX3_constantPlace 21 = .ok (.invokevirtual 80, 3) := by decide +kernel
theorem dX3_constantPlace_24 : decode cX3_constantPlace 24 = .ok (.dup2, 1) := by decide +kernel
theorem dX3_constantPlace_25 : decode cX3_constantPlace 25 = .ok (.laload, 1) := by decide +kernel
theorem dX3_constantPlace_26 : decode cX3_constantPlace 26 = .ok (.lload_n 2, 1) := by decide +kernel
theorem dX3_constantPlace_27 : decode cX3_constantPlace 27 = .ok (.lxor, 1) := by decide +kernel
theorem dX3_constantPlace_28 : decode cX3_constantPlace 28 = .ok (.lastore, 1) := by decide +kernel
theorem dX3_constantPlace_29 : decode cX3_constantPlace 29 = .ok (.iload 5, 2) := by decide +kernel
theorem dX3_constantPlace_31 : decode cX3_constantPlace 31 = .ok (.iconst 1, 1) := by decide +kernel
theorem dX3_constantPlace_32 : decode cX3_constantPlace 32 = .ok (.if_icmp .ne 7, 3) := by decide +kernel
theorem dX3_constantPlace_35 : decode cX3_constantPlace 35 = .ok (.lload_n 2, 1) := by decide +kernel
theorem dX3_constantPlace_36 : decode cX3_constantPlace 36 = .ok (.goto 4, 3) := by decide +kernel
theorem dX3_constantPlace_39 : decode cX3_constantPlace 39 = .ok (.lconst 0, 1) := by decide +kernel
theorem dX3_constantPlace_40 : decode cX3_constantPlace 40 = .ok (.lreturn, 1) := by decide +kernel
theorem dX3_gatherCandidates_0 : decode cX3_gatherCandidates 0 = .ok (.aload_n 0, 1) := by decide +kernel
theorem dX3_gatherCandidates_1 : decode cX3_gatherCandidates 1 = .ok (.iconst 0, 1) := by decide +kernel
theorem dX3_gatherCandidates_2 : decode cX3_gatherCandidates 2 = .ok (.putfield 83, 3) := by decide +kernel
theorem dX3_gatherCandidates_5 : decode cX3_gatherCandidates 5 = .ok (.iconst 0, 1) := by decide +kernel
theorem dX3_gatherCandidates_6 : decode cX3_gatherCandidates 6 = .ok (.istore_n 1, 1) := by decide +kernel
theorem dX3_gatherCandidates_7 : decode cX3_gatherCandidates 7 = .ok (.iload_n 1, 1) := by decide +kernel
theorem dX3_gatherCandidates_8 : decode cX3_gatherCandidates 8 = .ok (.sipush 128, 3) := by decide +kernel
theorem dX3_gatherCandidates_11 : decode cX3_gatherCandidates 11 = .ok (.if_icmp .ge 40, 3) := by decide +kernel
theorem dX3_gatherCandidates_14 : decode cX3_gatherCandidates 14 = .ok (.aload_n 0, 1) := by decide +kernel
theorem dX3_gatherCandidates_15 : decode cX3_gatherCandidates 15 = .ok (.getfield 9, 3) := by decide +kernel
theorem dX3_gatherCandidates_18 : decode cX3_gatherCandidates 18 = .ok (.iload_n 1, 1) := by decide +kernel
theorem dX3_gatherCandidates_19 : decode cX3_gatherCandidates 19 = .ok (.laload, 1) := by decide +kernel
theorem dX3_gatherCandidates_20 : decode cX3_gatherCandidates 20 = .ok (.lconst 0, 1) := by decide +kernel
theorem dX3_gatherCandidates_21 : decode cX3_gatherCandidates 21 = .ok (.lcmp, 1) := by decide +kernel
theorem dX3_gatherCandidates_22 : decode cX3_gatherCandidates 22 = .ok (.ifCond .eq 23, 3) := by decide +kernel
theorem dX3_gatherCandidates_25 : decode cX3_gatherCandidates 25 = .ok (.aload_n 0, 1) := by decide +kernel
theorem dX3_gatherCandidates_26 : decode cX3_gatherCandidates 26 = .ok (.getfield 15, 3) := by decide +kernel
theorem dX3_gatherCandidates_29 : decode cX3_gatherCandidates 29 = .ok (.aload_n 0, 1) := by decide +kernel
theorem dX3_gatherCandidates_30 : decode cX3_gatherCandidates 30 = .ok (.getfield 83, 3) := by decide +kernel
theorem dX3_gatherCandidates_33 : decode cX3_gatherCandidates 33 = .ok (.iload_n 1, 1) := by decide +kernel
theorem dX3_gatherCandidates_34 : decode cX3_gatherCandidates 34 = .ok (.iastore, 1) := by decide +kernel
theorem dX3_gatherCandidates_35 : decode cX3_gatherCandidates 35 = .ok (.aload_n 0, 1) := by decide +kernel
theorem dX3_gatherCandidates_36 : decode cX3_gatherCandidates 36 = .ok (.dup, 1) := by decide +kernel
theorem dX3_gatherCandidates_37 : decode cX3_gatherCandidates 37 = .ok (.getfield 83, 3) := by decide +kernel
theorem dX3_gatherCandidates_40 : decode cX3_gatherCandidates 40 = .ok (.iconst 1, 1) := by decide +kernel
theorem dX3_gatherCandidates_41 : decode cX3_gatherCandidates 41 = .ok (.iadd, 1) := by decide +kernel
theorem dX3_gatherCandidates_42 : decode cX3_gatherCandidates 42 = .ok (.putfield 83, 3) := by decide +kernel
theorem dX3_gatherCandidates_45 : decode cX3_gatherCandidates 45 = .ok (.iinc 1 1, 3) := by decide +kernel
theorem dX3_gatherCandidates_48 : decode cX3_gatherCandidates 48 = .ok (.goto (-41), 3) := by decide +kernel
theorem dX3_gatherCandidates_51 : decode cX3_gatherCandidates 51 = .ok (.return_, 1) := by decide +kernel
theorem dX3_pickThree_0 : decode cX3_pickThree 0 = .ok (.iconst 0, 1) := by decide +kernel
theorem dX3_pickThree_1 : decode cX3_pickThree 1 = .ok (.istore_n 3, 1) := by decide +kernel
theorem dX3_pickThree_2 : decode cX3_pickThree 2 = .ok (.iload_n 3, 1) := by decide +kernel
theorem dX3_pickThree_3 : decode cX3_pickThree 3 = .ok (.aload_n 0, 1) := by decide +kernel
theorem dX3_pickThree_4 : decode cX3_pickThree 4 = .ok (.getfield 83, 3) := by decide +kernel
theorem dX3_pickThree_7 : decode cX3_pickThree 7 = .ok (.if_icmp .ge 47, 3) := by decide +kernel
theorem dX3_pickThree_10 : decode cX3_pickThree 10 = .ok (.aload_n 0, 1) := by decide +kernel
theorem dX3_pickThree_11 : decode cX3_pickThree 11 = .ok (.getfield 19, 3) := by decide +kernel
theorem dX3_pickThree_14 : decode cX3_pickThree 14 = .ok (.iconst 0, 1) := by decide +kernel
theorem dX3_pickThree_15 : decode cX3_pickThree 15 = .ok (.aload_n 0, 1) := by decide +kernel
theorem dX3_pickThree_16 : decode cX3_pickThree 16 = .ok (.getfield 15, 3) := by decide +kernel
theorem dX3_pickThree_19 : decode cX3_pickThree 19 = .ok (.iload_n 3, 1) := by decide +kernel
theorem dX3_pickThree_20 : decode cX3_pickThree 20 = .ok (.iaload, 1) := by decide +kernel
theorem dX3_pickThree_21 : decode cX3_pickThree 21 = .ok (.iastore, 1) := by decide +kernel
theorem dX3_pickThree_22 : decode cX3_pickThree 22 = .ok (.aload_n 0, 1) := by decide +kernel
theorem dX3_pickThree_23 : decode cX3_pickThree 23 = .ok (.iconst 1, 1) := by decide +kernel
theorem dX3_pickThree_24 : decode cX3_pickThree 24 = .ok (.iload_n 3, 1) := by decide +kernel
theorem dX3_pickThree_25 : decode cX3_pickThree 25 = .ok (.iconst 1, 1) := by decide +kernel
theorem dX3_pickThree_26 : decode cX3_pickThree 26 = .ok (.iadd, 1) := by decide +kernel
theorem dX3_pickThree_27 : decode cX3_pickThree 27 = .ok (.lload_n 1, 1) := by decide +kernel
theorem dX3_pickThree_28 : decode cX3_pickThree 28 = .ok (.aload_n 0, 1) := by decide +kernel
theorem dX3_pickThree_29 : decode cX3_pickThree 29 = .ok (.getfield 9, 3) := by decide +kernel
theorem dX3_pickThree_32 : decode cX3_pickThree 32 = .ok (.aload_n 0, 1) := by decide +kernel
theorem dX3_pickThree_33 : decode cX3_pickThree 33 = .ok (.getfield 15, 3) := by decide +kernel
theorem dX3_pickThree_36 : decode cX3_pickThree 36 = .ok (.iload_n 3, 1) := by decide +kernel
theorem dX3_pickThree_37 : decode cX3_pickThree 37 = .ok (.iaload, 1) := by decide +kernel
theorem dX3_pickThree_38 : decode cX3_pickThree 38 = .ok (.laload, 1) := by decide +kernel
theorem dX3_pickThree_39 : decode cX3_pickThree 39 = .ok (.lxor, 1) := by decide +kernel
theorem dX3_pickThree_40 : decode cX3_pickThree 40 = .ok (.invokevirtual 47, 3) := by decide +kernel
theorem dX3_pickThree_43 : decode cX3_pickThree 43 = .ok (.ifCond .eq 5, 3) := by decide +kernel
theorem dX3_pickThree_46 : decode cX3_pickThree 46 = .ok (.iconst 1, 1) := by decide +kernel
theorem dX3_pickThree_47 : decode cX3_pickThree 47 = .ok (.ireturn, 1) := by decide +kernel
theorem dX3_pickThree_48 : decode cX3_pickThree 48 = .ok (.iinc 3 1, 3) := by decide +kernel
theorem dX3_pickThree_51 : decode cX3_pickThree 51 = .ok (.goto (-49), 3) := by decide +kernel
theorem dX3_pickThree_54 : decode cX3_pickThree 54 = .ok (.iconst 0, 1) := by decide +kernel
theorem dX3_pickThree_55 : decode cX3_pickThree 55 = .ok (.ireturn, 1) := by decide +kernel
theorem dX3_pickLastTwo_0 : decode cX3_pickLastTwo 0 = .ok (.iload_n 2, 1) := by decide +kernel
theorem dX3_pickLastTwo_1 : decode cX3_pickLastTwo 1 = .ok (.istore 5, 2) := by decide +kernel
theorem dX3_pickLastTwo_3 : decode cX3_pickLastTwo 3 = .ok (.iload 5, 2) := by decide +kernel
theorem dX3_pickLastTwo_5 : decode cX3_pickLastTwo 5 = .ok (.aload_n 0, 1) := by decide +kernel
theorem dX3_pickLastTwo_6 : decode cX3_pickLastTwo 6 = .ok (.getfield 83, 3) := by decide +kernel
theorem dX3_pickLastTwo_9 : decode cX3_pickLastTwo 9 = .ok (.if_icmp .ge 52, 3) := by decide +kernel
theorem dX3_pickLastTwo_12 : decode cX3_pickLastTwo 12 = .ok (.aload_n 0, 1) := by decide +kernel
theorem dX3_pickLastTwo_13 : decode cX3_pickLastTwo 13 = .ok (.getfield 19, 3) := by decide +kernel
theorem dX3_pickLastTwo_16 : decode cX3_pickLastTwo 16 = .ok (.iload_n 1, 1) := by decide +kernel
theorem dX3_pickLastTwo_17 : decode cX3_pickLastTwo 17 = .ok (.aload_n 0, 1) := by decide +kernel
theorem dX3_pickLastTwo_18 : decode cX3_pickLastTwo 18 = .ok (.getfield 15, 3) := by decide +kernel
theorem dX3_pickLastTwo_21 : decode cX3_pickLastTwo 21 = .ok (.iload 5, 2) := by decide +kernel
theorem dX3_pickLastTwo_23 : decode cX3_pickLastTwo 23 = .ok (.iaload, 1) := by decide +kernel
theorem dX3_pickLastTwo_24 : decode cX3_pickLastTwo 24 = .ok (.iastore, 1) := by decide +kernel
theorem dX3_pickLastTwo_25 : decode cX3_pickLastTwo 25 = .ok (.aload_n 0, 1) := by decide +kernel
theorem dX3_pickLastTwo_26 : decode cX3_pickLastTwo 26 = .ok (.iload_n 1, 1) := by decide +kernel
theorem dX3_pickLastTwo_27 : decode cX3_pickLastTwo 27 = .ok (.iconst 1, 1) := by decide +kernel
theorem dX3_pickLastTwo_28 : decode cX3_pickLastTwo 28 = .ok (.iadd, 1) := by decide +kernel
theorem dX3_pickLastTwo_29 : decode cX3_pickLastTwo 29 = .ok (.iload 5, 2) := by decide +kernel
theorem dX3_pickLastTwo_31 : decode cX3_pickLastTwo 31 = .ok (.iconst 1, 1) := by decide +kernel
theorem dX3_pickLastTwo_32 : decode cX3_pickLastTwo 32 = .ok (.iadd, 1) := by decide +kernel
theorem dX3_pickLastTwo_33 : decode cX3_pickLastTwo 33 = .ok (.lload_n 3, 1) := by decide +kernel
theorem dX3_pickLastTwo_34 : decode cX3_pickLastTwo 34 = .ok (.aload_n 0, 1) := by decide +kernel
theorem dX3_pickLastTwo_35 : decode cX3_pickLastTwo 35 = .ok (.getfield 9, 3) := by decide +kernel
theorem dX3_pickLastTwo_38 : decode cX3_pickLastTwo 38 = .ok (.aload_n 0, 1) := by decide +kernel
theorem dX3_pickLastTwo_39 : decode cX3_pickLastTwo 39 = .ok (.getfield 15, 3) := by decide +kernel
theorem dX3_pickLastTwo_42 : decode cX3_pickLastTwo 42 = .ok (.iload 5, 2) := by decide +kernel
theorem dX3_pickLastTwo_44 : decode cX3_pickLastTwo 44 = .ok (.iaload, 1) := by decide +kernel
theorem dX3_pickLastTwo_45 : decode cX3_pickLastTwo 45 = .ok (.laload, 1) := by decide +kernel
theorem dX3_pickLastTwo_46 : decode cX3_pickLastTwo 46 = .ok (.lxor, 1) := by decide +kernel
theorem dX3_pickLastTwo_47 : decode cX3_pickLastTwo 47 = .ok (.invokevirtual 43, 3) := by decide +kernel
theorem dX3_pickLastTwo_50 : decode cX3_pickLastTwo 50 = .ok (.ifCond .eq 5, 3) := by decide +kernel
theorem dX3_pickLastTwo_53 : decode cX3_pickLastTwo 53 = .ok (.iconst 1, 1) := by decide +kernel
theorem dX3_pickLastTwo_54 : decode cX3_pickLastTwo 54 = .ok (.ireturn, 1) := by decide +kernel
theorem dX3_pickLastTwo_55 : decode cX3_pickLastTwo 55 = .ok (.iinc 5 1, 3) := by decide +kernel
theorem dX3_pickLastTwo_58 : decode cX3_pickLastTwo 58 = .ok (.goto (-55), 3) := by decide +kernel
theorem dX3_pickLastTwo_61 : decode cX3_pickLastTwo 61 = .ok (.iconst 0, 1) := by decide +kernel
theorem dX3_pickLastTwo_62 : decode cX3_pickLastTwo 62 = .ok (.ireturn, 1) := by decide +kernel
theorem dX3_pickLast_0 : decode cX3_pickLast 0 = .ok (.iload_n 2, 1) := by decide +kernel
theorem dX3_pickLast_1 : decode cX3_pickLast 1 = .ok (.istore 5, 2) := by decide +kernel
theorem dX3_pickLast_3 : decode cX3_pickLast 3 = .ok (.iload 5, 2) := by decide +kernel
theorem dX3_pickLast_5 : decode cX3_pickLast 5 = .ok (.aload_n 0, 1) := by decide +kernel
theorem dX3_pickLast_6 : decode cX3_pickLast 6 = .ok (.getfield 83, 3) := by decide +kernel
theorem dX3_pickLast_9 : decode cX3_pickLast 9 = .ok (.if_icmp .ge 44, 3) := by decide +kernel
theorem dX3_pickLast_12 : decode cX3_pickLast 12 = .ok (.lload_n 3, 1) := by decide +kernel
theorem dX3_pickLast_13 : decode cX3_pickLast 13 = .ok (.aload_n 0, 1) := by decide +kernel
theorem dX3_pickLast_14 : decode cX3_pickLast 14 = .ok (.getfield 9, 3) := by decide +kernel
theorem dX3_pickLast_17 : decode cX3_pickLast 17 = .ok (.aload_n 0, 1) := by decide +kernel
theorem dX3_pickLast_18 : decode cX3_pickLast 18 = .ok (.getfield 15, 3) := by decide +kernel
theorem dX3_pickLast_21 : decode cX3_pickLast 21 = .ok (.iload 5, 2) := by decide +kernel
theorem dX3_pickLast_23 : decode cX3_pickLast 23 = .ok (.iaload, 1) := by decide +kernel
theorem dX3_pickLast_24 : decode cX3_pickLast 24 = .ok (.laload, 1) := by decide +kernel
theorem dX3_pickLast_25 : decode cX3_pickLast 25 = .ok (.lxor, 1) := by decide +kernel
theorem dX3_pickLast_26 : decode cX3_pickLast 26 = .ok (.invokestatic 39, 3) := by decide +kernel
theorem dX3_pickLast_29 : decode cX3_pickLast 29 = .ok (.ifCond .eq 18, 3) := by decide +kernel
theorem dX3_pickLast_32 : decode cX3_pickLast 32 = .ok (.aload_n 0, 1) := by decide +kernel
theorem dX3_pickLast_33 : decode cX3_pickLast 33 = .ok (.getfield 19, 3) := by decide +kernel
theorem dX3_pickLast_36 : decode cX3_pickLast 36 = .ok (.iload_n 1, 1) := by decide +kernel
theorem dX3_pickLast_37 : decode cX3_pickLast 37 = .ok (.aload_n 0, 1) := by decide +kernel
theorem dX3_pickLast_38 : decode cX3_pickLast 38 = .ok (.getfield 15, 3) := by decide +kernel
theorem dX3_pickLast_41 : decode cX3_pickLast 41 = .ok (.iload 5, 2) := by decide +kernel
theorem dX3_pickLast_43 : decode cX3_pickLast 43 = .ok (.iaload, 1) := by decide +kernel
theorem dX3_pickLast_44 : decode cX3_pickLast 44 = .ok (.iastore, 1) := by decide +kernel
theorem dX3_pickLast_45 : decode cX3_pickLast 45 = .ok (.iconst 1, 1) := by decide +kernel
theorem dX3_pickLast_46 : decode cX3_pickLast 46 = .ok (.ireturn, 1) := by decide +kernel
theorem dX3_pickLast_47 : decode cX3_pickLast 47 = .ok (.iinc 5 1, 3) := by decide +kernel
theorem dX3_pickLast_50 : decode cX3_pickLast 50 = .ok (.goto (-47), 3) := by decide +kernel
theorem dX3_pickLast_53 : decode cX3_pickLast 53 = .ok (.iconst 0, 1) := by decide +kernel
theorem dX3_pickLast_54 : decode cX3_pickLast 54 = .ok (.ireturn, 1) := by decide +kernel
theorem dX3_holds_0 : decode cX3_holds 0 = .ok (.lload_n 0, 1) := by decide +kernel
theorem dX3_holds_1 : decode cX3_holds 1 = .ok (.ldc2_w 86, 3) := by decide +kernel
theorem dX3_holds_4 : decode cX3_holds 4 = .ok (.land, 1) := by decide +kernel
theorem dX3_holds_5 : decode cX3_holds 5 = .ok (.lconst 0, 1) := by decide +kernel
theorem dX3_holds_6 : decode cX3_holds 6 = .ok (.lcmp, 1) := by decide +kernel
theorem dX3_holds_7 : decode cX3_holds 7 = .ok (.ifCond .eq 27, 3) := by decide +kernel
theorem dX3_holds_10 : decode cX3_holds 10 = .ok (.lload_n 0, 1) := by decide +kernel
theorem dX3_holds_11 : decode cX3_holds 11 = .ok (.ldc2_w 88, 3) := by decide +kernel
theorem dX3_holds_14 : decode cX3_holds 14 = .ok (.land, 1) := by decide +kernel
theorem dX3_holds_15 : decode cX3_holds 15 = .ok (.lconst 0, 1) := by decide +kernel
theorem dX3_holds_16 : decode cX3_holds 16 = .ok (.lcmp, 1) := by decide +kernel
theorem dX3_holds_17 : decode cX3_holds 17 = .ok (.ifCond .eq 17, 3) := by decide +kernel
theorem dX3_holds_20 : decode cX3_holds 20 = .ok (.lload_n 0, 1) := by decide +kernel
theorem dX3_holds_21 : decode cX3_holds 21 = .ok (.ldc2_w 90, 3) := by decide +kernel
theorem dX3_holds_24 : decode cX3_holds 24 = .ok (.land, 1) := by decide +kernel
theorem dX3_holds_25 : decode cX3_holds 25 = .ok (.lconst 0, 1) := by decide +kernel
theorem dX3_holds_26 : decode cX3_holds 26 = .ok (.lcmp, 1) := by decide +kernel
theorem dX3_holds_27 : decode cX3_holds 27 = .ok (.ifCond .eq 7, 3) := by decide +kernel
theorem dX3_holds_30 : decode cX3_holds 30 = .ok (.iconst 1, 1) := by decide +kernel
theorem dX3_holds_31 : decode cX3_holds 31 = .ok (.goto 4, 3) := by decide +kernel
theorem dX3_holds_34 : decode cX3_holds 34 = .ok (.iconst 0, 1) := by decide +kernel
theorem dX3_holds_35 : decode cX3_holds 35 = .ok (.ireturn, 1) := by decide +kernel
theorem dX4_init_0 : decode cX4_init 0 = .ok (.aload_n 0, 1) := by decide +kernel
theorem dX4_init_1 : decode cX4_init 1 = .ok (.invokespecial 3, 3) := by decide +kernel
theorem dX4_init_4 : decode cX4_init 4 = .ok (.aload_n 0, 1) := by decide +kernel
theorem dX4_init_5 : decode cX4_init 5 = .ok (.bipush 8, 2) := by decide +kernel
theorem dX4_init_7 : decode cX4_init 7 = .ok (.newarray .int, 2) := by decide +kernel
theorem dX4_init_9 : decode cX4_init 9 = .ok (.putfield 9, 3) := by decide +kernel
theorem dX4_init_12 : decode cX4_init 12 = .ok (.aload_n 0, 1) := by decide +kernel
theorem dX4_init_13 : decode cX4_init 13 = .ok (.new 15, 3) := by decide +kernel
theorem dX4_init_16 : decode cX4_init 16 = .ok (.dup, 1) := by decide +kernel
theorem dX4_init_17 : decode cX4_init 17 = .ok (.bipush 10, 2) := by decide +kernel
theorem dX4_init_19 : decode cX4_init 19 = .ok (.invokespecial 17, 3) := by decide +kernel
theorem dX4_init_22 : decode cX4_init 22 = .ok (.putfield 20, 3) := by decide +kernel
theorem dX4_init_25 : decode cX4_init 25 = .ok (.aload_n 0, 1) := by decide +kernel
theorem dX4_init_26 : decode cX4_init 26 = .ok (.new 15, 3) := by decide +kernel
theorem dX4_init_29 : decode cX4_init 29 = .ok (.dup, 1) := by decide +kernel
theorem dX4_init_30 : decode cX4_init 30 = .ok (.iconst 3, 1) := by decide +kernel
theorem dX4_init_31 : decode cX4_init 31 = .ok (.invokespecial 17, 3) := by decide +kernel
theorem dX4_init_34 : decode cX4_init 34 = .ok (.putfield 24, 3) := by decide +kernel
theorem dX4_init_37 : decode cX4_init 37 = .ok (.return_, 1) := by decide +kernel
theorem dX4_widthOf_0 : decode cX4_widthOf 0 = .ok (.iload_n 1, 1) := by decide +kernel
theorem dX4_widthOf_1 : decode cX4_widthOf 1 = .ok (.invokestatic 27, 3) := by decide +kernel
theorem dX4_widthOf_4 : decode cX4_widthOf 4 = .ok (.ifCond .eq 12, 3) := by decide +kernel
theorem dX4_widthOf_7 : decode cX4_widthOf 7 = .ok (.aload_n 0, 1) := by decide +kernel
theorem dX4_widthOf_8 : decode cX4_widthOf 8 = .ok (.getfield 9, 3) := by decide +kernel
theorem dX4_widthOf_11 : decode cX4_widthOf 11 = .ok (.iload_n 1, 1) := by decide +kernel
theorem dX4_widthOf_12 : decode cX4_widthOf 12 = .ok (.iaload, 1) := by decide +kernel
theorem dX4_widthOf_13 : decode cX4_widthOf 13 = .ok (.goto 4, 3) := by decide +kernel
theorem dX4_widthOf_16 : decode cX4_widthOf 16 = .ok (.iconst 0, 1) := by decide +kernel
theorem dX4_widthOf_17 : decode cX4_widthOf 17 = .ok (.ireturn, 1) := by decide +kernel
theorem dX4_statementCount_0 : decode cX4_statementCount 0 = .ok (.aload_n 0, 1) := by decide +kernel
theorem dX4_statementCount_1 : decode cX4_statementCount 1 = .ok (.getfield 20, 3) := by decide +kernel
theorem dX4_statementCount_4 : decode cX4_statementCount 4 = .ok (.invokevirtual 31, 3) := by decide +kernel
theorem dX4_statementCount_7 : decode cX4_statementCount 7 = .ok (.aload_n 0, 1) := by decide +kernel
theorem dX4_statementCount_8 : decode cX4_statementCount 8 = .ok (.getfield 24, 3) := by decide +kernel
theorem dX4_statementCount_11 : decode cX4_statementCount 11 = .ok (.invokevirtual 31, 3) := by decide +kernel
theorem dX4_statementCount_14 : decode cX4_statementCount 14 = .ok (.iadd, 1) := by decide +kernel
theorem dX4_statementCount_15 : decode cX4_statementCount 15 = .ok (.ireturn, 1) := by decide +kernel
theorem dX4_declare_0 : decode cX4_declare 0 = .ok (.iload_n 1, 1) := by decide +kernel
theorem dX4_declare_1 : decode cX4_declare 1 = .ok (.invokestatic 27, 3) := by decide +kernel
theorem dX4_declare_4 : decode cX4_declare 4 = .ok (.ifCond .eq 10, 3) := by decide +kernel
theorem dX4_declare_7 : decode cX4_declare 7 = .ok (.aload_n 0, 1) := by decide +kernel
theorem dX4_declare_8 : decode cX4_declare 8 = .ok (.getfield 9, 3) := by decide +kernel
theorem dX4_declare_11 : decode cX4_declare 11 = .ok (.iload_n 1, 1) := by decide +kernel
theorem dX4_declare_12 : decode cX4_declare 12 = .ok (.iload_n 2, 1) := by decide +kernel
theorem dX4_declare_13 : decode cX4_declare 13 = .ok (.iastore, 1) := by decide +kernel
theorem dX4_declare_14 : decode cX4_declare 14 = .ok (.return_, 1) := by decide +kernel
theorem dX4_clear_0 : decode cX4_clear 0 = .ok (.aload_n 0, 1) := by decide +kernel
theorem dX4_clear_1 : decode cX4_clear 1 = .ok (.getfield 9, 3) := by decide +kernel
theorem dX4_clear_4 : decode cX4_clear 4 = .ok (.iconst 0, 1) := by decide +kernel
theorem dX4_clear_5 : decode cX4_clear 5 = .ok (.invokestatic 35, 3) := by decide +kernel
theorem dX4_clear_8 : decode cX4_clear 8 = .ok (.aload_n 0, 1) := by decide +kernel
theorem dX4_clear_9 : decode cX4_clear 9 = .ok (.getfield 20, 3) := by decide +kernel
theorem dX4_clear_12 : decode cX4_clear 12 = .ok (.invokevirtual 41, 3) := by decide +kernel
theorem dX4_clear_15 : decode cX4_clear 15 = .ok (.aload_n 0, 1) := by decide +kernel
theorem dX4_clear_16 : decode cX4_clear 16 = .ok (.getfield 24, 3) := by decide +kernel
theorem dX4_clear_19 : decode cX4_clear 19 = .ok (.invokevirtual 41, 3) := by decide +kernel
theorem dX4_clear_22 : decode cX4_clear 22 = .ok (.return_, 1) := by decide +kernel
theorem dX4_copyFrom_0 : decode cX4_copyFrom 0 = .ok (.aload_n 1, 1) := by decide +kernel
theorem dX4_copyFrom_1 : decode cX4_copyFrom 1 = .ok (.getfield 9, 3) := by decide +kernel
theorem dX4_copyFrom_4 : decode cX4_copyFrom 4 = .ok (.iconst 0, 1) := by decide +kernel
theorem dX4_copyFrom_5 : decode cX4_copyFrom 5 = .ok (.aload_n 0, 1) := by decide +kernel
theorem dX4_copyFrom_6 : decode cX4_copyFrom 6 = .ok (.getfield 9, 3) := by decide +kernel
theorem dX4_copyFrom_9 : decode cX4_copyFrom 9 = .ok (.iconst 0, 1) := by decide +kernel
theorem dX4_copyFrom_10 : decode cX4_copyFrom 10 = .ok (.bipush 8, 2) := by decide +kernel
theorem dX4_copyFrom_12 : decode cX4_copyFrom 12 = .ok (.invokestatic 44, 3) := by decide +kernel
theorem dX4_copyFrom_15 : decode cX4_copyFrom 15 = .ok (.aload_n 0, 1) := by decide +kernel
theorem dX4_copyFrom_16 : decode cX4_copyFrom 16 = .ok (.getfield 20, 3) := by decide +kernel
theorem dX4_copyFrom_19 : decode cX4_copyFrom 19 = .ok (.aload_n 1, 1) := by decide +kernel
theorem dX4_copyFrom_20 : decode cX4_copyFrom 20 = .ok (.getfield 20, 3) := by decide +kernel
theorem dX4_copyFrom_23 : decode cX4_copyFrom 23 = .ok (.invokevirtual 50, 3) := by decide +kernel
theorem dX4_copyFrom_26 : decode cX4_copyFrom 26 = .ok (.aload_n 0, 1) := by decide +kernel
theorem dX4_copyFrom_27 : decode cX4_copyFrom 27 = .ok (.getfield 24, 3) := by decide +kernel
theorem dX4_copyFrom_30 : decode cX4_copyFrom 30 = .ok (.aload_n 1, 1) := by decide +kernel
theorem dX4_copyFrom_31 : decode cX4_copyFrom 31 = .ok (.getfield 24, 3) := by decide +kernel
theorem dX4_copyFrom_34 : decode cX4_copyFrom 34 = .ok (.invokevirtual 50, 3) := by decide +kernel
theorem dX4_copyFrom_37 : decode cX4_copyFrom 37 = .ok (.return_, 1) := by decide +kernel
theorem dX5_init_0 : decode cX5_init 0 = .ok (.aload_n 0, 1) := by decide +kernel
theorem dX5_init_1 : decode cX5_init 1 = .ok (.invokespecial 3, 3) := by decide +kernel
theorem dX5_init_4 : decode cX5_init 4 = .ok (.aload_n 0, 1) := by decide +kernel
theorem dX5_init_5 : decode cX5_init 5 = .ok (.new 9, 3) := by decide +kernel
theorem dX5_init_8 : decode cX5_init 8 = .ok (.dup, 1) := by decide +kernel
theorem dX5_init_9 : decode cX5_init 9 = .ok (.invokespecial 11, 3) := by decide +kernel
theorem dX5_init_12 : decode cX5_init 12 = .ok (.putfield 12, 3) := by decide +kernel
theorem dX5_init_15 : decode cX5_init 15 = .ok (.aload_n 0, 1) := by decide +kernel
theorem dX5_init_16 : decode cX5_init 16 = .ok (.aload_n 1, 1) := by decide +kernel
theorem dX5_init_17 : decode cX5_init 17 = .ok (.putfield 18, 3) := by decide +kernel
theorem dX5_init_20 : decode cX5_init 20 = .ok (.return_, 1) := by decide +kernel
theorem dX5_read_0 : decode cX5_read 0 = .ok (.aload_n 1, 1) := by decide +kernel
theorem dX5_read_1 : decode cX5_read 1 = .ok (.invokevirtual 22, 3) := by decide +kernel
theorem dX5_read_4 : decode cX5_read 4 = .ok (.aload_n 0, 1) := by decide +kernel
theorem dX5_read_5 : decode cX5_read 5 = .ok (.getfield 18, 3) := by decide +kernel
theorem dX5_read_8 : decode cX5_read 8 = .ok (.invokevirtual 27, 3) := by decide +kernel
theorem dX5_read_11 : decode cX5_read 11 = .ok (.iconst 1, 1) := by decide +kernel
theorem dX5_read_12 : decode cX5_read 12 = .ok (.istore_n 2, 1) := by decide +kernel
theorem dX5_read_13 : decode cX5_read 13 = .ok (.iconst 0, 1) := by decide +kernel
theorem dX5_read_14 : decode cX5_read 14 = .ok (.istore_n 3, 1) := by decide +kernel
theorem dX5_read_15 : decode cX5_read 15 = .ok (.iload_n 3, 1) := by decide +kernel
theorem dX5_read_16 : decode cX5_read 16 = .ok (.sipush 200, 3) := by decide +kernel
theorem dX5_read_19 : decode cX5_read 19 = .ok (.if_icmp .ge 53, 3) := by decide +kernel
theorem dX5_read_22 : decode cX5_read 22 = .ok (.iload_n 2, 1) := by decide +kernel
theorem dX5_read_23 : decode cX5_read 23 = .ok (.ifCond .eq 49, 3) := by decide +kernel
theorem dX5_read_26 : decode cX5_read 26 = .ok (.aload_n 0, 1) := by decide +kernel
theorem dX5_read_27 : decode cX5_read 27 = .ok (.getfield 18, 3) := by decide +kernel
theorem dX5_read_30 : decode cX5_read 30 = .ok (.invokevirtual 32, 3) := by decide +kernel
theorem dX5_read_33 : decode cX5_read 33 = .ok (.sipush 261, 3) := by decide +kernel
theorem dX5_read_36 : decode cX5_read 36 = .ok (.if_icmp .eq 36, 3) := by decide +kernel
theorem dX5_read_39 : decode cX5_read 39 = .ok (.aload_n 0, 1) := by decide +kernel
theorem dX5_read_40 : decode cX5_read 40 = .ok (.getfield 18, 3) := by decide +kernel
theorem dX5_read_43 : decode cX5_read 43 = .ok (.sipush 259, 3) := by decide +kernel
theorem dX5_read_46 : decode cX5_read 46 = .ok (.invokevirtual 36, 3) := by decide +kernel
theorem dX5_read_49 : decode cX5_read 49 = .ok (.ifCond .eq 11, 3) := by decide +kernel
theorem dX5_read_52 : decode cX5_read 52 = .ok (.aload_n 0, 1) := by decide +kernel
theorem dX5_read_53 : decode cX5_read 53 = .ok (.aload_n 1, 1) := by decide +kernel
theorem dX5_read_54 : decode cX5_read 54 = .ok (.invokevirtual 40, 3) := by decide +kernel
theorem dX5_read_57 : decode cX5_read 57 = .ok (.goto 8, 3) := by decide +kernel
theorem dX5_read_60 : decode cX5_read 60 = .ok (.aload_n 0, 1) := by decide +kernel
theorem dX5_read_61 : decode cX5_read 61 = .ok (.aload_n 1, 1) := by decide +kernel
theorem dX5_read_62 : decode cX5_read 62 = .ok (.invokevirtual 44, 3) := by decide +kernel
theorem dX5_read_65 : decode cX5_read 65 = .ok (.istore_n 2, 1) := by decide +kernel
theorem dX5_read_66 : decode cX5_read 66 = .ok (.iinc 3 1, 3) := by decide +kernel
theorem dX5_read_69 : decode cX5_read 69 = .ok (.goto (-54), 3) := by decide +kernel
theorem dX5_read_72 : decode cX5_read 72 = .ok (.iload_n 2, 1) := by decide +kernel
theorem dX5_read_73 : decode cX5_read 73 = .ok (.ifCond .eq 8, 3) := by decide +kernel
theorem dX5_read_76 : decode cX5_read 76 = .ok (.bipush (-9), 2) := by decide +kernel
theorem dX5_read_78 : decode cX5_read 78 = .ok (.goto 10, 3) := by decide +kernel
theorem dX5_read_81 : decode cX5_read 81 = .ok (.aload_n 0, 1) := by decide +kernel
theorem dX5_read_82 : decode cX5_read 82 = .ok (.getfield 18, 3) := by decide +kernel
theorem dX5_read_85 : decode cX5_read 85 = .ok (.invokevirtual 47, 3) := by decide +kernel
theorem dX5_read_88 : decode cX5_read 88 = .ok (.ireturn, 1) := by decide +kernel
theorem dX5_readDeclaration_0 : decode cX5_readDeclaration 0 = .ok (.aload_n 0, 1) := by decide +kernel
theorem dX5_readDeclaration_1 : decode cX5_readDeclaration 1 = .ok (.getfield 18, 3) := by decide +kernel
theorem dX5_readDeclaration_4 : decode cX5_readDeclaration 4 = .ok (.invokevirtual 50, 3) := by decide +kernel
theorem dX5_readDeclaration_7 : decode cX5_readDeclaration 7 = .ok (.istore_n 2, 1) := by decide +kernel
theorem dX5_readDeclaration_8 : decode cX5_readDeclaration 8 = .ok (.iload_n 2, 1) := by decide +kernel
theorem dX5_readDeclaration_9 : decode cX5_readDeclaration 9 = .ok (.bipush (-9), 2) := by decide +kernel
theorem dX5_readDeclaration_11 : decode cX5_readDeclaration 11 = .ok (.if_icmp .eq 11, 3) := by decide +kernel
theorem dX5_readDeclaration_14 : decode cX5_readDeclaration 14 = .ok (.aload_n 1, 1) := by decide +kernel
theorem dX5_readDeclaration_15 : decode cX5_readDeclaration 15 = .ok (.iload_n 2, 1) := by decide +kernel
theorem dX5_readDeclaration_16 : decode cX5_readDeclaration 16 = .ok (.invokevirtual 53, 3) := by decide +kernel
theorem dX5_readDeclaration_19 : decode cX5_readDeclaration 19 = .ok (.ifCond .eq 5, 3) := by decide +kernel
theorem dX5_readDeclaration_22 : decode cX5_readDeclaration 22 = .ok (.iconst 0, 1) := by decide +kernel
theorem dX5_readDeclaration_23 : decode cX5_readDeclaration 23 = .ok (.ireturn, 1) := by decide +kernel
theorem dX5_readDeclaration_24 : decode cX5_readDeclaration 24 = .ok (.aload_n 0, 1) := by decide +kernel
theorem dX5_readDeclaration_25 : decode cX5_readDeclaration 25 = .ok (.getfield 18, 3) := by decide +kernel
theorem dX5_readDeclaration_28 : decode cX5_readDeclaration 28 = .ok (.invokevirtual 57, 3) := by decide +kernel
theorem dX5_readDeclaration_31 : decode cX5_readDeclaration 31 = .ok (.aload_n 0, 1) := by decide +kernel
theorem dX5_readDeclaration_32 : decode cX5_readDeclaration 32 = .ok (.getfield 18, 3) := by decide +kernel
theorem dX5_readDeclaration_35 : decode cX5_readDeclaration 35 = .ok (.invokevirtual 60, 3) := by decide +kernel
theorem dX5_readDeclaration_38 : decode cX5_readDeclaration 38 = .ok (.istore_n 3, 1) := by decide +kernel
theorem dX5_readDeclaration_39 : decode cX5_readDeclaration 39 = .ok (.iload_n 3, 1) := by decide +kernel
theorem dX5_readDeclaration_40 : decode cX5_readDeclaration 40 = .ok (.iconst 1, 1) := by decide +kernel
theorem dX5_readDeclaration_41 : decode cX5_readDeclaration 41 = .ok (.if_icmp .lt 9, 3) := by decide +kernel
theorem dX5_readDeclaration_44 : decode cX5_readDeclaration 44 = .ok (.iload_n 3, 1) := by decide +kernel
theorem dX5_readDeclaration_45 : decode cX5_readDeclaration 45 = .ok (.bipush 16, 2) := by decide +kernel
theorem dX5_readDeclaration_47 : decode cX5_readDeclaration 47 = .ok (.if_icmp .le 5, 3) := by decide +kernel
theorem dX5_readDeclaration_50 : decode cX5_readDeclaration 50 = .ok (.iconst 0, 1) := by decide +kernel
theorem dX5_readDeclaration_51 : decode cX5_readDeclaration 51 = .ok (.ireturn, 1) := by decide +kernel
theorem dX5_readDeclaration_52 : decode cX5_readDeclaration 52 = .ok (.aload_n 0, 1) := by decide +kernel
theorem dX5_readDeclaration_53 : decode cX5_readDeclaration 53 = .ok (.getfield 18, 3) := by decide +kernel
theorem dX5_readDeclaration_56 : decode cX5_readDeclaration 56 = .ok (.invokevirtual 57, 3) := by decide +kernel
theorem dX5_readDeclaration_59 : decode cX5_readDeclaration 59 = .ok (.aload_n 1, 1) := by decide +kernel
theorem dX5_readDeclaration_60 : decode cX5_readDeclaration 60 = .ok (.iload_n 2, 1) := by decide +kernel
theorem dX5_readDeclaration_61 : decode cX5_readDeclaration 61 = .ok (.iload_n 3, 1) := by decide +kernel
theorem dX5_readDeclaration_62 : decode cX5_readDeclaration 62 = .ok (.invokevirtual 63, 3) := by decide +kernel
theorem dX5_readDeclaration_65 : decode cX5_readDeclaration 65 = .ok (.aload_n 0, 1) := by decide +kernel
theorem dX5_readDeclaration_66 : decode cX5_readDeclaration 66 = .ok (.getfield 18, 3) := by decide +kernel
theorem dX5_readDeclaration_69 : decode cX5_readDeclaration 69 = .ok (.bipush 59, 2) := by decide +kernel
theorem dX5_readDeclaration_71 : decode cX5_readDeclaration 71 = .ok (.invokevirtual 36, 3) := by decide +kernel
theorem dX5_readDeclaration_74 : decode cX5_readDeclaration 74 = .ok (.ireturn, 1) := by decide +kernel
theorem dX5_readStatement_0 : decode cX5_readStatement 0 = .ok (.aload_n 0, 1) := by decide +kernel
theorem dX5_readStatement_1 : decode cX5_readStatement 1 = .ok (.getfield 18, 3) := by decide +kernel
theorem dX5_readStatement_4 : decode cX5_readStatement 4 = .ok (.invokevirtual 32, 3) := by decide +kernel
theorem dX5_readStatement_7 : decode cX5_readStatement 7 = .ok (.sipush 260, 3) := by decide +kernel
theorem dX5_readStatement_10 : decode cX5_readStatement 10 = .ok (.if_icmp .ne 7, 3) := by decide +kernel
theorem dX5_readStatement_13 : decode cX5_readStatement 13 = .ok (.iconst 1, 1) := by decide +kernel
theorem dX5_readStatement_14 : decode cX5_readStatement 14 = .ok (.goto 4, 3) := by decide +kernel
theorem dX5_readStatement_17 : decode cX5_readStatement 17 = .ok (.iconst 0, 1) := by decide +kernel
theorem dX5_readStatement_18 : decode cX5_readStatement 18 = .ok (.istore_n 2, 1) := by decide +kernel
theorem dX5_readStatement_19 : decode cX5_readStatement 19 = .ok (.iload_n 2, 1) := by decide +kernel
theorem dX5_readStatement_20 : decode cX5_readStatement 20 = .ok (.ifCond .eq 10, 3) := by decide +kernel
theorem dX5_readStatement_23 : decode cX5_readStatement 23 = .ok (.aload_n 1, 1) := by decide +kernel
theorem dX5_readStatement_24 : decode cX5_readStatement 24 = .ok (.getfield 67, 3) := by decide +kernel
theorem dX5_readStatement_27 : decode cX5_readStatement 27 = .ok (.goto 7, 3) := by decide +kernel
theorem dX5_readStatement_30 : decode cX5_readStatement 30 = .ok (.aload_n 1, 1) := by decide +kernel
theorem dX5_readStatement_31 : decode cX5_readStatement 31 = .ok (.getfield 71, 3) := by decide +kernel
theorem dX5_readStatement_34 : decode cX5_readStatement 34 = .ok (.astore_n 3, 1) := by decide +kernel
theorem dX5_readStatement_35 : decode cX5_readStatement 35 = .ok (.aload_n 3, 1) := by decide +kernel
theorem dX5_readStatement_36 : decode cX5_readStatement 36 = .ok (.invokevirtual 74, 3) := by decide +kernel
theorem dX5_readStatement_39 : decode cX5_readStatement 39 = .ok (.ifCond .eq 5, 3) := by decide +kernel
theorem dX5_readStatement_42 : decode cX5_readStatement 42 = .ok (.iconst 0, 1) := by decide +kernel
theorem dX5_readStatement_43 : decode cX5_readStatement 43 = .ok (.ireturn, 1) := by decide +kernel
theorem dX5_readStatement_44 : decode cX5_readStatement 44 = .ok (.iload_n 2, 1) := by decide +kernel
theorem dX5_readStatement_45 : decode cX5_readStatement 45 = .ok (.ifCond .eq 10, 3) := by decide +kernel
theorem dX5_readStatement_48 : decode cX5_readStatement 48 = .ok (.aload_n 0, 1) := by decide +kernel
theorem dX5_readStatement_49 : decode cX5_readStatement 49 = .ok (.getfield 18, 3) := by decide +kernel
theorem dX5_readStatement_52 : decode cX5_readStatement 52 = .ok (.invokevirtual 57, 3) := by decide +kernel
theorem dX5_readStatement_55 : decode cX5_readStatement 55 = .ok (.aload_n 0, 1) := by decide +kernel
theorem dX5_readStatement_56 : decode cX5_readStatement 56 = .ok (.aload_n 1, 1) := by decide +kernel
theorem dX5_readStatement_57 : decode cX5_readStatement 57 = .ok (.invokevirtual 80, 3) := by decide +kernel
theorem dX5_readStatement_60 : decode cX5_readStatement 60 = .ok (.ifCond .eq 27, 3) := by decide +kernel
theorem dX5_readStatement_63 : decode cX5_readStatement 63 = .ok (.aload_n 0, 1) := by decide +kernel
theorem dX5_readStatement_64 : decode cX5_readStatement 64 = .ok (.getfield 12, 3) := by decide +kernel
theorem dX5_readStatement_67 : decode cX5_readStatement 67 = .ok (.invokevirtual 83, 3) := by decide +kernel
theorem dX5_readStatement_70 : decode cX5_readStatement 70 = .ok (.bipush 16, 2) := by decide +kernel
theorem dX5_readStatement_72 : decode cX5_readStatement 72 = .ok (.if_icmp .gt 15, 3) := by decide +kernel
theorem dX5_readStatement_75 : decode cX5_readStatement 75 = .ok (.aload_n 0, 1) := by decide +kernel
theorem dX5_readStatement_76 : decode cX5_readStatement 76 = .ok (.getfield 18, 3) := by decide +kernel
theorem dX5_readStatement_79 : decode cX5_readStatement 79 = .ok (.bipush 61, 2) := by decide +kernel
theorem dX5_readStatement_81 : decode cX5_readStatement 81 = .ok (.invokevirtual 36, 3) := by decide +kernel
theorem dX5_readStatement_84 : decode cX5_readStatement 84 = .ok (.ifCond .ne 5, 3) := by decide +kernel
theorem dX5_readStatement_87 : decode cX5_readStatement 87 = .ok (.iconst 0, 1) := by decide +kernel
theorem dX5_readStatement_88 : decode cX5_readStatement 88 = .ok (.ireturn, 1) := by decide +kernel
theorem dX5_readStatement_89 : decode cX5_readStatement 89 = .ok (.aload_n 0, 1) := by decide +kernel
theorem dX5_readStatement_90 : decode cX5_readStatement 90 = .ok (.getfield 12, 3) := by decide +kernel
theorem dX5_readStatement_93 : decode cX5_readStatement 93 = .ok (.invokevirtual 83, 3) := by decide +kernel
theorem dX5_readStatement_96 : decode cX5_readStatement 96 = .ok (.istore 4, 2) := by decide +kernel
theorem dX5_readStatement_98 : decode cX5_readStatement 98 = .ok (.aload_n 3, 1) := by decide +kernel
theorem dX5_readStatement_99 : decode cX5_readStatement 99 = .ok (.iconst 0, 1) := by decide +kernel
theorem dX5_readStatement_100 : decode cX5_readStatement 100 = .ok (.aload_n 0, 1) := by decide +kernel
theorem dX5_readStatement_101 : decode cX5_readStatement 101 = .ok (.getfield 12, 3) := by decide +kernel
theorem dX5_readStatement_104 : decode cX5_readStatement 104 = .ok (.invokevirtual 86, 3) := by decide +kernel
theorem dX5_readStatement_107 : decode cX5_readStatement 107 = .ok (.aload_n 0, 1) := by decide +kernel
theorem dX5_readStatement_108 : decode cX5_readStatement 108 = .ok (.aload_n 1, 1) := by decide +kernel
theorem dX5_readStatement_109 : decode cX5_readStatement 109 = .ok (.invokevirtual 80, 3) := by decide +kernel
theorem dX5_readStatement_112 : decode cX5_readStatement 112 = .ok (.ifCond .eq 27, 3) := by decide +kernel
theorem dX5_readStatement_115 : decode cX5_readStatement 115 = .ok (.aload_n 0, 1) := by decide +kernel
theorem dX5_readStatement_116 : decode cX5_readStatement 116 = .ok (.getfield 12, 3) := by decide +kernel
theorem dX5_readStatement_119 : decode cX5_readStatement 119 = .ok (.invokevirtual 83, 3) := by decide +kernel
theorem dX5_readStatement_122 : decode cX5_readStatement 122 = .ok (.iload 4, 2) := by decide +kernel
theorem dX5_readStatement_124 : decode cX5_readStatement 124 = .ok (.if_icmp .ne 15, 3) := by decide +kernel
theorem dX5_readStatement_127 : decode cX5_readStatement 127 = .ok (.aload_n 0, 1) := by decide +kernel
theorem dX5_readStatement_128 : decode cX5_readStatement 128 = .ok (.getfield 18, 3) := by decide +kernel
theorem dX5_readStatement_131 : decode cX5_readStatement 131 = .ok (.bipush 59, 2) := by decide +kernel
theorem dX5_readStatement_133 : decode cX5_readStatement 133 = .ok (.invokevirtual 36, 3) := by decide +kernel
theorem dX5_readStatement_136 : decode cX5_readStatement 136 = .ok (.ifCond .ne 5, 3) := by decide +kernel
theorem dX5_readStatement_139 : decode cX5_readStatement 139 = .ok (.iconst 0, 1) := by decide +kernel
theorem dX5_readStatement_140 : decode cX5_readStatement 140 = .ok (.ireturn, 1) := by decide +kernel
theorem dX5_readStatement_141 : decode cX5_readStatement 141 = .ok (.aload_n 3, 1) := by decide +kernel
theorem dX5_readStatement_142 : decode cX5_readStatement 142 = .ok (.iconst 1, 1) := by decide +kernel
theorem dX5_readStatement_143 : decode cX5_readStatement 143 = .ok (.aload_n 0, 1) := by decide +kernel
theorem dX5_readStatement_144 : decode cX5_readStatement 144 = .ok (.getfield 12, 3) := by decide +kernel
theorem dX5_readStatement_147 : decode cX5_readStatement 147 = .ok (.invokevirtual 86, 3) := by decide +kernel
theorem dX5_readStatement_150 : decode cX5_readStatement 150 = .ok (.aload_n 3, 1) := by decide +kernel
theorem dX5_readStatement_151 : decode cX5_readStatement 151 = .ok (.iload 4, 2) := by decide +kernel
theorem dX5_readStatement_153 : decode cX5_readStatement 153 = .ok (.invokevirtual 90, 3) := by decide +kernel
theorem dX5_readStatement_156 : decode cX5_readStatement 156 = .ok (.iconst 1, 1) := by decide +kernel
theorem dX5_readStatement_157 : decode cX5_readStatement 157 = .ok (.ireturn, 1) := by decide +kernel
theorem dX5_readTerm_0 : decode cX5_readTerm 0 = .ok (.aload_n 0, 1) := by decide +kernel
theorem dX5_readTerm_1 : decode cX5_readTerm 1 = .ok (.getfield 12, 3) := by decide +kernel
theorem dX5_readTerm_4 : decode cX5_readTerm 4 = .ok (.invokevirtual 94, 3) := by decide +kernel
theorem dX5_readTerm_7 : decode cX5_readTerm 7 = .ok (.aload_n 0, 1) := by decide +kernel
theorem dX5_readTerm_8 : decode cX5_readTerm 8 = .ok (.aload_n 1, 1) := by decide +kernel
theorem dX5_readTerm_9 : decode cX5_readTerm 9 = .ok (.invokevirtual 95, 3) := by decide +kernel
theorem dX5_readTerm_12 : decode cX5_readTerm 12 = .ok (.istore_n 2, 1) := by decide +kernel
theorem dX5_readTerm_13 : decode cX5_readTerm 13 = .ok (.iconst 0, 1) := by decide +kernel
theorem dX5_readTerm_14 : decode cX5_readTerm 14 = .ok (.istore_n 3, 1) := by decide +kernel
theorem dX5_readTerm_15 : decode cX5_readTerm 15 = .ok (.iload_n 3, 1) := by decide +kernel
theorem dX5_readTerm_16 : decode cX5_readTerm 16 = .ok (.sipush 200, 3) := by decide +kernel
theorem dX5_readTerm_19 : decode cX5_readTerm 19 = .ok (.if_icmp .ge 31, 3) := by decide +kernel
theorem dX5_readTerm_22 : decode cX5_readTerm 22 = .ok (.iload_n 2, 1) := by decide +kernel
theorem dX5_readTerm_23 : decode cX5_readTerm 23 = .ok (.ifCond .eq 27, 3) := by decide +kernel
theorem dX5_readTerm_26 : decode cX5_readTerm 26 = .ok (.aload_n 0, 1) := by decide +kernel
theorem dX5_readTerm_27 : decode cX5_readTerm 27 = .ok (.getfield 18, 3) := by decide +kernel
theorem dX5_readTerm_30 : decode cX5_readTerm 30 = .ok (.bipush 46, 2) := by decide +kernel
theorem dX5_readTerm_32 : decode cX5_readTerm 32 = .ok (.invokevirtual 36, 3) := by decide +kernel
theorem dX5_readTerm_35 : decode cX5_readTerm 35 = .ok (.ifCond .eq 15, 3) := by decide +kernel
theorem dX5_readTerm_38 : decode cX5_readTerm 38 = .ok (.aload_n 0, 1) := by decide +kernel
theorem dX5_readTerm_39 : decode cX5_readTerm 39 = .ok (.aload_n 1, 1) := by decide +kernel
theorem dX5_readTerm_40 : decode cX5_readTerm 40 = .ok (.invokevirtual 95, 3) := by decide +kernel
theorem dX5_readTerm_43 : decode cX5_readTerm 43 = .ok (.istore_n 2, 1) := by decide +kernel
theorem dX5_readTerm_44 : decode cX5_readTerm 44 = .ok (.iinc 3 1, 3) := by decide +kernel
theorem dX5_readTerm_47 : decode cX5_readTerm 47 = .ok (.goto (-32), 3) := by decide +kernel
theorem dX5_readTerm_50 : decode cX5_readTerm 50 = .ok (.iload_n 2, 1) := by decide +kernel
theorem dX5_readTerm_51 : decode cX5_readTerm 51 = .ok (.ireturn, 1) := by decide +kernel
theorem dX5_readPart_0 : decode cX5_readPart 0 = .ok (.aload_n 0, 1) := by decide +kernel
theorem dX5_readPart_1 : decode cX5_readPart 1 = .ok (.getfield 18, 3) := by decide +kernel
theorem dX5_readPart_4 : decode cX5_readPart 4 = .ok (.bipush 37, 2) := by decide +kernel
theorem dX5_readPart_6 : decode cX5_readPart 6 = .ok (.invokevirtual 36, 3) := by decide +kernel
theorem dX5_readPart_9 : decode cX5_readPart 9 = .ok (.ifCond .eq 8, 3) := by decide +kernel
theorem dX5_readPart_12 : decode cX5_readPart 12 = .ok (.aload_n 0, 1) := by decide +kernel
theorem dX5_readPart_13 : decode cX5_readPart 13 = .ok (.invokevirtual 98, 3) := by decide +kernel
theorem dX5_readPart_16 : decode cX5_readPart 16 = .ok (.ireturn, 1) := by decide +kernel
theorem dX5_readPart_17 : decode cX5_readPart 17 = .ok (.aload_n 0, 1) := by decide +kernel
theorem dX5_readPart_18 : decode cX5_readPart 18 = .ok (.getfield 18, 3) := by decide +kernel
theorem dX5_readPart_21 : decode cX5_readPart 21 = .ok (.invokevirtual 50, 3) := by decide +kernel
theorem dX5_readPart_24 : decode cX5_readPart 24 = .ok (.istore_n 2, 1) := by decide +kernel
theorem dX5_readPart_25 : decode cX5_readPart 25 = .ok (.iload_n 2, 1) := by decide +kernel
theorem dX5_readPart_26 : decode cX5_readPart 26 = .ok (.bipush (-9), 2) := by decide +kernel
theorem dX5_readPart_28 : decode cX5_readPart 28 = .ok (.if_icmp .eq 11, 3) := by decide +kernel
theorem dX5_readPart_31 : decode cX5_readPart 31 = .ok (.aload_n 1, 1) := by decide +kernel
theorem dX5_readPart_32 : decode cX5_readPart 32 = .ok (.iload_n 2, 1) := by decide +kernel
theorem dX5_readPart_33 : decode cX5_readPart 33 = .ok (.invokevirtual 53, 3) := by decide +kernel
theorem dX5_readPart_36 : decode cX5_readPart 36 = .ok (.ifCond .ne 5, 3) := by decide +kernel
theorem dX5_readPart_39 : decode cX5_readPart 39 = .ok (.iconst 0, 1) := by decide +kernel
theorem dX5_readPart_40 : decode cX5_readPart 40 = .ok (.ireturn, 1) := by decide +kernel
theorem dX5_readPart_41 : decode cX5_readPart 41 = .ok (.aload_n 0, 1) := by decide +kernel
theorem dX5_readPart_42 : decode cX5_readPart 42 = .ok (.getfield 18, 3) := by decide +kernel
theorem dX5_readPart_45 : decode cX5_readPart 45 = .ok (.invokevirtual 57, 3) := by decide +kernel
theorem dX5_readPart_48 : decode cX5_readPart 48 = .ok (.aload_n 0, 1) := by decide +kernel
theorem dX5_readPart_49 : decode cX5_readPart 49 = .ok (.aload_n 1, 1) := by decide +kernel
theorem dX5_readPart_50 : decode cX5_readPart 50 = .ok (.iload_n 2, 1) := by decide +kernel
theorem dX5_readPart_51 : decode cX5_readPart 51 = .ok (.invokevirtual 53, 3) := by decide +kernel
theorem dX5_readPart_54 : decode cX5_readPart 54 = .ok (.iconst 1, 1) := by decide +kernel
theorem dX5_readPart_55 : decode cX5_readPart 55 = .ok (.isub, 1) := by decide +kernel
theorem dX5_readPart_56 : decode cX5_readPart 56 = .ok (.putfield 101, 3) := by decide +kernel
theorem dX5_readPart_59 : decode cX5_readPart 59 = .ok (.aload_n 0, 1) := by decide +kernel
theorem dX5_readPart_60 : decode cX5_readPart 60 = .ok (.iconst 0, 1) := by decide +kernel
theorem dX5_readPart_61 : decode cX5_readPart 61 = .ok (.putfield 105, 3) := by decide +kernel
theorem dX5_readPart_64 : decode cX5_readPart 64 = .ok (.aload_n 0, 1) := by decide +kernel
theorem dX5_readPart_65 : decode cX5_readPart 65 = .ok (.getfield 18, 3) := by decide +kernel
theorem dX5_readPart_68 : decode cX5_readPart 68 = .ok (.bipush 91, 2) := by decide +kernel
theorem dX5_readPart_70 : decode cX5_readPart 70 = .ok (.invokevirtual 36, 3) := by decide +kernel
theorem dX5_readPart_73 : decode cX5_readPart 73 = .ok (.ifCond .eq 12, 3) := by decide +kernel
theorem dX5_readPart_76 : decode cX5_readPart 76 = .ok (.aload_n 0, 1) := by decide +kernel
theorem dX5_readPart_77 : decode cX5_readPart 77 = .ok (.invokevirtual 108, 3) := by decide +kernel
theorem dX5_readPart_80 : decode cX5_readPart 80 = .ok (.ifCond .ne 5, 3) := by decide +kernel
theorem dX5_readPart_83 : decode cX5_readPart 83 = .ok (.iconst 0, 1) := by decide +kernel
theorem dX5_readPart_84 : decode cX5_readPart 84 = .ok (.ireturn, 1) := by decide +kernel
theorem dX5_readPart_85 : decode cX5_readPart 85 = .ok (.aload_n 0, 1) := by decide +kernel
theorem dX5_readPart_86 : decode cX5_readPart 86 = .ok (.getfield 12, 3) := by decide +kernel
theorem dX5_readPart_89 : decode cX5_readPart 89 = .ok (.iload_n 2, 1) := by decide +kernel
theorem dX5_readPart_90 : decode cX5_readPart 90 = .ok (.aload_n 0, 1) := by decide +kernel
theorem dX5_readPart_91 : decode cX5_readPart 91 = .ok (.getfield 101, 3) := by decide +kernel
theorem dX5_readPart_94 : decode cX5_readPart 94 = .ok (.invokestatic 111, 3) := by decide +kernel
theorem dX5_readPart_97 : decode cX5_readPart 97 = .ok (.iload_n 2, 1) := by decide +kernel
theorem dX5_readPart_98 : decode cX5_readPart 98 = .ok (.aload_n 0, 1) := by decide +kernel
theorem dX5_readPart_99 : decode cX5_readPart 99 = .ok (.getfield 105, 3) := by decide +kernel
theorem dX5_readPart_102 : decode cX5_readPart 102 = .ok (.invokestatic 111, 3) := by decide +kernel
theorem dX5_readPart_105 : decode cX5_readPart 105 = .ok (.invokevirtual 115, 3) := by decide +kernel
theorem dX5_readPart_108 : decode cX5_readPart 108 = .ok (.iconst 1, 1) := by decide +kernel
theorem dX5_readPart_109 : decode cX5_readPart 109 = .ok (.ireturn, 1) := by decide +kernel
theorem dX5_readRange_0 : decode cX5_readRange 0 = .ok (.aload_n 0, 1) := by decide +kernel
theorem dX5_readRange_1 : decode cX5_readRange 1 = .ok (.getfield 18, 3) := by decide +kernel
theorem dX5_readRange_4 : decode cX5_readRange 4 = .ok (.invokevirtual 60, 3) := by decide +kernel
theorem dX5_readRange_7 : decode cX5_readRange 7 = .ok (.istore_n 1, 1) := by decide +kernel
theorem dX5_readRange_8 : decode cX5_readRange 8 = .ok (.iload_n 1, 1) := by decide +kernel
theorem dX5_readRange_9 : decode cX5_readRange 9 = .ok (.ifCond .lt 11, 3) := by decide +kernel
theorem dX5_readRange_12 : decode cX5_readRange 12 = .ok (.iload_n 1, 1) := by decide +kernel
theorem dX5_readRange_13 : decode cX5_readRange 13 = .ok (.aload_n 0, 1) := by decide +kernel
theorem dX5_readRange_14 : decode cX5_readRange 14 = .ok (.getfield 101, 3) := by decide +kernel
theorem dX5_readRange_17 : decode cX5_readRange 17 = .ok (.if_icmp .le 5, 3) := by decide +kernel
theorem dX5_readRange_20 : decode cX5_readRange 20 = .ok (.iconst 0, 1) := by decide +kernel
theorem dX5_readRange_21 : decode cX5_readRange 21 = .ok (.ireturn, 1) := by decide +kernel
theorem dX5_readRange_22 : decode cX5_readRange 22 = .ok (.aload_n 0, 1) := by decide +kernel
theorem dX5_readRange_23 : decode cX5_readRange 23 = .ok (.iload_n 1, 1) := by decide +kernel
theorem dX5_readRange_24 : decode cX5_readRange 24 = .ok (.putfield 101, 3) := by decide +kernel
theorem dX5_readRange_27 : decode cX5_readRange 27 = .ok (.aload_n 0, 1) := by decide +kernel
theorem dX5_readRange_28 : decode cX5_readRange 28 = .ok (.getfield 18, 3) := by decide +kernel
theorem dX5_readRange_31 : decode cX5_readRange 31 = .ok (.invokevirtual 57, 3) := by decide +kernel
theorem dX5_readRange_34 : decode cX5_readRange 34 = .ok (.aload_n 0, 1) := by decide +kernel
theorem dX5_readRange_35 : decode cX5_readRange 35 = .ok (.getfield 18, 3) := by decide +kernel
theorem dX5_readRange_38 : decode cX5_readRange 38 = .ok (.bipush 58, 2) := by decide +kernel
theorem dX5_readRange_40 : decode cX5_readRange 40 = .ok (.invokevirtual 36, 3) := by decide +kernel
theorem dX5_readRange_43 : decode cX5_readRange 43 = .ok (.ifCond .ne 5, 3) := by decide +kernel
theorem dX5_readRange_46 : decode cX5_readRange 46 = .ok (.iconst 0, 1) := by decide +kernel
theorem dX5_readRange_47 : decode cX5_readRange 47 = .ok (.ireturn, 1) := by decide +kernel
theorem dX5_readRange_48 : decode cX5_readRange 48 = .ok (.aload_n 0, 1) := by decide +kernel
theorem dX5_readRange_49 : decode cX5_readRange 49 = .ok (.getfield 18, 3) := by decide +kernel
theorem dX5_readRange_52 : decode cX5_readRange 52 = .ok (.invokevirtual 60, 3) := by decide +kernel
theorem dX5_readRange_55 : decode cX5_readRange 55 = .ok (.istore_n 2, 1) := by decide +kernel
theorem dX5_readRange_56 : decode cX5_readRange 56 = .ok (.iload_n 2, 1) := by decide +kernel
theorem dX5_readRange_57 : decode cX5_readRange 57 = .ok (.ifCond .lt 11, 3) := by decide +kernel
theorem dX5_readRange_60 : decode cX5_readRange 60 = .ok (.iload_n 2, 1) := by decide +kernel
theorem dX5_readRange_61 : decode cX5_readRange 61 = .ok (.aload_n 0, 1) := by decide +kernel
theorem dX5_readRange_62 : decode cX5_readRange 62 = .ok (.getfield 101, 3) := by decide +kernel
theorem dX5_readRange_65 : decode cX5_readRange 65 = .ok (.if_icmp .le 5, 3) := by decide +kernel
theorem dX5_readRange_68 : decode cX5_readRange 68 = .ok (.iconst 0, 1) := by decide +kernel
theorem dX5_readRange_69 : decode cX5_readRange 69 = .ok (.ireturn, 1) := by decide +kernel
theorem dX5_readRange_70 : decode cX5_readRange 70 = .ok (.aload_n 0, 1) := by decide +kernel
theorem dX5_readRange_71 : decode cX5_readRange 71 = .ok (.iload_n 2, 1) := by decide +kernel
theorem dX5_readRange_72 : decode cX5_readRange 72 = .ok (.putfield 105, 3) := by decide +kernel
theorem dX5_readRange_75 : decode cX5_readRange 75 = .ok (.aload_n 0, 1) := by decide +kernel
theorem dX5_readRange_76 : decode cX5_readRange 76 = .ok (.getfield 18, 3) := by decide +kernel
theorem dX5_readRange_79 : decode cX5_readRange 79 = .ok (.invokevirtual 57, 3) := by decide +kernel
theorem dX5_readRange_82 : decode cX5_readRange 82 = .ok (.aload_n 0, 1) := by decide +kernel
theorem dX5_readRange_83 : decode cX5_readRange 83 = .ok (.getfield 18, 3) := by decide +kernel
theorem dX5_readRange_86 : decode cX5_readRange 86 = .ok (.bipush 93, 2) := by decide +kernel
theorem dX5_readRange_88 : decode cX5_readRange 88 = .ok (.invokevirtual 36, 3) := by decide +kernel
theorem dX5_readRange_91 : decode cX5_readRange 91 = .ok (.ireturn, 1) := by decide +kernel
theorem dX5_readConstant_0 : decode cX5_readConstant 0 = .ok (.aload_n 0, 1) := by decide +kernel
theorem dX5_readConstant_1 : decode cX5_readConstant 1 = .ok (.getfield 18, 3) := by decide +kernel
theorem dX5_readConstant_4 : decode cX5_readConstant 4 = .ok (.invokevirtual 118, 3) := by decide +kernel
theorem dX5_readConstant_7 : decode cX5_readConstant 7 = .ok (.istore_n 1, 1) := by decide +kernel
theorem dX5_readConstant_8 : decode cX5_readConstant 8 = .ok (.iload_n 1, 1) := by decide +kernel
theorem dX5_readConstant_9 : decode cX5_readConstant 9 = .ok (.ifCond .ne 5, 3) := by decide +kernel
theorem dX5_readConstant_12 : decode cX5_readConstant 12 = .ok (.iconst 0, 1) := by decide +kernel
theorem dX5_readConstant_13 : decode cX5_readConstant 13 = .ok (.ireturn, 1) := by decide +kernel
theorem dX5_readConstant_14 : decode cX5_readConstant 14 = .ok (.aload_n 0, 1) := by decide +kernel
theorem dX5_readConstant_15 : decode cX5_readConstant 15 = .ok (.getfield 12, 3) := by decide +kernel
theorem dX5_readConstant_18 : decode cX5_readConstant 18 = .ok (.invokevirtual 121, 3) := by decide +kernel
theorem dX5_readConstant_21 : decode cX5_readConstant 21 = .ok (.iconst 0, 1) := by decide +kernel
theorem dX5_readConstant_22 : decode cX5_readConstant 22 = .ok (.istore_n 2, 1) := by decide +kernel
theorem dX5_readConstant_23 : decode cX5_readConstant 23 = .ok (.iload_n 2, 1) := by decide +kernel
theorem dX5_readConstant_24 : decode cX5_readConstant 24 = .ok (.iload_n 1, 1) := by decide +kernel
theorem dX5_readConstant_25 : decode cX5_readConstant 25 = .ok (.if_icmp .ge 28, 3) := by decide +kernel
theorem dX5_readConstant_28 : decode cX5_readConstant 28 = .ok (.aload_n 0, 1) := by decide +kernel
theorem dX5_readConstant_29 : decode cX5_readConstant 29 = .ok (.getfield 12, 3) := by decide +kernel
theorem dX5_readConstant_32 : decode cX5_readConstant 32 = .ok (.sipush 128, 3) := by decide +kernel
theorem dX5_readConstant_35 : decode cX5_readConstant 35 = .ok (.aload_n 0, 1) := by decide +kernel
theorem dX5_readConstant_36 : decode cX5_readConstant 36 = .ok (.getfield 18, 3) := by decide +kernel
theorem dX5_readConstant_39 : decode cX5_readConstant 39 = .ok (.iload_n 2, 1) := by decide +kernel
theorem dX5_readConstant_40 : decode cX5_readConstant 40 = .ok (.invokevirtual 124, 3) := by decide +kernel
theorem dX5_readConstant_43 : decode cX5_readConstant 43 = .ok (.iadd, 1) := by decide +kernel
theorem dX5_readConstant_44 : decode cX5_readConstant 44 = .ok (.invokevirtual 127, 3) := by decide +kernel
theorem dX5_readConstant_47 : decode cX5_readConstant 47 = .ok (.iinc 2 1, 3) := by decide +kernel
theorem dX5_readConstant_50 : decode cX5_readConstant 50 = .ok (.goto (-27), 3) := by decide +kernel
theorem dX5_readConstant_53 : decode cX5_readConstant 53 = .ok (.aload_n 0, 1) := by decide +kernel
theorem dX5_readConstant_54 : decode cX5_readConstant 54 = .ok (.getfield 18, 3) := by decide +kernel
theorem dX5_readConstant_57 : decode cX5_readConstant 57 = .ok (.invokevirtual 57, 3) := by decide +kernel
theorem dX5_readConstant_60 : decode cX5_readConstant 60 = .ok (.iconst 1, 1) := by decide +kernel
theorem dX5_readConstant_61 : decode cX5_readConstant 61 = .ok (.ireturn, 1) := by decide +kernel
theorem dX6_init_0 : decode cX6_init 0 = .ok (.aload_n 0, 1) := by decide +kernel
theorem dX6_init_1 : decode cX6_init 1 = .ok (.invokespecial 3, 3) := by decide +kernel
theorem dX6_init_4 : decode cX6_init 4 = .ok (.aload_n 0, 1) := by decide +kernel
theorem dX6_init_5 : decode cX6_init 5 = .ok (.iload_n 1, 1) := by decide +kernel
theorem dX6_init_6 : decode cX6_init 6 = .ok (.iconst 0, 1) := by decide +kernel
theorem dX6_init_7 : decode cX6_init 7 = .ok (.invokestatic 9, 3) := by decide +kernel
theorem dX6_init_10 : decode cX6_init 10 = .ok (.putfield 15, 3) := by decide +kernel
theorem dX6_init_13 : decode cX6_init 13 = .ok (.aload_n 0, 1) := by decide +kernel
theorem dX6_init_14 : decode cX6_init 14 = .ok (.aload_n 0, 1) := by decide +kernel
theorem dX6_init_15 : decode cX6_init 15 = .ok (.getfield 15, 3) := by decide +kernel
theorem dX6_init_18 : decode cX6_init 18 = .ok (.newarray .int, 2) := by decide +kernel
theorem dX6_init_20 : decode cX6_init 20 = .ok (.putfield 21, 3) := by decide +kernel
theorem dX6_init_23 : decode cX6_init 23 = .ok (.aload_n 0, 1) := by decide +kernel
theorem dX6_init_24 : decode cX6_init 24 = .ok (.aload_n 0, 1) := by decide +kernel
theorem dX6_init_25 : decode cX6_init 25 = .ok (.getfield 15, 3) := by decide +kernel
theorem dX6_init_28 : decode cX6_init 28 = .ok (.iconst 2, 1) := by decide +kernel
theorem dX6_init_29 : decode cX6_init 29 = .ok (.imul, 1) := by decide +kernel
theorem dX6_init_30 : decode cX6_init 30 = .ok (.bipush 16, 2) := by decide +kernel
theorem dX6_init_32 : decode cX6_init 32 = .ok (.imul, 1) := by decide +kernel
theorem dX6_init_33 : decode cX6_init 33 = .ok (.newarray .int, 2) := by decide +kernel
theorem dX6_init_35 : decode cX6_init 35 = .ok (.putfield 25, 3) := by decide +kernel
theorem dX6_init_38 : decode cX6_init 38 = .ok (.aload_n 0, 1) := by decide +kernel
theorem dX6_init_39 : decode cX6_init 39 = .ok (.aload_n 0, 1) := by decide +kernel
theorem dX6_init_40 : decode cX6_init 40 = .ok (.getfield 15, 3) := by decide +kernel
theorem dX6_init_43 : decode cX6_init 43 = .ok (.iconst 2, 1) := by decide +kernel
theorem dX6_init_44 : decode cX6_init 44 = .ok (.imul, 1) := by decide +kernel
theorem dX6_init_45 : decode cX6_init 45 = .ok (.newarray .int, 2) := by decide +kernel
theorem dX6_init_47 : decode cX6_init 47 = .ok (.putfield 28, 3) := by decide +kernel
theorem dX6_init_50 : decode cX6_init 50 = .ok (.return_, 1) := by decide +kernel
theorem dX6_count_0 : decode cX6_count 0 = .ok (.aload_n 0, 1) := by decide +kernel
theorem dX6_count_1 : decode cX6_count 1 = .ok (.getfield 31, 3) := by decide +kernel
theorem dX6_count_4 : decode cX6_count 4 = .ok (.ireturn, 1) := by decide +kernel
theorem dX6_isFull_0 : decode cX6_isFull 0 = .ok (.aload_n 0, 1) := by decide +kernel
theorem dX6_isFull_1 : decode cX6_isFull 1 = .ok (.getfield 31, 3) := by decide +kernel
theorem dX6_isFull_4 : decode cX6_isFull 4 = .ok (.aload_n 0, 1) := by decide +kernel
theorem dX6_isFull_5 : decode cX6_isFull 5 = .ok (.getfield 15, 3) := by decide +kernel
theorem dX6_isFull_8 : decode cX6_isFull 8 = .ok (.if_icmp .lt 7, 3) := by decide +kernel
theorem dX6_isFull_11 : decode cX6_isFull 11 = .ok (.iconst 1, 1) := by decide +kernel
theorem dX6_isFull_12 : decode cX6_isFull 12 = .ok (.goto 4, 3) := by decide +kernel
theorem dX6_isFull_15 : decode cX6_isFull 15 = .ok (.iconst 0, 1) := by decide +kernel
theorem dX6_isFull_16 : decode cX6_isFull 16 = .ok (.ireturn, 1) := by decide +kernel
theorem dX6_has_0 : decode cX6_has 0 = .ok (.iload_n 1, 1) := by decide +kernel
theorem dX6_has_1 : decode cX6_has 1 = .ok (.ifCond .lt 15, 3) := by decide +kernel
theorem dX6_has_4 : decode cX6_has 4 = .ok (.iload_n 1, 1) := by decide +kernel
theorem dX6_has_5 : decode cX6_has 5 = .ok (.aload_n 0, 1) := by decide +kernel
theorem dX6_has_6 : decode cX6_has 6 = .ok (.getfield 31, 3) := by decide +kernel
theorem dX6_has_9 : decode cX6_has 9 = .ok (.if_icmp .ge 7, 3) := by decide +kernel
theorem dX6_has_12 : decode cX6_has 12 = .ok (.iconst 1, 1) := by decide +kernel
theorem dX6_has_13 : decode cX6_has 13 = .ok (.goto 4, 3) := by decide +kernel
theorem dX6_has_16 : decode cX6_has 16 = .ok (.iconst 0, 1) := by decide +kernel
theorem dX6_has_17 : decode cX6_has 17 = .ok (.ireturn, 1) := by decide +kernel
theorem dX6_widthOf_0 : decode cX6_widthOf 0 = .ok (.aload_n 0, 1) := by decide +kernel
theorem dX6_widthOf_1 : decode cX6_widthOf 1 = .ok (.iload_n 1, 1) := by decide +kernel
theorem dX6_widthOf_2 : decode cX6_widthOf 2 = .ok (.invokevirtual 34, 3) := by decide +kernel
theorem dX6_widthOf_5 : decode cX6_widthOf 5 = .ok (.ifCond .eq 12, 3) := by decide +kernel
theorem dX6_widthOf_8 : decode cX6_widthOf 8 = .ok (.aload_n 0, 1) := by decide +kernel
theorem dX6_widthOf_9 : decode cX6_widthOf 9 = .ok (.getfield 21, 3) := by decide +kernel
theorem dX6_widthOf_12 : decode cX6_widthOf 12 = .ok (.iload_n 1, 1) := by decide +kernel
theorem dX6_widthOf_13 : decode cX6_widthOf 13 = .ok (.iaload, 1) := by decide +kernel
theorem dX6_widthOf_14 : decode cX6_widthOf 14 = .ok (.goto 4, 3) := by decide +kernel
theorem dX6_widthOf_17 : decode cX6_widthOf 17 = .ok (.iconst 0, 1) := by decide +kernel
theorem dX6_widthOf_18 : decode cX6_widthOf 18 = .ok (.ireturn, 1) := by decide +kernel
theorem dX6_node_0 : decode cX6_node 0 = .ok (.aload_n 0, 1) := by decide +kernel
theorem dX6_node_1 : decode cX6_node 1 = .ok (.getfield 25, 3) := by decide +kernel
theorem dX6_node_4 : decode cX6_node 4 = .ok (.iload_n 1, 1) := by decide +kernel
theorem dX6_node_5 : decode cX6_node 5 = .ok (.iconst 2, 1) := by decide +kernel
theorem dX6_node_6 : decode cX6_node 6 = .ok (.imul, 1) := by decide +kernel
theorem dX6_node_7 : decode cX6_node 7 = .ok (.iload_n 2, 1) := by decide +kernel
theorem dX6_node_8 : decode cX6_node 8 = .ok (.iadd, 1) := by decide +kernel
theorem dX6_node_9 : decode cX6_node 9 = .ok (.bipush 16, 2) := by decide +kernel
theorem dX6_node_11 : decode cX6_node 11 = .ok (.imul, 1) := by decide +kernel
theorem dX6_node_12 : decode cX6_node 12 = .ok (.iload_n 3, 1) := by decide +kernel
theorem dX6_node_13 : decode cX6_node 13 = .ok (.iadd, 1) := by decide +kernel
theorem dX6_node_14 : decode cX6_node 14 = .ok (.iaload, 1) := by decide +kernel
theorem dX6_node_15 : decode cX6_node 15 = .ok (.ireturn, 1) := by decide +kernel
theorem dX6_partEndsAt_0 : decode cX6_partEndsAt 0 = .ok (.aload_n 0, 1) := by decide +kernel
theorem dX6_partEndsAt_1 : decode cX6_partEndsAt 1 = .ok (.getfield 28, 3) := by decide +kernel
theorem dX6_partEndsAt_4 : decode cX6_partEndsAt 4 = .ok (.iload_n 1, 1) := by decide +kernel
theorem dX6_partEndsAt_5 : decode cX6_partEndsAt 5 = .ok (.iconst 2, 1) := by decide +kernel
theorem dX6_partEndsAt_6 : decode cX6_partEndsAt 6 = .ok (.imul, 1) := by decide +kernel
theorem dX6_partEndsAt_7 : decode cX6_partEndsAt 7 = .ok (.iload_n 2, 1) := by decide +kernel
theorem dX6_partEndsAt_8 : decode cX6_partEndsAt 8 = .ok (.iadd, 1) := by decide +kernel
theorem dX6_partEndsAt_9 : decode cX6_partEndsAt 9 = .ok (.iaload, 1) := by decide +kernel
theorem dX6_partEndsAt_10 : decode cX6_partEndsAt 10 = .ok (.iconst 1, 1) := by decide +kernel
theorem dX6_partEndsAt_11 : decode cX6_partEndsAt 11 = .ok (.iload_n 3, 1) := by decide +kernel
theorem dX6_partEndsAt_12 : decode cX6_partEndsAt 12 = .ok (.ishl, 1) := by decide +kernel
theorem dX6_partEndsAt_13 : decode cX6_partEndsAt 13 = .ok (.iand, 1) := by decide +kernel
theorem dX6_partEndsAt_14 : decode cX6_partEndsAt 14 = .ok (.ifCond .eq 7, 3) := by decide +kernel
theorem dX6_partEndsAt_17 : decode cX6_partEndsAt 17 = .ok (.iconst 1, 1) := by decide +kernel
theorem dX6_partEndsAt_18 : decode cX6_partEndsAt 18 = .ok (.goto 4, 3) := by decide +kernel
theorem dX6_partEndsAt_21 : decode cX6_partEndsAt 21 = .ok (.iconst 0, 1) := by decide +kernel
theorem dX6_partEndsAt_22 : decode cX6_partEndsAt 22 = .ok (.ireturn, 1) := by decide +kernel
theorem dX6_clear_0 : decode cX6_clear 0 = .ok (.aload_n 0, 1) := by decide +kernel
theorem dX6_clear_1 : decode cX6_clear 1 = .ok (.iconst 0, 1) := by decide +kernel
theorem dX6_clear_2 : decode cX6_clear 2 = .ok (.putfield 31, 3) := by decide +kernel
theorem dX6_clear_5 : decode cX6_clear 5 = .ok (.return_, 1) := by decide +kernel
theorem dX6_putTerm_0 : decode cX6_putTerm 0 = .ok (.aload_n 0, 1) := by decide +kernel
theorem dX6_putTerm_1 : decode cX6_putTerm 1 = .ok (.invokevirtual 38, 3) := by decide +kernel
theorem dX6_putTerm_4 : decode cX6_putTerm 4 = .ok (.ifCond .ne 12, 3) := by decide +kernel
theorem dX6_putTerm_7 : decode cX6_putTerm 7 = .ok (.aload_n 2, 1) := by decide +kernel
theorem dX6_putTerm_8 : decode cX6_putTerm 8 = .ok (.invokevirtual 42, 3) := by decide +kernel
theorem dX6_putTerm_11 : decode cX6_putTerm 11 = .ok (.bipush 16, 2) := by decide +kernel
theorem dX6_putTerm_13 : decode cX6_putTerm 13 = .ok (.if_icmp .le 4, 3) := by decide +kernel
theorem dX6_putTerm_16 : decode cX6_putTerm 16 = .ok (.return_, 1) := by decide +kernel
theorem dX6_putTerm_17 : decode cX6_putTerm 17 = .ok (.aload_n 0, 1) := by decide +kernel
theorem dX6_putTerm_18 : decode cX6_putTerm 18 = .ok (.getfield 31, 3) := by decide +kernel
theorem dX6_putTerm_21 : decode cX6_putTerm 21 = .ok (.iconst 2, 1) := by decide +kernel
theorem dX6_putTerm_22 : decode cX6_putTerm 22 = .ok (.imul, 1) := by decide +kernel
theorem dX6_putTerm_23 : decode cX6_putTerm 23 = .ok (.iload_n 1, 1) := by decide +kernel
theorem dX6_putTerm_24 : decode cX6_putTerm 24 = .ok (.iadd, 1) := by decide +kernel
theorem dX6_putTerm_25 : decode cX6_putTerm 25 = .ok (.istore_n 3, 1) := by decide +kernel
theorem dX6_putTerm_26 : decode cX6_putTerm 26 = .ok (.aload_n 0, 1) := by decide +kernel
theorem dX6_putTerm_27 : decode cX6_putTerm 27 = .ok (.getfield 28, 3) := by decide +kernel
theorem dX6_putTerm_30 : decode cX6_putTerm 30 = .ok (.iload_n 3, 1) := by decide +kernel
theorem dX6_putTerm_31 : decode cX6_putTerm 31 = .ok (.iconst 0, 1) := by decide +kernel
theorem dX6_putTerm_32 : decode cX6_putTerm 32 = .ok (.iastore, 1) := by decide +kernel
theorem dX6_putTerm_33 : decode cX6_putTerm 33 = .ok (.iconst 0, 1) := by decide +kernel
theorem dX6_putTerm_34 : decode cX6_putTerm 34 = .ok (.istore 4, 2) := by decide +kernel
theorem dX6_putTerm_36 : decode cX6_putTerm 36 = .ok (.iload 4, 2) := by decide +kernel
theorem dX6_putTerm_38 : decode cX6_putTerm 38 = .ok (.aload_n 2, 1) := by decide +kernel
theorem dX6_putTerm_39 : decode cX6_putTerm 39 = .ok (.invokevirtual 42, 3) := by decide +kernel
theorem dX6_putTerm_42 : decode cX6_putTerm 42 = .ok (.if_icmp .ge 56, 3) := by decide +kernel
theorem dX6_putTerm_45 : decode cX6_putTerm 45 = .ok (.aload_n 0, 1) := by decide +kernel
theorem dX6_putTerm_46 : decode cX6_putTerm 46 = .ok (.getfield 25, 3) := by decide +kernel
theorem dX6_putTerm_49 : decode cX6_putTerm 49 = .ok (.iload_n 3, 1) := by decide +kernel
theorem dX6_putTerm_50 : decode cX6_putTerm 50 = .ok (.bipush 16, 2) := by decide +kernel
theorem dX6_putTerm_52 : decode cX6_putTerm 52 = .ok (.imul, 1) := by decide +kernel
theorem dX6_putTerm_53 : decode cX6_putTerm 53 = .ok (.iload 4, 2) := by decide +kernel
theorem dX6_putTerm_55 : decode cX6_putTerm 55 = .ok (.iadd, 1) := by decide +kernel
theorem dX6_putTerm_56 : decode cX6_putTerm 56 = .ok (.aload_n 2, 1) := by decide +kernel
theorem dX6_putTerm_57 : decode cX6_putTerm 57 = .ok (.iload 4, 2) := by decide +kernel
theorem dX6_putTerm_59 : decode cX6_putTerm 59 = .ok (.invokevirtual 48, 3) := by decide +kernel
theorem dX6_putTerm_62 : decode cX6_putTerm 62 = .ok (.iastore, 1) := by decide +kernel
theorem dX6_putTerm_63 : decode cX6_putTerm 63 = .ok (.iload 4, 2) := by decide +kernel
theorem dX6_putTerm_65 : decode cX6_putTerm 65 = .ok (.ifCond .le 27, 3) := by decide +kernel
theorem dX6_putTerm_68 : decode cX6_putTerm 68 = .ok (.aload_n 2, 1) := by decide +kernel
theorem dX6_putTerm_69 : decode cX6_putTerm 69 = .ok (.iload 4, 2) := by decide +kernel
theorem dX6_putTerm_71 : decode cX6_putTerm 71 = .ok (.iconst 1, 1) := by decide +kernel
theorem dX6_putTerm_72 : decode cX6_putTerm 72 = .ok (.isub, 1) := by decide +kernel
theorem dX6_putTerm_73 : decode cX6_putTerm 73 = .ok (.invokevirtual 52, 3) := by decide +kernel
theorem dX6_putTerm_76 : decode cX6_putTerm 76 = .ok (.ifCond .eq 16, 3) := by decide +kernel
theorem dX6_putTerm_79 : decode cX6_putTerm 79 = .ok (.aload_n 0, 1) := by decide +kernel
theorem dX6_putTerm_80 : decode cX6_putTerm 80 = .ok (.getfield 28, 3) := by decide +kernel
theorem dX6_putTerm_83 : decode cX6_putTerm 83 = .ok (.iload_n 3, 1) := by decide +kernel
theorem dX6_putTerm_84 : decode cX6_putTerm 84 = .ok (.dup2, 1) := by decide +kernel
theorem dX6_putTerm_85 : decode cX6_putTerm 85 = .ok (.iaload, 1) := by decide +kernel
theorem dX6_putTerm_86 : decode cX6_putTerm 86 = .ok (.iconst 1, 1) := by decide +kernel
theorem dX6_putTerm_87 : decode cX6_putTerm 87 = .ok (.iload 4, 2) := by decide +kernel
theorem dX6_putTerm_89 : decode cX6_putTerm 89 = .ok (.ishl, 1) := by decide +kernel
theorem dX6_putTerm_90 : decode cX6_putTerm 90 = .ok (.ior, 1) := by decide +kernel
theorem dX6_putTerm_91 : decode cX6_putTerm 91 = .ok (.iastore, 1) := by decide +kernel
theorem dX6_putTerm_92 : decode cX6_putTerm 92 = .ok (.iinc 4 1, 3) := by decide +kernel
theorem dX6_putTerm_95 : decode cX6_putTerm 95 = .ok (.goto (-59), 3) := by decide +kernel
theorem dX6_putTerm_98 : decode cX6_putTerm 98 = .ok (.return_, 1) := by decide +kernel
theorem dX6_finish_0 : decode cX6_finish 0 = .ok (.aload_n 0, 1) := by decide +kernel
theorem dX6_finish_1 : decode cX6_finish 1 = .ok (.invokevirtual 38, 3) := by decide +kernel
theorem dX6_finish_4 : decode cX6_finish 4 = .ok (.ifCond .ne 23, 3) := by decide +kernel
theorem dX6_finish_7 : decode cX6_finish 7 = .ok (.aload_n 0, 1) := by decide +kernel
theorem dX6_finish_8 : decode cX6_finish 8 = .ok (.getfield 21, 3) := by decide +kernel
theorem dX6_finish_11 : decode cX6_finish 11 = .ok (.aload_n 0, 1) := by decide +kernel
theorem dX6_finish_12 : decode cX6_finish 12 = .ok (.getfield 31, 3) := by decide +kernel
theorem dX6_finish_15 : decode cX6_finish 15 = .ok (.iload_n 1, 1) := by decide +kernel
theorem dX6_finish_16 : decode cX6_finish 16 = .ok (.iastore, 1) := by decide +kernel
theorem dX6_finish_17 : decode cX6_finish 17 = .ok (.aload_n 0, 1) := by decide +kernel
theorem dX6_finish_18 : decode cX6_finish 18 = .ok (.dup, 1) := by decide +kernel
theorem dX6_finish_19 : decode cX6_finish 19 = .ok (.getfield 31, 3) := by decide +kernel
theorem dX6_finish_22 : decode cX6_finish 22 = .ok (.iconst 1, 1) := by decide +kernel
theorem dX6_finish_23 : decode cX6_finish 23 = .ok (.iadd, 1) := by decide +kernel
theorem dX6_finish_24 : decode cX6_finish 24 = .ok (.putfield 31, 3) := by decide +kernel
theorem dX6_finish_27 : decode cX6_finish 27 = .ok (.return_, 1) := by decide +kernel
theorem dX6_copyFrom_0 : decode cX6_copyFrom 0 = .ok (.aload_n 0, 1) := by decide +kernel
theorem dX6_copyFrom_1 : decode cX6_copyFrom 1 = .ok (.aload_n 1, 1) := by decide +kernel
theorem dX6_copyFrom_2 : decode cX6_copyFrom 2 = .ok (.getfield 31, 3) := by decide +kernel
theorem dX6_copyFrom_5 : decode cX6_copyFrom 5 = .ok (.aload_n 0, 1) := by decide +kernel
theorem dX6_copyFrom_6 : decode cX6_copyFrom 6 = .ok (.getfield 15, 3) := by decide +kernel
theorem dX6_copyFrom_9 : decode cX6_copyFrom 9 = .ok (.invokestatic 55, 3) := by decide +kernel
theorem dX6_copyFrom_12 : decode cX6_copyFrom 12 = .ok (.putfield 31, 3) := by decide +kernel
theorem dX6_copyFrom_15 : decode cX6_copyFrom 15 = .ok (.aload_n 0, 1) := by decide +kernel
theorem dX6_copyFrom_16 : decode cX6_copyFrom 16 = .ok (.aload_n 1, 1) := by decide +kernel
theorem dX6_copyFrom_17 : decode cX6_copyFrom 17 = .ok (.iconst 0, 1) := by decide +kernel
theorem dX6_copyFrom_18 : decode cX6_copyFrom 18 = .ok (.iconst 0, 1) := by decide +kernel
theorem dX6_copyFrom_19 : decode cX6_copyFrom 19 = .ok (.aload_n 0, 1) := by decide +kernel
theorem dX6_copyFrom_20 : decode cX6_copyFrom 20 = .ok (.getfield 31, 3) := by decide +kernel
theorem dX6_copyFrom_23 : decode cX6_copyFrom 23 = .ok (.invokevirtual 58, 3) := by decide +kernel
theorem dX6_copyFrom_26 : decode cX6_copyFrom 26 = .ok (.return_, 1) := by decide +kernel
theorem dX6_drop_0 : decode cX6_drop 0 = .ok (.aload_n 0, 1) := by decide +kernel
theorem dX6_drop_1 : decode cX6_drop 1 = .ok (.iload_n 1, 1) := by decide +kernel
theorem dX6_drop_2 : decode cX6_drop 2 = .ok (.invokevirtual 34, 3) := by decide +kernel
theorem dX6_drop_5 : decode cX6_drop 5 = .ok (.ifCond .eq 28, 3) := by decide +kernel
theorem dX6_drop_8 : decode cX6_drop 8 = .ok (.aload_n 0, 1) := by decide +kernel
theorem dX6_drop_9 : decode cX6_drop 9 = .ok (.dup, 1) := by decide +kernel
theorem dX6_drop_10 : decode cX6_drop 10 = .ok (.getfield 31, 3) := by decide +kernel
theorem dX6_drop_13 : decode cX6_drop 13 = .ok (.iconst 1, 1) := by decide +kernel
theorem dX6_drop_14 : decode cX6_drop 14 = .ok (.isub, 1) := by decide +kernel
theorem dX6_drop_15 : decode cX6_drop 15 = .ok (.putfield 31, 3) := by decide +kernel
theorem dX6_drop_18 : decode cX6_drop 18 = .ok (.aload_n 0, 1) := by decide +kernel
theorem dX6_drop_19 : decode cX6_drop 19 = .ok (.aload_n 0, 1) := by decide +kernel
theorem dX6_drop_20 : decode cX6_drop 20 = .ok (.iload_n 1, 1) := by decide +kernel
theorem dX6_drop_21 : decode cX6_drop 21 = .ok (.iconst 1, 1) := by decide +kernel
theorem dX6_drop_22 : decode cX6_drop 22 = .ok (.iadd, 1) := by decide +kernel
theorem dX6_drop_23 : decode cX6_drop 23 = .ok (.iload_n 1, 1) := by decide +kernel
theorem dX6_drop_24 : decode cX6_drop 24 = .ok (.aload_n 0, 1) := by decide +kernel
theorem dX6_drop_25 : decode cX6_drop 25 = .ok (.getfield 31, 3) := by decide +kernel
theorem dX6_drop_28 : decode cX6_drop 28 = .ok (.iload_n 1, 1) := by decide +kernel
theorem dX6_drop_29 : decode cX6_drop 29 = .ok (.isub, 1) := by decide +kernel
theorem dX6_drop_30 : decode cX6_drop 30 = .ok (.invokevirtual 58, 3) := by decide +kernel
theorem dX6_drop_33 : decode cX6_drop 33 = .ok (.return_, 1) := by decide +kernel
theorem dX6_move_0 : decode cX6_move 0 = .ok (.bipush 32, 2) := by decide +kernel
theorem dX6_move_2 : decode cX6_move 2 = .ok (.istore 5, 2) := by decide +kernel
theorem dX6_move_4 : decode cX6_move 4 = .ok (.aload_n 1, 1) := by decide +kernel
theorem dX6_move_5 : decode cX6_move 5 = .ok (.getfield 21, 3) := by decide +kernel
theorem dX6_move_8 : decode cX6_move 8 = .ok (.iload_n 2, 1) := by decide +kernel
theorem dX6_move_9 : decode cX6_move 9 = .ok (.aload_n 0, 1) := by decide +kernel
theorem dX6_move_10 : decode cX6_move 10 = .ok (.getfield 21, 3) := by decide +kernel
theorem dX6_move_13 : decode cX6_move 13 = .ok (.iload_n 3, 1) := by decide +kernel
theorem dX6_move_14 : decode cX6_move 14 = .ok (.iload 4, 2) := by decide +kernel
theorem dX6_move_16 : decode cX6_move 16 = .ok (.invokestatic 62, 3) := by decide +kernel
theorem dX6_move_19 : decode cX6_move 19 = .ok (.aload_n 1, 1) := by decide +kernel
theorem dX6_move_20 : decode cX6_move 20 = .ok (.getfield 25, 3) := by decide +kernel
theorem dX6_move_23 : decode cX6_move 23 = .ok (.iload_n 2, 1) := by decide +kernel
theorem dX6_move_24 : decode cX6_move 24 = .ok (.iload 5, 2) := by decide +kernel
theorem dX6_move_26 : decode cX6_move 26 = .ok (.imul, 1) := by decide +kernel
theorem dX6_move_27 : decode cX6_move 27 = .ok (.aload_n 0, 1) := by decide +kernel
theorem dX6_move_28 : decode cX6_move 28 = .ok (.getfield 25, 3) := by decide +kernel
theorem dX6_move_31 : decode cX6_move 31 = .ok (.iload_n 3, 1) := by decide +kernel
theorem dX6_move_32 : decode cX6_move 32 = .ok (.iload 5, 2) := by decide +kernel
theorem dX6_move_34 : decode cX6_move 34 = .ok (.imul, 1) := by decide +kernel
theorem dX6_move_35 : decode cX6_move 35 = .ok (.iload 4, 2) := by decide +kernel
theorem dX6_move_37 : decode cX6_move 37 = .ok (.iload 5, 2) := by decide +kernel
theorem dX6_move_39 : decode cX6_move 39 = .ok (.imul, 1) := by decide +kernel
theorem dX6_move_40 : decode cX6_move 40 = .ok (.invokestatic 62, 3) := by decide +kernel
theorem dX6_move_43 : decode cX6_move 43 = .ok (.aload_n 1, 1) := by decide +kernel
theorem dX6_move_44 : decode cX6_move 44 = .ok (.getfield 28, 3) := by decide +kernel
theorem dX6_move_47 : decode cX6_move 47 = .ok (.iload_n 2, 1) := by decide +kernel
theorem dX6_move_48 : decode cX6_move 48 = .ok (.iconst 2, 1) := by decide +kernel
theorem dX6_move_49 : decode cX6_move 49 = .ok (.imul, 1) := by decide +kernel
theorem dX6_move_50 : decode cX6_move 50 = .ok (.aload_n 0, 1) := by decide +kernel
theorem dX6_move_51 : decode cX6_move 51 = .ok (.getfield 28, 3) := by decide +kernel
theorem dX6_move_54 : decode cX6_move 54 = .ok (.iload_n 3, 1) := by decide +kernel
theorem dX6_move_55 : decode cX6_move 55 = .ok (.iconst 2, 1) := by decide +kernel
theorem dX6_move_56 : decode cX6_move 56 = .ok (.imul, 1) := by decide +kernel
theorem dX6_move_57 : decode cX6_move 57 = .ok (.iload 4, 2) := by decide +kernel
theorem dX6_move_59 : decode cX6_move 59 = .ok (.iconst 2, 1) := by decide +kernel
theorem dX6_move_60 : decode cX6_move 60 = .ok (.imul, 1) := by decide +kernel
theorem dX6_move_61 : decode cX6_move 61 = .ok (.invokestatic 62, 3) := by decide +kernel
theorem dX6_move_64 : decode cX6_move 64 = .ok (.return_, 1) := by decide +kernel
theorem dX7_init_0 : decode cX7_init 0 = .ok (.aload_n 0, 1) := by decide +kernel
theorem dX7_init_1 : decode cX7_init 1 = .ok (.invokespecial 3, 3) := by decide +kernel
theorem dX7_init_4 : decode cX7_init 4 = .ok (.aload_n 0, 1) := by decide +kernel
theorem dX7_init_5 : decode cX7_init 5 = .ok (.bipush 16, 2) := by decide +kernel
theorem dX7_init_7 : decode cX7_init 7 = .ok (.newarray .int, 2) := by decide +kernel
theorem dX7_init_9 : decode cX7_init 9 = .ok (.putfield 9, 3) := by decide +kernel
theorem dX7_init_12 : decode cX7_init 12 = .ok (.return_, 1) := by decide +kernel
theorem dX7_clear_0 : decode cX7_clear 0 = .ok (.aload_n 0, 1) := by decide +kernel
theorem dX7_clear_1 : decode cX7_clear 1 = .ok (.iconst 0, 1) := by decide +kernel
theorem dX7_clear_2 : decode cX7_clear 2 = .ok (.putfield 15, 3) := by decide +kernel
theorem dX7_clear_5 : decode cX7_clear 5 = .ok (.aload_n 0, 1) := by decide +kernel
theorem dX7_clear_6 : decode cX7_clear 6 = .ok (.iconst 0, 1) := by decide +kernel
theorem dX7_clear_7 : decode cX7_clear 7 = .ok (.putfield 19, 3) := by decide +kernel
theorem dX7_clear_10 : decode cX7_clear 10 = .ok (.return_, 1) := by decide +kernel
theorem dX7_bitCount_0 : decode cX7_bitCount 0 = .ok (.aload_n 0, 1) := by decide +kernel
theorem dX7_bitCount_1 : decode cX7_bitCount 1 = .ok (.getfield 19, 3) := by decide +kernel
theorem dX7_bitCount_4 : decode cX7_bitCount 4 = .ok (.ireturn, 1) := by decide +kernel
theorem dX7_beginPart_0 : decode cX7_beginPart 0 = .ok (.aload_n 0, 1) := by decide +kernel
theorem dX7_beginPart_1 : decode cX7_beginPart 1 = .ok (.getfield 19, 3) := by decide +kernel
theorem dX7_beginPart_4 : decode cX7_beginPart 4 = .ok (.bipush 16, 2) := by decide +kernel
theorem dX7_beginPart_6 : decode cX7_beginPart 6 = .ok (.if_icmp .ge 18, 3) := by decide +kernel
theorem dX7_beginPart_9 : decode cX7_beginPart 9 = .ok (.aload_n 0, 1) := by decide +kernel
theorem dX7_beginPart_10 : decode cX7_beginPart 10 = .ok (.dup, 1) := by decide +kernel
theorem dX7_beginPart_11 : decode cX7_beginPart 11 = .ok (.getfield 15, 3) := by decide +kernel
theorem dX7_beginPart_14 : decode cX7_beginPart 14 = .ok (.iconst 1, 1) := by decide +kernel
theorem dX7_beginPart_15 : decode cX7_beginPart 15 = .ok (.aload_n 0, 1) := by decide +kernel
theorem dX7_beginPart_16 : decode cX7_beginPart 16 = .ok (.getfield 19, 3) := by decide +kernel
theorem dX7_beginPart_19 : decode cX7_beginPart 19 = .ok (.ishl, 1) := by decide +kernel
theorem dX7_beginPart_20 : decode cX7_beginPart 20 = .ok (.ior, 1) := by decide +kernel
theorem dX7_beginPart_21 : decode cX7_beginPart 21 = .ok (.putfield 15, 3) := by decide +kernel
theorem dX7_beginPart_24 : decode cX7_beginPart 24 = .ok (.return_, 1) := by decide +kernel
theorem dX7_add_0 : decode cX7_add 0 = .ok (.aload_n 0, 1) := by decide +kernel
theorem dX7_add_1 : decode cX7_add 1 = .ok (.getfield 19, 3) := by decide +kernel
theorem dX7_add_4 : decode cX7_add 4 = .ok (.bipush 16, 2) := by decide +kernel
theorem dX7_add_6 : decode cX7_add 6 = .ok (.if_icmp .ge 13, 3) := by decide +kernel
theorem dX7_add_9 : decode cX7_add 9 = .ok (.aload_n 0, 1) := by decide +kernel
theorem dX7_add_10 : decode cX7_add 10 = .ok (.getfield 9, 3) := by decide +kernel
theorem dX7_add_13 : decode cX7_add 13 = .ok (.aload_n 0, 1) := by decide +kernel
theorem dX7_add_14 : decode cX7_add 14 = .ok (.getfield 19, 3) := by decide +kernel
theorem dX7_add_17 : decode cX7_add 17 = .ok (.iload_n 1, 1) := by decide +kernel
theorem dX7_add_18 : decode cX7_add 18 = .ok (.iastore, 1) := by decide +kernel
theorem dX7_add_19 : decode cX7_add 19 = .ok (.aload_n 0, 1) := by decide +kernel
theorem dX7_add_20 : decode cX7_add 20 = .ok (.dup, 1) := by decide +kernel
theorem dX7_add_21 : decode cX7_add 21 = .ok (.getfield 19, 3) := by decide +kernel
theorem dX7_add_24 : decode cX7_add 24 = .ok (.iconst 1, 1) := by decide +kernel
theorem dX7_add_25 : decode cX7_add 25 = .ok (.iadd, 1) := by decide +kernel
theorem dX7_add_26 : decode cX7_add 26 = .ok (.putfield 19, 3) := by decide +kernel
theorem dX7_add_29 : decode cX7_add 29 = .ok (.return_, 1) := by decide +kernel
theorem dX7_addRange_0 : decode cX7_addRange 0 = .ok (.aload_n 0, 1) := by decide +kernel
theorem dX7_addRange_1 : decode cX7_addRange 1 = .ok (.invokevirtual 22, 3) := by decide +kernel
end
section
theorem dX7_addRange_4 : decode cX7_addRange 4 = .ok (.iload_n 1, 1) := by decide +kernel
theorem dX7_addRange_5 : decode cX7_addRange 5 = .ok (.istore_n 3, 1) := by decide +kernel
theorem dX7_addRange_6 : decode cX7_addRange 6 = .ok (.iload_n 3, 1) := by decide +kernel
theorem dX7_addRange_7 : decode cX7_addRange 7 = .ok (.iload_n 2, 1) := by decide +kernel
theorem dX7_addRange_8 : decode cX7_addRange 8 = .ok (.if_icmp .lt 14, 3) := by decide +kernel
theorem dX7_addRange_11 : decode cX7_addRange 11 = .ok (.aload_n 0, 1) := by decide +kernel
theorem dX7_addRange_12 : decode cX7_addRange 12 = .ok (.iload_n 3, 1) := by decide +kernel
theorem dX7_addRange_13 : decode cX7_addRange 13 = .ok (.invokevirtual 25, 3) := by decide +kernel
theorem dX7_addRange_16 : decode cX7_addRange 16 = .ok (.iinc 3 (-1), 3) := by decide +kernel
theorem dX7_addRange_19 : decode cX7_addRange 19 = .ok (.goto (-13), 3) := by decide +kernel
theorem dX7_addRange_22 : decode cX7_addRange 22 = .ok (.return_, 1) := by decide +kernel
theorem dX7_node_0 : decode cX7_node 0 = .ok (.aload_n 0, 1) := by decide +kernel
theorem dX7_node_1 : decode cX7_node 1 = .ok (.getfield 19, 3) := by decide +kernel
theorem dX7_node_4 : decode cX7_node 4 = .ok (.iconst 1, 1) := by decide +kernel
theorem dX7_node_5 : decode cX7_node 5 = .ok (.isub, 1) := by decide +kernel
theorem dX7_node_6 : decode cX7_node 6 = .ok (.iload_n 1, 1) := by decide +kernel
theorem dX7_node_7 : decode cX7_node 7 = .ok (.isub, 1) := by decide +kernel
theorem dX7_node_8 : decode cX7_node 8 = .ok (.istore_n 2, 1) := by decide +kernel
theorem dX7_node_9 : decode cX7_node 9 = .ok (.iload_n 2, 1) := by decide +kernel
theorem dX7_node_10 : decode cX7_node 10 = .ok (.ifCond .lt 18, 3) := by decide +kernel
theorem dX7_node_13 : decode cX7_node 13 = .ok (.iload_n 2, 1) := by decide +kernel
theorem dX7_node_14 : decode cX7_node 14 = .ok (.bipush 16, 2) := by decide +kernel
theorem dX7_node_16 : decode cX7_node 16 = .ok (.if_icmp .ge 12, 3) := by decide +kernel
theorem dX7_node_19 : decode cX7_node 19 = .ok (.aload_n 0, 1) := by decide +kernel
theorem dX7_node_20 : decode cX7_node 20 = .ok (.getfield 9, 3) := by decide +kernel
theorem dX7_node_23 : decode cX7_node 23 = .ok (.iload_n 2, 1) := by decide +kernel
theorem dX7_node_24 : decode cX7_node 24 = .ok (.iaload, 1) := by decide +kernel
theorem dX7_node_25 : decode cX7_node 25 = .ok (.goto 6, 3) := by decide +kernel
theorem dX7_node_28 : decode cX7_node 28 = .ok (.sipush 128, 3) := by decide +kernel
theorem dX7_node_31 : decode cX7_node 31 = .ok (.ireturn, 1) := by decide +kernel
theorem dX7_partBeginsAt_0 : decode cX7_partBeginsAt 0 = .ok (.aload_n 0, 1) := by decide +kernel
theorem dX7_partBeginsAt_1 : decode cX7_partBeginsAt 1 = .ok (.getfield 19, 3) := by decide +kernel
theorem dX7_partBeginsAt_4 : decode cX7_partBeginsAt 4 = .ok (.iconst 1, 1) := by decide +kernel
theorem dX7_partBeginsAt_5 : decode cX7_partBeginsAt 5 = .ok (.isub, 1) := by decide +kernel
theorem dX7_partBeginsAt_6 : decode cX7_partBeginsAt 6 = .ok (.iload_n 1, 1) := by decide +kernel
theorem dX7_partBeginsAt_7 : decode cX7_partBeginsAt 7 = .ok (.isub, 1) := by decide +kernel
theorem dX7_partBeginsAt_8 : decode cX7_partBeginsAt 8 = .ok (.istore_n 2, 1) := by decide +kernel
theorem dX7_partBeginsAt_9 : decode cX7_partBeginsAt 9 = .ok (.iload_n 2, 1) := by decide +kernel
theorem dX7_partBeginsAt_10 : decode cX7_partBeginsAt 10 = .ok (.ifCond .lt 24, 3) := by decide +kernel
theorem dX7_partBeginsAt_13 : decode cX7_partBeginsAt 13 = .ok (.iload_n 2, 1) := by decide +kernel
theorem dX7_partBeginsAt_14 : decode cX7_partBeginsAt 14 = .ok (.bipush 16, 2) := by decide +kernel
theorem dX7_partBeginsAt_16 : decode cX7_partBeginsAt 16 = .ok (.if_icmp .ge 18, 3) := by decide +kernel
theorem dX7_partBeginsAt_19 : decode cX7_partBeginsAt 19 = .ok (.aload_n 0, 1) := by decide +kernel
theorem dX7_partBeginsAt_20 : decode cX7_partBeginsAt 20 = .ok (.getfield 15, 3) := by decide +kernel
theorem dX7_partBeginsAt_23 : decode cX7_partBeginsAt 23 = .ok (.iconst 1, 1) := by decide +kernel
theorem dX7_partBeginsAt_24 : decode cX7_partBeginsAt 24 = .ok (.iload_n 2, 1) := by decide +kernel
theorem dX7_partBeginsAt_25 : decode cX7_partBeginsAt 25 = .ok (.ishl, 1) := by decide +kernel
theorem dX7_partBeginsAt_26 : decode cX7_partBeginsAt 26 = .ok (.iand, 1) := by decide +kernel
theorem dX7_partBeginsAt_27 : decode cX7_partBeginsAt 27 = .ok (.ifCond .eq 7, 3) := by decide +kernel
theorem dX7_partBeginsAt_30 : decode cX7_partBeginsAt 30 = .ok (.iconst 1, 1) := by decide +kernel
theorem dX7_partBeginsAt_31 : decode cX7_partBeginsAt 31 = .ok (.goto 4, 3) := by decide +kernel
theorem dX7_partBeginsAt_34 : decode cX7_partBeginsAt 34 = .ok (.iconst 0, 1) := by decide +kernel
theorem dX7_partBeginsAt_35 : decode cX7_partBeginsAt 35 = .ok (.ireturn, 1) := by decide +kernel
theorem dX8_init_0 : decode cX8_init 0 = .ok (.aload_n 0, 1) := by decide +kernel
theorem dX8_init_1 : decode cX8_init 1 = .ok (.invokespecial 3, 3) := by decide +kernel
theorem dX8_init_4 : decode cX8_init 4 = .ok (.aload_n 0, 1) := by decide +kernel
theorem dX8_init_5 : decode cX8_init 5 = .ok (.sipush 200, 3) := by decide +kernel
theorem dX8_init_8 : decode cX8_init 8 = .ok (.newarray .char, 2) := by decide +kernel
theorem dX8_init_10 : decode cX8_init 10 = .ok (.putfield 9, 3) := by decide +kernel
theorem dX8_init_13 : decode cX8_init 13 = .ok (.aload_n 0, 1) := by decide +kernel
theorem dX8_init_14 : decode cX8_init 14 = .ok (.sipush 200, 3) := by decide +kernel
theorem dX8_init_17 : decode cX8_init 17 = .ok (.newarray .int, 2) := by decide +kernel
theorem dX8_init_19 : decode cX8_init 19 = .ok (.putfield 15, 3) := by decide +kernel
theorem dX8_init_22 : decode cX8_init 22 = .ok (.aload_n 0, 1) := by decide +kernel
theorem dX8_init_23 : decode cX8_init 23 = .ok (.sipush 200, 3) := by decide +kernel
theorem dX8_init_26 : decode cX8_init 26 = .ok (.newarray .int, 2) := by decide +kernel
theorem dX8_init_28 : decode cX8_init 28 = .ok (.putfield 19, 3) := by decide +kernel
theorem dX8_init_31 : decode cX8_init 31 = .ok (.aload_n 0, 1) := by decide +kernel
theorem dX8_init_32 : decode cX8_init 32 = .ok (.sipush 200, 3) := by decide +kernel
theorem dX8_init_35 : decode cX8_init 35 = .ok (.newarray .int, 2) := by decide +kernel
theorem dX8_init_37 : decode cX8_init 37 = .ok (.putfield 22, 3) := by decide +kernel
theorem dX8_init_40 : decode cX8_init 40 = .ok (.return_, 1) := by decide +kernel
theorem dX8_length_0 : decode cX8_length 0 = .ok (.aload_n 0, 1) := by decide +kernel
theorem dX8_length_1 : decode cX8_length 1 = .ok (.getfield 25, 3) := by decide +kernel
theorem dX8_length_4 : decode cX8_length 4 = .ok (.ireturn, 1) := by decide +kernel
theorem dX8_isFull_0 : decode cX8_isFull 0 = .ok (.aload_n 0, 1) := by decide +kernel
theorem dX8_isFull_1 : decode cX8_isFull 1 = .ok (.getfield 25, 3) := by decide +kernel
theorem dX8_isFull_4 : decode cX8_isFull 4 = .ok (.sipush 200, 3) := by decide +kernel
theorem dX8_isFull_7 : decode cX8_isFull 7 = .ok (.if_icmp .lt 7, 3) := by decide +kernel
theorem dX8_isFull_10 : decode cX8_isFull 10 = .ok (.iconst 1, 1) := by decide +kernel
theorem dX8_isFull_11 : decode cX8_isFull 11 = .ok (.goto 4, 3) := by decide +kernel
theorem dX8_isFull_14 : decode cX8_isFull 14 = .ok (.iconst 0, 1) := by decide +kernel
theorem dX8_isFull_15 : decode cX8_isFull 15 = .ok (.ireturn, 1) := by decide +kernel
theorem dX8_add_0 : decode cX8_add 0 = .ok (.aload_n 0, 1) := by decide +kernel
theorem dX8_add_1 : decode cX8_add 1 = .ok (.invokevirtual 29, 3) := by decide +kernel
theorem dX8_add_4 : decode cX8_add 4 = .ok (.ifCond .ne 23, 3) := by decide +kernel
theorem dX8_add_7 : decode cX8_add 7 = .ok (.aload_n 0, 1) := by decide +kernel
theorem dX8_add_8 : decode cX8_add 8 = .ok (.getfield 9, 3) := by decide +kernel
theorem dX8_add_11 : decode cX8_add 11 = .ok (.aload_n 0, 1) := by decide +kernel
theorem dX8_add_12 : decode cX8_add 12 = .ok (.getfield 25, 3) := by decide +kernel
theorem dX8_add_15 : decode cX8_add 15 = .ok (.iload_n 1, 1) := by decide +kernel
theorem dX8_add_16 : decode cX8_add 16 = .ok (.castore, 1) := by decide +kernel
theorem dX8_add_17 : decode cX8_add 17 = .ok (.aload_n 0, 1) := by decide +kernel
theorem dX8_add_18 : decode cX8_add 18 = .ok (.dup, 1) := by decide +kernel
theorem dX8_add_19 : decode cX8_add 19 = .ok (.getfield 25, 3) := by decide +kernel
theorem dX8_add_22 : decode cX8_add 22 = .ok (.iconst 1, 1) := by decide +kernel
theorem dX8_add_23 : decode cX8_add 23 = .ok (.iadd, 1) := by decide +kernel
theorem dX8_add_24 : decode cX8_add 24 = .ok (.putfield 25, 3) := by decide +kernel
theorem dX8_add_27 : decode cX8_add 27 = .ok (.return_, 1) := by decide +kernel
theorem dX8_clear_0 : decode cX8_clear 0 = .ok (.aload_n 0, 1) := by decide +kernel
theorem dX8_clear_1 : decode cX8_clear 1 = .ok (.iconst 0, 1) := by decide +kernel
theorem dX8_clear_2 : decode cX8_clear 2 = .ok (.putfield 25, 3) := by decide +kernel
theorem dX8_clear_5 : decode cX8_clear 5 = .ok (.return_, 1) := by decide +kernel
theorem dX8_split_0 : decode cX8_split 0 = .ok (.aload_n 0, 1) := by decide +kernel
theorem dX8_split_1 : decode cX8_split 1 = .ok (.iconst 0, 1) := by decide +kernel
theorem dX8_split_2 : decode cX8_split 2 = .ok (.putfield 33, 3) := by decide +kernel
theorem dX8_split_5 : decode cX8_split 5 = .ok (.aload_n 0, 1) := by decide +kernel
theorem dX8_split_6 : decode cX8_split 6 = .ok (.iconst 0, 1) := by decide +kernel
theorem dX8_split_7 : decode cX8_split 7 = .ok (.putfield 36, 3) := by decide +kernel
theorem dX8_split_10 : decode cX8_split 10 = .ok (.bipush 32, 2) := by decide +kernel
theorem dX8_split_12 : decode cX8_split 12 = .ok (.istore_n 1, 1) := by decide +kernel
theorem dX8_split_13 : decode cX8_split 13 = .ok (.iconst 0, 1) := by decide +kernel
theorem dX8_split_14 : decode cX8_split 14 = .ok (.istore_n 2, 1) := by decide +kernel
theorem dX8_split_15 : decode cX8_split 15 = .ok (.iload_n 2, 1) := by decide +kernel
theorem dX8_split_16 : decode cX8_split 16 = .ok (.aload_n 0, 1) := by decide +kernel
theorem dX8_split_17 : decode cX8_split 17 = .ok (.getfield 25, 3) := by decide +kernel
theorem dX8_split_20 : decode cX8_split 20 = .ok (.if_icmp .ge 123, 3) := by decide +kernel
theorem dX8_split_23 : decode cX8_split 23 = .ok (.aload_n 0, 1) := by decide +kernel
theorem dX8_split_24 : decode cX8_split 24 = .ok (.getfield 9, 3) := by decide +kernel
theorem dX8_split_27 : decode cX8_split 27 = .ok (.iload_n 2, 1) := by decide +kernel
theorem dX8_split_28 : decode cX8_split 28 = .ok (.caload, 1) := by decide +kernel
theorem dX8_split_29 : decode cX8_split 29 = .ok (.invokestatic 39, 3) := by decide +kernel
theorem dX8_split_32 : decode cX8_split 32 = .ok (.istore_n 3, 1) := by decide +kernel
theorem dX8_split_33 : decode cX8_split 33 = .ok (.iload_n 3, 1) := by decide +kernel
theorem dX8_split_34 : decode cX8_split 34 = .ok (.sipush 256, 3) := by decide +kernel
theorem dX8_split_37 : decode cX8_split 37 = .ok (.if_icmp .eq 10, 3) := by decide +kernel
theorem dX8_split_40 : decode cX8_split 40 = .ok (.iload_n 3, 1) := by decide +kernel
theorem dX8_split_41 : decode cX8_split 41 = .ok (.sipush 257, 3) := by decide +kernel
theorem dX8_split_44 : decode cX8_split 44 = .ok (.if_icmp .ne 7, 3) := by decide +kernel
theorem dX8_split_47 : decode cX8_split 47 = .ok (.iconst 1, 1) := by decide +kernel
theorem dX8_split_48 : decode cX8_split 48 = .ok (.goto 4, 3) := by decide +kernel
theorem dX8_split_51 : decode cX8_split 51 = .ok (.iconst 0, 1) := by decide +kernel
theorem dX8_split_52 : decode cX8_split 52 = .ok (.istore 4, 2) := by decide +kernel
theorem dX8_split_54 : decode cX8_split 54 = .ok (.iload 4, 2) := by decide +kernel
theorem dX8_split_56 : decode cX8_split 56 = .ok (.ifCond .eq 33, 3) := by decide +kernel
theorem dX8_split_59 : decode cX8_split 59 = .ok (.iload_n 3, 1) := by decide +kernel
theorem dX8_split_60 : decode cX8_split 60 = .ok (.iload_n 1, 1) := by decide +kernel
theorem dX8_split_61 : decode cX8_split 61 = .ok (.if_icmp .ne 28, 3) := by decide +kernel
theorem dX8_split_64 : decode cX8_split 64 = .ok (.aload_n 0, 1) := by decide +kernel
theorem dX8_split_65 : decode cX8_split 65 = .ok (.getfield 33, 3) := by decide +kernel
theorem dX8_split_68 : decode cX8_split 68 = .ok (.ifCond .le 21, 3) := by decide +kernel
theorem dX8_split_71 : decode cX8_split 71 = .ok (.aload_n 0, 1) := by decide +kernel
theorem dX8_split_72 : decode cX8_split 72 = .ok (.getfield 22, 3) := by decide +kernel
theorem dX8_split_75 : decode cX8_split 75 = .ok (.aload_n 0, 1) := by decide +kernel
theorem dX8_split_76 : decode cX8_split 76 = .ok (.getfield 33, 3) := by decide +kernel
theorem dX8_split_79 : decode cX8_split 79 = .ok (.iconst 1, 1) := by decide +kernel
theorem dX8_split_80 : decode cX8_split 80 = .ok (.isub, 1) := by decide +kernel
theorem dX8_split_81 : decode cX8_split 81 = .ok (.dup2, 1) := by decide +kernel
theorem dX8_split_82 : decode cX8_split 82 = .ok (.iaload, 1) := by decide +kernel
theorem dX8_split_83 : decode cX8_split 83 = .ok (.iconst 1, 1) := by decide +kernel
theorem dX8_split_84 : decode cX8_split 84 = .ok (.iadd, 1) := by decide +kernel
theorem dX8_split_85 : decode cX8_split 85 = .ok (.iastore, 1) := by decide +kernel
theorem dX8_split_86 : decode cX8_split 86 = .ok (.goto 49, 3) := by decide +kernel
theorem dX8_split_89 : decode cX8_split 89 = .ok (.iload_n 3, 1) := by decide +kernel
theorem dX8_split_90 : decode cX8_split 90 = .ok (.bipush 32, 2) := by decide +kernel
theorem dX8_split_92 : decode cX8_split 92 = .ok (.if_icmp .eq 43, 3) := by decide +kernel
theorem dX8_split_95 : decode cX8_split 95 = .ok (.aload_n 0, 1) := by decide +kernel
theorem dX8_split_96 : decode cX8_split 96 = .ok (.getfield 15, 3) := by decide +kernel
theorem dX8_split_99 : decode cX8_split 99 = .ok (.aload_n 0, 1) := by decide +kernel
theorem dX8_split_100 : decode cX8_split 100 = .ok (.getfield 33, 3) := by decide +kernel
theorem dX8_split_103 : decode cX8_split 103 = .ok (.iload_n 3, 1) := by decide +kernel
theorem dX8_split_104 : decode cX8_split 104 = .ok (.iastore, 1) := by decide +kernel
theorem dX8_split_105 : decode cX8_split 105 = .ok (.aload_n 0, 1) := by decide +kernel
theorem dX8_split_106 : decode cX8_split 106 = .ok (.getfield 19, 3) := by decide +kernel
theorem dX8_split_109 : decode cX8_split 109 = .ok (.aload_n 0, 1) := by decide +kernel
theorem dX8_split_110 : decode cX8_split 110 = .ok (.getfield 33, 3) := by decide +kernel
theorem dX8_split_113 : decode cX8_split 113 = .ok (.iload_n 2, 1) := by decide +kernel
theorem dX8_split_114 : decode cX8_split 114 = .ok (.iastore, 1) := by decide +kernel
theorem dX8_split_115 : decode cX8_split 115 = .ok (.aload_n 0, 1) := by decide +kernel
theorem dX8_split_116 : decode cX8_split 116 = .ok (.getfield 22, 3) := by decide +kernel
theorem dX8_split_119 : decode cX8_split 119 = .ok (.aload_n 0, 1) := by decide +kernel
theorem dX8_split_120 : decode cX8_split 120 = .ok (.getfield 33, 3) := by decide +kernel
theorem dX8_split_123 : decode cX8_split 123 = .ok (.iconst 1, 1) := by decide +kernel
theorem dX8_split_124 : decode cX8_split 124 = .ok (.iastore, 1) := by decide +kernel
theorem dX8_split_125 : decode cX8_split 125 = .ok (.aload_n 0, 1) := by decide +kernel
theorem dX8_split_126 : decode cX8_split 126 = .ok (.dup, 1) := by decide +kernel
theorem dX8_split_127 : decode cX8_split 127 = .ok (.getfield 33, 3) := by decide +kernel
theorem dX8_split_130 : decode cX8_split 130 = .ok (.iconst 1, 1) := by decide +kernel
theorem dX8_split_131 : decode cX8_split 131 = .ok (.iadd, 1) := by decide +kernel
theorem dX8_split_132 : decode cX8_split 132 = .ok (.putfield 33, 3) := by decide +kernel
theorem dX8_split_135 : decode cX8_split 135 = .ok (.iload_n 3, 1) := by decide +kernel
theorem dX8_split_136 : decode cX8_split 136 = .ok (.istore_n 1, 1) := by decide +kernel
theorem dX8_split_137 : decode cX8_split 137 = .ok (.iinc 2 1, 3) := by decide +kernel
theorem dX8_split_140 : decode cX8_split 140 = .ok (.goto (-125), 3) := by decide +kernel
theorem dX8_split_143 : decode cX8_split 143 = .ok (.iconst 0, 1) := by decide +kernel
theorem dX8_split_144 : decode cX8_split 144 = .ok (.istore_n 2, 1) := by decide +kernel
theorem dX8_split_145 : decode cX8_split 145 = .ok (.iload_n 2, 1) := by decide +kernel
theorem dX8_split_146 : decode cX8_split 146 = .ok (.aload_n 0, 1) := by decide +kernel
theorem dX8_split_147 : decode cX8_split 147 = .ok (.getfield 33, 3) := by decide +kernel
theorem dX8_split_150 : decode cX8_split 150 = .ok (.if_icmp .ge 43, 3) := by decide +kernel
theorem dX8_split_153 : decode cX8_split 153 = .ok (.aload_n 0, 1) := by decide +kernel
theorem dX8_split_154 : decode cX8_split 154 = .ok (.getfield 15, 3) := by decide +kernel
theorem dX8_split_157 : decode cX8_split 157 = .ok (.iload_n 2, 1) := by decide +kernel
theorem dX8_split_158 : decode cX8_split 158 = .ok (.iaload, 1) := by decide +kernel
theorem dX8_split_159 : decode cX8_split 159 = .ok (.sipush 256, 3) := by decide +kernel
theorem dX8_split_162 : decode cX8_split 162 = .ok (.if_icmp .ne 25, 3) := by decide +kernel
theorem dX8_split_165 : decode cX8_split 165 = .ok (.aload_n 0, 1) := by decide +kernel
theorem dX8_split_166 : decode cX8_split 166 = .ok (.getfield 15, 3) := by decide +kernel
theorem dX8_split_169 : decode cX8_split 169 = .ok (.iload_n 2, 1) := by decide +kernel
theorem dX8_split_170 : decode cX8_split 170 = .ok (.aload_n 0, 1) := by decide +kernel
theorem dX8_split_171 : decode cX8_split 171 = .ok (.aload_n 0, 1) := by decide +kernel
theorem dX8_split_172 : decode cX8_split 172 = .ok (.getfield 19, 3) := by decide +kernel
theorem dX8_split_175 : decode cX8_split 175 = .ok (.iload_n 2, 1) := by decide +kernel
theorem dX8_split_176 : decode cX8_split 176 = .ok (.iaload, 1) := by decide +kernel
theorem dX8_split_177 : decode cX8_split 177 = .ok (.aload_n 0, 1) := by decide +kernel
theorem dX8_split_178 : decode cX8_split 178 = .ok (.getfield 22, 3) := by decide +kernel
theorem dX8_split_181 : decode cX8_split 181 = .ok (.iload_n 2, 1) := by decide +kernel
theorem dX8_split_182 : decode cX8_split 182 = .ok (.iaload, 1) := by decide +kernel
theorem dX8_split_183 : decode cX8_split 183 = .ok (.invokevirtual 43, 3) := by decide +kernel
theorem dX8_split_186 : decode cX8_split 186 = .ok (.iastore, 1) := by decide +kernel
theorem dX8_split_187 : decode cX8_split 187 = .ok (.iinc 2 1, 3) := by decide +kernel
theorem dX8_split_190 : decode cX8_split 190 = .ok (.goto (-45), 3) := by decide +kernel
theorem dX8_split_193 : decode cX8_split 193 = .ok (.return_, 1) := by decide +kernel
theorem dX8_kind_0 : decode cX8_kind 0 = .ok (.aload_n 0, 1) := by decide +kernel
theorem dX8_kind_1 : decode cX8_kind 1 = .ok (.getfield 36, 3) := by decide +kernel
theorem dX8_kind_4 : decode cX8_kind 4 = .ok (.aload_n 0, 1) := by decide +kernel
theorem dX8_kind_5 : decode cX8_kind 5 = .ok (.getfield 33, 3) := by decide +kernel
theorem dX8_kind_8 : decode cX8_kind 8 = .ok (.if_icmp .ge 15, 3) := by decide +kernel
theorem dX8_kind_11 : decode cX8_kind 11 = .ok (.aload_n 0, 1) := by decide +kernel
theorem dX8_kind_12 : decode cX8_kind 12 = .ok (.getfield 15, 3) := by decide +kernel
theorem dX8_kind_15 : decode cX8_kind 15 = .ok (.aload_n 0, 1) := by decide +kernel
theorem dX8_kind_16 : decode cX8_kind 16 = .ok (.getfield 36, 3) := by decide +kernel
theorem dX8_kind_19 : decode cX8_kind 19 = .ok (.iaload, 1) := by decide +kernel
theorem dX8_kind_20 : decode cX8_kind 20 = .ok (.goto 6, 3) := by decide +kernel
theorem dX8_kind_23 : decode cX8_kind 23 = .ok (.sipush 261, 3) := by decide +kernel
theorem dX8_kind_26 : decode cX8_kind 26 = .ok (.ireturn, 1) := by decide +kernel
theorem dX8_start_0 : decode cX8_start 0 = .ok (.aload_n 0, 1) := by decide +kernel
theorem dX8_start_1 : decode cX8_start 1 = .ok (.getfield 36, 3) := by decide +kernel
theorem dX8_start_4 : decode cX8_start 4 = .ok (.aload_n 0, 1) := by decide +kernel
theorem dX8_start_5 : decode cX8_start 5 = .ok (.getfield 33, 3) := by decide +kernel
theorem dX8_start_8 : decode cX8_start 8 = .ok (.if_icmp .ge 15, 3) := by decide +kernel
theorem dX8_start_11 : decode cX8_start 11 = .ok (.aload_n 0, 1) := by decide +kernel
theorem dX8_start_12 : decode cX8_start 12 = .ok (.getfield 19, 3) := by decide +kernel
theorem dX8_start_15 : decode cX8_start 15 = .ok (.aload_n 0, 1) := by decide +kernel
theorem dX8_start_16 : decode cX8_start 16 = .ok (.getfield 36, 3) := by decide +kernel
theorem dX8_start_19 : decode cX8_start 19 = .ok (.iaload, 1) := by decide +kernel
theorem dX8_start_20 : decode cX8_start 20 = .ok (.goto 7, 3) := by decide +kernel
theorem dX8_start_23 : decode cX8_start 23 = .ok (.aload_n 0, 1) := by decide +kernel
theorem dX8_start_24 : decode cX8_start 24 = .ok (.getfield 25, 3) := by decide +kernel
theorem dX8_start_27 : decode cX8_start 27 = .ok (.ireturn, 1) := by decide +kernel
theorem dX8_advance_0 : decode cX8_advance 0 = .ok (.aload_n 0, 1) := by decide +kernel
theorem dX8_advance_1 : decode cX8_advance 1 = .ok (.getfield 36, 3) := by decide +kernel
theorem dX8_advance_4 : decode cX8_advance 4 = .ok (.aload_n 0, 1) := by decide +kernel
theorem dX8_advance_5 : decode cX8_advance 5 = .ok (.getfield 33, 3) := by decide +kernel
theorem dX8_advance_8 : decode cX8_advance 8 = .ok (.if_icmp .ge 13, 3) := by decide +kernel
theorem dX8_advance_11 : decode cX8_advance 11 = .ok (.aload_n 0, 1) := by decide +kernel
theorem dX8_advance_12 : decode cX8_advance 12 = .ok (.dup, 1) := by decide +kernel
theorem dX8_advance_13 : decode cX8_advance 13 = .ok (.getfield 36, 3) := by decide +kernel
theorem dX8_advance_16 : decode cX8_advance 16 = .ok (.iconst 1, 1) := by decide +kernel
theorem dX8_advance_17 : decode cX8_advance 17 = .ok (.iadd, 1) := by decide +kernel
theorem dX8_advance_18 : decode cX8_advance 18 = .ok (.putfield 36, 3) := by decide +kernel
theorem dX8_advance_21 : decode cX8_advance 21 = .ok (.return_, 1) := by decide +kernel
theorem dX8_pass_0 : decode cX8_pass 0 = .ok (.aload_n 0, 1) := by decide +kernel
theorem dX8_pass_1 : decode cX8_pass 1 = .ok (.getfield 36, 3) := by decide +kernel
theorem dX8_pass_4 : decode cX8_pass 4 = .ok (.aload_n 0, 1) := by decide +kernel
theorem dX8_pass_5 : decode cX8_pass 5 = .ok (.getfield 33, 3) := by decide +kernel
theorem dX8_pass_8 : decode cX8_pass 8 = .ok (.if_icmp .ge 16, 3) := by decide +kernel
theorem dX8_pass_11 : decode cX8_pass 11 = .ok (.aload_n 0, 1) := by decide +kernel
theorem dX8_pass_12 : decode cX8_pass 12 = .ok (.getfield 15, 3) := by decide +kernel
theorem dX8_pass_15 : decode cX8_pass 15 = .ok (.aload_n 0, 1) := by decide +kernel
theorem dX8_pass_16 : decode cX8_pass 16 = .ok (.getfield 36, 3) := by decide +kernel
theorem dX8_pass_19 : decode cX8_pass 19 = .ok (.iaload, 1) := by decide +kernel
theorem dX8_pass_20 : decode cX8_pass 20 = .ok (.iload_n 1, 1) := by decide +kernel
theorem dX8_pass_21 : decode cX8_pass 21 = .ok (.if_icmp .eq 5, 3) := by decide +kernel
theorem dX8_pass_24 : decode cX8_pass 24 = .ok (.iconst 0, 1) := by decide +kernel
theorem dX8_pass_25 : decode cX8_pass 25 = .ok (.ireturn, 1) := by decide +kernel
theorem dX8_pass_26 : decode cX8_pass 26 = .ok (.aload_n 0, 1) := by decide +kernel
theorem dX8_pass_27 : decode cX8_pass 27 = .ok (.dup, 1) := by decide +kernel
theorem dX8_pass_28 : decode cX8_pass 28 = .ok (.getfield 36, 3) := by decide +kernel
theorem dX8_pass_31 : decode cX8_pass 31 = .ok (.iconst 1, 1) := by decide +kernel
theorem dX8_pass_32 : decode cX8_pass 32 = .ok (.iadd, 1) := by decide +kernel
theorem dX8_pass_33 : decode cX8_pass 33 = .ok (.putfield 36, 3) := by decide +kernel
theorem dX8_pass_36 : decode cX8_pass 36 = .ok (.iconst 1, 1) := by decide +kernel
theorem dX8_pass_37 : decode cX8_pass 37 = .ok (.ireturn, 1) := by decide +kernel
theorem dX8_name_0 : decode cX8_name 0 = .ok (.aload_n 0, 1) := by decide +kernel
theorem dX8_name_1 : decode cX8_name 1 = .ok (.getfield 36, 3) := by decide +kernel
theorem dX8_name_4 : decode cX8_name 4 = .ok (.aload_n 0, 1) := by decide +kernel
theorem dX8_name_5 : decode cX8_name 5 = .ok (.getfield 33, 3) := by decide +kernel
theorem dX8_name_8 : decode cX8_name 8 = .ok (.if_icmp .ge 38, 3) := by decide +kernel
theorem dX8_name_11 : decode cX8_name 11 = .ok (.aload_n 0, 1) := by decide +kernel
theorem dX8_name_12 : decode cX8_name 12 = .ok (.getfield 15, 3) := by decide +kernel
theorem dX8_name_15 : decode cX8_name 15 = .ok (.aload_n 0, 1) := by decide +kernel
theorem dX8_name_16 : decode cX8_name 16 = .ok (.getfield 36, 3) := by decide +kernel
theorem dX8_name_19 : decode cX8_name 19 = .ok (.iaload, 1) := by decide +kernel
theorem dX8_name_20 : decode cX8_name 20 = .ok (.sipush 258, 3) := by decide +kernel
theorem dX8_name_23 : decode cX8_name 23 = .ok (.if_icmp .ne 23, 3) := by decide +kernel
theorem dX8_name_26 : decode cX8_name 26 = .ok (.aload_n 0, 1) := by decide +kernel
theorem dX8_name_27 : decode cX8_name 27 = .ok (.getfield 9, 3) := by decide +kernel
theorem dX8_name_30 : decode cX8_name 30 = .ok (.aload_n 0, 1) := by decide +kernel
theorem dX8_name_31 : decode cX8_name 31 = .ok (.getfield 19, 3) := by decide +kernel
theorem dX8_name_34 : decode cX8_name 34 = .ok (.aload_n 0, 1) := by decide +kernel
theorem dX8_name_35 : decode cX8_name 35 = .ok (.getfield 36, 3) := by decide +kernel
theorem dX8_name_38 : decode cX8_name 38 = .ok (.iaload, 1) := by decide +kernel
theorem dX8_name_39 : decode cX8_name 39 = .ok (.caload, 1) := by decide +kernel
theorem dX8_name_40 : decode cX8_name 40 = .ok (.bipush 97, 2) := by decide +kernel
theorem dX8_name_42 : decode cX8_name 42 = .ok (.isub, 1) := by decide +kernel
theorem dX8_name_43 : decode cX8_name 43 = .ok (.goto 5, 3) := by decide +kernel
theorem dX8_name_46 : decode cX8_name 46 = .ok (.bipush (-9), 2) := by decide +kernel
theorem dX8_name_48 : decode cX8_name 48 = .ok (.ireturn, 1) := by decide +kernel
theorem dX8_number_0 : decode cX8_number 0 = .ok (.aload_n 0, 1) := by decide +kernel
theorem dX8_number_1 : decode cX8_number 1 = .ok (.getfield 36, 3) := by decide +kernel
theorem dX8_number_4 : decode cX8_number 4 = .ok (.aload_n 0, 1) := by decide +kernel
theorem dX8_number_5 : decode cX8_number 5 = .ok (.getfield 33, 3) := by decide +kernel
theorem dX8_number_8 : decode cX8_number 8 = .ok (.if_icmp .ge 18, 3) := by decide +kernel
theorem dX8_number_11 : decode cX8_number 11 = .ok (.aload_n 0, 1) := by decide +kernel
theorem dX8_number_12 : decode cX8_number 12 = .ok (.getfield 15, 3) := by decide +kernel
theorem dX8_number_15 : decode cX8_number 15 = .ok (.aload_n 0, 1) := by decide +kernel
theorem dX8_number_16 : decode cX8_number 16 = .ok (.getfield 36, 3) := by decide +kernel
theorem dX8_number_19 : decode cX8_number 19 = .ok (.iaload, 1) := by decide +kernel
theorem dX8_number_20 : decode cX8_number 20 = .ok (.sipush 257, 3) := by decide +kernel
theorem dX8_number_23 : decode cX8_number 23 = .ok (.if_icmp .eq 6, 3) := by decide +kernel
theorem dX8_number_26 : decode cX8_number 26 = .ok (.bipush (-9), 2) := by decide +kernel
theorem dX8_number_28 : decode cX8_number 28 = .ok (.ireturn, 1) := by decide +kernel
theorem dX8_number_29 : decode cX8_number 29 = .ok (.aload_n 0, 1) := by decide +kernel
theorem dX8_number_30 : decode cX8_number 30 = .ok (.getfield 9, 3) := by decide +kernel
theorem dX8_number_33 : decode cX8_number 33 = .ok (.aload_n 0, 1) := by decide +kernel
theorem dX8_number_34 : decode cX8_number 34 = .ok (.getfield 19, 3) := by decide +kernel
theorem dX8_number_37 : decode cX8_number 37 = .ok (.aload_n 0, 1) := by decide +kernel
theorem dX8_number_38 : decode cX8_number 38 = .ok (.getfield 36, 3) := by decide +kernel
theorem dX8_number_41 : decode cX8_number 41 = .ok (.iaload, 1) := by decide +kernel
theorem dX8_number_42 : decode cX8_number 42 = .ok (.caload, 1) := by decide +kernel
theorem dX8_number_43 : decode cX8_number 43 = .ok (.bipush 48, 2) := by decide +kernel
theorem dX8_number_45 : decode cX8_number 45 = .ok (.isub, 1) := by decide +kernel
theorem dX8_number_46 : decode cX8_number 46 = .ok (.istore_n 1, 1) := by decide +kernel
theorem dX8_number_47 : decode cX8_number 47 = .ok (.aload_n 0, 1) := by decide +kernel
theorem dX8_number_48 : decode cX8_number 48 = .ok (.getfield 22, 3) := by decide +kernel
theorem dX8_number_51 : decode cX8_number 51 = .ok (.aload_n 0, 1) := by decide +kernel
theorem dX8_number_52 : decode cX8_number 52 = .ok (.getfield 36, 3) := by decide +kernel
theorem dX8_number_55 : decode cX8_number 55 = .ok (.iaload, 1) := by decide +kernel
theorem dX8_number_56 : decode cX8_number 56 = .ok (.iconst 1, 1) := by decide +kernel
theorem dX8_number_57 : decode cX8_number 57 = .ok (.if_icmp .ne 5, 3) := by decide +kernel
theorem dX8_number_60 : decode cX8_number 60 = .ok (.iload_n 1, 1) := by decide +kernel
theorem dX8_number_61 : decode cX8_number 61 = .ok (.ireturn, 1) := by decide +kernel
theorem dX8_number_62 : decode cX8_number 62 = .ok (.aload_n 0, 1) := by decide +kernel
theorem dX8_number_63 : decode cX8_number 63 = .ok (.getfield 22, 3) := by decide +kernel
theorem dX8_number_66 : decode cX8_number 66 = .ok (.aload_n 0, 1) := by decide +kernel
theorem dX8_number_67 : decode cX8_number 67 = .ok (.getfield 36, 3) := by decide +kernel
theorem dX8_number_70 : decode cX8_number 70 = .ok (.iaload, 1) := by decide +kernel
theorem dX8_number_71 : decode cX8_number 71 = .ok (.iconst 2, 1) := by decide +kernel
theorem dX8_number_72 : decode cX8_number 72 = .ok (.if_icmp .ne 11, 3) := by decide +kernel
theorem dX8_number_75 : decode cX8_number 75 = .ok (.iload_n 1, 1) := by decide +kernel
theorem dX8_number_76 : decode cX8_number 76 = .ok (.ifCond .eq 7, 3) := by decide +kernel
theorem dX8_number_79 : decode cX8_number 79 = .ok (.iconst 1, 1) := by decide +kernel
theorem dX8_number_80 : decode cX8_number 80 = .ok (.goto 4, 3) := by decide +kernel
theorem dX8_number_83 : decode cX8_number 83 = .ok (.iconst 0, 1) := by decide +kernel
theorem dX8_number_84 : decode cX8_number 84 = .ok (.istore_n 2, 1) := by decide +kernel
theorem dX8_number_85 : decode cX8_number 85 = .ok (.iload_n 2, 1) := by decide +kernel
theorem dX8_number_86 : decode cX8_number 86 = .ok (.ifCond .eq 30, 3) := by decide +kernel
theorem dX8_number_89 : decode cX8_number 89 = .ok (.bipush 10, 2) := by decide +kernel
theorem dX8_number_91 : decode cX8_number 91 = .ok (.iload_n 1, 1) := by decide +kernel
theorem dX8_number_92 : decode cX8_number 92 = .ok (.imul, 1) := by decide +kernel
theorem dX8_number_93 : decode cX8_number 93 = .ok (.aload_n 0, 1) := by decide +kernel
theorem dX8_number_94 : decode cX8_number 94 = .ok (.getfield 9, 3) := by decide +kernel
theorem dX8_number_97 : decode cX8_number 97 = .ok (.aload_n 0, 1) := by decide +kernel
theorem dX8_number_98 : decode cX8_number 98 = .ok (.getfield 19, 3) := by decide +kernel
theorem dX8_number_101 : decode cX8_number 101 = .ok (.aload_n 0, 1) := by decide +kernel
theorem dX8_number_102 : decode cX8_number 102 = .ok (.getfield 36, 3) := by decide +kernel
theorem dX8_number_105 : decode cX8_number 105 = .ok (.iaload, 1) := by decide +kernel
theorem dX8_number_106 : decode cX8_number 106 = .ok (.iconst 1, 1) := by decide +kernel
theorem dX8_number_107 : decode cX8_number 107 = .ok (.iadd, 1) := by decide +kernel
theorem dX8_number_108 : decode cX8_number 108 = .ok (.caload, 1) := by decide +kernel
theorem dX8_number_109 : decode cX8_number 109 = .ok (.iadd, 1) := by decide +kernel
theorem dX8_number_110 : decode cX8_number 110 = .ok (.bipush 48, 2) := by decide +kernel
theorem dX8_number_112 : decode cX8_number 112 = .ok (.isub, 1) := by decide +kernel
theorem dX8_number_113 : decode cX8_number 113 = .ok (.goto 5, 3) := by decide +kernel
theorem dX8_number_116 : decode cX8_number 116 = .ok (.bipush (-9), 2) := by decide +kernel
theorem dX8_number_118 : decode cX8_number 118 = .ok (.ireturn, 1) := by decide +kernel
theorem dX8_constantBits_0 : decode cX8_constantBits 0 = .ok (.aload_n 0, 1) := by decide +kernel
theorem dX8_constantBits_1 : decode cX8_constantBits 1 = .ok (.getfield 36, 3) := by decide +kernel
theorem dX8_constantBits_4 : decode cX8_constantBits 4 = .ok (.aload_n 0, 1) := by decide +kernel
theorem dX8_constantBits_5 : decode cX8_constantBits 5 = .ok (.getfield 33, 3) := by decide +kernel
theorem dX8_constantBits_8 : decode cX8_constantBits 8 = .ok (.if_icmp .ge 32, 3) := by decide +kernel
theorem dX8_constantBits_11 : decode cX8_constantBits 11 = .ok (.aload_n 0, 1) := by decide +kernel
theorem dX8_constantBits_12 : decode cX8_constantBits 12 = .ok (.getfield 15, 3) := by decide +kernel
theorem dX8_constantBits_15 : decode cX8_constantBits 15 = .ok (.aload_n 0, 1) := by decide +kernel
theorem dX8_constantBits_16 : decode cX8_constantBits 16 = .ok (.getfield 36, 3) := by decide +kernel
theorem dX8_constantBits_19 : decode cX8_constantBits 19 = .ok (.iaload, 1) := by decide +kernel
theorem dX8_constantBits_20 : decode cX8_constantBits 20 = .ok (.sipush 257, 3) := by decide +kernel
theorem dX8_constantBits_23 : decode cX8_constantBits 23 = .ok (.if_icmp .ne 17, 3) := by decide +kernel
theorem dX8_constantBits_26 : decode cX8_constantBits 26 = .ok (.aload_n 0, 1) := by decide +kernel
theorem dX8_constantBits_27 : decode cX8_constantBits 27 = .ok (.getfield 22, 3) := by decide +kernel
theorem dX8_constantBits_30 : decode cX8_constantBits 30 = .ok (.aload_n 0, 1) := by decide +kernel
theorem dX8_constantBits_31 : decode cX8_constantBits 31 = .ok (.getfield 36, 3) := by decide +kernel
theorem dX8_constantBits_34 : decode cX8_constantBits 34 = .ok (.iaload, 1) := by decide +kernel
theorem dX8_constantBits_35 : decode cX8_constantBits 35 = .ok (.bipush 16, 2) := by decide +kernel
theorem dX8_constantBits_37 : decode cX8_constantBits 37 = .ok (.if_icmp .le 5, 3) := by decide +kernel
theorem dX8_constantBits_40 : decode cX8_constantBits 40 = .ok (.iconst 0, 1) := by decide +kernel
theorem dX8_constantBits_41 : decode cX8_constantBits 41 = .ok (.ireturn, 1) := by decide +kernel
theorem dX8_constantBits_42 : decode cX8_constantBits 42 = .ok (.iconst 0, 1) := by decide +kernel
theorem dX8_constantBits_43 : decode cX8_constantBits 43 = .ok (.istore_n 1, 1) := by decide +kernel
theorem dX8_constantBits_44 : decode cX8_constantBits 44 = .ok (.iload_n 1, 1) := by decide +kernel
theorem dX8_constantBits_45 : decode cX8_constantBits 45 = .ok (.aload_n 0, 1) := by decide +kernel
theorem dX8_constantBits_46 : decode cX8_constantBits 46 = .ok (.getfield 22, 3) := by decide +kernel
theorem dX8_constantBits_49 : decode cX8_constantBits 49 = .ok (.aload_n 0, 1) := by decide +kernel
theorem dX8_constantBits_50 : decode cX8_constantBits 50 = .ok (.getfield 36, 3) := by decide +kernel
theorem dX8_constantBits_53 : decode cX8_constantBits 53 = .ok (.iaload, 1) := by decide +kernel
theorem dX8_constantBits_54 : decode cX8_constantBits 54 = .ok (.if_icmp .ge 32, 3) := by decide +kernel
theorem dX8_constantBits_57 : decode cX8_constantBits 57 = .ok (.aload_n 0, 1) := by decide +kernel
theorem dX8_constantBits_58 : decode cX8_constantBits 58 = .ok (.getfield 9, 3) := by decide +kernel
theorem dX8_constantBits_61 : decode cX8_constantBits 61 = .ok (.aload_n 0, 1) := by decide +kernel
theorem dX8_constantBits_62 : decode cX8_constantBits 62 = .ok (.getfield 19, 3) := by decide +kernel
theorem dX8_constantBits_65 : decode cX8_constantBits 65 = .ok (.aload_n 0, 1) := by decide +kernel
theorem dX8_constantBits_66 : decode cX8_constantBits 66 = .ok (.getfield 36, 3) := by decide +kernel
theorem dX8_constantBits_69 : decode cX8_constantBits 69 = .ok (.iaload, 1) := by decide +kernel
theorem dX8_constantBits_70 : decode cX8_constantBits 70 = .ok (.iload_n 1, 1) := by decide +kernel
theorem dX8_constantBits_71 : decode cX8_constantBits 71 = .ok (.iadd, 1) := by decide +kernel
theorem dX8_constantBits_72 : decode cX8_constantBits 72 = .ok (.caload, 1) := by decide +kernel
theorem dX8_constantBits_73 : decode cX8_constantBits 73 = .ok (.bipush 49, 2) := by decide +kernel
theorem dX8_constantBits_75 : decode cX8_constantBits 75 = .ok (.if_icmp .le 5, 3) := by decide +kernel
theorem dX8_constantBits_78 : decode cX8_constantBits 78 = .ok (.iconst 0, 1) := by decide +kernel
theorem dX8_constantBits_79 : decode cX8_constantBits 79 = .ok (.ireturn, 1) := by decide +kernel
theorem dX8_constantBits_80 : decode cX8_constantBits 80 = .ok (.iinc 1 1, 3) := by decide +kernel
theorem dX8_constantBits_83 : decode cX8_constantBits 83 = .ok (.goto (-39), 3) := by decide +kernel
theorem dX8_constantBits_86 : decode cX8_constantBits 86 = .ok (.aload_n 0, 1) := by decide +kernel
theorem dX8_constantBits_87 : decode cX8_constantBits 87 = .ok (.getfield 22, 3) := by decide +kernel
theorem dX8_constantBits_90 : decode cX8_constantBits 90 = .ok (.aload_n 0, 1) := by decide +kernel
theorem dX8_constantBits_91 : decode cX8_constantBits 91 = .ok (.getfield 36, 3) := by decide +kernel
theorem dX8_constantBits_94 : decode cX8_constantBits 94 = .ok (.iaload, 1) := by decide +kernel
theorem dX8_constantBits_95 : decode cX8_constantBits 95 = .ok (.ireturn, 1) := by decide +kernel
theorem dX8_constantBit_0 : decode cX8_constantBit 0 = .ok (.aload_n 0, 1) := by decide +kernel
theorem dX8_constantBit_1 : decode cX8_constantBit 1 = .ok (.getfield 36, 3) := by decide +kernel
theorem dX8_constantBit_4 : decode cX8_constantBit 4 = .ok (.aload_n 0, 1) := by decide +kernel
theorem dX8_constantBit_5 : decode cX8_constantBit 5 = .ok (.getfield 33, 3) := by decide +kernel
theorem dX8_constantBit_8 : decode cX8_constantBit 8 = .ok (.if_icmp .ge 24, 3) := by decide +kernel
theorem dX8_constantBit_11 : decode cX8_constantBit 11 = .ok (.iload_n 1, 1) := by decide +kernel
theorem dX8_constantBit_12 : decode cX8_constantBit 12 = .ok (.ifCond .lt 20, 3) := by decide +kernel
theorem dX8_constantBit_15 : decode cX8_constantBit 15 = .ok (.iload_n 1, 1) := by decide +kernel
theorem dX8_constantBit_16 : decode cX8_constantBit 16 = .ok (.aload_n 0, 1) := by decide +kernel
theorem dX8_constantBit_17 : decode cX8_constantBit 17 = .ok (.getfield 22, 3) := by decide +kernel
theorem dX8_constantBit_20 : decode cX8_constantBit 20 = .ok (.aload_n 0, 1) := by decide +kernel
theorem dX8_constantBit_21 : decode cX8_constantBit 21 = .ok (.getfield 36, 3) := by decide +kernel
theorem dX8_constantBit_24 : decode cX8_constantBit 24 = .ok (.iaload, 1) := by decide +kernel
theorem dX8_constantBit_25 : decode cX8_constantBit 25 = .ok (.if_icmp .ge 7, 3) := by decide +kernel
theorem dX8_constantBit_28 : decode cX8_constantBit 28 = .ok (.iconst 1, 1) := by decide +kernel
theorem dX8_constantBit_29 : decode cX8_constantBit 29 = .ok (.goto 4, 3) := by decide +kernel
theorem dX8_constantBit_32 : decode cX8_constantBit 32 = .ok (.iconst 0, 1) := by decide +kernel
theorem dX8_constantBit_33 : decode cX8_constantBit 33 = .ok (.istore_n 2, 1) := by decide +kernel
theorem dX8_constantBit_34 : decode cX8_constantBit 34 = .ok (.iload_n 2, 1) := by decide +kernel
theorem dX8_constantBit_35 : decode cX8_constantBit 35 = .ok (.ifCond .eq 28, 3) := by decide +kernel
theorem dX8_constantBit_38 : decode cX8_constantBit 38 = .ok (.aload_n 0, 1) := by decide +kernel
theorem dX8_constantBit_39 : decode cX8_constantBit 39 = .ok (.getfield 9, 3) := by decide +kernel
theorem dX8_constantBit_42 : decode cX8_constantBit 42 = .ok (.aload_n 0, 1) := by decide +kernel
theorem dX8_constantBit_43 : decode cX8_constantBit 43 = .ok (.getfield 19, 3) := by decide +kernel
theorem dX8_constantBit_46 : decode cX8_constantBit 46 = .ok (.aload_n 0, 1) := by decide +kernel
theorem dX8_constantBit_47 : decode cX8_constantBit 47 = .ok (.getfield 36, 3) := by decide +kernel
theorem dX8_constantBit_50 : decode cX8_constantBit 50 = .ok (.iaload, 1) := by decide +kernel
theorem dX8_constantBit_51 : decode cX8_constantBit 51 = .ok (.iload_n 1, 1) := by decide +kernel
theorem dX8_constantBit_52 : decode cX8_constantBit 52 = .ok (.iadd, 1) := by decide +kernel
theorem dX8_constantBit_53 : decode cX8_constantBit 53 = .ok (.caload, 1) := by decide +kernel
theorem dX8_constantBit_54 : decode cX8_constantBit 54 = .ok (.bipush 49, 2) := by decide +kernel
theorem dX8_constantBit_56 : decode cX8_constantBit 56 = .ok (.if_icmp .ne 7, 3) := by decide +kernel
theorem dX8_constantBit_59 : decode cX8_constantBit 59 = .ok (.iconst 1, 1) := by decide +kernel
theorem dX8_constantBit_60 : decode cX8_constantBit 60 = .ok (.goto 4, 3) := by decide +kernel
theorem dX8_constantBit_63 : decode cX8_constantBit 63 = .ok (.iconst 0, 1) := by decide +kernel
theorem dX8_constantBit_64 : decode cX8_constantBit 64 = .ok (.ireturn, 1) := by decide +kernel
theorem dX8_kindOfWord_0 : decode cX8_kindOfWord 0 = .ok (.iload_n 2, 1) := by decide +kernel
theorem dX8_kindOfWord_1 : decode cX8_kindOfWord 1 = .ok (.iconst 1, 1) := by decide +kernel
theorem dX8_kindOfWord_2 : decode cX8_kindOfWord 2 = .ok (.if_icmp .ne 18, 3) := by decide +kernel
theorem dX8_kindOfWord_5 : decode cX8_kindOfWord 5 = .ok (.aload_n 0, 1) := by decide +kernel
theorem dX8_kindOfWord_6 : decode cX8_kindOfWord 6 = .ok (.getfield 9, 3) := by decide +kernel
theorem dX8_kindOfWord_9 : decode cX8_kindOfWord 9 = .ok (.iload_n 1, 1) := by decide +kernel
theorem dX8_kindOfWord_10 : decode cX8_kindOfWord 10 = .ok (.caload, 1) := by decide +kernel
theorem dX8_kindOfWord_11 : decode cX8_kindOfWord 11 = .ok (.bipush 105, 2) := by decide +kernel
theorem dX8_kindOfWord_13 : decode cX8_kindOfWord 13 = .ok (.if_icmp .ge 7, 3) := by decide +kernel
theorem dX8_kindOfWord_16 : decode cX8_kindOfWord 16 = .ok (.sipush 258, 3) := by decide +kernel
theorem dX8_kindOfWord_19 : decode cX8_kindOfWord 19 = .ok (.ireturn, 1) := by decide +kernel
theorem dX8_kindOfWord_20 : decode cX8_kindOfWord 20 = .ok (.aload_n 0, 1) := by decide +kernel
theorem dX8_kindOfWord_21 : decode cX8_kindOfWord 21 = .ok (.iload_n 1, 1) := by decide +kernel
theorem dX8_kindOfWord_22 : decode cX8_kindOfWord 22 = .ok (.iload_n 2, 1) := by decide +kernel
theorem dX8_kindOfWord_23 : decode cX8_kindOfWord 23 = .ok (.ldc 47, 2) := by decide +kernel
theorem dX8_kindOfWord_25 : decode cX8_kindOfWord 25 = .ok (.invokevirtual 49, 3) := by decide +kernel
theorem dX8_kindOfWord_28 : decode cX8_kindOfWord 28 = .ok (.ifCond .eq 7, 3) := by decide +kernel
theorem dX8_kindOfWord_31 : decode cX8_kindOfWord 31 = .ok (.sipush 259, 3) := by decide +kernel
theorem dX8_kindOfWord_34 : decode cX8_kindOfWord 34 = .ok (.ireturn, 1) := by decide +kernel
theorem dX8_kindOfWord_35 : decode cX8_kindOfWord 35 = .ok (.aload_n 0, 1) := by decide +kernel
theorem dX8_kindOfWord_36 : decode cX8_kindOfWord 36 = .ok (.iload_n 1, 1) := by decide +kernel
theorem dX8_kindOfWord_37 : decode cX8_kindOfWord 37 = .ok (.iload_n 2, 1) := by decide +kernel
theorem dX8_kindOfWord_38 : decode cX8_kindOfWord 38 = .ok (.ldc 53, 2) := by decide +kernel
theorem dX8_kindOfWord_40 : decode cX8_kindOfWord 40 = .ok (.invokevirtual 49, 3) := by decide +kernel
theorem dX8_kindOfWord_43 : decode cX8_kindOfWord 43 = .ok (.ifCond .eq 9, 3) := by decide +kernel
theorem dX8_kindOfWord_46 : decode cX8_kindOfWord 46 = .ok (.sipush 260, 3) := by decide +kernel
theorem dX8_kindOfWord_49 : decode cX8_kindOfWord 49 = .ok (.goto 6, 3) := by decide +kernel
theorem dX8_kindOfWord_52 : decode cX8_kindOfWord 52 = .ok (.sipush 256, 3) := by decide +kernel
theorem dX8_kindOfWord_55 : decode cX8_kindOfWord 55 = .ok (.ireturn, 1) := by decide +kernel
theorem dX8_isWord_0 : decode cX8_isWord 0 = .ok (.iload_n 2, 1) := by decide +kernel
theorem dX8_isWord_1 : decode cX8_isWord 1 = .ok (.aload_n 3, 1) := by decide +kernel
theorem dX8_isWord_2 : decode cX8_isWord 2 = .ok (.invokevirtual 55, 3) := by decide +kernel
theorem dX8_isWord_5 : decode cX8_isWord 5 = .ok (.if_icmp .eq 5, 3) := by decide +kernel
theorem dX8_isWord_8 : decode cX8_isWord 8 = .ok (.iconst 0, 1) := by decide +kernel
theorem dX8_isWord_9 : decode cX8_isWord 9 = .ok (.ireturn, 1) := by decide +kernel
theorem dX8_isWord_10 : decode cX8_isWord 10 = .ok (.iconst 0, 1) := by decide +kernel
theorem dX8_isWord_11 : decode cX8_isWord 11 = .ok (.istore 4, 2) := by decide +kernel
theorem dX8_isWord_13 : decode cX8_isWord 13 = .ok (.iload 4, 2) := by decide +kernel
theorem dX8_isWord_15 : decode cX8_isWord 15 = .ok (.iload_n 2, 1) := by decide +kernel
theorem dX8_isWord_16 : decode cX8_isWord 16 = .ok (.if_icmp .ge 29, 3) := by decide +kernel
theorem dX8_isWord_19 : decode cX8_isWord 19 = .ok (.aload_n 0, 1) := by decide +kernel
theorem dX8_isWord_20 : decode cX8_isWord 20 = .ok (.getfield 9, 3) := by decide +kernel
theorem dX8_isWord_23 : decode cX8_isWord 23 = .ok (.iload_n 1, 1) := by decide +kernel
theorem dX8_isWord_24 : decode cX8_isWord 24 = .ok (.iload 4, 2) := by decide +kernel
theorem dX8_isWord_26 : decode cX8_isWord 26 = .ok (.iadd, 1) := by decide +kernel
theorem dX8_isWord_27 : decode cX8_isWord 27 = .ok (.caload, 1) := by decide +kernel
theorem dX8_isWord_28 : decode cX8_isWord 28 = .ok (.aload_n 3, 1) := by decide +kernel
theorem dX8_isWord_29 : decode cX8_isWord 29 = .ok (.iload 4, 2) := by decide +kernel
theorem dX8_isWord_31 : decode cX8_isWord 31 = .ok (.invokevirtual 60, 3) := by decide +kernel
theorem dX8_isWord_34 : decode cX8_isWord 34 = .ok (.if_icmp .eq 5, 3) := by decide +kernel
theorem dX8_isWord_37 : decode cX8_isWord 37 = .ok (.iconst 0, 1) := by decide +kernel
theorem dX8_isWord_38 : decode cX8_isWord 38 = .ok (.ireturn, 1) := by decide +kernel
theorem dX8_isWord_39 : decode cX8_isWord 39 = .ok (.iinc 4 1, 3) := by decide +kernel
theorem dX8_isWord_42 : decode cX8_isWord 42 = .ok (.goto (-29), 3) := by decide +kernel
theorem dX8_isWord_45 : decode cX8_isWord 45 = .ok (.iconst 1, 1) := by decide +kernel
theorem dX8_isWord_46 : decode cX8_isWord 46 = .ok (.ireturn, 1) := by decide +kernel
theorem dX8_kindOfSign_0 : decode cX8_kindOfSign 0 = .ok (.iload_n 0, 1) := by decide +kernel
theorem dX8_kindOfSign_1 : decode cX8_kindOfSign 1 = .ok (.bipush 97, 2) := by decide +kernel
theorem dX8_kindOfSign_3 : decode cX8_kindOfSign 3 = .ok (.if_icmp .lt 13, 3) := by decide +kernel
theorem dX8_kindOfSign_6 : decode cX8_kindOfSign 6 = .ok (.iload_n 0, 1) := by decide +kernel
theorem dX8_kindOfSign_7 : decode cX8_kindOfSign 7 = .ok (.bipush 122, 2) := by decide +kernel
theorem dX8_kindOfSign_9 : decode cX8_kindOfSign 9 = .ok (.if_icmp .gt 7, 3) := by decide +kernel
theorem dX8_kindOfSign_12 : decode cX8_kindOfSign 12 = .ok (.sipush 256, 3) := by decide +kernel
theorem dX8_kindOfSign_15 : decode cX8_kindOfSign 15 = .ok (.ireturn, 1) := by decide +kernel
theorem dX8_kindOfSign_16 : decode cX8_kindOfSign 16 = .ok (.iload_n 0, 1) := by decide +kernel
theorem dX8_kindOfSign_17 : decode cX8_kindOfSign 17 = .ok (.bipush 48, 2) := by decide +kernel
theorem dX8_kindOfSign_19 : decode cX8_kindOfSign 19 = .ok (.if_icmp .lt 15, 3) := by decide +kernel
theorem dX8_kindOfSign_22 : decode cX8_kindOfSign 22 = .ok (.iload_n 0, 1) := by decide +kernel
theorem dX8_kindOfSign_23 : decode cX8_kindOfSign 23 = .ok (.bipush 57, 2) := by decide +kernel
theorem dX8_kindOfSign_25 : decode cX8_kindOfSign 25 = .ok (.if_icmp .gt 9, 3) := by decide +kernel
theorem dX8_kindOfSign_28 : decode cX8_kindOfSign 28 = .ok (.sipush 257, 3) := by decide +kernel
theorem dX8_kindOfSign_31 : decode cX8_kindOfSign 31 = .ok (.goto 4, 3) := by decide +kernel
theorem dX8_kindOfSign_34 : decode cX8_kindOfSign 34 = .ok (.iload_n 0, 1) := by decide +kernel
theorem dX8_kindOfSign_35 : decode cX8_kindOfSign 35 = .ok (.ireturn, 1) := by decide +kernel
theorem dX9_init_0 : decode cX9_init 0 = .ok (.aload_n 0, 1) := by decide +kernel
theorem dX9_init_1 : decode cX9_init 1 = .ok (.invokespecial 3, 3) := by decide +kernel
theorem dX9_init_4 : decode cX9_init 4 = .ok (.aload_n 0, 1) := by decide +kernel
theorem dX9_init_5 : decode cX9_init 5 = .ok (.new 9, 3) := by decide +kernel
theorem dX9_init_8 : decode cX9_init 8 = .ok (.dup, 1) := by decide +kernel
theorem dX9_init_9 : decode cX9_init 9 = .ok (.invokespecial 11, 3) := by decide +kernel
theorem dX9_init_12 : decode cX9_init 12 = .ok (.putfield 12, 3) := by decide +kernel
theorem dX9_init_15 : decode cX9_init 15 = .ok (.aload_n 0, 1) := by decide +kernel
theorem dX9_init_16 : decode cX9_init 16 = .ok (.new 16, 3) := by decide +kernel
theorem dX9_init_19 : decode cX9_init 19 = .ok (.dup, 1) := by decide +kernel
theorem dX9_init_20 : decode cX9_init 20 = .ok (.aload_n 0, 1) := by decide +kernel
theorem dX9_init_21 : decode cX9_init 21 = .ok (.getfield 12, 3) := by decide +kernel
theorem dX9_init_24 : decode cX9_init 24 = .ok (.invokespecial 18, 3) := by decide +kernel
theorem dX9_init_27 : decode cX9_init 27 = .ok (.putfield 21, 3) := by decide +kernel
theorem dX9_init_30 : decode cX9_init 30 = .ok (.aload_n 0, 1) := by decide +kernel
theorem dX9_init_31 : decode cX9_init 31 = .ok (.new 25, 3) := by decide +kernel
theorem dX9_init_34 : decode cX9_init 34 = .ok (.dup, 1) := by decide +kernel
theorem dX9_init_35 : decode cX9_init 35 = .ok (.invokespecial 27, 3) := by decide +kernel
theorem dX9_init_38 : decode cX9_init 38 = .ok (.putfield 28, 3) := by decide +kernel
theorem dX9_init_41 : decode cX9_init 41 = .ok (.aload_n 0, 1) := by decide +kernel
theorem dX9_init_42 : decode cX9_init 42 = .ok (.new 25, 3) := by decide +kernel
theorem dX9_init_45 : decode cX9_init 45 = .ok (.dup, 1) := by decide +kernel
theorem dX9_init_46 : decode cX9_init 46 = .ok (.invokespecial 27, 3) := by decide +kernel
theorem dX9_init_49 : decode cX9_init 49 = .ok (.putfield 32, 3) := by decide +kernel
theorem dX9_init_52 : decode cX9_init 52 = .ok (.aload_n 0, 1) := by decide +kernel
theorem dX9_init_53 : decode cX9_init 53 = .ok (.new 35, 3) := by decide +kernel
theorem dX9_init_56 : decode cX9_init 56 = .ok (.dup, 1) := by decide +kernel
theorem dX9_init_57 : decode cX9_init 57 = .ok (.invokespecial 37, 3) := by decide +kernel
theorem dX9_init_60 : decode cX9_init 60 = .ok (.putfield 38, 3) := by decide +kernel
theorem dX9_init_63 : decode cX9_init 63 = .ok (.aload_n 0, 1) := by decide +kernel
theorem dX9_init_64 : decode cX9_init 64 = .ok (.new 25, 3) := by decide +kernel
theorem dX9_init_67 : decode cX9_init 67 = .ok (.dup, 1) := by decide +kernel
theorem dX9_init_68 : decode cX9_init 68 = .ok (.invokespecial 27, 3) := by decide +kernel
theorem dX9_init_71 : decode cX9_init 71 = .ok (.putfield 42, 3) := by decide +kernel
theorem dX9_init_74 : decode cX9_init 74 = .ok (.aload_n 0, 1) := by decide +kernel
theorem dX9_init_75 : decode cX9_init 75 = .ok (.new 25, 3) := by decide +kernel
theorem dX9_init_78 : decode cX9_init 78 = .ok (.dup, 1) := by decide +kernel
theorem dX9_init_79 : decode cX9_init 79 = .ok (.invokespecial 27, 3) := by decide +kernel
theorem dX9_init_82 : decode cX9_init 82 = .ok (.putfield 45, 3) := by decide +kernel
theorem dX9_init_85 : decode cX9_init 85 = .ok (.aload_n 0, 1) := by decide +kernel
theorem dX9_init_86 : decode cX9_init 86 = .ok (.new 48, 3) := by decide +kernel
theorem dX9_init_89 : decode cX9_init 89 = .ok (.dup, 1) := by decide +kernel
theorem dX9_init_90 : decode cX9_init 90 = .ok (.invokespecial 50, 3) := by decide +kernel
theorem dX9_init_93 : decode cX9_init 93 = .ok (.putfield 51, 3) := by decide +kernel
theorem dX9_init_96 : decode cX9_init 96 = .ok (.aload_n 0, 1) := by decide +kernel
theorem dX9_init_97 : decode cX9_init 97 = .ok (.new 55, 3) := by decide +kernel
theorem dX9_init_100 : decode cX9_init 100 = .ok (.dup, 1) := by decide +kernel
theorem dX9_init_101 : decode cX9_init 101 = .ok (.invokespecial 57, 3) := by decide +kernel
theorem dX9_init_104 : decode cX9_init 104 = .ok (.putfield 58, 3) := by decide +kernel
theorem dX9_init_107 : decode cX9_init 107 = .ok (.aload_n 0, 1) := by decide +kernel
theorem dX9_init_108 : decode cX9_init 108 = .ok (.new 55, 3) := by decide +kernel
theorem dX9_init_111 : decode cX9_init 111 = .ok (.dup, 1) := by decide +kernel
theorem dX9_init_112 : decode cX9_init 112 = .ok (.invokespecial 57, 3) := by decide +kernel
theorem dX9_init_115 : decode cX9_init 115 = .ok (.putfield 62, 3) := by decide +kernel
theorem dX9_init_118 : decode cX9_init 118 = .ok (.aload_n 0, 1) := by decide +kernel
theorem dX9_init_119 : decode cX9_init 119 = .ok (.new 65, 3) := by decide +kernel
theorem dX9_init_122 : decode cX9_init 122 = .ok (.dup, 1) := by decide +kernel
theorem dX9_init_123 : decode cX9_init 123 = .ok (.invokespecial 67, 3) := by decide +kernel
theorem dX9_init_126 : decode cX9_init 126 = .ok (.putfield 68, 3) := by decide +kernel
theorem dX9_init_129 : decode cX9_init 129 = .ok (.aload_n 0, 1) := by decide +kernel
theorem dX9_init_130 : decode cX9_init 130 = .ok (.iconst 0, 1) := by decide +kernel
theorem dX9_init_131 : decode cX9_init 131 = .ok (.putfield 72, 3) := by decide +kernel
theorem dX9_init_134 : decode cX9_init 134 = .ok (.aload_n 0, 1) := by decide +kernel
theorem dX9_init_135 : decode cX9_init 135 = .ok (.iconst 0, 1) := by decide +kernel
theorem dX9_init_136 : decode cX9_init 136 = .ok (.putfield 76, 3) := by decide +kernel
theorem dX9_init_139 : decode cX9_init 139 = .ok (.return_, 1) := by decide +kernel
theorem dX9_append_0 : decode cX9_append 0 = .ok (.iload_n 1, 1) := by decide +kernel
theorem dX9_append_1 : decode cX9_append 1 = .ok (.ifCond .lt 10, 3) := by decide +kernel
theorem dX9_append_4 : decode cX9_append 4 = .ok (.iload_n 1, 1) := by decide +kernel
theorem dX9_append_5 : decode cX9_append 5 = .ok (.sipush 255, 3) := by decide +kernel
theorem dX9_append_8 : decode cX9_append 8 = .ok (.if_icmp .le 5, 3) := by decide +kernel
theorem dX9_append_11 : decode cX9_append 11 = .ok (.iconst (-1), 1) := by decide +kernel
theorem dX9_append_12 : decode cX9_append 12 = .ok (.ireturn, 1) := by decide +kernel
theorem dX9_append_13 : decode cX9_append 13 = .ok (.aload_n 0, 1) := by decide +kernel
theorem dX9_append_14 : decode cX9_append 14 = .ok (.getfield 12, 3) := by decide +kernel
theorem dX9_append_17 : decode cX9_append 17 = .ok (.invokevirtual 80, 3) := by decide +kernel
theorem dX9_append_20 : decode cX9_append 20 = .ok (.ifCond .eq 6, 3) := by decide +kernel
theorem dX9_append_23 : decode cX9_append 23 = .ok (.bipush (-3), 2) := by decide +kernel
theorem dX9_append_25 : decode cX9_append 25 = .ok (.ireturn, 1) := by decide +kernel
theorem dX9_append_26 : decode cX9_append 26 = .ok (.aload_n 0, 1) := by decide +kernel
theorem dX9_append_27 : decode cX9_append 27 = .ok (.getfield 12, 3) := by decide +kernel
theorem dX9_append_30 : decode cX9_append 30 = .ok (.iload_n 1, 1) := by decide +kernel
theorem dX9_append_31 : decode cX9_append 31 = .ok (.i2c, 1) := by decide +kernel
theorem dX9_append_32 : decode cX9_append 32 = .ok (.invokevirtual 84, 3) := by decide +kernel
theorem dX9_append_35 : decode cX9_append 35 = .ok (.aload_n 0, 1) := by decide +kernel
theorem dX9_append_36 : decode cX9_append 36 = .ok (.getfield 12, 3) := by decide +kernel
theorem dX9_append_39 : decode cX9_append 39 = .ok (.invokevirtual 88, 3) := by decide +kernel
theorem dX9_append_42 : decode cX9_append 42 = .ok (.ireturn, 1) := by decide +kernel
theorem dX9_clearText_0 : decode cX9_clearText 0 = .ok (.aload_n 0, 1) := by decide +kernel
theorem dX9_clearText_1 : decode cX9_clearText 1 = .ok (.getfield 12, 3) := by decide +kernel
theorem dX9_clearText_4 : decode cX9_clearText 4 = .ok (.invokevirtual 88, 3) := by decide +kernel
theorem dX9_clearText_7 : decode cX9_clearText 7 = .ok (.istore_n 1, 1) := by decide +kernel
theorem dX9_clearText_8 : decode cX9_clearText 8 = .ok (.aload_n 0, 1) := by decide +kernel
theorem dX9_clearText_9 : decode cX9_clearText 9 = .ok (.getfield 12, 3) := by decide +kernel
theorem dX9_clearText_12 : decode cX9_clearText 12 = .ok (.invokevirtual 92, 3) := by decide +kernel
theorem dX9_clearText_15 : decode cX9_clearText 15 = .ok (.iload_n 1, 1) := by decide +kernel
theorem dX9_clearText_16 : decode cX9_clearText 16 = .ok (.ireturn, 1) := by decide +kernel
theorem dX9_load_0 : decode cX9_load 0 = .ok (.aload_n 0, 1) := by decide +kernel
theorem dX9_load_1 : decode cX9_load 1 = .ok (.getfield 21, 3) := by decide +kernel
theorem dX9_load_4 : decode cX9_load 4 = .ok (.aload_n 0, 1) := by decide +kernel
theorem dX9_load_5 : decode cX9_load 5 = .ok (.getfield 32, 3) := by decide +kernel
theorem dX9_load_8 : decode cX9_load 8 = .ok (.invokevirtual 95, 3) := by decide +kernel
theorem dX9_load_11 : decode cX9_load 11 = .ok (.istore_n 1, 1) := by decide +kernel
theorem dX9_load_12 : decode cX9_load 12 = .ok (.iload_n 1, 1) := by decide +kernel
theorem dX9_load_13 : decode cX9_load 13 = .ok (.bipush (-9), 2) := by decide +kernel
theorem dX9_load_15 : decode cX9_load 15 = .ok (.if_icmp .eq 8, 3) := by decide +kernel
theorem dX9_load_18 : decode cX9_load 18 = .ok (.bipush (-10), 2) := by decide +kernel
theorem dX9_load_20 : decode cX9_load 20 = .ok (.iload_n 1, 1) := by decide +kernel
theorem dX9_load_21 : decode cX9_load 21 = .ok (.isub, 1) := by decide +kernel
theorem dX9_load_22 : decode cX9_load 22 = .ok (.ireturn, 1) := by decide +kernel
theorem dX9_load_23 : decode cX9_load 23 = .ok (.aload_n 0, 1) := by decide +kernel
theorem dX9_load_24 : decode cX9_load 24 = .ok (.getfield 38, 3) := by decide +kernel
theorem dX9_load_27 : decode cX9_load 27 = .ok (.aload_n 0, 1) := by decide +kernel
theorem dX9_load_28 : decode cX9_load 28 = .ok (.getfield 28, 3) := by decide +kernel
theorem dX9_load_31 : decode cX9_load 31 = .ok (.invokevirtual 99, 3) := by decide +kernel
theorem dX9_load_34 : decode cX9_load 34 = .ok (.aload_n 0, 1) := by decide +kernel
theorem dX9_load_35 : decode cX9_load 35 = .ok (.getfield 28, 3) := by decide +kernel
theorem dX9_load_38 : decode cX9_load 38 = .ok (.aload_n 0, 1) := by decide +kernel
theorem dX9_load_39 : decode cX9_load 39 = .ok (.getfield 32, 3) := by decide +kernel
theorem dX9_load_42 : decode cX9_load 42 = .ok (.invokevirtual 103, 3) := by decide +kernel
theorem dX9_load_45 : decode cX9_load 45 = .ok (.aload_n 0, 1) := by decide +kernel
theorem dX9_load_46 : decode cX9_load 46 = .ok (.getfield 12, 3) := by decide +kernel
theorem dX9_load_49 : decode cX9_load 49 = .ok (.invokevirtual 92, 3) := by decide +kernel
theorem dX9_load_52 : decode cX9_load 52 = .ok (.aload_n 0, 1) := by decide +kernel
theorem dX9_load_53 : decode cX9_load 53 = .ok (.invokevirtual 106, 3) := by decide +kernel
theorem dX9_load_56 : decode cX9_load 56 = .ok (.aload_n 0, 1) := by decide +kernel
theorem dX9_load_57 : decode cX9_load 57 = .ok (.getfield 28, 3) := by decide +kernel
theorem dX9_load_60 : decode cX9_load 60 = .ok (.invokevirtual 109, 3) := by decide +kernel
theorem dX9_load_63 : decode cX9_load 63 = .ok (.ireturn, 1) := by decide +kernel
theorem dX9_removeEquation_0 : decode cX9_removeEquation 0 = .ok (.aload_n 0, 1) := by decide +kernel
theorem dX9_removeEquation_1 : decode cX9_removeEquation 1 = .ok (.getfield 28, 3) := by decide +kernel
theorem dX9_removeEquation_4 : decode cX9_removeEquation 4 = .ok (.getfield 112, 3) := by decide +kernel
theorem dX9_removeEquation_7 : decode cX9_removeEquation 7 = .ok (.iload_n 1, 1) := by decide +kernel
theorem dX9_removeEquation_8 : decode cX9_removeEquation 8 = .ok (.invokevirtual 116, 3) := by decide +kernel
theorem dX9_removeEquation_11 : decode cX9_removeEquation 11 = .ok (.ifCond .ne 5, 3) := by decide +kernel
theorem dX9_removeEquation_14 : decode cX9_removeEquation 14 = .ok (.iconst (-1), 1) := by decide +kernel
theorem dX9_removeEquation_15 : decode cX9_removeEquation 15 = .ok (.ireturn, 1) := by decide +kernel
theorem dX9_removeEquation_16 : decode cX9_removeEquation 16 = .ok (.aload_n 0, 1) := by decide +kernel
theorem dX9_removeEquation_17 : decode cX9_removeEquation 17 = .ok (.getfield 38, 3) := by decide +kernel
theorem dX9_removeEquation_20 : decode cX9_removeEquation 20 = .ok (.aload_n 0, 1) := by decide +kernel
theorem dX9_removeEquation_21 : decode cX9_removeEquation 21 = .ok (.getfield 28, 3) := by decide +kernel
theorem dX9_removeEquation_24 : decode cX9_removeEquation 24 = .ok (.invokevirtual 99, 3) := by decide +kernel
theorem dX9_removeEquation_27 : decode cX9_removeEquation 27 = .ok (.aload_n 0, 1) := by decide +kernel
theorem dX9_removeEquation_28 : decode cX9_removeEquation 28 = .ok (.getfield 28, 3) := by decide +kernel
theorem dX9_removeEquation_31 : decode cX9_removeEquation 31 = .ok (.getfield 112, 3) := by decide +kernel
theorem dX9_removeEquation_34 : decode cX9_removeEquation 34 = .ok (.iload_n 1, 1) := by decide +kernel
theorem dX9_removeEquation_35 : decode cX9_removeEquation 35 = .ok (.invokevirtual 122, 3) := by decide +kernel
theorem dX9_removeEquation_38 : decode cX9_removeEquation 38 = .ok (.aload_n 0, 1) := by decide +kernel
theorem dX9_removeEquation_39 : decode cX9_removeEquation 39 = .ok (.invokevirtual 106, 3) := by decide +kernel
theorem dX9_removeEquation_42 : decode cX9_removeEquation 42 = .ok (.aload_n 0, 1) := by decide +kernel
theorem dX9_removeEquation_43 : decode cX9_removeEquation 43 = .ok (.getfield 28, 3) := by decide +kernel
theorem dX9_removeEquation_46 : decode cX9_removeEquation 46 = .ok (.getfield 112, 3) := by decide +kernel
theorem dX9_removeEquation_49 : decode cX9_removeEquation 49 = .ok (.invokevirtual 126, 3) := by decide +kernel
theorem dX9_removeEquation_52 : decode cX9_removeEquation 52 = .ok (.ireturn, 1) := by decide +kernel
theorem dX9_removeDisequation_0 : decode cX9_removeDisequation 0 = .ok (.aload_n 0, 1) := by decide +kernel
theorem dX9_removeDisequation_1 : decode cX9_removeDisequation 1 = .ok (.getfield 28, 3) := by decide +kernel
theorem dX9_removeDisequation_4 : decode cX9_removeDisequation 4 = .ok (.getfield 129, 3) := by decide +kernel
theorem dX9_removeDisequation_7 : decode cX9_removeDisequation 7 = .ok (.iload_n 1, 1) := by decide +kernel
theorem dX9_removeDisequation_8 : decode cX9_removeDisequation 8 = .ok (.invokevirtual 116, 3) := by decide +kernel
theorem dX9_removeDisequation_11 : decode cX9_removeDisequation 11 = .ok (.ifCond .ne 5, 3) := by decide +kernel
theorem dX9_removeDisequation_14 : decode cX9_removeDisequation 14 = .ok (.iconst (-1), 1) := by decide +kernel
theorem dX9_removeDisequation_15 : decode cX9_removeDisequation 15 = .ok (.ireturn, 1) := by decide +kernel
theorem dX9_removeDisequation_16 : decode cX9_removeDisequation 16 = .ok (.aload_n 0, 1) := by decide +kernel
theorem dX9_removeDisequation_17 : decode cX9_removeDisequation 17 = .ok (.getfield 38, 3) := by decide +kernel
theorem dX9_removeDisequation_20 : decode cX9_removeDisequation 20 = .ok (.aload_n 0, 1) := by decide +kernel
theorem dX9_removeDisequation_21 : decode cX9_removeDisequation 21 = .ok (.getfield 28, 3) := by decide +kernel
theorem dX9_removeDisequation_24 : decode cX9_removeDisequation 24 = .ok (.invokevirtual 99, 3) := by decide +kernel
theorem dX9_removeDisequation_27 : decode cX9_removeDisequation 27 = .ok (.aload_n 0, 1) := by decide +kernel
theorem dX9_removeDisequation_28 : decode cX9_removeDisequation 28 = .ok (.getfield 28, 3) := by decide +kernel
theorem dX9_removeDisequation_31 : decode cX9_removeDisequation 31 = .ok (.getfield 129, 3) := by decide +kernel
theorem dX9_removeDisequation_34 : decode cX9_removeDisequation 34 = .ok (.iload_n 1, 1) := by decide +kernel
theorem dX9_removeDisequation_35 : decode cX9_removeDisequation 35 = .ok (.invokevirtual 122, 3) := by decide +kernel
theorem dX9_removeDisequation_38 : decode cX9_removeDisequation 38 = .ok (.aload_n 0, 1) := by decide +kernel
theorem dX9_removeDisequation_39 : decode cX9_removeDisequation 39 = .ok (.invokevirtual 106, 3) := by decide +kernel
theorem dX9_removeDisequation_42 : decode cX9_removeDisequation 42 = .ok (.aload_n 0, 1) := by decide +kernel
theorem dX9_removeDisequation_43 : decode cX9_removeDisequation 43 = .ok (.getfield 28, 3) := by decide +kernel
theorem dX9_removeDisequation_46 : decode cX9_removeDisequation 46 = .ok (.getfield 129, 3) := by decide +kernel
theorem dX9_removeDisequation_49 : decode cX9_removeDisequation 49 = .ok (.invokevirtual 126, 3) := by decide +kernel
theorem dX9_removeDisequation_52 : decode cX9_removeDisequation 52 = .ok (.ireturn, 1) := by decide +kernel
theorem dX9_width_0 : decode cX9_width 0 = .ok (.iload_n 1, 1) := by decide +kernel
theorem dX9_width_1 : decode cX9_width 1 = .ok (.invokestatic 132, 3) := by decide +kernel
theorem dX9_width_4 : decode cX9_width 4 = .ok (.ifCond .eq 14, 3) := by decide +kernel
theorem dX9_width_7 : decode cX9_width 7 = .ok (.aload_n 0, 1) := by decide +kernel
theorem dX9_width_8 : decode cX9_width 8 = .ok (.getfield 28, 3) := by decide +kernel
theorem dX9_width_11 : decode cX9_width 11 = .ok (.iload_n 1, 1) := by decide +kernel
theorem dX9_width_12 : decode cX9_width 12 = .ok (.invokevirtual 135, 3) := by decide +kernel
theorem dX9_width_15 : decode cX9_width 15 = .ok (.goto 4, 3) := by decide +kernel
theorem dX9_width_18 : decode cX9_width 18 = .ok (.iconst (-1), 1) := by decide +kernel
theorem dX9_width_19 : decode cX9_width 19 = .ok (.ireturn, 1) := by decide +kernel
theorem dX9_equationCount_0 : decode cX9_equationCount 0 = .ok (.aload_n 0, 1) := by decide +kernel
theorem dX9_equationCount_1 : decode cX9_equationCount 1 = .ok (.getfield 28, 3) := by decide +kernel
theorem dX9_equationCount_4 : decode cX9_equationCount 4 = .ok (.getfield 112, 3) := by decide +kernel
theorem dX9_equationCount_7 : decode cX9_equationCount 7 = .ok (.invokevirtual 126, 3) := by decide +kernel
theorem dX9_equationCount_10 : decode cX9_equationCount 10 = .ok (.ireturn, 1) := by decide +kernel
theorem dX9_disequationCount_0 : decode cX9_disequationCount 0 = .ok (.aload_n 0, 1) := by decide +kernel
theorem dX9_disequationCount_1 : decode cX9_disequationCount 1 = .ok (.getfield 28, 3) := by decide +kernel
theorem dX9_disequationCount_4 : decode cX9_disequationCount 4 = .ok (.getfield 129, 3) := by decide +kernel
theorem dX9_disequationCount_7 : decode cX9_disequationCount 7 = .ok (.invokevirtual 126, 3) := by decide +kernel
theorem dX9_disequationCount_10 : decode cX9_disequationCount 10 = .ok (.ireturn, 1) := by decide +kernel
theorem dX9_sliceCount_0 : decode cX9_sliceCount 0 = .ok (.iload_n 1, 1) := by decide +kernel
theorem dX9_sliceCount_1 : decode cX9_sliceCount 1 = .ok (.invokestatic 132, 3) := by decide +kernel
theorem dX9_sliceCount_4 : decode cX9_sliceCount 4 = .ok (.ifCond .eq 11, 3) := by decide +kernel
theorem dX9_sliceCount_7 : decode cX9_sliceCount 7 = .ok (.aload_n 0, 1) := by decide +kernel
theorem dX9_sliceCount_8 : decode cX9_sliceCount 8 = .ok (.iload_n 1, 1) := by decide +kernel
theorem dX9_sliceCount_9 : decode cX9_sliceCount 9 = .ok (.invokevirtual 139, 3) := by decide +kernel
theorem dX9_sliceCount_12 : decode cX9_sliceCount 12 = .ok (.goto 4, 3) := by decide +kernel
theorem dX9_sliceCount_15 : decode cX9_sliceCount 15 = .ok (.iconst (-1), 1) := by decide +kernel
theorem dX9_sliceCount_16 : decode cX9_sliceCount 16 = .ok (.ireturn, 1) := by decide +kernel
theorem dX9_sliceStart_0 : decode cX9_sliceStart 0 = .ok (.aload_n 0, 1) := by decide +kernel
theorem dX9_sliceStart_1 : decode cX9_sliceStart 1 = .ok (.iload_n 1, 1) := by decide +kernel
theorem dX9_sliceStart_2 : decode cX9_sliceStart 2 = .ok (.iload_n 2, 1) := by decide +kernel
theorem dX9_sliceStart_3 : decode cX9_sliceStart 3 = .ok (.invokevirtual 142, 3) := by decide +kernel
theorem dX9_sliceStart_6 : decode cX9_sliceStart 6 = .ok (.ifCond .eq 15, 3) := by decide +kernel
theorem dX9_sliceStart_9 : decode cX9_sliceStart 9 = .ok (.aload_n 0, 1) := by decide +kernel
theorem dX9_sliceStart_10 : decode cX9_sliceStart 10 = .ok (.getfield 51, 3) := by decide +kernel
theorem dX9_sliceStart_13 : decode cX9_sliceStart 13 = .ok (.iload_n 1, 1) := by decide +kernel
theorem dX9_sliceStart_14 : decode cX9_sliceStart 14 = .ok (.iload_n 2, 1) := by decide +kernel
theorem dX9_sliceStart_15 : decode cX9_sliceStart 15 = .ok (.invokevirtual 146, 3) := by decide +kernel
theorem dX9_sliceStart_18 : decode cX9_sliceStart 18 = .ok (.goto 4, 3) := by decide +kernel
theorem dX9_sliceStart_21 : decode cX9_sliceStart 21 = .ok (.iconst (-1), 1) := by decide +kernel
theorem dX9_sliceStart_22 : decode cX9_sliceStart 22 = .ok (.ireturn, 1) := by decide +kernel
theorem dX9_sliceWidth_0 : decode cX9_sliceWidth 0 = .ok (.aload_n 0, 1) := by decide +kernel
theorem dX9_sliceWidth_1 : decode cX9_sliceWidth 1 = .ok (.iload_n 1, 1) := by decide +kernel
theorem dX9_sliceWidth_2 : decode cX9_sliceWidth 2 = .ok (.iload_n 2, 1) := by decide +kernel
theorem dX9_sliceWidth_3 : decode cX9_sliceWidth 3 = .ok (.invokevirtual 142, 3) := by decide +kernel
theorem dX9_sliceWidth_6 : decode cX9_sliceWidth 6 = .ok (.ifCond .ne 5, 3) := by decide +kernel
theorem dX9_sliceWidth_9 : decode cX9_sliceWidth 9 = .ok (.iconst (-1), 1) := by decide +kernel
theorem dX9_sliceWidth_10 : decode cX9_sliceWidth 10 = .ok (.ireturn, 1) := by decide +kernel
theorem dX9_sliceWidth_11 : decode cX9_sliceWidth 11 = .ok (.iload_n 2, 1) := by decide +kernel
theorem dX9_sliceWidth_12 : decode cX9_sliceWidth 12 = .ok (.iconst 1, 1) := by decide +kernel
theorem dX9_sliceWidth_13 : decode cX9_sliceWidth 13 = .ok (.iadd, 1) := by decide +kernel
theorem dX9_sliceWidth_14 : decode cX9_sliceWidth 14 = .ok (.aload_n 0, 1) := by decide +kernel
theorem dX9_sliceWidth_15 : decode cX9_sliceWidth 15 = .ok (.iload_n 1, 1) := by decide +kernel
theorem dX9_sliceWidth_16 : decode cX9_sliceWidth 16 = .ok (.invokevirtual 139, 3) := by decide +kernel
theorem dX9_sliceWidth_19 : decode cX9_sliceWidth 19 = .ok (.if_icmp .ne 7, 3) := by decide +kernel
theorem dX9_sliceWidth_22 : decode cX9_sliceWidth 22 = .ok (.iconst 1, 1) := by decide +kernel
theorem dX9_sliceWidth_23 : decode cX9_sliceWidth 23 = .ok (.goto 4, 3) := by decide +kernel
theorem dX9_sliceWidth_26 : decode cX9_sliceWidth 26 = .ok (.iconst 0, 1) := by decide +kernel
theorem dX9_sliceWidth_27 : decode cX9_sliceWidth 27 = .ok (.istore_n 3, 1) := by decide +kernel
theorem dX9_sliceWidth_28 : decode cX9_sliceWidth 28 = .ok (.iload_n 3, 1) := by decide +kernel
theorem dX9_sliceWidth_29 : decode cX9_sliceWidth 29 = .ok (.ifCond .eq 14, 3) := by decide +kernel
theorem dX9_sliceWidth_32 : decode cX9_sliceWidth 32 = .ok (.aload_n 0, 1) := by decide +kernel
theorem dX9_sliceWidth_33 : decode cX9_sliceWidth 33 = .ok (.getfield 28, 3) := by decide +kernel
theorem dX9_sliceWidth_36 : decode cX9_sliceWidth 36 = .ok (.iload_n 1, 1) := by decide +kernel
theorem dX9_sliceWidth_37 : decode cX9_sliceWidth 37 = .ok (.invokevirtual 135, 3) := by decide +kernel
theorem dX9_sliceWidth_40 : decode cX9_sliceWidth 40 = .ok (.goto 14, 3) := by decide +kernel
theorem dX9_sliceWidth_43 : decode cX9_sliceWidth 43 = .ok (.aload_n 0, 1) := by decide +kernel
theorem dX9_sliceWidth_44 : decode cX9_sliceWidth 44 = .ok (.getfield 51, 3) := by decide +kernel
theorem dX9_sliceWidth_47 : decode cX9_sliceWidth 47 = .ok (.iload_n 1, 1) := by decide +kernel
theorem dX9_sliceWidth_48 : decode cX9_sliceWidth 48 = .ok (.iload_n 2, 1) := by decide +kernel
theorem dX9_sliceWidth_49 : decode cX9_sliceWidth 49 = .ok (.iconst 1, 1) := by decide +kernel
theorem dX9_sliceWidth_50 : decode cX9_sliceWidth 50 = .ok (.iadd, 1) := by decide +kernel
theorem dX9_sliceWidth_51 : decode cX9_sliceWidth 51 = .ok (.invokevirtual 146, 3) := by decide +kernel
theorem dX9_sliceWidth_54 : decode cX9_sliceWidth 54 = .ok (.istore 4, 2) := by decide +kernel
theorem dX9_sliceWidth_56 : decode cX9_sliceWidth 56 = .ok (.iload 4, 2) := by decide +kernel
theorem dX9_sliceWidth_58 : decode cX9_sliceWidth 58 = .ok (.aload_n 0, 1) := by decide +kernel
theorem dX9_sliceWidth_59 : decode cX9_sliceWidth 59 = .ok (.getfield 51, 3) := by decide +kernel
theorem dX9_sliceWidth_62 : decode cX9_sliceWidth 62 = .ok (.iload_n 1, 1) := by decide +kernel
theorem dX9_sliceWidth_63 : decode cX9_sliceWidth 63 = .ok (.iload_n 2, 1) := by decide +kernel
theorem dX9_sliceWidth_64 : decode cX9_sliceWidth 64 = .ok (.invokevirtual 146, 3) := by decide +kernel
theorem dX9_sliceWidth_67 : decode cX9_sliceWidth 67 = .ok (.isub, 1) := by decide +kernel
theorem dX9_sliceWidth_68 : decode cX9_sliceWidth 68 = .ok (.ireturn, 1) := by decide +kernel
theorem dX9_representative_0 : decode cX9_representative 0 = .ok (.aload_n 0, 1) := by decide +kernel
theorem dX9_representative_1 : decode cX9_representative 1 = .ok (.iload_n 1, 1) := by decide +kernel
theorem dX9_representative_2 : decode cX9_representative 2 = .ok (.iload_n 2, 1) := by decide +kernel
theorem dX9_representative_3 : decode cX9_representative 3 = .ok (.invokevirtual 142, 3) := by decide +kernel
theorem dX9_representative_6 : decode cX9_representative 6 = .ok (.ifCond .ne 5, 3) := by decide +kernel
theorem dX9_representative_9 : decode cX9_representative 9 = .ok (.iconst (-1), 1) := by decide +kernel
theorem dX9_representative_10 : decode cX9_representative 10 = .ok (.ireturn, 1) := by decide +kernel
theorem dX9_representative_11 : decode cX9_representative 11 = .ok (.aload_n 0, 1) := by decide +kernel
theorem dX9_representative_12 : decode cX9_representative 12 = .ok (.getfield 58, 3) := by decide +kernel
theorem dX9_representative_15 : decode cX9_representative 15 = .ok (.iload_n 1, 1) := by decide +kernel
theorem dX9_representative_16 : decode cX9_representative 16 = .ok (.aload_n 0, 1) := by decide +kernel
theorem dX9_representative_17 : decode cX9_representative 17 = .ok (.getfield 51, 3) := by decide +kernel
theorem dX9_representative_20 : decode cX9_representative 20 = .ok (.iload_n 1, 1) := by decide +kernel
theorem dX9_representative_21 : decode cX9_representative 21 = .ok (.iload_n 2, 1) := by decide +kernel
theorem dX9_representative_22 : decode cX9_representative 22 = .ok (.invokevirtual 146, 3) := by decide +kernel
theorem dX9_representative_25 : decode cX9_representative 25 = .ok (.invokestatic 150, 3) := by decide +kernel
theorem dX9_representative_28 : decode cX9_representative 28 = .ok (.invokevirtual 153, 3) := by decide +kernel
theorem dX9_representative_31 : decode cX9_representative 31 = .ok (.istore_n 3, 1) := by decide +kernel
theorem dX9_representative_32 : decode cX9_representative 32 = .ok (.iload_n 3, 1) := by decide +kernel
theorem dX9_representative_33 : decode cX9_representative 33 = .ok (.invokestatic 156, 3) := by decide +kernel
theorem dX9_representative_36 : decode cX9_representative 36 = .ok (.istore 4, 2) := by decide +kernel
theorem dX9_representative_38 : decode cX9_representative 38 = .ok (.bipush 16, 2) := by decide +kernel
theorem dX9_representative_40 : decode cX9_representative 40 = .ok (.iload 4, 2) := by decide +kernel
theorem dX9_representative_42 : decode cX9_representative 42 = .ok (.imul, 1) := by decide +kernel
theorem dX9_representative_43 : decode cX9_representative 43 = .ok (.aload_n 0, 1) := by decide +kernel
theorem dX9_representative_44 : decode cX9_representative 44 = .ok (.getfield 51, 3) := by decide +kernel
theorem dX9_representative_47 : decode cX9_representative 47 = .ok (.iload 4, 2) := by decide +kernel
theorem dX9_representative_49 : decode cX9_representative 49 = .ok (.iload_n 3, 1) := by decide +kernel
theorem dX9_representative_50 : decode cX9_representative 50 = .ok (.invokestatic 159, 3) := by decide +kernel
theorem dX9_representative_53 : decode cX9_representative 53 = .ok (.invokevirtual 162, 3) := by decide +kernel
theorem dX9_representative_56 : decode cX9_representative 56 = .ok (.iadd, 1) := by decide +kernel
theorem dX9_representative_57 : decode cX9_representative 57 = .ok (.ireturn, 1) := by decide +kernel
theorem dX9_classCount_0 : decode cX9_classCount 0 = .ok (.iconst 0, 1) := by decide +kernel
theorem dX9_classCount_1 : decode cX9_classCount 1 = .ok (.istore_n 1, 1) := by decide +kernel
theorem dX9_classCount_2 : decode cX9_classCount 2 = .ok (.iconst 0, 1) := by decide +kernel
theorem dX9_classCount_3 : decode cX9_classCount 3 = .ok (.istore_n 2, 1) := by decide +kernel
theorem dX9_classCount_4 : decode cX9_classCount 4 = .ok (.iload_n 2, 1) := by decide +kernel
theorem dX9_classCount_5 : decode cX9_classCount 5 = .ok (.bipush 8, 2) := by decide +kernel
theorem dX9_classCount_7 : decode cX9_classCount 7 = .ok (.if_icmp .ge 63, 3) := by decide +kernel
theorem dX9_classCount_10 : decode cX9_classCount 10 = .ok (.aload_n 0, 1) := by decide +kernel
theorem dX9_classCount_11 : decode cX9_classCount 11 = .ok (.iload_n 2, 1) := by decide +kernel
theorem dX9_classCount_12 : decode cX9_classCount 12 = .ok (.invokevirtual 139, 3) := by decide +kernel
theorem dX9_classCount_15 : decode cX9_classCount 15 = .ok (.istore_n 3, 1) := by decide +kernel
theorem dX9_classCount_16 : decode cX9_classCount 16 = .ok (.iconst 0, 1) := by decide +kernel
theorem dX9_classCount_17 : decode cX9_classCount 17 = .ok (.istore 4, 2) := by decide +kernel
theorem dX9_classCount_19 : decode cX9_classCount 19 = .ok (.iload 4, 2) := by decide +kernel
theorem dX9_classCount_21 : decode cX9_classCount 21 = .ok (.iload_n 3, 1) := by decide +kernel
theorem dX9_classCount_22 : decode cX9_classCount 22 = .ok (.if_icmp .ge 42, 3) := by decide +kernel
theorem dX9_classCount_25 : decode cX9_classCount 25 = .ok (.iload_n 2, 1) := by decide +kernel
theorem dX9_classCount_26 : decode cX9_classCount 26 = .ok (.aload_n 0, 1) := by decide +kernel
theorem dX9_classCount_27 : decode cX9_classCount 27 = .ok (.getfield 51, 3) := by decide +kernel
theorem dX9_classCount_30 : decode cX9_classCount 30 = .ok (.iload_n 2, 1) := by decide +kernel
theorem dX9_classCount_31 : decode cX9_classCount 31 = .ok (.iload 4, 2) := by decide +kernel
theorem dX9_classCount_33 : decode cX9_classCount 33 = .ok (.invokevirtual 146, 3) := by decide +kernel
theorem dX9_classCount_36 : decode cX9_classCount 36 = .ok (.invokestatic 150, 3) := by decide +kernel
theorem dX9_classCount_39 : decode cX9_classCount 39 = .ok (.istore 5, 2) := by decide +kernel
theorem dX9_classCount_41 : decode cX9_classCount 41 = .ok (.aload_n 0, 1) := by decide +kernel
theorem dX9_classCount_42 : decode cX9_classCount 42 = .ok (.getfield 58, 3) := by decide +kernel
theorem dX9_classCount_45 : decode cX9_classCount 45 = .ok (.iload 5, 2) := by decide +kernel
theorem dX9_classCount_47 : decode cX9_classCount 47 = .ok (.invokevirtual 153, 3) := by decide +kernel
theorem dX9_classCount_50 : decode cX9_classCount 50 = .ok (.iload 5, 2) := by decide +kernel
theorem dX9_classCount_52 : decode cX9_classCount 52 = .ok (.if_icmp .ne 6, 3) := by decide +kernel
theorem dX9_classCount_55 : decode cX9_classCount 55 = .ok (.iinc 1 1, 3) := by decide +kernel
theorem dX9_classCount_58 : decode cX9_classCount 58 = .ok (.iinc 4 1, 3) := by decide +kernel
theorem dX9_classCount_61 : decode cX9_classCount 61 = .ok (.goto (-42), 3) := by decide +kernel
theorem dX9_classCount_64 : decode cX9_classCount 64 = .ok (.iinc 2 1, 3) := by decide +kernel
theorem dX9_classCount_67 : decode cX9_classCount 67 = .ok (.goto (-63), 3) := by decide +kernel
theorem dX9_classCount_70 : decode cX9_classCount 70 = .ok (.iload_n 1, 1) := by decide +kernel
theorem dX9_classCount_71 : decode cX9_classCount 71 = .ok (.ireturn, 1) := by decide +kernel
theorem dX9_isConsistent_0 : decode cX9_isConsistent 0 = .ok (.aload_n 0, 1) := by decide +kernel
theorem dX9_isConsistent_1 : decode cX9_isConsistent 1 = .ok (.getfield 58, 3) := by decide +kernel
theorem dX9_isConsistent_4 : decode cX9_isConsistent 4 = .ok (.invokevirtual 165, 3) := by decide +kernel
theorem dX9_isConsistent_7 : decode cX9_isConsistent 7 = .ok (.ifCond .eq 7, 3) := by decide +kernel
theorem dX9_isConsistent_10 : decode cX9_isConsistent 10 = .ok (.iconst 1, 1) := by decide +kernel
theorem dX9_isConsistent_11 : decode cX9_isConsistent 11 = .ok (.goto 4, 3) := by decide +kernel
theorem dX9_isConsistent_14 : decode cX9_isConsistent 14 = .ok (.iconst 0, 1) := by decide +kernel
theorem dX9_isConsistent_15 : decode cX9_isConsistent 15 = .ok (.ireturn, 1) := by decide +kernel
theorem dX9_firstConflict_0 : decode cX9_firstConflict 0 = .ok (.aload_n 0, 1) := by decide +kernel
theorem dX9_firstConflict_1 : decode cX9_firstConflict 1 = .ok (.getfield 58, 3) := by decide +kernel
theorem dX9_firstConflict_4 : decode cX9_firstConflict 4 = .ok (.invokevirtual 165, 3) := by decide +kernel
theorem dX9_firstConflict_7 : decode cX9_firstConflict 7 = .ok (.ifCond .eq 6, 3) := by decide +kernel
theorem dX9_firstConflict_10 : decode cX9_firstConflict 10 = .ok (.bipush (-9), 2) := by decide +kernel
theorem dX9_firstConflict_12 : decode cX9_firstConflict 12 = .ok (.ireturn, 1) := by decide +kernel
theorem dX9_firstConflict_13 : decode cX9_firstConflict 13 = .ok (.aload_n 0, 1) := by decide +kernel
theorem dX9_firstConflict_14 : decode cX9_firstConflict 14 = .ok (.getfield 62, 3) := by decide +kernel
theorem dX9_firstConflict_17 : decode cX9_firstConflict 17 = .ok (.invokevirtual 168, 3) := by decide +kernel
theorem dX9_firstConflict_20 : decode cX9_firstConflict 20 = .ok (.iconst 0, 1) := by decide +kernel
theorem dX9_firstConflict_21 : decode cX9_firstConflict 21 = .ok (.istore_n 1, 1) := by decide +kernel
theorem dX9_firstConflict_22 : decode cX9_firstConflict 22 = .ok (.iload_n 1, 1) := by decide +kernel
theorem dX9_firstConflict_23 : decode cX9_firstConflict 23 = .ok (.aload_n 0, 1) := by decide +kernel
theorem dX9_firstConflict_24 : decode cX9_firstConflict 24 = .ok (.getfield 28, 3) := by decide +kernel
theorem dX9_firstConflict_27 : decode cX9_firstConflict 27 = .ok (.getfield 112, 3) := by decide +kernel
theorem dX9_firstConflict_30 : decode cX9_firstConflict 30 = .ok (.invokevirtual 126, 3) := by decide +kernel
theorem dX9_firstConflict_33 : decode cX9_firstConflict 33 = .ok (.if_icmp .ge 36, 3) := by decide +kernel
theorem dX9_firstConflict_36 : decode cX9_firstConflict 36 = .ok (.aload_n 0, 1) := by decide +kernel
theorem dX9_firstConflict_37 : decode cX9_firstConflict 37 = .ok (.getfield 62, 3) := by decide +kernel
theorem dX9_firstConflict_40 : decode cX9_firstConflict 40 = .ok (.aload_n 0, 1) := by decide +kernel
theorem dX9_firstConflict_41 : decode cX9_firstConflict 41 = .ok (.getfield 28, 3) := by decide +kernel
theorem dX9_firstConflict_44 : decode cX9_firstConflict 44 = .ok (.getfield 112, 3) := by decide +kernel
theorem dX9_firstConflict_47 : decode cX9_firstConflict 47 = .ok (.iload_n 1, 1) := by decide +kernel
theorem dX9_firstConflict_48 : decode cX9_firstConflict 48 = .ok (.invokevirtual 169, 3) := by decide +kernel
theorem dX9_firstConflict_51 : decode cX9_firstConflict 51 = .ok (.aload_n 0, 1) := by decide +kernel
theorem dX9_firstConflict_52 : decode cX9_firstConflict 52 = .ok (.getfield 62, 3) := by decide +kernel
theorem dX9_firstConflict_55 : decode cX9_firstConflict 55 = .ok (.invokevirtual 165, 3) := by decide +kernel
theorem dX9_firstConflict_58 : decode cX9_firstConflict 58 = .ok (.ifCond .ne 5, 3) := by decide +kernel
theorem dX9_firstConflict_61 : decode cX9_firstConflict 61 = .ok (.iload_n 1, 1) := by decide +kernel
theorem dX9_firstConflict_62 : decode cX9_firstConflict 62 = .ok (.ireturn, 1) := by decide +kernel
theorem dX9_firstConflict_63 : decode cX9_firstConflict 63 = .ok (.iinc 1 1, 3) := by decide +kernel
theorem dX9_firstConflict_66 : decode cX9_firstConflict 66 = .ok (.goto (-44), 3) := by decide +kernel
theorem dX9_firstConflict_69 : decode cX9_firstConflict 69 = .ok (.bipush (-9), 2) := by decide +kernel
theorem dX9_firstConflict_71 : decode cX9_firstConflict 71 = .ok (.ireturn, 1) := by decide +kernel
theorem dX9_conflictSet_0 : decode cX9_conflictSet 0 = .ok (.aload_n 0, 1) := by decide +kernel
theorem dX9_conflictSet_1 : decode cX9_conflictSet 1 = .ok (.getfield 58, 3) := by decide +kernel
theorem dX9_conflictSet_4 : decode cX9_conflictSet 4 = .ok (.invokevirtual 165, 3) := by decide +kernel
theorem dX9_conflictSet_7 : decode cX9_conflictSet 7 = .ok (.ifCond .eq 6, 3) := by decide +kernel
theorem dX9_conflictSet_10 : decode cX9_conflictSet 10 = .ok (.bipush (-9), 2) := by decide +kernel
theorem dX9_conflictSet_12 : decode cX9_conflictSet 12 = .ok (.ireturn, 1) := by decide +kernel
theorem dX9_conflictSet_13 : decode cX9_conflictSet 13 = .ok (.iconst 1, 1) := by decide +kernel
theorem dX9_conflictSet_14 : decode cX9_conflictSet 14 = .ok (.aload_n 0, 1) := by decide +kernel
theorem dX9_conflictSet_15 : decode cX9_conflictSet 15 = .ok (.getfield 28, 3) := by decide +kernel
theorem dX9_conflictSet_18 : decode cX9_conflictSet 18 = .ok (.getfield 112, 3) := by decide +kernel
theorem dX9_conflictSet_21 : decode cX9_conflictSet 21 = .ok (.invokevirtual 126, 3) := by decide +kernel
theorem dX9_conflictSet_24 : decode cX9_conflictSet 24 = .ok (.ishl, 1) := by decide +kernel
theorem dX9_conflictSet_25 : decode cX9_conflictSet 25 = .ok (.iconst 1, 1) := by decide +kernel
theorem dX9_conflictSet_26 : decode cX9_conflictSet 26 = .ok (.isub, 1) := by decide +kernel
theorem dX9_conflictSet_27 : decode cX9_conflictSet 27 = .ok (.istore_n 1, 1) := by decide +kernel
theorem dX9_conflictSet_28 : decode cX9_conflictSet 28 = .ok (.iconst 0, 1) := by decide +kernel
theorem dX9_conflictSet_29 : decode cX9_conflictSet 29 = .ok (.istore_n 2, 1) := by decide +kernel
theorem dX9_conflictSet_30 : decode cX9_conflictSet 30 = .ok (.iload_n 2, 1) := by decide +kernel
theorem dX9_conflictSet_31 : decode cX9_conflictSet 31 = .ok (.aload_n 0, 1) := by decide +kernel
theorem dX9_conflictSet_32 : decode cX9_conflictSet 32 = .ok (.getfield 28, 3) := by decide +kernel
theorem dX9_conflictSet_35 : decode cX9_conflictSet 35 = .ok (.getfield 112, 3) := by decide +kernel
theorem dX9_conflictSet_38 : decode cX9_conflictSet 38 = .ok (.invokevirtual 126, 3) := by decide +kernel
theorem dX9_conflictSet_41 : decode cX9_conflictSet 41 = .ok (.if_icmp .ge 34, 3) := by decide +kernel
theorem dX9_conflictSet_44 : decode cX9_conflictSet 44 = .ok (.iload_n 1, 1) := by decide +kernel
theorem dX9_conflictSet_45 : decode cX9_conflictSet 45 = .ok (.iconst 1, 1) := by decide +kernel
theorem dX9_conflictSet_46 : decode cX9_conflictSet 46 = .ok (.iload_n 2, 1) := by decide +kernel
theorem dX9_conflictSet_47 : decode cX9_conflictSet 47 = .ok (.ishl, 1) := by decide +kernel
theorem dX9_conflictSet_48 : decode cX9_conflictSet 48 = .ok (.iconst (-1), 1) := by decide +kernel
theorem dX9_conflictSet_49 : decode cX9_conflictSet 49 = .ok (.ixor, 1) := by decide +kernel
theorem dX9_conflictSet_50 : decode cX9_conflictSet 50 = .ok (.iand, 1) := by decide +kernel
theorem dX9_conflictSet_51 : decode cX9_conflictSet 51 = .ok (.istore_n 3, 1) := by decide +kernel
theorem dX9_conflictSet_52 : decode cX9_conflictSet 52 = .ok (.aload_n 0, 1) := by decide +kernel
theorem dX9_conflictSet_53 : decode cX9_conflictSet 53 = .ok (.iload_n 3, 1) := by decide +kernel
theorem dX9_conflictSet_54 : decode cX9_conflictSet 54 = .ok (.invokevirtual 173, 3) := by decide +kernel
theorem dX9_conflictSet_57 : decode cX9_conflictSet 57 = .ok (.aload_n 0, 1) := by decide +kernel
theorem dX9_conflictSet_58 : decode cX9_conflictSet 58 = .ok (.getfield 62, 3) := by decide +kernel
theorem dX9_conflictSet_61 : decode cX9_conflictSet 61 = .ok (.invokevirtual 165, 3) := by decide +kernel
theorem dX9_conflictSet_64 : decode cX9_conflictSet 64 = .ok (.ifCond .ne 5, 3) := by decide +kernel
theorem dX9_conflictSet_67 : decode cX9_conflictSet 67 = .ok (.iload_n 3, 1) := by decide +kernel
theorem dX9_conflictSet_68 : decode cX9_conflictSet 68 = .ok (.istore_n 1, 1) := by decide +kernel
theorem dX9_conflictSet_69 : decode cX9_conflictSet 69 = .ok (.iinc 2 1, 3) := by decide +kernel
theorem dX9_conflictSet_72 : decode cX9_conflictSet 72 = .ok (.goto (-42), 3) := by decide +kernel
theorem dX9_conflictSet_75 : decode cX9_conflictSet 75 = .ok (.iload_n 1, 1) := by decide +kernel
theorem dX9_conflictSet_76 : decode cX9_conflictSet 76 = .ok (.ireturn, 1) := by decide +kernel
theorem dX9_fixedBit_0 : decode cX9_fixedBit 0 = .ok (.aload_n 0, 1) := by decide +kernel
theorem dX9_fixedBit_1 : decode cX9_fixedBit 1 = .ok (.iload_n 1, 1) := by decide +kernel
theorem dX9_fixedBit_2 : decode cX9_fixedBit 2 = .ok (.iload_n 2, 1) := by decide +kernel
theorem dX9_fixedBit_3 : decode cX9_fixedBit 3 = .ok (.invokevirtual 176, 3) := by decide +kernel
theorem dX9_fixedBit_6 : decode cX9_fixedBit 6 = .ok (.ifCond .ne 5, 3) := by decide +kernel
theorem dX9_fixedBit_9 : decode cX9_fixedBit 9 = .ok (.iconst (-1), 1) := by decide +kernel
theorem dX9_fixedBit_10 : decode cX9_fixedBit 10 = .ok (.ireturn, 1) := by decide +kernel
theorem dX9_fixedBit_11 : decode cX9_fixedBit 11 = .ok (.aload_n 0, 1) := by decide +kernel
theorem dX9_fixedBit_12 : decode cX9_fixedBit 12 = .ok (.getfield 58, 3) := by decide +kernel
theorem dX9_fixedBit_15 : decode cX9_fixedBit 15 = .ok (.invokevirtual 165, 3) := by decide +kernel
theorem dX9_fixedBit_18 : decode cX9_fixedBit 18 = .ok (.ifCond .ne 6, 3) := by decide +kernel
theorem dX9_fixedBit_21 : decode cX9_fixedBit 21 = .ok (.bipush (-2), 2) := by decide +kernel
theorem dX9_fixedBit_23 : decode cX9_fixedBit 23 = .ok (.ireturn, 1) := by decide +kernel
theorem dX9_fixedBit_24 : decode cX9_fixedBit 24 = .ok (.aload_n 0, 1) := by decide +kernel
theorem dX9_fixedBit_25 : decode cX9_fixedBit 25 = .ok (.getfield 58, 3) := by decide +kernel
theorem dX9_fixedBit_28 : decode cX9_fixedBit 28 = .ok (.iload_n 1, 1) := by decide +kernel
theorem dX9_fixedBit_29 : decode cX9_fixedBit 29 = .ok (.iload_n 2, 1) := by decide +kernel
theorem dX9_fixedBit_30 : decode cX9_fixedBit 30 = .ok (.invokestatic 150, 3) := by decide +kernel
theorem dX9_fixedBit_33 : decode cX9_fixedBit 33 = .ok (.invokevirtual 179, 3) := by decide +kernel
theorem dX9_fixedBit_36 : decode cX9_fixedBit 36 = .ok (.istore_n 3, 1) := by decide +kernel
theorem dX9_fixedBit_37 : decode cX9_fixedBit 37 = .ok (.iload_n 3, 1) := by decide +kernel
theorem dX9_fixedBit_38 : decode cX9_fixedBit 38 = .ok (.iconst (-1), 1) := by decide +kernel
theorem dX9_fixedBit_39 : decode cX9_fixedBit 39 = .ok (.if_icmp .ne 8, 3) := by decide +kernel
theorem dX9_fixedBit_42 : decode cX9_fixedBit 42 = .ok (.bipush (-9), 2) := by decide +kernel
theorem dX9_fixedBit_44 : decode cX9_fixedBit 44 = .ok (.goto 4, 3) := by decide +kernel
theorem dX9_fixedBit_47 : decode cX9_fixedBit 47 = .ok (.iload_n 3, 1) := by decide +kernel
theorem dX9_fixedBit_48 : decode cX9_fixedBit 48 = .ok (.ireturn, 1) := by decide +kernel
theorem dX9_compareBits_0 : decode cX9_compareBits 0 = .ok (.aload_n 0, 1) := by decide +kernel
theorem dX9_compareBits_1 : decode cX9_compareBits 1 = .ok (.iload_n 1, 1) := by decide +kernel
theorem dX9_compareBits_2 : decode cX9_compareBits 2 = .ok (.iload_n 2, 1) := by decide +kernel
theorem dX9_compareBits_3 : decode cX9_compareBits 3 = .ok (.invokevirtual 176, 3) := by decide +kernel
theorem dX9_compareBits_6 : decode cX9_compareBits 6 = .ok (.ifCond .eq 13, 3) := by decide +kernel
theorem dX9_compareBits_9 : decode cX9_compareBits 9 = .ok (.aload_n 0, 1) := by decide +kernel
theorem dX9_compareBits_10 : decode cX9_compareBits 10 = .ok (.iload_n 3, 1) := by decide +kernel
theorem dX9_compareBits_11 : decode cX9_compareBits 11 = .ok (.iload 4, 2) := by decide +kernel
theorem dX9_compareBits_13 : decode cX9_compareBits 13 = .ok (.invokevirtual 176, 3) := by decide +kernel
theorem dX9_compareBits_16 : decode cX9_compareBits 16 = .ok (.ifCond .ne 5, 3) := by decide +kernel
theorem dX9_compareBits_19 : decode cX9_compareBits 19 = .ok (.iconst (-1), 1) := by decide +kernel
theorem dX9_compareBits_20 : decode cX9_compareBits 20 = .ok (.ireturn, 1) := by decide +kernel
theorem dX9_compareBits_21 : decode cX9_compareBits 21 = .ok (.aload_n 0, 1) := by decide +kernel
theorem dX9_compareBits_22 : decode cX9_compareBits 22 = .ok (.getfield 58, 3) := by decide +kernel
theorem dX9_compareBits_25 : decode cX9_compareBits 25 = .ok (.invokevirtual 165, 3) := by decide +kernel
theorem dX9_compareBits_28 : decode cX9_compareBits 28 = .ok (.ifCond .ne 6, 3) := by decide +kernel
theorem dX9_compareBits_31 : decode cX9_compareBits 31 = .ok (.bipush (-2), 2) := by decide +kernel
theorem dX9_compareBits_33 : decode cX9_compareBits 33 = .ok (.ireturn, 1) := by decide +kernel
theorem dX9_compareBits_34 : decode cX9_compareBits 34 = .ok (.iload_n 1, 1) := by decide +kernel
theorem dX9_compareBits_35 : decode cX9_compareBits 35 = .ok (.iload_n 2, 1) := by decide +kernel
theorem dX9_compareBits_36 : decode cX9_compareBits 36 = .ok (.invokestatic 150, 3) := by decide +kernel
theorem dX9_compareBits_39 : decode cX9_compareBits 39 = .ok (.istore 5, 2) := by decide +kernel
theorem dX9_compareBits_41 : decode cX9_compareBits 41 = .ok (.iload_n 3, 1) := by decide +kernel
theorem dX9_compareBits_42 : decode cX9_compareBits 42 = .ok (.iload 4, 2) := by decide +kernel
theorem dX9_compareBits_44 : decode cX9_compareBits 44 = .ok (.invokestatic 150, 3) := by decide +kernel
theorem dX9_compareBits_47 : decode cX9_compareBits 47 = .ok (.istore 6, 2) := by decide +kernel
theorem dX9_compareBits_49 : decode cX9_compareBits 49 = .ok (.aload_n 0, 1) := by decide +kernel
theorem dX9_compareBits_50 : decode cX9_compareBits 50 = .ok (.getfield 58, 3) := by decide +kernel
theorem dX9_compareBits_53 : decode cX9_compareBits 53 = .ok (.iload 5, 2) := by decide +kernel
theorem dX9_compareBits_55 : decode cX9_compareBits 55 = .ok (.invokevirtual 153, 3) := by decide +kernel
theorem dX9_compareBits_58 : decode cX9_compareBits 58 = .ok (.aload_n 0, 1) := by decide +kernel
theorem dX9_compareBits_59 : decode cX9_compareBits 59 = .ok (.getfield 58, 3) := by decide +kernel
theorem dX9_compareBits_62 : decode cX9_compareBits 62 = .ok (.iload 6, 2) := by decide +kernel
theorem dX9_compareBits_64 : decode cX9_compareBits 64 = .ok (.invokevirtual 153, 3) := by decide +kernel
theorem dX9_compareBits_67 : decode cX9_compareBits 67 = .ok (.if_icmp .ne 5, 3) := by decide +kernel
theorem dX9_compareBits_70 : decode cX9_compareBits 70 = .ok (.iconst 1, 1) := by decide +kernel
theorem dX9_compareBits_71 : decode cX9_compareBits 71 = .ok (.ireturn, 1) := by decide +kernel
theorem dX9_compareBits_72 : decode cX9_compareBits 72 = .ok (.aload_n 0, 1) := by decide +kernel
theorem dX9_compareBits_73 : decode cX9_compareBits 73 = .ok (.getfield 58, 3) := by decide +kernel
theorem dX9_compareBits_76 : decode cX9_compareBits 76 = .ok (.iload 5, 2) := by decide +kernel
theorem dX9_compareBits_78 : decode cX9_compareBits 78 = .ok (.invokevirtual 179, 3) := by decide +kernel
theorem dX9_compareBits_81 : decode cX9_compareBits 81 = .ok (.istore 7, 2) := by decide +kernel
theorem dX9_compareBits_83 : decode cX9_compareBits 83 = .ok (.aload_n 0, 1) := by decide +kernel
theorem dX9_compareBits_84 : decode cX9_compareBits 84 = .ok (.getfield 58, 3) := by decide +kernel
theorem dX9_compareBits_87 : decode cX9_compareBits 87 = .ok (.iload 6, 2) := by decide +kernel
theorem dX9_compareBits_89 : decode cX9_compareBits 89 = .ok (.invokevirtual 179, 3) := by decide +kernel
theorem dX9_compareBits_92 : decode cX9_compareBits 92 = .ok (.istore 8, 2) := by decide +kernel
theorem dX9_compareBits_94 : decode cX9_compareBits 94 = .ok (.iload 7, 2) := by decide +kernel
theorem dX9_compareBits_96 : decode cX9_compareBits 96 = .ok (.iconst (-1), 1) := by decide +kernel
theorem dX9_compareBits_97 : decode cX9_compareBits 97 = .ok (.if_icmp .eq 9, 3) := by decide +kernel
theorem dX9_compareBits_100 : decode cX9_compareBits 100 = .ok (.iload 8, 2) := by decide +kernel
theorem dX9_compareBits_102 : decode cX9_compareBits 102 = .ok (.iconst (-1), 1) := by decide +kernel
theorem dX9_compareBits_103 : decode cX9_compareBits 103 = .ok (.if_icmp .ne 5, 3) := by decide +kernel
theorem dX9_compareBits_106 : decode cX9_compareBits 106 = .ok (.iconst 2, 1) := by decide +kernel
theorem dX9_compareBits_107 : decode cX9_compareBits 107 = .ok (.ireturn, 1) := by decide +kernel
theorem dX9_compareBits_108 : decode cX9_compareBits 108 = .ok (.iload 7, 2) := by decide +kernel
theorem dX9_compareBits_110 : decode cX9_compareBits 110 = .ok (.iload 8, 2) := by decide +kernel
theorem dX9_compareBits_112 : decode cX9_compareBits 112 = .ok (.if_icmp .ne 7, 3) := by decide +kernel
theorem dX9_compareBits_115 : decode cX9_compareBits 115 = .ok (.iconst 1, 1) := by decide +kernel
theorem dX9_compareBits_116 : decode cX9_compareBits 116 = .ok (.goto 4, 3) := by decide +kernel
theorem dX9_compareBits_119 : decode cX9_compareBits 119 = .ok (.iconst 0, 1) := by decide +kernel
theorem dX9_compareBits_120 : decode cX9_compareBits 120 = .ok (.ireturn, 1) := by decide +kernel
theorem dX9_freeBits_0 : decode cX9_freeBits 0 = .ok (.aload_n 0, 1) := by decide +kernel
theorem dX9_freeBits_1 : decode cX9_freeBits 1 = .ok (.getfield 58, 3) := by decide +kernel
theorem dX9_freeBits_4 : decode cX9_freeBits 4 = .ok (.invokevirtual 165, 3) := by decide +kernel
theorem dX9_freeBits_7 : decode cX9_freeBits 7 = .ok (.ifCond .ne 6, 3) := by decide +kernel
theorem dX9_freeBits_10 : decode cX9_freeBits 10 = .ok (.bipush (-2), 2) := by decide +kernel
theorem dX9_freeBits_12 : decode cX9_freeBits 12 = .ok (.ireturn, 1) := by decide +kernel
theorem dX9_freeBits_13 : decode cX9_freeBits 13 = .ok (.iconst 0, 1) := by decide +kernel
theorem dX9_freeBits_14 : decode cX9_freeBits 14 = .ok (.istore_n 1, 1) := by decide +kernel
theorem dX9_freeBits_15 : decode cX9_freeBits 15 = .ok (.iconst 0, 1) := by decide +kernel
theorem dX9_freeBits_16 : decode cX9_freeBits 16 = .ok (.istore_n 2, 1) := by decide +kernel
theorem dX9_freeBits_17 : decode cX9_freeBits 17 = .ok (.iload_n 2, 1) := by decide +kernel
theorem dX9_freeBits_18 : decode cX9_freeBits 18 = .ok (.sipush 128, 3) := by decide +kernel
theorem dX9_freeBits_21 : decode cX9_freeBits 21 = .ok (.if_icmp .ge 64, 3) := by decide +kernel
theorem dX9_freeBits_24 : decode cX9_freeBits 24 = .ok (.iload_n 2, 1) := by decide +kernel
theorem dX9_freeBits_25 : decode cX9_freeBits 25 = .ok (.invokestatic 159, 3) := by decide +kernel
theorem dX9_freeBits_28 : decode cX9_freeBits 28 = .ok (.aload_n 0, 1) := by decide +kernel
theorem dX9_freeBits_29 : decode cX9_freeBits 29 = .ok (.getfield 28, 3) := by decide +kernel
theorem dX9_freeBits_32 : decode cX9_freeBits 32 = .ok (.iload_n 2, 1) := by decide +kernel
theorem dX9_freeBits_33 : decode cX9_freeBits 33 = .ok (.invokestatic 156, 3) := by decide +kernel
theorem dX9_freeBits_36 : decode cX9_freeBits 36 = .ok (.invokevirtual 135, 3) := by decide +kernel
theorem dX9_freeBits_39 : decode cX9_freeBits 39 = .ok (.if_icmp .ge 7, 3) := by decide +kernel
theorem dX9_freeBits_42 : decode cX9_freeBits 42 = .ok (.iconst 1, 1) := by decide +kernel
theorem dX9_freeBits_43 : decode cX9_freeBits 43 = .ok (.goto 4, 3) := by decide +kernel
theorem dX9_freeBits_46 : decode cX9_freeBits 46 = .ok (.iconst 0, 1) := by decide +kernel
theorem dX9_freeBits_47 : decode cX9_freeBits 47 = .ok (.istore_n 3, 1) := by decide +kernel
theorem dX9_freeBits_48 : decode cX9_freeBits 48 = .ok (.iload_n 3, 1) := by decide +kernel
theorem dX9_freeBits_49 : decode cX9_freeBits 49 = .ok (.ifCond .eq 30, 3) := by decide +kernel
theorem dX9_freeBits_52 : decode cX9_freeBits 52 = .ok (.aload_n 0, 1) := by decide +kernel
theorem dX9_freeBits_53 : decode cX9_freeBits 53 = .ok (.getfield 58, 3) := by decide +kernel
theorem dX9_freeBits_56 : decode cX9_freeBits 56 = .ok (.iload_n 2, 1) := by decide +kernel
theorem dX9_freeBits_57 : decode cX9_freeBits 57 = .ok (.invokevirtual 153, 3) := by decide +kernel
theorem dX9_freeBits_60 : decode cX9_freeBits 60 = .ok (.iload_n 2, 1) := by decide +kernel
theorem dX9_freeBits_61 : decode cX9_freeBits 61 = .ok (.if_icmp .ne 18, 3) := by decide +kernel
theorem dX9_freeBits_64 : decode cX9_freeBits 64 = .ok (.aload_n 0, 1) := by decide +kernel
theorem dX9_freeBits_65 : decode cX9_freeBits 65 = .ok (.getfield 58, 3) := by decide +kernel
theorem dX9_freeBits_68 : decode cX9_freeBits 68 = .ok (.iload_n 2, 1) := by decide +kernel
theorem dX9_freeBits_69 : decode cX9_freeBits 69 = .ok (.invokevirtual 179, 3) := by decide +kernel
theorem dX9_freeBits_72 : decode cX9_freeBits 72 = .ok (.iconst (-1), 1) := by decide +kernel
theorem dX9_freeBits_73 : decode cX9_freeBits 73 = .ok (.if_icmp .ne 6, 3) := by decide +kernel
theorem dX9_freeBits_76 : decode cX9_freeBits 76 = .ok (.iinc 1 1, 3) := by decide +kernel
theorem dX9_freeBits_79 : decode cX9_freeBits 79 = .ok (.iinc 2 1, 3) := by decide +kernel
theorem dX9_freeBits_82 : decode cX9_freeBits 82 = .ok (.goto (-65), 3) := by decide +kernel
theorem dX9_freeBits_85 : decode cX9_freeBits 85 = .ok (.iload_n 1, 1) := by decide +kernel
theorem dX9_freeBits_86 : decode cX9_freeBits 86 = .ok (.ireturn, 1) := by decide +kernel
theorem dX9_isSatisfiable_0 : decode cX9_isSatisfiable 0 = .ok (.aload_n 0, 1) := by decide +kernel
theorem dX9_isSatisfiable_1 : decode cX9_isSatisfiable 1 = .ok (.invokevirtual 182, 3) := by decide +kernel
theorem dX9_isSatisfiable_4 : decode cX9_isSatisfiable 4 = .ok (.invokevirtual 186, 3) := by decide +kernel
theorem dX9_isSatisfiable_7 : decode cX9_isSatisfiable 7 = .ok (.bipush (-9), 2) := by decide +kernel
theorem dX9_isSatisfiable_9 : decode cX9_isSatisfiable 9 = .ok (.if_icmp .ne 7, 3) := by decide +kernel
theorem dX9_isSatisfiable_12 : decode cX9_isSatisfiable 12 = .ok (.iconst 0, 1) := by decide +kernel
theorem dX9_isSatisfiable_13 : decode cX9_isSatisfiable 13 = .ok (.goto 4, 3) := by decide +kernel
theorem dX9_isSatisfiable_16 : decode cX9_isSatisfiable 16 = .ok (.iconst 1, 1) := by decide +kernel
theorem dX9_isSatisfiable_17 : decode cX9_isSatisfiable 17 = .ok (.ireturn, 1) := by decide +kernel
theorem dX9_oneBits_0 : decode cX9_oneBits 0 = .ok (.aload_n 0, 1) := by decide +kernel
theorem dX9_oneBits_1 : decode cX9_oneBits 1 = .ok (.invokevirtual 182, 3) := by decide +kernel
theorem dX9_oneBits_4 : decode cX9_oneBits 4 = .ok (.invokevirtual 186, 3) := by decide +kernel
theorem dX9_oneBits_7 : decode cX9_oneBits 7 = .ok (.ireturn, 1) := by decide +kernel
theorem dX9_value_0 : decode cX9_value 0 = .ok (.iload_n 1, 1) := by decide +kernel
theorem dX9_value_1 : decode cX9_value 1 = .ok (.invokestatic 132, 3) := by decide +kernel
theorem dX9_value_4 : decode cX9_value 4 = .ok (.ifCond .ne 5, 3) := by decide +kernel
theorem dX9_value_7 : decode cX9_value 7 = .ok (.iconst (-1), 1) := by decide +kernel
theorem dX9_value_8 : decode cX9_value 8 = .ok (.ireturn, 1) := by decide +kernel
theorem dX9_value_9 : decode cX9_value 9 = .ok (.aload_n 0, 1) := by decide +kernel
theorem dX9_value_10 : decode cX9_value 10 = .ok (.invokevirtual 182, 3) := by decide +kernel
theorem dX9_value_13 : decode cX9_value 13 = .ok (.invokevirtual 186, 3) := by decide +kernel
theorem dX9_value_16 : decode cX9_value 16 = .ok (.bipush (-9), 2) := by decide +kernel
theorem dX9_value_18 : decode cX9_value 18 = .ok (.if_icmp .ne 6, 3) := by decide +kernel
theorem dX9_value_21 : decode cX9_value 21 = .ok (.bipush (-9), 2) := by decide +kernel
theorem dX9_value_23 : decode cX9_value 23 = .ok (.ireturn, 1) := by decide +kernel
theorem dX9_value_24 : decode cX9_value 24 = .ok (.iconst 0, 1) := by decide +kernel
theorem dX9_value_25 : decode cX9_value 25 = .ok (.istore_n 2, 1) := by decide +kernel
theorem dX9_value_26 : decode cX9_value 26 = .ok (.iconst 0, 1) := by decide +kernel
theorem dX9_value_27 : decode cX9_value 27 = .ok (.istore_n 3, 1) := by decide +kernel
theorem dX9_value_28 : decode cX9_value 28 = .ok (.iload_n 3, 1) := by decide +kernel
theorem dX9_value_29 : decode cX9_value 29 = .ok (.aload_n 0, 1) := by decide +kernel
theorem dX9_value_30 : decode cX9_value 30 = .ok (.getfield 28, 3) := by decide +kernel
theorem dX9_value_33 : decode cX9_value 33 = .ok (.iload_n 1, 1) := by decide +kernel
theorem dX9_value_34 : decode cX9_value 34 = .ok (.invokevirtual 135, 3) := by decide +kernel
theorem dX9_value_37 : decode cX9_value 37 = .ok (.if_icmp .ge 76, 3) := by decide +kernel
theorem dX9_value_40 : decode cX9_value 40 = .ok (.iload_n 1, 1) := by decide +kernel
theorem dX9_value_41 : decode cX9_value 41 = .ok (.iload_n 3, 1) := by decide +kernel
theorem dX9_value_42 : decode cX9_value 42 = .ok (.invokestatic 150, 3) := by decide +kernel
theorem dX9_value_45 : decode cX9_value 45 = .ok (.istore 4, 2) := by decide +kernel
theorem dX9_value_47 : decode cX9_value 47 = .ok (.aload_n 0, 1) := by decide +kernel
theorem dX9_value_48 : decode cX9_value 48 = .ok (.getfield 58, 3) := by decide +kernel
theorem dX9_value_51 : decode cX9_value 51 = .ok (.iload 4, 2) := by decide +kernel
theorem dX9_value_53 : decode cX9_value 53 = .ok (.invokevirtual 179, 3) := by decide +kernel
theorem dX9_value_56 : decode cX9_value 56 = .ok (.istore 5, 2) := by decide +kernel
theorem dX9_value_58 : decode cX9_value 58 = .ok (.iload 5, 2) := by decide +kernel
theorem dX9_value_60 : decode cX9_value 60 = .ok (.iconst (-1), 1) := by decide +kernel
theorem dX9_value_61 : decode cX9_value 61 = .ok (.if_icmp .ne 22, 3) := by decide +kernel
theorem dX9_value_64 : decode cX9_value 64 = .ok (.aload_n 0, 1) := by decide +kernel
theorem dX9_value_65 : decode cX9_value 65 = .ok (.getfield 68, 3) := by decide +kernel
theorem dX9_value_68 : decode cX9_value 68 = .ok (.aload_n 0, 1) := by decide +kernel
theorem dX9_value_69 : decode cX9_value 69 = .ok (.getfield 58, 3) := by decide +kernel
theorem dX9_value_72 : decode cX9_value 72 = .ok (.iload 4, 2) := by decide +kernel
theorem dX9_value_74 : decode cX9_value 74 = .ok (.invokevirtual 153, 3) := by decide +kernel
theorem dX9_value_77 : decode cX9_value 77 = .ok (.invokevirtual 189, 3) := by decide +kernel
theorem dX9_value_80 : decode cX9_value 80 = .ok (.goto 14, 3) := by decide +kernel
theorem dX9_value_83 : decode cX9_value 83 = .ok (.iload 5, 2) := by decide +kernel
theorem dX9_value_85 : decode cX9_value 85 = .ok (.iconst 1, 1) := by decide +kernel
theorem dX9_value_86 : decode cX9_value 86 = .ok (.if_icmp .ne 7, 3) := by decide +kernel
theorem dX9_value_89 : decode cX9_value 89 = .ok (.iconst 1, 1) := by decide +kernel
theorem dX9_value_90 : decode cX9_value 90 = .ok (.goto 4, 3) := by decide +kernel
theorem dX9_value_93 : decode cX9_value 93 = .ok (.iconst 0, 1) := by decide +kernel
theorem dX9_value_94 : decode cX9_value 94 = .ok (.istore 6, 2) := by decide +kernel
theorem dX9_value_96 : decode cX9_value 96 = .ok (.iload 6, 2) := by decide +kernel
theorem dX9_value_98 : decode cX9_value 98 = .ok (.ifCond .eq 9, 3) := by decide +kernel
theorem dX9_value_101 : decode cX9_value 101 = .ok (.iload_n 2, 1) := by decide +kernel
theorem dX9_value_102 : decode cX9_value 102 = .ok (.iconst 1, 1) := by decide +kernel
theorem dX9_value_103 : decode cX9_value 103 = .ok (.iload_n 3, 1) := by decide +kernel
theorem dX9_value_104 : decode cX9_value 104 = .ok (.ishl, 1) := by decide +kernel
theorem dX9_value_105 : decode cX9_value 105 = .ok (.ior, 1) := by decide +kernel
theorem dX9_value_106 : decode cX9_value 106 = .ok (.istore_n 2, 1) := by decide +kernel
theorem dX9_value_107 : decode cX9_value 107 = .ok (.iinc 3 1, 3) := by decide +kernel
theorem dX9_value_110 : decode cX9_value 110 = .ok (.goto (-82), 3) := by decide +kernel
theorem dX9_value_113 : decode cX9_value 113 = .ok (.iload_n 2, 1) := by decide +kernel
theorem dX9_value_114 : decode cX9_value 114 = .ok (.ireturn, 1) := by decide +kernel
theorem dX9_isImplied_0 : decode cX9_isImplied 0 = .ok (.aload_n 0, 1) := by decide +kernel
theorem dX9_isImplied_1 : decode cX9_isImplied 1 = .ok (.getfield 28, 3) := by decide +kernel
theorem dX9_isImplied_4 : decode cX9_isImplied 4 = .ok (.getfield 129, 3) := by decide +kernel
theorem dX9_isImplied_7 : decode cX9_isImplied 7 = .ok (.iload_n 1, 1) := by decide +kernel
theorem dX9_isImplied_8 : decode cX9_isImplied 8 = .ok (.invokevirtual 116, 3) := by decide +kernel
theorem dX9_isImplied_11 : decode cX9_isImplied 11 = .ok (.ifCond .ne 5, 3) := by decide +kernel
theorem dX9_isImplied_14 : decode cX9_isImplied 14 = .ok (.iconst (-1), 1) := by decide +kernel
theorem dX9_isImplied_15 : decode cX9_isImplied 15 = .ok (.ireturn, 1) := by decide +kernel
theorem dX9_isImplied_16 : decode cX9_isImplied 16 = .ok (.aload_n 0, 1) := by decide +kernel
theorem dX9_isImplied_17 : decode cX9_isImplied 17 = .ok (.getfield 58, 3) := by decide +kernel
theorem dX9_isImplied_20 : decode cX9_isImplied 20 = .ok (.invokevirtual 165, 3) := by decide +kernel
theorem dX9_isImplied_23 : decode cX9_isImplied 23 = .ok (.ifCond .ne 6, 3) := by decide +kernel
theorem dX9_isImplied_26 : decode cX9_isImplied 26 = .ok (.bipush (-2), 2) := by decide +kernel
theorem dX9_isImplied_28 : decode cX9_isImplied 28 = .ok (.ireturn, 1) := by decide +kernel
theorem dX9_isImplied_29 : decode cX9_isImplied 29 = .ok (.aload_n 0, 1) := by decide +kernel
theorem dX9_isImplied_30 : decode cX9_isImplied 30 = .ok (.iconst 1, 1) := by decide +kernel
theorem dX9_isImplied_31 : decode cX9_isImplied 31 = .ok (.aload_n 0, 1) := by decide +kernel
theorem dX9_isImplied_32 : decode cX9_isImplied 32 = .ok (.getfield 28, 3) := by decide +kernel
theorem dX9_isImplied_35 : decode cX9_isImplied 35 = .ok (.getfield 112, 3) := by decide +kernel
theorem dX9_isImplied_38 : decode cX9_isImplied 38 = .ok (.invokevirtual 126, 3) := by decide +kernel
theorem dX9_isImplied_41 : decode cX9_isImplied 41 = .ok (.ishl, 1) := by decide +kernel
theorem dX9_isImplied_42 : decode cX9_isImplied 42 = .ok (.iconst 1, 1) := by decide +kernel
theorem dX9_isImplied_43 : decode cX9_isImplied 43 = .ok (.isub, 1) := by decide +kernel
theorem dX9_isImplied_44 : decode cX9_isImplied 44 = .ok (.invokevirtual 173, 3) := by decide +kernel
theorem dX9_isImplied_47 : decode cX9_isImplied 47 = .ok (.aload_n 0, 1) := by decide +kernel
theorem dX9_isImplied_48 : decode cX9_isImplied 48 = .ok (.getfield 62, 3) := by decide +kernel
theorem dX9_isImplied_51 : decode cX9_isImplied 51 = .ok (.aload_n 0, 1) := by decide +kernel
theorem dX9_isImplied_52 : decode cX9_isImplied 52 = .ok (.getfield 28, 3) := by decide +kernel
theorem dX9_isImplied_55 : decode cX9_isImplied 55 = .ok (.getfield 129, 3) := by decide +kernel
theorem dX9_isImplied_58 : decode cX9_isImplied 58 = .ok (.iload_n 1, 1) := by decide +kernel
theorem dX9_isImplied_59 : decode cX9_isImplied 59 = .ok (.invokevirtual 169, 3) := by decide +kernel
theorem dX9_isImplied_62 : decode cX9_isImplied 62 = .ok (.aload_n 0, 1) := by decide +kernel
theorem dX9_isImplied_63 : decode cX9_isImplied 63 = .ok (.getfield 62, 3) := by decide +kernel
theorem dX9_isImplied_66 : decode cX9_isImplied 66 = .ok (.invokevirtual 165, 3) := by decide +kernel
theorem dX9_isImplied_69 : decode cX9_isImplied 69 = .ok (.ifCond .eq 7, 3) := by decide +kernel
theorem dX9_isImplied_72 : decode cX9_isImplied 72 = .ok (.iconst 0, 1) := by decide +kernel
theorem dX9_isImplied_73 : decode cX9_isImplied 73 = .ok (.goto 4, 3) := by decide +kernel
theorem dX9_isImplied_76 : decode cX9_isImplied 76 = .ok (.iconst 1, 1) := by decide +kernel
theorem dX9_isImplied_77 : decode cX9_isImplied 77 = .ok (.ireturn, 1) := by decide +kernel
theorem dX9_undo_0 : decode cX9_undo 0 = .ok (.aload_n 0, 1) := by decide +kernel
theorem dX9_undo_1 : decode cX9_undo 1 = .ok (.getfield 38, 3) := by decide +kernel
theorem dX9_undo_4 : decode cX9_undo 4 = .ok (.invokevirtual 192, 3) := by decide +kernel
theorem dX9_undo_7 : decode cX9_undo 7 = .ok (.ifCond .ne 6, 3) := by decide +kernel
theorem dX9_undo_10 : decode cX9_undo 10 = .ok (.bipush (-2), 2) := by decide +kernel
theorem dX9_undo_12 : decode cX9_undo 12 = .ok (.ireturn, 1) := by decide +kernel
theorem dX9_undo_13 : decode cX9_undo 13 = .ok (.aload_n 0, 1) := by decide +kernel
theorem dX9_undo_14 : decode cX9_undo 14 = .ok (.getfield 38, 3) := by decide +kernel
theorem dX9_undo_17 : decode cX9_undo 17 = .ok (.aload_n 0, 1) := by decide +kernel
theorem dX9_undo_18 : decode cX9_undo 18 = .ok (.getfield 28, 3) := by decide +kernel
theorem dX9_undo_21 : decode cX9_undo 21 = .ok (.invokevirtual 195, 3) := by decide +kernel
theorem dX9_undo_24 : decode cX9_undo 24 = .ok (.aload_n 0, 1) := by decide +kernel
theorem dX9_undo_25 : decode cX9_undo 25 = .ok (.invokevirtual 106, 3) := by decide +kernel
theorem dX9_undo_28 : decode cX9_undo 28 = .ok (.aload_n 0, 1) := by decide +kernel
theorem dX9_undo_29 : decode cX9_undo 29 = .ok (.getfield 38, 3) := by decide +kernel
theorem dX9_undo_32 : decode cX9_undo 32 = .ok (.invokevirtual 192, 3) := by decide +kernel
theorem dX9_undo_35 : decode cX9_undo 35 = .ok (.ireturn, 1) := by decide +kernel
theorem dX9_undoDepth_0 : decode cX9_undoDepth 0 = .ok (.aload_n 0, 1) := by decide +kernel
theorem dX9_undoDepth_1 : decode cX9_undoDepth 1 = .ok (.getfield 38, 3) := by decide +kernel
theorem dX9_undoDepth_4 : decode cX9_undoDepth 4 = .ok (.invokevirtual 192, 3) := by decide +kernel
theorem dX9_undoDepth_7 : decode cX9_undoDepth 7 = .ok (.ireturn, 1) := by decide +kernel
theorem dX9_save_0 : decode cX9_save 0 = .ok (.iload_n 1, 1) := by decide +kernel
theorem dX9_save_1 : decode cX9_save 1 = .ok (.invokestatic 198, 3) := by decide +kernel
theorem dX9_save_4 : decode cX9_save 4 = .ok (.ifCond .ne 5, 3) := by decide +kernel
theorem dX9_save_7 : decode cX9_save 7 = .ok (.iconst (-1), 1) := by decide +kernel
theorem dX9_save_8 : decode cX9_save 8 = .ok (.ireturn, 1) := by decide +kernel
theorem dX9_save_9 : decode cX9_save 9 = .ok (.aload_n 0, 1) := by decide +kernel
theorem dX9_save_10 : decode cX9_save 10 = .ok (.iload_n 1, 1) := by decide +kernel
theorem dX9_save_11 : decode cX9_save 11 = .ok (.invokevirtual 201, 3) := by decide +kernel
theorem dX9_save_14 : decode cX9_save 14 = .ok (.aload_n 0, 1) := by decide +kernel
theorem dX9_save_15 : decode cX9_save 15 = .ok (.getfield 28, 3) := by decide +kernel
theorem dX9_save_18 : decode cX9_save 18 = .ok (.invokevirtual 103, 3) := by decide +kernel
theorem dX9_save_21 : decode cX9_save 21 = .ok (.aload_n 0, 1) := by decide +kernel
theorem dX9_save_22 : decode cX9_save 22 = .ok (.dup, 1) := by decide +kernel
theorem dX9_save_23 : decode cX9_save 23 = .ok (.getfield 72, 3) := by decide +kernel
theorem dX9_save_26 : decode cX9_save 26 = .ok (.iconst 1, 1) := by decide +kernel
theorem dX9_save_27 : decode cX9_save 27 = .ok (.iload_n 1, 1) := by decide +kernel
theorem dX9_save_28 : decode cX9_save 28 = .ok (.ishl, 1) := by decide +kernel
theorem dX9_save_29 : decode cX9_save 29 = .ok (.ior, 1) := by decide +kernel
theorem dX9_save_30 : decode cX9_save 30 = .ok (.putfield 72, 3) := by decide +kernel
theorem dX9_save_33 : decode cX9_save 33 = .ok (.aload_n 0, 1) := by decide +kernel
theorem dX9_save_34 : decode cX9_save 34 = .ok (.getfield 28, 3) := by decide +kernel
theorem dX9_save_37 : decode cX9_save 37 = .ok (.invokevirtual 109, 3) := by decide +kernel
theorem dX9_save_40 : decode cX9_save 40 = .ok (.ireturn, 1) := by decide +kernel
theorem dX9_restore_0 : decode cX9_restore 0 = .ok (.iload_n 1, 1) := by decide +kernel
theorem dX9_restore_1 : decode cX9_restore 1 = .ok (.invokestatic 198, 3) := by decide +kernel
theorem dX9_restore_4 : decode cX9_restore 4 = .ok (.ifCond .ne 5, 3) := by decide +kernel
theorem dX9_restore_7 : decode cX9_restore 7 = .ok (.iconst (-1), 1) := by decide +kernel
theorem dX9_restore_8 : decode cX9_restore 8 = .ok (.ireturn, 1) := by decide +kernel
theorem dX9_restore_9 : decode cX9_restore 9 = .ok (.aload_n 0, 1) := by decide +kernel
theorem dX9_restore_10 : decode cX9_restore 10 = .ok (.getfield 72, 3) := by decide +kernel
theorem dX9_restore_13 : decode cX9_restore 13 = .ok (.iconst 1, 1) := by decide +kernel
theorem dX9_restore_14 : decode cX9_restore 14 = .ok (.iload_n 1, 1) := by decide +kernel
theorem dX9_restore_15 : decode cX9_restore 15 = .ok (.ishl, 1) := by decide +kernel
theorem dX9_restore_16 : decode cX9_restore 16 = .ok (.iand, 1) := by decide +kernel
theorem dX9_restore_17 : decode cX9_restore 17 = .ok (.ifCond .ne 6, 3) := by decide +kernel
theorem dX9_restore_20 : decode cX9_restore 20 = .ok (.bipush (-2), 2) := by decide +kernel
theorem dX9_restore_22 : decode cX9_restore 22 = .ok (.ireturn, 1) := by decide +kernel
theorem dX9_restore_23 : decode cX9_restore 23 = .ok (.aload_n 0, 1) := by decide +kernel
theorem dX9_restore_24 : decode cX9_restore 24 = .ok (.getfield 28, 3) := by decide +kernel
theorem dX9_restore_27 : decode cX9_restore 27 = .ok (.aload_n 0, 1) := by decide +kernel
theorem dX9_restore_28 : decode cX9_restore 28 = .ok (.iload_n 1, 1) := by decide +kernel
theorem dX9_restore_29 : decode cX9_restore 29 = .ok (.invokevirtual 201, 3) := by decide +kernel
theorem dX9_restore_32 : decode cX9_restore 32 = .ok (.invokevirtual 103, 3) := by decide +kernel
theorem dX9_restore_35 : decode cX9_restore 35 = .ok (.aload_n 0, 1) := by decide +kernel
theorem dX9_restore_36 : decode cX9_restore 36 = .ok (.getfield 38, 3) := by decide +kernel
theorem dX9_restore_39 : decode cX9_restore 39 = .ok (.invokevirtual 205, 3) := by decide +kernel
theorem dX9_restore_42 : decode cX9_restore 42 = .ok (.aload_n 0, 1) := by decide +kernel
theorem dX9_restore_43 : decode cX9_restore 43 = .ok (.invokevirtual 106, 3) := by decide +kernel
theorem dX9_restore_46 : decode cX9_restore 46 = .ok (.aload_n 0, 1) := by decide +kernel
theorem dX9_restore_47 : decode cX9_restore 47 = .ok (.getfield 28, 3) := by decide +kernel
theorem dX9_restore_50 : decode cX9_restore 50 = .ok (.invokevirtual 109, 3) := by decide +kernel
theorem dX9_restore_53 : decode cX9_restore 53 = .ok (.ireturn, 1) := by decide +kernel
theorem dX9_slice_0 : decode cX9_slice 0 = .ok (.aload_n 0, 1) := by decide +kernel
theorem dX9_slice_1 : decode cX9_slice 1 = .ok (.getfield 51, 3) := by decide +kernel
theorem dX9_slice_4 : decode cX9_slice 4 = .ok (.aload_n 0, 1) := by decide +kernel
theorem dX9_slice_5 : decode cX9_slice 5 = .ok (.getfield 28, 3) := by decide +kernel
theorem dX9_slice_8 : decode cX9_slice 8 = .ok (.invokevirtual 206, 3) := by decide +kernel
theorem dX9_slice_11 : decode cX9_slice 11 = .ok (.aload_n 0, 1) := by decide +kernel
theorem dX9_slice_12 : decode cX9_slice 12 = .ok (.getfield 58, 3) := by decide +kernel
theorem dX9_slice_15 : decode cX9_slice 15 = .ok (.invokevirtual 168, 3) := by decide +kernel
theorem dX9_slice_18 : decode cX9_slice 18 = .ok (.iconst 0, 1) := by decide +kernel
theorem dX9_slice_19 : decode cX9_slice 19 = .ok (.istore_n 1, 1) := by decide +kernel
theorem dX9_slice_20 : decode cX9_slice 20 = .ok (.iload_n 1, 1) := by decide +kernel
theorem dX9_slice_21 : decode cX9_slice 21 = .ok (.aload_n 0, 1) := by decide +kernel
theorem dX9_slice_22 : decode cX9_slice 22 = .ok (.getfield 28, 3) := by decide +kernel
theorem dX9_slice_25 : decode cX9_slice 25 = .ok (.getfield 112, 3) := by decide +kernel
theorem dX9_slice_28 : decode cX9_slice 28 = .ok (.invokevirtual 126, 3) := by decide +kernel
theorem dX9_slice_31 : decode cX9_slice 31 = .ok (.if_icmp .ge 24, 3) := by decide +kernel
theorem dX9_slice_34 : decode cX9_slice 34 = .ok (.aload_n 0, 1) := by decide +kernel
theorem dX9_slice_35 : decode cX9_slice 35 = .ok (.getfield 58, 3) := by decide +kernel
theorem dX9_slice_38 : decode cX9_slice 38 = .ok (.aload_n 0, 1) := by decide +kernel
theorem dX9_slice_39 : decode cX9_slice 39 = .ok (.getfield 28, 3) := by decide +kernel
theorem dX9_slice_42 : decode cX9_slice 42 = .ok (.getfield 112, 3) := by decide +kernel
theorem dX9_slice_45 : decode cX9_slice 45 = .ok (.iload_n 1, 1) := by decide +kernel
theorem dX9_slice_46 : decode cX9_slice 46 = .ok (.invokevirtual 169, 3) := by decide +kernel
theorem dX9_slice_49 : decode cX9_slice 49 = .ok (.iinc 1 1, 3) := by decide +kernel
theorem dX9_slice_52 : decode cX9_slice 52 = .ok (.goto (-32), 3) := by decide +kernel
theorem dX9_slice_55 : decode cX9_slice 55 = .ok (.aload_n 0, 1) := by decide +kernel
theorem dX9_slice_56 : decode cX9_slice 56 = .ok (.iconst 0, 1) := by decide +kernel
theorem dX9_slice_57 : decode cX9_slice 57 = .ok (.putfield 76, 3) := by decide +kernel
theorem dX9_slice_60 : decode cX9_slice 60 = .ok (.return_, 1) := by decide +kernel
theorem dX9_tryEquations_0 : decode cX9_tryEquations 0 = .ok (.aload_n 0, 1) := by decide +kernel
theorem dX9_tryEquations_1 : decode cX9_tryEquations 1 = .ok (.getfield 62, 3) := by decide +kernel
theorem dX9_tryEquations_4 : decode cX9_tryEquations 4 = .ok (.invokevirtual 168, 3) := by decide +kernel
theorem dX9_tryEquations_7 : decode cX9_tryEquations 7 = .ok (.iconst 0, 1) := by decide +kernel
theorem dX9_tryEquations_8 : decode cX9_tryEquations 8 = .ok (.istore_n 2, 1) := by decide +kernel
theorem dX9_tryEquations_9 : decode cX9_tryEquations 9 = .ok (.iload_n 2, 1) := by decide +kernel
theorem dX9_tryEquations_10 : decode cX9_tryEquations 10 = .ok (.aload_n 0, 1) := by decide +kernel
theorem dX9_tryEquations_11 : decode cX9_tryEquations 11 = .ok (.getfield 28, 3) := by decide +kernel
theorem dX9_tryEquations_14 : decode cX9_tryEquations 14 = .ok (.getfield 112, 3) := by decide +kernel
theorem dX9_tryEquations_17 : decode cX9_tryEquations 17 = .ok (.invokevirtual 126, 3) := by decide +kernel
theorem dX9_tryEquations_20 : decode cX9_tryEquations 20 = .ok (.if_icmp .ge 32, 3) := by decide +kernel
theorem dX9_tryEquations_23 : decode cX9_tryEquations 23 = .ok (.iload_n 1, 1) := by decide +kernel
theorem dX9_tryEquations_24 : decode cX9_tryEquations 24 = .ok (.iconst 1, 1) := by decide +kernel
theorem dX9_tryEquations_25 : decode cX9_tryEquations 25 = .ok (.iload_n 2, 1) := by decide +kernel
theorem dX9_tryEquations_26 : decode cX9_tryEquations 26 = .ok (.ishl, 1) := by decide +kernel
theorem dX9_tryEquations_27 : decode cX9_tryEquations 27 = .ok (.iand, 1) := by decide +kernel
theorem dX9_tryEquations_28 : decode cX9_tryEquations 28 = .ok (.ifCond .eq 18, 3) := by decide +kernel
theorem dX9_tryEquations_31 : decode cX9_tryEquations 31 = .ok (.aload_n 0, 1) := by decide +kernel
theorem dX9_tryEquations_32 : decode cX9_tryEquations 32 = .ok (.getfield 62, 3) := by decide +kernel
theorem dX9_tryEquations_35 : decode cX9_tryEquations 35 = .ok (.aload_n 0, 1) := by decide +kernel
theorem dX9_tryEquations_36 : decode cX9_tryEquations 36 = .ok (.getfield 28, 3) := by decide +kernel
theorem dX9_tryEquations_39 : decode cX9_tryEquations 39 = .ok (.getfield 112, 3) := by decide +kernel
theorem dX9_tryEquations_42 : decode cX9_tryEquations 42 = .ok (.iload_n 2, 1) := by decide +kernel
theorem dX9_tryEquations_43 : decode cX9_tryEquations 43 = .ok (.invokevirtual 169, 3) := by decide +kernel
theorem dX9_tryEquations_46 : decode cX9_tryEquations 46 = .ok (.iinc 2 1, 3) := by decide +kernel
theorem dX9_tryEquations_49 : decode cX9_tryEquations 49 = .ok (.goto (-40), 3) := by decide +kernel
theorem dX9_tryEquations_52 : decode cX9_tryEquations 52 = .ok (.return_, 1) := by decide +kernel
theorem dX9_chosenModel_0 : decode cX9_chosenModel 0 = .ok (.aload_n 0, 1) := by decide +kernel
theorem dX9_chosenModel_1 : decode cX9_chosenModel 1 = .ok (.getfield 76, 3) := by decide +kernel
theorem dX9_chosenModel_4 : decode cX9_chosenModel 4 = .ok (.ifCond .ne 26, 3) := by decide +kernel
theorem dX9_chosenModel_7 : decode cX9_chosenModel 7 = .ok (.aload_n 0, 1) := by decide +kernel
theorem dX9_chosenModel_8 : decode cX9_chosenModel 8 = .ok (.getfield 68, 3) := by decide +kernel
theorem dX9_chosenModel_11 : decode cX9_chosenModel 11 = .ok (.aload_n 0, 1) := by decide +kernel
theorem dX9_chosenModel_12 : decode cX9_chosenModel 12 = .ok (.getfield 28, 3) := by decide +kernel
theorem dX9_chosenModel_15 : decode cX9_chosenModel 15 = .ok (.getfield 129, 3) := by decide +kernel
theorem dX9_chosenModel_18 : decode cX9_chosenModel 18 = .ok (.aload_n 0, 1) := by decide +kernel
theorem dX9_chosenModel_19 : decode cX9_chosenModel 19 = .ok (.getfield 58, 3) := by decide +kernel
theorem dX9_chosenModel_22 : decode cX9_chosenModel 22 = .ok (.invokevirtual 209, 3) := by decide +kernel
theorem dX9_chosenModel_25 : decode cX9_chosenModel 25 = .ok (.aload_n 0, 1) := by decide +kernel
theorem dX9_chosenModel_26 : decode cX9_chosenModel 26 = .ok (.iconst 1, 1) := by decide +kernel
theorem dX9_chosenModel_27 : decode cX9_chosenModel 27 = .ok (.putfield 76, 3) := by decide +kernel
theorem dX9_chosenModel_30 : decode cX9_chosenModel 30 = .ok (.aload_n 0, 1) := by decide +kernel
theorem dX9_chosenModel_31 : decode cX9_chosenModel 31 = .ok (.getfield 68, 3) := by decide +kernel
theorem dX9_chosenModel_34 : decode cX9_chosenModel 34 = .ok (.areturn, 1) := by decide +kernel
theorem dX9_slicesOf_0 : decode cX9_slicesOf 0 = .ok (.aload_n 0, 1) := by decide +kernel
theorem dX9_slicesOf_1 : decode cX9_slicesOf 1 = .ok (.getfield 28, 3) := by decide +kernel
theorem dX9_slicesOf_4 : decode cX9_slicesOf 4 = .ok (.iload_n 1, 1) := by decide +kernel
theorem dX9_slicesOf_5 : decode cX9_slicesOf 5 = .ok (.invokevirtual 135, 3) := by decide +kernel
theorem dX9_slicesOf_8 : decode cX9_slicesOf 8 = .ok (.ifCond .ne 7, 3) := by decide +kernel
theorem dX9_slicesOf_11 : decode cX9_slicesOf 11 = .ok (.iconst 0, 1) := by decide +kernel
theorem dX9_slicesOf_12 : decode cX9_slicesOf 12 = .ok (.goto 13, 3) := by decide +kernel
theorem dX9_slicesOf_15 : decode cX9_slicesOf 15 = .ok (.aload_n 0, 1) := by decide +kernel
theorem dX9_slicesOf_16 : decode cX9_slicesOf 16 = .ok (.getfield 51, 3) := by decide +kernel
theorem dX9_slicesOf_19 : decode cX9_slicesOf 19 = .ok (.iload_n 1, 1) := by decide +kernel
theorem dX9_slicesOf_20 : decode cX9_slicesOf 20 = .ok (.invokevirtual 213, 3) := by decide +kernel
theorem dX9_slicesOf_23 : decode cX9_slicesOf 23 = .ok (.iconst 1, 1) := by decide +kernel
theorem dX9_slicesOf_24 : decode cX9_slicesOf 24 = .ok (.iadd, 1) := by decide +kernel
theorem dX9_slicesOf_25 : decode cX9_slicesOf 25 = .ok (.ireturn, 1) := by decide +kernel
theorem dX9_isSlice_0 : decode cX9_isSlice 0 = .ok (.iload_n 1, 1) := by decide +kernel
theorem dX9_isSlice_1 : decode cX9_isSlice 1 = .ok (.invokestatic 132, 3) := by decide +kernel
theorem dX9_isSlice_4 : decode cX9_isSlice 4 = .ok (.ifCond .eq 20, 3) := by decide +kernel
theorem dX9_isSlice_7 : decode cX9_isSlice 7 = .ok (.iload_n 2, 1) := by decide +kernel
theorem dX9_isSlice_8 : decode cX9_isSlice 8 = .ok (.ifCond .lt 16, 3) := by decide +kernel
theorem dX9_isSlice_11 : decode cX9_isSlice 11 = .ok (.iload_n 2, 1) := by decide +kernel
theorem dX9_isSlice_12 : decode cX9_isSlice 12 = .ok (.aload_n 0, 1) := by decide +kernel
theorem dX9_isSlice_13 : decode cX9_isSlice 13 = .ok (.iload_n 1, 1) := by decide +kernel
theorem dX9_isSlice_14 : decode cX9_isSlice 14 = .ok (.invokevirtual 139, 3) := by decide +kernel
theorem dX9_isSlice_17 : decode cX9_isSlice 17 = .ok (.if_icmp .ge 7, 3) := by decide +kernel
theorem dX9_isSlice_20 : decode cX9_isSlice 20 = .ok (.iconst 1, 1) := by decide +kernel
theorem dX9_isSlice_21 : decode cX9_isSlice 21 = .ok (.goto 4, 3) := by decide +kernel
theorem dX9_isSlice_24 : decode cX9_isSlice 24 = .ok (.iconst 0, 1) := by decide +kernel
theorem dX9_isSlice_25 : decode cX9_isSlice 25 = .ok (.ireturn, 1) := by decide +kernel
theorem dX9_isBit_0 : decode cX9_isBit 0 = .ok (.iload_n 1, 1) := by decide +kernel
theorem dX9_isBit_1 : decode cX9_isBit 1 = .ok (.invokestatic 132, 3) := by decide +kernel
theorem dX9_isBit_4 : decode cX9_isBit 4 = .ok (.ifCond .eq 23, 3) := by decide +kernel
theorem dX9_isBit_7 : decode cX9_isBit 7 = .ok (.iload_n 2, 1) := by decide +kernel
theorem dX9_isBit_8 : decode cX9_isBit 8 = .ok (.ifCond .lt 19, 3) := by decide +kernel
theorem dX9_isBit_11 : decode cX9_isBit 11 = .ok (.iload_n 2, 1) := by decide +kernel
theorem dX9_isBit_12 : decode cX9_isBit 12 = .ok (.aload_n 0, 1) := by decide +kernel
theorem dX9_isBit_13 : decode cX9_isBit 13 = .ok (.getfield 28, 3) := by decide +kernel
theorem dX9_isBit_16 : decode cX9_isBit 16 = .ok (.iload_n 1, 1) := by decide +kernel
theorem dX9_isBit_17 : decode cX9_isBit 17 = .ok (.invokevirtual 135, 3) := by decide +kernel
theorem dX9_isBit_20 : decode cX9_isBit 20 = .ok (.if_icmp .ge 7, 3) := by decide +kernel
theorem dX9_isBit_23 : decode cX9_isBit 23 = .ok (.iconst 1, 1) := by decide +kernel
theorem dX9_isBit_24 : decode cX9_isBit 24 = .ok (.goto 4, 3) := by decide +kernel
theorem dX9_isBit_27 : decode cX9_isBit 27 = .ok (.iconst 0, 1) := by decide +kernel
theorem dX9_isBit_28 : decode cX9_isBit 28 = .ok (.ireturn, 1) := by decide +kernel
theorem dX9_snapshot_0 : decode cX9_snapshot 0 = .ok (.iload_n 1, 1) := by decide +kernel
theorem dX9_snapshot_1 : decode cX9_snapshot 1 = .ok (.ifCond .ne 10, 3) := by decide +kernel
theorem dX9_snapshot_4 : decode cX9_snapshot 4 = .ok (.aload_n 0, 1) := by decide +kernel
theorem dX9_snapshot_5 : decode cX9_snapshot 5 = .ok (.getfield 42, 3) := by decide +kernel
theorem dX9_snapshot_8 : decode cX9_snapshot 8 = .ok (.goto 7, 3) := by decide +kernel
theorem dX9_snapshot_11 : decode cX9_snapshot 11 = .ok (.aload_n 0, 1) := by decide +kernel
theorem dX9_snapshot_12 : decode cX9_snapshot 12 = .ok (.getfield 45, 3) := by decide +kernel
theorem dX9_snapshot_15 : decode cX9_snapshot 15 = .ok (.areturn, 1) := by decide +kernel
theorem dX9_isSlot_0 : decode cX9_isSlot 0 = .ok (.iload_n 0, 1) := by decide +kernel
theorem dX9_isSlot_1 : decode cX9_isSlot 1 = .ok (.ifCond .lt 12, 3) := by decide +kernel
theorem dX9_isSlot_4 : decode cX9_isSlot 4 = .ok (.iload_n 0, 1) := by decide +kernel
theorem dX9_isSlot_5 : decode cX9_isSlot 5 = .ok (.iconst 2, 1) := by decide +kernel
theorem dX9_isSlot_6 : decode cX9_isSlot 6 = .ok (.if_icmp .ge 7, 3) := by decide +kernel
theorem dX9_isSlot_9 : decode cX9_isSlot 9 = .ok (.iconst 1, 1) := by decide +kernel
theorem dX9_isSlot_10 : decode cX9_isSlot 10 = .ok (.goto 4, 3) := by decide +kernel
theorem dX9_isSlot_13 : decode cX9_isSlot 13 = .ok (.iconst 0, 1) := by decide +kernel
theorem dX9_isSlot_14 : decode cX9_isSlot 14 = .ok (.ireturn, 1) := by decide +kernel
theorem dX9_isVariable_0 : decode cX9_isVariable 0 = .ok (.iload_n 0, 1) := by decide +kernel
theorem dX9_isVariable_1 : decode cX9_isVariable 1 = .ok (.ifCond .lt 13, 3) := by decide +kernel
theorem dX9_isVariable_4 : decode cX9_isVariable 4 = .ok (.iload_n 0, 1) := by decide +kernel
theorem dX9_isVariable_5 : decode cX9_isVariable 5 = .ok (.bipush 8, 2) := by decide +kernel
theorem dX9_isVariable_7 : decode cX9_isVariable 7 = .ok (.if_icmp .ge 7, 3) := by decide +kernel
theorem dX9_isVariable_10 : decode cX9_isVariable 10 = .ok (.iconst 1, 1) := by decide +kernel
theorem dX9_isVariable_11 : decode cX9_isVariable 11 = .ok (.goto 4, 3) := by decide +kernel
theorem dX9_isVariable_14 : decode cX9_isVariable 14 = .ok (.iconst 0, 1) := by decide +kernel
theorem dX9_isVariable_15 : decode cX9_isVariable 15 = .ok (.ireturn, 1) := by decide +kernel
theorem dX9_nodeOf_0 : decode cX9_nodeOf 0 = .ok (.iload_n 0, 1) := by decide +kernel
theorem dX9_nodeOf_1 : decode cX9_nodeOf 1 = .ok (.bipush 16, 2) := by decide +kernel
theorem dX9_nodeOf_3 : decode cX9_nodeOf 3 = .ok (.imul, 1) := by decide +kernel
theorem dX9_nodeOf_4 : decode cX9_nodeOf 4 = .ok (.iload_n 1, 1) := by decide +kernel
theorem dX9_nodeOf_5 : decode cX9_nodeOf 5 = .ok (.iadd, 1) := by decide +kernel
theorem dX9_nodeOf_6 : decode cX9_nodeOf 6 = .ok (.ireturn, 1) := by decide +kernel
theorem dX9_variableOf_0 : decode cX9_variableOf 0 = .ok (.iload_n 0, 1) := by decide +kernel
theorem dX9_variableOf_1 : decode cX9_variableOf 1 = .ok (.bipush 16, 2) := by decide +kernel
theorem dX9_variableOf_3 : decode cX9_variableOf 3 = .ok (.idiv, 1) := by decide +kernel
theorem dX9_variableOf_4 : decode cX9_variableOf 4 = .ok (.ireturn, 1) := by decide +kernel
theorem dX9_bitOf_0 : decode cX9_bitOf 0 = .ok (.iload_n 0, 1) := by decide +kernel
theorem dX9_bitOf_1 : decode cX9_bitOf 1 = .ok (.bipush 16, 2) := by decide +kernel
theorem dX9_bitOf_3 : decode cX9_bitOf 3 = .ok (.irem, 1) := by decide +kernel
theorem dX9_bitOf_4 : decode cX9_bitOf 4 = .ok (.ireturn, 1) := by decide +kernel
theorem dX9_isConstantNode_0 : decode cX9_isConstantNode 0 = .ok (.iload_n 0, 1) := by decide +kernel
theorem dX9_isConstantNode_1 : decode cX9_isConstantNode 1 = .ok (.sipush 128, 3) := by decide +kernel
theorem dX9_isConstantNode_4 : decode cX9_isConstantNode 4 = .ok (.if_icmp .lt 7, 3) := by decide +kernel
theorem dX9_isConstantNode_7 : decode cX9_isConstantNode 7 = .ok (.iconst 1, 1) := by decide +kernel
theorem dX9_isConstantNode_8 : decode cX9_isConstantNode 8 = .ok (.goto 4, 3) := by decide +kernel
theorem dX9_isConstantNode_11 : decode cX9_isConstantNode 11 = .ok (.iconst 0, 1) := by decide +kernel
theorem dX9_isConstantNode_12 : decode cX9_isConstantNode 12 = .ok (.ireturn, 1) := by decide +kernel
theorem dX10_init_0 : decode cX10_init 0 = .ok (.aload_n 0, 1) := by decide +kernel
theorem dX10_init_1 : decode cX10_init 1 = .ok (.invokespecial 1, 3) := by decide +kernel
theorem dX10_init_4 : decode cX10_init 4 = .ok (.aload_n 0, 1) := by decide +kernel
theorem dX10_init_5 : decode cX10_init 5 = .ok (.sipush 439, 3) := by decide +kernel
theorem dX10_init_8 : decode cX10_init 8 = .ok (.newarray .int, 2) := by decide +kernel
theorem dX10_init_10 : decode cX10_init 10 = .ok (.putfield 7, 3) := by decide +kernel
theorem dX10_init_13 : decode cX10_init 13 = .ok (.aload_n 0, 1) := by decide +kernel
theorem dX10_init_14 : decode cX10_init 14 = .ok (.sipush 439, 3) := by decide +kernel
theorem dX10_init_17 : decode cX10_init 17 = .ok (.newarray .int, 2) := by decide +kernel
theorem dX10_init_19 : decode cX10_init 19 = .ok (.putfield 13, 3) := by decide +kernel
theorem dX10_init_22 : decode cX10_init 22 = .ok (.aload_n 0, 1) := by decide +kernel
theorem dX10_init_23 : decode cX10_init 23 = .ok (.sipush 2634, 3) := by decide +kernel
theorem dX10_init_26 : decode cX10_init 26 = .ok (.newarray .int, 2) := by decide +kernel
theorem dX10_init_28 : decode cX10_init 28 = .ok (.putfield 16, 3) := by decide +kernel
theorem dX10_init_31 : decode cX10_init 31 = .ok (.aload_n 0, 1) := by decide +kernel
theorem dX10_init_32 : decode cX10_init 32 = .ok (.sipush 878, 3) := by decide +kernel
theorem dX10_init_35 : decode cX10_init 35 = .ok (.newarray .int, 2) := by decide +kernel
theorem dX10_init_37 : decode cX10_init 37 = .ok (.putfield 19, 3) := by decide +kernel
theorem dX10_init_40 : decode cX10_init 40 = .ok (.aload_n 0, 1) := by decide +kernel
theorem dX10_init_41 : decode cX10_init 41 = .ok (.iconst 2, 1) := by decide +kernel
theorem dX10_init_42 : decode cX10_init 42 = .ok (.newarray .boolean, 2) := by decide +kernel
theorem dX10_init_44 : decode cX10_init 44 = .ok (.putfield 22, 3) := by decide +kernel
theorem dX10_init_47 : decode cX10_init 47 = .ok (.aload_n 0, 1) := by decide +kernel
theorem dX10_init_48 : decode cX10_init 48 = .ok (.sipush 200, 3) := by decide +kernel
theorem dX10_init_51 : decode cX10_init 51 = .ok (.newarray .int, 2) := by decide +kernel
theorem dX10_init_53 : decode cX10_init 53 = .ok (.putfield 26, 3) := by decide +kernel
theorem dX10_init_56 : decode cX10_init 56 = .ok (.aload_n 0, 1) := by decide +kernel
theorem dX10_init_57 : decode cX10_init 57 = .ok (.bipush 16, 2) := by decide +kernel
theorem dX10_init_59 : decode cX10_init 59 = .ok (.newarray .int, 2) := by decide +kernel
theorem dX10_init_61 : decode cX10_init 61 = .ok (.putfield 29, 3) := by decide +kernel
theorem dX10_init_64 : decode cX10_init 64 = .ok (.aload_n 0, 1) := by decide +kernel
theorem dX10_init_65 : decode cX10_init 65 = .ok (.sipush 128, 3) := by decide +kernel
theorem dX10_init_68 : decode cX10_init 68 = .ok (.newarray .boolean, 2) := by decide +kernel
theorem dX10_init_70 : decode cX10_init 70 = .ok (.putfield 32, 3) := by decide +kernel
theorem dX10_init_73 : decode cX10_init 73 = .ok (.aload_n 0, 1) := by decide +kernel
theorem dX10_init_74 : decode cX10_init 74 = .ok (.sipush 128, 3) := by decide +kernel
theorem dX10_init_77 : decode cX10_init 77 = .ok (.newarray .int, 2) := by decide +kernel
theorem dX10_init_79 : decode cX10_init 79 = .ok (.putfield 35, 3) := by decide +kernel
theorem dX10_init_82 : decode cX10_init 82 = .ok (.aload_n 0, 1) := by decide +kernel
theorem dX10_init_83 : decode cX10_init 83 = .ok (.sipush 128, 3) := by decide +kernel
theorem dX10_init_86 : decode cX10_init 86 = .ok (.newarray .int, 2) := by decide +kernel
theorem dX10_init_88 : decode cX10_init 88 = .ok (.putfield 38, 3) := by decide +kernel
theorem dX10_init_91 : decode cX10_init 91 = .ok (.aload_n 0, 1) := by decide +kernel
theorem dX10_init_92 : decode cX10_init 92 = .ok (.iconst 3, 1) := by decide +kernel
theorem dX10_init_93 : decode cX10_init 93 = .ok (.newarray .int, 2) := by decide +kernel
theorem dX10_init_95 : decode cX10_init 95 = .ok (.putfield 41, 3) := by decide +kernel
theorem dX10_init_98 : decode cX10_init 98 = .ok (.aload_n 0, 1) := by decide +kernel
theorem dX10_init_99 : decode cX10_init 99 = .ok (.sipush 128, 3) := by decide +kernel
theorem dX10_init_102 : decode cX10_init 102 = .ok (.newarray .int, 2) := by decide +kernel
theorem dX10_init_104 : decode cX10_init 104 = .ok (.putfield 44, 3) := by decide +kernel
theorem dX10_init_107 : decode cX10_init 107 = .ok (.return_, 1) := by decide +kernel
theorem dX10_in_0 : decode cX10_in 0 = .ok (.iload_n 0, 1) := by decide +kernel
theorem dX10_in_1 : decode cX10_in 1 = .ok (.iload_n 1, 1) := by decide +kernel
theorem dX10_in_2 : decode cX10_in 2 = .ok (.if_icmp .lt 12, 3) := by decide +kernel
theorem dX10_in_5 : decode cX10_in 5 = .ok (.iload_n 0, 1) := by decide +kernel
theorem dX10_in_6 : decode cX10_in 6 = .ok (.iload_n 2, 1) := by decide +kernel
theorem dX10_in_7 : decode cX10_in 7 = .ok (.if_icmp .gt 7, 3) := by decide +kernel
theorem dX10_in_10 : decode cX10_in 10 = .ok (.iconst 1, 1) := by decide +kernel
theorem dX10_in_11 : decode cX10_in 11 = .ok (.goto 4, 3) := by decide +kernel
theorem dX10_in_14 : decode cX10_in 14 = .ok (.iconst 0, 1) := by decide +kernel
theorem dX10_in_15 : decode cX10_in 15 = .ok (.ireturn, 1) := by decide +kernel
theorem dX10_characterAt_0 : decode cX10_characterAt 0 = .ok (.iload_n 1, 1) := by decide +kernel
theorem dX10_characterAt_1 : decode cX10_characterAt 1 = .ok (.aload_n 0, 1) := by decide +kernel
theorem dX10_characterAt_2 : decode cX10_characterAt 2 = .ok (.getfield 51, 3) := by decide +kernel
theorem dX10_characterAt_5 : decode cX10_characterAt 5 = .ok (.if_icmp .ge 12, 3) := by decide +kernel
theorem dX10_characterAt_8 : decode cX10_characterAt 8 = .ok (.aload_n 0, 1) := by decide +kernel
theorem dX10_characterAt_9 : decode cX10_characterAt 9 = .ok (.getfield 26, 3) := by decide +kernel
theorem dX10_characterAt_12 : decode cX10_characterAt 12 = .ok (.iload_n 1, 1) := by decide +kernel
theorem dX10_characterAt_13 : decode cX10_characterAt 13 = .ok (.iaload, 1) := by decide +kernel
theorem dX10_characterAt_14 : decode cX10_characterAt 14 = .ok (.goto 4, 3) := by decide +kernel
theorem dX10_characterAt_17 : decode cX10_characterAt 17 = .ok (.iconst (-1), 1) := by decide +kernel
theorem dX10_characterAt_18 : decode cX10_characterAt 18 = .ok (.ireturn, 1) := by decide +kernel
theorem dX10_wordOf_0 : decode cX10_wordOf 0 = .ok (.aload_n 0, 1) := by decide +kernel
theorem dX10_wordOf_1 : decode cX10_wordOf 1 = .ok (.getfield 54, 3) := by decide +kernel
theorem dX10_wordOf_4 : decode cX10_wordOf 4 = .ok (.aload_n 0, 1) := by decide +kernel
theorem dX10_wordOf_5 : decode cX10_wordOf 5 = .ok (.getfield 57, 3) := by decide +kernel
theorem dX10_wordOf_8 : decode cX10_wordOf 8 = .ok (.isub, 1) := by decide +kernel
theorem dX10_wordOf_9 : decode cX10_wordOf 9 = .ok (.istore_n 1, 1) := by decide +kernel
theorem dX10_wordOf_10 : decode cX10_wordOf 10 = .ok (.aload_n 0, 1) := by decide +kernel
theorem dX10_wordOf_11 : decode cX10_wordOf 11 = .ok (.getfield 26, 3) := by decide +kernel
theorem dX10_wordOf_14 : decode cX10_wordOf 14 = .ok (.aload_n 0, 1) := by decide +kernel
theorem dX10_wordOf_15 : decode cX10_wordOf 15 = .ok (.getfield 57, 3) := by decide +kernel
theorem dX10_wordOf_18 : decode cX10_wordOf 18 = .ok (.iaload, 1) := by decide +kernel
theorem dX10_wordOf_19 : decode cX10_wordOf 19 = .ok (.istore_n 2, 1) := by decide +kernel
theorem dX10_wordOf_20 : decode cX10_wordOf 20 = .ok (.iload_n 1, 1) := by decide +kernel
theorem dX10_wordOf_21 : decode cX10_wordOf 21 = .ok (.iconst 1, 1) := by decide +kernel
theorem dX10_wordOf_22 : decode cX10_wordOf 22 = .ok (.if_icmp .ne 24, 3) := by decide +kernel
theorem dX10_wordOf_25 : decode cX10_wordOf 25 = .ok (.iload_n 2, 1) := by decide +kernel
theorem dX10_wordOf_26 : decode cX10_wordOf 26 = .ok (.bipush 97, 2) := by decide +kernel
theorem dX10_wordOf_28 : decode cX10_wordOf 28 = .ok (.bipush 104, 2) := by decide +kernel
theorem dX10_wordOf_30 : decode cX10_wordOf 30 = .ok (.invokestatic 60, 3) := by decide +kernel
theorem dX10_wordOf_33 : decode cX10_wordOf 33 = .ok (.ifCond .eq 10, 3) := by decide +kernel
theorem dX10_wordOf_36 : decode cX10_wordOf 36 = .ok (.iload_n 2, 1) := by decide +kernel
theorem dX10_wordOf_37 : decode cX10_wordOf 37 = .ok (.bipush 97, 2) := by decide +kernel
theorem dX10_wordOf_39 : decode cX10_wordOf 39 = .ok (.isub, 1) := by decide +kernel
theorem dX10_wordOf_40 : decode cX10_wordOf 40 = .ok (.goto 5, 3) := by decide +kernel
theorem dX10_wordOf_43 : decode cX10_wordOf 43 = .ok (.bipush (-9), 2) := by decide +kernel
theorem dX10_wordOf_45 : decode cX10_wordOf 45 = .ok (.ireturn, 1) := by decide +kernel
theorem dX10_wordOf_46 : decode cX10_wordOf 46 = .ok (.iload_n 1, 1) := by decide +kernel
theorem dX10_wordOf_47 : decode cX10_wordOf 47 = .ok (.iconst 3, 1) := by decide +kernel
theorem dX10_wordOf_48 : decode cX10_wordOf 48 = .ok (.if_icmp .ne 49, 3) := by decide +kernel
theorem dX10_wordOf_51 : decode cX10_wordOf 51 = .ok (.iload_n 2, 1) := by decide +kernel
theorem dX10_wordOf_52 : decode cX10_wordOf 52 = .ok (.bipush 110, 2) := by decide +kernel
theorem dX10_wordOf_54 : decode cX10_wordOf 54 = .ok (.if_icmp .ne 40, 3) := by decide +kernel
theorem dX10_wordOf_57 : decode cX10_wordOf 57 = .ok (.aload_n 0, 1) := by decide +kernel
theorem dX10_wordOf_58 : decode cX10_wordOf 58 = .ok (.getfield 26, 3) := by decide +kernel
theorem dX10_wordOf_61 : decode cX10_wordOf 61 = .ok (.aload_n 0, 1) := by decide +kernel
theorem dX10_wordOf_62 : decode cX10_wordOf 62 = .ok (.getfield 57, 3) := by decide +kernel
theorem dX10_wordOf_65 : decode cX10_wordOf 65 = .ok (.iconst 1, 1) := by decide +kernel
theorem dX10_wordOf_66 : decode cX10_wordOf 66 = .ok (.iadd, 1) := by decide +kernel
theorem dX10_wordOf_67 : decode cX10_wordOf 67 = .ok (.iaload, 1) := by decide +kernel
theorem dX10_wordOf_68 : decode cX10_wordOf 68 = .ok (.bipush 111, 2) := by decide +kernel
theorem dX10_wordOf_70 : decode cX10_wordOf 70 = .ok (.if_icmp .ne 24, 3) := by decide +kernel
theorem dX10_wordOf_73 : decode cX10_wordOf 73 = .ok (.aload_n 0, 1) := by decide +kernel
theorem dX10_wordOf_74 : decode cX10_wordOf 74 = .ok (.getfield 26, 3) := by decide +kernel
theorem dX10_wordOf_77 : decode cX10_wordOf 77 = .ok (.aload_n 0, 1) := by decide +kernel
theorem dX10_wordOf_78 : decode cX10_wordOf 78 = .ok (.getfield 57, 3) := by decide +kernel
theorem dX10_wordOf_81 : decode cX10_wordOf 81 = .ok (.iconst 2, 1) := by decide +kernel
theorem dX10_wordOf_82 : decode cX10_wordOf 82 = .ok (.iadd, 1) := by decide +kernel
theorem dX10_wordOf_83 : decode cX10_wordOf 83 = .ok (.iaload, 1) := by decide +kernel
theorem dX10_wordOf_84 : decode cX10_wordOf 84 = .ok (.bipush 116, 2) := by decide +kernel
theorem dX10_wordOf_86 : decode cX10_wordOf 86 = .ok (.if_icmp .ne 8, 3) := by decide +kernel
theorem dX10_wordOf_89 : decode cX10_wordOf 89 = .ok (.bipush 9, 2) := by decide +kernel
theorem dX10_wordOf_91 : decode cX10_wordOf 91 = .ok (.goto 5, 3) := by decide +kernel
theorem dX10_wordOf_94 : decode cX10_wordOf 94 = .ok (.bipush (-9), 2) := by decide +kernel
theorem dX10_wordOf_96 : decode cX10_wordOf 96 = .ok (.ireturn, 1) := by decide +kernel
theorem dX10_wordOf_97 : decode cX10_wordOf 97 = .ok (.iload_n 1, 1) := by decide +kernel
theorem dX10_wordOf_98 : decode cX10_wordOf 98 = .ok (.iconst 4, 1) := by decide +kernel
theorem dX10_wordOf_99 : decode cX10_wordOf 99 = .ok (.if_icmp .ne 62, 3) := by decide +kernel
theorem dX10_wordOf_102 : decode cX10_wordOf 102 = .ok (.iload_n 2, 1) := by decide +kernel
theorem dX10_wordOf_103 : decode cX10_wordOf 103 = .ok (.bipush 98, 2) := by decide +kernel
theorem dX10_wordOf_105 : decode cX10_wordOf 105 = .ok (.if_icmp .ne 56, 3) := by decide +kernel
theorem dX10_wordOf_108 : decode cX10_wordOf 108 = .ok (.aload_n 0, 1) := by decide +kernel
theorem dX10_wordOf_109 : decode cX10_wordOf 109 = .ok (.getfield 26, 3) := by decide +kernel
theorem dX10_wordOf_112 : decode cX10_wordOf 112 = .ok (.aload_n 0, 1) := by decide +kernel
theorem dX10_wordOf_113 : decode cX10_wordOf 113 = .ok (.getfield 57, 3) := by decide +kernel
theorem dX10_wordOf_116 : decode cX10_wordOf 116 = .ok (.iconst 1, 1) := by decide +kernel
theorem dX10_wordOf_117 : decode cX10_wordOf 117 = .ok (.iadd, 1) := by decide +kernel
theorem dX10_wordOf_118 : decode cX10_wordOf 118 = .ok (.iaload, 1) := by decide +kernel
theorem dX10_wordOf_119 : decode cX10_wordOf 119 = .ok (.bipush 105, 2) := by decide +kernel
theorem dX10_wordOf_121 : decode cX10_wordOf 121 = .ok (.if_icmp .ne 40, 3) := by decide +kernel
theorem dX10_wordOf_124 : decode cX10_wordOf 124 = .ok (.aload_n 0, 1) := by decide +kernel
theorem dX10_wordOf_125 : decode cX10_wordOf 125 = .ok (.getfield 26, 3) := by decide +kernel
theorem dX10_wordOf_128 : decode cX10_wordOf 128 = .ok (.aload_n 0, 1) := by decide +kernel
theorem dX10_wordOf_129 : decode cX10_wordOf 129 = .ok (.getfield 57, 3) := by decide +kernel
theorem dX10_wordOf_132 : decode cX10_wordOf 132 = .ok (.iconst 2, 1) := by decide +kernel
theorem dX10_wordOf_133 : decode cX10_wordOf 133 = .ok (.iadd, 1) := by decide +kernel
theorem dX10_wordOf_134 : decode cX10_wordOf 134 = .ok (.iaload, 1) := by decide +kernel
theorem dX10_wordOf_135 : decode cX10_wordOf 135 = .ok (.bipush 116, 2) := by decide +kernel
theorem dX10_wordOf_137 : decode cX10_wordOf 137 = .ok (.if_icmp .ne 24, 3) := by decide +kernel
theorem dX10_wordOf_140 : decode cX10_wordOf 140 = .ok (.aload_n 0, 1) := by decide +kernel
theorem dX10_wordOf_141 : decode cX10_wordOf 141 = .ok (.getfield 26, 3) := by decide +kernel
theorem dX10_wordOf_144 : decode cX10_wordOf 144 = .ok (.aload_n 0, 1) := by decide +kernel
theorem dX10_wordOf_145 : decode cX10_wordOf 145 = .ok (.getfield 57, 3) := by decide +kernel
theorem dX10_wordOf_148 : decode cX10_wordOf 148 = .ok (.iconst 3, 1) := by decide +kernel
theorem dX10_wordOf_149 : decode cX10_wordOf 149 = .ok (.iadd, 1) := by decide +kernel
theorem dX10_wordOf_150 : decode cX10_wordOf 150 = .ok (.iaload, 1) := by decide +kernel
theorem dX10_wordOf_151 : decode cX10_wordOf 151 = .ok (.bipush 115, 2) := by decide +kernel
theorem dX10_wordOf_153 : decode cX10_wordOf 153 = .ok (.if_icmp .ne 8, 3) := by decide +kernel
theorem dX10_wordOf_156 : decode cX10_wordOf 156 = .ok (.bipush 8, 2) := by decide +kernel
theorem dX10_wordOf_158 : decode cX10_wordOf 158 = .ok (.goto 5, 3) := by decide +kernel
theorem dX10_wordOf_161 : decode cX10_wordOf 161 = .ok (.bipush (-9), 2) := by decide +kernel
theorem dX10_wordOf_163 : decode cX10_wordOf 163 = .ok (.ireturn, 1) := by decide +kernel
theorem dX10_isSignCharacter_0 : decode cX10_isSignCharacter 0 = .ok (.iload_n 0, 1) := by decide +kernel
theorem dX10_isSignCharacter_1 : decode cX10_isSignCharacter 1 = .ok (.bipush 59, 2) := by decide +kernel
theorem dX10_isSignCharacter_3 : decode cX10_isSignCharacter 3 = .ok (.if_icmp .eq 39, 3) := by decide +kernel
theorem dX10_isSignCharacter_6 : decode cX10_isSignCharacter 6 = .ok (.iload_n 0, 1) := by decide +kernel
theorem dX10_isSignCharacter_7 : decode cX10_isSignCharacter 7 = .ok (.bipush 61, 2) := by decide +kernel
theorem dX10_isSignCharacter_9 : decode cX10_isSignCharacter 9 = .ok (.if_icmp .eq 33, 3) := by decide +kernel
theorem dX10_isSignCharacter_12 : decode cX10_isSignCharacter 12 = .ok (.iload_n 0, 1) := by decide +kernel
theorem dX10_isSignCharacter_13 : decode cX10_isSignCharacter 13 = .ok (.bipush 46, 2) := by decide +kernel
theorem dX10_isSignCharacter_15 : decode cX10_isSignCharacter 15 = .ok (.if_icmp .eq 27, 3) := by decide +kernel
theorem dX10_isSignCharacter_18 : decode cX10_isSignCharacter 18 = .ok (.iload_n 0, 1) := by decide +kernel
theorem dX10_isSignCharacter_19 : decode cX10_isSignCharacter 19 = .ok (.bipush 91, 2) := by decide +kernel
theorem dX10_isSignCharacter_21 : decode cX10_isSignCharacter 21 = .ok (.if_icmp .eq 21, 3) := by decide +kernel
theorem dX10_isSignCharacter_24 : decode cX10_isSignCharacter 24 = .ok (.iload_n 0, 1) := by decide +kernel
theorem dX10_isSignCharacter_25 : decode cX10_isSignCharacter 25 = .ok (.bipush 58, 2) := by decide +kernel
theorem dX10_isSignCharacter_27 : decode cX10_isSignCharacter 27 = .ok (.if_icmp .eq 15, 3) := by decide +kernel
theorem dX10_isSignCharacter_30 : decode cX10_isSignCharacter 30 = .ok (.iload_n 0, 1) := by decide +kernel
theorem dX10_isSignCharacter_31 : decode cX10_isSignCharacter 31 = .ok (.bipush 93, 2) := by decide +kernel
theorem dX10_isSignCharacter_33 : decode cX10_isSignCharacter 33 = .ok (.if_icmp .eq 9, 3) := by decide +kernel
theorem dX10_isSignCharacter_36 : decode cX10_isSignCharacter 36 = .ok (.iload_n 0, 1) := by decide +kernel
theorem dX10_isSignCharacter_37 : decode cX10_isSignCharacter 37 = .ok (.bipush 37, 2) := by decide +kernel
theorem dX10_isSignCharacter_39 : decode cX10_isSignCharacter 39 = .ok (.if_icmp .ne 7, 3) := by decide +kernel
theorem dX10_isSignCharacter_42 : decode cX10_isSignCharacter 42 = .ok (.iconst 1, 1) := by decide +kernel
theorem dX10_isSignCharacter_43 : decode cX10_isSignCharacter 43 = .ok (.goto 4, 3) := by decide +kernel
theorem dX10_isSignCharacter_46 : decode cX10_isSignCharacter 46 = .ok (.iconst 0, 1) := by decide +kernel
theorem dX10_isSignCharacter_47 : decode cX10_isSignCharacter 47 = .ok (.ireturn, 1) := by decide +kernel
theorem dX10_advance_0 : decode cX10_advance 0 = .ok (.aload_n 0, 1) := by decide +kernel
theorem dX10_advance_1 : decode cX10_advance 1 = .ok (.aload_n 0, 1) := by decide +kernel
theorem dX10_advance_2 : decode cX10_advance 2 = .ok (.getfield 54, 3) := by decide +kernel
theorem dX10_advance_5 : decode cX10_advance 5 = .ok (.invokevirtual 64, 3) := by decide +kernel
theorem dX10_advance_8 : decode cX10_advance 8 = .ok (.bipush 32, 2) := by decide +kernel
theorem dX10_advance_10 : decode cX10_advance 10 = .ok (.if_icmp .ne 16, 3) := by decide +kernel
theorem dX10_advance_13 : decode cX10_advance 13 = .ok (.aload_n 0, 1) := by decide +kernel
theorem dX10_advance_14 : decode cX10_advance 14 = .ok (.dup, 1) := by decide +kernel
theorem dX10_advance_15 : decode cX10_advance 15 = .ok (.getfield 54, 3) := by decide +kernel
theorem dX10_advance_18 : decode cX10_advance 18 = .ok (.iconst 1, 1) := by decide +kernel
theorem dX10_advance_19 : decode cX10_advance 19 = .ok (.iadd, 1) := by decide +kernel
theorem dX10_advance_20 : decode cX10_advance 20 = .ok (.putfield 54, 3) := by decide +kernel
theorem dX10_advance_23 : decode cX10_advance 23 = .ok (.goto (-23), 3) := by decide +kernel
theorem dX10_advance_26 : decode cX10_advance 26 = .ok (.aload_n 0, 1) := by decide +kernel
theorem dX10_advance_27 : decode cX10_advance 27 = .ok (.aload_n 0, 1) := by decide +kernel
theorem dX10_advance_28 : decode cX10_advance 28 = .ok (.getfield 54, 3) := by decide +kernel
theorem dX10_advance_31 : decode cX10_advance 31 = .ok (.putfield 57, 3) := by decide +kernel
theorem dX10_advance_34 : decode cX10_advance 34 = .ok (.aload_n 0, 1) := by decide +kernel
theorem dX10_advance_35 : decode cX10_advance 35 = .ok (.aload_n 0, 1) := by decide +kernel
theorem dX10_advance_36 : decode cX10_advance 36 = .ok (.getfield 54, 3) := by decide +kernel
theorem dX10_advance_39 : decode cX10_advance 39 = .ok (.invokevirtual 64, 3) := by decide +kernel
theorem dX10_advance_42 : decode cX10_advance 42 = .ok (.istore_n 1, 1) := by decide +kernel
theorem dX10_advance_43 : decode cX10_advance 43 = .ok (.aload_n 0, 1) := by decide +kernel
theorem dX10_advance_44 : decode cX10_advance 44 = .ok (.iload_n 1, 1) := by decide +kernel
theorem dX10_advance_45 : decode cX10_advance 45 = .ok (.putfield 68, 3) := by decide +kernel
theorem dX10_advance_48 : decode cX10_advance 48 = .ok (.iload_n 1, 1) := by decide +kernel
theorem dX10_advance_49 : decode cX10_advance 49 = .ok (.ifCond .ge 11, 3) := by decide +kernel
theorem dX10_advance_52 : decode cX10_advance 52 = .ok (.aload_n 0, 1) := by decide +kernel
theorem dX10_advance_53 : decode cX10_advance 53 = .ok (.iconst 0, 1) := by decide +kernel
theorem dX10_advance_54 : decode cX10_advance 54 = .ok (.putfield 71, 3) := by decide +kernel
theorem dX10_advance_57 : decode cX10_advance 57 = .ok (.goto 243, 3) := by decide +kernel
theorem dX10_advance_60 : decode cX10_advance 60 = .ok (.iload_n 1, 1) := by decide +kernel
theorem dX10_advance_61 : decode cX10_advance 61 = .ok (.bipush 97, 2) := by decide +kernel
theorem dX10_advance_63 : decode cX10_advance 63 = .ok (.bipush 122, 2) := by decide +kernel
end
section
theorem dX10_advance_65 : decode cX10_advance 65 = .ok (.invokestatic 60, 3) := by decide +kernel
theorem dX10_advance_68 : decode cX10_advance 68 = .ok (.ifCond .eq 63, 3) := by decide +kernel
theorem dX10_advance_71 : decode cX10_advance 71 = .ok (.aload_n 0, 1) := by decide +kernel
theorem dX10_advance_72 : decode cX10_advance 72 = .ok (.aload_n 0, 1) := by decide +kernel
theorem dX10_advance_73 : decode cX10_advance 73 = .ok (.getfield 54, 3) := by decide +kernel
theorem dX10_advance_76 : decode cX10_advance 76 = .ok (.invokevirtual 64, 3) := by decide +kernel
theorem dX10_advance_79 : decode cX10_advance 79 = .ok (.bipush 97, 2) := by decide +kernel
theorem dX10_advance_81 : decode cX10_advance 81 = .ok (.bipush 122, 2) := by decide +kernel
theorem dX10_advance_83 : decode cX10_advance 83 = .ok (.invokestatic 60, 3) := by decide +kernel
theorem dX10_advance_86 : decode cX10_advance 86 = .ok (.ifCond .eq 16, 3) := by decide +kernel
theorem dX10_advance_89 : decode cX10_advance 89 = .ok (.aload_n 0, 1) := by decide +kernel
theorem dX10_advance_90 : decode cX10_advance 90 = .ok (.dup, 1) := by decide +kernel
theorem dX10_advance_91 : decode cX10_advance 91 = .ok (.getfield 54, 3) := by decide +kernel
theorem dX10_advance_94 : decode cX10_advance 94 = .ok (.iconst 1, 1) := by decide +kernel
theorem dX10_advance_95 : decode cX10_advance 95 = .ok (.iadd, 1) := by decide +kernel
theorem dX10_advance_96 : decode cX10_advance 96 = .ok (.putfield 54, 3) := by decide +kernel
theorem dX10_advance_99 : decode cX10_advance 99 = .ok (.goto (-28), 3) := by decide +kernel
theorem dX10_advance_102 : decode cX10_advance 102 = .ok (.aload_n 0, 1) := by decide +kernel
theorem dX10_advance_103 : decode cX10_advance 103 = .ok (.aload_n 0, 1) := by decide +kernel
theorem dX10_advance_104 : decode cX10_advance 104 = .ok (.invokevirtual 74, 3) := by decide +kernel
theorem dX10_advance_107 : decode cX10_advance 107 = .ok (.putfield 68, 3) := by decide +kernel
theorem dX10_advance_110 : decode cX10_advance 110 = .ok (.aload_n 0, 1) := by decide +kernel
theorem dX10_advance_111 : decode cX10_advance 111 = .ok (.aload_n 0, 1) := by decide +kernel
theorem dX10_advance_112 : decode cX10_advance 112 = .ok (.getfield 68, 3) := by decide +kernel
theorem dX10_advance_115 : decode cX10_advance 115 = .ok (.bipush (-9), 2) := by decide +kernel
theorem dX10_advance_117 : decode cX10_advance 117 = .ok (.if_icmp .ne 7, 3) := by decide +kernel
theorem dX10_advance_120 : decode cX10_advance 120 = .ok (.iconst 4, 1) := by decide +kernel
theorem dX10_advance_121 : decode cX10_advance 121 = .ok (.goto 4, 3) := by decide +kernel
theorem dX10_advance_124 : decode cX10_advance 124 = .ok (.iconst 1, 1) := by decide +kernel
theorem dX10_advance_125 : decode cX10_advance 125 = .ok (.putfield 71, 3) := by decide +kernel
theorem dX10_advance_128 : decode cX10_advance 128 = .ok (.goto 172, 3) := by decide +kernel
theorem dX10_advance_131 : decode cX10_advance 131 = .ok (.iload_n 1, 1) := by decide +kernel
theorem dX10_advance_132 : decode cX10_advance 132 = .ok (.bipush 48, 2) := by decide +kernel
theorem dX10_advance_134 : decode cX10_advance 134 = .ok (.bipush 57, 2) := by decide +kernel
theorem dX10_advance_136 : decode cX10_advance 136 = .ok (.invokestatic 60, 3) := by decide +kernel
theorem dX10_advance_139 : decode cX10_advance 139 = .ok (.ifCond .eq 135, 3) := by decide +kernel
theorem dX10_advance_142 : decode cX10_advance 142 = .ok (.aload_n 0, 1) := by decide +kernel
theorem dX10_advance_143 : decode cX10_advance 143 = .ok (.aload_n 0, 1) := by decide +kernel
theorem dX10_advance_144 : decode cX10_advance 144 = .ok (.getfield 54, 3) := by decide +kernel
theorem dX10_advance_147 : decode cX10_advance 147 = .ok (.invokevirtual 64, 3) := by decide +kernel
theorem dX10_advance_150 : decode cX10_advance 150 = .ok (.bipush 48, 2) := by decide +kernel
theorem dX10_advance_152 : decode cX10_advance 152 = .ok (.bipush 57, 2) := by decide +kernel
theorem dX10_advance_154 : decode cX10_advance 154 = .ok (.invokestatic 60, 3) := by decide +kernel
theorem dX10_advance_157 : decode cX10_advance 157 = .ok (.ifCond .eq 16, 3) := by decide +kernel
theorem dX10_advance_160 : decode cX10_advance 160 = .ok (.aload_n 0, 1) := by decide +kernel
theorem dX10_advance_161 : decode cX10_advance 161 = .ok (.dup, 1) := by decide +kernel
theorem dX10_advance_162 : decode cX10_advance 162 = .ok (.getfield 54, 3) := by decide +kernel
theorem dX10_advance_165 : decode cX10_advance 165 = .ok (.iconst 1, 1) := by decide +kernel
theorem dX10_advance_166 : decode cX10_advance 166 = .ok (.iadd, 1) := by decide +kernel
theorem dX10_advance_167 : decode cX10_advance 167 = .ok (.putfield 54, 3) := by decide +kernel
theorem dX10_advance_170 : decode cX10_advance 170 = .ok (.goto (-28), 3) := by decide +kernel
theorem dX10_advance_173 : decode cX10_advance 173 = .ok (.aload_n 0, 1) := by decide +kernel
theorem dX10_advance_174 : decode cX10_advance 174 = .ok (.getfield 54, 3) := by decide +kernel
theorem dX10_advance_177 : decode cX10_advance 177 = .ok (.aload_n 0, 1) := by decide +kernel
theorem dX10_advance_178 : decode cX10_advance 178 = .ok (.getfield 57, 3) := by decide +kernel
theorem dX10_advance_181 : decode cX10_advance 181 = .ok (.isub, 1) := by decide +kernel
theorem dX10_advance_182 : decode cX10_advance 182 = .ok (.iconst 1, 1) := by decide +kernel
theorem dX10_advance_183 : decode cX10_advance 183 = .ok (.if_icmp .eq 22, 3) := by decide +kernel
theorem dX10_advance_186 : decode cX10_advance 186 = .ok (.aload_n 0, 1) := by decide +kernel
theorem dX10_advance_187 : decode cX10_advance 187 = .ok (.getfield 54, 3) := by decide +kernel
theorem dX10_advance_190 : decode cX10_advance 190 = .ok (.aload_n 0, 1) := by decide +kernel
theorem dX10_advance_191 : decode cX10_advance 191 = .ok (.getfield 57, 3) := by decide +kernel
theorem dX10_advance_194 : decode cX10_advance 194 = .ok (.isub, 1) := by decide +kernel
theorem dX10_advance_195 : decode cX10_advance 195 = .ok (.iconst 2, 1) := by decide +kernel
theorem dX10_advance_196 : decode cX10_advance 196 = .ok (.if_icmp .ne 13, 3) := by decide +kernel
theorem dX10_advance_199 : decode cX10_advance 199 = .ok (.iload_n 1, 1) := by decide +kernel
theorem dX10_advance_200 : decode cX10_advance 200 = .ok (.bipush 48, 2) := by decide +kernel
theorem dX10_advance_202 : decode cX10_advance 202 = .ok (.if_icmp .eq 7, 3) := by decide +kernel
theorem dX10_advance_205 : decode cX10_advance 205 = .ok (.iconst 1, 1) := by decide +kernel
theorem dX10_advance_206 : decode cX10_advance 206 = .ok (.goto 4, 3) := by decide +kernel
theorem dX10_advance_209 : decode cX10_advance 209 = .ok (.iconst 0, 1) := by decide +kernel
theorem dX10_advance_210 : decode cX10_advance 210 = .ok (.istore_n 2, 1) := by decide +kernel
theorem dX10_advance_211 : decode cX10_advance 211 = .ok (.aload_n 0, 1) := by decide +kernel
theorem dX10_advance_212 : decode cX10_advance 212 = .ok (.iload_n 2, 1) := by decide +kernel
theorem dX10_advance_213 : decode cX10_advance 213 = .ok (.ifCond .ne 8, 3) := by decide +kernel
theorem dX10_advance_216 : decode cX10_advance 216 = .ok (.bipush (-9), 2) := by decide +kernel
theorem dX10_advance_218 : decode cX10_advance 218 = .ok (.goto 45, 3) := by decide +kernel
theorem dX10_advance_221 : decode cX10_advance 221 = .ok (.aload_n 0, 1) := by decide +kernel
theorem dX10_advance_222 : decode cX10_advance 222 = .ok (.getfield 54, 3) := by decide +kernel
theorem dX10_advance_225 : decode cX10_advance 225 = .ok (.aload_n 0, 1) := by decide +kernel
theorem dX10_advance_226 : decode cX10_advance 226 = .ok (.getfield 57, 3) := by decide +kernel
theorem dX10_advance_229 : decode cX10_advance 229 = .ok (.isub, 1) := by decide +kernel
theorem dX10_advance_230 : decode cX10_advance 230 = .ok (.iconst 1, 1) := by decide +kernel
theorem dX10_advance_231 : decode cX10_advance 231 = .ok (.if_icmp .ne 10, 3) := by decide +kernel
theorem dX10_advance_234 : decode cX10_advance 234 = .ok (.iload_n 1, 1) := by decide +kernel
theorem dX10_advance_235 : decode cX10_advance 235 = .ok (.bipush 48, 2) := by decide +kernel
theorem dX10_advance_237 : decode cX10_advance 237 = .ok (.isub, 1) := by decide +kernel
theorem dX10_advance_238 : decode cX10_advance 238 = .ok (.goto 25, 3) := by decide +kernel
theorem dX10_advance_241 : decode cX10_advance 241 = .ok (.bipush 10, 2) := by decide +kernel
theorem dX10_advance_243 : decode cX10_advance 243 = .ok (.iload_n 1, 1) := by decide +kernel
theorem dX10_advance_244 : decode cX10_advance 244 = .ok (.bipush 48, 2) := by decide +kernel
theorem dX10_advance_246 : decode cX10_advance 246 = .ok (.isub, 1) := by decide +kernel
theorem dX10_advance_247 : decode cX10_advance 247 = .ok (.imul, 1) := by decide +kernel
theorem dX10_advance_248 : decode cX10_advance 248 = .ok (.aload_n 0, 1) := by decide +kernel
theorem dX10_advance_249 : decode cX10_advance 249 = .ok (.getfield 26, 3) := by decide +kernel
theorem dX10_advance_252 : decode cX10_advance 252 = .ok (.aload_n 0, 1) := by decide +kernel
theorem dX10_advance_253 : decode cX10_advance 253 = .ok (.getfield 57, 3) := by decide +kernel
theorem dX10_advance_256 : decode cX10_advance 256 = .ok (.iconst 1, 1) := by decide +kernel
theorem dX10_advance_257 : decode cX10_advance 257 = .ok (.iadd, 1) := by decide +kernel
theorem dX10_advance_258 : decode cX10_advance 258 = .ok (.iaload, 1) := by decide +kernel
theorem dX10_advance_259 : decode cX10_advance 259 = .ok (.iadd, 1) := by decide +kernel
theorem dX10_advance_260 : decode cX10_advance 260 = .ok (.bipush 48, 2) := by decide +kernel
theorem dX10_advance_262 : decode cX10_advance 262 = .ok (.isub, 1) := by decide +kernel
theorem dX10_advance_263 : decode cX10_advance 263 = .ok (.putfield 68, 3) := by decide +kernel
theorem dX10_advance_266 : decode cX10_advance 266 = .ok (.aload_n 0, 1) := by decide +kernel
theorem dX10_advance_267 : decode cX10_advance 267 = .ok (.iconst 2, 1) := by decide +kernel
theorem dX10_advance_268 : decode cX10_advance 268 = .ok (.putfield 71, 3) := by decide +kernel
theorem dX10_advance_271 : decode cX10_advance 271 = .ok (.goto 29, 3) := by decide +kernel
theorem dX10_advance_274 : decode cX10_advance 274 = .ok (.aload_n 0, 1) := by decide +kernel
theorem dX10_advance_275 : decode cX10_advance 275 = .ok (.dup, 1) := by decide +kernel
theorem dX10_advance_276 : decode cX10_advance 276 = .ok (.getfield 54, 3) := by decide +kernel
theorem dX10_advance_279 : decode cX10_advance 279 = .ok (.iconst 1, 1) := by decide +kernel
theorem dX10_advance_280 : decode cX10_advance 280 = .ok (.iadd, 1) := by decide +kernel
theorem dX10_advance_281 : decode cX10_advance 281 = .ok (.putfield 54, 3) := by decide +kernel
theorem dX10_advance_284 : decode cX10_advance 284 = .ok (.aload_n 0, 1) := by decide +kernel
theorem dX10_advance_285 : decode cX10_advance 285 = .ok (.iload_n 1, 1) := by decide +kernel
theorem dX10_advance_286 : decode cX10_advance 286 = .ok (.invokestatic 78, 3) := by decide +kernel
theorem dX10_advance_289 : decode cX10_advance 289 = .ok (.ifCond .eq 7, 3) := by decide +kernel
theorem dX10_advance_292 : decode cX10_advance 292 = .ok (.iconst 3, 1) := by decide +kernel
theorem dX10_advance_293 : decode cX10_advance 293 = .ok (.goto 4, 3) := by decide +kernel
theorem dX10_advance_296 : decode cX10_advance 296 = .ok (.iconst 4, 1) := by decide +kernel
theorem dX10_advance_297 : decode cX10_advance 297 = .ok (.putfield 71, 3) := by decide +kernel
theorem dX10_advance_300 : decode cX10_advance 300 = .ok (.return_, 1) := by decide +kernel
theorem dX10_isFine_0 : decode cX10_isFine 0 = .ok (.aload_n 0, 1) := by decide +kernel
theorem dX10_isFine_1 : decode cX10_isFine 1 = .ok (.getfield 82, 3) := by decide +kernel
theorem dX10_isFine_4 : decode cX10_isFine 4 = .ok (.bipush (-9), 2) := by decide +kernel
theorem dX10_isFine_6 : decode cX10_isFine 6 = .ok (.if_icmp .ne 7, 3) := by decide +kernel
theorem dX10_isFine_9 : decode cX10_isFine 9 = .ok (.iconst 1, 1) := by decide +kernel
theorem dX10_isFine_10 : decode cX10_isFine 10 = .ok (.goto 4, 3) := by decide +kernel
theorem dX10_isFine_13 : decode cX10_isFine 13 = .ok (.iconst 0, 1) := by decide +kernel
theorem dX10_isFine_14 : decode cX10_isFine 14 = .ok (.ireturn, 1) := by decide +kernel
theorem dX10_take_0 : decode cX10_take 0 = .ok (.aload_n 0, 1) := by decide +kernel
theorem dX10_take_1 : decode cX10_take 1 = .ok (.getfield 68, 3) := by decide +kernel
theorem dX10_take_4 : decode cX10_take 4 = .ok (.istore_n 2, 1) := by decide +kernel
theorem dX10_take_5 : decode cX10_take 5 = .ok (.aload_n 0, 1) := by decide +kernel
theorem dX10_take_6 : decode cX10_take 6 = .ok (.invokevirtual 85, 3) := by decide +kernel
theorem dX10_take_9 : decode cX10_take 9 = .ok (.ifCond .eq 22, 3) := by decide +kernel
theorem dX10_take_12 : decode cX10_take 12 = .ok (.iload_n 1, 1) := by decide +kernel
theorem dX10_take_13 : decode cX10_take 13 = .ok (.ifCond .eq 10, 3) := by decide +kernel
theorem dX10_take_16 : decode cX10_take 16 = .ok (.aload_n 0, 1) := by decide +kernel
theorem dX10_take_17 : decode cX10_take 17 = .ok (.invokevirtual 89, 3) := by decide +kernel
theorem dX10_take_20 : decode cX10_take 20 = .ok (.goto 11, 3) := by decide +kernel
theorem dX10_take_23 : decode cX10_take 23 = .ok (.aload_n 0, 1) := by decide +kernel
theorem dX10_take_24 : decode cX10_take 24 = .ok (.aload_n 0, 1) := by decide +kernel
theorem dX10_take_25 : decode cX10_take 25 = .ok (.getfield 57, 3) := by decide +kernel
theorem dX10_take_28 : decode cX10_take 28 = .ok (.putfield 82, 3) := by decide +kernel
theorem dX10_take_31 : decode cX10_take 31 = .ok (.iload_n 2, 1) := by decide +kernel
theorem dX10_take_32 : decode cX10_take 32 = .ok (.ireturn, 1) := by decide +kernel
theorem dX10_isSign_0 : decode cX10_isSign 0 = .ok (.aload_n 0, 1) := by decide +kernel
theorem dX10_isSign_1 : decode cX10_isSign 1 = .ok (.getfield 71, 3) := by decide +kernel
theorem dX10_isSign_4 : decode cX10_isSign 4 = .ok (.iconst 3, 1) := by decide +kernel
theorem dX10_isSign_5 : decode cX10_isSign 5 = .ok (.if_icmp .ne 15, 3) := by decide +kernel
theorem dX10_isSign_8 : decode cX10_isSign 8 = .ok (.aload_n 0, 1) := by decide +kernel
theorem dX10_isSign_9 : decode cX10_isSign 9 = .ok (.getfield 68, 3) := by decide +kernel
theorem dX10_isSign_12 : decode cX10_isSign 12 = .ok (.iload_n 1, 1) := by decide +kernel
theorem dX10_isSign_13 : decode cX10_isSign 13 = .ok (.if_icmp .ne 7, 3) := by decide +kernel
theorem dX10_isSign_16 : decode cX10_isSign 16 = .ok (.iconst 1, 1) := by decide +kernel
theorem dX10_isSign_17 : decode cX10_isSign 17 = .ok (.goto 4, 3) := by decide +kernel
theorem dX10_isSign_20 : decode cX10_isSign 20 = .ok (.iconst 0, 1) := by decide +kernel
theorem dX10_isSign_21 : decode cX10_isSign 21 = .ok (.ireturn, 1) := by decide +kernel
theorem dX10_number_0 : decode cX10_number 0 = .ok (.aload_n 0, 1) := by decide +kernel
theorem dX10_number_1 : decode cX10_number 1 = .ok (.aload_n 0, 1) := by decide +kernel
theorem dX10_number_2 : decode cX10_number 2 = .ok (.getfield 71, 3) := by decide +kernel
theorem dX10_number_5 : decode cX10_number 5 = .ok (.iconst 2, 1) := by decide +kernel
theorem dX10_number_6 : decode cX10_number 6 = .ok (.if_icmp .ne 19, 3) := by decide +kernel
theorem dX10_number_9 : decode cX10_number 9 = .ok (.aload_n 0, 1) := by decide +kernel
theorem dX10_number_10 : decode cX10_number 10 = .ok (.getfield 68, 3) := by decide +kernel
theorem dX10_number_13 : decode cX10_number 13 = .ok (.iload_n 1, 1) := by decide +kernel
theorem dX10_number_14 : decode cX10_number 14 = .ok (.iload_n 2, 1) := by decide +kernel
theorem dX10_number_15 : decode cX10_number 15 = .ok (.invokestatic 60, 3) := by decide +kernel
theorem dX10_number_18 : decode cX10_number 18 = .ok (.ifCond .eq 7, 3) := by decide +kernel
theorem dX10_number_21 : decode cX10_number 21 = .ok (.iconst 1, 1) := by decide +kernel
theorem dX10_number_22 : decode cX10_number 22 = .ok (.goto 4, 3) := by decide +kernel
theorem dX10_number_25 : decode cX10_number 25 = .ok (.iconst 0, 1) := by decide +kernel
theorem dX10_number_26 : decode cX10_number 26 = .ok (.invokevirtual 92, 3) := by decide +kernel
theorem dX10_number_29 : decode cX10_number 29 = .ok (.ireturn, 1) := by decide +kernel
theorem dX10_isName_0 : decode cX10_isName 0 = .ok (.aload_n 0, 1) := by decide +kernel
theorem dX10_isName_1 : decode cX10_isName 1 = .ok (.getfield 71, 3) := by decide +kernel
theorem dX10_isName_4 : decode cX10_isName 4 = .ok (.iconst 1, 1) := by decide +kernel
theorem dX10_isName_5 : decode cX10_isName 5 = .ok (.if_icmp .ne 16, 3) := by decide +kernel
theorem dX10_isName_8 : decode cX10_isName 8 = .ok (.aload_n 0, 1) := by decide +kernel
theorem dX10_isName_9 : decode cX10_isName 9 = .ok (.getfield 68, 3) := by decide +kernel
theorem dX10_isName_12 : decode cX10_isName 12 = .ok (.bipush 8, 2) := by decide +kernel
theorem dX10_isName_14 : decode cX10_isName 14 = .ok (.if_icmp .ge 7, 3) := by decide +kernel
theorem dX10_isName_17 : decode cX10_isName 17 = .ok (.iconst 1, 1) := by decide +kernel
theorem dX10_isName_18 : decode cX10_isName 18 = .ok (.goto 4, 3) := by decide +kernel
theorem dX10_isName_21 : decode cX10_isName 21 = .ok (.iconst 0, 1) := by decide +kernel
theorem dX10_isName_22 : decode cX10_isName 22 = .ok (.ireturn, 1) := by decide +kernel
theorem dX10_addBit_0 : decode cX10_addBit 0 = .ok (.aload_n 0, 1) := by decide +kernel
theorem dX10_addBit_1 : decode cX10_addBit 1 = .ok (.getfield 96, 3) := by decide +kernel
theorem dX10_addBit_4 : decode cX10_addBit 4 = .ok (.bipush 16, 2) := by decide +kernel
theorem dX10_addBit_6 : decode cX10_addBit 6 = .ok (.if_icmp .ge 22, 3) := by decide +kernel
theorem dX10_addBit_9 : decode cX10_addBit 9 = .ok (.aload_n 0, 1) := by decide +kernel
theorem dX10_addBit_10 : decode cX10_addBit 10 = .ok (.getfield 29, 3) := by decide +kernel
theorem dX10_addBit_13 : decode cX10_addBit 13 = .ok (.aload_n 0, 1) := by decide +kernel
theorem dX10_addBit_14 : decode cX10_addBit 14 = .ok (.getfield 96, 3) := by decide +kernel
theorem dX10_addBit_17 : decode cX10_addBit 17 = .ok (.iload_n 1, 1) := by decide +kernel
theorem dX10_addBit_18 : decode cX10_addBit 18 = .ok (.sipush 256, 3) := by decide +kernel
theorem dX10_addBit_21 : decode cX10_addBit 21 = .ok (.aload_n 0, 1) := by decide +kernel
theorem dX10_addBit_22 : decode cX10_addBit 22 = .ok (.getfield 99, 3) := by decide +kernel
theorem dX10_addBit_25 : decode cX10_addBit 25 = .ok (.imul, 1) := by decide +kernel
theorem dX10_addBit_26 : decode cX10_addBit 26 = .ok (.iadd, 1) := by decide +kernel
theorem dX10_addBit_27 : decode cX10_addBit 27 = .ok (.iastore, 1) := by decide +kernel
theorem dX10_addBit_28 : decode cX10_addBit 28 = .ok (.aload_n 0, 1) := by decide +kernel
theorem dX10_addBit_29 : decode cX10_addBit 29 = .ok (.dup, 1) := by decide +kernel
theorem dX10_addBit_30 : decode cX10_addBit 30 = .ok (.getfield 96, 3) := by decide +kernel
theorem dX10_addBit_33 : decode cX10_addBit 33 = .ok (.iconst 1, 1) := by decide +kernel
theorem dX10_addBit_34 : decode cX10_addBit 34 = .ok (.iadd, 1) := by decide +kernel
theorem dX10_addBit_35 : decode cX10_addBit 35 = .ok (.putfield 96, 3) := by decide +kernel
theorem dX10_addBit_38 : decode cX10_addBit 38 = .ok (.return_, 1) := by decide +kernel
theorem dX10_readRange_0 : decode cX10_readRange 0 = .ok (.aload_n 0, 1) := by decide +kernel
theorem dX10_readRange_1 : decode cX10_readRange 1 = .ok (.aload_n 0, 1) := by decide +kernel
theorem dX10_readRange_2 : decode cX10_readRange 2 = .ok (.getfield 13, 3) := by decide +kernel
theorem dX10_readRange_5 : decode cX10_readRange 5 = .ok (.aload_n 0, 1) := by decide +kernel
theorem dX10_readRange_6 : decode cX10_readRange 6 = .ok (.invokevirtual 102, 3) := by decide +kernel
theorem dX10_readRange_9 : decode cX10_readRange 9 = .ok (.ifCond .eq 10, 3) := by decide +kernel
theorem dX10_readRange_12 : decode cX10_readRange 12 = .ok (.aload_n 0, 1) := by decide +kernel
theorem dX10_readRange_13 : decode cX10_readRange 13 = .ok (.getfield 68, 3) := by decide +kernel
theorem dX10_readRange_16 : decode cX10_readRange 16 = .ok (.goto 4, 3) := by decide +kernel
theorem dX10_readRange_19 : decode cX10_readRange 19 = .ok (.iconst 0, 1) := by decide +kernel
theorem dX10_readRange_20 : decode cX10_readRange 20 = .ok (.iaload, 1) := by decide +kernel
theorem dX10_readRange_21 : decode cX10_readRange 21 = .ok (.ifCond .le 14, 3) := by decide +kernel
theorem dX10_readRange_24 : decode cX10_readRange 24 = .ok (.aload_n 0, 1) := by decide +kernel
theorem dX10_readRange_25 : decode cX10_readRange 25 = .ok (.invokevirtual 102, 3) := by decide +kernel
theorem dX10_readRange_28 : decode cX10_readRange 28 = .ok (.ifCond .eq 7, 3) := by decide +kernel
theorem dX10_readRange_31 : decode cX10_readRange 31 = .ok (.iconst 1, 1) := by decide +kernel
theorem dX10_readRange_32 : decode cX10_readRange 32 = .ok (.goto 4, 3) := by decide +kernel
theorem dX10_readRange_35 : decode cX10_readRange 35 = .ok (.iconst 0, 1) := by decide +kernel
theorem dX10_readRange_36 : decode cX10_readRange 36 = .ok (.invokevirtual 92, 3) := by decide +kernel
theorem dX10_readRange_39 : decode cX10_readRange 39 = .ok (.istore_n 1, 1) := by decide +kernel
theorem dX10_readRange_40 : decode cX10_readRange 40 = .ok (.aload_n 0, 1) := by decide +kernel
theorem dX10_readRange_41 : decode cX10_readRange 41 = .ok (.invokevirtual 85, 3) := by decide +kernel
theorem dX10_readRange_44 : decode cX10_readRange 44 = .ok (.ifCond .eq 14, 3) := by decide +kernel
theorem dX10_readRange_47 : decode cX10_readRange 47 = .ok (.aload_n 0, 1) := by decide +kernel
theorem dX10_readRange_48 : decode cX10_readRange 48 = .ok (.getfield 13, 3) := by decide +kernel
theorem dX10_readRange_51 : decode cX10_readRange 51 = .ok (.iload_n 1, 1) := by decide +kernel
theorem dX10_readRange_52 : decode cX10_readRange 52 = .ok (.iaload, 1) := by decide +kernel
theorem dX10_readRange_53 : decode cX10_readRange 53 = .ok (.iconst 1, 1) := by decide +kernel
theorem dX10_readRange_54 : decode cX10_readRange 54 = .ok (.isub, 1) := by decide +kernel
theorem dX10_readRange_55 : decode cX10_readRange 55 = .ok (.goto 4, 3) := by decide +kernel
theorem dX10_readRange_58 : decode cX10_readRange 58 = .ok (.iconst 0, 1) := by decide +kernel
theorem dX10_readRange_59 : decode cX10_readRange 59 = .ok (.istore_n 2, 1) := by decide +kernel
theorem dX10_readRange_60 : decode cX10_readRange 60 = .ok (.iconst 0, 1) := by decide +kernel
theorem dX10_readRange_61 : decode cX10_readRange 61 = .ok (.istore_n 3, 1) := by decide +kernel
theorem dX10_readRange_62 : decode cX10_readRange 62 = .ok (.aload_n 0, 1) := by decide +kernel
theorem dX10_readRange_63 : decode cX10_readRange 63 = .ok (.invokevirtual 85, 3) := by decide +kernel
theorem dX10_readRange_66 : decode cX10_readRange 66 = .ok (.ifCond .eq 54, 3) := by decide +kernel
theorem dX10_readRange_69 : decode cX10_readRange 69 = .ok (.aload_n 0, 1) := by decide +kernel
theorem dX10_readRange_70 : decode cX10_readRange 70 = .ok (.bipush 91, 2) := by decide +kernel
theorem dX10_readRange_72 : decode cX10_readRange 72 = .ok (.invokevirtual 105, 3) := by decide +kernel
theorem dX10_readRange_75 : decode cX10_readRange 75 = .ok (.ifCond .eq 45, 3) := by decide +kernel
theorem dX10_readRange_78 : decode cX10_readRange 78 = .ok (.aload_n 0, 1) := by decide +kernel
theorem dX10_readRange_79 : decode cX10_readRange 79 = .ok (.iconst 1, 1) := by decide +kernel
theorem dX10_readRange_80 : decode cX10_readRange 80 = .ok (.invokevirtual 92, 3) := by decide +kernel
theorem dX10_readRange_83 : decode cX10_readRange 83 = .ok (.pop, 1) := by decide +kernel
theorem dX10_readRange_84 : decode cX10_readRange 84 = .ok (.aload_n 0, 1) := by decide +kernel
theorem dX10_readRange_85 : decode cX10_readRange 85 = .ok (.iconst 0, 1) := by decide +kernel
theorem dX10_readRange_86 : decode cX10_readRange 86 = .ok (.iload_n 2, 1) := by decide +kernel
theorem dX10_readRange_87 : decode cX10_readRange 87 = .ok (.invokevirtual 108, 3) := by decide +kernel
theorem dX10_readRange_90 : decode cX10_readRange 90 = .ok (.istore_n 2, 1) := by decide +kernel
theorem dX10_readRange_91 : decode cX10_readRange 91 = .ok (.aload_n 0, 1) := by decide +kernel
theorem dX10_readRange_92 : decode cX10_readRange 92 = .ok (.aload_n 0, 1) := by decide +kernel
theorem dX10_readRange_93 : decode cX10_readRange 93 = .ok (.bipush 58, 2) := by decide +kernel
theorem dX10_readRange_95 : decode cX10_readRange 95 = .ok (.invokevirtual 105, 3) := by decide +kernel
theorem dX10_readRange_98 : decode cX10_readRange 98 = .ok (.invokevirtual 92, 3) := by decide +kernel
theorem dX10_readRange_101 : decode cX10_readRange 101 = .ok (.pop, 1) := by decide +kernel
theorem dX10_readRange_102 : decode cX10_readRange 102 = .ok (.aload_n 0, 1) := by decide +kernel
theorem dX10_readRange_103 : decode cX10_readRange 103 = .ok (.iconst 0, 1) := by decide +kernel
theorem dX10_readRange_104 : decode cX10_readRange 104 = .ok (.iload_n 2, 1) := by decide +kernel
theorem dX10_readRange_105 : decode cX10_readRange 105 = .ok (.invokevirtual 108, 3) := by decide +kernel
theorem dX10_readRange_108 : decode cX10_readRange 108 = .ok (.istore_n 3, 1) := by decide +kernel
theorem dX10_readRange_109 : decode cX10_readRange 109 = .ok (.aload_n 0, 1) := by decide +kernel
theorem dX10_readRange_110 : decode cX10_readRange 110 = .ok (.aload_n 0, 1) := by decide +kernel
theorem dX10_readRange_111 : decode cX10_readRange 111 = .ok (.bipush 93, 2) := by decide +kernel
theorem dX10_readRange_113 : decode cX10_readRange 113 = .ok (.invokevirtual 105, 3) := by decide +kernel
theorem dX10_readRange_116 : decode cX10_readRange 116 = .ok (.invokevirtual 92, 3) := by decide +kernel
theorem dX10_readRange_119 : decode cX10_readRange 119 = .ok (.pop, 1) := by decide +kernel
theorem dX10_readRange_120 : decode cX10_readRange 120 = .ok (.iload_n 2, 1) := by decide +kernel
theorem dX10_readRange_121 : decode cX10_readRange 121 = .ok (.istore 4, 2) := by decide +kernel
theorem dX10_readRange_123 : decode cX10_readRange 123 = .ok (.aload_n 0, 1) := by decide +kernel
theorem dX10_readRange_124 : decode cX10_readRange 124 = .ok (.invokevirtual 85, 3) := by decide +kernel
theorem dX10_readRange_127 : decode cX10_readRange 127 = .ok (.ifCond .eq 29, 3) := by decide +kernel
theorem dX10_readRange_130 : decode cX10_readRange 130 = .ok (.iload 4, 2) := by decide +kernel
theorem dX10_readRange_132 : decode cX10_readRange 132 = .ok (.iload_n 3, 1) := by decide +kernel
theorem dX10_readRange_133 : decode cX10_readRange 133 = .ok (.if_icmp .lt 23, 3) := by decide +kernel
theorem dX10_readRange_136 : decode cX10_readRange 136 = .ok (.aload_n 0, 1) := by decide +kernel
theorem dX10_readRange_137 : decode cX10_readRange 137 = .ok (.bipush 16, 2) := by decide +kernel
theorem dX10_readRange_139 : decode cX10_readRange 139 = .ok (.bipush 16, 2) := by decide +kernel
theorem dX10_readRange_141 : decode cX10_readRange 141 = .ok (.iload_n 1, 1) := by decide +kernel
theorem dX10_readRange_142 : decode cX10_readRange 142 = .ok (.imul, 1) := by decide +kernel
theorem dX10_readRange_143 : decode cX10_readRange 143 = .ok (.iadd, 1) := by decide +kernel
theorem dX10_readRange_144 : decode cX10_readRange 144 = .ok (.iload 4, 2) := by decide +kernel
theorem dX10_readRange_146 : decode cX10_readRange 146 = .ok (.iadd, 1) := by decide +kernel
theorem dX10_readRange_147 : decode cX10_readRange 147 = .ok (.invokevirtual 112, 3) := by decide +kernel
theorem dX10_readRange_150 : decode cX10_readRange 150 = .ok (.iinc 4 (-1), 3) := by decide +kernel
theorem dX10_readRange_153 : decode cX10_readRange 153 = .ok (.goto (-30), 3) := by decide +kernel
theorem dX10_readRange_156 : decode cX10_readRange 156 = .ok (.return_, 1) := by decide +kernel
theorem dX10_readConstant_0 : decode cX10_readConstant 0 = .ok (.aload_n 0, 1) := by decide +kernel
theorem dX10_readConstant_1 : decode cX10_readConstant 1 = .ok (.aload_n 0, 1) := by decide +kernel
theorem dX10_readConstant_2 : decode cX10_readConstant 2 = .ok (.bipush 37, 2) := by decide +kernel
theorem dX10_readConstant_4 : decode cX10_readConstant 4 = .ok (.invokevirtual 105, 3) := by decide +kernel
theorem dX10_readConstant_7 : decode cX10_readConstant 7 = .ok (.invokevirtual 92, 3) := by decide +kernel
theorem dX10_readConstant_10 : decode cX10_readConstant 10 = .ok (.pop, 1) := by decide +kernel
theorem dX10_readConstant_11 : decode cX10_readConstant 11 = .ok (.aload_n 0, 1) := by decide +kernel
theorem dX10_readConstant_12 : decode cX10_readConstant 12 = .ok (.getfield 57, 3) := by decide +kernel
theorem dX10_readConstant_15 : decode cX10_readConstant 15 = .ok (.istore_n 1, 1) := by decide +kernel
theorem dX10_readConstant_16 : decode cX10_readConstant 16 = .ok (.aload_n 0, 1) := by decide +kernel
theorem dX10_readConstant_17 : decode cX10_readConstant 17 = .ok (.getfield 54, 3) := by decide +kernel
theorem dX10_readConstant_20 : decode cX10_readConstant 20 = .ok (.istore_n 2, 1) := by decide +kernel
theorem dX10_readConstant_21 : decode cX10_readConstant 21 = .ok (.aload_n 0, 1) := by decide +kernel
theorem dX10_readConstant_22 : decode cX10_readConstant 22 = .ok (.getfield 71, 3) := by decide +kernel
theorem dX10_readConstant_25 : decode cX10_readConstant 25 = .ok (.iconst 2, 1) := by decide +kernel
theorem dX10_readConstant_26 : decode cX10_readConstant 26 = .ok (.if_icmp .ne 15, 3) := by decide +kernel
theorem dX10_readConstant_29 : decode cX10_readConstant 29 = .ok (.iload_n 2, 1) := by decide +kernel
theorem dX10_readConstant_30 : decode cX10_readConstant 30 = .ok (.iload_n 1, 1) := by decide +kernel
theorem dX10_readConstant_31 : decode cX10_readConstant 31 = .ok (.isub, 1) := by decide +kernel
theorem dX10_readConstant_32 : decode cX10_readConstant 32 = .ok (.bipush 16, 2) := by decide +kernel
theorem dX10_readConstant_34 : decode cX10_readConstant 34 = .ok (.if_icmp .gt 7, 3) := by decide +kernel
theorem dX10_readConstant_37 : decode cX10_readConstant 37 = .ok (.iconst 1, 1) := by decide +kernel
theorem dX10_readConstant_38 : decode cX10_readConstant 38 = .ok (.goto 4, 3) := by decide +kernel
theorem dX10_readConstant_41 : decode cX10_readConstant 41 = .ok (.iconst 0, 1) := by decide +kernel
theorem dX10_readConstant_42 : decode cX10_readConstant 42 = .ok (.istore_n 3, 1) := by decide +kernel
theorem dX10_readConstant_43 : decode cX10_readConstant 43 = .ok (.iload_n 1, 1) := by decide +kernel
theorem dX10_readConstant_44 : decode cX10_readConstant 44 = .ok (.istore 4, 2) := by decide +kernel
theorem dX10_readConstant_46 : decode cX10_readConstant 46 = .ok (.iload 4, 2) := by decide +kernel
theorem dX10_readConstant_48 : decode cX10_readConstant 48 = .ok (.iload_n 2, 1) := by decide +kernel
theorem dX10_readConstant_49 : decode cX10_readConstant 49 = .ok (.if_icmp .ge 31, 3) := by decide +kernel
theorem dX10_readConstant_52 : decode cX10_readConstant 52 = .ok (.iload_n 3, 1) := by decide +kernel
theorem dX10_readConstant_53 : decode cX10_readConstant 53 = .ok (.ifCond .eq 27, 3) := by decide +kernel
theorem dX10_readConstant_56 : decode cX10_readConstant 56 = .ok (.aload_n 0, 1) := by decide +kernel
theorem dX10_readConstant_57 : decode cX10_readConstant 57 = .ok (.getfield 26, 3) := by decide +kernel
theorem dX10_readConstant_60 : decode cX10_readConstant 60 = .ok (.iload 4, 2) := by decide +kernel
theorem dX10_readConstant_62 : decode cX10_readConstant 62 = .ok (.iaload, 1) := by decide +kernel
theorem dX10_readConstant_63 : decode cX10_readConstant 63 = .ok (.bipush 49, 2) := by decide +kernel
theorem dX10_readConstant_65 : decode cX10_readConstant 65 = .ok (.if_icmp .gt 7, 3) := by decide +kernel
theorem dX10_readConstant_68 : decode cX10_readConstant 68 = .ok (.iconst 1, 1) := by decide +kernel
theorem dX10_readConstant_69 : decode cX10_readConstant 69 = .ok (.goto 4, 3) := by decide +kernel
theorem dX10_readConstant_72 : decode cX10_readConstant 72 = .ok (.iconst 0, 1) := by decide +kernel
theorem dX10_readConstant_73 : decode cX10_readConstant 73 = .ok (.istore_n 3, 1) := by decide +kernel
theorem dX10_readConstant_74 : decode cX10_readConstant 74 = .ok (.iinc 4 1, 3) := by decide +kernel
theorem dX10_readConstant_77 : decode cX10_readConstant 77 = .ok (.goto (-31), 3) := by decide +kernel
theorem dX10_readConstant_80 : decode cX10_readConstant 80 = .ok (.aload_n 0, 1) := by decide +kernel
theorem dX10_readConstant_81 : decode cX10_readConstant 81 = .ok (.iload_n 3, 1) := by decide +kernel
theorem dX10_readConstant_82 : decode cX10_readConstant 82 = .ok (.invokevirtual 92, 3) := by decide +kernel
theorem dX10_readConstant_85 : decode cX10_readConstant 85 = .ok (.pop, 1) := by decide +kernel
theorem dX10_readConstant_86 : decode cX10_readConstant 86 = .ok (.iload_n 1, 1) := by decide +kernel
theorem dX10_readConstant_87 : decode cX10_readConstant 87 = .ok (.istore 4, 2) := by decide +kernel
theorem dX10_readConstant_89 : decode cX10_readConstant 89 = .ok (.iload 4, 2) := by decide +kernel
theorem dX10_readConstant_91 : decode cX10_readConstant 91 = .ok (.iload_n 2, 1) := by decide +kernel
theorem dX10_readConstant_92 : decode cX10_readConstant 92 = .ok (.if_icmp .ge 30, 3) := by decide +kernel
theorem dX10_readConstant_95 : decode cX10_readConstant 95 = .ok (.aload_n 0, 1) := by decide +kernel
theorem dX10_readConstant_96 : decode cX10_readConstant 96 = .ok (.invokevirtual 85, 3) := by decide +kernel
theorem dX10_readConstant_99 : decode cX10_readConstant 99 = .ok (.ifCond .eq 23, 3) := by decide +kernel
theorem dX10_readConstant_102 : decode cX10_readConstant 102 = .ok (.aload_n 0, 1) := by decide +kernel
theorem dX10_readConstant_103 : decode cX10_readConstant 103 = .ok (.aload_n 0, 1) := by decide +kernel
theorem dX10_readConstant_104 : decode cX10_readConstant 104 = .ok (.getfield 26, 3) := by decide +kernel
theorem dX10_readConstant_107 : decode cX10_readConstant 107 = .ok (.iload 4, 2) := by decide +kernel
theorem dX10_readConstant_109 : decode cX10_readConstant 109 = .ok (.iaload, 1) := by decide +kernel
theorem dX10_readConstant_110 : decode cX10_readConstant 110 = .ok (.bipush 48, 2) := by decide +kernel
theorem dX10_readConstant_112 : decode cX10_readConstant 112 = .ok (.isub, 1) := by decide +kernel
theorem dX10_readConstant_113 : decode cX10_readConstant 113 = .ok (.invokevirtual 112, 3) := by decide +kernel
theorem dX10_readConstant_116 : decode cX10_readConstant 116 = .ok (.iinc 4 1, 3) := by decide +kernel
theorem dX10_readConstant_119 : decode cX10_readConstant 119 = .ok (.goto (-30), 3) := by decide +kernel
theorem dX10_readConstant_122 : decode cX10_readConstant 122 = .ok (.return_, 1) := by decide +kernel
theorem dX10_readPart_0 : decode cX10_readPart 0 = .ok (.aload_n 0, 1) := by decide +kernel
theorem dX10_readPart_1 : decode cX10_readPart 1 = .ok (.bipush 37, 2) := by decide +kernel
theorem dX10_readPart_3 : decode cX10_readPart 3 = .ok (.invokevirtual 105, 3) := by decide +kernel
theorem dX10_readPart_6 : decode cX10_readPart 6 = .ok (.ifCond .eq 10, 3) := by decide +kernel
theorem dX10_readPart_9 : decode cX10_readPart 9 = .ok (.aload_n 0, 1) := by decide +kernel
theorem dX10_readPart_10 : decode cX10_readPart 10 = .ok (.invokevirtual 116, 3) := by decide +kernel
theorem dX10_readPart_13 : decode cX10_readPart 13 = .ok (.goto 7, 3) := by decide +kernel
theorem dX10_readPart_16 : decode cX10_readPart 16 = .ok (.aload_n 0, 1) := by decide +kernel
theorem dX10_readPart_17 : decode cX10_readPart 17 = .ok (.invokevirtual 119, 3) := by decide +kernel
theorem dX10_readPart_20 : decode cX10_readPart 20 = .ok (.aload_n 0, 1) := by decide +kernel
theorem dX10_readPart_21 : decode cX10_readPart 21 = .ok (.dup, 1) := by decide +kernel
theorem dX10_readPart_22 : decode cX10_readPart 22 = .ok (.getfield 99, 3) := by decide +kernel
theorem dX10_readPart_25 : decode cX10_readPart 25 = .ok (.iconst 1, 1) := by decide +kernel
theorem dX10_readPart_26 : decode cX10_readPart 26 = .ok (.iadd, 1) := by decide +kernel
theorem dX10_readPart_27 : decode cX10_readPart 27 = .ok (.putfield 99, 3) := by decide +kernel
theorem dX10_readPart_30 : decode cX10_readPart 30 = .ok (.return_, 1) := by decide +kernel
theorem dX10_readTerm_0 : decode cX10_readTerm 0 = .ok (.aload_n 0, 1) := by decide +kernel
theorem dX10_readTerm_1 : decode cX10_readTerm 1 = .ok (.iconst 0, 1) := by decide +kernel
theorem dX10_readTerm_2 : decode cX10_readTerm 2 = .ok (.putfield 96, 3) := by decide +kernel
theorem dX10_readTerm_5 : decode cX10_readTerm 5 = .ok (.aload_n 0, 1) := by decide +kernel
theorem dX10_readTerm_6 : decode cX10_readTerm 6 = .ok (.iconst 0, 1) := by decide +kernel
theorem dX10_readTerm_7 : decode cX10_readTerm 7 = .ok (.putfield 99, 3) := by decide +kernel
theorem dX10_readTerm_10 : decode cX10_readTerm 10 = .ok (.aload_n 0, 1) := by decide +kernel
theorem dX10_readTerm_11 : decode cX10_readTerm 11 = .ok (.invokevirtual 122, 3) := by decide +kernel
theorem dX10_readTerm_14 : decode cX10_readTerm 14 = .ok (.aload_n 0, 1) := by decide +kernel
theorem dX10_readTerm_15 : decode cX10_readTerm 15 = .ok (.invokevirtual 85, 3) := by decide +kernel
theorem dX10_readTerm_18 : decode cX10_readTerm 18 = .ok (.ifCond .eq 25, 3) := by decide +kernel
theorem dX10_readTerm_21 : decode cX10_readTerm 21 = .ok (.aload_n 0, 1) := by decide +kernel
theorem dX10_readTerm_22 : decode cX10_readTerm 22 = .ok (.bipush 46, 2) := by decide +kernel
theorem dX10_readTerm_24 : decode cX10_readTerm 24 = .ok (.invokevirtual 105, 3) := by decide +kernel
theorem dX10_readTerm_27 : decode cX10_readTerm 27 = .ok (.ifCond .eq 16, 3) := by decide +kernel
theorem dX10_readTerm_30 : decode cX10_readTerm 30 = .ok (.aload_n 0, 1) := by decide +kernel
theorem dX10_readTerm_31 : decode cX10_readTerm 31 = .ok (.iconst 1, 1) := by decide +kernel
theorem dX10_readTerm_32 : decode cX10_readTerm 32 = .ok (.invokevirtual 92, 3) := by decide +kernel
theorem dX10_readTerm_35 : decode cX10_readTerm 35 = .ok (.pop, 1) := by decide +kernel
theorem dX10_readTerm_36 : decode cX10_readTerm 36 = .ok (.aload_n 0, 1) := by decide +kernel
theorem dX10_readTerm_37 : decode cX10_readTerm 37 = .ok (.invokevirtual 122, 3) := by decide +kernel
theorem dX10_readTerm_40 : decode cX10_readTerm 40 = .ok (.goto (-26), 3) := by decide +kernel
theorem dX10_readTerm_43 : decode cX10_readTerm 43 = .ok (.return_, 1) := by decide +kernel
theorem dX10_putTerm_0 : decode cX10_putTerm 0 = .ok (.iconst 0, 1) := by decide +kernel
theorem dX10_putTerm_1 : decode cX10_putTerm 1 = .ok (.istore_n 2, 1) := by decide +kernel
theorem dX10_putTerm_2 : decode cX10_putTerm 2 = .ok (.iload_n 2, 1) := by decide +kernel
theorem dX10_putTerm_3 : decode cX10_putTerm 3 = .ok (.aload_n 0, 1) := by decide +kernel
theorem dX10_putTerm_4 : decode cX10_putTerm 4 = .ok (.getfield 96, 3) := by decide +kernel
theorem dX10_putTerm_7 : decode cX10_putTerm 7 = .ok (.if_icmp .ge 36, 3) := by decide +kernel
theorem dX10_putTerm_10 : decode cX10_putTerm 10 = .ok (.iload_n 2, 1) := by decide +kernel
theorem dX10_putTerm_11 : decode cX10_putTerm 11 = .ok (.bipush 16, 2) := by decide +kernel
theorem dX10_putTerm_13 : decode cX10_putTerm 13 = .ok (.if_icmp .ge 30, 3) := by decide +kernel
theorem dX10_putTerm_16 : decode cX10_putTerm 16 = .ok (.aload_n 0, 1) := by decide +kernel
theorem dX10_putTerm_17 : decode cX10_putTerm 17 = .ok (.getfield 13, 3) := by decide +kernel
theorem dX10_putTerm_20 : decode cX10_putTerm 20 = .ok (.iload_n 1, 1) := by decide +kernel
theorem dX10_putTerm_21 : decode cX10_putTerm 21 = .ok (.iload_n 2, 1) := by decide +kernel
theorem dX10_putTerm_22 : decode cX10_putTerm 22 = .ok (.iadd, 1) := by decide +kernel
theorem dX10_putTerm_23 : decode cX10_putTerm 23 = .ok (.aload_n 0, 1) := by decide +kernel
theorem dX10_putTerm_24 : decode cX10_putTerm 24 = .ok (.getfield 29, 3) := by decide +kernel
theorem dX10_putTerm_27 : decode cX10_putTerm 27 = .ok (.aload_n 0, 1) := by decide +kernel
theorem dX10_putTerm_28 : decode cX10_putTerm 28 = .ok (.getfield 96, 3) := by decide +kernel
theorem dX10_putTerm_31 : decode cX10_putTerm 31 = .ok (.iconst 1, 1) := by decide +kernel
theorem dX10_putTerm_32 : decode cX10_putTerm 32 = .ok (.isub, 1) := by decide +kernel
theorem dX10_putTerm_33 : decode cX10_putTerm 33 = .ok (.iload_n 2, 1) := by decide +kernel
theorem dX10_putTerm_34 : decode cX10_putTerm 34 = .ok (.isub, 1) := by decide +kernel
theorem dX10_putTerm_35 : decode cX10_putTerm 35 = .ok (.iaload, 1) := by decide +kernel
theorem dX10_putTerm_36 : decode cX10_putTerm 36 = .ok (.iastore, 1) := by decide +kernel
theorem dX10_putTerm_37 : decode cX10_putTerm 37 = .ok (.iinc 2 1, 3) := by decide +kernel
theorem dX10_putTerm_40 : decode cX10_putTerm 40 = .ok (.goto (-38), 3) := by decide +kernel
theorem dX10_putTerm_43 : decode cX10_putTerm 43 = .ok (.return_, 1) := by decide +kernel
theorem dX10_readStatement_0 : decode cX10_readStatement 0 = .ok (.iload_n 1, 1) := by decide +kernel
theorem dX10_readStatement_1 : decode cX10_readStatement 1 = .ok (.ifCond .eq 16, 3) := by decide +kernel
theorem dX10_readStatement_4 : decode cX10_readStatement 4 = .ok (.bipush 10, 2) := by decide +kernel
theorem dX10_readStatement_6 : decode cX10_readStatement 6 = .ok (.aload_n 0, 1) := by decide +kernel
theorem dX10_readStatement_7 : decode cX10_readStatement 7 = .ok (.getfield 13, 3) := by decide +kernel
theorem dX10_readStatement_10 : decode cX10_readStatement 10 = .ok (.bipush 9, 2) := by decide +kernel
theorem dX10_readStatement_12 : decode cX10_readStatement 12 = .ok (.iaload, 1) := by decide +kernel
theorem dX10_readStatement_13 : decode cX10_readStatement 13 = .ok (.iadd, 1) := by decide +kernel
theorem dX10_readStatement_14 : decode cX10_readStatement 14 = .ok (.goto 10, 3) := by decide +kernel
theorem dX10_readStatement_17 : decode cX10_readStatement 17 = .ok (.aload_n 0, 1) := by decide +kernel
theorem dX10_readStatement_18 : decode cX10_readStatement 18 = .ok (.getfield 13, 3) := by decide +kernel
theorem dX10_readStatement_21 : decode cX10_readStatement 21 = .ok (.bipush 8, 2) := by decide +kernel
theorem dX10_readStatement_23 : decode cX10_readStatement 23 = .ok (.iaload, 1) := by decide +kernel
theorem dX10_readStatement_24 : decode cX10_readStatement 24 = .ok (.istore_n 2, 1) := by decide +kernel
theorem dX10_readStatement_25 : decode cX10_readStatement 25 = .ok (.bipush 10, 2) := by decide +kernel
theorem dX10_readStatement_27 : decode cX10_readStatement 27 = .ok (.bipush 33, 2) := by decide +kernel
theorem dX10_readStatement_29 : decode cX10_readStatement 29 = .ok (.iload_n 2, 1) := by decide +kernel
theorem dX10_readStatement_30 : decode cX10_readStatement 30 = .ok (.imul, 1) := by decide +kernel
theorem dX10_readStatement_31 : decode cX10_readStatement 31 = .ok (.iadd, 1) := by decide +kernel
theorem dX10_readStatement_32 : decode cX10_readStatement 32 = .ok (.istore_n 3, 1) := by decide +kernel
theorem dX10_readStatement_33 : decode cX10_readStatement 33 = .ok (.aload_n 0, 1) := by decide +kernel
theorem dX10_readStatement_34 : decode cX10_readStatement 34 = .ok (.invokevirtual 125, 3) := by decide +kernel
theorem dX10_readStatement_37 : decode cX10_readStatement 37 = .ok (.aload_n 0, 1) := by decide +kernel
theorem dX10_readStatement_38 : decode cX10_readStatement 38 = .ok (.getfield 96, 3) := by decide +kernel
theorem dX10_readStatement_41 : decode cX10_readStatement 41 = .ok (.istore 4, 2) := by decide +kernel
theorem dX10_readStatement_43 : decode cX10_readStatement 43 = .ok (.aload_n 0, 1) := by decide +kernel
theorem dX10_readStatement_44 : decode cX10_readStatement 44 = .ok (.aload_n 0, 1) := by decide +kernel
theorem dX10_readStatement_45 : decode cX10_readStatement 45 = .ok (.bipush 61, 2) := by decide +kernel
theorem dX10_readStatement_47 : decode cX10_readStatement 47 = .ok (.invokevirtual 105, 3) := by decide +kernel
theorem dX10_readStatement_50 : decode cX10_readStatement 50 = .ok (.ifCond .eq 14, 3) := by decide +kernel
theorem dX10_readStatement_53 : decode cX10_readStatement 53 = .ok (.iload 4, 2) := by decide +kernel
theorem dX10_readStatement_55 : decode cX10_readStatement 55 = .ok (.bipush 16, 2) := by decide +kernel
theorem dX10_readStatement_57 : decode cX10_readStatement 57 = .ok (.if_icmp .gt 7, 3) := by decide +kernel
theorem dX10_readStatement_60 : decode cX10_readStatement 60 = .ok (.iconst 1, 1) := by decide +kernel
theorem dX10_readStatement_61 : decode cX10_readStatement 61 = .ok (.goto 4, 3) := by decide +kernel
theorem dX10_readStatement_64 : decode cX10_readStatement 64 = .ok (.iconst 0, 1) := by decide +kernel
theorem dX10_readStatement_65 : decode cX10_readStatement 65 = .ok (.invokevirtual 92, 3) := by decide +kernel
theorem dX10_readStatement_68 : decode cX10_readStatement 68 = .ok (.pop, 1) := by decide +kernel
theorem dX10_readStatement_69 : decode cX10_readStatement 69 = .ok (.aload_n 0, 1) := by decide +kernel
theorem dX10_readStatement_70 : decode cX10_readStatement 70 = .ok (.invokevirtual 85, 3) := by decide +kernel
theorem dX10_readStatement_73 : decode cX10_readStatement 73 = .ok (.ifCond .eq 18, 3) := by decide +kernel
theorem dX10_readStatement_76 : decode cX10_readStatement 76 = .ok (.aload_n 0, 1) := by decide +kernel
theorem dX10_readStatement_77 : decode cX10_readStatement 77 = .ok (.getfield 13, 3) := by decide +kernel
theorem dX10_readStatement_80 : decode cX10_readStatement 80 = .ok (.iload_n 3, 1) := by decide +kernel
theorem dX10_readStatement_81 : decode cX10_readStatement 81 = .ok (.iload 4, 2) := by decide +kernel
theorem dX10_readStatement_83 : decode cX10_readStatement 83 = .ok (.iastore, 1) := by decide +kernel
theorem dX10_readStatement_84 : decode cX10_readStatement 84 = .ok (.aload_n 0, 1) := by decide +kernel
theorem dX10_readStatement_85 : decode cX10_readStatement 85 = .ok (.iload_n 3, 1) := by decide +kernel
theorem dX10_readStatement_86 : decode cX10_readStatement 86 = .ok (.iconst 1, 1) := by decide +kernel
theorem dX10_readStatement_87 : decode cX10_readStatement 87 = .ok (.iadd, 1) := by decide +kernel
theorem dX10_readStatement_88 : decode cX10_readStatement 88 = .ok (.invokevirtual 128, 3) := by decide +kernel
theorem dX10_readStatement_91 : decode cX10_readStatement 91 = .ok (.aload_n 0, 1) := by decide +kernel
theorem dX10_readStatement_92 : decode cX10_readStatement 92 = .ok (.invokevirtual 85, 3) := by decide +kernel
theorem dX10_readStatement_95 : decode cX10_readStatement 95 = .ok (.ifCond .eq 7, 3) := by decide +kernel
theorem dX10_readStatement_98 : decode cX10_readStatement 98 = .ok (.aload_n 0, 1) := by decide +kernel
theorem dX10_readStatement_99 : decode cX10_readStatement 99 = .ok (.invokevirtual 125, 3) := by decide +kernel
theorem dX10_readStatement_102 : decode cX10_readStatement 102 = .ok (.aload_n 0, 1) := by decide +kernel
theorem dX10_readStatement_103 : decode cX10_readStatement 103 = .ok (.aload_n 0, 1) := by decide +kernel
theorem dX10_readStatement_104 : decode cX10_readStatement 104 = .ok (.bipush 59, 2) := by decide +kernel
theorem dX10_readStatement_106 : decode cX10_readStatement 106 = .ok (.invokevirtual 105, 3) := by decide +kernel
theorem dX10_readStatement_109 : decode cX10_readStatement 109 = .ok (.ifCond .eq 16, 3) := by decide +kernel
theorem dX10_readStatement_112 : decode cX10_readStatement 112 = .ok (.aload_n 0, 1) := by decide +kernel
theorem dX10_readStatement_113 : decode cX10_readStatement 113 = .ok (.getfield 96, 3) := by decide +kernel
theorem dX10_readStatement_116 : decode cX10_readStatement 116 = .ok (.iload 4, 2) := by decide +kernel
theorem dX10_readStatement_118 : decode cX10_readStatement 118 = .ok (.if_icmp .ne 7, 3) := by decide +kernel
theorem dX10_readStatement_121 : decode cX10_readStatement 121 = .ok (.iconst 1, 1) := by decide +kernel
theorem dX10_readStatement_122 : decode cX10_readStatement 122 = .ok (.goto 4, 3) := by decide +kernel
theorem dX10_readStatement_125 : decode cX10_readStatement 125 = .ok (.iconst 0, 1) := by decide +kernel
theorem dX10_readStatement_126 : decode cX10_readStatement 126 = .ok (.invokevirtual 92, 3) := by decide +kernel
theorem dX10_readStatement_129 : decode cX10_readStatement 129 = .ok (.pop, 1) := by decide +kernel
theorem dX10_readStatement_130 : decode cX10_readStatement 130 = .ok (.aload_n 0, 1) := by decide +kernel
theorem dX10_readStatement_131 : decode cX10_readStatement 131 = .ok (.invokevirtual 85, 3) := by decide +kernel
theorem dX10_readStatement_134 : decode cX10_readStatement 134 = .ok (.ifCond .eq 33, 3) := by decide +kernel
theorem dX10_readStatement_137 : decode cX10_readStatement 137 = .ok (.aload_n 0, 1) := by decide +kernel
theorem dX10_readStatement_138 : decode cX10_readStatement 138 = .ok (.iload_n 3, 1) := by decide +kernel
theorem dX10_readStatement_139 : decode cX10_readStatement 139 = .ok (.iconst 1, 1) := by decide +kernel
theorem dX10_readStatement_140 : decode cX10_readStatement 140 = .ok (.iadd, 1) := by decide +kernel
theorem dX10_readStatement_141 : decode cX10_readStatement 141 = .ok (.bipush 16, 2) := by decide +kernel
theorem dX10_readStatement_143 : decode cX10_readStatement 143 = .ok (.iadd, 1) := by decide +kernel
theorem dX10_readStatement_144 : decode cX10_readStatement 144 = .ok (.invokevirtual 128, 3) := by decide +kernel
theorem dX10_readStatement_147 : decode cX10_readStatement 147 = .ok (.aload_n 0, 1) := by decide +kernel
theorem dX10_readStatement_148 : decode cX10_readStatement 148 = .ok (.getfield 13, 3) := by decide +kernel
theorem dX10_readStatement_151 : decode cX10_readStatement 151 = .ok (.iload_n 1, 1) := by decide +kernel
theorem dX10_readStatement_152 : decode cX10_readStatement 152 = .ok (.ifCond .eq 8, 3) := by decide +kernel
theorem dX10_readStatement_155 : decode cX10_readStatement 155 = .ok (.bipush 9, 2) := by decide +kernel
theorem dX10_readStatement_157 : decode cX10_readStatement 157 = .ok (.goto 5, 3) := by decide +kernel
theorem dX10_readStatement_160 : decode cX10_readStatement 160 = .ok (.bipush 8, 2) := by decide +kernel
theorem dX10_readStatement_162 : decode cX10_readStatement 162 = .ok (.dup2, 1) := by decide +kernel
theorem dX10_readStatement_163 : decode cX10_readStatement 163 = .ok (.iaload, 1) := by decide +kernel
theorem dX10_readStatement_164 : decode cX10_readStatement 164 = .ok (.iconst 1, 1) := by decide +kernel
theorem dX10_readStatement_165 : decode cX10_readStatement 165 = .ok (.iadd, 1) := by decide +kernel
theorem dX10_readStatement_166 : decode cX10_readStatement 166 = .ok (.iastore, 1) := by decide +kernel
theorem dX10_readStatement_167 : decode cX10_readStatement 167 = .ok (.return_, 1) := by decide +kernel
theorem dX10_readDeclaration_0 : decode cX10_readDeclaration 0 = .ok (.aload_n 0, 1) := by decide +kernel
theorem dX10_readDeclaration_1 : decode cX10_readDeclaration 1 = .ok (.iconst 1, 1) := by decide +kernel
theorem dX10_readDeclaration_2 : decode cX10_readDeclaration 2 = .ok (.invokevirtual 92, 3) := by decide +kernel
theorem dX10_readDeclaration_5 : decode cX10_readDeclaration 5 = .ok (.pop, 1) := by decide +kernel
theorem dX10_readDeclaration_6 : decode cX10_readDeclaration 6 = .ok (.aload_n 0, 1) := by decide +kernel
theorem dX10_readDeclaration_7 : decode cX10_readDeclaration 7 = .ok (.aload_n 0, 1) := by decide +kernel
theorem dX10_readDeclaration_8 : decode cX10_readDeclaration 8 = .ok (.invokevirtual 102, 3) := by decide +kernel
theorem dX10_readDeclaration_11 : decode cX10_readDeclaration 11 = .ok (.ifCond .eq 30, 3) := by decide +kernel
theorem dX10_readDeclaration_14 : decode cX10_readDeclaration 14 = .ok (.aload_n 0, 1) := by decide +kernel
theorem dX10_readDeclaration_15 : decode cX10_readDeclaration 15 = .ok (.getfield 13, 3) := by decide +kernel
theorem dX10_readDeclaration_18 : decode cX10_readDeclaration 18 = .ok (.aload_n 0, 1) := by decide +kernel
theorem dX10_readDeclaration_19 : decode cX10_readDeclaration 19 = .ok (.invokevirtual 102, 3) := by decide +kernel
theorem dX10_readDeclaration_22 : decode cX10_readDeclaration 22 = .ok (.ifCond .eq 10, 3) := by decide +kernel
theorem dX10_readDeclaration_25 : decode cX10_readDeclaration 25 = .ok (.aload_n 0, 1) := by decide +kernel
theorem dX10_readDeclaration_26 : decode cX10_readDeclaration 26 = .ok (.getfield 68, 3) := by decide +kernel
theorem dX10_readDeclaration_29 : decode cX10_readDeclaration 29 = .ok (.goto 4, 3) := by decide +kernel
theorem dX10_readDeclaration_32 : decode cX10_readDeclaration 32 = .ok (.iconst 0, 1) := by decide +kernel
theorem dX10_readDeclaration_33 : decode cX10_readDeclaration 33 = .ok (.iaload, 1) := by decide +kernel
theorem dX10_readDeclaration_34 : decode cX10_readDeclaration 34 = .ok (.ifCond .ne 7, 3) := by decide +kernel
theorem dX10_readDeclaration_37 : decode cX10_readDeclaration 37 = .ok (.iconst 1, 1) := by decide +kernel
theorem dX10_readDeclaration_38 : decode cX10_readDeclaration 38 = .ok (.goto 4, 3) := by decide +kernel
theorem dX10_readDeclaration_41 : decode cX10_readDeclaration 41 = .ok (.iconst 0, 1) := by decide +kernel
theorem dX10_readDeclaration_42 : decode cX10_readDeclaration 42 = .ok (.invokevirtual 92, 3) := by decide +kernel
theorem dX10_readDeclaration_45 : decode cX10_readDeclaration 45 = .ok (.istore_n 1, 1) := by decide +kernel
theorem dX10_readDeclaration_46 : decode cX10_readDeclaration 46 = .ok (.aload_n 0, 1) := by decide +kernel
theorem dX10_readDeclaration_47 : decode cX10_readDeclaration 47 = .ok (.iconst 1, 1) := by decide +kernel
theorem dX10_readDeclaration_48 : decode cX10_readDeclaration 48 = .ok (.bipush 16, 2) := by decide +kernel
theorem dX10_readDeclaration_50 : decode cX10_readDeclaration 50 = .ok (.invokevirtual 108, 3) := by decide +kernel
theorem dX10_readDeclaration_53 : decode cX10_readDeclaration 53 = .ok (.istore_n 2, 1) := by decide +kernel
theorem dX10_readDeclaration_54 : decode cX10_readDeclaration 54 = .ok (.aload_n 0, 1) := by decide +kernel
theorem dX10_readDeclaration_55 : decode cX10_readDeclaration 55 = .ok (.aload_n 0, 1) := by decide +kernel
theorem dX10_readDeclaration_56 : decode cX10_readDeclaration 56 = .ok (.bipush 59, 2) := by decide +kernel
theorem dX10_readDeclaration_58 : decode cX10_readDeclaration 58 = .ok (.invokevirtual 105, 3) := by decide +kernel
theorem dX10_readDeclaration_61 : decode cX10_readDeclaration 61 = .ok (.invokevirtual 92, 3) := by decide +kernel
theorem dX10_readDeclaration_64 : decode cX10_readDeclaration 64 = .ok (.pop, 1) := by decide +kernel
theorem dX10_readDeclaration_65 : decode cX10_readDeclaration 65 = .ok (.aload_n 0, 1) := by decide +kernel
theorem dX10_readDeclaration_66 : decode cX10_readDeclaration 66 = .ok (.invokevirtual 85, 3) := by decide +kernel
theorem dX10_readDeclaration_69 : decode cX10_readDeclaration 69 = .ok (.ifCond .eq 10, 3) := by decide +kernel
theorem dX10_readDeclaration_72 : decode cX10_readDeclaration 72 = .ok (.aload_n 0, 1) := by decide +kernel
theorem dX10_readDeclaration_73 : decode cX10_readDeclaration 73 = .ok (.getfield 13, 3) := by decide +kernel
theorem dX10_readDeclaration_76 : decode cX10_readDeclaration 76 = .ok (.iload_n 1, 1) := by decide +kernel
theorem dX10_readDeclaration_77 : decode cX10_readDeclaration 77 = .ok (.iload_n 2, 1) := by decide +kernel
theorem dX10_readDeclaration_78 : decode cX10_readDeclaration 78 = .ok (.iastore, 1) := by decide +kernel
theorem dX10_readDeclaration_79 : decode cX10_readDeclaration 79 = .ok (.return_, 1) := by decide +kernel
theorem dX10_readItem_0 : decode cX10_readItem 0 = .ok (.aload_n 0, 1) := by decide +kernel
theorem dX10_readItem_1 : decode cX10_readItem 1 = .ok (.getfield 71, 3) := by decide +kernel
theorem dX10_readItem_4 : decode cX10_readItem 4 = .ok (.iconst 1, 1) := by decide +kernel
theorem dX10_readItem_5 : decode cX10_readItem 5 = .ok (.if_icmp .ne 19, 3) := by decide +kernel
theorem dX10_readItem_8 : decode cX10_readItem 8 = .ok (.aload_n 0, 1) := by decide +kernel
theorem dX10_readItem_9 : decode cX10_readItem 9 = .ok (.getfield 68, 3) := by decide +kernel
theorem dX10_readItem_12 : decode cX10_readItem 12 = .ok (.bipush 8, 2) := by decide +kernel
theorem dX10_readItem_14 : decode cX10_readItem 14 = .ok (.if_icmp .ne 10, 3) := by decide +kernel
theorem dX10_readItem_17 : decode cX10_readItem 17 = .ok (.aload_n 0, 1) := by decide +kernel
theorem dX10_readItem_18 : decode cX10_readItem 18 = .ok (.invokevirtual 131, 3) := by decide +kernel
theorem dX10_readItem_21 : decode cX10_readItem 21 = .ok (.goto 98, 3) := by decide +kernel
theorem dX10_readItem_24 : decode cX10_readItem 24 = .ok (.aload_n 0, 1) := by decide +kernel
theorem dX10_readItem_25 : decode cX10_readItem 25 = .ok (.getfield 71, 3) := by decide +kernel
theorem dX10_readItem_28 : decode cX10_readItem 28 = .ok (.iconst 1, 1) := by decide +kernel
theorem dX10_readItem_29 : decode cX10_readItem 29 = .ok (.if_icmp .ne 48, 3) := by decide +kernel
theorem dX10_readItem_32 : decode cX10_readItem 32 = .ok (.aload_n 0, 1) := by decide +kernel
theorem dX10_readItem_33 : decode cX10_readItem 33 = .ok (.getfield 68, 3) := by decide +kernel
theorem dX10_readItem_36 : decode cX10_readItem 36 = .ok (.bipush 9, 2) := by decide +kernel
theorem dX10_readItem_38 : decode cX10_readItem 38 = .ok (.if_icmp .ne 39, 3) := by decide +kernel
theorem dX10_readItem_41 : decode cX10_readItem 41 = .ok (.aload_n 0, 1) := by decide +kernel
theorem dX10_readItem_42 : decode cX10_readItem 42 = .ok (.aload_n 0, 1) := by decide +kernel
theorem dX10_readItem_43 : decode cX10_readItem 43 = .ok (.getfield 13, 3) := by decide +kernel
theorem dX10_readItem_46 : decode cX10_readItem 46 = .ok (.bipush 9, 2) := by decide +kernel
theorem dX10_readItem_48 : decode cX10_readItem 48 = .ok (.iaload, 1) := by decide +kernel
theorem dX10_readItem_49 : decode cX10_readItem 49 = .ok (.iconst 3, 1) := by decide +kernel
theorem dX10_readItem_50 : decode cX10_readItem 50 = .ok (.if_icmp .ge 7, 3) := by decide +kernel
theorem dX10_readItem_53 : decode cX10_readItem 53 = .ok (.iconst 1, 1) := by decide +kernel
theorem dX10_readItem_54 : decode cX10_readItem 54 = .ok (.goto 4, 3) := by decide +kernel
theorem dX10_readItem_57 : decode cX10_readItem 57 = .ok (.iconst 0, 1) := by decide +kernel
theorem dX10_readItem_58 : decode cX10_readItem 58 = .ok (.invokevirtual 92, 3) := by decide +kernel
theorem dX10_readItem_61 : decode cX10_readItem 61 = .ok (.pop, 1) := by decide +kernel
theorem dX10_readItem_62 : decode cX10_readItem 62 = .ok (.aload_n 0, 1) := by decide +kernel
theorem dX10_readItem_63 : decode cX10_readItem 63 = .ok (.invokevirtual 85, 3) := by decide +kernel
theorem dX10_readItem_66 : decode cX10_readItem 66 = .ok (.ifCond .eq 53, 3) := by decide +kernel
theorem dX10_readItem_69 : decode cX10_readItem 69 = .ok (.aload_n 0, 1) := by decide +kernel
theorem dX10_readItem_70 : decode cX10_readItem 70 = .ok (.iconst 1, 1) := by decide +kernel
theorem dX10_readItem_71 : decode cX10_readItem 71 = .ok (.invokevirtual 134, 3) := by decide +kernel
theorem dX10_readItem_74 : decode cX10_readItem 74 = .ok (.goto 45, 3) := by decide +kernel
theorem dX10_readItem_77 : decode cX10_readItem 77 = .ok (.aload_n 0, 1) := by decide +kernel
theorem dX10_readItem_78 : decode cX10_readItem 78 = .ok (.invokevirtual 102, 3) := by decide +kernel
theorem dX10_readItem_81 : decode cX10_readItem 81 = .ok (.ifCond .ne 12, 3) := by decide +kernel
theorem dX10_readItem_84 : decode cX10_readItem 84 = .ok (.aload_n 0, 1) := by decide +kernel
theorem dX10_readItem_85 : decode cX10_readItem 85 = .ok (.bipush 37, 2) := by decide +kernel
theorem dX10_readItem_87 : decode cX10_readItem 87 = .ok (.invokevirtual 105, 3) := by decide +kernel
theorem dX10_readItem_90 : decode cX10_readItem 90 = .ok (.ifCond .eq 23, 3) := by decide +kernel
theorem dX10_readItem_93 : decode cX10_readItem 93 = .ok (.aload_n 0, 1) := by decide +kernel
theorem dX10_readItem_94 : decode cX10_readItem 94 = .ok (.getfield 13, 3) := by decide +kernel
theorem dX10_readItem_97 : decode cX10_readItem 97 = .ok (.bipush 8, 2) := by decide +kernel
theorem dX10_readItem_99 : decode cX10_readItem 99 = .ok (.iaload, 1) := by decide +kernel
theorem dX10_readItem_100 : decode cX10_readItem 100 = .ok (.bipush 10, 2) := by decide +kernel
theorem dX10_readItem_102 : decode cX10_readItem 102 = .ok (.if_icmp .ge 11, 3) := by decide +kernel
theorem dX10_readItem_105 : decode cX10_readItem 105 = .ok (.aload_n 0, 1) := by decide +kernel
theorem dX10_readItem_106 : decode cX10_readItem 106 = .ok (.iconst 0, 1) := by decide +kernel
theorem dX10_readItem_107 : decode cX10_readItem 107 = .ok (.invokevirtual 134, 3) := by decide +kernel
theorem dX10_readItem_110 : decode cX10_readItem 110 = .ok (.goto 9, 3) := by decide +kernel
theorem dX10_readItem_113 : decode cX10_readItem 113 = .ok (.aload_n 0, 1) := by decide +kernel
theorem dX10_readItem_114 : decode cX10_readItem 114 = .ok (.iconst 0, 1) := by decide +kernel
theorem dX10_readItem_115 : decode cX10_readItem 115 = .ok (.invokevirtual 92, 3) := by decide +kernel
theorem dX10_readItem_118 : decode cX10_readItem 118 = .ok (.pop, 1) := by decide +kernel
theorem dX10_readItem_119 : decode cX10_readItem 119 = .ok (.return_, 1) := by decide +kernel
theorem dX10_append_0 : decode cX10_append 0 = .ok (.aload_n 0, 1) := by decide +kernel
theorem dX10_append_1 : decode cX10_append 1 = .ok (.iconst 0, 1) := by decide +kernel
theorem dX10_append_2 : decode cX10_append 2 = .ok (.putfield 47, 3) := by decide +kernel
theorem dX10_append_5 : decode cX10_append 5 = .ok (.iload_n 1, 1) := by decide +kernel
theorem dX10_append_6 : decode cX10_append 6 = .ok (.iconst 0, 1) := by decide +kernel
theorem dX10_append_7 : decode cX10_append 7 = .ok (.sipush 255, 3) := by decide +kernel
theorem dX10_append_10 : decode cX10_append 10 = .ok (.invokestatic 60, 3) := by decide +kernel
theorem dX10_append_13 : decode cX10_append 13 = .ok (.ifCond .ne 5, 3) := by decide +kernel
theorem dX10_append_16 : decode cX10_append 16 = .ok (.iconst (-1), 1) := by decide +kernel
theorem dX10_append_17 : decode cX10_append 17 = .ok (.ireturn, 1) := by decide +kernel
theorem dX10_append_18 : decode cX10_append 18 = .ok (.aload_n 0, 1) := by decide +kernel
theorem dX10_append_19 : decode cX10_append 19 = .ok (.getfield 51, 3) := by decide +kernel
theorem dX10_append_22 : decode cX10_append 22 = .ok (.sipush 200, 3) := by decide +kernel
theorem dX10_append_25 : decode cX10_append 25 = .ok (.if_icmp .ne 6, 3) := by decide +kernel
theorem dX10_append_28 : decode cX10_append 28 = .ok (.bipush (-3), 2) := by decide +kernel
theorem dX10_append_30 : decode cX10_append 30 = .ok (.ireturn, 1) := by decide +kernel
theorem dX10_append_31 : decode cX10_append 31 = .ok (.aload_n 0, 1) := by decide +kernel
theorem dX10_append_32 : decode cX10_append 32 = .ok (.getfield 26, 3) := by decide +kernel
theorem dX10_append_35 : decode cX10_append 35 = .ok (.aload_n 0, 1) := by decide +kernel
theorem dX10_append_36 : decode cX10_append 36 = .ok (.getfield 51, 3) := by decide +kernel
theorem dX10_append_39 : decode cX10_append 39 = .ok (.iload_n 1, 1) := by decide +kernel
theorem dX10_append_40 : decode cX10_append 40 = .ok (.iastore, 1) := by decide +kernel
theorem dX10_append_41 : decode cX10_append 41 = .ok (.aload_n 0, 1) := by decide +kernel
theorem dX10_append_42 : decode cX10_append 42 = .ok (.dup, 1) := by decide +kernel
theorem dX10_append_43 : decode cX10_append 43 = .ok (.getfield 51, 3) := by decide +kernel
theorem dX10_append_46 : decode cX10_append 46 = .ok (.iconst 1, 1) := by decide +kernel
theorem dX10_append_47 : decode cX10_append 47 = .ok (.iadd, 1) := by decide +kernel
theorem dX10_append_48 : decode cX10_append 48 = .ok (.putfield 51, 3) := by decide +kernel
theorem dX10_append_51 : decode cX10_append 51 = .ok (.aload_n 0, 1) := by decide +kernel
theorem dX10_append_52 : decode cX10_append 52 = .ok (.getfield 51, 3) := by decide +kernel
theorem dX10_append_55 : decode cX10_append 55 = .ok (.ireturn, 1) := by decide +kernel
theorem dX10_clearText_0 : decode cX10_clearText 0 = .ok (.aload_n 0, 1) := by decide +kernel
theorem dX10_clearText_1 : decode cX10_clearText 1 = .ok (.iconst 0, 1) := by decide +kernel
theorem dX10_clearText_2 : decode cX10_clearText 2 = .ok (.putfield 47, 3) := by decide +kernel
theorem dX10_clearText_5 : decode cX10_clearText 5 = .ok (.aload_n 0, 1) := by decide +kernel
theorem dX10_clearText_6 : decode cX10_clearText 6 = .ok (.getfield 51, 3) := by decide +kernel
theorem dX10_clearText_9 : decode cX10_clearText 9 = .ok (.istore_n 1, 1) := by decide +kernel
theorem dX10_clearText_10 : decode cX10_clearText 10 = .ok (.aload_n 0, 1) := by decide +kernel
theorem dX10_clearText_11 : decode cX10_clearText 11 = .ok (.iconst 0, 1) := by decide +kernel
theorem dX10_clearText_12 : decode cX10_clearText 12 = .ok (.putfield 51, 3) := by decide +kernel
theorem dX10_clearText_15 : decode cX10_clearText 15 = .ok (.iload_n 1, 1) := by decide +kernel
theorem dX10_clearText_16 : decode cX10_clearText 16 = .ok (.ireturn, 1) := by decide +kernel
theorem dX10_load_0 : decode cX10_load 0 = .ok (.aload_n 0, 1) := by decide +kernel
theorem dX10_load_1 : decode cX10_load 1 = .ok (.iconst 0, 1) := by decide +kernel
theorem dX10_load_2 : decode cX10_load 2 = .ok (.putfield 47, 3) := by decide +kernel
theorem dX10_load_5 : decode cX10_load 5 = .ok (.iconst 0, 1) := by decide +kernel
theorem dX10_load_6 : decode cX10_load 6 = .ok (.istore_n 1, 1) := by decide +kernel
theorem dX10_load_7 : decode cX10_load 7 = .ok (.iload_n 1, 1) := by decide +kernel
theorem dX10_load_8 : decode cX10_load 8 = .ok (.sipush 439, 3) := by decide +kernel
theorem dX10_load_11 : decode cX10_load 11 = .ok (.if_icmp .ge 16, 3) := by decide +kernel
theorem dX10_load_14 : decode cX10_load 14 = .ok (.aload_n 0, 1) := by decide +kernel
theorem dX10_load_15 : decode cX10_load 15 = .ok (.getfield 13, 3) := by decide +kernel
theorem dX10_load_18 : decode cX10_load 18 = .ok (.iload_n 1, 1) := by decide +kernel
theorem dX10_load_19 : decode cX10_load 19 = .ok (.iconst 0, 1) := by decide +kernel
theorem dX10_load_20 : decode cX10_load 20 = .ok (.iastore, 1) := by decide +kernel
theorem dX10_load_21 : decode cX10_load 21 = .ok (.iinc 1 1, 3) := by decide +kernel
theorem dX10_load_24 : decode cX10_load 24 = .ok (.goto (-17), 3) := by decide +kernel
theorem dX10_load_27 : decode cX10_load 27 = .ok (.aload_n 0, 1) := by decide +kernel
theorem dX10_load_28 : decode cX10_load 28 = .ok (.bipush (-9), 2) := by decide +kernel
theorem dX10_load_30 : decode cX10_load 30 = .ok (.putfield 82, 3) := by decide +kernel
theorem dX10_load_33 : decode cX10_load 33 = .ok (.aload_n 0, 1) := by decide +kernel
theorem dX10_load_34 : decode cX10_load 34 = .ok (.iconst 0, 1) := by decide +kernel
theorem dX10_load_35 : decode cX10_load 35 = .ok (.putfield 54, 3) := by decide +kernel
theorem dX10_load_38 : decode cX10_load 38 = .ok (.aload_n 0, 1) := by decide +kernel
theorem dX10_load_39 : decode cX10_load 39 = .ok (.invokevirtual 89, 3) := by decide +kernel
theorem dX10_load_42 : decode cX10_load 42 = .ok (.aload_n 0, 1) := by decide +kernel
theorem dX10_load_43 : decode cX10_load 43 = .ok (.invokevirtual 85, 3) := by decide +kernel
theorem dX10_load_46 : decode cX10_load 46 = .ok (.ifCond .eq 17, 3) := by decide +kernel
theorem dX10_load_49 : decode cX10_load 49 = .ok (.aload_n 0, 1) := by decide +kernel
theorem dX10_load_50 : decode cX10_load 50 = .ok (.getfield 71, 3) := by decide +kernel
theorem dX10_load_53 : decode cX10_load 53 = .ok (.ifCond .eq 10, 3) := by decide +kernel
theorem dX10_load_56 : decode cX10_load 56 = .ok (.aload_n 0, 1) := by decide +kernel
theorem dX10_load_57 : decode cX10_load 57 = .ok (.invokevirtual 138, 3) := by decide +kernel
theorem dX10_load_60 : decode cX10_load 60 = .ok (.goto (-18), 3) := by decide +kernel
theorem dX10_load_63 : decode cX10_load 63 = .ok (.aload_n 0, 1) := by decide +kernel
theorem dX10_load_64 : decode cX10_load 64 = .ok (.invokevirtual 85, 3) := by decide +kernel
theorem dX10_load_67 : decode cX10_load 67 = .ok (.ifCond .ne 11, 3) := by decide +kernel
theorem dX10_load_70 : decode cX10_load 70 = .ok (.bipush (-10), 2) := by decide +kernel
theorem dX10_load_72 : decode cX10_load 72 = .ok (.aload_n 0, 1) := by decide +kernel
theorem dX10_load_73 : decode cX10_load 73 = .ok (.getfield 82, 3) := by decide +kernel
theorem dX10_load_76 : decode cX10_load 76 = .ok (.isub, 1) := by decide +kernel
theorem dX10_load_77 : decode cX10_load 77 = .ok (.ireturn, 1) := by decide +kernel
theorem dX10_load_78 : decode cX10_load 78 = .ok (.aload_n 0, 1) := by decide +kernel
theorem dX10_load_79 : decode cX10_load 79 = .ok (.invokevirtual 141, 3) := by decide +kernel
theorem dX10_load_82 : decode cX10_load 82 = .ok (.iconst 0, 1) := by decide +kernel
theorem dX10_load_83 : decode cX10_load 83 = .ok (.istore_n 1, 1) := by decide +kernel
theorem dX10_load_84 : decode cX10_load 84 = .ok (.iload_n 1, 1) := by decide +kernel
theorem dX10_load_85 : decode cX10_load 85 = .ok (.sipush 439, 3) := by decide +kernel
theorem dX10_load_88 : decode cX10_load 88 = .ok (.if_icmp .ge 21, 3) := by decide +kernel
theorem dX10_load_91 : decode cX10_load 91 = .ok (.aload_n 0, 1) := by decide +kernel
theorem dX10_load_92 : decode cX10_load 92 = .ok (.getfield 7, 3) := by decide +kernel
theorem dX10_load_95 : decode cX10_load 95 = .ok (.iload_n 1, 1) := by decide +kernel
theorem dX10_load_96 : decode cX10_load 96 = .ok (.aload_n 0, 1) := by decide +kernel
theorem dX10_load_97 : decode cX10_load 97 = .ok (.getfield 13, 3) := by decide +kernel
theorem dX10_load_100 : decode cX10_load 100 = .ok (.iload_n 1, 1) := by decide +kernel
theorem dX10_load_101 : decode cX10_load 101 = .ok (.iaload, 1) := by decide +kernel
theorem dX10_load_102 : decode cX10_load 102 = .ok (.iastore, 1) := by decide +kernel
theorem dX10_load_103 : decode cX10_load 103 = .ok (.iinc 1 1, 3) := by decide +kernel
theorem dX10_load_106 : decode cX10_load 106 = .ok (.goto (-22), 3) := by decide +kernel
theorem dX10_load_109 : decode cX10_load 109 = .ok (.aload_n 0, 1) := by decide +kernel
theorem dX10_load_110 : decode cX10_load 110 = .ok (.iconst 0, 1) := by decide +kernel
theorem dX10_load_111 : decode cX10_load 111 = .ok (.putfield 51, 3) := by decide +kernel
theorem dX10_load_114 : decode cX10_load 114 = .ok (.aload_n 0, 1) := by decide +kernel
theorem dX10_load_115 : decode cX10_load 115 = .ok (.getfield 7, 3) := by decide +kernel
theorem dX10_load_118 : decode cX10_load 118 = .ok (.bipush 8, 2) := by decide +kernel
theorem dX10_load_120 : decode cX10_load 120 = .ok (.iaload, 1) := by decide +kernel
theorem dX10_load_121 : decode cX10_load 121 = .ok (.aload_n 0, 1) := by decide +kernel
theorem dX10_load_122 : decode cX10_load 122 = .ok (.getfield 7, 3) := by decide +kernel
theorem dX10_load_125 : decode cX10_load 125 = .ok (.bipush 9, 2) := by decide +kernel
theorem dX10_load_127 : decode cX10_load 127 = .ok (.iaload, 1) := by decide +kernel
theorem dX10_load_128 : decode cX10_load 128 = .ok (.iadd, 1) := by decide +kernel
theorem dX10_load_129 : decode cX10_load 129 = .ok (.ireturn, 1) := by decide +kernel
theorem dX10_keep_0 : decode cX10_keep 0 = .ok (.aload_n 0, 1) := by decide +kernel
theorem dX10_keep_1 : decode cX10_keep 1 = .ok (.getfield 144, 3) := by decide +kernel
theorem dX10_keep_4 : decode cX10_keep 4 = .ok (.bipush 6, 2) := by decide +kernel
theorem dX10_keep_6 : decode cX10_keep 6 = .ok (.if_icmp .ne 44, 3) := by decide +kernel
theorem dX10_keep_9 : decode cX10_keep 9 = .ok (.iconst 0, 1) := by decide +kernel
theorem dX10_keep_10 : decode cX10_keep 10 = .ok (.istore_n 1, 1) := by decide +kernel
theorem dX10_keep_11 : decode cX10_keep 11 = .ok (.iload_n 1, 1) := by decide +kernel
theorem dX10_keep_12 : decode cX10_keep 12 = .ok (.sipush 2195, 3) := by decide +kernel
theorem dX10_keep_15 : decode cX10_keep 15 = .ok (.if_icmp .ge 25, 3) := by decide +kernel
theorem dX10_keep_18 : decode cX10_keep 18 = .ok (.aload_n 0, 1) := by decide +kernel
theorem dX10_keep_19 : decode cX10_keep 19 = .ok (.getfield 16, 3) := by decide +kernel
theorem dX10_keep_22 : decode cX10_keep 22 = .ok (.iload_n 1, 1) := by decide +kernel
theorem dX10_keep_23 : decode cX10_keep 23 = .ok (.aload_n 0, 1) := by decide +kernel
theorem dX10_keep_24 : decode cX10_keep 24 = .ok (.getfield 16, 3) := by decide +kernel
theorem dX10_keep_27 : decode cX10_keep 27 = .ok (.sipush 439, 3) := by decide +kernel
theorem dX10_keep_30 : decode cX10_keep 30 = .ok (.iload_n 1, 1) := by decide +kernel
theorem dX10_keep_31 : decode cX10_keep 31 = .ok (.iadd, 1) := by decide +kernel
theorem dX10_keep_32 : decode cX10_keep 32 = .ok (.iaload, 1) := by decide +kernel
theorem dX10_keep_33 : decode cX10_keep 33 = .ok (.iastore, 1) := by decide +kernel
theorem dX10_keep_34 : decode cX10_keep 34 = .ok (.iinc 1 1, 3) := by decide +kernel
theorem dX10_keep_37 : decode cX10_keep 37 = .ok (.goto (-26), 3) := by decide +kernel
theorem dX10_keep_40 : decode cX10_keep 40 = .ok (.aload_n 0, 1) := by decide +kernel
theorem dX10_keep_41 : decode cX10_keep 41 = .ok (.dup, 1) := by decide +kernel
theorem dX10_keep_42 : decode cX10_keep 42 = .ok (.getfield 144, 3) := by decide +kernel
theorem dX10_keep_45 : decode cX10_keep 45 = .ok (.iconst 1, 1) := by decide +kernel
theorem dX10_keep_46 : decode cX10_keep 46 = .ok (.isub, 1) := by decide +kernel
theorem dX10_keep_47 : decode cX10_keep 47 = .ok (.putfield 144, 3) := by decide +kernel
theorem dX10_keep_50 : decode cX10_keep 50 = .ok (.iconst 0, 1) := by decide +kernel
theorem dX10_keep_51 : decode cX10_keep 51 = .ok (.istore_n 1, 1) := by decide +kernel
theorem dX10_keep_52 : decode cX10_keep 52 = .ok (.iload_n 1, 1) := by decide +kernel
theorem dX10_keep_53 : decode cX10_keep 53 = .ok (.sipush 439, 3) := by decide +kernel
theorem dX10_keep_56 : decode cX10_keep 56 = .ok (.if_icmp .ge 30, 3) := by decide +kernel
theorem dX10_keep_59 : decode cX10_keep 59 = .ok (.aload_n 0, 1) := by decide +kernel
theorem dX10_keep_60 : decode cX10_keep 60 = .ok (.getfield 16, 3) := by decide +kernel
theorem dX10_keep_63 : decode cX10_keep 63 = .ok (.sipush 439, 3) := by decide +kernel
theorem dX10_keep_66 : decode cX10_keep 66 = .ok (.aload_n 0, 1) := by decide +kernel
theorem dX10_keep_67 : decode cX10_keep 67 = .ok (.getfield 144, 3) := by decide +kernel
theorem dX10_keep_70 : decode cX10_keep 70 = .ok (.imul, 1) := by decide +kernel
theorem dX10_keep_71 : decode cX10_keep 71 = .ok (.iload_n 1, 1) := by decide +kernel
theorem dX10_keep_72 : decode cX10_keep 72 = .ok (.iadd, 1) := by decide +kernel
theorem dX10_keep_73 : decode cX10_keep 73 = .ok (.aload_n 0, 1) := by decide +kernel
theorem dX10_keep_74 : decode cX10_keep 74 = .ok (.getfield 7, 3) := by decide +kernel
theorem dX10_keep_77 : decode cX10_keep 77 = .ok (.iload_n 1, 1) := by decide +kernel
theorem dX10_keep_78 : decode cX10_keep 78 = .ok (.iaload, 1) := by decide +kernel
theorem dX10_keep_79 : decode cX10_keep 79 = .ok (.iastore, 1) := by decide +kernel
theorem dX10_keep_80 : decode cX10_keep 80 = .ok (.iinc 1 1, 3) := by decide +kernel
theorem dX10_keep_83 : decode cX10_keep 83 = .ok (.goto (-31), 3) := by decide +kernel
theorem dX10_keep_86 : decode cX10_keep 86 = .ok (.aload_n 0, 1) := by decide +kernel
theorem dX10_keep_87 : decode cX10_keep 87 = .ok (.dup, 1) := by decide +kernel
theorem dX10_keep_88 : decode cX10_keep 88 = .ok (.getfield 144, 3) := by decide +kernel
theorem dX10_keep_91 : decode cX10_keep 91 = .ok (.iconst 1, 1) := by decide +kernel
theorem dX10_keep_92 : decode cX10_keep 92 = .ok (.iadd, 1) := by decide +kernel
theorem dX10_keep_93 : decode cX10_keep 93 = .ok (.putfield 144, 3) := by decide +kernel
theorem dX10_keep_96 : decode cX10_keep 96 = .ok (.return_, 1) := by decide +kernel
theorem dX10_removeAt_0 : decode cX10_removeAt 0 = .ok (.bipush 10, 2) := by decide +kernel
theorem dX10_removeAt_2 : decode cX10_removeAt 2 = .ok (.bipush 33, 2) := by decide +kernel
theorem dX10_removeAt_4 : decode cX10_removeAt 4 = .ok (.iload_n 1, 1) := by decide +kernel
theorem dX10_removeAt_5 : decode cX10_removeAt 5 = .ok (.imul, 1) := by decide +kernel
theorem dX10_removeAt_6 : decode cX10_removeAt 6 = .ok (.iadd, 1) := by decide +kernel
theorem dX10_removeAt_7 : decode cX10_removeAt 7 = .ok (.istore_n 3, 1) := by decide +kernel
theorem dX10_removeAt_8 : decode cX10_removeAt 8 = .ok (.iload_n 3, 1) := by decide +kernel
theorem dX10_removeAt_9 : decode cX10_removeAt 9 = .ok (.bipush 10, 2) := by decide +kernel
theorem dX10_removeAt_11 : decode cX10_removeAt 11 = .ok (.bipush 33, 2) := by decide +kernel
theorem dX10_removeAt_13 : decode cX10_removeAt 13 = .ok (.iload_n 2, 1) := by decide +kernel
theorem dX10_removeAt_14 : decode cX10_removeAt 14 = .ok (.iconst 1, 1) := by decide +kernel
theorem dX10_removeAt_15 : decode cX10_removeAt 15 = .ok (.isub, 1) := by decide +kernel
theorem dX10_removeAt_16 : decode cX10_removeAt 16 = .ok (.imul, 1) := by decide +kernel
theorem dX10_removeAt_17 : decode cX10_removeAt 17 = .ok (.iadd, 1) := by decide +kernel
theorem dX10_removeAt_18 : decode cX10_removeAt 18 = .ok (.if_icmp .ge 24, 3) := by decide +kernel
theorem dX10_removeAt_21 : decode cX10_removeAt 21 = .ok (.aload_n 0, 1) := by decide +kernel
theorem dX10_removeAt_22 : decode cX10_removeAt 22 = .ok (.getfield 7, 3) := by decide +kernel
theorem dX10_removeAt_25 : decode cX10_removeAt 25 = .ok (.iload_n 3, 1) := by decide +kernel
theorem dX10_removeAt_26 : decode cX10_removeAt 26 = .ok (.aload_n 0, 1) := by decide +kernel
theorem dX10_removeAt_27 : decode cX10_removeAt 27 = .ok (.getfield 7, 3) := by decide +kernel
theorem dX10_removeAt_30 : decode cX10_removeAt 30 = .ok (.iload_n 3, 1) := by decide +kernel
theorem dX10_removeAt_31 : decode cX10_removeAt 31 = .ok (.bipush 33, 2) := by decide +kernel
theorem dX10_removeAt_33 : decode cX10_removeAt 33 = .ok (.iadd, 1) := by decide +kernel
theorem dX10_removeAt_34 : decode cX10_removeAt 34 = .ok (.iaload, 1) := by decide +kernel
theorem dX10_removeAt_35 : decode cX10_removeAt 35 = .ok (.iastore, 1) := by decide +kernel
theorem dX10_removeAt_36 : decode cX10_removeAt 36 = .ok (.iinc 3 1, 3) := by decide +kernel
theorem dX10_removeAt_39 : decode cX10_removeAt 39 = .ok (.goto (-31), 3) := by decide +kernel
theorem dX10_removeAt_42 : decode cX10_removeAt 42 = .ok (.return_, 1) := by decide +kernel
theorem dX10_removeEquation_0 : decode cX10_removeEquation 0 = .ok (.aload_n 0, 1) := by decide +kernel
theorem dX10_removeEquation_1 : decode cX10_removeEquation 1 = .ok (.iconst 0, 1) := by decide +kernel
theorem dX10_removeEquation_2 : decode cX10_removeEquation 2 = .ok (.putfield 47, 3) := by decide +kernel
theorem dX10_removeEquation_5 : decode cX10_removeEquation 5 = .ok (.iload_n 1, 1) := by decide +kernel
theorem dX10_removeEquation_6 : decode cX10_removeEquation 6 = .ok (.iconst 0, 1) := by decide +kernel
theorem dX10_removeEquation_7 : decode cX10_removeEquation 7 = .ok (.aload_n 0, 1) := by decide +kernel
theorem dX10_removeEquation_8 : decode cX10_removeEquation 8 = .ok (.getfield 7, 3) := by decide +kernel
theorem dX10_removeEquation_11 : decode cX10_removeEquation 11 = .ok (.bipush 8, 2) := by decide +kernel
theorem dX10_removeEquation_13 : decode cX10_removeEquation 13 = .ok (.iaload, 1) := by decide +kernel
theorem dX10_removeEquation_14 : decode cX10_removeEquation 14 = .ok (.iconst 1, 1) := by decide +kernel
theorem dX10_removeEquation_15 : decode cX10_removeEquation 15 = .ok (.isub, 1) := by decide +kernel
theorem dX10_removeEquation_16 : decode cX10_removeEquation 16 = .ok (.invokestatic 60, 3) := by decide +kernel
theorem dX10_removeEquation_19 : decode cX10_removeEquation 19 = .ok (.ifCond .ne 5, 3) := by decide +kernel
theorem dX10_removeEquation_22 : decode cX10_removeEquation 22 = .ok (.iconst (-1), 1) := by decide +kernel
theorem dX10_removeEquation_23 : decode cX10_removeEquation 23 = .ok (.ireturn, 1) := by decide +kernel
theorem dX10_removeEquation_24 : decode cX10_removeEquation 24 = .ok (.aload_n 0, 1) := by decide +kernel
theorem dX10_removeEquation_25 : decode cX10_removeEquation 25 = .ok (.invokevirtual 141, 3) := by decide +kernel
theorem dX10_removeEquation_28 : decode cX10_removeEquation 28 = .ok (.aload_n 0, 1) := by decide +kernel
theorem dX10_removeEquation_29 : decode cX10_removeEquation 29 = .ok (.iload_n 1, 1) := by decide +kernel
theorem dX10_removeEquation_30 : decode cX10_removeEquation 30 = .ok (.bipush 10, 2) := by decide +kernel
theorem dX10_removeEquation_32 : decode cX10_removeEquation 32 = .ok (.invokevirtual 147, 3) := by decide +kernel
theorem dX10_removeEquation_35 : decode cX10_removeEquation 35 = .ok (.aload_n 0, 1) := by decide +kernel
theorem dX10_removeEquation_36 : decode cX10_removeEquation 36 = .ok (.getfield 7, 3) := by decide +kernel
theorem dX10_removeEquation_39 : decode cX10_removeEquation 39 = .ok (.bipush 8, 2) := by decide +kernel
theorem dX10_removeEquation_41 : decode cX10_removeEquation 41 = .ok (.dup2, 1) := by decide +kernel
theorem dX10_removeEquation_42 : decode cX10_removeEquation 42 = .ok (.iaload, 1) := by decide +kernel
theorem dX10_removeEquation_43 : decode cX10_removeEquation 43 = .ok (.iconst 1, 1) := by decide +kernel
theorem dX10_removeEquation_44 : decode cX10_removeEquation 44 = .ok (.isub, 1) := by decide +kernel
theorem dX10_removeEquation_45 : decode cX10_removeEquation 45 = .ok (.iastore, 1) := by decide +kernel
theorem dX10_removeEquation_46 : decode cX10_removeEquation 46 = .ok (.aload_n 0, 1) := by decide +kernel
theorem dX10_removeEquation_47 : decode cX10_removeEquation 47 = .ok (.getfield 7, 3) := by decide +kernel
theorem dX10_removeEquation_50 : decode cX10_removeEquation 50 = .ok (.bipush 8, 2) := by decide +kernel
theorem dX10_removeEquation_52 : decode cX10_removeEquation 52 = .ok (.iaload, 1) := by decide +kernel
theorem dX10_removeEquation_53 : decode cX10_removeEquation 53 = .ok (.ireturn, 1) := by decide +kernel
theorem dX10_removeDisequation_0 : decode cX10_removeDisequation 0 = .ok (.aload_n 0, 1) := by decide +kernel
theorem dX10_removeDisequation_1 : decode cX10_removeDisequation 1 = .ok (.iconst 0, 1) := by decide +kernel
theorem dX10_removeDisequation_2 : decode cX10_removeDisequation 2 = .ok (.putfield 47, 3) := by decide +kernel
theorem dX10_removeDisequation_5 : decode cX10_removeDisequation 5 = .ok (.iload_n 1, 1) := by decide +kernel
theorem dX10_removeDisequation_6 : decode cX10_removeDisequation 6 = .ok (.iconst 0, 1) := by decide +kernel
theorem dX10_removeDisequation_7 : decode cX10_removeDisequation 7 = .ok (.aload_n 0, 1) := by decide +kernel
theorem dX10_removeDisequation_8 : decode cX10_removeDisequation 8 = .ok (.getfield 7, 3) := by decide +kernel
theorem dX10_removeDisequation_11 : decode cX10_removeDisequation 11 = .ok (.bipush 9, 2) := by decide +kernel
theorem dX10_removeDisequation_13 : decode cX10_removeDisequation 13 = .ok (.iaload, 1) := by decide +kernel
theorem dX10_removeDisequation_14 : decode cX10_removeDisequation 14 = .ok (.iconst 1, 1) := by decide +kernel
theorem dX10_removeDisequation_15 : decode cX10_removeDisequation 15 = .ok (.isub, 1) := by decide +kernel
theorem dX10_removeDisequation_16 : decode cX10_removeDisequation 16 = .ok (.invokestatic 60, 3) := by decide +kernel
theorem dX10_removeDisequation_19 : decode cX10_removeDisequation 19 = .ok (.ifCond .ne 5, 3) := by decide +kernel
theorem dX10_removeDisequation_22 : decode cX10_removeDisequation 22 = .ok (.iconst (-1), 1) := by decide +kernel
theorem dX10_removeDisequation_23 : decode cX10_removeDisequation 23 = .ok (.ireturn, 1) := by decide +kernel
theorem dX10_removeDisequation_24 : decode cX10_removeDisequation 24 = .ok (.aload_n 0, 1) := by decide +kernel
theorem dX10_removeDisequation_25 : decode cX10_removeDisequation 25 = .ok (.invokevirtual 141, 3) := by decide +kernel
theorem dX10_removeDisequation_28 : decode cX10_removeDisequation 28 = .ok (.aload_n 0, 1) := by decide +kernel
theorem dX10_removeDisequation_29 : decode cX10_removeDisequation 29 = .ok (.bipush 10, 2) := by decide +kernel
theorem dX10_removeDisequation_31 : decode cX10_removeDisequation 31 = .ok (.iload_n 1, 1) := by decide +kernel
theorem dX10_removeDisequation_32 : decode cX10_removeDisequation 32 = .ok (.iadd, 1) := by decide +kernel
theorem dX10_removeDisequation_33 : decode cX10_removeDisequation 33 = .ok (.bipush 13, 2) := by decide +kernel
theorem dX10_removeDisequation_35 : decode cX10_removeDisequation 35 = .ok (.invokevirtual 147, 3) := by decide +kernel
theorem dX10_removeDisequation_38 : decode cX10_removeDisequation 38 = .ok (.aload_n 0, 1) := by decide +kernel
theorem dX10_removeDisequation_39 : decode cX10_removeDisequation 39 = .ok (.getfield 7, 3) := by decide +kernel
theorem dX10_removeDisequation_42 : decode cX10_removeDisequation 42 = .ok (.bipush 9, 2) := by decide +kernel
theorem dX10_removeDisequation_44 : decode cX10_removeDisequation 44 = .ok (.dup2, 1) := by decide +kernel
theorem dX10_removeDisequation_45 : decode cX10_removeDisequation 45 = .ok (.iaload, 1) := by decide +kernel
theorem dX10_removeDisequation_46 : decode cX10_removeDisequation 46 = .ok (.iconst 1, 1) := by decide +kernel
theorem dX10_removeDisequation_47 : decode cX10_removeDisequation 47 = .ok (.isub, 1) := by decide +kernel
theorem dX10_removeDisequation_48 : decode cX10_removeDisequation 48 = .ok (.iastore, 1) := by decide +kernel
theorem dX10_removeDisequation_49 : decode cX10_removeDisequation 49 = .ok (.aload_n 0, 1) := by decide +kernel
theorem dX10_removeDisequation_50 : decode cX10_removeDisequation 50 = .ok (.getfield 7, 3) := by decide +kernel
theorem dX10_removeDisequation_53 : decode cX10_removeDisequation 53 = .ok (.bipush 9, 2) := by decide +kernel
theorem dX10_removeDisequation_55 : decode cX10_removeDisequation 55 = .ok (.iaload, 1) := by decide +kernel
theorem dX10_removeDisequation_56 : decode cX10_removeDisequation 56 = .ok (.ireturn, 1) := by decide +kernel
theorem dX10_isVariable_0 : decode cX10_isVariable 0 = .ok (.iload_n 0, 1) := by decide +kernel
theorem dX10_isVariable_1 : decode cX10_isVariable 1 = .ok (.iconst 0, 1) := by decide +kernel
theorem dX10_isVariable_2 : decode cX10_isVariable 2 = .ok (.bipush 7, 2) := by decide +kernel
theorem dX10_isVariable_4 : decode cX10_isVariable 4 = .ok (.invokestatic 60, 3) := by decide +kernel
theorem dX10_isVariable_7 : decode cX10_isVariable 7 = .ok (.ireturn, 1) := by decide +kernel
theorem dX10_width_0 : decode cX10_width 0 = .ok (.aload_n 0, 1) := by decide +kernel
theorem dX10_width_1 : decode cX10_width 1 = .ok (.iconst 0, 1) := by decide +kernel
theorem dX10_width_2 : decode cX10_width 2 = .ok (.putfield 47, 3) := by decide +kernel
theorem dX10_width_5 : decode cX10_width 5 = .ok (.iload_n 1, 1) := by decide +kernel
theorem dX10_width_6 : decode cX10_width 6 = .ok (.invokestatic 151, 3) := by decide +kernel
theorem dX10_width_9 : decode cX10_width 9 = .ok (.ifCond .eq 12, 3) := by decide +kernel
theorem dX10_width_12 : decode cX10_width 12 = .ok (.aload_n 0, 1) := by decide +kernel
theorem dX10_width_13 : decode cX10_width 13 = .ok (.getfield 7, 3) := by decide +kernel
theorem dX10_width_16 : decode cX10_width 16 = .ok (.iload_n 1, 1) := by decide +kernel
theorem dX10_width_17 : decode cX10_width 17 = .ok (.iaload, 1) := by decide +kernel
theorem dX10_width_18 : decode cX10_width 18 = .ok (.goto 4, 3) := by decide +kernel
theorem dX10_width_21 : decode cX10_width 21 = .ok (.iconst (-1), 1) := by decide +kernel
theorem dX10_width_22 : decode cX10_width 22 = .ok (.ireturn, 1) := by decide +kernel
theorem dX10_equationCount_0 : decode cX10_equationCount 0 = .ok (.aload_n 0, 1) := by decide +kernel
theorem dX10_equationCount_1 : decode cX10_equationCount 1 = .ok (.iconst 0, 1) := by decide +kernel
theorem dX10_equationCount_2 : decode cX10_equationCount 2 = .ok (.putfield 47, 3) := by decide +kernel
theorem dX10_equationCount_5 : decode cX10_equationCount 5 = .ok (.aload_n 0, 1) := by decide +kernel
theorem dX10_equationCount_6 : decode cX10_equationCount 6 = .ok (.getfield 7, 3) := by decide +kernel
theorem dX10_equationCount_9 : decode cX10_equationCount 9 = .ok (.bipush 8, 2) := by decide +kernel
theorem dX10_equationCount_11 : decode cX10_equationCount 11 = .ok (.iaload, 1) := by decide +kernel
theorem dX10_equationCount_12 : decode cX10_equationCount 12 = .ok (.ireturn, 1) := by decide +kernel
theorem dX10_disequationCount_0 : decode cX10_disequationCount 0 = .ok (.aload_n 0, 1) := by decide +kernel
theorem dX10_disequationCount_1 : decode cX10_disequationCount 1 = .ok (.iconst 0, 1) := by decide +kernel
theorem dX10_disequationCount_2 : decode cX10_disequationCount 2 = .ok (.putfield 47, 3) := by decide +kernel
theorem dX10_disequationCount_5 : decode cX10_disequationCount 5 = .ok (.aload_n 0, 1) := by decide +kernel
theorem dX10_disequationCount_6 : decode cX10_disequationCount 6 = .ok (.getfield 7, 3) := by decide +kernel
theorem dX10_disequationCount_9 : decode cX10_disequationCount 9 = .ok (.bipush 9, 2) := by decide +kernel
theorem dX10_disequationCount_11 : decode cX10_disequationCount 11 = .ok (.iaload, 1) := by decide +kernel
theorem dX10_disequationCount_12 : decode cX10_disequationCount 12 = .ok (.ireturn, 1) := by decide +kernel
theorem dX10_widthOf_0 : decode cX10_widthOf 0 = .ok (.aload_n 0, 1) := by decide +kernel
theorem dX10_widthOf_1 : decode cX10_widthOf 1 = .ok (.getfield 7, 3) := by decide +kernel
theorem dX10_widthOf_4 : decode cX10_widthOf 4 = .ok (.bipush 10, 2) := by decide +kernel
theorem dX10_widthOf_6 : decode cX10_widthOf 6 = .ok (.bipush 33, 2) := by decide +kernel
theorem dX10_widthOf_8 : decode cX10_widthOf 8 = .ok (.iload_n 1, 1) := by decide +kernel
theorem dX10_widthOf_9 : decode cX10_widthOf 9 = .ok (.imul, 1) := by decide +kernel
theorem dX10_widthOf_10 : decode cX10_widthOf 10 = .ok (.iadd, 1) := by decide +kernel
theorem dX10_widthOf_11 : decode cX10_widthOf 11 = .ok (.iaload, 1) := by decide +kernel
theorem dX10_widthOf_12 : decode cX10_widthOf 12 = .ok (.ireturn, 1) := by decide +kernel
theorem dX10_bitOf_0 : decode cX10_bitOf 0 = .ok (.aload_n 0, 1) := by decide +kernel
theorem dX10_bitOf_1 : decode cX10_bitOf 1 = .ok (.getfield 7, 3) := by decide +kernel
theorem dX10_bitOf_4 : decode cX10_bitOf 4 = .ok (.bipush 10, 2) := by decide +kernel
theorem dX10_bitOf_6 : decode cX10_bitOf 6 = .ok (.bipush 33, 2) := by decide +kernel
theorem dX10_bitOf_8 : decode cX10_bitOf 8 = .ok (.iload_n 1, 1) := by decide +kernel
theorem dX10_bitOf_9 : decode cX10_bitOf 9 = .ok (.imul, 1) := by decide +kernel
theorem dX10_bitOf_10 : decode cX10_bitOf 10 = .ok (.iadd, 1) := by decide +kernel
theorem dX10_bitOf_11 : decode cX10_bitOf 11 = .ok (.iconst 1, 1) := by decide +kernel
theorem dX10_bitOf_12 : decode cX10_bitOf 12 = .ok (.iadd, 1) := by decide +kernel
theorem dX10_bitOf_13 : decode cX10_bitOf 13 = .ok (.bipush 16, 2) := by decide +kernel
theorem dX10_bitOf_15 : decode cX10_bitOf 15 = .ok (.iload_n 2, 1) := by decide +kernel
theorem dX10_bitOf_16 : decode cX10_bitOf 16 = .ok (.imul, 1) := by decide +kernel
theorem dX10_bitOf_17 : decode cX10_bitOf 17 = .ok (.iadd, 1) := by decide +kernel
theorem dX10_bitOf_18 : decode cX10_bitOf 18 = .ok (.iload_n 3, 1) := by decide +kernel
theorem dX10_bitOf_19 : decode cX10_bitOf 19 = .ok (.iadd, 1) := by decide +kernel
theorem dX10_bitOf_20 : decode cX10_bitOf 20 = .ok (.iaload, 1) := by decide +kernel
theorem dX10_bitOf_21 : decode cX10_bitOf 21 = .ok (.ireturn, 1) := by decide +kernel
theorem dX10_addCut_0 : decode cX10_addCut 0 = .ok (.aload_n 0, 1) := by decide +kernel
theorem dX10_addCut_1 : decode cX10_addCut 1 = .ok (.aload_n 0, 1) := by decide +kernel
theorem dX10_addCut_2 : decode cX10_addCut 2 = .ok (.getfield 154, 3) := by decide +kernel
theorem dX10_addCut_5 : decode cX10_addCut 5 = .ok (.ifCond .ne 12, 3) := by decide +kernel
theorem dX10_addCut_8 : decode cX10_addCut 8 = .ok (.aload_n 0, 1) := by decide +kernel
theorem dX10_addCut_9 : decode cX10_addCut 9 = .ok (.getfield 32, 3) := by decide +kernel
theorem dX10_addCut_12 : decode cX10_addCut 12 = .ok (.iload_n 1, 1) := by decide +kernel
theorem dX10_addCut_13 : decode cX10_addCut 13 = .ok (.baload, 1) := by decide +kernel
theorem dX10_addCut_14 : decode cX10_addCut 14 = .ok (.ifCond .ne 7, 3) := by decide +kernel
theorem dX10_addCut_17 : decode cX10_addCut 17 = .ok (.iconst 1, 1) := by decide +kernel
theorem dX10_addCut_18 : decode cX10_addCut 18 = .ok (.goto 4, 3) := by decide +kernel
theorem dX10_addCut_21 : decode cX10_addCut 21 = .ok (.iconst 0, 1) := by decide +kernel
theorem dX10_addCut_22 : decode cX10_addCut 22 = .ok (.putfield 154, 3) := by decide +kernel
theorem dX10_addCut_25 : decode cX10_addCut 25 = .ok (.aload_n 0, 1) := by decide +kernel
theorem dX10_addCut_26 : decode cX10_addCut 26 = .ok (.getfield 32, 3) := by decide +kernel
theorem dX10_addCut_29 : decode cX10_addCut 29 = .ok (.iload_n 1, 1) := by decide +kernel
theorem dX10_addCut_30 : decode cX10_addCut 30 = .ok (.iconst 1, 1) := by decide +kernel
theorem dX10_addCut_31 : decode cX10_addCut 31 = .ok (.bastore, 1) := by decide +kernel
theorem dX10_addCut_32 : decode cX10_addCut 32 = .ok (.return_, 1) := by decide +kernel
theorem dX10_isOfVariable_0 : decode cX10_isOfVariable 0 = .ok (.iload_n 1, 1) := by decide +kernel
theorem dX10_isOfVariable_1 : decode cX10_isOfVariable 1 = .ok (.sipush 256, 3) := by decide +kernel
theorem dX10_isOfVariable_4 : decode cX10_isOfVariable 4 = .ok (.irem, 1) := by decide +kernel
theorem dX10_isOfVariable_5 : decode cX10_isOfVariable 5 = .ok (.bipush 16, 2) := by decide +kernel
theorem dX10_isOfVariable_7 : decode cX10_isOfVariable 7 = .ok (.if_icmp .lt 7, 3) := by decide +kernel
theorem dX10_isOfVariable_10 : decode cX10_isOfVariable 10 = .ok (.iconst 1, 1) := by decide +kernel
theorem dX10_isOfVariable_11 : decode cX10_isOfVariable 11 = .ok (.goto 4, 3) := by decide +kernel
theorem dX10_isOfVariable_14 : decode cX10_isOfVariable 14 = .ok (.iconst 0, 1) := by decide +kernel
theorem dX10_isOfVariable_15 : decode cX10_isOfVariable 15 = .ok (.ireturn, 1) := by decide +kernel
theorem dX10_variableBit_0 : decode cX10_variableBit 0 = .ok (.iload_n 0, 1) := by decide +kernel
theorem dX10_variableBit_1 : decode cX10_variableBit 1 = .ok (.sipush 256, 3) := by decide +kernel
theorem dX10_variableBit_4 : decode cX10_variableBit 4 = .ok (.irem, 1) := by decide +kernel
theorem dX10_variableBit_5 : decode cX10_variableBit 5 = .ok (.bipush 16, 2) := by decide +kernel
theorem dX10_variableBit_7 : decode cX10_variableBit 7 = .ok (.isub, 1) := by decide +kernel
theorem dX10_variableBit_8 : decode cX10_variableBit 8 = .ok (.ireturn, 1) := by decide +kernel
theorem dX10_areOfOnePart_0 : decode cX10_areOfOnePart 0 = .ok (.iload_n 0, 1) := by decide +kernel
theorem dX10_areOfOnePart_1 : decode cX10_areOfOnePart 1 = .ok (.sipush 256, 3) := by decide +kernel
theorem dX10_areOfOnePart_4 : decode cX10_areOfOnePart 4 = .ok (.idiv, 1) := by decide +kernel
theorem dX10_areOfOnePart_5 : decode cX10_areOfOnePart 5 = .ok (.iload_n 1, 1) := by decide +kernel
theorem dX10_areOfOnePart_6 : decode cX10_areOfOnePart 6 = .ok (.sipush 256, 3) := by decide +kernel
theorem dX10_areOfOnePart_9 : decode cX10_areOfOnePart 9 = .ok (.idiv, 1) := by decide +kernel
theorem dX10_areOfOnePart_10 : decode cX10_areOfOnePart 10 = .ok (.if_icmp .ne 7, 3) := by decide +kernel
theorem dX10_areOfOnePart_13 : decode cX10_areOfOnePart 13 = .ok (.iconst 1, 1) := by decide +kernel
theorem dX10_areOfOnePart_14 : decode cX10_areOfOnePart 14 = .ok (.goto 4, 3) := by decide +kernel
theorem dX10_areOfOnePart_17 : decode cX10_areOfOnePart 17 = .ok (.iconst 0, 1) := by decide +kernel
theorem dX10_areOfOnePart_18 : decode cX10_areOfOnePart 18 = .ok (.ireturn, 1) := by decide +kernel
theorem dX10_cutEnds_0 : decode cX10_cutEnds 0 = .ok (.aload_n 0, 1) := by decide +kernel
theorem dX10_cutEnds_1 : decode cX10_cutEnds 1 = .ok (.iload_n 1, 1) := by decide +kernel
theorem dX10_cutEnds_2 : decode cX10_cutEnds 2 = .ok (.invokevirtual 158, 3) := by decide +kernel
theorem dX10_cutEnds_5 : decode cX10_cutEnds 5 = .ok (.istore_n 3, 1) := by decide +kernel
theorem dX10_cutEnds_6 : decode cX10_cutEnds 6 = .ok (.iconst 0, 1) := by decide +kernel
theorem dX10_cutEnds_7 : decode cX10_cutEnds 7 = .ok (.istore 4, 2) := by decide +kernel
theorem dX10_cutEnds_9 : decode cX10_cutEnds 9 = .ok (.iload 4, 2) := by decide +kernel
theorem dX10_cutEnds_11 : decode cX10_cutEnds 11 = .ok (.iload_n 3, 1) := by decide +kernel
theorem dX10_cutEnds_12 : decode cX10_cutEnds 12 = .ok (.if_icmp .ge 150, 3) := by decide +kernel
theorem dX10_cutEnds_15 : decode cX10_cutEnds 15 = .ok (.aload_n 0, 1) := by decide +kernel
theorem dX10_cutEnds_16 : decode cX10_cutEnds 16 = .ok (.iload_n 1, 1) := by decide +kernel
theorem dX10_cutEnds_17 : decode cX10_cutEnds 17 = .ok (.iload_n 2, 1) := by decide +kernel
theorem dX10_cutEnds_18 : decode cX10_cutEnds 18 = .ok (.iload 4, 2) := by decide +kernel
theorem dX10_cutEnds_20 : decode cX10_cutEnds 20 = .ok (.invokevirtual 161, 3) := by decide +kernel
theorem dX10_cutEnds_23 : decode cX10_cutEnds 23 = .ok (.istore 5, 2) := by decide +kernel
theorem dX10_cutEnds_25 : decode cX10_cutEnds 25 = .ok (.aload_n 0, 1) := by decide +kernel
theorem dX10_cutEnds_26 : decode cX10_cutEnds 26 = .ok (.iload 5, 2) := by decide +kernel
theorem dX10_cutEnds_28 : decode cX10_cutEnds 28 = .ok (.invokevirtual 165, 3) := by decide +kernel
theorem dX10_cutEnds_31 : decode cX10_cutEnds 31 = .ok (.ifCond .eq 125, 3) := by decide +kernel
theorem dX10_cutEnds_34 : decode cX10_cutEnds 34 = .ok (.iload 5, 2) := by decide +kernel
theorem dX10_cutEnds_36 : decode cX10_cutEnds 36 = .ok (.invokestatic 168, 3) := by decide +kernel
theorem dX10_cutEnds_39 : decode cX10_cutEnds 39 = .ok (.istore 6, 2) := by decide +kernel
theorem dX10_cutEnds_41 : decode cX10_cutEnds 41 = .ok (.iload 4, 2) := by decide +kernel
theorem dX10_cutEnds_43 : decode cX10_cutEnds 43 = .ok (.ifCond .eq 21, 3) := by decide +kernel
theorem dX10_cutEnds_46 : decode cX10_cutEnds 46 = .ok (.iload 5, 2) := by decide +kernel
theorem dX10_cutEnds_48 : decode cX10_cutEnds 48 = .ok (.aload_n 0, 1) := by decide +kernel
theorem dX10_cutEnds_49 : decode cX10_cutEnds 49 = .ok (.iload_n 1, 1) := by decide +kernel
theorem dX10_cutEnds_50 : decode cX10_cutEnds 50 = .ok (.iload_n 2, 1) := by decide +kernel
theorem dX10_cutEnds_51 : decode cX10_cutEnds 51 = .ok (.iload 4, 2) := by decide +kernel
theorem dX10_cutEnds_53 : decode cX10_cutEnds 53 = .ok (.iconst 1, 1) := by decide +kernel
theorem dX10_cutEnds_54 : decode cX10_cutEnds 54 = .ok (.isub, 1) := by decide +kernel
theorem dX10_cutEnds_55 : decode cX10_cutEnds 55 = .ok (.invokevirtual 161, 3) := by decide +kernel
theorem dX10_cutEnds_58 : decode cX10_cutEnds 58 = .ok (.invokestatic 171, 3) := by decide +kernel
theorem dX10_cutEnds_61 : decode cX10_cutEnds 61 = .ok (.ifCond .ne 7, 3) := by decide +kernel
theorem dX10_cutEnds_64 : decode cX10_cutEnds 64 = .ok (.iconst 1, 1) := by decide +kernel
theorem dX10_cutEnds_65 : decode cX10_cutEnds 65 = .ok (.goto 4, 3) := by decide +kernel
theorem dX10_cutEnds_68 : decode cX10_cutEnds 68 = .ok (.iconst 0, 1) := by decide +kernel
theorem dX10_cutEnds_69 : decode cX10_cutEnds 69 = .ok (.istore 7, 2) := by decide +kernel
theorem dX10_cutEnds_71 : decode cX10_cutEnds 71 = .ok (.iload 4, 2) := by decide +kernel
theorem dX10_cutEnds_73 : decode cX10_cutEnds 73 = .ok (.iload_n 3, 1) := by decide +kernel
theorem dX10_cutEnds_74 : decode cX10_cutEnds 74 = .ok (.iconst 1, 1) := by decide +kernel
theorem dX10_cutEnds_75 : decode cX10_cutEnds 75 = .ok (.isub, 1) := by decide +kernel
theorem dX10_cutEnds_76 : decode cX10_cutEnds 76 = .ok (.if_icmp .eq 21, 3) := by decide +kernel
theorem dX10_cutEnds_79 : decode cX10_cutEnds 79 = .ok (.iload 5, 2) := by decide +kernel
theorem dX10_cutEnds_81 : decode cX10_cutEnds 81 = .ok (.aload_n 0, 1) := by decide +kernel
theorem dX10_cutEnds_82 : decode cX10_cutEnds 82 = .ok (.iload_n 1, 1) := by decide +kernel
theorem dX10_cutEnds_83 : decode cX10_cutEnds 83 = .ok (.iload_n 2, 1) := by decide +kernel
theorem dX10_cutEnds_84 : decode cX10_cutEnds 84 = .ok (.iload 4, 2) := by decide +kernel
theorem dX10_cutEnds_86 : decode cX10_cutEnds 86 = .ok (.iconst 1, 1) := by decide +kernel
theorem dX10_cutEnds_87 : decode cX10_cutEnds 87 = .ok (.iadd, 1) := by decide +kernel
theorem dX10_cutEnds_88 : decode cX10_cutEnds 88 = .ok (.invokevirtual 161, 3) := by decide +kernel
theorem dX10_cutEnds_91 : decode cX10_cutEnds 91 = .ok (.invokestatic 171, 3) := by decide +kernel
theorem dX10_cutEnds_94 : decode cX10_cutEnds 94 = .ok (.ifCond .ne 7, 3) := by decide +kernel
theorem dX10_cutEnds_97 : decode cX10_cutEnds 97 = .ok (.iconst 1, 1) := by decide +kernel
theorem dX10_cutEnds_98 : decode cX10_cutEnds 98 = .ok (.goto 4, 3) := by decide +kernel
theorem dX10_cutEnds_101 : decode cX10_cutEnds 101 = .ok (.iconst 0, 1) := by decide +kernel
theorem dX10_cutEnds_102 : decode cX10_cutEnds 102 = .ok (.istore 8, 2) := by decide +kernel
theorem dX10_cutEnds_104 : decode cX10_cutEnds 104 = .ok (.iload 7, 2) := by decide +kernel
theorem dX10_cutEnds_106 : decode cX10_cutEnds 106 = .ok (.ifCond .eq 17, 3) := by decide +kernel
theorem dX10_cutEnds_109 : decode cX10_cutEnds 109 = .ok (.iload 6, 2) := by decide +kernel
theorem dX10_cutEnds_111 : decode cX10_cutEnds 111 = .ok (.bipush 16, 2) := by decide +kernel
theorem dX10_cutEnds_113 : decode cX10_cutEnds 113 = .ok (.irem, 1) := by decide +kernel
theorem dX10_cutEnds_114 : decode cX10_cutEnds 114 = .ok (.ifCond .le 9, 3) := by decide +kernel
theorem dX10_cutEnds_117 : decode cX10_cutEnds 117 = .ok (.aload_n 0, 1) := by decide +kernel
theorem dX10_cutEnds_118 : decode cX10_cutEnds 118 = .ok (.iload 6, 2) := by decide +kernel
theorem dX10_cutEnds_120 : decode cX10_cutEnds 120 = .ok (.invokevirtual 175, 3) := by decide +kernel
theorem dX10_cutEnds_123 : decode cX10_cutEnds 123 = .ok (.iload 8, 2) := by decide +kernel
theorem dX10_cutEnds_125 : decode cX10_cutEnds 125 = .ok (.ifCond .eq 31, 3) := by decide +kernel
theorem dX10_cutEnds_128 : decode cX10_cutEnds 128 = .ok (.iload 6, 2) := by decide +kernel
theorem dX10_cutEnds_130 : decode cX10_cutEnds 130 = .ok (.bipush 16, 2) := by decide +kernel
theorem dX10_cutEnds_132 : decode cX10_cutEnds 132 = .ok (.irem, 1) := by decide +kernel
theorem dX10_cutEnds_133 : decode cX10_cutEnds 133 = .ok (.iconst 1, 1) := by decide +kernel
theorem dX10_cutEnds_134 : decode cX10_cutEnds 134 = .ok (.iadd, 1) := by decide +kernel
theorem dX10_cutEnds_135 : decode cX10_cutEnds 135 = .ok (.aload_n 0, 1) := by decide +kernel
theorem dX10_cutEnds_136 : decode cX10_cutEnds 136 = .ok (.getfield 7, 3) := by decide +kernel
theorem dX10_cutEnds_139 : decode cX10_cutEnds 139 = .ok (.iload 6, 2) := by decide +kernel
theorem dX10_cutEnds_141 : decode cX10_cutEnds 141 = .ok (.bipush 16, 2) := by decide +kernel
theorem dX10_cutEnds_143 : decode cX10_cutEnds 143 = .ok (.idiv, 1) := by decide +kernel
theorem dX10_cutEnds_144 : decode cX10_cutEnds 144 = .ok (.iaload, 1) := by decide +kernel
theorem dX10_cutEnds_145 : decode cX10_cutEnds 145 = .ok (.if_icmp .ge 11, 3) := by decide +kernel
theorem dX10_cutEnds_148 : decode cX10_cutEnds 148 = .ok (.aload_n 0, 1) := by decide +kernel
theorem dX10_cutEnds_149 : decode cX10_cutEnds 149 = .ok (.iload 6, 2) := by decide +kernel
theorem dX10_cutEnds_151 : decode cX10_cutEnds 151 = .ok (.iconst 1, 1) := by decide +kernel
theorem dX10_cutEnds_152 : decode cX10_cutEnds 152 = .ok (.iadd, 1) := by decide +kernel
theorem dX10_cutEnds_153 : decode cX10_cutEnds 153 = .ok (.invokevirtual 175, 3) := by decide +kernel
theorem dX10_cutEnds_156 : decode cX10_cutEnds 156 = .ok (.iinc 4 1, 3) := by decide +kernel
theorem dX10_cutEnds_159 : decode cX10_cutEnds 159 = .ok (.goto (-150), 3) := by decide +kernel
theorem dX10_cutEnds_162 : decode cX10_cutEnds 162 = .ok (.return_, 1) := by decide +kernel
theorem dX10_isMarked_0 : decode cX10_isMarked 0 = .ok (.aload_n 0, 1) := by decide +kernel
theorem dX10_isMarked_1 : decode cX10_isMarked 1 = .ok (.iload_n 1, 1) := by decide +kernel
theorem dX10_isMarked_2 : decode cX10_isMarked 2 = .ok (.iload_n 2, 1) := by decide +kernel
theorem dX10_isMarked_3 : decode cX10_isMarked 3 = .ok (.iload_n 3, 1) := by decide +kernel
theorem dX10_isMarked_4 : decode cX10_isMarked 4 = .ok (.iconst 1, 1) := by decide +kernel
theorem dX10_isMarked_5 : decode cX10_isMarked 5 = .ok (.isub, 1) := by decide +kernel
theorem dX10_isMarked_6 : decode cX10_isMarked 6 = .ok (.invokevirtual 161, 3) := by decide +kernel
theorem dX10_isMarked_9 : decode cX10_isMarked 9 = .ok (.istore 4, 2) := by decide +kernel
theorem dX10_isMarked_11 : decode cX10_isMarked 11 = .ok (.aload_n 0, 1) := by decide +kernel
theorem dX10_isMarked_12 : decode cX10_isMarked 12 = .ok (.iload_n 1, 1) := by decide +kernel
theorem dX10_isMarked_13 : decode cX10_isMarked 13 = .ok (.iload_n 2, 1) := by decide +kernel
theorem dX10_isMarked_14 : decode cX10_isMarked 14 = .ok (.iload_n 3, 1) := by decide +kernel
theorem dX10_isMarked_15 : decode cX10_isMarked 15 = .ok (.invokevirtual 161, 3) := by decide +kernel
theorem dX10_isMarked_18 : decode cX10_isMarked 18 = .ok (.istore 5, 2) := by decide +kernel
theorem dX10_isMarked_20 : decode cX10_isMarked 20 = .ok (.iload 4, 2) := by decide +kernel
theorem dX10_isMarked_22 : decode cX10_isMarked 22 = .ok (.iload 5, 2) := by decide +kernel
theorem dX10_isMarked_24 : decode cX10_isMarked 24 = .ok (.invokestatic 171, 3) := by decide +kernel
theorem dX10_isMarked_27 : decode cX10_isMarked 27 = .ok (.ifCond .eq 25, 3) := by decide +kernel
theorem dX10_isMarked_30 : decode cX10_isMarked 30 = .ok (.aload_n 0, 1) := by decide +kernel
theorem dX10_isMarked_31 : decode cX10_isMarked 31 = .ok (.iload 5, 2) := by decide +kernel
theorem dX10_isMarked_33 : decode cX10_isMarked 33 = .ok (.invokevirtual 165, 3) := by decide +kernel
theorem dX10_isMarked_36 : decode cX10_isMarked 36 = .ok (.ifCond .eq 20, 3) := by decide +kernel
theorem dX10_isMarked_39 : decode cX10_isMarked 39 = .ok (.aload_n 0, 1) := by decide +kernel
theorem dX10_isMarked_40 : decode cX10_isMarked 40 = .ok (.getfield 32, 3) := by decide +kernel
theorem dX10_isMarked_43 : decode cX10_isMarked 43 = .ok (.iload 5, 2) := by decide +kernel
theorem dX10_isMarked_45 : decode cX10_isMarked 45 = .ok (.invokestatic 168, 3) := by decide +kernel
theorem dX10_isMarked_48 : decode cX10_isMarked 48 = .ok (.baload, 1) := by decide +kernel
theorem dX10_isMarked_49 : decode cX10_isMarked 49 = .ok (.ifCond .eq 7, 3) := by decide +kernel
theorem dX10_isMarked_52 : decode cX10_isMarked 52 = .ok (.iconst 1, 1) := by decide +kernel
theorem dX10_isMarked_53 : decode cX10_isMarked 53 = .ok (.goto 4, 3) := by decide +kernel
theorem dX10_isMarked_56 : decode cX10_isMarked 56 = .ok (.iconst 0, 1) := by decide +kernel
theorem dX10_isMarked_57 : decode cX10_isMarked 57 = .ok (.ireturn, 1) := by decide +kernel
theorem dX10_carry_0 : decode cX10_carry 0 = .ok (.aload_n 0, 1) := by decide +kernel
theorem dX10_carry_1 : decode cX10_carry 1 = .ok (.iload_n 1, 1) := by decide +kernel
theorem dX10_carry_2 : decode cX10_carry 2 = .ok (.iconst 1, 1) := by decide +kernel
theorem dX10_carry_3 : decode cX10_carry 3 = .ok (.iload_n 2, 1) := by decide +kernel
theorem dX10_carry_4 : decode cX10_carry 4 = .ok (.isub, 1) := by decide +kernel
theorem dX10_carry_5 : decode cX10_carry 5 = .ok (.iload_n 3, 1) := by decide +kernel
theorem dX10_carry_6 : decode cX10_carry 6 = .ok (.iconst 1, 1) := by decide +kernel
theorem dX10_carry_7 : decode cX10_carry 7 = .ok (.isub, 1) := by decide +kernel
theorem dX10_carry_8 : decode cX10_carry 8 = .ok (.invokevirtual 161, 3) := by decide +kernel
theorem dX10_carry_11 : decode cX10_carry 11 = .ok (.istore 4, 2) := by decide +kernel
theorem dX10_carry_13 : decode cX10_carry 13 = .ok (.aload_n 0, 1) := by decide +kernel
theorem dX10_carry_14 : decode cX10_carry 14 = .ok (.iload_n 1, 1) := by decide +kernel
theorem dX10_carry_15 : decode cX10_carry 15 = .ok (.iconst 1, 1) := by decide +kernel
theorem dX10_carry_16 : decode cX10_carry 16 = .ok (.iload_n 2, 1) := by decide +kernel
theorem dX10_carry_17 : decode cX10_carry 17 = .ok (.isub, 1) := by decide +kernel
theorem dX10_carry_18 : decode cX10_carry 18 = .ok (.iload_n 3, 1) := by decide +kernel
theorem dX10_carry_19 : decode cX10_carry 19 = .ok (.invokevirtual 161, 3) := by decide +kernel
theorem dX10_carry_22 : decode cX10_carry 22 = .ok (.istore 5, 2) := by decide +kernel
theorem dX10_carry_24 : decode cX10_carry 24 = .ok (.aload_n 0, 1) := by decide +kernel
theorem dX10_carry_25 : decode cX10_carry 25 = .ok (.iload_n 1, 1) := by decide +kernel
theorem dX10_carry_26 : decode cX10_carry 26 = .ok (.iload_n 2, 1) := by decide +kernel
theorem dX10_carry_27 : decode cX10_carry 27 = .ok (.iload_n 3, 1) := by decide +kernel
theorem dX10_carry_28 : decode cX10_carry 28 = .ok (.invokevirtual 178, 3) := by decide +kernel
theorem dX10_carry_31 : decode cX10_carry 31 = .ok (.ifCond .eq 31, 3) := by decide +kernel
theorem dX10_carry_34 : decode cX10_carry 34 = .ok (.iload 4, 2) := by decide +kernel
theorem dX10_carry_36 : decode cX10_carry 36 = .ok (.iload 5, 2) := by decide +kernel
theorem dX10_carry_38 : decode cX10_carry 38 = .ok (.invokestatic 171, 3) := by decide +kernel
theorem dX10_carry_41 : decode cX10_carry 41 = .ok (.ifCond .eq 21, 3) := by decide +kernel
theorem dX10_carry_44 : decode cX10_carry 44 = .ok (.aload_n 0, 1) := by decide +kernel
theorem dX10_carry_45 : decode cX10_carry 45 = .ok (.iload 5, 2) := by decide +kernel
theorem dX10_carry_47 : decode cX10_carry 47 = .ok (.invokevirtual 165, 3) := by decide +kernel
theorem dX10_carry_50 : decode cX10_carry 50 = .ok (.ifCond .eq 12, 3) := by decide +kernel
theorem dX10_carry_53 : decode cX10_carry 53 = .ok (.aload_n 0, 1) := by decide +kernel
theorem dX10_carry_54 : decode cX10_carry 54 = .ok (.iload 5, 2) := by decide +kernel
theorem dX10_carry_56 : decode cX10_carry 56 = .ok (.invokestatic 168, 3) := by decide +kernel
theorem dX10_carry_59 : decode cX10_carry 59 = .ok (.invokevirtual 175, 3) := by decide +kernel
theorem dX10_carry_62 : decode cX10_carry 62 = .ok (.return_, 1) := by decide +kernel
theorem dX10_findCuts_0 : decode cX10_findCuts 0 = .ok (.iconst 0, 1) := by decide +kernel
theorem dX10_findCuts_1 : decode cX10_findCuts 1 = .ok (.istore_n 1, 1) := by decide +kernel
theorem dX10_findCuts_2 : decode cX10_findCuts 2 = .ok (.iload_n 1, 1) := by decide +kernel
theorem dX10_findCuts_3 : decode cX10_findCuts 3 = .ok (.sipush 128, 3) := by decide +kernel
theorem dX10_findCuts_6 : decode cX10_findCuts 6 = .ok (.if_icmp .ge 16, 3) := by decide +kernel
theorem dX10_findCuts_9 : decode cX10_findCuts 9 = .ok (.aload_n 0, 1) := by decide +kernel
theorem dX10_findCuts_10 : decode cX10_findCuts 10 = .ok (.getfield 32, 3) := by decide +kernel
theorem dX10_findCuts_13 : decode cX10_findCuts 13 = .ok (.iload_n 1, 1) := by decide +kernel
theorem dX10_findCuts_14 : decode cX10_findCuts 14 = .ok (.iconst 0, 1) := by decide +kernel
theorem dX10_findCuts_15 : decode cX10_findCuts 15 = .ok (.bastore, 1) := by decide +kernel
theorem dX10_findCuts_16 : decode cX10_findCuts 16 = .ok (.iinc 1 1, 3) := by decide +kernel
theorem dX10_findCuts_19 : decode cX10_findCuts 19 = .ok (.goto (-17), 3) := by decide +kernel
theorem dX10_findCuts_22 : decode cX10_findCuts 22 = .ok (.iconst 0, 1) := by decide +kernel
theorem dX10_findCuts_23 : decode cX10_findCuts 23 = .ok (.istore_n 1, 1) := by decide +kernel
theorem dX10_findCuts_24 : decode cX10_findCuts 24 = .ok (.iload_n 1, 1) := by decide +kernel
theorem dX10_findCuts_25 : decode cX10_findCuts 25 = .ok (.aload_n 0, 1) := by decide +kernel
theorem dX10_findCuts_26 : decode cX10_findCuts 26 = .ok (.getfield 7, 3) := by decide +kernel
theorem dX10_findCuts_29 : decode cX10_findCuts 29 = .ok (.bipush 8, 2) := by decide +kernel
theorem dX10_findCuts_31 : decode cX10_findCuts 31 = .ok (.iaload, 1) := by decide +kernel
theorem dX10_findCuts_32 : decode cX10_findCuts 32 = .ok (.if_icmp .ge 21, 3) := by decide +kernel
theorem dX10_findCuts_35 : decode cX10_findCuts 35 = .ok (.aload_n 0, 1) := by decide +kernel
theorem dX10_findCuts_36 : decode cX10_findCuts 36 = .ok (.iload_n 1, 1) := by decide +kernel
theorem dX10_findCuts_37 : decode cX10_findCuts 37 = .ok (.iconst 0, 1) := by decide +kernel
theorem dX10_findCuts_38 : decode cX10_findCuts 38 = .ok (.invokevirtual 181, 3) := by decide +kernel
theorem dX10_findCuts_41 : decode cX10_findCuts 41 = .ok (.aload_n 0, 1) := by decide +kernel
theorem dX10_findCuts_42 : decode cX10_findCuts 42 = .ok (.iload_n 1, 1) := by decide +kernel
theorem dX10_findCuts_43 : decode cX10_findCuts 43 = .ok (.iconst 1, 1) := by decide +kernel
theorem dX10_findCuts_44 : decode cX10_findCuts 44 = .ok (.invokevirtual 181, 3) := by decide +kernel
theorem dX10_findCuts_47 : decode cX10_findCuts 47 = .ok (.iinc 1 1, 3) := by decide +kernel
theorem dX10_findCuts_50 : decode cX10_findCuts 50 = .ok (.goto (-26), 3) := by decide +kernel
theorem dX10_findCuts_53 : decode cX10_findCuts 53 = .ok (.aload_n 0, 1) := by decide +kernel
theorem dX10_findCuts_54 : decode cX10_findCuts 54 = .ok (.iconst 1, 1) := by decide +kernel
theorem dX10_findCuts_55 : decode cX10_findCuts 55 = .ok (.putfield 154, 3) := by decide +kernel
theorem dX10_findCuts_58 : decode cX10_findCuts 58 = .ok (.aload_n 0, 1) := by decide +kernel
theorem dX10_findCuts_59 : decode cX10_findCuts 59 = .ok (.getfield 154, 3) := by decide +kernel
theorem dX10_findCuts_62 : decode cX10_findCuts 62 = .ok (.ifCond .eq 61, 3) := by decide +kernel
theorem dX10_findCuts_65 : decode cX10_findCuts 65 = .ok (.aload_n 0, 1) := by decide +kernel
theorem dX10_findCuts_66 : decode cX10_findCuts 66 = .ok (.iconst 0, 1) := by decide +kernel
theorem dX10_findCuts_67 : decode cX10_findCuts 67 = .ok (.putfield 154, 3) := by decide +kernel
theorem dX10_findCuts_70 : decode cX10_findCuts 70 = .ok (.iconst 0, 1) := by decide +kernel
theorem dX10_findCuts_71 : decode cX10_findCuts 71 = .ok (.istore_n 1, 1) := by decide +kernel
theorem dX10_findCuts_72 : decode cX10_findCuts 72 = .ok (.iload_n 1, 1) := by decide +kernel
theorem dX10_findCuts_73 : decode cX10_findCuts 73 = .ok (.aload_n 0, 1) := by decide +kernel
theorem dX10_findCuts_74 : decode cX10_findCuts 74 = .ok (.getfield 7, 3) := by decide +kernel
theorem dX10_findCuts_77 : decode cX10_findCuts 77 = .ok (.bipush 8, 2) := by decide +kernel
theorem dX10_findCuts_79 : decode cX10_findCuts 79 = .ok (.iaload, 1) := by decide +kernel
theorem dX10_findCuts_80 : decode cX10_findCuts 80 = .ok (.if_icmp .ge 40, 3) := by decide +kernel
theorem dX10_findCuts_83 : decode cX10_findCuts 83 = .ok (.iconst 1, 1) := by decide +kernel
theorem dX10_findCuts_84 : decode cX10_findCuts 84 = .ok (.istore_n 2, 1) := by decide +kernel
theorem dX10_findCuts_85 : decode cX10_findCuts 85 = .ok (.iload_n 2, 1) := by decide +kernel
theorem dX10_findCuts_86 : decode cX10_findCuts 86 = .ok (.aload_n 0, 1) := by decide +kernel
theorem dX10_findCuts_87 : decode cX10_findCuts 87 = .ok (.iload_n 1, 1) := by decide +kernel
theorem dX10_findCuts_88 : decode cX10_findCuts 88 = .ok (.invokevirtual 158, 3) := by decide +kernel
theorem dX10_findCuts_91 : decode cX10_findCuts 91 = .ok (.if_icmp .ge 23, 3) := by decide +kernel
theorem dX10_findCuts_94 : decode cX10_findCuts 94 = .ok (.aload_n 0, 1) := by decide +kernel
theorem dX10_findCuts_95 : decode cX10_findCuts 95 = .ok (.iload_n 1, 1) := by decide +kernel
theorem dX10_findCuts_96 : decode cX10_findCuts 96 = .ok (.iconst 0, 1) := by decide +kernel
theorem dX10_findCuts_97 : decode cX10_findCuts 97 = .ok (.iload_n 2, 1) := by decide +kernel
theorem dX10_findCuts_98 : decode cX10_findCuts 98 = .ok (.invokevirtual 184, 3) := by decide +kernel
theorem dX10_findCuts_101 : decode cX10_findCuts 101 = .ok (.aload_n 0, 1) := by decide +kernel
theorem dX10_findCuts_102 : decode cX10_findCuts 102 = .ok (.iload_n 1, 1) := by decide +kernel
theorem dX10_findCuts_103 : decode cX10_findCuts 103 = .ok (.iconst 1, 1) := by decide +kernel
theorem dX10_findCuts_104 : decode cX10_findCuts 104 = .ok (.iload_n 2, 1) := by decide +kernel
theorem dX10_findCuts_105 : decode cX10_findCuts 105 = .ok (.invokevirtual 184, 3) := by decide +kernel
theorem dX10_findCuts_108 : decode cX10_findCuts 108 = .ok (.iinc 2 1, 3) := by decide +kernel
theorem dX10_findCuts_111 : decode cX10_findCuts 111 = .ok (.goto (-26), 3) := by decide +kernel
theorem dX10_findCuts_114 : decode cX10_findCuts 114 = .ok (.iinc 1 1, 3) := by decide +kernel
theorem dX10_findCuts_117 : decode cX10_findCuts 117 = .ok (.goto (-45), 3) := by decide +kernel
theorem dX10_findCuts_120 : decode cX10_findCuts 120 = .ok (.goto (-62), 3) := by decide +kernel
theorem dX10_findCuts_123 : decode cX10_findCuts 123 = .ok (.return_, 1) := by decide +kernel
theorem dX10_slicesOf_0 : decode cX10_slicesOf 0 = .ok (.aload_n 0, 1) := by decide +kernel
theorem dX10_slicesOf_1 : decode cX10_slicesOf 1 = .ok (.getfield 7, 3) := by decide +kernel
theorem dX10_slicesOf_4 : decode cX10_slicesOf 4 = .ok (.iload_n 1, 1) := by decide +kernel
theorem dX10_slicesOf_5 : decode cX10_slicesOf 5 = .ok (.iaload, 1) := by decide +kernel
theorem dX10_slicesOf_6 : decode cX10_slicesOf 6 = .ok (.ifCond .le 7, 3) := by decide +kernel
theorem dX10_slicesOf_9 : decode cX10_slicesOf 9 = .ok (.iconst 1, 1) := by decide +kernel
theorem dX10_slicesOf_10 : decode cX10_slicesOf 10 = .ok (.goto 4, 3) := by decide +kernel
theorem dX10_slicesOf_13 : decode cX10_slicesOf 13 = .ok (.iconst 0, 1) := by decide +kernel
theorem dX10_slicesOf_14 : decode cX10_slicesOf 14 = .ok (.istore_n 2, 1) := by decide +kernel
theorem dX10_slicesOf_15 : decode cX10_slicesOf 15 = .ok (.iconst 1, 1) := by decide +kernel
theorem dX10_slicesOf_16 : decode cX10_slicesOf 16 = .ok (.istore_n 3, 1) := by decide +kernel
theorem dX10_slicesOf_17 : decode cX10_slicesOf 17 = .ok (.iload_n 3, 1) := by decide +kernel
theorem dX10_slicesOf_18 : decode cX10_slicesOf 18 = .ok (.aload_n 0, 1) := by decide +kernel
theorem dX10_slicesOf_19 : decode cX10_slicesOf 19 = .ok (.getfield 7, 3) := by decide +kernel
theorem dX10_slicesOf_22 : decode cX10_slicesOf 22 = .ok (.iload_n 1, 1) := by decide +kernel
theorem dX10_slicesOf_23 : decode cX10_slicesOf 23 = .ok (.iaload, 1) := by decide +kernel
theorem dX10_slicesOf_24 : decode cX10_slicesOf 24 = .ok (.if_icmp .ge 31, 3) := by decide +kernel
theorem dX10_slicesOf_27 : decode cX10_slicesOf 27 = .ok (.iload_n 2, 1) := by decide +kernel
theorem dX10_slicesOf_28 : decode cX10_slicesOf 28 = .ok (.aload_n 0, 1) := by decide +kernel
theorem dX10_slicesOf_29 : decode cX10_slicesOf 29 = .ok (.getfield 32, 3) := by decide +kernel
theorem dX10_slicesOf_32 : decode cX10_slicesOf 32 = .ok (.bipush 16, 2) := by decide +kernel
theorem dX10_slicesOf_34 : decode cX10_slicesOf 34 = .ok (.iload_n 1, 1) := by decide +kernel
theorem dX10_slicesOf_35 : decode cX10_slicesOf 35 = .ok (.imul, 1) := by decide +kernel
theorem dX10_slicesOf_36 : decode cX10_slicesOf 36 = .ok (.iload_n 3, 1) := by decide +kernel
theorem dX10_slicesOf_37 : decode cX10_slicesOf 37 = .ok (.iadd, 1) := by decide +kernel
theorem dX10_slicesOf_38 : decode cX10_slicesOf 38 = .ok (.baload, 1) := by decide +kernel
theorem dX10_slicesOf_39 : decode cX10_slicesOf 39 = .ok (.ifCond .eq 7, 3) := by decide +kernel
theorem dX10_slicesOf_42 : decode cX10_slicesOf 42 = .ok (.iconst 1, 1) := by decide +kernel
theorem dX10_slicesOf_43 : decode cX10_slicesOf 43 = .ok (.goto 4, 3) := by decide +kernel
theorem dX10_slicesOf_46 : decode cX10_slicesOf 46 = .ok (.iconst 0, 1) := by decide +kernel
theorem dX10_slicesOf_47 : decode cX10_slicesOf 47 = .ok (.iadd, 1) := by decide +kernel
theorem dX10_slicesOf_48 : decode cX10_slicesOf 48 = .ok (.istore_n 2, 1) := by decide +kernel
theorem dX10_slicesOf_49 : decode cX10_slicesOf 49 = .ok (.iinc 3 1, 3) := by decide +kernel
theorem dX10_slicesOf_52 : decode cX10_slicesOf 52 = .ok (.goto (-35), 3) := by decide +kernel
theorem dX10_slicesOf_55 : decode cX10_slicesOf 55 = .ok (.iload_n 2, 1) := by decide +kernel
theorem dX10_slicesOf_56 : decode cX10_slicesOf 56 = .ok (.ireturn, 1) := by decide +kernel
theorem dX10_startOf_0 : decode cX10_startOf 0 = .ok (.iload_n 2, 1) := by decide +kernel
theorem dX10_startOf_1 : decode cX10_startOf 1 = .ok (.istore_n 3, 1) := by decide +kernel
theorem dX10_startOf_2 : decode cX10_startOf 2 = .ok (.iconst 0, 1) := by decide +kernel
theorem dX10_startOf_3 : decode cX10_startOf 3 = .ok (.istore 4, 2) := by decide +kernel
theorem dX10_startOf_5 : decode cX10_startOf 5 = .ok (.iload_n 3, 1) := by decide +kernel
theorem dX10_startOf_6 : decode cX10_startOf 6 = .ok (.ifCond .le 54, 3) := by decide +kernel
theorem dX10_startOf_9 : decode cX10_startOf 9 = .ok (.iload 4, 2) := by decide +kernel
theorem dX10_startOf_11 : decode cX10_startOf 11 = .ok (.aload_n 0, 1) := by decide +kernel
theorem dX10_startOf_12 : decode cX10_startOf 12 = .ok (.getfield 7, 3) := by decide +kernel
theorem dX10_startOf_15 : decode cX10_startOf 15 = .ok (.iload_n 1, 1) := by decide +kernel
theorem dX10_startOf_16 : decode cX10_startOf 16 = .ok (.iaload, 1) := by decide +kernel
theorem dX10_startOf_17 : decode cX10_startOf 17 = .ok (.if_icmp .ge 43, 3) := by decide +kernel
theorem dX10_startOf_20 : decode cX10_startOf 20 = .ok (.iinc 4 1, 3) := by decide +kernel
theorem dX10_startOf_23 : decode cX10_startOf 23 = .ok (.iload_n 3, 1) := by decide +kernel
theorem dX10_startOf_24 : decode cX10_startOf 24 = .ok (.iload 4, 2) := by decide +kernel
theorem dX10_startOf_26 : decode cX10_startOf 26 = .ok (.aload_n 0, 1) := by decide +kernel
theorem dX10_startOf_27 : decode cX10_startOf 27 = .ok (.getfield 7, 3) := by decide +kernel
theorem dX10_startOf_30 : decode cX10_startOf 30 = .ok (.iload_n 1, 1) := by decide +kernel
theorem dX10_startOf_31 : decode cX10_startOf 31 = .ok (.iaload, 1) := by decide +kernel
theorem dX10_startOf_32 : decode cX10_startOf 32 = .ok (.if_icmp .ge 22, 3) := by decide +kernel
theorem dX10_startOf_35 : decode cX10_startOf 35 = .ok (.aload_n 0, 1) := by decide +kernel
theorem dX10_startOf_36 : decode cX10_startOf 36 = .ok (.getfield 32, 3) := by decide +kernel
theorem dX10_startOf_39 : decode cX10_startOf 39 = .ok (.bipush 16, 2) := by decide +kernel
theorem dX10_startOf_41 : decode cX10_startOf 41 = .ok (.iload_n 1, 1) := by decide +kernel
theorem dX10_startOf_42 : decode cX10_startOf 42 = .ok (.imul, 1) := by decide +kernel
theorem dX10_startOf_43 : decode cX10_startOf 43 = .ok (.iload 4, 2) := by decide +kernel
theorem dX10_startOf_45 : decode cX10_startOf 45 = .ok (.iadd, 1) := by decide +kernel
theorem dX10_startOf_46 : decode cX10_startOf 46 = .ok (.baload, 1) := by decide +kernel
theorem dX10_startOf_47 : decode cX10_startOf 47 = .ok (.ifCond .eq 7, 3) := by decide +kernel
theorem dX10_startOf_50 : decode cX10_startOf 50 = .ok (.iconst 1, 1) := by decide +kernel
theorem dX10_startOf_51 : decode cX10_startOf 51 = .ok (.goto 4, 3) := by decide +kernel
theorem dX10_startOf_54 : decode cX10_startOf 54 = .ok (.iconst 0, 1) := by decide +kernel
theorem dX10_startOf_55 : decode cX10_startOf 55 = .ok (.isub, 1) := by decide +kernel
theorem dX10_startOf_56 : decode cX10_startOf 56 = .ok (.istore_n 3, 1) := by decide +kernel
theorem dX10_startOf_57 : decode cX10_startOf 57 = .ok (.goto (-52), 3) := by decide +kernel
theorem dX10_startOf_60 : decode cX10_startOf 60 = .ok (.iload 4, 2) := by decide +kernel
theorem dX10_startOf_62 : decode cX10_startOf 62 = .ok (.ireturn, 1) := by decide +kernel
theorem dX10_sliceOfBit_0 : decode cX10_sliceOfBit 0 = .ok (.iconst 0, 1) := by decide +kernel
theorem dX10_sliceOfBit_1 : decode cX10_sliceOfBit 1 = .ok (.istore_n 3, 1) := by decide +kernel
theorem dX10_sliceOfBit_2 : decode cX10_sliceOfBit 2 = .ok (.iconst 1, 1) := by decide +kernel
theorem dX10_sliceOfBit_3 : decode cX10_sliceOfBit 3 = .ok (.istore 4, 2) := by decide +kernel
theorem dX10_sliceOfBit_5 : decode cX10_sliceOfBit 5 = .ok (.iload 4, 2) := by decide +kernel
theorem dX10_sliceOfBit_7 : decode cX10_sliceOfBit 7 = .ok (.iload_n 2, 1) := by decide +kernel
theorem dX10_sliceOfBit_8 : decode cX10_sliceOfBit 8 = .ok (.if_icmp .gt 32, 3) := by decide +kernel
theorem dX10_sliceOfBit_11 : decode cX10_sliceOfBit 11 = .ok (.iload_n 3, 1) := by decide +kernel
theorem dX10_sliceOfBit_12 : decode cX10_sliceOfBit 12 = .ok (.aload_n 0, 1) := by decide +kernel
theorem dX10_sliceOfBit_13 : decode cX10_sliceOfBit 13 = .ok (.getfield 32, 3) := by decide +kernel
theorem dX10_sliceOfBit_16 : decode cX10_sliceOfBit 16 = .ok (.bipush 16, 2) := by decide +kernel
theorem dX10_sliceOfBit_18 : decode cX10_sliceOfBit 18 = .ok (.iload_n 1, 1) := by decide +kernel
theorem dX10_sliceOfBit_19 : decode cX10_sliceOfBit 19 = .ok (.imul, 1) := by decide +kernel
theorem dX10_sliceOfBit_20 : decode cX10_sliceOfBit 20 = .ok (.iload 4, 2) := by decide +kernel
theorem dX10_sliceOfBit_22 : decode cX10_sliceOfBit 22 = .ok (.iadd, 1) := by decide +kernel
theorem dX10_sliceOfBit_23 : decode cX10_sliceOfBit 23 = .ok (.baload, 1) := by decide +kernel
theorem dX10_sliceOfBit_24 : decode cX10_sliceOfBit 24 = .ok (.ifCond .eq 7, 3) := by decide +kernel
theorem dX10_sliceOfBit_27 : decode cX10_sliceOfBit 27 = .ok (.iconst 1, 1) := by decide +kernel
theorem dX10_sliceOfBit_28 : decode cX10_sliceOfBit 28 = .ok (.goto 4, 3) := by decide +kernel
theorem dX10_sliceOfBit_31 : decode cX10_sliceOfBit 31 = .ok (.iconst 0, 1) := by decide +kernel
theorem dX10_sliceOfBit_32 : decode cX10_sliceOfBit 32 = .ok (.iadd, 1) := by decide +kernel
theorem dX10_sliceOfBit_33 : decode cX10_sliceOfBit 33 = .ok (.istore_n 3, 1) := by decide +kernel
theorem dX10_sliceOfBit_34 : decode cX10_sliceOfBit 34 = .ok (.iinc 4 1, 3) := by decide +kernel
theorem dX10_sliceOfBit_37 : decode cX10_sliceOfBit 37 = .ok (.goto (-32), 3) := by decide +kernel
theorem dX10_sliceOfBit_40 : decode cX10_sliceOfBit 40 = .ok (.iload_n 3, 1) := by decide +kernel
theorem dX10_sliceOfBit_41 : decode cX10_sliceOfBit 41 = .ok (.ireturn, 1) := by decide +kernel
theorem dX10_sliceCount_0 : decode cX10_sliceCount 0 = .ok (.aload_n 0, 1) := by decide +kernel
theorem dX10_sliceCount_1 : decode cX10_sliceCount 1 = .ok (.iconst 0, 1) := by decide +kernel
theorem dX10_sliceCount_2 : decode cX10_sliceCount 2 = .ok (.putfield 47, 3) := by decide +kernel
theorem dX10_sliceCount_5 : decode cX10_sliceCount 5 = .ok (.aload_n 0, 1) := by decide +kernel
theorem dX10_sliceCount_6 : decode cX10_sliceCount 6 = .ok (.invokevirtual 188, 3) := by decide +kernel
theorem dX10_sliceCount_9 : decode cX10_sliceCount 9 = .ok (.iload_n 1, 1) := by decide +kernel
theorem dX10_sliceCount_10 : decode cX10_sliceCount 10 = .ok (.invokestatic 151, 3) := by decide +kernel
theorem dX10_sliceCount_13 : decode cX10_sliceCount 13 = .ok (.ifCond .eq 11, 3) := by decide +kernel
theorem dX10_sliceCount_16 : decode cX10_sliceCount 16 = .ok (.aload_n 0, 1) := by decide +kernel
theorem dX10_sliceCount_17 : decode cX10_sliceCount 17 = .ok (.iload_n 1, 1) := by decide +kernel
theorem dX10_sliceCount_18 : decode cX10_sliceCount 18 = .ok (.invokevirtual 191, 3) := by decide +kernel
theorem dX10_sliceCount_21 : decode cX10_sliceCount 21 = .ok (.goto 4, 3) := by decide +kernel
theorem dX10_sliceCount_24 : decode cX10_sliceCount 24 = .ok (.iconst (-1), 1) := by decide +kernel
theorem dX10_sliceCount_25 : decode cX10_sliceCount 25 = .ok (.ireturn, 1) := by decide +kernel
theorem dX10_isSlice_0 : decode cX10_isSlice 0 = .ok (.aload_n 0, 1) := by decide +kernel
theorem dX10_isSlice_1 : decode cX10_isSlice 1 = .ok (.invokevirtual 188, 3) := by decide +kernel
theorem dX10_isSlice_4 : decode cX10_isSlice 4 = .ok (.iload_n 1, 1) := by decide +kernel
theorem dX10_isSlice_5 : decode cX10_isSlice 5 = .ok (.invokestatic 151, 3) := by decide +kernel
theorem dX10_isSlice_8 : decode cX10_isSlice 8 = .ok (.ifCond .eq 22, 3) := by decide +kernel
theorem dX10_isSlice_11 : decode cX10_isSlice 11 = .ok (.iload_n 2, 1) := by decide +kernel
theorem dX10_isSlice_12 : decode cX10_isSlice 12 = .ok (.iconst 0, 1) := by decide +kernel
theorem dX10_isSlice_13 : decode cX10_isSlice 13 = .ok (.aload_n 0, 1) := by decide +kernel
theorem dX10_isSlice_14 : decode cX10_isSlice 14 = .ok (.iload_n 1, 1) := by decide +kernel
theorem dX10_isSlice_15 : decode cX10_isSlice 15 = .ok (.invokevirtual 191, 3) := by decide +kernel
theorem dX10_isSlice_18 : decode cX10_isSlice 18 = .ok (.iconst 1, 1) := by decide +kernel
theorem dX10_isSlice_19 : decode cX10_isSlice 19 = .ok (.isub, 1) := by decide +kernel
theorem dX10_isSlice_20 : decode cX10_isSlice 20 = .ok (.invokestatic 60, 3) := by decide +kernel
theorem dX10_isSlice_23 : decode cX10_isSlice 23 = .ok (.ifCond .eq 7, 3) := by decide +kernel
theorem dX10_isSlice_26 : decode cX10_isSlice 26 = .ok (.iconst 1, 1) := by decide +kernel
theorem dX10_isSlice_27 : decode cX10_isSlice 27 = .ok (.goto 4, 3) := by decide +kernel
theorem dX10_isSlice_30 : decode cX10_isSlice 30 = .ok (.iconst 0, 1) := by decide +kernel
theorem dX10_isSlice_31 : decode cX10_isSlice 31 = .ok (.ireturn, 1) := by decide +kernel
theorem dX10_sliceStart_0 : decode cX10_sliceStart 0 = .ok (.aload_n 0, 1) := by decide +kernel
theorem dX10_sliceStart_1 : decode cX10_sliceStart 1 = .ok (.iconst 0, 1) := by decide +kernel
theorem dX10_sliceStart_2 : decode cX10_sliceStart 2 = .ok (.putfield 47, 3) := by decide +kernel
theorem dX10_sliceStart_5 : decode cX10_sliceStart 5 = .ok (.aload_n 0, 1) := by decide +kernel
theorem dX10_sliceStart_6 : decode cX10_sliceStart 6 = .ok (.iload_n 1, 1) := by decide +kernel
theorem dX10_sliceStart_7 : decode cX10_sliceStart 7 = .ok (.iload_n 2, 1) := by decide +kernel
theorem dX10_sliceStart_8 : decode cX10_sliceStart 8 = .ok (.invokevirtual 194, 3) := by decide +kernel
theorem dX10_sliceStart_11 : decode cX10_sliceStart 11 = .ok (.ifCond .eq 12, 3) := by decide +kernel
theorem dX10_sliceStart_14 : decode cX10_sliceStart 14 = .ok (.aload_n 0, 1) := by decide +kernel
theorem dX10_sliceStart_15 : decode cX10_sliceStart 15 = .ok (.iload_n 1, 1) := by decide +kernel
theorem dX10_sliceStart_16 : decode cX10_sliceStart 16 = .ok (.iload_n 2, 1) := by decide +kernel
theorem dX10_sliceStart_17 : decode cX10_sliceStart 17 = .ok (.invokevirtual 197, 3) := by decide +kernel
theorem dX10_sliceStart_20 : decode cX10_sliceStart 20 = .ok (.goto 4, 3) := by decide +kernel
theorem dX10_sliceStart_23 : decode cX10_sliceStart 23 = .ok (.iconst (-1), 1) := by decide +kernel
theorem dX10_sliceStart_24 : decode cX10_sliceStart 24 = .ok (.ireturn, 1) := by decide +kernel
theorem dX10_sliceWidth_0 : decode cX10_sliceWidth 0 = .ok (.aload_n 0, 1) := by decide +kernel
theorem dX10_sliceWidth_1 : decode cX10_sliceWidth 1 = .ok (.iconst 0, 1) := by decide +kernel
theorem dX10_sliceWidth_2 : decode cX10_sliceWidth 2 = .ok (.putfield 47, 3) := by decide +kernel
theorem dX10_sliceWidth_5 : decode cX10_sliceWidth 5 = .ok (.aload_n 0, 1) := by decide +kernel
theorem dX10_sliceWidth_6 : decode cX10_sliceWidth 6 = .ok (.iload_n 1, 1) := by decide +kernel
theorem dX10_sliceWidth_7 : decode cX10_sliceWidth 7 = .ok (.iload_n 2, 1) := by decide +kernel
theorem dX10_sliceWidth_8 : decode cX10_sliceWidth 8 = .ok (.invokevirtual 194, 3) := by decide +kernel
theorem dX10_sliceWidth_11 : decode cX10_sliceWidth 11 = .ok (.ifCond .eq 21, 3) := by decide +kernel
theorem dX10_sliceWidth_14 : decode cX10_sliceWidth 14 = .ok (.aload_n 0, 1) := by decide +kernel
theorem dX10_sliceWidth_15 : decode cX10_sliceWidth 15 = .ok (.iload_n 1, 1) := by decide +kernel
theorem dX10_sliceWidth_16 : decode cX10_sliceWidth 16 = .ok (.iload_n 2, 1) := by decide +kernel
theorem dX10_sliceWidth_17 : decode cX10_sliceWidth 17 = .ok (.iconst 1, 1) := by decide +kernel
theorem dX10_sliceWidth_18 : decode cX10_sliceWidth 18 = .ok (.iadd, 1) := by decide +kernel
theorem dX10_sliceWidth_19 : decode cX10_sliceWidth 19 = .ok (.invokevirtual 197, 3) := by decide +kernel
theorem dX10_sliceWidth_22 : decode cX10_sliceWidth 22 = .ok (.aload_n 0, 1) := by decide +kernel
theorem dX10_sliceWidth_23 : decode cX10_sliceWidth 23 = .ok (.iload_n 1, 1) := by decide +kernel
theorem dX10_sliceWidth_24 : decode cX10_sliceWidth 24 = .ok (.iload_n 2, 1) := by decide +kernel
theorem dX10_sliceWidth_25 : decode cX10_sliceWidth 25 = .ok (.invokevirtual 197, 3) := by decide +kernel
theorem dX10_sliceWidth_28 : decode cX10_sliceWidth 28 = .ok (.isub, 1) := by decide +kernel
theorem dX10_sliceWidth_29 : decode cX10_sliceWidth 29 = .ok (.goto 4, 3) := by decide +kernel
theorem dX10_sliceWidth_32 : decode cX10_sliceWidth 32 = .ok (.iconst (-1), 1) := by decide +kernel
theorem dX10_sliceWidth_33 : decode cX10_sliceWidth 33 = .ok (.ireturn, 1) := by decide +kernel
theorem dX10_rootOf_0 : decode cX10_rootOf 0 = .ok (.iload_n 1, 1) := by decide +kernel
theorem dX10_rootOf_1 : decode cX10_rootOf 1 = .ok (.istore_n 2, 1) := by decide +kernel
theorem dX10_rootOf_2 : decode cX10_rootOf 2 = .ok (.aload_n 0, 1) := by decide +kernel
theorem dX10_rootOf_3 : decode cX10_rootOf 3 = .ok (.getfield 35, 3) := by decide +kernel
theorem dX10_rootOf_6 : decode cX10_rootOf 6 = .ok (.iload_n 2, 1) := by decide +kernel
theorem dX10_rootOf_7 : decode cX10_rootOf 7 = .ok (.iaload, 1) := by decide +kernel
theorem dX10_rootOf_8 : decode cX10_rootOf 8 = .ok (.iload_n 2, 1) := by decide +kernel
theorem dX10_rootOf_9 : decode cX10_rootOf 9 = .ok (.if_icmp .eq 13, 3) := by decide +kernel
theorem dX10_rootOf_12 : decode cX10_rootOf 12 = .ok (.aload_n 0, 1) := by decide +kernel
theorem dX10_rootOf_13 : decode cX10_rootOf 13 = .ok (.getfield 35, 3) := by decide +kernel
theorem dX10_rootOf_16 : decode cX10_rootOf 16 = .ok (.iload_n 2, 1) := by decide +kernel
theorem dX10_rootOf_17 : decode cX10_rootOf 17 = .ok (.iaload, 1) := by decide +kernel
theorem dX10_rootOf_18 : decode cX10_rootOf 18 = .ok (.istore_n 2, 1) := by decide +kernel
theorem dX10_rootOf_19 : decode cX10_rootOf 19 = .ok (.goto (-17), 3) := by decide +kernel
theorem dX10_rootOf_22 : decode cX10_rootOf 22 = .ok (.iload_n 2, 1) := by decide +kernel
theorem dX10_rootOf_23 : decode cX10_rootOf 23 = .ok (.ireturn, 1) := by decide +kernel
theorem dX10_fix_0 : decode cX10_fix 0 = .ok (.aload_n 0, 1) := by decide +kernel
theorem dX10_fix_1 : decode cX10_fix 1 = .ok (.aload_n 0, 1) := by decide +kernel
theorem dX10_fix_2 : decode cX10_fix 2 = .ok (.getfield 200, 3) := by decide +kernel
theorem dX10_fix_5 : decode cX10_fix 5 = .ok (.ifCond .ne 24, 3) := by decide +kernel
theorem dX10_fix_8 : decode cX10_fix 8 = .ok (.aload_n 0, 1) := by decide +kernel
theorem dX10_fix_9 : decode cX10_fix 9 = .ok (.getfield 38, 3) := by decide +kernel
theorem dX10_fix_12 : decode cX10_fix 12 = .ok (.iload_n 1, 1) := by decide +kernel
theorem dX10_fix_13 : decode cX10_fix 13 = .ok (.iaload, 1) := by decide +kernel
theorem dX10_fix_14 : decode cX10_fix 14 = .ok (.bipush (-9), 2) := by decide +kernel
theorem dX10_fix_16 : decode cX10_fix 16 = .ok (.if_icmp .eq 17, 3) := by decide +kernel
theorem dX10_fix_19 : decode cX10_fix 19 = .ok (.aload_n 0, 1) := by decide +kernel
theorem dX10_fix_20 : decode cX10_fix 20 = .ok (.getfield 38, 3) := by decide +kernel
theorem dX10_fix_23 : decode cX10_fix 23 = .ok (.iload_n 1, 1) := by decide +kernel
theorem dX10_fix_24 : decode cX10_fix 24 = .ok (.iaload, 1) := by decide +kernel
theorem dX10_fix_25 : decode cX10_fix 25 = .ok (.iload_n 2, 1) := by decide +kernel
theorem dX10_fix_26 : decode cX10_fix 26 = .ok (.if_icmp .eq 7, 3) := by decide +kernel
theorem dX10_fix_29 : decode cX10_fix 29 = .ok (.iconst 1, 1) := by decide +kernel
theorem dX10_fix_30 : decode cX10_fix 30 = .ok (.goto 4, 3) := by decide +kernel
theorem dX10_fix_33 : decode cX10_fix 33 = .ok (.iconst 0, 1) := by decide +kernel
theorem dX10_fix_34 : decode cX10_fix 34 = .ok (.putfield 200, 3) := by decide +kernel
theorem dX10_fix_37 : decode cX10_fix 37 = .ok (.aload_n 0, 1) := by decide +kernel
theorem dX10_fix_38 : decode cX10_fix 38 = .ok (.getfield 38, 3) := by decide +kernel
theorem dX10_fix_41 : decode cX10_fix 41 = .ok (.iload_n 1, 1) := by decide +kernel
theorem dX10_fix_42 : decode cX10_fix 42 = .ok (.iload_n 2, 1) := by decide +kernel
theorem dX10_fix_43 : decode cX10_fix 43 = .ok (.iastore, 1) := by decide +kernel
theorem dX10_fix_44 : decode cX10_fix 44 = .ok (.return_, 1) := by decide +kernel
theorem dX10_equate_0 : decode cX10_equate 0 = .ok (.aload_n 0, 1) := by decide +kernel
theorem dX10_equate_1 : decode cX10_equate 1 = .ok (.iload_n 1, 1) := by decide +kernel
theorem dX10_equate_2 : decode cX10_equate 2 = .ok (.invokevirtual 165, 3) := by decide +kernel
theorem dX10_equate_5 : decode cX10_equate 5 = .ok (.ifCond .ne 43, 3) := by decide +kernel
theorem dX10_equate_8 : decode cX10_equate 8 = .ok (.aload_n 0, 1) := by decide +kernel
theorem dX10_equate_9 : decode cX10_equate 9 = .ok (.iload_n 2, 1) := by decide +kernel
theorem dX10_equate_10 : decode cX10_equate 10 = .ok (.invokevirtual 165, 3) := by decide +kernel
theorem dX10_equate_13 : decode cX10_equate 13 = .ok (.ifCond .ne 35, 3) := by decide +kernel
theorem dX10_equate_16 : decode cX10_equate 16 = .ok (.aload_n 0, 1) := by decide +kernel
theorem dX10_equate_17 : decode cX10_equate 17 = .ok (.aload_n 0, 1) := by decide +kernel
theorem dX10_equate_18 : decode cX10_equate 18 = .ok (.getfield 200, 3) := by decide +kernel
theorem dX10_equate_21 : decode cX10_equate 21 = .ok (.ifCond .ne 16, 3) := by decide +kernel
theorem dX10_equate_24 : decode cX10_equate 24 = .ok (.iload_n 1, 1) := by decide +kernel
theorem dX10_equate_25 : decode cX10_equate 25 = .ok (.sipush 256, 3) := by decide +kernel
theorem dX10_equate_28 : decode cX10_equate 28 = .ok (.irem, 1) := by decide +kernel
theorem dX10_equate_29 : decode cX10_equate 29 = .ok (.iload_n 2, 1) := by decide +kernel
theorem dX10_equate_30 : decode cX10_equate 30 = .ok (.sipush 256, 3) := by decide +kernel
theorem dX10_equate_33 : decode cX10_equate 33 = .ok (.irem, 1) := by decide +kernel
theorem dX10_equate_34 : decode cX10_equate 34 = .ok (.if_icmp .eq 7, 3) := by decide +kernel
theorem dX10_equate_37 : decode cX10_equate 37 = .ok (.iconst 1, 1) := by decide +kernel
theorem dX10_equate_38 : decode cX10_equate 38 = .ok (.goto 4, 3) := by decide +kernel
theorem dX10_equate_41 : decode cX10_equate 41 = .ok (.iconst 0, 1) := by decide +kernel
theorem dX10_equate_42 : decode cX10_equate 42 = .ok (.putfield 200, 3) := by decide +kernel
theorem dX10_equate_45 : decode cX10_equate 45 = .ok (.goto 79, 3) := by decide +kernel
theorem dX10_equate_48 : decode cX10_equate 48 = .ok (.aload_n 0, 1) := by decide +kernel
theorem dX10_equate_49 : decode cX10_equate 49 = .ok (.iload_n 1, 1) := by decide +kernel
theorem dX10_equate_50 : decode cX10_equate 50 = .ok (.invokevirtual 165, 3) := by decide +kernel
theorem dX10_equate_53 : decode cX10_equate 53 = .ok (.ifCond .ne 23, 3) := by decide +kernel
theorem dX10_equate_56 : decode cX10_equate 56 = .ok (.aload_n 0, 1) := by decide +kernel
theorem dX10_equate_57 : decode cX10_equate 57 = .ok (.aload_n 0, 1) := by decide +kernel
theorem dX10_equate_58 : decode cX10_equate 58 = .ok (.iload_n 2, 1) := by decide +kernel
theorem dX10_equate_59 : decode cX10_equate 59 = .ok (.invokestatic 168, 3) := by decide +kernel
theorem dX10_equate_62 : decode cX10_equate 62 = .ok (.invokevirtual 203, 3) := by decide +kernel
theorem dX10_equate_65 : decode cX10_equate 65 = .ok (.iload_n 1, 1) := by decide +kernel
theorem dX10_equate_66 : decode cX10_equate 66 = .ok (.sipush 256, 3) := by decide +kernel
theorem dX10_equate_69 : decode cX10_equate 69 = .ok (.irem, 1) := by decide +kernel
theorem dX10_equate_70 : decode cX10_equate 70 = .ok (.invokevirtual 206, 3) := by decide +kernel
theorem dX10_equate_73 : decode cX10_equate 73 = .ok (.goto 51, 3) := by decide +kernel
theorem dX10_equate_76 : decode cX10_equate 76 = .ok (.aload_n 0, 1) := by decide +kernel
theorem dX10_equate_77 : decode cX10_equate 77 = .ok (.iload_n 2, 1) := by decide +kernel
theorem dX10_equate_78 : decode cX10_equate 78 = .ok (.invokevirtual 165, 3) := by decide +kernel
theorem dX10_equate_81 : decode cX10_equate 81 = .ok (.ifCond .ne 23, 3) := by decide +kernel
theorem dX10_equate_84 : decode cX10_equate 84 = .ok (.aload_n 0, 1) := by decide +kernel
theorem dX10_equate_85 : decode cX10_equate 85 = .ok (.aload_n 0, 1) := by decide +kernel
theorem dX10_equate_86 : decode cX10_equate 86 = .ok (.iload_n 1, 1) := by decide +kernel
theorem dX10_equate_87 : decode cX10_equate 87 = .ok (.invokestatic 168, 3) := by decide +kernel
theorem dX10_equate_90 : decode cX10_equate 90 = .ok (.invokevirtual 203, 3) := by decide +kernel
theorem dX10_equate_93 : decode cX10_equate 93 = .ok (.iload_n 2, 1) := by decide +kernel
theorem dX10_equate_94 : decode cX10_equate 94 = .ok (.sipush 256, 3) := by decide +kernel
theorem dX10_equate_97 : decode cX10_equate 97 = .ok (.irem, 1) := by decide +kernel
theorem dX10_equate_98 : decode cX10_equate 98 = .ok (.invokevirtual 206, 3) := by decide +kernel
theorem dX10_equate_101 : decode cX10_equate 101 = .ok (.goto 23, 3) := by decide +kernel
theorem dX10_equate_104 : decode cX10_equate 104 = .ok (.aload_n 0, 1) := by decide +kernel
theorem dX10_equate_105 : decode cX10_equate 105 = .ok (.aload_n 0, 1) := by decide +kernel
theorem dX10_equate_106 : decode cX10_equate 106 = .ok (.iload_n 1, 1) := by decide +kernel
theorem dX10_equate_107 : decode cX10_equate 107 = .ok (.invokestatic 168, 3) := by decide +kernel
theorem dX10_equate_110 : decode cX10_equate 110 = .ok (.invokevirtual 203, 3) := by decide +kernel
theorem dX10_equate_113 : decode cX10_equate 113 = .ok (.aload_n 0, 1) := by decide +kernel
theorem dX10_equate_114 : decode cX10_equate 114 = .ok (.iload_n 2, 1) := by decide +kernel
theorem dX10_equate_115 : decode cX10_equate 115 = .ok (.invokestatic 168, 3) := by decide +kernel
theorem dX10_equate_118 : decode cX10_equate 118 = .ok (.invokevirtual 203, 3) := by decide +kernel
theorem dX10_equate_121 : decode cX10_equate 121 = .ok (.invokevirtual 209, 3) := by decide +kernel
theorem dX10_equate_124 : decode cX10_equate 124 = .ok (.return_, 1) := by decide +kernel
theorem dX10_join_0 : decode cX10_join 0 = .ok (.iload_n 1, 1) := by decide +kernel
theorem dX10_join_1 : decode cX10_join 1 = .ok (.iload_n 2, 1) := by decide +kernel
theorem dX10_join_2 : decode cX10_join 2 = .ok (.if_icmp .ge 7, 3) := by decide +kernel
theorem dX10_join_5 : decode cX10_join 5 = .ok (.iload_n 1, 1) := by decide +kernel
theorem dX10_join_6 : decode cX10_join 6 = .ok (.goto 4, 3) := by decide +kernel
theorem dX10_join_9 : decode cX10_join 9 = .ok (.iload_n 2, 1) := by decide +kernel
theorem dX10_join_10 : decode cX10_join 10 = .ok (.istore_n 3, 1) := by decide +kernel
theorem dX10_join_11 : decode cX10_join 11 = .ok (.iload_n 1, 1) := by decide +kernel
theorem dX10_join_12 : decode cX10_join 12 = .ok (.iload_n 2, 1) := by decide +kernel
theorem dX10_join_13 : decode cX10_join 13 = .ok (.if_icmp .ge 7, 3) := by decide +kernel
theorem dX10_join_16 : decode cX10_join 16 = .ok (.iload_n 2, 1) := by decide +kernel
theorem dX10_join_17 : decode cX10_join 17 = .ok (.goto 4, 3) := by decide +kernel
theorem dX10_join_20 : decode cX10_join 20 = .ok (.iload_n 1, 1) := by decide +kernel
theorem dX10_join_21 : decode cX10_join 21 = .ok (.istore 4, 2) := by decide +kernel
theorem dX10_join_23 : decode cX10_join 23 = .ok (.iload_n 3, 1) := by decide +kernel
theorem dX10_join_24 : decode cX10_join 24 = .ok (.iload 4, 2) := by decide +kernel
theorem dX10_join_26 : decode cX10_join 26 = .ok (.if_icmp .eq 35, 3) := by decide +kernel
theorem dX10_join_29 : decode cX10_join 29 = .ok (.aload_n 0, 1) := by decide +kernel
theorem dX10_join_30 : decode cX10_join 30 = .ok (.getfield 35, 3) := by decide +kernel
theorem dX10_join_33 : decode cX10_join 33 = .ok (.iload 4, 2) := by decide +kernel
theorem dX10_join_35 : decode cX10_join 35 = .ok (.iload_n 3, 1) := by decide +kernel
theorem dX10_join_36 : decode cX10_join 36 = .ok (.iastore, 1) := by decide +kernel
theorem dX10_join_37 : decode cX10_join 37 = .ok (.aload_n 0, 1) := by decide +kernel
theorem dX10_join_38 : decode cX10_join 38 = .ok (.getfield 38, 3) := by decide +kernel
theorem dX10_join_41 : decode cX10_join 41 = .ok (.iload 4, 2) := by decide +kernel
theorem dX10_join_43 : decode cX10_join 43 = .ok (.iaload, 1) := by decide +kernel
theorem dX10_join_44 : decode cX10_join 44 = .ok (.bipush (-9), 2) := by decide +kernel
theorem dX10_join_46 : decode cX10_join 46 = .ok (.if_icmp .eq 15, 3) := by decide +kernel
theorem dX10_join_49 : decode cX10_join 49 = .ok (.aload_n 0, 1) := by decide +kernel
theorem dX10_join_50 : decode cX10_join 50 = .ok (.iload_n 3, 1) := by decide +kernel
theorem dX10_join_51 : decode cX10_join 51 = .ok (.aload_n 0, 1) := by decide +kernel
theorem dX10_join_52 : decode cX10_join 52 = .ok (.getfield 38, 3) := by decide +kernel
theorem dX10_join_55 : decode cX10_join 55 = .ok (.iload 4, 2) := by decide +kernel
theorem dX10_join_57 : decode cX10_join 57 = .ok (.iaload, 1) := by decide +kernel
theorem dX10_join_58 : decode cX10_join 58 = .ok (.invokevirtual 206, 3) := by decide +kernel
theorem dX10_join_61 : decode cX10_join 61 = .ok (.return_, 1) := by decide +kernel
theorem dX10_equateTerms_0 : decode cX10_equateTerms 0 = .ok (.iconst 0, 1) := by decide +kernel
theorem dX10_equateTerms_1 : decode cX10_equateTerms 1 = .ok (.istore_n 2, 1) := by decide +kernel
theorem dX10_equateTerms_2 : decode cX10_equateTerms 2 = .ok (.iload_n 2, 1) := by decide +kernel
theorem dX10_equateTerms_3 : decode cX10_equateTerms 3 = .ok (.aload_n 0, 1) := by decide +kernel
theorem dX10_equateTerms_4 : decode cX10_equateTerms 4 = .ok (.iload_n 1, 1) := by decide +kernel
theorem dX10_equateTerms_5 : decode cX10_equateTerms 5 = .ok (.invokevirtual 158, 3) := by decide +kernel
theorem dX10_equateTerms_8 : decode cX10_equateTerms 8 = .ok (.if_icmp .ge 27, 3) := by decide +kernel
theorem dX10_equateTerms_11 : decode cX10_equateTerms 11 = .ok (.aload_n 0, 1) := by decide +kernel
theorem dX10_equateTerms_12 : decode cX10_equateTerms 12 = .ok (.aload_n 0, 1) := by decide +kernel
theorem dX10_equateTerms_13 : decode cX10_equateTerms 13 = .ok (.iload_n 1, 1) := by decide +kernel
theorem dX10_equateTerms_14 : decode cX10_equateTerms 14 = .ok (.iconst 0, 1) := by decide +kernel
theorem dX10_equateTerms_15 : decode cX10_equateTerms 15 = .ok (.iload_n 2, 1) := by decide +kernel
theorem dX10_equateTerms_16 : decode cX10_equateTerms 16 = .ok (.invokevirtual 161, 3) := by decide +kernel
theorem dX10_equateTerms_19 : decode cX10_equateTerms 19 = .ok (.aload_n 0, 1) := by decide +kernel
theorem dX10_equateTerms_20 : decode cX10_equateTerms 20 = .ok (.iload_n 1, 1) := by decide +kernel
theorem dX10_equateTerms_21 : decode cX10_equateTerms 21 = .ok (.iconst 1, 1) := by decide +kernel
theorem dX10_equateTerms_22 : decode cX10_equateTerms 22 = .ok (.iload_n 2, 1) := by decide +kernel
theorem dX10_equateTerms_23 : decode cX10_equateTerms 23 = .ok (.invokevirtual 161, 3) := by decide +kernel
theorem dX10_equateTerms_26 : decode cX10_equateTerms 26 = .ok (.invokevirtual 212, 3) := by decide +kernel
theorem dX10_equateTerms_29 : decode cX10_equateTerms 29 = .ok (.iinc 2 1, 3) := by decide +kernel
theorem dX10_equateTerms_32 : decode cX10_equateTerms 32 = .ok (.goto (-30), 3) := by decide +kernel
theorem dX10_equateTerms_35 : decode cX10_equateTerms 35 = .ok (.return_, 1) := by decide +kernel
theorem dX10_solve_0 : decode cX10_solve 0 = .ok (.iconst 0, 1) := by decide +kernel
theorem dX10_solve_1 : decode cX10_solve 1 = .ok (.istore_n 2, 1) := by decide +kernel
theorem dX10_solve_2 : decode cX10_solve 2 = .ok (.iload_n 2, 1) := by decide +kernel
theorem dX10_solve_3 : decode cX10_solve 3 = .ok (.sipush 128, 3) := by decide +kernel
theorem dX10_solve_6 : decode cX10_solve 6 = .ok (.if_icmp .ge 24, 3) := by decide +kernel
theorem dX10_solve_9 : decode cX10_solve 9 = .ok (.aload_n 0, 1) := by decide +kernel
theorem dX10_solve_10 : decode cX10_solve 10 = .ok (.getfield 35, 3) := by decide +kernel
theorem dX10_solve_13 : decode cX10_solve 13 = .ok (.iload_n 2, 1) := by decide +kernel
theorem dX10_solve_14 : decode cX10_solve 14 = .ok (.iload_n 2, 1) := by decide +kernel
theorem dX10_solve_15 : decode cX10_solve 15 = .ok (.iastore, 1) := by decide +kernel
theorem dX10_solve_16 : decode cX10_solve 16 = .ok (.aload_n 0, 1) := by decide +kernel
theorem dX10_solve_17 : decode cX10_solve 17 = .ok (.getfield 38, 3) := by decide +kernel
theorem dX10_solve_20 : decode cX10_solve 20 = .ok (.iload_n 2, 1) := by decide +kernel
theorem dX10_solve_21 : decode cX10_solve 21 = .ok (.bipush (-9), 2) := by decide +kernel
theorem dX10_solve_23 : decode cX10_solve 23 = .ok (.iastore, 1) := by decide +kernel
theorem dX10_solve_24 : decode cX10_solve 24 = .ok (.iinc 2 1, 3) := by decide +kernel
theorem dX10_solve_27 : decode cX10_solve 27 = .ok (.goto (-25), 3) := by decide +kernel
theorem dX10_solve_30 : decode cX10_solve 30 = .ok (.aload_n 0, 1) := by decide +kernel
theorem dX10_solve_31 : decode cX10_solve 31 = .ok (.iconst 0, 1) := by decide +kernel
theorem dX10_solve_32 : decode cX10_solve 32 = .ok (.putfield 200, 3) := by decide +kernel
theorem dX10_solve_35 : decode cX10_solve 35 = .ok (.iconst 0, 1) := by decide +kernel
theorem dX10_solve_36 : decode cX10_solve 36 = .ok (.istore_n 2, 1) := by decide +kernel
theorem dX10_solve_37 : decode cX10_solve 37 = .ok (.iload_n 2, 1) := by decide +kernel
theorem dX10_solve_38 : decode cX10_solve 38 = .ok (.aload_n 0, 1) := by decide +kernel
theorem dX10_solve_39 : decode cX10_solve 39 = .ok (.getfield 7, 3) := by decide +kernel
theorem dX10_solve_42 : decode cX10_solve 42 = .ok (.bipush 8, 2) := by decide +kernel
theorem dX10_solve_44 : decode cX10_solve 44 = .ok (.iaload, 1) := by decide +kernel
theorem dX10_solve_45 : decode cX10_solve 45 = .ok (.if_icmp .ge 23, 3) := by decide +kernel
theorem dX10_solve_48 : decode cX10_solve 48 = .ok (.iload_n 1, 1) := by decide +kernel
theorem dX10_solve_49 : decode cX10_solve 49 = .ok (.iload_n 2, 1) := by decide +kernel
theorem dX10_solve_50 : decode cX10_solve 50 = .ok (.ishr, 1) := by decide +kernel
theorem dX10_solve_51 : decode cX10_solve 51 = .ok (.iconst 1, 1) := by decide +kernel
theorem dX10_solve_52 : decode cX10_solve 52 = .ok (.iand, 1) := by decide +kernel
theorem dX10_solve_53 : decode cX10_solve 53 = .ok (.iconst 1, 1) := by decide +kernel
theorem dX10_solve_54 : decode cX10_solve 54 = .ok (.if_icmp .ne 8, 3) := by decide +kernel
theorem dX10_solve_57 : decode cX10_solve 57 = .ok (.aload_n 0, 1) := by decide +kernel
theorem dX10_solve_58 : decode cX10_solve 58 = .ok (.iload_n 2, 1) := by decide +kernel
theorem dX10_solve_59 : decode cX10_solve 59 = .ok (.invokevirtual 215, 3) := by decide +kernel
theorem dX10_solve_62 : decode cX10_solve 62 = .ok (.iinc 2 1, 3) := by decide +kernel
theorem dX10_solve_65 : decode cX10_solve 65 = .ok (.goto (-28), 3) := by decide +kernel
theorem dX10_solve_68 : decode cX10_solve 68 = .ok (.aload_n 0, 1) := by decide +kernel
theorem dX10_solve_69 : decode cX10_solve 69 = .ok (.getfield 200, 3) := by decide +kernel
theorem dX10_solve_72 : decode cX10_solve 72 = .ok (.ifCond .ne 7, 3) := by decide +kernel
theorem dX10_solve_75 : decode cX10_solve 75 = .ok (.iconst 1, 1) := by decide +kernel
theorem dX10_solve_76 : decode cX10_solve 76 = .ok (.goto 4, 3) := by decide +kernel
theorem dX10_solve_79 : decode cX10_solve 79 = .ok (.iconst 0, 1) := by decide +kernel
theorem dX10_solve_80 : decode cX10_solve 80 = .ok (.ireturn, 1) := by decide +kernel
theorem dX10_solveAll_0 : decode cX10_solveAll 0 = .ok (.aload_n 0, 1) := by decide +kernel
theorem dX10_solveAll_1 : decode cX10_solveAll 1 = .ok (.iconst 1, 1) := by decide +kernel
theorem dX10_solveAll_2 : decode cX10_solveAll 2 = .ok (.aload_n 0, 1) := by decide +kernel
theorem dX10_solveAll_3 : decode cX10_solveAll 3 = .ok (.getfield 7, 3) := by decide +kernel
theorem dX10_solveAll_6 : decode cX10_solveAll 6 = .ok (.bipush 8, 2) := by decide +kernel
theorem dX10_solveAll_8 : decode cX10_solveAll 8 = .ok (.iaload, 1) := by decide +kernel
theorem dX10_solveAll_9 : decode cX10_solveAll 9 = .ok (.ishl, 1) := by decide +kernel
theorem dX10_solveAll_10 : decode cX10_solveAll 10 = .ok (.iconst 1, 1) := by decide +kernel
theorem dX10_solveAll_11 : decode cX10_solveAll 11 = .ok (.isub, 1) := by decide +kernel
theorem dX10_solveAll_12 : decode cX10_solveAll 12 = .ok (.invokevirtual 218, 3) := by decide +kernel
theorem dX10_solveAll_15 : decode cX10_solveAll 15 = .ok (.ireturn, 1) := by decide +kernel
theorem dX10_representative_0 : decode cX10_representative 0 = .ok (.aload_n 0, 1) := by decide +kernel
theorem dX10_representative_1 : decode cX10_representative 1 = .ok (.iconst 0, 1) := by decide +kernel
theorem dX10_representative_2 : decode cX10_representative 2 = .ok (.putfield 47, 3) := by decide +kernel
theorem dX10_representative_5 : decode cX10_representative 5 = .ok (.aload_n 0, 1) := by decide +kernel
theorem dX10_representative_6 : decode cX10_representative 6 = .ok (.iload_n 1, 1) := by decide +kernel
theorem dX10_representative_7 : decode cX10_representative 7 = .ok (.iload_n 2, 1) := by decide +kernel
theorem dX10_representative_8 : decode cX10_representative 8 = .ok (.invokevirtual 194, 3) := by decide +kernel
theorem dX10_representative_11 : decode cX10_representative 11 = .ok (.ifCond .ne 5, 3) := by decide +kernel
theorem dX10_representative_14 : decode cX10_representative 14 = .ok (.iconst (-1), 1) := by decide +kernel
theorem dX10_representative_15 : decode cX10_representative 15 = .ok (.ireturn, 1) := by decide +kernel
theorem dX10_representative_16 : decode cX10_representative 16 = .ok (.aload_n 0, 1) := by decide +kernel
theorem dX10_representative_17 : decode cX10_representative 17 = .ok (.invokevirtual 221, 3) := by decide +kernel
theorem dX10_representative_20 : decode cX10_representative 20 = .ok (.pop, 1) := by decide +kernel
theorem dX10_representative_21 : decode cX10_representative 21 = .ok (.aload_n 0, 1) := by decide +kernel
theorem dX10_representative_22 : decode cX10_representative 22 = .ok (.bipush 16, 2) := by decide +kernel
theorem dX10_representative_24 : decode cX10_representative 24 = .ok (.iload_n 1, 1) := by decide +kernel
theorem dX10_representative_25 : decode cX10_representative 25 = .ok (.imul, 1) := by decide +kernel
theorem dX10_representative_26 : decode cX10_representative 26 = .ok (.aload_n 0, 1) := by decide +kernel
theorem dX10_representative_27 : decode cX10_representative 27 = .ok (.iload_n 1, 1) := by decide +kernel
theorem dX10_representative_28 : decode cX10_representative 28 = .ok (.iload_n 2, 1) := by decide +kernel
theorem dX10_representative_29 : decode cX10_representative 29 = .ok (.invokevirtual 197, 3) := by decide +kernel
theorem dX10_representative_32 : decode cX10_representative 32 = .ok (.iadd, 1) := by decide +kernel
theorem dX10_representative_33 : decode cX10_representative 33 = .ok (.invokevirtual 203, 3) := by decide +kernel
theorem dX10_representative_36 : decode cX10_representative 36 = .ok (.istore_n 3, 1) := by decide +kernel
theorem dX10_representative_37 : decode cX10_representative 37 = .ok (.bipush 16, 2) := by decide +kernel
theorem dX10_representative_39 : decode cX10_representative 39 = .ok (.iload_n 3, 1) := by decide +kernel
theorem dX10_representative_40 : decode cX10_representative 40 = .ok (.bipush 16, 2) := by decide +kernel
theorem dX10_representative_42 : decode cX10_representative 42 = .ok (.idiv, 1) := by decide +kernel
theorem dX10_representative_43 : decode cX10_representative 43 = .ok (.imul, 1) := by decide +kernel
theorem dX10_representative_44 : decode cX10_representative 44 = .ok (.aload_n 0, 1) := by decide +kernel
theorem dX10_representative_45 : decode cX10_representative 45 = .ok (.iload_n 3, 1) := by decide +kernel
theorem dX10_representative_46 : decode cX10_representative 46 = .ok (.bipush 16, 2) := by decide +kernel
theorem dX10_representative_48 : decode cX10_representative 48 = .ok (.idiv, 1) := by decide +kernel
theorem dX10_representative_49 : decode cX10_representative 49 = .ok (.iload_n 3, 1) := by decide +kernel
theorem dX10_representative_50 : decode cX10_representative 50 = .ok (.bipush 16, 2) := by decide +kernel
theorem dX10_representative_52 : decode cX10_representative 52 = .ok (.irem, 1) := by decide +kernel
theorem dX10_representative_53 : decode cX10_representative 53 = .ok (.invokevirtual 224, 3) := by decide +kernel
theorem dX10_representative_56 : decode cX10_representative 56 = .ok (.iadd, 1) := by decide +kernel
end
section
theorem dX10_representative_57 : decode cX10_representative 57 = .ok (.ireturn, 1) := by decide +kernel
theorem dX10_classCount_0 : decode cX10_classCount 0 = .ok (.aload_n 0, 1) := by decide +kernel
theorem dX10_classCount_1 : decode cX10_classCount 1 = .ok (.iconst 0, 1) := by decide +kernel
theorem dX10_classCount_2 : decode cX10_classCount 2 = .ok (.putfield 47, 3) := by decide +kernel
theorem dX10_classCount_5 : decode cX10_classCount 5 = .ok (.aload_n 0, 1) := by decide +kernel
theorem dX10_classCount_6 : decode cX10_classCount 6 = .ok (.invokevirtual 188, 3) := by decide +kernel
theorem dX10_classCount_9 : decode cX10_classCount 9 = .ok (.aload_n 0, 1) := by decide +kernel
theorem dX10_classCount_10 : decode cX10_classCount 10 = .ok (.invokevirtual 221, 3) := by decide +kernel
theorem dX10_classCount_13 : decode cX10_classCount 13 = .ok (.pop, 1) := by decide +kernel
theorem dX10_classCount_14 : decode cX10_classCount 14 = .ok (.iconst 0, 1) := by decide +kernel
theorem dX10_classCount_15 : decode cX10_classCount 15 = .ok (.istore_n 1, 1) := by decide +kernel
theorem dX10_classCount_16 : decode cX10_classCount 16 = .ok (.iconst 0, 1) := by decide +kernel
theorem dX10_classCount_17 : decode cX10_classCount 17 = .ok (.istore_n 2, 1) := by decide +kernel
theorem dX10_classCount_18 : decode cX10_classCount 18 = .ok (.iload_n 2, 1) := by decide +kernel
theorem dX10_classCount_19 : decode cX10_classCount 19 = .ok (.bipush 8, 2) := by decide +kernel
theorem dX10_classCount_21 : decode cX10_classCount 21 = .ok (.if_icmp .ge 85, 3) := by decide +kernel
theorem dX10_classCount_24 : decode cX10_classCount 24 = .ok (.iconst 0, 1) := by decide +kernel
theorem dX10_classCount_25 : decode cX10_classCount 25 = .ok (.istore_n 3, 1) := by decide +kernel
theorem dX10_classCount_26 : decode cX10_classCount 26 = .ok (.iload_n 3, 1) := by decide +kernel
theorem dX10_classCount_27 : decode cX10_classCount 27 = .ok (.aload_n 0, 1) := by decide +kernel
theorem dX10_classCount_28 : decode cX10_classCount 28 = .ok (.getfield 7, 3) := by decide +kernel
theorem dX10_classCount_31 : decode cX10_classCount 31 = .ok (.iload_n 2, 1) := by decide +kernel
theorem dX10_classCount_32 : decode cX10_classCount 32 = .ok (.iaload, 1) := by decide +kernel
theorem dX10_classCount_33 : decode cX10_classCount 33 = .ok (.if_icmp .ge 67, 3) := by decide +kernel
theorem dX10_classCount_36 : decode cX10_classCount 36 = .ok (.iload_n 3, 1) := by decide +kernel
theorem dX10_classCount_37 : decode cX10_classCount 37 = .ok (.ifCond .eq 17, 3) := by decide +kernel
theorem dX10_classCount_40 : decode cX10_classCount 40 = .ok (.aload_n 0, 1) := by decide +kernel
theorem dX10_classCount_41 : decode cX10_classCount 41 = .ok (.getfield 32, 3) := by decide +kernel
theorem dX10_classCount_44 : decode cX10_classCount 44 = .ok (.bipush 16, 2) := by decide +kernel
theorem dX10_classCount_46 : decode cX10_classCount 46 = .ok (.iload_n 2, 1) := by decide +kernel
theorem dX10_classCount_47 : decode cX10_classCount 47 = .ok (.imul, 1) := by decide +kernel
theorem dX10_classCount_48 : decode cX10_classCount 48 = .ok (.iload_n 3, 1) := by decide +kernel
theorem dX10_classCount_49 : decode cX10_classCount 49 = .ok (.iadd, 1) := by decide +kernel
theorem dX10_classCount_50 : decode cX10_classCount 50 = .ok (.baload, 1) := by decide +kernel
theorem dX10_classCount_51 : decode cX10_classCount 51 = .ok (.ifCond .eq 7, 3) := by decide +kernel
theorem dX10_classCount_54 : decode cX10_classCount 54 = .ok (.iconst 1, 1) := by decide +kernel
theorem dX10_classCount_55 : decode cX10_classCount 55 = .ok (.goto 4, 3) := by decide +kernel
theorem dX10_classCount_58 : decode cX10_classCount 58 = .ok (.iconst 0, 1) := by decide +kernel
theorem dX10_classCount_59 : decode cX10_classCount 59 = .ok (.istore 4, 2) := by decide +kernel
theorem dX10_classCount_61 : decode cX10_classCount 61 = .ok (.iload_n 1, 1) := by decide +kernel
theorem dX10_classCount_62 : decode cX10_classCount 62 = .ok (.iload 4, 2) := by decide +kernel
theorem dX10_classCount_64 : decode cX10_classCount 64 = .ok (.ifCond .eq 27, 3) := by decide +kernel
theorem dX10_classCount_67 : decode cX10_classCount 67 = .ok (.aload_n 0, 1) := by decide +kernel
theorem dX10_classCount_68 : decode cX10_classCount 68 = .ok (.getfield 35, 3) := by decide +kernel
theorem dX10_classCount_71 : decode cX10_classCount 71 = .ok (.bipush 16, 2) := by decide +kernel
theorem dX10_classCount_73 : decode cX10_classCount 73 = .ok (.iload_n 2, 1) := by decide +kernel
theorem dX10_classCount_74 : decode cX10_classCount 74 = .ok (.imul, 1) := by decide +kernel
theorem dX10_classCount_75 : decode cX10_classCount 75 = .ok (.iload_n 3, 1) := by decide +kernel
theorem dX10_classCount_76 : decode cX10_classCount 76 = .ok (.iadd, 1) := by decide +kernel
theorem dX10_classCount_77 : decode cX10_classCount 77 = .ok (.iaload, 1) := by decide +kernel
theorem dX10_classCount_78 : decode cX10_classCount 78 = .ok (.bipush 16, 2) := by decide +kernel
theorem dX10_classCount_80 : decode cX10_classCount 80 = .ok (.iload_n 2, 1) := by decide +kernel
theorem dX10_classCount_81 : decode cX10_classCount 81 = .ok (.imul, 1) := by decide +kernel
theorem dX10_classCount_82 : decode cX10_classCount 82 = .ok (.iload_n 3, 1) := by decide +kernel
theorem dX10_classCount_83 : decode cX10_classCount 83 = .ok (.iadd, 1) := by decide +kernel
theorem dX10_classCount_84 : decode cX10_classCount 84 = .ok (.if_icmp .ne 7, 3) := by decide +kernel
theorem dX10_classCount_87 : decode cX10_classCount 87 = .ok (.iconst 1, 1) := by decide +kernel
theorem dX10_classCount_88 : decode cX10_classCount 88 = .ok (.goto 4, 3) := by decide +kernel
theorem dX10_classCount_91 : decode cX10_classCount 91 = .ok (.iconst 0, 1) := by decide +kernel
theorem dX10_classCount_92 : decode cX10_classCount 92 = .ok (.iadd, 1) := by decide +kernel
theorem dX10_classCount_93 : decode cX10_classCount 93 = .ok (.istore_n 1, 1) := by decide +kernel
theorem dX10_classCount_94 : decode cX10_classCount 94 = .ok (.iinc 3 1, 3) := by decide +kernel
theorem dX10_classCount_97 : decode cX10_classCount 97 = .ok (.goto (-71), 3) := by decide +kernel
theorem dX10_classCount_100 : decode cX10_classCount 100 = .ok (.iinc 2 1, 3) := by decide +kernel
theorem dX10_classCount_103 : decode cX10_classCount 103 = .ok (.goto (-85), 3) := by decide +kernel
theorem dX10_classCount_106 : decode cX10_classCount 106 = .ok (.iload_n 1, 1) := by decide +kernel
theorem dX10_classCount_107 : decode cX10_classCount 107 = .ok (.ireturn, 1) := by decide +kernel
theorem dX10_isConsistent_0 : decode cX10_isConsistent 0 = .ok (.aload_n 0, 1) := by decide +kernel
theorem dX10_isConsistent_1 : decode cX10_isConsistent 1 = .ok (.iconst 0, 1) := by decide +kernel
theorem dX10_isConsistent_2 : decode cX10_isConsistent 2 = .ok (.putfield 47, 3) := by decide +kernel
theorem dX10_isConsistent_5 : decode cX10_isConsistent 5 = .ok (.aload_n 0, 1) := by decide +kernel
theorem dX10_isConsistent_6 : decode cX10_isConsistent 6 = .ok (.invokevirtual 221, 3) := by decide +kernel
theorem dX10_isConsistent_9 : decode cX10_isConsistent 9 = .ok (.ifCond .eq 7, 3) := by decide +kernel
theorem dX10_isConsistent_12 : decode cX10_isConsistent 12 = .ok (.iconst 1, 1) := by decide +kernel
theorem dX10_isConsistent_13 : decode cX10_isConsistent 13 = .ok (.goto 4, 3) := by decide +kernel
theorem dX10_isConsistent_16 : decode cX10_isConsistent 16 = .ok (.iconst 0, 1) := by decide +kernel
theorem dX10_isConsistent_17 : decode cX10_isConsistent 17 = .ok (.ireturn, 1) := by decide +kernel
theorem dX10_firstConflict_0 : decode cX10_firstConflict 0 = .ok (.aload_n 0, 1) := by decide +kernel
theorem dX10_firstConflict_1 : decode cX10_firstConflict 1 = .ok (.iconst 0, 1) := by decide +kernel
theorem dX10_firstConflict_2 : decode cX10_firstConflict 2 = .ok (.putfield 47, 3) := by decide +kernel
theorem dX10_firstConflict_5 : decode cX10_firstConflict 5 = .ok (.iconst 0, 1) := by decide +kernel
theorem dX10_firstConflict_6 : decode cX10_firstConflict 6 = .ok (.istore_n 1, 1) := by decide +kernel
theorem dX10_firstConflict_7 : decode cX10_firstConflict 7 = .ok (.iload_n 1, 1) := by decide +kernel
theorem dX10_firstConflict_8 : decode cX10_firstConflict 8 = .ok (.aload_n 0, 1) := by decide +kernel
theorem dX10_firstConflict_9 : decode cX10_firstConflict 9 = .ok (.getfield 7, 3) := by decide +kernel
theorem dX10_firstConflict_12 : decode cX10_firstConflict 12 = .ok (.bipush 8, 2) := by decide +kernel
theorem dX10_firstConflict_14 : decode cX10_firstConflict 14 = .ok (.iaload, 1) := by decide +kernel
theorem dX10_firstConflict_15 : decode cX10_firstConflict 15 = .ok (.if_icmp .ge 23, 3) := by decide +kernel
theorem dX10_firstConflict_18 : decode cX10_firstConflict 18 = .ok (.aload_n 0, 1) := by decide +kernel
theorem dX10_firstConflict_19 : decode cX10_firstConflict 19 = .ok (.iconst 2, 1) := by decide +kernel
theorem dX10_firstConflict_20 : decode cX10_firstConflict 20 = .ok (.iload_n 1, 1) := by decide +kernel
theorem dX10_firstConflict_21 : decode cX10_firstConflict 21 = .ok (.ishl, 1) := by decide +kernel
theorem dX10_firstConflict_22 : decode cX10_firstConflict 22 = .ok (.iconst 1, 1) := by decide +kernel
theorem dX10_firstConflict_23 : decode cX10_firstConflict 23 = .ok (.isub, 1) := by decide +kernel
theorem dX10_firstConflict_24 : decode cX10_firstConflict 24 = .ok (.invokevirtual 218, 3) := by decide +kernel
theorem dX10_firstConflict_27 : decode cX10_firstConflict 27 = .ok (.ifCond .ne 5, 3) := by decide +kernel
theorem dX10_firstConflict_30 : decode cX10_firstConflict 30 = .ok (.iload_n 1, 1) := by decide +kernel
theorem dX10_firstConflict_31 : decode cX10_firstConflict 31 = .ok (.ireturn, 1) := by decide +kernel
theorem dX10_firstConflict_32 : decode cX10_firstConflict 32 = .ok (.iinc 1 1, 3) := by decide +kernel
theorem dX10_firstConflict_35 : decode cX10_firstConflict 35 = .ok (.goto (-28), 3) := by decide +kernel
theorem dX10_firstConflict_38 : decode cX10_firstConflict 38 = .ok (.bipush (-9), 2) := by decide +kernel
theorem dX10_firstConflict_40 : decode cX10_firstConflict 40 = .ok (.ireturn, 1) := by decide +kernel
theorem dX10_conflictSet_0 : decode cX10_conflictSet 0 = .ok (.aload_n 0, 1) := by decide +kernel
theorem dX10_conflictSet_1 : decode cX10_conflictSet 1 = .ok (.iconst 0, 1) := by decide +kernel
theorem dX10_conflictSet_2 : decode cX10_conflictSet 2 = .ok (.putfield 47, 3) := by decide +kernel
theorem dX10_conflictSet_5 : decode cX10_conflictSet 5 = .ok (.iconst 1, 1) := by decide +kernel
theorem dX10_conflictSet_6 : decode cX10_conflictSet 6 = .ok (.aload_n 0, 1) := by decide +kernel
theorem dX10_conflictSet_7 : decode cX10_conflictSet 7 = .ok (.getfield 7, 3) := by decide +kernel
theorem dX10_conflictSet_10 : decode cX10_conflictSet 10 = .ok (.bipush 8, 2) := by decide +kernel
theorem dX10_conflictSet_12 : decode cX10_conflictSet 12 = .ok (.iaload, 1) := by decide +kernel
theorem dX10_conflictSet_13 : decode cX10_conflictSet 13 = .ok (.ishl, 1) := by decide +kernel
theorem dX10_conflictSet_14 : decode cX10_conflictSet 14 = .ok (.iconst 1, 1) := by decide +kernel
theorem dX10_conflictSet_15 : decode cX10_conflictSet 15 = .ok (.isub, 1) := by decide +kernel
theorem dX10_conflictSet_16 : decode cX10_conflictSet 16 = .ok (.istore_n 1, 1) := by decide +kernel
theorem dX10_conflictSet_17 : decode cX10_conflictSet 17 = .ok (.aload_n 0, 1) := by decide +kernel
theorem dX10_conflictSet_18 : decode cX10_conflictSet 18 = .ok (.iload_n 1, 1) := by decide +kernel
theorem dX10_conflictSet_19 : decode cX10_conflictSet 19 = .ok (.invokevirtual 218, 3) := by decide +kernel
theorem dX10_conflictSet_22 : decode cX10_conflictSet 22 = .ok (.ifCond .eq 6, 3) := by decide +kernel
theorem dX10_conflictSet_25 : decode cX10_conflictSet 25 = .ok (.bipush (-9), 2) := by decide +kernel
theorem dX10_conflictSet_27 : decode cX10_conflictSet 27 = .ok (.ireturn, 1) := by decide +kernel
theorem dX10_conflictSet_28 : decode cX10_conflictSet 28 = .ok (.iconst 0, 1) := by decide +kernel
theorem dX10_conflictSet_29 : decode cX10_conflictSet 29 = .ok (.istore_n 2, 1) := by decide +kernel
theorem dX10_conflictSet_30 : decode cX10_conflictSet 30 = .ok (.iload_n 2, 1) := by decide +kernel
theorem dX10_conflictSet_31 : decode cX10_conflictSet 31 = .ok (.aload_n 0, 1) := by decide +kernel
theorem dX10_conflictSet_32 : decode cX10_conflictSet 32 = .ok (.getfield 7, 3) := by decide +kernel
theorem dX10_conflictSet_35 : decode cX10_conflictSet 35 = .ok (.bipush 8, 2) := by decide +kernel
theorem dX10_conflictSet_37 : decode cX10_conflictSet 37 = .ok (.iaload, 1) := by decide +kernel
theorem dX10_conflictSet_38 : decode cX10_conflictSet 38 = .ok (.if_icmp .ge 35, 3) := by decide +kernel
theorem dX10_conflictSet_41 : decode cX10_conflictSet 41 = .ok (.aload_n 0, 1) := by decide +kernel
theorem dX10_conflictSet_42 : decode cX10_conflictSet 42 = .ok (.iload_n 1, 1) := by decide +kernel
theorem dX10_conflictSet_43 : decode cX10_conflictSet 43 = .ok (.iconst 1, 1) := by decide +kernel
theorem dX10_conflictSet_44 : decode cX10_conflictSet 44 = .ok (.iload_n 2, 1) := by decide +kernel
theorem dX10_conflictSet_45 : decode cX10_conflictSet 45 = .ok (.ishl, 1) := by decide +kernel
theorem dX10_conflictSet_46 : decode cX10_conflictSet 46 = .ok (.iconst (-1), 1) := by decide +kernel
theorem dX10_conflictSet_47 : decode cX10_conflictSet 47 = .ok (.ixor, 1) := by decide +kernel
theorem dX10_conflictSet_48 : decode cX10_conflictSet 48 = .ok (.iand, 1) := by decide +kernel
theorem dX10_conflictSet_49 : decode cX10_conflictSet 49 = .ok (.invokevirtual 218, 3) := by decide +kernel
theorem dX10_conflictSet_52 : decode cX10_conflictSet 52 = .ok (.ifCond .eq 7, 3) := by decide +kernel
theorem dX10_conflictSet_55 : decode cX10_conflictSet 55 = .ok (.iload_n 1, 1) := by decide +kernel
theorem dX10_conflictSet_56 : decode cX10_conflictSet 56 = .ok (.goto 10, 3) := by decide +kernel
theorem dX10_conflictSet_59 : decode cX10_conflictSet 59 = .ok (.iload_n 1, 1) := by decide +kernel
theorem dX10_conflictSet_60 : decode cX10_conflictSet 60 = .ok (.iconst 1, 1) := by decide +kernel
theorem dX10_conflictSet_61 : decode cX10_conflictSet 61 = .ok (.iload_n 2, 1) := by decide +kernel
theorem dX10_conflictSet_62 : decode cX10_conflictSet 62 = .ok (.ishl, 1) := by decide +kernel
theorem dX10_conflictSet_63 : decode cX10_conflictSet 63 = .ok (.iconst (-1), 1) := by decide +kernel
theorem dX10_conflictSet_64 : decode cX10_conflictSet 64 = .ok (.ixor, 1) := by decide +kernel
theorem dX10_conflictSet_65 : decode cX10_conflictSet 65 = .ok (.iand, 1) := by decide +kernel
theorem dX10_conflictSet_66 : decode cX10_conflictSet 66 = .ok (.istore_n 1, 1) := by decide +kernel
theorem dX10_conflictSet_67 : decode cX10_conflictSet 67 = .ok (.iinc 2 1, 3) := by decide +kernel
theorem dX10_conflictSet_70 : decode cX10_conflictSet 70 = .ok (.goto (-40), 3) := by decide +kernel
theorem dX10_conflictSet_73 : decode cX10_conflictSet 73 = .ok (.iload_n 1, 1) := by decide +kernel
theorem dX10_conflictSet_74 : decode cX10_conflictSet 74 = .ok (.ireturn, 1) := by decide +kernel
theorem dX10_isBit_0 : decode cX10_isBit 0 = .ok (.iload_n 1, 1) := by decide +kernel
theorem dX10_isBit_1 : decode cX10_isBit 1 = .ok (.invokestatic 151, 3) := by decide +kernel
theorem dX10_isBit_4 : decode cX10_isBit 4 = .ok (.ifCond .eq 23, 3) := by decide +kernel
theorem dX10_isBit_7 : decode cX10_isBit 7 = .ok (.iload_n 2, 1) := by decide +kernel
theorem dX10_isBit_8 : decode cX10_isBit 8 = .ok (.iconst 0, 1) := by decide +kernel
theorem dX10_isBit_9 : decode cX10_isBit 9 = .ok (.aload_n 0, 1) := by decide +kernel
theorem dX10_isBit_10 : decode cX10_isBit 10 = .ok (.getfield 7, 3) := by decide +kernel
theorem dX10_isBit_13 : decode cX10_isBit 13 = .ok (.iload_n 1, 1) := by decide +kernel
theorem dX10_isBit_14 : decode cX10_isBit 14 = .ok (.iaload, 1) := by decide +kernel
theorem dX10_isBit_15 : decode cX10_isBit 15 = .ok (.iconst 1, 1) := by decide +kernel
theorem dX10_isBit_16 : decode cX10_isBit 16 = .ok (.isub, 1) := by decide +kernel
theorem dX10_isBit_17 : decode cX10_isBit 17 = .ok (.invokestatic 60, 3) := by decide +kernel
theorem dX10_isBit_20 : decode cX10_isBit 20 = .ok (.ifCond .eq 7, 3) := by decide +kernel
theorem dX10_isBit_23 : decode cX10_isBit 23 = .ok (.iconst 1, 1) := by decide +kernel
theorem dX10_isBit_24 : decode cX10_isBit 24 = .ok (.goto 4, 3) := by decide +kernel
theorem dX10_isBit_27 : decode cX10_isBit 27 = .ok (.iconst 0, 1) := by decide +kernel
theorem dX10_isBit_28 : decode cX10_isBit 28 = .ok (.ireturn, 1) := by decide +kernel
theorem dX10_fixedBit_0 : decode cX10_fixedBit 0 = .ok (.aload_n 0, 1) := by decide +kernel
theorem dX10_fixedBit_1 : decode cX10_fixedBit 1 = .ok (.iconst 0, 1) := by decide +kernel
theorem dX10_fixedBit_2 : decode cX10_fixedBit 2 = .ok (.putfield 47, 3) := by decide +kernel
theorem dX10_fixedBit_5 : decode cX10_fixedBit 5 = .ok (.aload_n 0, 1) := by decide +kernel
theorem dX10_fixedBit_6 : decode cX10_fixedBit 6 = .ok (.iload_n 1, 1) := by decide +kernel
theorem dX10_fixedBit_7 : decode cX10_fixedBit 7 = .ok (.iload_n 2, 1) := by decide +kernel
theorem dX10_fixedBit_8 : decode cX10_fixedBit 8 = .ok (.invokevirtual 227, 3) := by decide +kernel
theorem dX10_fixedBit_11 : decode cX10_fixedBit 11 = .ok (.ifCond .ne 5, 3) := by decide +kernel
theorem dX10_fixedBit_14 : decode cX10_fixedBit 14 = .ok (.iconst (-1), 1) := by decide +kernel
theorem dX10_fixedBit_15 : decode cX10_fixedBit 15 = .ok (.ireturn, 1) := by decide +kernel
theorem dX10_fixedBit_16 : decode cX10_fixedBit 16 = .ok (.aload_n 0, 1) := by decide +kernel
theorem dX10_fixedBit_17 : decode cX10_fixedBit 17 = .ok (.invokevirtual 221, 3) := by decide +kernel
theorem dX10_fixedBit_20 : decode cX10_fixedBit 20 = .ok (.ifCond .eq 21, 3) := by decide +kernel
theorem dX10_fixedBit_23 : decode cX10_fixedBit 23 = .ok (.aload_n 0, 1) := by decide +kernel
theorem dX10_fixedBit_24 : decode cX10_fixedBit 24 = .ok (.getfield 38, 3) := by decide +kernel
theorem dX10_fixedBit_27 : decode cX10_fixedBit 27 = .ok (.aload_n 0, 1) := by decide +kernel
theorem dX10_fixedBit_28 : decode cX10_fixedBit 28 = .ok (.bipush 16, 2) := by decide +kernel
theorem dX10_fixedBit_30 : decode cX10_fixedBit 30 = .ok (.iload_n 1, 1) := by decide +kernel
theorem dX10_fixedBit_31 : decode cX10_fixedBit 31 = .ok (.imul, 1) := by decide +kernel
theorem dX10_fixedBit_32 : decode cX10_fixedBit 32 = .ok (.iload_n 2, 1) := by decide +kernel
theorem dX10_fixedBit_33 : decode cX10_fixedBit 33 = .ok (.iadd, 1) := by decide +kernel
theorem dX10_fixedBit_34 : decode cX10_fixedBit 34 = .ok (.invokevirtual 203, 3) := by decide +kernel
theorem dX10_fixedBit_37 : decode cX10_fixedBit 37 = .ok (.iaload, 1) := by decide +kernel
theorem dX10_fixedBit_38 : decode cX10_fixedBit 38 = .ok (.goto 5, 3) := by decide +kernel
theorem dX10_fixedBit_41 : decode cX10_fixedBit 41 = .ok (.bipush (-2), 2) := by decide +kernel
theorem dX10_fixedBit_43 : decode cX10_fixedBit 43 = .ok (.ireturn, 1) := by decide +kernel
theorem dX10_compareBits_0 : decode cX10_compareBits 0 = .ok (.aload_n 0, 1) := by decide +kernel
theorem dX10_compareBits_1 : decode cX10_compareBits 1 = .ok (.iconst 0, 1) := by decide +kernel
theorem dX10_compareBits_2 : decode cX10_compareBits 2 = .ok (.putfield 47, 3) := by decide +kernel
theorem dX10_compareBits_5 : decode cX10_compareBits 5 = .ok (.aload_n 0, 1) := by decide +kernel
theorem dX10_compareBits_6 : decode cX10_compareBits 6 = .ok (.iload_n 1, 1) := by decide +kernel
theorem dX10_compareBits_7 : decode cX10_compareBits 7 = .ok (.iload_n 2, 1) := by decide +kernel
theorem dX10_compareBits_8 : decode cX10_compareBits 8 = .ok (.invokevirtual 227, 3) := by decide +kernel
theorem dX10_compareBits_11 : decode cX10_compareBits 11 = .ok (.ifCond .eq 13, 3) := by decide +kernel
theorem dX10_compareBits_14 : decode cX10_compareBits 14 = .ok (.aload_n 0, 1) := by decide +kernel
theorem dX10_compareBits_15 : decode cX10_compareBits 15 = .ok (.iload_n 3, 1) := by decide +kernel
theorem dX10_compareBits_16 : decode cX10_compareBits 16 = .ok (.iload 4, 2) := by decide +kernel
theorem dX10_compareBits_18 : decode cX10_compareBits 18 = .ok (.invokevirtual 227, 3) := by decide +kernel
theorem dX10_compareBits_21 : decode cX10_compareBits 21 = .ok (.ifCond .ne 5, 3) := by decide +kernel
theorem dX10_compareBits_24 : decode cX10_compareBits 24 = .ok (.iconst (-1), 1) := by decide +kernel
theorem dX10_compareBits_25 : decode cX10_compareBits 25 = .ok (.ireturn, 1) := by decide +kernel
theorem dX10_compareBits_26 : decode cX10_compareBits 26 = .ok (.aload_n 0, 1) := by decide +kernel
theorem dX10_compareBits_27 : decode cX10_compareBits 27 = .ok (.invokevirtual 221, 3) := by decide +kernel
theorem dX10_compareBits_30 : decode cX10_compareBits 30 = .ok (.ifCond .ne 6, 3) := by decide +kernel
theorem dX10_compareBits_33 : decode cX10_compareBits 33 = .ok (.bipush (-2), 2) := by decide +kernel
theorem dX10_compareBits_35 : decode cX10_compareBits 35 = .ok (.ireturn, 1) := by decide +kernel
theorem dX10_compareBits_36 : decode cX10_compareBits 36 = .ok (.aload_n 0, 1) := by decide +kernel
theorem dX10_compareBits_37 : decode cX10_compareBits 37 = .ok (.bipush 16, 2) := by decide +kernel
theorem dX10_compareBits_39 : decode cX10_compareBits 39 = .ok (.iload_n 1, 1) := by decide +kernel
theorem dX10_compareBits_40 : decode cX10_compareBits 40 = .ok (.imul, 1) := by decide +kernel
theorem dX10_compareBits_41 : decode cX10_compareBits 41 = .ok (.iload_n 2, 1) := by decide +kernel
theorem dX10_compareBits_42 : decode cX10_compareBits 42 = .ok (.iadd, 1) := by decide +kernel
theorem dX10_compareBits_43 : decode cX10_compareBits 43 = .ok (.invokevirtual 203, 3) := by decide +kernel
theorem dX10_compareBits_46 : decode cX10_compareBits 46 = .ok (.istore 5, 2) := by decide +kernel
theorem dX10_compareBits_48 : decode cX10_compareBits 48 = .ok (.aload_n 0, 1) := by decide +kernel
theorem dX10_compareBits_49 : decode cX10_compareBits 49 = .ok (.bipush 16, 2) := by decide +kernel
theorem dX10_compareBits_51 : decode cX10_compareBits 51 = .ok (.iload_n 3, 1) := by decide +kernel
theorem dX10_compareBits_52 : decode cX10_compareBits 52 = .ok (.imul, 1) := by decide +kernel
theorem dX10_compareBits_53 : decode cX10_compareBits 53 = .ok (.iload 4, 2) := by decide +kernel
theorem dX10_compareBits_55 : decode cX10_compareBits 55 = .ok (.iadd, 1) := by decide +kernel
theorem dX10_compareBits_56 : decode cX10_compareBits 56 = .ok (.invokevirtual 203, 3) := by decide +kernel
theorem dX10_compareBits_59 : decode cX10_compareBits 59 = .ok (.istore 6, 2) := by decide +kernel
theorem dX10_compareBits_61 : decode cX10_compareBits 61 = .ok (.iload 5, 2) := by decide +kernel
theorem dX10_compareBits_63 : decode cX10_compareBits 63 = .ok (.iload 6, 2) := by decide +kernel
theorem dX10_compareBits_65 : decode cX10_compareBits 65 = .ok (.if_icmp .ne 5, 3) := by decide +kernel
theorem dX10_compareBits_68 : decode cX10_compareBits 68 = .ok (.iconst 1, 1) := by decide +kernel
theorem dX10_compareBits_69 : decode cX10_compareBits 69 = .ok (.ireturn, 1) := by decide +kernel
theorem dX10_compareBits_70 : decode cX10_compareBits 70 = .ok (.aload_n 0, 1) := by decide +kernel
theorem dX10_compareBits_71 : decode cX10_compareBits 71 = .ok (.getfield 38, 3) := by decide +kernel
theorem dX10_compareBits_74 : decode cX10_compareBits 74 = .ok (.iload 5, 2) := by decide +kernel
theorem dX10_compareBits_76 : decode cX10_compareBits 76 = .ok (.iaload, 1) := by decide +kernel
theorem dX10_compareBits_77 : decode cX10_compareBits 77 = .ok (.bipush (-9), 2) := by decide +kernel
theorem dX10_compareBits_79 : decode cX10_compareBits 79 = .ok (.if_icmp .eq 15, 3) := by decide +kernel
theorem dX10_compareBits_82 : decode cX10_compareBits 82 = .ok (.aload_n 0, 1) := by decide +kernel
theorem dX10_compareBits_83 : decode cX10_compareBits 83 = .ok (.getfield 38, 3) := by decide +kernel
theorem dX10_compareBits_86 : decode cX10_compareBits 86 = .ok (.iload 6, 2) := by decide +kernel
theorem dX10_compareBits_88 : decode cX10_compareBits 88 = .ok (.iaload, 1) := by decide +kernel
theorem dX10_compareBits_89 : decode cX10_compareBits 89 = .ok (.bipush (-9), 2) := by decide +kernel
theorem dX10_compareBits_91 : decode cX10_compareBits 91 = .ok (.if_icmp .ne 7, 3) := by decide +kernel
theorem dX10_compareBits_94 : decode cX10_compareBits 94 = .ok (.iconst 2, 1) := by decide +kernel
theorem dX10_compareBits_95 : decode cX10_compareBits 95 = .ok (.goto 25, 3) := by decide +kernel
theorem dX10_compareBits_98 : decode cX10_compareBits 98 = .ok (.aload_n 0, 1) := by decide +kernel
theorem dX10_compareBits_99 : decode cX10_compareBits 99 = .ok (.getfield 38, 3) := by decide +kernel
theorem dX10_compareBits_102 : decode cX10_compareBits 102 = .ok (.iload 5, 2) := by decide +kernel
theorem dX10_compareBits_104 : decode cX10_compareBits 104 = .ok (.iaload, 1) := by decide +kernel
theorem dX10_compareBits_105 : decode cX10_compareBits 105 = .ok (.aload_n 0, 1) := by decide +kernel
theorem dX10_compareBits_106 : decode cX10_compareBits 106 = .ok (.getfield 38, 3) := by decide +kernel
theorem dX10_compareBits_109 : decode cX10_compareBits 109 = .ok (.iload 6, 2) := by decide +kernel
theorem dX10_compareBits_111 : decode cX10_compareBits 111 = .ok (.iaload, 1) := by decide +kernel
theorem dX10_compareBits_112 : decode cX10_compareBits 112 = .ok (.if_icmp .ne 7, 3) := by decide +kernel
theorem dX10_compareBits_115 : decode cX10_compareBits 115 = .ok (.iconst 1, 1) := by decide +kernel
theorem dX10_compareBits_116 : decode cX10_compareBits 116 = .ok (.goto 4, 3) := by decide +kernel
theorem dX10_compareBits_119 : decode cX10_compareBits 119 = .ok (.iconst 0, 1) := by decide +kernel
theorem dX10_compareBits_120 : decode cX10_compareBits 120 = .ok (.ireturn, 1) := by decide +kernel
theorem dX10_isFree_0 : decode cX10_isFree 0 = .ok (.iload_n 1, 1) := by decide +kernel
theorem dX10_isFree_1 : decode cX10_isFree 1 = .ok (.bipush 16, 2) := by decide +kernel
theorem dX10_isFree_3 : decode cX10_isFree 3 = .ok (.irem, 1) := by decide +kernel
theorem dX10_isFree_4 : decode cX10_isFree 4 = .ok (.aload_n 0, 1) := by decide +kernel
theorem dX10_isFree_5 : decode cX10_isFree 5 = .ok (.getfield 7, 3) := by decide +kernel
theorem dX10_isFree_8 : decode cX10_isFree 8 = .ok (.iload_n 1, 1) := by decide +kernel
theorem dX10_isFree_9 : decode cX10_isFree 9 = .ok (.bipush 16, 2) := by decide +kernel
theorem dX10_isFree_11 : decode cX10_isFree 11 = .ok (.idiv, 1) := by decide +kernel
theorem dX10_isFree_12 : decode cX10_isFree 12 = .ok (.iaload, 1) := by decide +kernel
theorem dX10_isFree_13 : decode cX10_isFree 13 = .ok (.if_icmp .ge 28, 3) := by decide +kernel
theorem dX10_isFree_16 : decode cX10_isFree 16 = .ok (.aload_n 0, 1) := by decide +kernel
theorem dX10_isFree_17 : decode cX10_isFree 17 = .ok (.getfield 35, 3) := by decide +kernel
theorem dX10_isFree_20 : decode cX10_isFree 20 = .ok (.iload_n 1, 1) := by decide +kernel
theorem dX10_isFree_21 : decode cX10_isFree 21 = .ok (.iaload, 1) := by decide +kernel
theorem dX10_isFree_22 : decode cX10_isFree 22 = .ok (.iload_n 1, 1) := by decide +kernel
theorem dX10_isFree_23 : decode cX10_isFree 23 = .ok (.if_icmp .ne 18, 3) := by decide +kernel
theorem dX10_isFree_26 : decode cX10_isFree 26 = .ok (.aload_n 0, 1) := by decide +kernel
theorem dX10_isFree_27 : decode cX10_isFree 27 = .ok (.getfield 38, 3) := by decide +kernel
theorem dX10_isFree_30 : decode cX10_isFree 30 = .ok (.iload_n 1, 1) := by decide +kernel
theorem dX10_isFree_31 : decode cX10_isFree 31 = .ok (.iaload, 1) := by decide +kernel
theorem dX10_isFree_32 : decode cX10_isFree 32 = .ok (.bipush (-9), 2) := by decide +kernel
theorem dX10_isFree_34 : decode cX10_isFree 34 = .ok (.if_icmp .ne 7, 3) := by decide +kernel
theorem dX10_isFree_37 : decode cX10_isFree 37 = .ok (.iconst 1, 1) := by decide +kernel
theorem dX10_isFree_38 : decode cX10_isFree 38 = .ok (.goto 4, 3) := by decide +kernel
theorem dX10_isFree_41 : decode cX10_isFree 41 = .ok (.iconst 0, 1) := by decide +kernel
theorem dX10_isFree_42 : decode cX10_isFree 42 = .ok (.ireturn, 1) := by decide +kernel
theorem dX10_freeBits_0 : decode cX10_freeBits 0 = .ok (.aload_n 0, 1) := by decide +kernel
theorem dX10_freeBits_1 : decode cX10_freeBits 1 = .ok (.iconst 0, 1) := by decide +kernel
theorem dX10_freeBits_2 : decode cX10_freeBits 2 = .ok (.putfield 47, 3) := by decide +kernel
theorem dX10_freeBits_5 : decode cX10_freeBits 5 = .ok (.aload_n 0, 1) := by decide +kernel
theorem dX10_freeBits_6 : decode cX10_freeBits 6 = .ok (.invokevirtual 221, 3) := by decide +kernel
theorem dX10_freeBits_9 : decode cX10_freeBits 9 = .ok (.ifCond .ne 6, 3) := by decide +kernel
theorem dX10_freeBits_12 : decode cX10_freeBits 12 = .ok (.bipush (-2), 2) := by decide +kernel
theorem dX10_freeBits_14 : decode cX10_freeBits 14 = .ok (.ireturn, 1) := by decide +kernel
theorem dX10_freeBits_15 : decode cX10_freeBits 15 = .ok (.iconst 0, 1) := by decide +kernel
theorem dX10_freeBits_16 : decode cX10_freeBits 16 = .ok (.istore_n 1, 1) := by decide +kernel
theorem dX10_freeBits_17 : decode cX10_freeBits 17 = .ok (.iconst 0, 1) := by decide +kernel
theorem dX10_freeBits_18 : decode cX10_freeBits 18 = .ok (.istore_n 2, 1) := by decide +kernel
theorem dX10_freeBits_19 : decode cX10_freeBits 19 = .ok (.iload_n 2, 1) := by decide +kernel
theorem dX10_freeBits_20 : decode cX10_freeBits 20 = .ok (.sipush 128, 3) := by decide +kernel
theorem dX10_freeBits_23 : decode cX10_freeBits 23 = .ok (.if_icmp .ge 25, 3) := by decide +kernel
theorem dX10_freeBits_26 : decode cX10_freeBits 26 = .ok (.iload_n 1, 1) := by decide +kernel
theorem dX10_freeBits_27 : decode cX10_freeBits 27 = .ok (.aload_n 0, 1) := by decide +kernel
theorem dX10_freeBits_28 : decode cX10_freeBits 28 = .ok (.iload_n 2, 1) := by decide +kernel
theorem dX10_freeBits_29 : decode cX10_freeBits 29 = .ok (.invokevirtual 230, 3) := by decide +kernel
theorem dX10_freeBits_32 : decode cX10_freeBits 32 = .ok (.ifCond .eq 7, 3) := by decide +kernel
theorem dX10_freeBits_35 : decode cX10_freeBits 35 = .ok (.iconst 1, 1) := by decide +kernel
theorem dX10_freeBits_36 : decode cX10_freeBits 36 = .ok (.goto 4, 3) := by decide +kernel
theorem dX10_freeBits_39 : decode cX10_freeBits 39 = .ok (.iconst 0, 1) := by decide +kernel
theorem dX10_freeBits_40 : decode cX10_freeBits 40 = .ok (.iadd, 1) := by decide +kernel
theorem dX10_freeBits_41 : decode cX10_freeBits 41 = .ok (.istore_n 1, 1) := by decide +kernel
theorem dX10_freeBits_42 : decode cX10_freeBits 42 = .ok (.iinc 2 1, 3) := by decide +kernel
theorem dX10_freeBits_45 : decode cX10_freeBits 45 = .ok (.goto (-26), 3) := by decide +kernel
theorem dX10_freeBits_48 : decode cX10_freeBits 48 = .ok (.iload_n 1, 1) := by decide +kernel
theorem dX10_freeBits_49 : decode cX10_freeBits 49 = .ok (.ireturn, 1) := by decide +kernel
theorem dX10_valueOf_0 : decode cX10_valueOf 0 = .ok (.aload_n 0, 1) := by decide +kernel
theorem dX10_valueOf_1 : decode cX10_valueOf 1 = .ok (.iload_n 1, 1) := by decide +kernel
theorem dX10_valueOf_2 : decode cX10_valueOf 2 = .ok (.invokevirtual 165, 3) := by decide +kernel
theorem dX10_valueOf_5 : decode cX10_valueOf 5 = .ok (.ifCond .ne 9, 3) := by decide +kernel
theorem dX10_valueOf_8 : decode cX10_valueOf 8 = .ok (.iload_n 1, 1) := by decide +kernel
theorem dX10_valueOf_9 : decode cX10_valueOf 9 = .ok (.sipush 256, 3) := by decide +kernel
theorem dX10_valueOf_12 : decode cX10_valueOf 12 = .ok (.irem, 1) := by decide +kernel
theorem dX10_valueOf_13 : decode cX10_valueOf 13 = .ok (.ireturn, 1) := by decide +kernel
theorem dX10_valueOf_14 : decode cX10_valueOf 14 = .ok (.aload_n 0, 1) := by decide +kernel
theorem dX10_valueOf_15 : decode cX10_valueOf 15 = .ok (.iload_n 1, 1) := by decide +kernel
theorem dX10_valueOf_16 : decode cX10_valueOf 16 = .ok (.invokestatic 168, 3) := by decide +kernel
theorem dX10_valueOf_19 : decode cX10_valueOf 19 = .ok (.invokevirtual 203, 3) := by decide +kernel
theorem dX10_valueOf_22 : decode cX10_valueOf 22 = .ok (.istore_n 2, 1) := by decide +kernel
theorem dX10_valueOf_23 : decode cX10_valueOf 23 = .ok (.aload_n 0, 1) := by decide +kernel
theorem dX10_valueOf_24 : decode cX10_valueOf 24 = .ok (.getfield 38, 3) := by decide +kernel
theorem dX10_valueOf_27 : decode cX10_valueOf 27 = .ok (.iload_n 2, 1) := by decide +kernel
theorem dX10_valueOf_28 : decode cX10_valueOf 28 = .ok (.iaload, 1) := by decide +kernel
theorem dX10_valueOf_29 : decode cX10_valueOf 29 = .ok (.bipush (-9), 2) := by decide +kernel
theorem dX10_valueOf_31 : decode cX10_valueOf 31 = .ok (.if_icmp .ne 7, 3) := by decide +kernel
theorem dX10_valueOf_34 : decode cX10_valueOf 34 = .ok (.iconst 0, 1) := by decide +kernel
theorem dX10_valueOf_35 : decode cX10_valueOf 35 = .ok (.goto 9, 3) := by decide +kernel
theorem dX10_valueOf_38 : decode cX10_valueOf 38 = .ok (.aload_n 0, 1) := by decide +kernel
theorem dX10_valueOf_39 : decode cX10_valueOf 39 = .ok (.getfield 38, 3) := by decide +kernel
theorem dX10_valueOf_42 : decode cX10_valueOf 42 = .ok (.iload_n 2, 1) := by decide +kernel
theorem dX10_valueOf_43 : decode cX10_valueOf 43 = .ok (.iaload, 1) := by decide +kernel
theorem dX10_valueOf_44 : decode cX10_valueOf 44 = .ok (.istore_n 3, 1) := by decide +kernel
theorem dX10_valueOf_45 : decode cX10_valueOf 45 = .ok (.iconst 0, 1) := by decide +kernel
theorem dX10_valueOf_46 : decode cX10_valueOf 46 = .ok (.istore 4, 2) := by decide +kernel
theorem dX10_valueOf_48 : decode cX10_valueOf 48 = .ok (.iload 4, 2) := by decide +kernel
theorem dX10_valueOf_50 : decode cX10_valueOf 50 = .ok (.aload_n 0, 1) := by decide +kernel
theorem dX10_valueOf_51 : decode cX10_valueOf 51 = .ok (.getfield 233, 3) := by decide +kernel
theorem dX10_valueOf_54 : decode cX10_valueOf 54 = .ok (.if_icmp .ge 26, 3) := by decide +kernel
theorem dX10_valueOf_57 : decode cX10_valueOf 57 = .ok (.aload_n 0, 1) := by decide +kernel
theorem dX10_valueOf_58 : decode cX10_valueOf 58 = .ok (.getfield 41, 3) := by decide +kernel
theorem dX10_valueOf_61 : decode cX10_valueOf 61 = .ok (.iload 4, 2) := by decide +kernel
theorem dX10_valueOf_63 : decode cX10_valueOf 63 = .ok (.iaload, 1) := by decide +kernel
theorem dX10_valueOf_64 : decode cX10_valueOf 64 = .ok (.iload_n 2, 1) := by decide +kernel
theorem dX10_valueOf_65 : decode cX10_valueOf 65 = .ok (.if_icmp .ne 7, 3) := by decide +kernel
theorem dX10_valueOf_68 : decode cX10_valueOf 68 = .ok (.iconst 1, 1) := by decide +kernel
theorem dX10_valueOf_69 : decode cX10_valueOf 69 = .ok (.goto 4, 3) := by decide +kernel
theorem dX10_valueOf_72 : decode cX10_valueOf 72 = .ok (.iload_n 3, 1) := by decide +kernel
theorem dX10_valueOf_73 : decode cX10_valueOf 73 = .ok (.istore_n 3, 1) := by decide +kernel
theorem dX10_valueOf_74 : decode cX10_valueOf 74 = .ok (.iinc 4 1, 3) := by decide +kernel
theorem dX10_valueOf_77 : decode cX10_valueOf 77 = .ok (.goto (-29), 3) := by decide +kernel
theorem dX10_valueOf_80 : decode cX10_valueOf 80 = .ok (.iload_n 3, 1) := by decide +kernel
theorem dX10_valueOf_81 : decode cX10_valueOf 81 = .ok (.ireturn, 1) := by decide +kernel
theorem dX10_holds_0 : decode cX10_holds 0 = .ok (.bipush 10, 2) := by decide +kernel
theorem dX10_holds_2 : decode cX10_holds 2 = .ok (.iload_n 1, 1) := by decide +kernel
theorem dX10_holds_3 : decode cX10_holds 3 = .ok (.iadd, 1) := by decide +kernel
theorem dX10_holds_4 : decode cX10_holds 4 = .ok (.istore_n 2, 1) := by decide +kernel
theorem dX10_holds_5 : decode cX10_holds 5 = .ok (.iconst 0, 1) := by decide +kernel
theorem dX10_holds_6 : decode cX10_holds 6 = .ok (.istore_n 3, 1) := by decide +kernel
theorem dX10_holds_7 : decode cX10_holds 7 = .ok (.iload_n 3, 1) := by decide +kernel
theorem dX10_holds_8 : decode cX10_holds 8 = .ok (.aload_n 0, 1) := by decide +kernel
theorem dX10_holds_9 : decode cX10_holds 9 = .ok (.iload_n 2, 1) := by decide +kernel
theorem dX10_holds_10 : decode cX10_holds 10 = .ok (.invokevirtual 158, 3) := by decide +kernel
theorem dX10_holds_13 : decode cX10_holds 13 = .ok (.if_icmp .ge 36, 3) := by decide +kernel
theorem dX10_holds_16 : decode cX10_holds 16 = .ok (.aload_n 0, 1) := by decide +kernel
theorem dX10_holds_17 : decode cX10_holds 17 = .ok (.aload_n 0, 1) := by decide +kernel
theorem dX10_holds_18 : decode cX10_holds 18 = .ok (.iload_n 2, 1) := by decide +kernel
theorem dX10_holds_19 : decode cX10_holds 19 = .ok (.iconst 0, 1) := by decide +kernel
theorem dX10_holds_20 : decode cX10_holds 20 = .ok (.iload_n 3, 1) := by decide +kernel
theorem dX10_holds_21 : decode cX10_holds 21 = .ok (.invokevirtual 161, 3) := by decide +kernel
theorem dX10_holds_24 : decode cX10_holds 24 = .ok (.invokevirtual 236, 3) := by decide +kernel
theorem dX10_holds_27 : decode cX10_holds 27 = .ok (.aload_n 0, 1) := by decide +kernel
theorem dX10_holds_28 : decode cX10_holds 28 = .ok (.aload_n 0, 1) := by decide +kernel
theorem dX10_holds_29 : decode cX10_holds 29 = .ok (.iload_n 2, 1) := by decide +kernel
theorem dX10_holds_30 : decode cX10_holds 30 = .ok (.iconst 1, 1) := by decide +kernel
theorem dX10_holds_31 : decode cX10_holds 31 = .ok (.iload_n 3, 1) := by decide +kernel
theorem dX10_holds_32 : decode cX10_holds 32 = .ok (.invokevirtual 161, 3) := by decide +kernel
theorem dX10_holds_35 : decode cX10_holds 35 = .ok (.invokevirtual 236, 3) := by decide +kernel
theorem dX10_holds_38 : decode cX10_holds 38 = .ok (.if_icmp .eq 5, 3) := by decide +kernel
theorem dX10_holds_41 : decode cX10_holds 41 = .ok (.iconst 1, 1) := by decide +kernel
theorem dX10_holds_42 : decode cX10_holds 42 = .ok (.ireturn, 1) := by decide +kernel
theorem dX10_holds_43 : decode cX10_holds 43 = .ok (.iinc 3 1, 3) := by decide +kernel
theorem dX10_holds_46 : decode cX10_holds 46 = .ok (.goto (-39), 3) := by decide +kernel
theorem dX10_holds_49 : decode cX10_holds 49 = .ok (.iconst 0, 1) := by decide +kernel
theorem dX10_holds_50 : decode cX10_holds 50 = .ok (.ireturn, 1) := by decide +kernel
theorem dX10_isModel_0 : decode cX10_isModel 0 = .ok (.iconst 1, 1) := by decide +kernel
theorem dX10_isModel_1 : decode cX10_isModel 1 = .ok (.istore_n 1, 1) := by decide +kernel
theorem dX10_isModel_2 : decode cX10_isModel 2 = .ok (.iconst 0, 1) := by decide +kernel
theorem dX10_isModel_3 : decode cX10_isModel 3 = .ok (.istore_n 2, 1) := by decide +kernel
theorem dX10_isModel_4 : decode cX10_isModel 4 = .ok (.iload_n 2, 1) := by decide +kernel
theorem dX10_isModel_5 : decode cX10_isModel 5 = .ok (.aload_n 0, 1) := by decide +kernel
theorem dX10_isModel_6 : decode cX10_isModel 6 = .ok (.getfield 7, 3) := by decide +kernel
theorem dX10_isModel_9 : decode cX10_isModel 9 = .ok (.bipush 9, 2) := by decide +kernel
theorem dX10_isModel_11 : decode cX10_isModel 11 = .ok (.iaload, 1) := by decide +kernel
theorem dX10_isModel_12 : decode cX10_isModel 12 = .ok (.if_icmp .ge 19, 3) := by decide +kernel
theorem dX10_isModel_15 : decode cX10_isModel 15 = .ok (.iload_n 1, 1) := by decide +kernel
theorem dX10_isModel_16 : decode cX10_isModel 16 = .ok (.ifCond .eq 15, 3) := by decide +kernel
theorem dX10_isModel_19 : decode cX10_isModel 19 = .ok (.aload_n 0, 1) := by decide +kernel
theorem dX10_isModel_20 : decode cX10_isModel 20 = .ok (.iload_n 2, 1) := by decide +kernel
theorem dX10_isModel_21 : decode cX10_isModel 21 = .ok (.invokevirtual 239, 3) := by decide +kernel
theorem dX10_isModel_24 : decode cX10_isModel 24 = .ok (.istore_n 1, 1) := by decide +kernel
theorem dX10_isModel_25 : decode cX10_isModel 25 = .ok (.iinc 2 1, 3) := by decide +kernel
theorem dX10_isModel_28 : decode cX10_isModel 28 = .ok (.goto (-24), 3) := by decide +kernel
theorem dX10_isModel_31 : decode cX10_isModel 31 = .ok (.iload_n 1, 1) := by decide +kernel
theorem dX10_isModel_32 : decode cX10_isModel 32 = .ok (.ireturn, 1) := by decide +kernel
theorem dX10_occurs_0 : decode cX10_occurs 0 = .ok (.iconst 0, 1) := by decide +kernel
theorem dX10_occurs_1 : decode cX10_occurs 1 = .ok (.istore_n 2, 1) := by decide +kernel
theorem dX10_occurs_2 : decode cX10_occurs 2 = .ok (.iload_n 2, 1) := by decide +kernel
theorem dX10_occurs_3 : decode cX10_occurs 3 = .ok (.aload_n 0, 1) := by decide +kernel
theorem dX10_occurs_4 : decode cX10_occurs 4 = .ok (.getfield 7, 3) := by decide +kernel
theorem dX10_occurs_7 : decode cX10_occurs 7 = .ok (.bipush 9, 2) := by decide +kernel
theorem dX10_occurs_9 : decode cX10_occurs 9 = .ok (.iaload, 1) := by decide +kernel
theorem dX10_occurs_10 : decode cX10_occurs 10 = .ok (.if_icmp .ge 88, 3) := by decide +kernel
theorem dX10_occurs_13 : decode cX10_occurs 13 = .ok (.bipush 10, 2) := by decide +kernel
theorem dX10_occurs_15 : decode cX10_occurs 15 = .ok (.iload_n 2, 1) := by decide +kernel
theorem dX10_occurs_16 : decode cX10_occurs 16 = .ok (.iadd, 1) := by decide +kernel
theorem dX10_occurs_17 : decode cX10_occurs 17 = .ok (.istore_n 3, 1) := by decide +kernel
theorem dX10_occurs_18 : decode cX10_occurs 18 = .ok (.iconst 0, 1) := by decide +kernel
theorem dX10_occurs_19 : decode cX10_occurs 19 = .ok (.istore 4, 2) := by decide +kernel
theorem dX10_occurs_21 : decode cX10_occurs 21 = .ok (.iload 4, 2) := by decide +kernel
theorem dX10_occurs_23 : decode cX10_occurs 23 = .ok (.bipush 32, 2) := by decide +kernel
theorem dX10_occurs_25 : decode cX10_occurs 25 = .ok (.if_icmp .ge 67, 3) := by decide +kernel
theorem dX10_occurs_28 : decode cX10_occurs 28 = .ok (.iload 4, 2) := by decide +kernel
theorem dX10_occurs_30 : decode cX10_occurs 30 = .ok (.bipush 16, 2) := by decide +kernel
theorem dX10_occurs_32 : decode cX10_occurs 32 = .ok (.irem, 1) := by decide +kernel
theorem dX10_occurs_33 : decode cX10_occurs 33 = .ok (.aload_n 0, 1) := by decide +kernel
theorem dX10_occurs_34 : decode cX10_occurs 34 = .ok (.iload_n 3, 1) := by decide +kernel
theorem dX10_occurs_35 : decode cX10_occurs 35 = .ok (.invokevirtual 158, 3) := by decide +kernel
theorem dX10_occurs_38 : decode cX10_occurs 38 = .ok (.if_icmp .ge 21, 3) := by decide +kernel
theorem dX10_occurs_41 : decode cX10_occurs 41 = .ok (.aload_n 0, 1) := by decide +kernel
theorem dX10_occurs_42 : decode cX10_occurs 42 = .ok (.iload_n 3, 1) := by decide +kernel
theorem dX10_occurs_43 : decode cX10_occurs 43 = .ok (.iload 4, 2) := by decide +kernel
theorem dX10_occurs_45 : decode cX10_occurs 45 = .ok (.bipush 16, 2) := by decide +kernel
theorem dX10_occurs_47 : decode cX10_occurs 47 = .ok (.idiv, 1) := by decide +kernel
theorem dX10_occurs_48 : decode cX10_occurs 48 = .ok (.iload 4, 2) := by decide +kernel
theorem dX10_occurs_50 : decode cX10_occurs 50 = .ok (.bipush 16, 2) := by decide +kernel
theorem dX10_occurs_52 : decode cX10_occurs 52 = .ok (.irem, 1) := by decide +kernel
theorem dX10_occurs_53 : decode cX10_occurs 53 = .ok (.invokevirtual 161, 3) := by decide +kernel
theorem dX10_occurs_56 : decode cX10_occurs 56 = .ok (.goto 4, 3) := by decide +kernel
theorem dX10_occurs_59 : decode cX10_occurs 59 = .ok (.iconst 0, 1) := by decide +kernel
theorem dX10_occurs_60 : decode cX10_occurs 60 = .ok (.istore 5, 2) := by decide +kernel
theorem dX10_occurs_62 : decode cX10_occurs 62 = .ok (.aload_n 0, 1) := by decide +kernel
theorem dX10_occurs_63 : decode cX10_occurs 63 = .ok (.iload 5, 2) := by decide +kernel
theorem dX10_occurs_65 : decode cX10_occurs 65 = .ok (.invokevirtual 165, 3) := by decide +kernel
theorem dX10_occurs_68 : decode cX10_occurs 68 = .ok (.ifCond .eq 18, 3) := by decide +kernel
theorem dX10_occurs_71 : decode cX10_occurs 71 = .ok (.aload_n 0, 1) := by decide +kernel
theorem dX10_occurs_72 : decode cX10_occurs 72 = .ok (.iload 5, 2) := by decide +kernel
theorem dX10_occurs_74 : decode cX10_occurs 74 = .ok (.invokestatic 168, 3) := by decide +kernel
theorem dX10_occurs_77 : decode cX10_occurs 77 = .ok (.invokevirtual 203, 3) := by decide +kernel
theorem dX10_occurs_80 : decode cX10_occurs 80 = .ok (.iload_n 1, 1) := by decide +kernel
theorem dX10_occurs_81 : decode cX10_occurs 81 = .ok (.if_icmp .ne 5, 3) := by decide +kernel
theorem dX10_occurs_84 : decode cX10_occurs 84 = .ok (.iconst 1, 1) := by decide +kernel
theorem dX10_occurs_85 : decode cX10_occurs 85 = .ok (.ireturn, 1) := by decide +kernel
theorem dX10_occurs_86 : decode cX10_occurs 86 = .ok (.iinc 4 1, 3) := by decide +kernel
theorem dX10_occurs_89 : decode cX10_occurs 89 = .ok (.goto (-68), 3) := by decide +kernel
theorem dX10_occurs_92 : decode cX10_occurs 92 = .ok (.iinc 2 1, 3) := by decide +kernel
theorem dX10_occurs_95 : decode cX10_occurs 95 = .ok (.goto (-93), 3) := by decide +kernel
theorem dX10_occurs_98 : decode cX10_occurs 98 = .ok (.iconst 0, 1) := by decide +kernel
theorem dX10_occurs_99 : decode cX10_occurs 99 = .ok (.ireturn, 1) := by decide +kernel
theorem dX10_findUsed_0 : decode cX10_findUsed 0 = .ok (.aload_n 0, 1) := by decide +kernel
theorem dX10_findUsed_1 : decode cX10_findUsed 1 = .ok (.iconst 0, 1) := by decide +kernel
theorem dX10_findUsed_2 : decode cX10_findUsed 2 = .ok (.putfield 242, 3) := by decide +kernel
theorem dX10_findUsed_5 : decode cX10_findUsed 5 = .ok (.iconst 0, 1) := by decide +kernel
theorem dX10_findUsed_6 : decode cX10_findUsed 6 = .ok (.istore_n 1, 1) := by decide +kernel
theorem dX10_findUsed_7 : decode cX10_findUsed 7 = .ok (.iload_n 1, 1) := by decide +kernel
theorem dX10_findUsed_8 : decode cX10_findUsed 8 = .ok (.sipush 128, 3) := by decide +kernel
theorem dX10_findUsed_11 : decode cX10_findUsed 11 = .ok (.if_icmp .ge 45, 3) := by decide +kernel
theorem dX10_findUsed_14 : decode cX10_findUsed 14 = .ok (.aload_n 0, 1) := by decide +kernel
theorem dX10_findUsed_15 : decode cX10_findUsed 15 = .ok (.iload_n 1, 1) := by decide +kernel
theorem dX10_findUsed_16 : decode cX10_findUsed 16 = .ok (.invokevirtual 230, 3) := by decide +kernel
theorem dX10_findUsed_19 : decode cX10_findUsed 19 = .ok (.ifCond .eq 31, 3) := by decide +kernel
theorem dX10_findUsed_22 : decode cX10_findUsed 22 = .ok (.aload_n 0, 1) := by decide +kernel
theorem dX10_findUsed_23 : decode cX10_findUsed 23 = .ok (.iload_n 1, 1) := by decide +kernel
theorem dX10_findUsed_24 : decode cX10_findUsed 24 = .ok (.invokevirtual 245, 3) := by decide +kernel
theorem dX10_findUsed_27 : decode cX10_findUsed 27 = .ok (.ifCond .eq 23, 3) := by decide +kernel
theorem dX10_findUsed_30 : decode cX10_findUsed 30 = .ok (.aload_n 0, 1) := by decide +kernel
theorem dX10_findUsed_31 : decode cX10_findUsed 31 = .ok (.getfield 44, 3) := by decide +kernel
theorem dX10_findUsed_34 : decode cX10_findUsed 34 = .ok (.aload_n 0, 1) := by decide +kernel
theorem dX10_findUsed_35 : decode cX10_findUsed 35 = .ok (.getfield 242, 3) := by decide +kernel
theorem dX10_findUsed_38 : decode cX10_findUsed 38 = .ok (.iload_n 1, 1) := by decide +kernel
theorem dX10_findUsed_39 : decode cX10_findUsed 39 = .ok (.iastore, 1) := by decide +kernel
theorem dX10_findUsed_40 : decode cX10_findUsed 40 = .ok (.aload_n 0, 1) := by decide +kernel
theorem dX10_findUsed_41 : decode cX10_findUsed 41 = .ok (.dup, 1) := by decide +kernel
theorem dX10_findUsed_42 : decode cX10_findUsed 42 = .ok (.getfield 242, 3) := by decide +kernel
theorem dX10_findUsed_45 : decode cX10_findUsed 45 = .ok (.iconst 1, 1) := by decide +kernel
theorem dX10_findUsed_46 : decode cX10_findUsed 46 = .ok (.iadd, 1) := by decide +kernel
theorem dX10_findUsed_47 : decode cX10_findUsed 47 = .ok (.putfield 242, 3) := by decide +kernel
theorem dX10_findUsed_50 : decode cX10_findUsed 50 = .ok (.iinc 1 1, 3) := by decide +kernel
theorem dX10_findUsed_53 : decode cX10_findUsed 53 = .ok (.goto (-46), 3) := by decide +kernel
theorem dX10_findUsed_56 : decode cX10_findUsed 56 = .ok (.return_, 1) := by decide +kernel
theorem dX10_search_0 : decode cX10_search 0 = .ok (.aload_n 0, 1) := by decide +kernel
theorem dX10_search_1 : decode cX10_search 1 = .ok (.iload_n 1, 1) := by decide +kernel
theorem dX10_search_2 : decode cX10_search 2 = .ok (.putfield 233, 3) := by decide +kernel
theorem dX10_search_5 : decode cX10_search 5 = .ok (.iload_n 1, 1) := by decide +kernel
theorem dX10_search_6 : decode cX10_search 6 = .ok (.ifCond .le 10, 3) := by decide +kernel
theorem dX10_search_9 : decode cX10_search 9 = .ok (.aload_n 0, 1) := by decide +kernel
theorem dX10_search_10 : decode cX10_search 10 = .ok (.getfield 242, 3) := by decide +kernel
theorem dX10_search_13 : decode cX10_search 13 = .ok (.goto 4, 3) := by decide +kernel
theorem dX10_search_16 : decode cX10_search 16 = .ok (.iconst 1, 1) := by decide +kernel
theorem dX10_search_17 : decode cX10_search 17 = .ok (.istore_n 2, 1) := by decide +kernel
theorem dX10_search_18 : decode cX10_search 18 = .ok (.iconst 0, 1) := by decide +kernel
theorem dX10_search_19 : decode cX10_search 19 = .ok (.istore_n 3, 1) := by decide +kernel
theorem dX10_search_20 : decode cX10_search 20 = .ok (.iload_n 3, 1) := by decide +kernel
theorem dX10_search_21 : decode cX10_search 21 = .ok (.iload_n 2, 1) := by decide +kernel
theorem dX10_search_22 : decode cX10_search 22 = .ok (.if_icmp .ge 157, 3) := by decide +kernel
theorem dX10_search_25 : decode cX10_search 25 = .ok (.iload_n 1, 1) := by decide +kernel
theorem dX10_search_26 : decode cX10_search 26 = .ok (.iconst 1, 1) := by decide +kernel
theorem dX10_search_27 : decode cX10_search 27 = .ok (.if_icmp .le 10, 3) := by decide +kernel
theorem dX10_search_30 : decode cX10_search 30 = .ok (.aload_n 0, 1) := by decide +kernel
theorem dX10_search_31 : decode cX10_search 31 = .ok (.getfield 242, 3) := by decide +kernel
theorem dX10_search_34 : decode cX10_search 34 = .ok (.goto 6, 3) := by decide +kernel
theorem dX10_search_37 : decode cX10_search 37 = .ok (.iload_n 3, 1) := by decide +kernel
theorem dX10_search_38 : decode cX10_search 38 = .ok (.iconst 2, 1) := by decide +kernel
theorem dX10_search_39 : decode cX10_search 39 = .ok (.iadd, 1) := by decide +kernel
theorem dX10_search_40 : decode cX10_search 40 = .ok (.istore 4, 2) := by decide +kernel
theorem dX10_search_42 : decode cX10_search 42 = .ok (.iload_n 3, 1) := by decide +kernel
theorem dX10_search_43 : decode cX10_search 43 = .ok (.iconst 1, 1) := by decide +kernel
theorem dX10_search_44 : decode cX10_search 44 = .ok (.iadd, 1) := by decide +kernel
theorem dX10_search_45 : decode cX10_search 45 = .ok (.istore 5, 2) := by decide +kernel
theorem dX10_search_47 : decode cX10_search 47 = .ok (.iload 5, 2) := by decide +kernel
theorem dX10_search_49 : decode cX10_search 49 = .ok (.iload 4, 2) := by decide +kernel
theorem dX10_search_51 : decode cX10_search 51 = .ok (.if_icmp .ge 122, 3) := by decide +kernel
theorem dX10_search_54 : decode cX10_search 54 = .ok (.iload_n 1, 1) := by decide +kernel
theorem dX10_search_55 : decode cX10_search 55 = .ok (.iconst 2, 1) := by decide +kernel
theorem dX10_search_56 : decode cX10_search 56 = .ok (.if_icmp .le 10, 3) := by decide +kernel
theorem dX10_search_59 : decode cX10_search 59 = .ok (.aload_n 0, 1) := by decide +kernel
theorem dX10_search_60 : decode cX10_search 60 = .ok (.getfield 242, 3) := by decide +kernel
theorem dX10_search_63 : decode cX10_search 63 = .ok (.goto 7, 3) := by decide +kernel
theorem dX10_search_66 : decode cX10_search 66 = .ok (.iload 5, 2) := by decide +kernel
theorem dX10_search_68 : decode cX10_search 68 = .ok (.iconst 2, 1) := by decide +kernel
theorem dX10_search_69 : decode cX10_search 69 = .ok (.iadd, 1) := by decide +kernel
theorem dX10_search_70 : decode cX10_search 70 = .ok (.istore 6, 2) := by decide +kernel
theorem dX10_search_72 : decode cX10_search 72 = .ok (.iload 5, 2) := by decide +kernel
theorem dX10_search_74 : decode cX10_search 74 = .ok (.iconst 1, 1) := by decide +kernel
theorem dX10_search_75 : decode cX10_search 75 = .ok (.iadd, 1) := by decide +kernel
theorem dX10_search_76 : decode cX10_search 76 = .ok (.istore 7, 2) := by decide +kernel
theorem dX10_search_78 : decode cX10_search 78 = .ok (.iload 7, 2) := by decide +kernel
theorem dX10_search_80 : decode cX10_search 80 = .ok (.iload 6, 2) := by decide +kernel
theorem dX10_search_82 : decode cX10_search 82 = .ok (.if_icmp .ge 85, 3) := by decide +kernel
theorem dX10_search_85 : decode cX10_search 85 = .ok (.aload_n 0, 1) := by decide +kernel
theorem dX10_search_86 : decode cX10_search 86 = .ok (.getfield 41, 3) := by decide +kernel
theorem dX10_search_89 : decode cX10_search 89 = .ok (.iconst 0, 1) := by decide +kernel
theorem dX10_search_90 : decode cX10_search 90 = .ok (.iload_n 1, 1) := by decide +kernel
theorem dX10_search_91 : decode cX10_search 91 = .ok (.ifCond .le 12, 3) := by decide +kernel
theorem dX10_search_94 : decode cX10_search 94 = .ok (.aload_n 0, 1) := by decide +kernel
theorem dX10_search_95 : decode cX10_search 95 = .ok (.getfield 44, 3) := by decide +kernel
theorem dX10_search_98 : decode cX10_search 98 = .ok (.iload_n 3, 1) := by decide +kernel
theorem dX10_search_99 : decode cX10_search 99 = .ok (.iaload, 1) := by decide +kernel
theorem dX10_search_100 : decode cX10_search 100 = .ok (.goto 5, 3) := by decide +kernel
theorem dX10_search_103 : decode cX10_search 103 = .ok (.bipush (-9), 2) := by decide +kernel
theorem dX10_search_105 : decode cX10_search 105 = .ok (.iastore, 1) := by decide +kernel
theorem dX10_search_106 : decode cX10_search 106 = .ok (.aload_n 0, 1) := by decide +kernel
theorem dX10_search_107 : decode cX10_search 107 = .ok (.getfield 41, 3) := by decide +kernel
theorem dX10_search_110 : decode cX10_search 110 = .ok (.iconst 1, 1) := by decide +kernel
theorem dX10_search_111 : decode cX10_search 111 = .ok (.iload_n 1, 1) := by decide +kernel
theorem dX10_search_112 : decode cX10_search 112 = .ok (.iconst 1, 1) := by decide +kernel
theorem dX10_search_113 : decode cX10_search 113 = .ok (.if_icmp .le 13, 3) := by decide +kernel
theorem dX10_search_116 : decode cX10_search 116 = .ok (.aload_n 0, 1) := by decide +kernel
theorem dX10_search_117 : decode cX10_search 117 = .ok (.getfield 44, 3) := by decide +kernel
theorem dX10_search_120 : decode cX10_search 120 = .ok (.iload 5, 2) := by decide +kernel
theorem dX10_search_122 : decode cX10_search 122 = .ok (.iaload, 1) := by decide +kernel
theorem dX10_search_123 : decode cX10_search 123 = .ok (.goto 5, 3) := by decide +kernel
theorem dX10_search_126 : decode cX10_search 126 = .ok (.bipush (-9), 2) := by decide +kernel
theorem dX10_search_128 : decode cX10_search 128 = .ok (.iastore, 1) := by decide +kernel
theorem dX10_search_129 : decode cX10_search 129 = .ok (.aload_n 0, 1) := by decide +kernel
theorem dX10_search_130 : decode cX10_search 130 = .ok (.getfield 41, 3) := by decide +kernel
theorem dX10_search_133 : decode cX10_search 133 = .ok (.iconst 2, 1) := by decide +kernel
theorem dX10_search_134 : decode cX10_search 134 = .ok (.iload_n 1, 1) := by decide +kernel
theorem dX10_search_135 : decode cX10_search 135 = .ok (.iconst 2, 1) := by decide +kernel
theorem dX10_search_136 : decode cX10_search 136 = .ok (.if_icmp .le 13, 3) := by decide +kernel
theorem dX10_search_139 : decode cX10_search 139 = .ok (.aload_n 0, 1) := by decide +kernel
theorem dX10_search_140 : decode cX10_search 140 = .ok (.getfield 44, 3) := by decide +kernel
theorem dX10_search_143 : decode cX10_search 143 = .ok (.iload 7, 2) := by decide +kernel
theorem dX10_search_145 : decode cX10_search 145 = .ok (.iaload, 1) := by decide +kernel
theorem dX10_search_146 : decode cX10_search 146 = .ok (.goto 5, 3) := by decide +kernel
theorem dX10_search_149 : decode cX10_search 149 = .ok (.bipush (-9), 2) := by decide +kernel
theorem dX10_search_151 : decode cX10_search 151 = .ok (.iastore, 1) := by decide +kernel
theorem dX10_search_152 : decode cX10_search 152 = .ok (.aload_n 0, 1) := by decide +kernel
theorem dX10_search_153 : decode cX10_search 153 = .ok (.invokevirtual 248, 3) := by decide +kernel
theorem dX10_search_156 : decode cX10_search 156 = .ok (.ifCond .eq 5, 3) := by decide +kernel
theorem dX10_search_159 : decode cX10_search 159 = .ok (.iconst 1, 1) := by decide +kernel
theorem dX10_search_160 : decode cX10_search 160 = .ok (.ireturn, 1) := by decide +kernel
theorem dX10_search_161 : decode cX10_search 161 = .ok (.iinc 7 1, 3) := by decide +kernel
theorem dX10_search_164 : decode cX10_search 164 = .ok (.goto (-86), 3) := by decide +kernel
theorem dX10_search_167 : decode cX10_search 167 = .ok (.iinc 5 1, 3) := by decide +kernel
theorem dX10_search_170 : decode cX10_search 170 = .ok (.goto (-123), 3) := by decide +kernel
theorem dX10_search_173 : decode cX10_search 173 = .ok (.iinc 3 1, 3) := by decide +kernel
theorem dX10_search_176 : decode cX10_search 176 = .ok (.goto (-156), 3) := by decide +kernel
theorem dX10_search_179 : decode cX10_search 179 = .ok (.iconst 0, 1) := by decide +kernel
theorem dX10_search_180 : decode cX10_search 180 = .ok (.ireturn, 1) := by decide +kernel
theorem dX10_choose_0 : decode cX10_choose 0 = .ok (.aload_n 0, 1) := by decide +kernel
theorem dX10_choose_1 : decode cX10_choose 1 = .ok (.invokevirtual 221, 3) := by decide +kernel
theorem dX10_choose_4 : decode cX10_choose 4 = .ok (.ifCond .ne 5, 3) := by decide +kernel
theorem dX10_choose_7 : decode cX10_choose 7 = .ok (.iconst 0, 1) := by decide +kernel
theorem dX10_choose_8 : decode cX10_choose 8 = .ok (.ireturn, 1) := by decide +kernel
theorem dX10_choose_9 : decode cX10_choose 9 = .ok (.aload_n 0, 1) := by decide +kernel
theorem dX10_choose_10 : decode cX10_choose 10 = .ok (.invokevirtual 251, 3) := by decide +kernel
theorem dX10_choose_13 : decode cX10_choose 13 = .ok (.iconst 0, 1) := by decide +kernel
theorem dX10_choose_14 : decode cX10_choose 14 = .ok (.istore_n 1, 1) := by decide +kernel
theorem dX10_choose_15 : decode cX10_choose 15 = .ok (.iload_n 1, 1) := by decide +kernel
theorem dX10_choose_16 : decode cX10_choose 16 = .ok (.aload_n 0, 1) := by decide +kernel
theorem dX10_choose_17 : decode cX10_choose 17 = .ok (.getfield 7, 3) := by decide +kernel
theorem dX10_choose_20 : decode cX10_choose 20 = .ok (.bipush 9, 2) := by decide +kernel
theorem dX10_choose_22 : decode cX10_choose 22 = .ok (.iaload, 1) := by decide +kernel
theorem dX10_choose_23 : decode cX10_choose 23 = .ok (.if_icmp .gt 19, 3) := by decide +kernel
theorem dX10_choose_26 : decode cX10_choose 26 = .ok (.aload_n 0, 1) := by decide +kernel
theorem dX10_choose_27 : decode cX10_choose 27 = .ok (.iload_n 1, 1) := by decide +kernel
theorem dX10_choose_28 : decode cX10_choose 28 = .ok (.invokevirtual 254, 3) := by decide +kernel
theorem dX10_choose_31 : decode cX10_choose 31 = .ok (.ifCond .eq 5, 3) := by decide +kernel
theorem dX10_choose_34 : decode cX10_choose 34 = .ok (.iconst 1, 1) := by decide +kernel
theorem dX10_choose_35 : decode cX10_choose 35 = .ok (.ireturn, 1) := by decide +kernel
theorem dX10_choose_36 : decode cX10_choose 36 = .ok (.iinc 1 1, 3) := by decide +kernel
theorem dX10_choose_39 : decode cX10_choose 39 = .ok (.goto (-24), 3) := by decide +kernel
theorem dX10_choose_42 : decode cX10_choose 42 = .ok (.iconst 0, 1) := by decide +kernel
theorem dX10_choose_43 : decode cX10_choose 43 = .ok (.ireturn, 1) := by decide +kernel
theorem dX10_isSatisfiable_0 : decode cX10_isSatisfiable 0 = .ok (.aload_n 0, 1) := by decide +kernel
theorem dX10_isSatisfiable_1 : decode cX10_isSatisfiable 1 = .ok (.iconst 0, 1) := by decide +kernel
theorem dX10_isSatisfiable_2 : decode cX10_isSatisfiable 2 = .ok (.putfield 47, 3) := by decide +kernel
theorem dX10_isSatisfiable_5 : decode cX10_isSatisfiable 5 = .ok (.aload_n 0, 1) := by decide +kernel
theorem dX10_isSatisfiable_6 : decode cX10_isSatisfiable 6 = .ok (.invokevirtual 257, 3) := by decide +kernel
theorem dX10_isSatisfiable_9 : decode cX10_isSatisfiable 9 = .ok (.ifCond .eq 7, 3) := by decide +kernel
theorem dX10_isSatisfiable_12 : decode cX10_isSatisfiable 12 = .ok (.iconst 1, 1) := by decide +kernel
theorem dX10_isSatisfiable_13 : decode cX10_isSatisfiable 13 = .ok (.goto 4, 3) := by decide +kernel
theorem dX10_isSatisfiable_16 : decode cX10_isSatisfiable 16 = .ok (.iconst 0, 1) := by decide +kernel
theorem dX10_isSatisfiable_17 : decode cX10_isSatisfiable 17 = .ok (.ireturn, 1) := by decide +kernel
theorem dX10_oneBits_0 : decode cX10_oneBits 0 = .ok (.aload_n 0, 1) := by decide +kernel
theorem dX10_oneBits_1 : decode cX10_oneBits 1 = .ok (.iconst 0, 1) := by decide +kernel
theorem dX10_oneBits_2 : decode cX10_oneBits 2 = .ok (.putfield 47, 3) := by decide +kernel
theorem dX10_oneBits_5 : decode cX10_oneBits 5 = .ok (.aload_n 0, 1) := by decide +kernel
theorem dX10_oneBits_6 : decode cX10_oneBits 6 = .ok (.invokevirtual 257, 3) := by decide +kernel
theorem dX10_oneBits_9 : decode cX10_oneBits 9 = .ok (.ifCond .eq 10, 3) := by decide +kernel
theorem dX10_oneBits_12 : decode cX10_oneBits 12 = .ok (.aload_n 0, 1) := by decide +kernel
theorem dX10_oneBits_13 : decode cX10_oneBits 13 = .ok (.getfield 233, 3) := by decide +kernel
theorem dX10_oneBits_16 : decode cX10_oneBits 16 = .ok (.goto 5, 3) := by decide +kernel
theorem dX10_oneBits_19 : decode cX10_oneBits 19 = .ok (.bipush (-9), 2) := by decide +kernel
theorem dX10_oneBits_21 : decode cX10_oneBits 21 = .ok (.ireturn, 1) := by decide +kernel
theorem dX10_value_0 : decode cX10_value 0 = .ok (.aload_n 0, 1) := by decide +kernel
theorem dX10_value_1 : decode cX10_value 1 = .ok (.iconst 0, 1) := by decide +kernel
theorem dX10_value_2 : decode cX10_value 2 = .ok (.putfield 47, 3) := by decide +kernel
theorem dX10_value_5 : decode cX10_value 5 = .ok (.iload_n 1, 1) := by decide +kernel
theorem dX10_value_6 : decode cX10_value 6 = .ok (.invokestatic 151, 3) := by decide +kernel
theorem dX10_value_9 : decode cX10_value 9 = .ok (.ifCond .ne 5, 3) := by decide +kernel
theorem dX10_value_12 : decode cX10_value 12 = .ok (.iconst (-1), 1) := by decide +kernel
theorem dX10_value_13 : decode cX10_value 13 = .ok (.ireturn, 1) := by decide +kernel
theorem dX10_value_14 : decode cX10_value 14 = .ok (.aload_n 0, 1) := by decide +kernel
theorem dX10_value_15 : decode cX10_value 15 = .ok (.invokevirtual 257, 3) := by decide +kernel
theorem dX10_value_18 : decode cX10_value 18 = .ok (.ifCond .ne 6, 3) := by decide +kernel
theorem dX10_value_21 : decode cX10_value 21 = .ok (.bipush (-9), 2) := by decide +kernel
theorem dX10_value_23 : decode cX10_value 23 = .ok (.ireturn, 1) := by decide +kernel
theorem dX10_value_24 : decode cX10_value 24 = .ok (.iconst 0, 1) := by decide +kernel
theorem dX10_value_25 : decode cX10_value 25 = .ok (.istore_n 2, 1) := by decide +kernel
theorem dX10_value_26 : decode cX10_value 26 = .ok (.iconst 0, 1) := by decide +kernel
theorem dX10_value_27 : decode cX10_value 27 = .ok (.istore_n 3, 1) := by decide +kernel
theorem dX10_value_28 : decode cX10_value 28 = .ok (.iload_n 3, 1) := by decide +kernel
theorem dX10_value_29 : decode cX10_value 29 = .ok (.aload_n 0, 1) := by decide +kernel
theorem dX10_value_30 : decode cX10_value 30 = .ok (.getfield 7, 3) := by decide +kernel
theorem dX10_value_33 : decode cX10_value 33 = .ok (.iload_n 1, 1) := by decide +kernel
theorem dX10_value_34 : decode cX10_value 34 = .ok (.iaload, 1) := by decide +kernel
theorem dX10_value_35 : decode cX10_value 35 = .ok (.if_icmp .ge 27, 3) := by decide +kernel
theorem dX10_value_38 : decode cX10_value 38 = .ok (.iload_n 2, 1) := by decide +kernel
theorem dX10_value_39 : decode cX10_value 39 = .ok (.aload_n 0, 1) := by decide +kernel
theorem dX10_value_40 : decode cX10_value 40 = .ok (.bipush 16, 2) := by decide +kernel
theorem dX10_value_42 : decode cX10_value 42 = .ok (.bipush 16, 2) := by decide +kernel
theorem dX10_value_44 : decode cX10_value 44 = .ok (.iload_n 1, 1) := by decide +kernel
theorem dX10_value_45 : decode cX10_value 45 = .ok (.imul, 1) := by decide +kernel
theorem dX10_value_46 : decode cX10_value 46 = .ok (.iadd, 1) := by decide +kernel
theorem dX10_value_47 : decode cX10_value 47 = .ok (.iload_n 3, 1) := by decide +kernel
theorem dX10_value_48 : decode cX10_value 48 = .ok (.iadd, 1) := by decide +kernel
theorem dX10_value_49 : decode cX10_value 49 = .ok (.invokevirtual 236, 3) := by decide +kernel
theorem dX10_value_52 : decode cX10_value 52 = .ok (.iload_n 3, 1) := by decide +kernel
theorem dX10_value_53 : decode cX10_value 53 = .ok (.ishl, 1) := by decide +kernel
theorem dX10_value_54 : decode cX10_value 54 = .ok (.ior, 1) := by decide +kernel
theorem dX10_value_55 : decode cX10_value 55 = .ok (.istore_n 2, 1) := by decide +kernel
theorem dX10_value_56 : decode cX10_value 56 = .ok (.iinc 3 1, 3) := by decide +kernel
theorem dX10_value_59 : decode cX10_value 59 = .ok (.goto (-31), 3) := by decide +kernel
theorem dX10_value_62 : decode cX10_value 62 = .ok (.iload_n 2, 1) := by decide +kernel
theorem dX10_value_63 : decode cX10_value 63 = .ok (.ireturn, 1) := by decide +kernel
theorem dX10_isImplied_0 : decode cX10_isImplied 0 = .ok (.aload_n 0, 1) := by decide +kernel
theorem dX10_isImplied_1 : decode cX10_isImplied 1 = .ok (.iconst 0, 1) := by decide +kernel
theorem dX10_isImplied_2 : decode cX10_isImplied 2 = .ok (.putfield 47, 3) := by decide +kernel
theorem dX10_isImplied_5 : decode cX10_isImplied 5 = .ok (.iload_n 1, 1) := by decide +kernel
theorem dX10_isImplied_6 : decode cX10_isImplied 6 = .ok (.iconst 0, 1) := by decide +kernel
theorem dX10_isImplied_7 : decode cX10_isImplied 7 = .ok (.aload_n 0, 1) := by decide +kernel
theorem dX10_isImplied_8 : decode cX10_isImplied 8 = .ok (.getfield 7, 3) := by decide +kernel
theorem dX10_isImplied_11 : decode cX10_isImplied 11 = .ok (.bipush 9, 2) := by decide +kernel
theorem dX10_isImplied_13 : decode cX10_isImplied 13 = .ok (.iaload, 1) := by decide +kernel
theorem dX10_isImplied_14 : decode cX10_isImplied 14 = .ok (.iconst 1, 1) := by decide +kernel
theorem dX10_isImplied_15 : decode cX10_isImplied 15 = .ok (.isub, 1) := by decide +kernel
theorem dX10_isImplied_16 : decode cX10_isImplied 16 = .ok (.invokestatic 60, 3) := by decide +kernel
theorem dX10_isImplied_19 : decode cX10_isImplied 19 = .ok (.ifCond .ne 5, 3) := by decide +kernel
theorem dX10_isImplied_22 : decode cX10_isImplied 22 = .ok (.iconst (-1), 1) := by decide +kernel
theorem dX10_isImplied_23 : decode cX10_isImplied 23 = .ok (.ireturn, 1) := by decide +kernel
theorem dX10_isImplied_24 : decode cX10_isImplied 24 = .ok (.aload_n 0, 1) := by decide +kernel
theorem dX10_isImplied_25 : decode cX10_isImplied 25 = .ok (.invokevirtual 221, 3) := by decide +kernel
theorem dX10_isImplied_28 : decode cX10_isImplied 28 = .ok (.ifCond .ne 6, 3) := by decide +kernel
theorem dX10_isImplied_31 : decode cX10_isImplied 31 = .ok (.bipush (-2), 2) := by decide +kernel
theorem dX10_isImplied_33 : decode cX10_isImplied 33 = .ok (.ireturn, 1) := by decide +kernel
theorem dX10_isImplied_34 : decode cX10_isImplied 34 = .ok (.aload_n 0, 1) := by decide +kernel
theorem dX10_isImplied_35 : decode cX10_isImplied 35 = .ok (.bipush 10, 2) := by decide +kernel
theorem dX10_isImplied_37 : decode cX10_isImplied 37 = .ok (.iload_n 1, 1) := by decide +kernel
theorem dX10_isImplied_38 : decode cX10_isImplied 38 = .ok (.iadd, 1) := by decide +kernel
theorem dX10_isImplied_39 : decode cX10_isImplied 39 = .ok (.invokevirtual 215, 3) := by decide +kernel
theorem dX10_isImplied_42 : decode cX10_isImplied 42 = .ok (.aload_n 0, 1) := by decide +kernel
theorem dX10_isImplied_43 : decode cX10_isImplied 43 = .ok (.getfield 200, 3) := by decide +kernel
theorem dX10_isImplied_46 : decode cX10_isImplied 46 = .ok (.ifCond .eq 7, 3) := by decide +kernel
theorem dX10_isImplied_49 : decode cX10_isImplied 49 = .ok (.iconst 1, 1) := by decide +kernel
theorem dX10_isImplied_50 : decode cX10_isImplied 50 = .ok (.goto 4, 3) := by decide +kernel
theorem dX10_isImplied_53 : decode cX10_isImplied 53 = .ok (.iconst 0, 1) := by decide +kernel
theorem dX10_isImplied_54 : decode cX10_isImplied 54 = .ok (.ireturn, 1) := by decide +kernel
theorem dX10_undo_0 : decode cX10_undo 0 = .ok (.aload_n 0, 1) := by decide +kernel
theorem dX10_undo_1 : decode cX10_undo 1 = .ok (.iconst 0, 1) := by decide +kernel
theorem dX10_undo_2 : decode cX10_undo 2 = .ok (.putfield 47, 3) := by decide +kernel
theorem dX10_undo_5 : decode cX10_undo 5 = .ok (.aload_n 0, 1) := by decide +kernel
theorem dX10_undo_6 : decode cX10_undo 6 = .ok (.getfield 144, 3) := by decide +kernel
theorem dX10_undo_9 : decode cX10_undo 9 = .ok (.ifCond .ne 6, 3) := by decide +kernel
theorem dX10_undo_12 : decode cX10_undo 12 = .ok (.bipush (-2), 2) := by decide +kernel
theorem dX10_undo_14 : decode cX10_undo 14 = .ok (.ireturn, 1) := by decide +kernel
theorem dX10_undo_15 : decode cX10_undo 15 = .ok (.aload_n 0, 1) := by decide +kernel
theorem dX10_undo_16 : decode cX10_undo 16 = .ok (.dup, 1) := by decide +kernel
theorem dX10_undo_17 : decode cX10_undo 17 = .ok (.getfield 144, 3) := by decide +kernel
theorem dX10_undo_20 : decode cX10_undo 20 = .ok (.iconst 1, 1) := by decide +kernel
theorem dX10_undo_21 : decode cX10_undo 21 = .ok (.isub, 1) := by decide +kernel
theorem dX10_undo_22 : decode cX10_undo 22 = .ok (.putfield 144, 3) := by decide +kernel
theorem dX10_undo_25 : decode cX10_undo 25 = .ok (.iconst 0, 1) := by decide +kernel
theorem dX10_undo_26 : decode cX10_undo 26 = .ok (.istore_n 1, 1) := by decide +kernel
theorem dX10_undo_27 : decode cX10_undo 27 = .ok (.iload_n 1, 1) := by decide +kernel
theorem dX10_undo_28 : decode cX10_undo 28 = .ok (.sipush 439, 3) := by decide +kernel
theorem dX10_undo_31 : decode cX10_undo 31 = .ok (.if_icmp .ge 30, 3) := by decide +kernel
theorem dX10_undo_34 : decode cX10_undo 34 = .ok (.aload_n 0, 1) := by decide +kernel
theorem dX10_undo_35 : decode cX10_undo 35 = .ok (.getfield 7, 3) := by decide +kernel
theorem dX10_undo_38 : decode cX10_undo 38 = .ok (.iload_n 1, 1) := by decide +kernel
theorem dX10_undo_39 : decode cX10_undo 39 = .ok (.aload_n 0, 1) := by decide +kernel
theorem dX10_undo_40 : decode cX10_undo 40 = .ok (.getfield 16, 3) := by decide +kernel
theorem dX10_undo_43 : decode cX10_undo 43 = .ok (.sipush 439, 3) := by decide +kernel
theorem dX10_undo_46 : decode cX10_undo 46 = .ok (.aload_n 0, 1) := by decide +kernel
theorem dX10_undo_47 : decode cX10_undo 47 = .ok (.getfield 144, 3) := by decide +kernel
theorem dX10_undo_50 : decode cX10_undo 50 = .ok (.imul, 1) := by decide +kernel
theorem dX10_undo_51 : decode cX10_undo 51 = .ok (.iload_n 1, 1) := by decide +kernel
theorem dX10_undo_52 : decode cX10_undo 52 = .ok (.iadd, 1) := by decide +kernel
theorem dX10_undo_53 : decode cX10_undo 53 = .ok (.iaload, 1) := by decide +kernel
theorem dX10_undo_54 : decode cX10_undo 54 = .ok (.iastore, 1) := by decide +kernel
theorem dX10_undo_55 : decode cX10_undo 55 = .ok (.iinc 1 1, 3) := by decide +kernel
theorem dX10_undo_58 : decode cX10_undo 58 = .ok (.goto (-31), 3) := by decide +kernel
theorem dX10_undo_61 : decode cX10_undo 61 = .ok (.aload_n 0, 1) := by decide +kernel
theorem dX10_undo_62 : decode cX10_undo 62 = .ok (.getfield 144, 3) := by decide +kernel
theorem dX10_undo_65 : decode cX10_undo 65 = .ok (.ireturn, 1) := by decide +kernel
theorem dX10_undoDepth_0 : decode cX10_undoDepth 0 = .ok (.aload_n 0, 1) := by decide +kernel
theorem dX10_undoDepth_1 : decode cX10_undoDepth 1 = .ok (.iconst 0, 1) := by decide +kernel
theorem dX10_undoDepth_2 : decode cX10_undoDepth 2 = .ok (.putfield 47, 3) := by decide +kernel
theorem dX10_undoDepth_5 : decode cX10_undoDepth 5 = .ok (.aload_n 0, 1) := by decide +kernel
theorem dX10_undoDepth_6 : decode cX10_undoDepth 6 = .ok (.getfield 144, 3) := by decide +kernel
theorem dX10_undoDepth_9 : decode cX10_undoDepth 9 = .ok (.ireturn, 1) := by decide +kernel
theorem dX10_save_0 : decode cX10_save 0 = .ok (.aload_n 0, 1) := by decide +kernel
theorem dX10_save_1 : decode cX10_save 1 = .ok (.iconst 0, 1) := by decide +kernel
theorem dX10_save_2 : decode cX10_save 2 = .ok (.putfield 47, 3) := by decide +kernel
theorem dX10_save_5 : decode cX10_save 5 = .ok (.iload_n 1, 1) := by decide +kernel
theorem dX10_save_6 : decode cX10_save 6 = .ok (.iconst 0, 1) := by decide +kernel
theorem dX10_save_7 : decode cX10_save 7 = .ok (.iconst 1, 1) := by decide +kernel
theorem dX10_save_8 : decode cX10_save 8 = .ok (.invokestatic 60, 3) := by decide +kernel
theorem dX10_save_11 : decode cX10_save 11 = .ok (.ifCond .ne 5, 3) := by decide +kernel
theorem dX10_save_14 : decode cX10_save 14 = .ok (.iconst (-1), 1) := by decide +kernel
theorem dX10_save_15 : decode cX10_save 15 = .ok (.ireturn, 1) := by decide +kernel
theorem dX10_save_16 : decode cX10_save 16 = .ok (.iconst 0, 1) := by decide +kernel
theorem dX10_save_17 : decode cX10_save 17 = .ok (.istore_n 2, 1) := by decide +kernel
theorem dX10_save_18 : decode cX10_save 18 = .ok (.iload_n 2, 1) := by decide +kernel
theorem dX10_save_19 : decode cX10_save 19 = .ok (.sipush 439, 3) := by decide +kernel
theorem dX10_save_22 : decode cX10_save 22 = .ok (.if_icmp .ge 27, 3) := by decide +kernel
theorem dX10_save_25 : decode cX10_save 25 = .ok (.aload_n 0, 1) := by decide +kernel
theorem dX10_save_26 : decode cX10_save 26 = .ok (.getfield 19, 3) := by decide +kernel
theorem dX10_save_29 : decode cX10_save 29 = .ok (.sipush 439, 3) := by decide +kernel
theorem dX10_save_32 : decode cX10_save 32 = .ok (.iload_n 1, 1) := by decide +kernel
theorem dX10_save_33 : decode cX10_save 33 = .ok (.imul, 1) := by decide +kernel
theorem dX10_save_34 : decode cX10_save 34 = .ok (.iload_n 2, 1) := by decide +kernel
theorem dX10_save_35 : decode cX10_save 35 = .ok (.iadd, 1) := by decide +kernel
theorem dX10_save_36 : decode cX10_save 36 = .ok (.aload_n 0, 1) := by decide +kernel
theorem dX10_save_37 : decode cX10_save 37 = .ok (.getfield 7, 3) := by decide +kernel
theorem dX10_save_40 : decode cX10_save 40 = .ok (.iload_n 2, 1) := by decide +kernel
theorem dX10_save_41 : decode cX10_save 41 = .ok (.iaload, 1) := by decide +kernel
theorem dX10_save_42 : decode cX10_save 42 = .ok (.iastore, 1) := by decide +kernel
theorem dX10_save_43 : decode cX10_save 43 = .ok (.iinc 2 1, 3) := by decide +kernel
theorem dX10_save_46 : decode cX10_save 46 = .ok (.goto (-28), 3) := by decide +kernel
theorem dX10_save_49 : decode cX10_save 49 = .ok (.aload_n 0, 1) := by decide +kernel
theorem dX10_save_50 : decode cX10_save 50 = .ok (.getfield 22, 3) := by decide +kernel
theorem dX10_save_53 : decode cX10_save 53 = .ok (.iload_n 1, 1) := by decide +kernel
theorem dX10_save_54 : decode cX10_save 54 = .ok (.iconst 1, 1) := by decide +kernel
theorem dX10_save_55 : decode cX10_save 55 = .ok (.bastore, 1) := by decide +kernel
theorem dX10_save_56 : decode cX10_save 56 = .ok (.aload_n 0, 1) := by decide +kernel
theorem dX10_save_57 : decode cX10_save 57 = .ok (.getfield 7, 3) := by decide +kernel
theorem dX10_save_60 : decode cX10_save 60 = .ok (.bipush 8, 2) := by decide +kernel
theorem dX10_save_62 : decode cX10_save 62 = .ok (.iaload, 1) := by decide +kernel
theorem dX10_save_63 : decode cX10_save 63 = .ok (.aload_n 0, 1) := by decide +kernel
theorem dX10_save_64 : decode cX10_save 64 = .ok (.getfield 7, 3) := by decide +kernel
theorem dX10_save_67 : decode cX10_save 67 = .ok (.bipush 9, 2) := by decide +kernel
theorem dX10_save_69 : decode cX10_save 69 = .ok (.iaload, 1) := by decide +kernel
theorem dX10_save_70 : decode cX10_save 70 = .ok (.iadd, 1) := by decide +kernel
theorem dX10_save_71 : decode cX10_save 71 = .ok (.ireturn, 1) := by decide +kernel
theorem dX10_restore_0 : decode cX10_restore 0 = .ok (.aload_n 0, 1) := by decide +kernel
theorem dX10_restore_1 : decode cX10_restore 1 = .ok (.iconst 0, 1) := by decide +kernel
theorem dX10_restore_2 : decode cX10_restore 2 = .ok (.putfield 47, 3) := by decide +kernel
theorem dX10_restore_5 : decode cX10_restore 5 = .ok (.iload_n 1, 1) := by decide +kernel
theorem dX10_restore_6 : decode cX10_restore 6 = .ok (.iconst 0, 1) := by decide +kernel
theorem dX10_restore_7 : decode cX10_restore 7 = .ok (.iconst 1, 1) := by decide +kernel
theorem dX10_restore_8 : decode cX10_restore 8 = .ok (.invokestatic 60, 3) := by decide +kernel
theorem dX10_restore_11 : decode cX10_restore 11 = .ok (.ifCond .ne 5, 3) := by decide +kernel
theorem dX10_restore_14 : decode cX10_restore 14 = .ok (.iconst (-1), 1) := by decide +kernel
theorem dX10_restore_15 : decode cX10_restore 15 = .ok (.ireturn, 1) := by decide +kernel
theorem dX10_restore_16 : decode cX10_restore 16 = .ok (.aload_n 0, 1) := by decide +kernel
theorem dX10_restore_17 : decode cX10_restore 17 = .ok (.getfield 22, 3) := by decide +kernel
theorem dX10_restore_20 : decode cX10_restore 20 = .ok (.iload_n 1, 1) := by decide +kernel
theorem dX10_restore_21 : decode cX10_restore 21 = .ok (.baload, 1) := by decide +kernel
theorem dX10_restore_22 : decode cX10_restore 22 = .ok (.ifCond .ne 6, 3) := by decide +kernel
theorem dX10_restore_25 : decode cX10_restore 25 = .ok (.bipush (-2), 2) := by decide +kernel
theorem dX10_restore_27 : decode cX10_restore 27 = .ok (.ireturn, 1) := by decide +kernel
theorem dX10_restore_28 : decode cX10_restore 28 = .ok (.iconst 0, 1) := by decide +kernel
theorem dX10_restore_29 : decode cX10_restore 29 = .ok (.istore_n 2, 1) := by decide +kernel
theorem dX10_restore_30 : decode cX10_restore 30 = .ok (.iload_n 2, 1) := by decide +kernel
theorem dX10_restore_31 : decode cX10_restore 31 = .ok (.sipush 439, 3) := by decide +kernel
theorem dX10_restore_34 : decode cX10_restore 34 = .ok (.if_icmp .ge 27, 3) := by decide +kernel
theorem dX10_restore_37 : decode cX10_restore 37 = .ok (.aload_n 0, 1) := by decide +kernel
theorem dX10_restore_38 : decode cX10_restore 38 = .ok (.getfield 7, 3) := by decide +kernel
theorem dX10_restore_41 : decode cX10_restore 41 = .ok (.iload_n 2, 1) := by decide +kernel
theorem dX10_restore_42 : decode cX10_restore 42 = .ok (.aload_n 0, 1) := by decide +kernel
theorem dX10_restore_43 : decode cX10_restore 43 = .ok (.getfield 19, 3) := by decide +kernel
theorem dX10_restore_46 : decode cX10_restore 46 = .ok (.sipush 439, 3) := by decide +kernel
theorem dX10_restore_49 : decode cX10_restore 49 = .ok (.iload_n 1, 1) := by decide +kernel
theorem dX10_restore_50 : decode cX10_restore 50 = .ok (.imul, 1) := by decide +kernel
theorem dX10_restore_51 : decode cX10_restore 51 = .ok (.iload_n 2, 1) := by decide +kernel
theorem dX10_restore_52 : decode cX10_restore 52 = .ok (.iadd, 1) := by decide +kernel
theorem dX10_restore_53 : decode cX10_restore 53 = .ok (.iaload, 1) := by decide +kernel
theorem dX10_restore_54 : decode cX10_restore 54 = .ok (.iastore, 1) := by decide +kernel
theorem dX10_restore_55 : decode cX10_restore 55 = .ok (.iinc 2 1, 3) := by decide +kernel
theorem dX10_restore_58 : decode cX10_restore 58 = .ok (.goto (-28), 3) := by decide +kernel
theorem dX10_restore_61 : decode cX10_restore 61 = .ok (.aload_n 0, 1) := by decide +kernel
theorem dX10_restore_62 : decode cX10_restore 62 = .ok (.iconst 0, 1) := by decide +kernel
theorem dX10_restore_63 : decode cX10_restore 63 = .ok (.putfield 144, 3) := by decide +kernel
theorem dX10_restore_66 : decode cX10_restore 66 = .ok (.aload_n 0, 1) := by decide +kernel
theorem dX10_restore_67 : decode cX10_restore 67 = .ok (.getfield 7, 3) := by decide +kernel
theorem dX10_restore_70 : decode cX10_restore 70 = .ok (.bipush 8, 2) := by decide +kernel
theorem dX10_restore_72 : decode cX10_restore 72 = .ok (.iaload, 1) := by decide +kernel
theorem dX10_restore_73 : decode cX10_restore 73 = .ok (.aload_n 0, 1) := by decide +kernel
theorem dX10_restore_74 : decode cX10_restore 74 = .ok (.getfield 7, 3) := by decide +kernel
theorem dX10_restore_77 : decode cX10_restore 77 = .ok (.bipush 9, 2) := by decide +kernel
theorem dX10_restore_79 : decode cX10_restore 79 = .ok (.iaload, 1) := by decide +kernel
theorem dX10_restore_80 : decode cX10_restore 80 = .ok (.iadd, 1) := by decide +kernel
theorem dX10_restore_81 : decode cX10_restore 81 = .ok (.ireturn, 1) := by decide +kernel
theorem dJ6_bitCount_0f7a4_0 : decode cJ6_bitCount_0f7a4 0 = .ok (.iload_n 0, 1) := by decide +kernel
theorem dJ6_bitCount_0f7a4_1 : decode cJ6_bitCount_0f7a4 1 = .ok (.iload_n 0, 1) := by decide +kernel
theorem dJ6_bitCount_0f7a4_2 : decode cJ6_bitCount_0f7a4 2 = .ok (.iconst 1, 1) := by decide +kernel
theorem dJ6_bitCount_0f7a4_3 : decode cJ6_bitCount_0f7a4 3 = .ok (.iushr, 1) := by decide +kernel
theorem dJ6_bitCount_0f7a4_4 : decode cJ6_bitCount_0f7a4 4 = .ok (.ldc_w 265, 3) := by decide +kernel
theorem dJ6_bitCount_0f7a4_7 : decode cJ6_bitCount_0f7a4 7 = .ok (.iand, 1) := by decide +kernel
theorem dJ6_bitCount_0f7a4_8 : decode cJ6_bitCount_0f7a4 8 = .ok (.isub, 1) := by decide +kernel
theorem dJ6_bitCount_0f7a4_9 : decode cJ6_bitCount_0f7a4 9 = .ok (.istore_n 0, 1) := by decide +kernel
theorem dJ6_bitCount_0f7a4_10 : decode cJ6_bitCount_0f7a4 10 = .ok (.iload_n 0, 1) := by decide +kernel
theorem dJ6_bitCount_0f7a4_11 : decode cJ6_bitCount_0f7a4 11 = .ok (.ldc_w 266, 3) := by decide +kernel
theorem dJ6_bitCount_0f7a4_14 : decode cJ6_bitCount_0f7a4 14 = .ok (.iand, 1) := by decide +kernel
theorem dJ6_bitCount_0f7a4_15 : decode cJ6_bitCount_0f7a4 15 = .ok (.iload_n 0, 1) := by decide +kernel
theorem dJ6_bitCount_0f7a4_16 : decode cJ6_bitCount_0f7a4 16 = .ok (.iconst 2, 1) := by decide +kernel
theorem dJ6_bitCount_0f7a4_17 : decode cJ6_bitCount_0f7a4 17 = .ok (.iushr, 1) := by decide +kernel
theorem dJ6_bitCount_0f7a4_18 : decode cJ6_bitCount_0f7a4 18 = .ok (.ldc_w 266, 3) := by decide +kernel
theorem dJ6_bitCount_0f7a4_21 : decode cJ6_bitCount_0f7a4 21 = .ok (.iand, 1) := by decide +kernel
theorem dJ6_bitCount_0f7a4_22 : decode cJ6_bitCount_0f7a4 22 = .ok (.iadd, 1) := by decide +kernel
theorem dJ6_bitCount_0f7a4_23 : decode cJ6_bitCount_0f7a4 23 = .ok (.istore_n 0, 1) := by decide +kernel
theorem dJ6_bitCount_0f7a4_24 : decode cJ6_bitCount_0f7a4 24 = .ok (.iload_n 0, 1) := by decide +kernel
theorem dJ6_bitCount_0f7a4_25 : decode cJ6_bitCount_0f7a4 25 = .ok (.iload_n 0, 1) := by decide +kernel
theorem dJ6_bitCount_0f7a4_26 : decode cJ6_bitCount_0f7a4 26 = .ok (.iconst 4, 1) := by decide +kernel
theorem dJ6_bitCount_0f7a4_27 : decode cJ6_bitCount_0f7a4 27 = .ok (.iushr, 1) := by decide +kernel
theorem dJ6_bitCount_0f7a4_28 : decode cJ6_bitCount_0f7a4 28 = .ok (.iadd, 1) := by decide +kernel
theorem dJ6_bitCount_0f7a4_29 : decode cJ6_bitCount_0f7a4 29 = .ok (.ldc_w 267, 3) := by decide +kernel
theorem dJ6_bitCount_0f7a4_32 : decode cJ6_bitCount_0f7a4 32 = .ok (.iand, 1) := by decide +kernel
theorem dJ6_bitCount_0f7a4_33 : decode cJ6_bitCount_0f7a4 33 = .ok (.istore_n 0, 1) := by decide +kernel
theorem dJ6_bitCount_0f7a4_34 : decode cJ6_bitCount_0f7a4 34 = .ok (.iload_n 0, 1) := by decide +kernel
theorem dJ6_bitCount_0f7a4_35 : decode cJ6_bitCount_0f7a4 35 = .ok (.iload_n 0, 1) := by decide +kernel
theorem dJ6_bitCount_0f7a4_36 : decode cJ6_bitCount_0f7a4 36 = .ok (.bipush 8, 2) := by decide +kernel
theorem dJ6_bitCount_0f7a4_38 : decode cJ6_bitCount_0f7a4 38 = .ok (.iushr, 1) := by decide +kernel
theorem dJ6_bitCount_0f7a4_39 : decode cJ6_bitCount_0f7a4 39 = .ok (.iadd, 1) := by decide +kernel
theorem dJ6_bitCount_0f7a4_40 : decode cJ6_bitCount_0f7a4 40 = .ok (.istore_n 0, 1) := by decide +kernel
theorem dJ6_bitCount_0f7a4_41 : decode cJ6_bitCount_0f7a4 41 = .ok (.iload_n 0, 1) := by decide +kernel
theorem dJ6_bitCount_0f7a4_42 : decode cJ6_bitCount_0f7a4 42 = .ok (.iload_n 0, 1) := by decide +kernel
theorem dJ6_bitCount_0f7a4_43 : decode cJ6_bitCount_0f7a4 43 = .ok (.bipush 16, 2) := by decide +kernel
theorem dJ6_bitCount_0f7a4_45 : decode cJ6_bitCount_0f7a4 45 = .ok (.iushr, 1) := by decide +kernel
theorem dJ6_bitCount_0f7a4_46 : decode cJ6_bitCount_0f7a4 46 = .ok (.iadd, 1) := by decide +kernel
theorem dJ6_bitCount_0f7a4_47 : decode cJ6_bitCount_0f7a4 47 = .ok (.istore_n 0, 1) := by decide +kernel
theorem dJ6_bitCount_0f7a4_48 : decode cJ6_bitCount_0f7a4 48 = .ok (.iload_n 0, 1) := by decide +kernel
theorem dJ6_bitCount_0f7a4_49 : decode cJ6_bitCount_0f7a4 49 = .ok (.bipush 63, 2) := by decide +kernel
theorem dJ6_bitCount_0f7a4_51 : decode cJ6_bitCount_0f7a4 51 = .ok (.iand, 1) := by decide +kernel
theorem dJ6_bitCount_0f7a4_52 : decode cJ6_bitCount_0f7a4 52 = .ok (.ireturn, 1) := by decide +kernel
theorem dJ9_max_7cf53_0 : decode cJ9_max_7cf53 0 = .ok (.iload_n 0, 1) := by decide +kernel
theorem dJ9_max_7cf53_1 : decode cJ9_max_7cf53 1 = .ok (.iload_n 1, 1) := by decide +kernel
theorem dJ9_max_7cf53_2 : decode cJ9_max_7cf53 2 = .ok (.if_icmp .lt 7, 3) := by decide +kernel
theorem dJ9_max_7cf53_5 : decode cJ9_max_7cf53 5 = .ok (.iload_n 0, 1) := by decide +kernel
theorem dJ9_max_7cf53_6 : decode cJ9_max_7cf53 6 = .ok (.goto 4, 3) := by decide +kernel
theorem dJ9_max_7cf53_9 : decode cJ9_max_7cf53 9 = .ok (.iload_n 1, 1) := by decide +kernel
theorem dJ9_max_7cf53_10 : decode cJ9_max_7cf53 10 = .ok (.ireturn, 1) := by decide +kernel
theorem dJ9_min_7cf53_0 : decode cJ9_min_7cf53 0 = .ok (.iload_n 0, 1) := by decide +kernel
theorem dJ9_min_7cf53_1 : decode cJ9_min_7cf53 1 = .ok (.iload_n 1, 1) := by decide +kernel
theorem dJ9_min_7cf53_2 : decode cJ9_min_7cf53 2 = .ok (.if_icmp .gt 7, 3) := by decide +kernel
theorem dJ9_min_7cf53_5 : decode cJ9_min_7cf53 5 = .ok (.iload_n 0, 1) := by decide +kernel
theorem dJ9_min_7cf53_6 : decode cJ9_min_7cf53 6 = .ok (.goto 4, 3) := by decide +kernel
theorem dJ9_min_7cf53_9 : decode cJ9_min_7cf53 9 = .ok (.iload_n 1, 1) := by decide +kernel
theorem dJ9_min_7cf53_10 : decode cJ9_min_7cf53 10 = .ok (.ireturn, 1) := by decide +kernel
theorem dJ0_length_8abf5_0 : decode cJ0_length_8abf5 0 = .ok (.aload_n 0, 1) := by decide +kernel
theorem dJ0_length_8abf5_1 : decode cJ0_length_8abf5 1 = .ok (.getfield 9, 3) := by decide +kernel
theorem dJ0_length_8abf5_4 : decode cJ0_length_8abf5 4 = .ok (.arraylength, 1) := by decide +kernel
theorem dJ0_length_8abf5_5 : decode cJ0_length_8abf5 5 = .ok (.aload_n 0, 1) := by decide +kernel
theorem dJ0_length_8abf5_6 : decode cJ0_length_8abf5 6 = .ok (.invokevirtual 335, 3) := by decide +kernel
theorem dJ0_length_8abf5_9 : decode cJ0_length_8abf5 9 = .ok (.ishr, 1) := by decide +kernel
theorem dJ0_length_8abf5_10 : decode cJ0_length_8abf5 10 = .ok (.ireturn, 1) := by decide +kernel
theorem dJ0_charAt_5068e_0 : decode cJ0_charAt_5068e 0 = .ok (.aload_n 0, 1) := by decide +kernel
theorem dJ0_charAt_5068e_1 : decode cJ0_charAt_5068e 1 = .ok (.invokevirtual 492, 3) := by decide +kernel
theorem dJ0_charAt_5068e_4 : decode cJ0_charAt_5068e 4 = .ok (.ifCond .eq 12, 3) := by decide +kernel
theorem dJ0_charAt_5068e_7 : decode cJ0_charAt_5068e 7 = .ok (.aload_n 0, 1) := by decide +kernel
theorem dJ0_charAt_5068e_8 : decode cJ0_charAt_5068e 8 = .ok (.getfield 9, 3) := by decide +kernel
theorem dJ0_charAt_5068e_11 : decode cJ0_charAt_5068e 11 = .ok (.iload_n 1, 1) := by decide +kernel
theorem dJ0_charAt_5068e_12 : decode cJ0_charAt_5068e 12 = .ok (.invokestatic 495, 3) := by decide +kernel
theorem dJ0_charAt_5068e_15 : decode cJ0_charAt_5068e 15 = .ok (.ireturn, 1) := by decide +kernel
theorem dJ0_charAt_5068e_16 : decode cJ0_charAt_5068e 16 = .ok (.aload_n 0, 1) := by decide +kernel
theorem dJ0_charAt_5068e_17 : decode cJ0_charAt_5068e 17 = .ok (.getfield 9, 3) := by decide +kernel
theorem dJ0_charAt_5068e_20 : decode cJ0_charAt_5068e 20 = .ok (.iload_n 1, 1) := by decide +kernel
theorem dJ0_charAt_5068e_21 : decode cJ0_charAt_5068e 21 = .ok (.invokestatic 498, 3) := by decide +kernel
theorem dJ0_charAt_5068e_24 : decode cJ0_charAt_5068e 24 = .ok (.ireturn, 1) := by decide +kernel
theorem dJ0_coder_7d493_0 : decode cJ0_coder_7d493 0 = .ok (.getstatic 38, 3) := by decide +kernel
theorem dJ0_coder_7d493_3 : decode cJ0_coder_7d493 3 = .ok (.ifCond .eq 10, 3) := by decide +kernel
theorem dJ0_coder_7d493_6 : decode cJ0_coder_7d493 6 = .ok (.aload_n 0, 1) := by decide +kernel
theorem dJ0_coder_7d493_7 : decode cJ0_coder_7d493 7 = .ok (.getfield 15, 3) := by decide +kernel
theorem dJ0_coder_7d493_10 : decode cJ0_coder_7d493 10 = .ok (.goto 4, 3) := by decide +kernel
theorem dJ0_coder_7d493_13 : decode cJ0_coder_7d493 13 = .ok (.iconst 1, 1) := by decide +kernel
theorem dJ0_coder_7d493_14 : decode cJ0_coder_7d493 14 = .ok (.ireturn, 1) := by decide +kernel
theorem dJ0_isLatin1_aae02_0 : decode cJ0_isLatin1_aae02 0 = .ok (.getstatic 38, 3) := by decide +kernel
theorem dJ0_isLatin1_aae02_3 : decode cJ0_isLatin1_aae02 3 = .ok (.ifCond .eq 14, 3) := by decide +kernel
theorem dJ0_isLatin1_aae02_6 : decode cJ0_isLatin1_aae02 6 = .ok (.aload_n 0, 1) := by decide +kernel
theorem dJ0_isLatin1_aae02_7 : decode cJ0_isLatin1_aae02 7 = .ok (.getfield 15, 3) := by decide +kernel
theorem dJ0_isLatin1_aae02_10 : decode cJ0_isLatin1_aae02 10 = .ok (.ifCond .ne 7, 3) := by decide +kernel
theorem dJ0_isLatin1_aae02_13 : decode cJ0_isLatin1_aae02 13 = .ok (.iconst 1, 1) := by decide +kernel
theorem dJ0_isLatin1_aae02_14 : decode cJ0_isLatin1_aae02 14 = .ok (.goto 4, 3) := by decide +kernel
theorem dJ0_isLatin1_aae02_17 : decode cJ0_isLatin1_aae02 17 = .ok (.iconst 0, 1) := by decide +kernel
theorem dJ0_isLatin1_aae02_18 : decode cJ0_isLatin1_aae02 18 = .ok (.ireturn, 1) := by decide +kernel
theorem dJ0_checkIndex_df160_0 : decode cJ0_checkIndex_df160 0 = .ok (.iload_n 0, 1) := by decide +kernel
theorem dJ0_checkIndex_df160_1 : decode cJ0_checkIndex_df160 1 = .ok (.iload_n 1, 1) := by decide +kernel
theorem dJ0_checkIndex_df160_2 : decode cJ0_checkIndex_df160 2 = .ok (.getstatic 1053, 3) := by decide +kernel
theorem dJ0_checkIndex_df160_5 : decode cJ0_checkIndex_df160 5 = .ok (.invokestatic 1059, 3) := by decide +kernel
theorem dJ0_checkIndex_df160_8 : decode cJ0_checkIndex_df160 8 = .ok (.pop, 1) := by decide +kernel
theorem dJ0_checkIndex_df160_9 : decode cJ0_checkIndex_df160 9 = .ok (.return_, 1) := by decide +kernel
theorem dJ1_charAt_3b067_0 : decode cJ1_charAt_3b067 0 = .ok (.iload_n 1, 1) := by decide +kernel
theorem dJ1_charAt_3b067_1 : decode cJ1_charAt_3b067 1 = .ok (.aload_n 0, 1) := by decide +kernel
theorem dJ1_charAt_3b067_2 : decode cJ1_charAt_3b067 2 = .ok (.arraylength, 1) := by decide +kernel
theorem dJ1_charAt_3b067_3 : decode cJ1_charAt_3b067 3 = .ok (.invokestatic 9, 3) := by decide +kernel
theorem dJ1_charAt_3b067_6 : decode cJ1_charAt_3b067 6 = .ok (.aload_n 0, 1) := by decide +kernel
theorem dJ1_charAt_3b067_7 : decode cJ1_charAt_3b067 7 = .ok (.iload_n 1, 1) := by decide +kernel
theorem dJ1_charAt_3b067_8 : decode cJ1_charAt_3b067 8 = .ok (.baload, 1) := by decide +kernel
theorem dJ1_charAt_3b067_9 : decode cJ1_charAt_3b067 9 = .ok (.sipush 255, 3) := by decide +kernel
theorem dJ1_charAt_3b067_12 : decode cJ1_charAt_3b067 12 = .ok (.iand, 1) := by decide +kernel
theorem dJ1_charAt_3b067_13 : decode cJ1_charAt_3b067 13 = .ok (.i2c, 1) := by decide +kernel
theorem dJ1_charAt_3b067_14 : decode cJ1_charAt_3b067 14 = .ok (.ireturn, 1) := by decide +kernel
theorem dJ2_getChar_3b067_0 : decode cJ2_getChar_3b067 0 = .ok (.getstatic 44, 3) := by decide +kernel
theorem dJ2_getChar_3b067_3 : decode cJ2_getChar_3b067 3 = .ok (.ifCond .ne 25, 3) := by decide +kernel
theorem dJ2_getChar_3b067_6 : decode cJ2_getChar_3b067 6 = .ok (.iload_n 1, 1) := by decide +kernel
theorem dJ2_getChar_3b067_7 : decode cJ2_getChar_3b067 7 = .ok (.ifCond .lt 11, 3) := by decide +kernel
theorem dJ2_getChar_3b067_10 : decode cJ2_getChar_3b067 10 = .ok (.iload_n 1, 1) := by decide +kernel
theorem dJ2_getChar_3b067_11 : decode cJ2_getChar_3b067 11 = .ok (.aload_n 0, 1) := by decide +kernel
theorem dJ2_getChar_3b067_12 : decode cJ2_getChar_3b067 12 = .ok (.invokestatic 48, 3) := by decide +kernel
theorem dJ2_getChar_3b067_15 : decode cJ2_getChar_3b067 15 = .ok (.if_icmp .lt 13, 3) := by decide +kernel
theorem dJ2_getChar_3b067_18 : decode cJ2_getChar_3b067 18 = .ok (.new 52, 3) := by decide +kernel
theorem dJ2_getChar_3b067_21 : decode cJ2_getChar_3b067 21 = .ok (.dup, 1) := by decide +kernel
theorem dJ2_getChar_3b067_22 : decode cJ2_getChar_3b067 22 = .ok (.ldc 54, 2) := by decide +kernel
theorem dJ2_getChar_3b067_24 : decode cJ2_getChar_3b067 24 = .ok (.invokespecial 56, 3) := by decide +kernel
theorem dJ2_getChar_3b067_27 : decode cJ2_getChar_3b067 27 = .ok (.athrow, 1) := by decide +kernel
theorem dJ2_getChar_3b067_28 : decode cJ2_getChar_3b067 28 = .ok (.iload_n 1, 1) := by decide +kernel
theorem dJ2_getChar_3b067_29 : decode cJ2_getChar_3b067 29 = .ok (.iconst 1, 1) := by decide +kernel
theorem dJ2_getChar_3b067_30 : decode cJ2_getChar_3b067 30 = .ok (.ishl, 1) := by decide +kernel
theorem dJ2_getChar_3b067_31 : decode cJ2_getChar_3b067 31 = .ok (.istore_n 1, 1) := by decide +kernel
theorem dJ2_getChar_3b067_32 : decode cJ2_getChar_3b067 32 = .ok (.aload_n 0, 1) := by decide +kernel
theorem dJ2_getChar_3b067_33 : decode cJ2_getChar_3b067 33 = .ok (.iload_n 1, 1) := by decide +kernel
theorem dJ2_getChar_3b067_34 : decode cJ2_getChar_3b067 34 = .ok (.iinc 1 1, 3) := by decide +kernel
theorem dJ2_getChar_3b067_37 : decode cJ2_getChar_3b067 37 = .ok (.baload, 1) := by decide +kernel
theorem dJ2_getChar_3b067_38 : decode cJ2_getChar_3b067 38 = .ok (.sipush 255, 3) := by decide +kernel
theorem dJ2_getChar_3b067_41 : decode cJ2_getChar_3b067 41 = .ok (.iand, 1) := by decide +kernel
theorem dJ2_getChar_3b067_42 : decode cJ2_getChar_3b067 42 = .ok (.getstatic 59, 3) := by decide +kernel
theorem dJ2_getChar_3b067_45 : decode cJ2_getChar_3b067 45 = .ok (.ishl, 1) := by decide +kernel
theorem dJ2_getChar_3b067_46 : decode cJ2_getChar_3b067 46 = .ok (.aload_n 0, 1) := by decide +kernel
theorem dJ2_getChar_3b067_47 : decode cJ2_getChar_3b067 47 = .ok (.iload_n 1, 1) := by decide +kernel
theorem dJ2_getChar_3b067_48 : decode cJ2_getChar_3b067 48 = .ok (.baload, 1) := by decide +kernel
theorem dJ2_getChar_3b067_49 : decode cJ2_getChar_3b067 49 = .ok (.sipush 255, 3) := by decide +kernel
theorem dJ2_getChar_3b067_52 : decode cJ2_getChar_3b067 52 = .ok (.iand, 1) := by decide +kernel
theorem dJ2_getChar_3b067_53 : decode cJ2_getChar_3b067 53 = .ok (.getstatic 63, 3) := by decide +kernel
theorem dJ2_getChar_3b067_56 : decode cJ2_getChar_3b067 56 = .ok (.ishl, 1) := by decide +kernel
theorem dJ2_getChar_3b067_57 : decode cJ2_getChar_3b067 57 = .ok (.ior, 1) := by decide +kernel
theorem dJ2_getChar_3b067_58 : decode cJ2_getChar_3b067 58 = .ok (.i2c, 1) := by decide +kernel
theorem dJ2_getChar_3b067_59 : decode cJ2_getChar_3b067 59 = .ok (.ireturn, 1) := by decide +kernel
theorem dJ2_length_9d52b_0 : decode cJ2_length_9d52b 0 = .ok (.aload_n 0, 1) := by decide +kernel
theorem dJ2_length_9d52b_1 : decode cJ2_length_9d52b 1 = .ok (.arraylength, 1) := by decide +kernel
theorem dJ2_length_9d52b_2 : decode cJ2_length_9d52b 2 = .ok (.iconst 1, 1) := by decide +kernel
theorem dJ2_length_9d52b_3 : decode cJ2_length_9d52b 3 = .ok (.ishr, 1) := by decide +kernel
theorem dJ2_length_9d52b_4 : decode cJ2_length_9d52b 4 = .ok (.ireturn, 1) := by decide +kernel
theorem dJ2_charAt_3b067_0 : decode cJ2_charAt_3b067 0 = .ok (.iload_n 1, 1) := by decide +kernel
theorem dJ2_charAt_3b067_1 : decode cJ2_charAt_3b067 1 = .ok (.aload_n 0, 1) := by decide +kernel
theorem dJ2_charAt_3b067_2 : decode cJ2_charAt_3b067 2 = .ok (.invokestatic 67, 3) := by decide +kernel
theorem dJ2_charAt_3b067_5 : decode cJ2_charAt_3b067 5 = .ok (.aload_n 0, 1) := by decide +kernel
theorem dJ2_charAt_3b067_6 : decode cJ2_charAt_3b067 6 = .ok (.iload_n 1, 1) := by decide +kernel
theorem dJ2_charAt_3b067_7 : decode cJ2_charAt_3b067 7 = .ok (.invokestatic 71, 3) := by decide +kernel
theorem dJ2_charAt_3b067_10 : decode cJ2_charAt_3b067 10 = .ok (.ireturn, 1) := by decide +kernel
theorem dJ2_checkIndex_2214a_0 : decode cJ2_checkIndex_2214a 0 = .ok (.iload_n 0, 1) := by decide +kernel
theorem dJ2_checkIndex_2214a_1 : decode cJ2_checkIndex_2214a 1 = .ok (.aload_n 1, 1) := by decide +kernel
theorem dJ2_checkIndex_2214a_2 : decode cJ2_checkIndex_2214a 2 = .ok (.invokestatic 48, 3) := by decide +kernel
theorem dJ2_checkIndex_2214a_5 : decode cJ2_checkIndex_2214a 5 = .ok (.invokestatic 414, 3) := by decide +kernel
theorem dJ2_checkIndex_2214a_8 : decode cJ2_checkIndex_2214a 8 = .ok (.return_, 1) := by decide +kernel
theorem dJ7_fill_d0a16_0 : decode cJ7_fill_d0a16 0 = .ok (.iconst 0, 1) := by decide +kernel
theorem dJ7_fill_d0a16_1 : decode cJ7_fill_d0a16 1 = .ok (.istore_n 3, 1) := by decide +kernel
theorem dJ7_fill_d0a16_2 : decode cJ7_fill_d0a16 2 = .ok (.aload_n 0, 1) := by decide +kernel
theorem dJ7_fill_d0a16_3 : decode cJ7_fill_d0a16 3 = .ok (.arraylength, 1) := by decide +kernel
theorem dJ7_fill_d0a16_4 : decode cJ7_fill_d0a16 4 = .ok (.istore 4, 2) := by decide +kernel
theorem dJ7_fill_d0a16_6 : decode cJ7_fill_d0a16 6 = .ok (.iload_n 3, 1) := by decide +kernel
theorem dJ7_fill_d0a16_7 : decode cJ7_fill_d0a16 7 = .ok (.iload 4, 2) := by decide +kernel
theorem dJ7_fill_d0a16_9 : decode cJ7_fill_d0a16 9 = .ok (.if_icmp .ge 13, 3) := by decide +kernel
theorem dJ7_fill_d0a16_12 : decode cJ7_fill_d0a16 12 = .ok (.aload_n 0, 1) := by decide +kernel
theorem dJ7_fill_d0a16_13 : decode cJ7_fill_d0a16 13 = .ok (.iload_n 3, 1) := by decide +kernel
theorem dJ7_fill_d0a16_14 : decode cJ7_fill_d0a16 14 = .ok (.lload_n 1, 1) := by decide +kernel
theorem dJ7_fill_d0a16_15 : decode cJ7_fill_d0a16 15 = .ok (.lastore, 1) := by decide +kernel
theorem dJ7_fill_d0a16_16 : decode cJ7_fill_d0a16 16 = .ok (.iinc 3 1, 3) := by decide +kernel
theorem dJ7_fill_d0a16_19 : decode cJ7_fill_d0a16 19 = .ok (.goto (-13), 3) := by decide +kernel
theorem dJ7_fill_d0a16_22 : decode cJ7_fill_d0a16 22 = .ok (.return_, 1) := by decide +kernel
theorem dJ7_fill_53178_0 : decode cJ7_fill_53178 0 = .ok (.iconst 0, 1) := by decide +kernel
theorem dJ7_fill_53178_1 : decode cJ7_fill_53178 1 = .ok (.istore_n 2, 1) := by decide +kernel
theorem dJ7_fill_53178_2 : decode cJ7_fill_53178 2 = .ok (.aload_n 0, 1) := by decide +kernel
theorem dJ7_fill_53178_3 : decode cJ7_fill_53178 3 = .ok (.arraylength, 1) := by decide +kernel
theorem dJ7_fill_53178_4 : decode cJ7_fill_53178 4 = .ok (.istore_n 3, 1) := by decide +kernel
theorem dJ7_fill_53178_5 : decode cJ7_fill_53178 5 = .ok (.iload_n 2, 1) := by decide +kernel
theorem dJ7_fill_53178_6 : decode cJ7_fill_53178 6 = .ok (.iload_n 3, 1) := by decide +kernel
theorem dJ7_fill_53178_7 : decode cJ7_fill_53178 7 = .ok (.if_icmp .ge 13, 3) := by decide +kernel
theorem dJ7_fill_53178_10 : decode cJ7_fill_53178 10 = .ok (.aload_n 0, 1) := by decide +kernel
theorem dJ7_fill_53178_11 : decode cJ7_fill_53178 11 = .ok (.iload_n 2, 1) := by decide +kernel
theorem dJ7_fill_53178_12 : decode cJ7_fill_53178 12 = .ok (.iload_n 1, 1) := by decide +kernel
theorem dJ7_fill_53178_13 : decode cJ7_fill_53178 13 = .ok (.iastore, 1) := by decide +kernel
theorem dJ7_fill_53178_14 : decode cJ7_fill_53178 14 = .ok (.iinc 2 1, 3) := by decide +kernel
theorem dJ7_fill_53178_17 : decode cJ7_fill_53178 17 = .ok (.goto (-12), 3) := by decide +kernel
theorem dJ7_fill_53178_20 : decode cJ7_fill_53178 20 = .ok (.return_, 1) := by decide +kernel
theorem dJ3_checkIndex_8e157_0 : decode cJ3_checkIndex_8e157 0 = .ok (.iload_n 0, 1) := by decide +kernel
theorem dJ3_checkIndex_8e157_1 : decode cJ3_checkIndex_8e157 1 = .ok (.ifCond .lt 8, 3) := by decide +kernel
theorem dJ3_checkIndex_8e157_4 : decode cJ3_checkIndex_8e157 4 = .ok (.iload_n 0, 1) := by decide +kernel
theorem dJ3_checkIndex_8e157_5 : decode cJ3_checkIndex_8e157 5 = .ok (.iload_n 1, 1) := by decide +kernel
theorem dJ3_checkIndex_8e157_6 : decode cJ3_checkIndex_8e157 6 = .ok (.if_icmp .lt 10, 3) := by decide +kernel
theorem dJ3_checkIndex_8e157_9 : decode cJ3_checkIndex_8e157 9 = .ok (.aload_n 2, 1) := by decide +kernel
theorem dJ3_checkIndex_8e157_10 : decode cJ3_checkIndex_8e157 10 = .ok (.iload_n 0, 1) := by decide +kernel
theorem dJ3_checkIndex_8e157_11 : decode cJ3_checkIndex_8e157 11 = .ok (.iload_n 1, 1) := by decide +kernel
theorem dJ3_checkIndex_8e157_12 : decode cJ3_checkIndex_8e157 12 = .ok (.invokestatic 95, 3) := by decide +kernel
theorem dJ3_checkIndex_8e157_15 : decode cJ3_checkIndex_8e157 15 = .ok (.athrow, 1) := by decide +kernel
theorem dJ3_checkIndex_8e157_16 : decode cJ3_checkIndex_8e157 16 = .ok (.iload_n 0, 1) := by decide +kernel
theorem dJ3_checkIndex_8e157_17 : decode cJ3_checkIndex_8e157 17 = .ok (.ireturn, 1) := by decide +kernel
theorem dL_law_0 : decode cL_law 0 = .ok (.new 7, 3) := by decide +kernel
theorem dL_law_3 : decode cL_law 3 = .ok (.dup, 1) := by decide +kernel
theorem dL_law_4 : decode cL_law 4 = .ok (.invokespecial 9, 3) := by decide +kernel
theorem dL_law_7 : decode cL_law 7 = .ok (.astore_n 1, 1) := by decide +kernel
theorem dL_law_8 : decode cL_law 8 = .ok (.new 10, 3) := by decide +kernel
theorem dL_law_11 : decode cL_law 11 = .ok (.dup, 1) := by decide +kernel
theorem dL_law_12 : decode cL_law 12 = .ok (.invokespecial 12, 3) := by decide +kernel
theorem dL_law_15 : decode cL_law 15 = .ok (.astore_n 2, 1) := by decide +kernel
theorem dL_law_16 : decode cL_law 16 = .ok (.iconst 0, 1) := by decide +kernel
theorem dL_law_17 : decode cL_law 17 = .ok (.istore_n 3, 1) := by decide +kernel
theorem dL_law_18 : decode cL_law 18 = .ok (.iload_n 3, 1) := by decide +kernel
theorem dL_law_19 : decode cL_law 19 = .ok (.aload_n 0, 1) := by decide +kernel
theorem dL_law_20 : decode cL_law 20 = .ok (.arraylength, 1) := by decide +kernel
theorem dL_law_21 : decode cL_law 21 = .ok (.iconst 5, 1) := by decide +kernel
theorem dL_law_22 : decode cL_law 22 = .ok (.isub, 1) := by decide +kernel
theorem dL_law_23 : decode cL_law 23 = .ok (.if_icmp .gt 700, 3) := by decide +kernel
theorem dL_law_26 : decode cL_law 26 = .ok (.aload_n 0, 1) := by decide +kernel
theorem dL_law_27 : decode cL_law 27 = .ok (.iload_n 3, 1) := by decide +kernel
theorem dL_law_28 : decode cL_law 28 = .ok (.iaload, 1) := by decide +kernel
theorem dL_law_29 : decode cL_law 29 = .ok (.bipush 31, 2) := by decide +kernel
theorem dL_law_31 : decode cL_law 31 = .ok (.iand, 1) := by decide +kernel
theorem dL_law_32 : decode cL_law 32 = .ok (.tableswitch 685 0 26 #[124, 147, 160, 173, 196, 219, 242, 255, 268, 291, 324, 357, 390, 403, 416, 429, 442, 475, 528, 541, 554, 567, 590, 613, 626, 639, 662], 124) := by decide +kernel
theorem dL_law_156 : decode cL_law 156 = .ok (.aload_n 1, 1) := by decide +kernel
theorem dL_law_157 : decode cL_law 157 = .ok (.aload_n 0, 1) := by decide +kernel
theorem dL_law_158 : decode cL_law 158 = .ok (.iload_n 3, 1) := by decide +kernel
theorem dL_law_159 : decode cL_law 159 = .ok (.iconst 1, 1) := by decide +kernel
theorem dL_law_160 : decode cL_law 160 = .ok (.iadd, 1) := by decide +kernel
theorem dL_law_161 : decode cL_law 161 = .ok (.iaload, 1) := by decide +kernel
theorem dL_law_162 : decode cL_law 162 = .ok (.invokevirtual 13, 3) := by decide +kernel
theorem dL_law_165 : decode cL_law 165 = .ok (.aload_n 2, 1) := by decide +kernel
theorem dL_law_166 : decode cL_law 166 = .ok (.aload_n 0, 1) := by decide +kernel
theorem dL_law_167 : decode cL_law 167 = .ok (.iload_n 3, 1) := by decide +kernel
theorem dL_law_168 : decode cL_law 168 = .ok (.iconst 1, 1) := by decide +kernel
theorem dL_law_169 : decode cL_law 169 = .ok (.iadd, 1) := by decide +kernel
theorem dL_law_170 : decode cL_law 170 = .ok (.iaload, 1) := by decide +kernel
theorem dL_law_171 : decode cL_law 171 = .ok (.invokevirtual 17, 3) := by decide +kernel
theorem dL_law_174 : decode cL_law 174 = .ok (.if_icmp .eq 543, 3) := by decide +kernel
theorem dL_law_177 : decode cL_law 177 = .ok (.iconst 0, 1) := by decide +kernel
theorem dL_law_178 : decode cL_law 178 = .ok (.ireturn, 1) := by decide +kernel
theorem dL_law_179 : decode cL_law 179 = .ok (.aload_n 1, 1) := by decide +kernel
theorem dL_law_180 : decode cL_law 180 = .ok (.invokevirtual 18, 3) := by decide +kernel
theorem dL_law_183 : decode cL_law 183 = .ok (.aload_n 2, 1) := by decide +kernel
theorem dL_law_184 : decode cL_law 184 = .ok (.invokevirtual 22, 3) := by decide +kernel
theorem dL_law_187 : decode cL_law 187 = .ok (.if_icmp .eq 530, 3) := by decide +kernel
theorem dL_law_190 : decode cL_law 190 = .ok (.iconst 0, 1) := by decide +kernel
theorem dL_law_191 : decode cL_law 191 = .ok (.ireturn, 1) := by decide +kernel
theorem dL_law_192 : decode cL_law 192 = .ok (.aload_n 1, 1) := by decide +kernel
theorem dL_law_193 : decode cL_law 193 = .ok (.invokevirtual 23, 3) := by decide +kernel
theorem dL_law_196 : decode cL_law 196 = .ok (.aload_n 2, 1) := by decide +kernel
theorem dL_law_197 : decode cL_law 197 = .ok (.invokevirtual 26, 3) := by decide +kernel
theorem dL_law_200 : decode cL_law 200 = .ok (.if_icmp .eq 517, 3) := by decide +kernel
theorem dL_law_203 : decode cL_law 203 = .ok (.iconst 0, 1) := by decide +kernel
theorem dL_law_204 : decode cL_law 204 = .ok (.ireturn, 1) := by decide +kernel
theorem dL_law_205 : decode cL_law 205 = .ok (.aload_n 1, 1) := by decide +kernel
theorem dL_law_206 : decode cL_law 206 = .ok (.aload_n 0, 1) := by decide +kernel
theorem dL_law_207 : decode cL_law 207 = .ok (.iload_n 3, 1) := by decide +kernel
theorem dL_law_208 : decode cL_law 208 = .ok (.iconst 1, 1) := by decide +kernel
theorem dL_law_209 : decode cL_law 209 = .ok (.iadd, 1) := by decide +kernel
theorem dL_law_210 : decode cL_law 210 = .ok (.iaload, 1) := by decide +kernel
theorem dL_law_211 : decode cL_law 211 = .ok (.invokevirtual 27, 3) := by decide +kernel
theorem dL_law_214 : decode cL_law 214 = .ok (.aload_n 2, 1) := by decide +kernel
theorem dL_law_215 : decode cL_law 215 = .ok (.aload_n 0, 1) := by decide +kernel
theorem dL_law_216 : decode cL_law 216 = .ok (.iload_n 3, 1) := by decide +kernel
theorem dL_law_217 : decode cL_law 217 = .ok (.iconst 1, 1) := by decide +kernel
theorem dL_law_218 : decode cL_law 218 = .ok (.iadd, 1) := by decide +kernel
theorem dL_law_219 : decode cL_law 219 = .ok (.iaload, 1) := by decide +kernel
theorem dL_law_220 : decode cL_law 220 = .ok (.invokevirtual 30, 3) := by decide +kernel
theorem dL_law_223 : decode cL_law 223 = .ok (.if_icmp .eq 494, 3) := by decide +kernel
theorem dL_law_226 : decode cL_law 226 = .ok (.iconst 0, 1) := by decide +kernel
theorem dL_law_227 : decode cL_law 227 = .ok (.ireturn, 1) := by decide +kernel
theorem dL_law_228 : decode cL_law 228 = .ok (.aload_n 1, 1) := by decide +kernel
theorem dL_law_229 : decode cL_law 229 = .ok (.aload_n 0, 1) := by decide +kernel
theorem dL_law_230 : decode cL_law 230 = .ok (.iload_n 3, 1) := by decide +kernel
theorem dL_law_231 : decode cL_law 231 = .ok (.iconst 1, 1) := by decide +kernel
theorem dL_law_232 : decode cL_law 232 = .ok (.iadd, 1) := by decide +kernel
theorem dL_law_233 : decode cL_law 233 = .ok (.iaload, 1) := by decide +kernel
theorem dL_law_234 : decode cL_law 234 = .ok (.invokevirtual 31, 3) := by decide +kernel
theorem dL_law_237 : decode cL_law 237 = .ok (.aload_n 2, 1) := by decide +kernel
theorem dL_law_238 : decode cL_law 238 = .ok (.aload_n 0, 1) := by decide +kernel
theorem dL_law_239 : decode cL_law 239 = .ok (.iload_n 3, 1) := by decide +kernel
theorem dL_law_240 : decode cL_law 240 = .ok (.iconst 1, 1) := by decide +kernel
theorem dL_law_241 : decode cL_law 241 = .ok (.iadd, 1) := by decide +kernel
theorem dL_law_242 : decode cL_law 242 = .ok (.iaload, 1) := by decide +kernel
theorem dL_law_243 : decode cL_law 243 = .ok (.invokevirtual 34, 3) := by decide +kernel
theorem dL_law_246 : decode cL_law 246 = .ok (.if_icmp .eq 471, 3) := by decide +kernel
theorem dL_law_249 : decode cL_law 249 = .ok (.iconst 0, 1) := by decide +kernel
theorem dL_law_250 : decode cL_law 250 = .ok (.ireturn, 1) := by decide +kernel
theorem dL_law_251 : decode cL_law 251 = .ok (.aload_n 1, 1) := by decide +kernel
theorem dL_law_252 : decode cL_law 252 = .ok (.aload_n 0, 1) := by decide +kernel
theorem dL_law_253 : decode cL_law 253 = .ok (.iload_n 3, 1) := by decide +kernel
theorem dL_law_254 : decode cL_law 254 = .ok (.iconst 1, 1) := by decide +kernel
theorem dL_law_255 : decode cL_law 255 = .ok (.iadd, 1) := by decide +kernel
theorem dL_law_256 : decode cL_law 256 = .ok (.iaload, 1) := by decide +kernel
theorem dL_law_257 : decode cL_law 257 = .ok (.invokevirtual 35, 3) := by decide +kernel
theorem dL_law_260 : decode cL_law 260 = .ok (.aload_n 2, 1) := by decide +kernel
theorem dL_law_261 : decode cL_law 261 = .ok (.aload_n 0, 1) := by decide +kernel
theorem dL_law_262 : decode cL_law 262 = .ok (.iload_n 3, 1) := by decide +kernel
theorem dL_law_263 : decode cL_law 263 = .ok (.iconst 1, 1) := by decide +kernel
theorem dL_law_264 : decode cL_law 264 = .ok (.iadd, 1) := by decide +kernel
theorem dL_law_265 : decode cL_law 265 = .ok (.iaload, 1) := by decide +kernel
theorem dL_law_266 : decode cL_law 266 = .ok (.invokevirtual 38, 3) := by decide +kernel
theorem dL_law_269 : decode cL_law 269 = .ok (.if_icmp .eq 448, 3) := by decide +kernel
theorem dL_law_272 : decode cL_law 272 = .ok (.iconst 0, 1) := by decide +kernel
theorem dL_law_273 : decode cL_law 273 = .ok (.ireturn, 1) := by decide +kernel
theorem dL_law_274 : decode cL_law 274 = .ok (.aload_n 1, 1) := by decide +kernel
theorem dL_law_275 : decode cL_law 275 = .ok (.invokevirtual 39, 3) := by decide +kernel
theorem dL_law_278 : decode cL_law 278 = .ok (.aload_n 2, 1) := by decide +kernel
theorem dL_law_279 : decode cL_law 279 = .ok (.invokevirtual 42, 3) := by decide +kernel
theorem dL_law_282 : decode cL_law 282 = .ok (.if_icmp .eq 435, 3) := by decide +kernel
theorem dL_law_285 : decode cL_law 285 = .ok (.iconst 0, 1) := by decide +kernel
theorem dL_law_286 : decode cL_law 286 = .ok (.ireturn, 1) := by decide +kernel
theorem dL_law_287 : decode cL_law 287 = .ok (.aload_n 1, 1) := by decide +kernel
theorem dL_law_288 : decode cL_law 288 = .ok (.invokevirtual 43, 3) := by decide +kernel
theorem dL_law_291 : decode cL_law 291 = .ok (.aload_n 2, 1) := by decide +kernel
theorem dL_law_292 : decode cL_law 292 = .ok (.invokevirtual 46, 3) := by decide +kernel
theorem dL_law_295 : decode cL_law 295 = .ok (.if_icmp .eq 422, 3) := by decide +kernel
theorem dL_law_298 : decode cL_law 298 = .ok (.iconst 0, 1) := by decide +kernel
theorem dL_law_299 : decode cL_law 299 = .ok (.ireturn, 1) := by decide +kernel
theorem dL_law_300 : decode cL_law 300 = .ok (.aload_n 1, 1) := by decide +kernel
theorem dL_law_301 : decode cL_law 301 = .ok (.aload_n 0, 1) := by decide +kernel
theorem dL_law_302 : decode cL_law 302 = .ok (.iload_n 3, 1) := by decide +kernel
theorem dL_law_303 : decode cL_law 303 = .ok (.iconst 1, 1) := by decide +kernel
theorem dL_law_304 : decode cL_law 304 = .ok (.iadd, 1) := by decide +kernel
theorem dL_law_305 : decode cL_law 305 = .ok (.iaload, 1) := by decide +kernel
theorem dL_law_306 : decode cL_law 306 = .ok (.invokevirtual 47, 3) := by decide +kernel
theorem dL_law_309 : decode cL_law 309 = .ok (.aload_n 2, 1) := by decide +kernel
theorem dL_law_310 : decode cL_law 310 = .ok (.aload_n 0, 1) := by decide +kernel
theorem dL_law_311 : decode cL_law 311 = .ok (.iload_n 3, 1) := by decide +kernel
theorem dL_law_312 : decode cL_law 312 = .ok (.iconst 1, 1) := by decide +kernel
theorem dL_law_313 : decode cL_law 313 = .ok (.iadd, 1) := by decide +kernel
theorem dL_law_314 : decode cL_law 314 = .ok (.iaload, 1) := by decide +kernel
theorem dL_law_315 : decode cL_law 315 = .ok (.invokevirtual 50, 3) := by decide +kernel
theorem dL_law_318 : decode cL_law 318 = .ok (.if_icmp .eq 399, 3) := by decide +kernel
theorem dL_law_321 : decode cL_law 321 = .ok (.iconst 0, 1) := by decide +kernel
theorem dL_law_322 : decode cL_law 322 = .ok (.ireturn, 1) := by decide +kernel
theorem dL_law_323 : decode cL_law 323 = .ok (.aload_n 1, 1) := by decide +kernel
theorem dL_law_324 : decode cL_law 324 = .ok (.aload_n 0, 1) := by decide +kernel
theorem dL_law_325 : decode cL_law 325 = .ok (.iload_n 3, 1) := by decide +kernel
theorem dL_law_326 : decode cL_law 326 = .ok (.iconst 1, 1) := by decide +kernel
theorem dL_law_327 : decode cL_law 327 = .ok (.iadd, 1) := by decide +kernel
theorem dL_law_328 : decode cL_law 328 = .ok (.iaload, 1) := by decide +kernel
theorem dL_law_329 : decode cL_law 329 = .ok (.aload_n 0, 1) := by decide +kernel
theorem dL_law_330 : decode cL_law 330 = .ok (.iload_n 3, 1) := by decide +kernel
theorem dL_law_331 : decode cL_law 331 = .ok (.iconst 2, 1) := by decide +kernel
theorem dL_law_332 : decode cL_law 332 = .ok (.iadd, 1) := by decide +kernel
theorem dL_law_333 : decode cL_law 333 = .ok (.iaload, 1) := by decide +kernel
theorem dL_law_334 : decode cL_law 334 = .ok (.invokevirtual 51, 3) := by decide +kernel
theorem dL_law_337 : decode cL_law 337 = .ok (.aload_n 2, 1) := by decide +kernel
theorem dL_law_338 : decode cL_law 338 = .ok (.aload_n 0, 1) := by decide +kernel
theorem dL_law_339 : decode cL_law 339 = .ok (.iload_n 3, 1) := by decide +kernel
theorem dL_law_340 : decode cL_law 340 = .ok (.iconst 1, 1) := by decide +kernel
theorem dL_law_341 : decode cL_law 341 = .ok (.iadd, 1) := by decide +kernel
theorem dL_law_342 : decode cL_law 342 = .ok (.iaload, 1) := by decide +kernel
theorem dL_law_343 : decode cL_law 343 = .ok (.aload_n 0, 1) := by decide +kernel
theorem dL_law_344 : decode cL_law 344 = .ok (.iload_n 3, 1) := by decide +kernel
theorem dL_law_345 : decode cL_law 345 = .ok (.iconst 2, 1) := by decide +kernel
theorem dL_law_346 : decode cL_law 346 = .ok (.iadd, 1) := by decide +kernel
theorem dL_law_347 : decode cL_law 347 = .ok (.iaload, 1) := by decide +kernel
theorem dL_law_348 : decode cL_law 348 = .ok (.invokevirtual 55, 3) := by decide +kernel
theorem dL_law_351 : decode cL_law 351 = .ok (.if_icmp .eq 366, 3) := by decide +kernel
theorem dL_law_354 : decode cL_law 354 = .ok (.iconst 0, 1) := by decide +kernel
theorem dL_law_355 : decode cL_law 355 = .ok (.ireturn, 1) := by decide +kernel
theorem dL_law_356 : decode cL_law 356 = .ok (.aload_n 1, 1) := by decide +kernel
theorem dL_law_357 : decode cL_law 357 = .ok (.aload_n 0, 1) := by decide +kernel
theorem dL_law_358 : decode cL_law 358 = .ok (.iload_n 3, 1) := by decide +kernel
theorem dL_law_359 : decode cL_law 359 = .ok (.iconst 1, 1) := by decide +kernel
theorem dL_law_360 : decode cL_law 360 = .ok (.iadd, 1) := by decide +kernel
theorem dL_law_361 : decode cL_law 361 = .ok (.iaload, 1) := by decide +kernel
theorem dL_law_362 : decode cL_law 362 = .ok (.aload_n 0, 1) := by decide +kernel
theorem dL_law_363 : decode cL_law 363 = .ok (.iload_n 3, 1) := by decide +kernel
theorem dL_law_364 : decode cL_law 364 = .ok (.iconst 2, 1) := by decide +kernel
theorem dL_law_365 : decode cL_law 365 = .ok (.iadd, 1) := by decide +kernel
theorem dL_law_366 : decode cL_law 366 = .ok (.iaload, 1) := by decide +kernel
theorem dL_law_367 : decode cL_law 367 = .ok (.invokevirtual 56, 3) := by decide +kernel
theorem dL_law_370 : decode cL_law 370 = .ok (.aload_n 2, 1) := by decide +kernel
theorem dL_law_371 : decode cL_law 371 = .ok (.aload_n 0, 1) := by decide +kernel
theorem dL_law_372 : decode cL_law 372 = .ok (.iload_n 3, 1) := by decide +kernel
theorem dL_law_373 : decode cL_law 373 = .ok (.iconst 1, 1) := by decide +kernel
theorem dL_law_374 : decode cL_law 374 = .ok (.iadd, 1) := by decide +kernel
theorem dL_law_375 : decode cL_law 375 = .ok (.iaload, 1) := by decide +kernel
theorem dL_law_376 : decode cL_law 376 = .ok (.aload_n 0, 1) := by decide +kernel
theorem dL_law_377 : decode cL_law 377 = .ok (.iload_n 3, 1) := by decide +kernel
theorem dL_law_378 : decode cL_law 378 = .ok (.iconst 2, 1) := by decide +kernel
theorem dL_law_379 : decode cL_law 379 = .ok (.iadd, 1) := by decide +kernel
theorem dL_law_380 : decode cL_law 380 = .ok (.iaload, 1) := by decide +kernel
theorem dL_law_381 : decode cL_law 381 = .ok (.invokevirtual 59, 3) := by decide +kernel
theorem dL_law_384 : decode cL_law 384 = .ok (.if_icmp .eq 333, 3) := by decide +kernel
theorem dL_law_387 : decode cL_law 387 = .ok (.iconst 0, 1) := by decide +kernel
theorem dL_law_388 : decode cL_law 388 = .ok (.ireturn, 1) := by decide +kernel
theorem dL_law_389 : decode cL_law 389 = .ok (.aload_n 1, 1) := by decide +kernel
theorem dL_law_390 : decode cL_law 390 = .ok (.aload_n 0, 1) := by decide +kernel
theorem dL_law_391 : decode cL_law 391 = .ok (.iload_n 3, 1) := by decide +kernel
theorem dL_law_392 : decode cL_law 392 = .ok (.iconst 1, 1) := by decide +kernel
theorem dL_law_393 : decode cL_law 393 = .ok (.iadd, 1) := by decide +kernel
theorem dL_law_394 : decode cL_law 394 = .ok (.iaload, 1) := by decide +kernel
theorem dL_law_395 : decode cL_law 395 = .ok (.aload_n 0, 1) := by decide +kernel
theorem dL_law_396 : decode cL_law 396 = .ok (.iload_n 3, 1) := by decide +kernel
theorem dL_law_397 : decode cL_law 397 = .ok (.iconst 2, 1) := by decide +kernel
theorem dL_law_398 : decode cL_law 398 = .ok (.iadd, 1) := by decide +kernel
theorem dL_law_399 : decode cL_law 399 = .ok (.iaload, 1) := by decide +kernel
theorem dL_law_400 : decode cL_law 400 = .ok (.invokevirtual 60, 3) := by decide +kernel
theorem dL_law_403 : decode cL_law 403 = .ok (.aload_n 2, 1) := by decide +kernel
theorem dL_law_404 : decode cL_law 404 = .ok (.aload_n 0, 1) := by decide +kernel
theorem dL_law_405 : decode cL_law 405 = .ok (.iload_n 3, 1) := by decide +kernel
theorem dL_law_406 : decode cL_law 406 = .ok (.iconst 1, 1) := by decide +kernel
theorem dL_law_407 : decode cL_law 407 = .ok (.iadd, 1) := by decide +kernel
theorem dL_law_408 : decode cL_law 408 = .ok (.iaload, 1) := by decide +kernel
theorem dL_law_409 : decode cL_law 409 = .ok (.aload_n 0, 1) := by decide +kernel
theorem dL_law_410 : decode cL_law 410 = .ok (.iload_n 3, 1) := by decide +kernel
theorem dL_law_411 : decode cL_law 411 = .ok (.iconst 2, 1) := by decide +kernel
theorem dL_law_412 : decode cL_law 412 = .ok (.iadd, 1) := by decide +kernel
theorem dL_law_413 : decode cL_law 413 = .ok (.iaload, 1) := by decide +kernel
theorem dL_law_414 : decode cL_law 414 = .ok (.invokevirtual 63, 3) := by decide +kernel
theorem dL_law_417 : decode cL_law 417 = .ok (.if_icmp .eq 300, 3) := by decide +kernel
theorem dL_law_420 : decode cL_law 420 = .ok (.iconst 0, 1) := by decide +kernel
theorem dL_law_421 : decode cL_law 421 = .ok (.ireturn, 1) := by decide +kernel
theorem dL_law_422 : decode cL_law 422 = .ok (.aload_n 1, 1) := by decide +kernel
theorem dL_law_423 : decode cL_law 423 = .ok (.invokevirtual 64, 3) := by decide +kernel
theorem dL_law_426 : decode cL_law 426 = .ok (.aload_n 2, 1) := by decide +kernel
theorem dL_law_427 : decode cL_law 427 = .ok (.invokevirtual 67, 3) := by decide +kernel
theorem dL_law_430 : decode cL_law 430 = .ok (.if_icmp .eq 287, 3) := by decide +kernel
theorem dL_law_433 : decode cL_law 433 = .ok (.iconst 0, 1) := by decide +kernel
theorem dL_law_434 : decode cL_law 434 = .ok (.ireturn, 1) := by decide +kernel
theorem dL_law_435 : decode cL_law 435 = .ok (.aload_n 1, 1) := by decide +kernel
theorem dL_law_436 : decode cL_law 436 = .ok (.invokevirtual 68, 3) := by decide +kernel
theorem dL_law_439 : decode cL_law 439 = .ok (.aload_n 2, 1) := by decide +kernel
theorem dL_law_440 : decode cL_law 440 = .ok (.invokevirtual 71, 3) := by decide +kernel
theorem dL_law_443 : decode cL_law 443 = .ok (.if_icmp .eq 274, 3) := by decide +kernel
theorem dL_law_446 : decode cL_law 446 = .ok (.iconst 0, 1) := by decide +kernel
theorem dL_law_447 : decode cL_law 447 = .ok (.ireturn, 1) := by decide +kernel
theorem dL_law_448 : decode cL_law 448 = .ok (.aload_n 1, 1) := by decide +kernel
theorem dL_law_449 : decode cL_law 449 = .ok (.invokevirtual 72, 3) := by decide +kernel
theorem dL_law_452 : decode cL_law 452 = .ok (.aload_n 2, 1) := by decide +kernel
theorem dL_law_453 : decode cL_law 453 = .ok (.invokevirtual 75, 3) := by decide +kernel
theorem dL_law_456 : decode cL_law 456 = .ok (.if_icmp .eq 261, 3) := by decide +kernel
theorem dL_law_459 : decode cL_law 459 = .ok (.iconst 0, 1) := by decide +kernel
theorem dL_law_460 : decode cL_law 460 = .ok (.ireturn, 1) := by decide +kernel
theorem dL_law_461 : decode cL_law 461 = .ok (.aload_n 1, 1) := by decide +kernel
theorem dL_law_462 : decode cL_law 462 = .ok (.invokevirtual 76, 3) := by decide +kernel
theorem dL_law_465 : decode cL_law 465 = .ok (.aload_n 2, 1) := by decide +kernel
theorem dL_law_466 : decode cL_law 466 = .ok (.invokevirtual 79, 3) := by decide +kernel
theorem dL_law_469 : decode cL_law 469 = .ok (.if_icmp .eq 248, 3) := by decide +kernel
theorem dL_law_472 : decode cL_law 472 = .ok (.iconst 0, 1) := by decide +kernel
theorem dL_law_473 : decode cL_law 473 = .ok (.ireturn, 1) := by decide +kernel
theorem dL_law_474 : decode cL_law 474 = .ok (.aload_n 1, 1) := by decide +kernel
theorem dL_law_475 : decode cL_law 475 = .ok (.aload_n 0, 1) := by decide +kernel
theorem dL_law_476 : decode cL_law 476 = .ok (.iload_n 3, 1) := by decide +kernel
theorem dL_law_477 : decode cL_law 477 = .ok (.iconst 1, 1) := by decide +kernel
theorem dL_law_478 : decode cL_law 478 = .ok (.iadd, 1) := by decide +kernel
theorem dL_law_479 : decode cL_law 479 = .ok (.iaload, 1) := by decide +kernel
theorem dL_law_480 : decode cL_law 480 = .ok (.aload_n 0, 1) := by decide +kernel
theorem dL_law_481 : decode cL_law 481 = .ok (.iload_n 3, 1) := by decide +kernel
theorem dL_law_482 : decode cL_law 482 = .ok (.iconst 2, 1) := by decide +kernel
theorem dL_law_483 : decode cL_law 483 = .ok (.iadd, 1) := by decide +kernel
theorem dL_law_484 : decode cL_law 484 = .ok (.iaload, 1) := by decide +kernel
theorem dL_law_485 : decode cL_law 485 = .ok (.invokevirtual 80, 3) := by decide +kernel
theorem dL_law_488 : decode cL_law 488 = .ok (.aload_n 2, 1) := by decide +kernel
theorem dL_law_489 : decode cL_law 489 = .ok (.aload_n 0, 1) := by decide +kernel
theorem dL_law_490 : decode cL_law 490 = .ok (.iload_n 3, 1) := by decide +kernel
theorem dL_law_491 : decode cL_law 491 = .ok (.iconst 1, 1) := by decide +kernel
theorem dL_law_492 : decode cL_law 492 = .ok (.iadd, 1) := by decide +kernel
theorem dL_law_493 : decode cL_law 493 = .ok (.iaload, 1) := by decide +kernel
theorem dL_law_494 : decode cL_law 494 = .ok (.aload_n 0, 1) := by decide +kernel
theorem dL_law_495 : decode cL_law 495 = .ok (.iload_n 3, 1) := by decide +kernel
theorem dL_law_496 : decode cL_law 496 = .ok (.iconst 2, 1) := by decide +kernel
theorem dL_law_497 : decode cL_law 497 = .ok (.iadd, 1) := by decide +kernel
theorem dL_law_498 : decode cL_law 498 = .ok (.iaload, 1) := by decide +kernel
theorem dL_law_499 : decode cL_law 499 = .ok (.invokevirtual 83, 3) := by decide +kernel
theorem dL_law_502 : decode cL_law 502 = .ok (.if_icmp .eq 215, 3) := by decide +kernel
theorem dL_law_505 : decode cL_law 505 = .ok (.iconst 0, 1) := by decide +kernel
theorem dL_law_506 : decode cL_law 506 = .ok (.ireturn, 1) := by decide +kernel
theorem dL_law_507 : decode cL_law 507 = .ok (.aload_n 1, 1) := by decide +kernel
theorem dL_law_508 : decode cL_law 508 = .ok (.aload_n 0, 1) := by decide +kernel
theorem dL_law_509 : decode cL_law 509 = .ok (.iload_n 3, 1) := by decide +kernel
theorem dL_law_510 : decode cL_law 510 = .ok (.iconst 1, 1) := by decide +kernel
theorem dL_law_511 : decode cL_law 511 = .ok (.iadd, 1) := by decide +kernel
theorem dL_law_512 : decode cL_law 512 = .ok (.iaload, 1) := by decide +kernel
theorem dL_law_513 : decode cL_law 513 = .ok (.aload_n 0, 1) := by decide +kernel
theorem dL_law_514 : decode cL_law 514 = .ok (.iload_n 3, 1) := by decide +kernel
theorem dL_law_515 : decode cL_law 515 = .ok (.iconst 2, 1) := by decide +kernel
theorem dL_law_516 : decode cL_law 516 = .ok (.iadd, 1) := by decide +kernel
theorem dL_law_517 : decode cL_law 517 = .ok (.iaload, 1) := by decide +kernel
theorem dL_law_518 : decode cL_law 518 = .ok (.aload_n 0, 1) := by decide +kernel
theorem dL_law_519 : decode cL_law 519 = .ok (.iload_n 3, 1) := by decide +kernel
theorem dL_law_520 : decode cL_law 520 = .ok (.iconst 3, 1) := by decide +kernel
theorem dL_law_521 : decode cL_law 521 = .ok (.iadd, 1) := by decide +kernel
theorem dL_law_522 : decode cL_law 522 = .ok (.iaload, 1) := by decide +kernel
theorem dL_law_523 : decode cL_law 523 = .ok (.aload_n 0, 1) := by decide +kernel
theorem dL_law_524 : decode cL_law 524 = .ok (.iload_n 3, 1) := by decide +kernel
theorem dL_law_525 : decode cL_law 525 = .ok (.iconst 4, 1) := by decide +kernel
theorem dL_law_526 : decode cL_law 526 = .ok (.iadd, 1) := by decide +kernel
theorem dL_law_527 : decode cL_law 527 = .ok (.iaload, 1) := by decide +kernel
theorem dL_law_528 : decode cL_law 528 = .ok (.invokevirtual 84, 3) := by decide +kernel
theorem dL_law_531 : decode cL_law 531 = .ok (.aload_n 2, 1) := by decide +kernel
theorem dL_law_532 : decode cL_law 532 = .ok (.aload_n 0, 1) := by decide +kernel
theorem dL_law_533 : decode cL_law 533 = .ok (.iload_n 3, 1) := by decide +kernel
theorem dL_law_534 : decode cL_law 534 = .ok (.iconst 1, 1) := by decide +kernel
theorem dL_law_535 : decode cL_law 535 = .ok (.iadd, 1) := by decide +kernel
theorem dL_law_536 : decode cL_law 536 = .ok (.iaload, 1) := by decide +kernel
theorem dL_law_537 : decode cL_law 537 = .ok (.aload_n 0, 1) := by decide +kernel
theorem dL_law_538 : decode cL_law 538 = .ok (.iload_n 3, 1) := by decide +kernel
theorem dL_law_539 : decode cL_law 539 = .ok (.iconst 2, 1) := by decide +kernel
theorem dL_law_540 : decode cL_law 540 = .ok (.iadd, 1) := by decide +kernel
theorem dL_law_541 : decode cL_law 541 = .ok (.iaload, 1) := by decide +kernel
theorem dL_law_542 : decode cL_law 542 = .ok (.aload_n 0, 1) := by decide +kernel
theorem dL_law_543 : decode cL_law 543 = .ok (.iload_n 3, 1) := by decide +kernel
theorem dL_law_544 : decode cL_law 544 = .ok (.iconst 3, 1) := by decide +kernel
theorem dL_law_545 : decode cL_law 545 = .ok (.iadd, 1) := by decide +kernel
theorem dL_law_546 : decode cL_law 546 = .ok (.iaload, 1) := by decide +kernel
theorem dL_law_547 : decode cL_law 547 = .ok (.aload_n 0, 1) := by decide +kernel
theorem dL_law_548 : decode cL_law 548 = .ok (.iload_n 3, 1) := by decide +kernel
theorem dL_law_549 : decode cL_law 549 = .ok (.iconst 4, 1) := by decide +kernel
theorem dL_law_550 : decode cL_law 550 = .ok (.iadd, 1) := by decide +kernel
theorem dL_law_551 : decode cL_law 551 = .ok (.iaload, 1) := by decide +kernel
theorem dL_law_552 : decode cL_law 552 = .ok (.invokevirtual 88, 3) := by decide +kernel
theorem dL_law_555 : decode cL_law 555 = .ok (.if_icmp .eq 162, 3) := by decide +kernel
theorem dL_law_558 : decode cL_law 558 = .ok (.iconst 0, 1) := by decide +kernel
theorem dL_law_559 : decode cL_law 559 = .ok (.ireturn, 1) := by decide +kernel
theorem dL_law_560 : decode cL_law 560 = .ok (.aload_n 1, 1) := by decide +kernel
theorem dL_law_561 : decode cL_law 561 = .ok (.invokevirtual 89, 3) := by decide +kernel
theorem dL_law_564 : decode cL_law 564 = .ok (.aload_n 2, 1) := by decide +kernel
theorem dL_law_565 : decode cL_law 565 = .ok (.invokevirtual 92, 3) := by decide +kernel
theorem dL_law_568 : decode cL_law 568 = .ok (.if_icmp .eq 149, 3) := by decide +kernel
theorem dL_law_571 : decode cL_law 571 = .ok (.iconst 0, 1) := by decide +kernel
theorem dL_law_572 : decode cL_law 572 = .ok (.ireturn, 1) := by decide +kernel
theorem dL_law_573 : decode cL_law 573 = .ok (.aload_n 1, 1) := by decide +kernel
theorem dL_law_574 : decode cL_law 574 = .ok (.invokevirtual 93, 3) := by decide +kernel
theorem dL_law_577 : decode cL_law 577 = .ok (.aload_n 2, 1) := by decide +kernel
theorem dL_law_578 : decode cL_law 578 = .ok (.invokevirtual 96, 3) := by decide +kernel
theorem dL_law_581 : decode cL_law 581 = .ok (.if_icmp .eq 136, 3) := by decide +kernel
theorem dL_law_584 : decode cL_law 584 = .ok (.iconst 0, 1) := by decide +kernel
theorem dL_law_585 : decode cL_law 585 = .ok (.ireturn, 1) := by decide +kernel
theorem dL_law_586 : decode cL_law 586 = .ok (.aload_n 1, 1) := by decide +kernel
theorem dL_law_587 : decode cL_law 587 = .ok (.invokevirtual 97, 3) := by decide +kernel
theorem dL_law_590 : decode cL_law 590 = .ok (.aload_n 2, 1) := by decide +kernel
theorem dL_law_591 : decode cL_law 591 = .ok (.invokevirtual 100, 3) := by decide +kernel
theorem dL_law_594 : decode cL_law 594 = .ok (.if_icmp .eq 123, 3) := by decide +kernel
theorem dL_law_597 : decode cL_law 597 = .ok (.iconst 0, 1) := by decide +kernel
theorem dL_law_598 : decode cL_law 598 = .ok (.ireturn, 1) := by decide +kernel
theorem dL_law_599 : decode cL_law 599 = .ok (.aload_n 1, 1) := by decide +kernel
theorem dL_law_600 : decode cL_law 600 = .ok (.aload_n 0, 1) := by decide +kernel
theorem dL_law_601 : decode cL_law 601 = .ok (.iload_n 3, 1) := by decide +kernel
theorem dL_law_602 : decode cL_law 602 = .ok (.iconst 1, 1) := by decide +kernel
theorem dL_law_603 : decode cL_law 603 = .ok (.iadd, 1) := by decide +kernel
theorem dL_law_604 : decode cL_law 604 = .ok (.iaload, 1) := by decide +kernel
theorem dL_law_605 : decode cL_law 605 = .ok (.invokevirtual 101, 3) := by decide +kernel
theorem dL_law_608 : decode cL_law 608 = .ok (.aload_n 2, 1) := by decide +kernel
theorem dL_law_609 : decode cL_law 609 = .ok (.aload_n 0, 1) := by decide +kernel
theorem dL_law_610 : decode cL_law 610 = .ok (.iload_n 3, 1) := by decide +kernel
theorem dL_law_611 : decode cL_law 611 = .ok (.iconst 1, 1) := by decide +kernel
theorem dL_law_612 : decode cL_law 612 = .ok (.iadd, 1) := by decide +kernel
theorem dL_law_613 : decode cL_law 613 = .ok (.iaload, 1) := by decide +kernel
theorem dL_law_614 : decode cL_law 614 = .ok (.invokevirtual 104, 3) := by decide +kernel
theorem dL_law_617 : decode cL_law 617 = .ok (.if_icmp .eq 100, 3) := by decide +kernel
theorem dL_law_620 : decode cL_law 620 = .ok (.iconst 0, 1) := by decide +kernel
theorem dL_law_621 : decode cL_law 621 = .ok (.ireturn, 1) := by decide +kernel
theorem dL_law_622 : decode cL_law 622 = .ok (.aload_n 1, 1) := by decide +kernel
theorem dL_law_623 : decode cL_law 623 = .ok (.aload_n 0, 1) := by decide +kernel
theorem dL_law_624 : decode cL_law 624 = .ok (.iload_n 3, 1) := by decide +kernel
theorem dL_law_625 : decode cL_law 625 = .ok (.iconst 1, 1) := by decide +kernel
theorem dL_law_626 : decode cL_law 626 = .ok (.iadd, 1) := by decide +kernel
theorem dL_law_627 : decode cL_law 627 = .ok (.iaload, 1) := by decide +kernel
theorem dL_law_628 : decode cL_law 628 = .ok (.invokevirtual 105, 3) := by decide +kernel
theorem dL_law_631 : decode cL_law 631 = .ok (.aload_n 2, 1) := by decide +kernel
theorem dL_law_632 : decode cL_law 632 = .ok (.aload_n 0, 1) := by decide +kernel
theorem dL_law_633 : decode cL_law 633 = .ok (.iload_n 3, 1) := by decide +kernel
theorem dL_law_634 : decode cL_law 634 = .ok (.iconst 1, 1) := by decide +kernel
theorem dL_law_635 : decode cL_law 635 = .ok (.iadd, 1) := by decide +kernel
theorem dL_law_636 : decode cL_law 636 = .ok (.iaload, 1) := by decide +kernel
theorem dL_law_637 : decode cL_law 637 = .ok (.invokevirtual 108, 3) := by decide +kernel
theorem dL_law_640 : decode cL_law 640 = .ok (.if_icmp .eq 77, 3) := by decide +kernel
theorem dL_law_643 : decode cL_law 643 = .ok (.iconst 0, 1) := by decide +kernel
theorem dL_law_644 : decode cL_law 644 = .ok (.ireturn, 1) := by decide +kernel
theorem dL_law_645 : decode cL_law 645 = .ok (.aload_n 1, 1) := by decide +kernel
theorem dL_law_646 : decode cL_law 646 = .ok (.invokevirtual 109, 3) := by decide +kernel
theorem dL_law_649 : decode cL_law 649 = .ok (.aload_n 2, 1) := by decide +kernel
theorem dL_law_650 : decode cL_law 650 = .ok (.invokevirtual 112, 3) := by decide +kernel
theorem dL_law_653 : decode cL_law 653 = .ok (.if_icmp .eq 64, 3) := by decide +kernel
theorem dL_law_656 : decode cL_law 656 = .ok (.iconst 0, 1) := by decide +kernel
theorem dL_law_657 : decode cL_law 657 = .ok (.ireturn, 1) := by decide +kernel
theorem dL_law_658 : decode cL_law 658 = .ok (.aload_n 1, 1) := by decide +kernel
theorem dL_law_659 : decode cL_law 659 = .ok (.invokevirtual 113, 3) := by decide +kernel
theorem dL_law_662 : decode cL_law 662 = .ok (.aload_n 2, 1) := by decide +kernel
theorem dL_law_663 : decode cL_law 663 = .ok (.invokevirtual 116, 3) := by decide +kernel
theorem dL_law_666 : decode cL_law 666 = .ok (.if_icmp .eq 51, 3) := by decide +kernel
theorem dL_law_669 : decode cL_law 669 = .ok (.iconst 0, 1) := by decide +kernel
theorem dL_law_670 : decode cL_law 670 = .ok (.ireturn, 1) := by decide +kernel
theorem dL_law_671 : decode cL_law 671 = .ok (.aload_n 1, 1) := by decide +kernel
theorem dL_law_672 : decode cL_law 672 = .ok (.aload_n 0, 1) := by decide +kernel
theorem dL_law_673 : decode cL_law 673 = .ok (.iload_n 3, 1) := by decide +kernel
theorem dL_law_674 : decode cL_law 674 = .ok (.iconst 1, 1) := by decide +kernel
theorem dL_law_675 : decode cL_law 675 = .ok (.iadd, 1) := by decide +kernel
theorem dL_law_676 : decode cL_law 676 = .ok (.iaload, 1) := by decide +kernel
theorem dL_law_677 : decode cL_law 677 = .ok (.invokevirtual 117, 3) := by decide +kernel
theorem dL_law_680 : decode cL_law 680 = .ok (.aload_n 2, 1) := by decide +kernel
theorem dL_law_681 : decode cL_law 681 = .ok (.aload_n 0, 1) := by decide +kernel
theorem dL_law_682 : decode cL_law 682 = .ok (.iload_n 3, 1) := by decide +kernel
theorem dL_law_683 : decode cL_law 683 = .ok (.iconst 1, 1) := by decide +kernel
theorem dL_law_684 : decode cL_law 684 = .ok (.iadd, 1) := by decide +kernel
theorem dL_law_685 : decode cL_law 685 = .ok (.iaload, 1) := by decide +kernel
theorem dL_law_686 : decode cL_law 686 = .ok (.invokevirtual 120, 3) := by decide +kernel
theorem dL_law_689 : decode cL_law 689 = .ok (.if_icmp .eq 28, 3) := by decide +kernel
theorem dL_law_692 : decode cL_law 692 = .ok (.iconst 0, 1) := by decide +kernel
theorem dL_law_693 : decode cL_law 693 = .ok (.ireturn, 1) := by decide +kernel
theorem dL_law_694 : decode cL_law 694 = .ok (.aload_n 1, 1) := by decide +kernel
theorem dL_law_695 : decode cL_law 695 = .ok (.aload_n 0, 1) := by decide +kernel
theorem dL_law_696 : decode cL_law 696 = .ok (.iload_n 3, 1) := by decide +kernel
theorem dL_law_697 : decode cL_law 697 = .ok (.iconst 1, 1) := by decide +kernel
theorem dL_law_698 : decode cL_law 698 = .ok (.iadd, 1) := by decide +kernel
theorem dL_law_699 : decode cL_law 699 = .ok (.iaload, 1) := by decide +kernel
theorem dL_law_700 : decode cL_law 700 = .ok (.invokevirtual 121, 3) := by decide +kernel
theorem dL_law_703 : decode cL_law 703 = .ok (.aload_n 2, 1) := by decide +kernel
theorem dL_law_704 : decode cL_law 704 = .ok (.aload_n 0, 1) := by decide +kernel
theorem dL_law_705 : decode cL_law 705 = .ok (.iload_n 3, 1) := by decide +kernel
theorem dL_law_706 : decode cL_law 706 = .ok (.iconst 1, 1) := by decide +kernel
theorem dL_law_707 : decode cL_law 707 = .ok (.iadd, 1) := by decide +kernel
theorem dL_law_708 : decode cL_law 708 = .ok (.iaload, 1) := by decide +kernel
theorem dL_law_709 : decode cL_law 709 = .ok (.invokevirtual 124, 3) := by decide +kernel
theorem dL_law_712 : decode cL_law 712 = .ok (.if_icmp .eq 5, 3) := by decide +kernel
theorem dL_law_715 : decode cL_law 715 = .ok (.iconst 0, 1) := by decide +kernel
theorem dL_law_716 : decode cL_law 716 = .ok (.ireturn, 1) := by decide +kernel
theorem dL_law_717 : decode cL_law 717 = .ok (.iinc 3 5, 3) := by decide +kernel
theorem dL_law_720 : decode cL_law 720 = .ok (.goto (-702), 3) := by decide +kernel
theorem dL_law_723 : decode cL_law 723 = .ok (.iconst 1, 1) := by decide +kernel
theorem dL_law_724 : decode cL_law 724 = .ok (.ireturn, 1) := by decide +kernel
end
section
/-! V: the machine's judgement W, its surroundings bundled. G: base address, class ids and field slots, array class ids. X: the method's surroundings. -/
abbrev Gl : Type := Nat × va_G × (Nat → ClassId)
def tyG (G : Gl) : List (ClassId × FieldType) := [(G.2.2 0, .int), (G.2.2 1, .long), (G.2.2 2, .boolean), (G.2.2 3, .char), (G.2.2 4, .object "SliceSolver$Problem")]
def Rf (G : Gl) (k : Nat) : Value := .ref (G.1 + k)
def aI (G : Gl) (n : Nat) (f : Nat → Int32) : va_E := .inl (G.2.2 0, n, .inl f)
def aL (G : Gl) (n : Nat) (f : Nat → Int64) : va_E := .inl (G.2.2 1, n, .inr (.inl f))
def aZ (G : Gl) (n : Nat) (f : Nat → Int32) : va_E := .inl (G.2.2 2, n, .inl f)
def aC (G : Gl) (n : Nat) (f : Nat → Int32) : va_E := .inl (G.2.2 3, n, .inl f)
def aP (G : Gl) (n : Nat) (f : Nat → Option Nat) : va_E := .inl (G.2.2 4, n, .inr (.inr (.inr (.inr (fun j => (f j).map (G.1 + ·))))))
def ob (ci : Nat) (fs : List Value) : va_E := .inr (ci, fs)
def bI (b : Bool) : Int32 := if b then 1 else 0
def mkW (b : Nat) (cs : List va_E) : va_W := cs.mapIdx (fun k e => (b + k, e))
theorem mkW_at (b : Nat) (cs : List va_E) (k : Nat) : (mkW b cs)[k]? = (cs[k]?).map (fun e => (b + k, e)) := by
  unfold mkW; rw [List.getElem?_mapIdx]
theorem mkW_get {b : Nat} {cs : List va_E} {k : Nat} {e : va_E} (h : cs[k]? = some e) : (mkW b cs)[k]? = some (b + k, e) := by rw [mkW_at, h]; rfl
theorem mkW_inv {b : Nat} {cs : List va_E} {k : Nat} {q : Nat × va_E} (h : (mkW b cs)[k]? = some q) : ∃ e, cs[k]? = some e ∧ q = (b + k, e) := by
  rw [mkW_at] at h
  cases hc : cs[k]? with
  | none => rw [hc] at h; cases h
  | some e => rw [hc] at h; exact ⟨e, rfl, (Option.some.inj h).symm⟩
theorem mkW_set (b : Nat) (cs : List va_E) (k : Nat) (e : va_E) : (mkW b cs).set k (b + k, e) = mkW b (cs.set k e) := by
  apply List.ext_getElem?
  intro j
  rw [mkW_at, List.getElem?_set, List.getElem?_set, mkW_at]
  by_cases hj : k = j
  · subst hj
    simp only [if_true]
    have hl : (mkW b cs).length = cs.length := by unfold mkW; simp
    rw [hl]
    by_cases hk : k < cs.length
    · simp [hk]
    · simp [hk]
  · simp [hj]
theorem mkW_D (b : Nat) (cs : List va_E) : va_D (fun q => b ≤ q) (mkW b cs) := by
  refine ⟨fun i j p q hi hj hpq => ?_, fun k q hk => ?_⟩
  · obtain ⟨e1, -, rfl⟩ := mkW_inv hi
    obtain ⟨e2, -, rfl⟩ := mkW_inv hj
    have : b + i = b + j := hpq
    omega
  · obtain ⟨e1, -, rfl⟩ := mkW_inv hk
    show b ≤ b + k
    omega
theorem mkW_app (b : Nat) (cs : List va_E) (e : va_E) : mkW b cs ++ [(b + cs.length, e)] = mkW b (cs ++ [e]) := by
  unfold mkW; rw [List.mapIdx_append]; simp
def TB : List Cond := lw_tbl.filter goodWord
theorem TB_good {w : Cond} (h : w ∈ TB) : (w.onTables && w.keeps) = true ∨ ∃ ty, w = .arrayClass ty := good_of_word (List.mem_filter.mp h).2
theorem TB_in {w : Cond} (h : w ∈ TB) : w ∈ lw_tbl := (List.mem_filter.mp h).1
theorem TB_of {w : Cond} {i : Nat} (h : lw_tbl[i]? = some w) (hg : goodWord w = true) : w ∈ TB := List.mem_filter.mpr ⟨List.mem_of_getElem? h, hg⟩
/-- the links to private members of a nest mate: (class, pool entry, method) -/
def nestL : List (String × Nat × MethodName) := [("SliceSolver", 11, ⟨"SliceSolver$Text", "<init>", "()V"⟩), ("SliceSolver$Reader", 11, ⟨"SliceSolver$Term", "<init>", "()V"⟩), ("SliceSolver", 27, ⟨"SliceSolver$Problem", "<init>", "()V"⟩), ("SliceSolver$History", 17, ⟨"SliceSolver$Problem", "<init>", "()V"⟩), ("SliceSolver", 50, ⟨"SliceSolver$Cuts", "<init>", "()V"⟩), ("SliceSolver", 67, ⟨"SliceSolver$Model", "<init>", "()V"⟩), ("SliceSolver$Problem", 27, ⟨"SliceSolver", "isVariable", "(I)Z"⟩), ("SliceSolver$Reader", 111, ⟨"SliceSolver", "nodeOf", "(II)I"⟩), ("SliceSolver$Cuts", 54, ⟨"SliceSolver", "isConstantNode", "(I)Z"⟩), ("SliceSolver$Cuts", 62, ⟨"SliceSolver", "variableOf", "(I)I"⟩), ("SliceSolver$Cuts", 65, ⟨"SliceSolver", "bitOf", "(I)I"⟩), ("SliceSolver$Classes", 31, ⟨"SliceSolver", "isConstantNode", "(I)Z"⟩)]
def nestW (q : String × Nat × MethodName) : Cond := .methodLinkNest q.1 q.2.1 q.2.2 "SliceSolver"
end
section
/-! The surroundings of a method in one tuple; V; rules of V, an instruction each. -/
abbrev Cx0 : Type := Program × Launch × Env × Room × State × MethodId × Array Value × List Frame × Method × Code × (State → Prop)
abbrev xR (X : Cx0) : Room := X.2.2.2.1
abbrev xS (X : Cx0) : State := X.2.2.2.2.1
abbrev xM (X : Cx0) : MethodId := X.2.2.2.2.2.1
abbrev xA (X : Cx0) : Array Value := X.2.2.2.2.2.2.1
abbrev xB (X : Cx0) : List Frame := X.2.2.2.2.2.2.2.1
abbrev xMe (X : Cx0) : Method := X.2.2.2.2.2.2.2.2.1
abbrev xC (X : Cx0) : Code := X.2.2.2.2.2.2.2.2.2.1
abbrev xQ (X : Cx0) : State → Prop := X.2.2.2.2.2.2.2.2.2.2
def strK (G : Gl) (U : State) (H : Heap) : Prop :=
  vk_S 2 [4, 3] [[98, 105, 116, 115], [110, 111, 116]] (fun i => G.2.2 (10 + i)) (fun i => G.2.2 (12 + i)) (fun q => G.1 ≤ q) U H ∧ vk_R "SliceSolver$Text" 47 "bits" (G.2.2 10) U ∧ vk_R "SliceSolver$Text" 53 "not" (G.2.2 11) U ∧ va_Z "java/lang/String" "COMPACT_STRINGS" "Z" (.int 1) (fun q => G.1 ≤ q) U H
def Ks (G : Gl) (U : State) : Prop := va_K G.2.1 vwCl (tyG G) U ∧ (∀ q ∈ nestL, va_Nw (nestW q) U) ∧ va_AO "SliceSolver$Problem" U ∧ strK G U U.heap
def Cx (G : Gl) (X : Cx0) (cc : ByteArray) (nL : Nat) (own : String) (fr lo mc ms : Nat) : Prop :=
  X.1.tables.exec = Jvm.exec ∧ (xC X).code = cc ∧ (xC X).maxLocals = nL ∧ (xS X).vm.findClass own = some (xM X).cls ∧ (∀ w ∈ TB, w.before (xA X) (xS X) = true) ∧ Ks G (xS X) ∧ (xR X).frames = fr ∧ (xR X).locals = lo ∧ (xR X).cells = mc ∧ (xR X).slots = ms
def V (G : Gl) (X : Cx0) (nL ce sl pc : Nat) (lv : List (Nat × Value)) (st : List Value) (cs : List va_E) : Prop :=
  ∀ (H : Heap) (locs : List Loc) (ls : Array Slot), va_P G.2.1 vwCl (mkW G.1 cs) H → va_S (fun q => G.1 ≤ q) (xS X).heap H locs → lv_has ls nL lv → W X.1 X.2.1 X.2.2.1 (xR X) (xS X) (xM X) (xA X) (xB X) (xMe X) (xC X) H locs ce sl (xQ X) (F0 (xM X) pc ls st)
def lget (lv : List (Nat × Value)) (i : Nat) : Option Value := match lv with
  | [] => none
  | q :: r => if q.1 = i then some q.2 else lget r i
theorem lget_mem {i : Nat} {v : Value} : ∀ {lv : List (Nat × Value)}, lget lv i = some v → (i, v) ∈ lv
  | [], h => by cases h
  | q :: r, h => by
    unfold lget at h
    by_cases hq : q.1 = i
    · rw [if_pos hq] at h
      obtain ⟨a, b⟩ := q
      cases hq; cases h
      exact List.mem_cons_self
    · rw [if_neg hq] at h
      exact List.mem_cons_of_mem _ (lget_mem h)
theorem lget_at {ls : Array Slot} {nL i : Nat} {lv : List (Nat × Value)} {v : Value} (h : lv_has ls nL lv) (hi : lget lv i = some v) : ls[i]? = some (.val v) := h.2.2 (i, v) (lget_mem hi)
def lset1 (lv : List (Nat × Value)) (i : Nat) (v : Value) : List (Nat × Value) := (i, v) :: lv.filter (fun q => !(q.1 == i) && !(q.1 + 1 == i && q.2.category == 2))
def lset2 (lv : List (Nat × Value)) (i : Nat) (v : Value) : List (Nat × Value) := (i, v) :: lv.filter (fun q => !(q.1 == i) && (!(q.1 == i + 1) && !(q.1 + 1 == i && q.2.category == 2)))
def rem32 (x y : Int32) : Int32 := x - x / y * y
def shl32 (x y : Int32) : Int32 := x <<< (y &&& 31)
def shr32 (x y : Int32) : Int32 := x >>> (y &&& 31)
def shl64 (x : Int64) (y : Int32) : Int64 := x <<< (y.toInt64 &&& 63)
section
variable {G : Gl} {X : Cx0} {cc : ByteArray} {nL fr lo mc ms ce sl pc : Nat} {own : String} {lv : List (Nat × Value)} {st : List Value} {cs : List va_E}
theorem V.lvs {lv' : List (Nat × Value)} (h : lv'.map (fun q => lget lv q.1) = lv'.map (fun q => some q.2)) (k : V G X nL ce sl pc lv' st cs) : V G X nL ce sl pc lv st cs := fun H locs ls a1 a2 a3 => by
  refine k H locs ls a1 a2 ⟨a3.1, a3.2.1, fun q hq => ?_⟩
  obtain ⟨i, hi⟩ := List.getElem?_of_mem hq
  have h1 : (lv'.map (fun q => lget lv q.1))[i]? = (lv'.map (fun q => some q.2))[i]? := by rw [h]
  rw [List.getElem?_map, List.getElem?_map, hi] at h1
  exact lget_at a3 (Option.some.inj h1)
theorem V.eq {st' : List Value} {cs' : List va_E} {pc' : Nat} (k : V G X nL ce sl pc' lv st' cs') (h1 : st = st') (h2 : cs = cs') (h3 : pc = pc') : V G X nL ce sl pc lv st cs := by subst h1; subst h2; subst h3; exact k
theorem V.topi {x : Int32} (k : ∀ y : Int32, y = x → V G X nL ce sl pc lv (.int y :: st) cs) : V G X nL ce sl pc lv (.int x :: st) cs := k x rfl

theorem V.iadd (C : Cx G X cc nL own fr lo mc ms) {x y : Int32} (d : decode cc pc = .ok (.iadd, 1)) (k : V G X nL ce sl (pc + 1) lv (.int (x + y) :: st) cs) : V G X nL ce sl pc lv (.int y :: .int x :: st) cs :=
  fun H locs ls a1 a2 a3 => lv_iadd C.1 C.2.1 d (k H locs ls a1 a2 a3)
theorem V.isub (C : Cx G X cc nL own fr lo mc ms) {x y : Int32} (d : decode cc pc = .ok (.isub, 1)) (k : V G X nL ce sl (pc + 1) lv (.int (x - y) :: st) cs) : V G X nL ce sl pc lv (.int y :: .int x :: st) cs :=
  fun H locs ls a1 a2 a3 => lv_isub C.1 C.2.1 d (k H locs ls a1 a2 a3)
theorem V.imul (C : Cx G X cc nL own fr lo mc ms) {x y : Int32} (d : decode cc pc = .ok (.imul, 1)) (k : V G X nL ce sl (pc + 1) lv (.int (x * y) :: st) cs) : V G X nL ce sl pc lv (.int y :: .int x :: st) cs :=
  fun H locs ls a1 a2 a3 => lv_imul C.1 C.2.1 d (k H locs ls a1 a2 a3)
theorem V.iand (C : Cx G X cc nL own fr lo mc ms) {x y : Int32} (d : decode cc pc = .ok (.iand, 1)) (k : V G X nL ce sl (pc + 1) lv (.int (x &&& y) :: st) cs) : V G X nL ce sl pc lv (.int y :: .int x :: st) cs :=
  fun H locs ls a1 a2 a3 => lv_iand C.1 C.2.1 d (k H locs ls a1 a2 a3)
theorem V.ior (C : Cx G X cc nL own fr lo mc ms) {x y : Int32} (d : decode cc pc = .ok (.ior, 1)) (k : V G X nL ce sl (pc + 1) lv (.int (x ||| y) :: st) cs) : V G X nL ce sl pc lv (.int y :: .int x :: st) cs :=
  fun H locs ls a1 a2 a3 => lv_ior C.1 C.2.1 d (k H locs ls a1 a2 a3)
theorem V.ixor (C : Cx G X cc nL own fr lo mc ms) {x y : Int32} (d : decode cc pc = .ok (.ixor, 1)) (k : V G X nL ce sl (pc + 1) lv (.int (x ^^^ y) :: st) cs) : V G X nL ce sl pc lv (.int y :: .int x :: st) cs :=
  fun H locs ls a1 a2 a3 => lv_ixor C.1 C.2.1 d (k H locs ls a1 a2 a3)
theorem V.ishl (C : Cx G X cc nL own fr lo mc ms) {x y : Int32} (d : decode cc pc = .ok (.ishl, 1)) (k : V G X nL ce sl (pc + 1) lv (.int (shl32 x y) :: st) cs) : V G X nL ce sl pc lv (.int y :: .int x :: st) cs :=
  fun H locs ls a1 a2 a3 => lv_ishl C.1 C.2.1 d (k H locs ls a1 a2 a3)
theorem V.ishr (C : Cx G X cc nL own fr lo mc ms) {x y : Int32} (d : decode cc pc = .ok (.ishr, 1)) (k : V G X nL ce sl (pc + 1) lv (.int (shr32 x y) :: st) cs) : V G X nL ce sl pc lv (.int y :: .int x :: st) cs :=
  fun H locs ls a1 a2 a3 => lv_ishr C.1 C.2.1 d (k H locs ls a1 a2 a3)
theorem V.idiv (C : Cx G X cc nL own fr lo mc ms) {x y : Int32} (hne : ¬ y = 0) (d : decode cc pc = .ok (.idiv, 1)) (k : V G X nL ce sl (pc + 1) lv (.int (x / y) :: st) cs) : V G X nL ce sl pc lv (.int y :: .int x :: st) cs :=
  fun H locs ls a1 a2 a3 => lv_idiv C.1 C.2.1 d hne (k H locs ls a1 a2 a3)
theorem V.irem (C : Cx G X cc nL own fr lo mc ms) {x y : Int32} (hne : ¬ y = 0) (d : decode cc pc = .ok (.irem, 1)) (k : V G X nL ce sl (pc + 1) lv (.int (rem32 x y) :: st) cs) : V G X nL ce sl pc lv (.int y :: .int x :: st) cs :=
  fun H locs ls a1 a2 a3 => lv_irem C.1 C.2.1 d hne (k H locs ls a1 a2 a3)
theorem V.land (C : Cx G X cc nL own fr lo mc ms) {x y : Int64} (d : decode cc pc = .ok (.land, 1)) (k : V G X nL ce sl (pc + 1) lv (.long (x &&& y) :: st) cs) : V G X nL ce sl pc lv (.long y :: .long x :: st) cs :=
  fun H locs ls a1 a2 a3 => lv_land C.1 C.2.1 d (k H locs ls a1 a2 a3)
theorem V.lor (C : Cx G X cc nL own fr lo mc ms) {x y : Int64} (d : decode cc pc = .ok (.lor, 1)) (k : V G X nL ce sl (pc + 1) lv (.long (x ||| y) :: st) cs) : V G X nL ce sl pc lv (.long y :: .long x :: st) cs :=
  fun H locs ls a1 a2 a3 => lv_lor C.1 C.2.1 d (k H locs ls a1 a2 a3)
theorem V.lxor (C : Cx G X cc nL own fr lo mc ms) {x y : Int64} (d : decode cc pc = .ok (.lxor, 1)) (k : V G X nL ce sl (pc + 1) lv (.long (x ^^^ y) :: st) cs) : V G X nL ce sl pc lv (.long y :: .long x :: st) cs :=
  fun H locs ls a1 a2 a3 => lv_lxor C.1 C.2.1 d (k H locs ls a1 a2 a3)
theorem V.lshl (C : Cx G X cc nL own fr lo mc ms) {x : Int64} {y : Int32} (d : decode cc pc = .ok (.lshl, 1)) (k : V G X nL ce sl (pc + 1) lv (.long (shl64 x y) :: st) cs) : V G X nL ce sl pc lv (.int y :: .long x :: st) cs :=
  fun H locs ls a1 a2 a3 => lv_lshl C.1 C.2.1 d rfl (k H locs ls a1 a2 a3)
theorem V.lcmp (C : Cx G X cc nL own fr lo mc ms) {x y : Int64} (d : decode cc pc = .ok (.lcmp, 1)) (k : V G X nL ce sl (pc + 1) lv (.int (lg_cmp x y) :: st) cs) : V G X nL ce sl pc lv (.long y :: .long x :: st) cs :=
  fun H locs ls a1 a2 a3 => W.lcmp C.1 C.2.1 d (k H locs ls a1 a2 a3)
theorem V.i2c (C : Cx G X cc nL own fr lo mc ms) {x : Int32} (v : Int32) (hv : (x.toUInt32 % 65536).toInt32 = v) (d : decode cc pc = .ok (.i2c, 1)) (k : V G X nL ce sl (pc + 1) lv (.int v :: st) cs) : V G X nL ce sl pc lv (.int x :: st) cs :=
  fun H locs ls a1 a2 a3 => lv_i2c C.1 C.2.1 d hv (k H locs ls a1 a2 a3)
theorem V.iconst (C : Cx G X cc nL own fr lo mc ms) {n : Int} (v : Int32) (hv : Int32.ofInt n = v) (d : decode cc pc = .ok (.iconst n, 1)) (k : V G X nL ce sl (pc + 1) lv (.int v :: st) cs) : V G X nL ce sl pc lv st cs :=
  fun H locs ls a1 a2 a3 => lv_iconst C.1 C.2.1 d hv (k H locs ls a1 a2 a3)
theorem V.bipush (C : Cx G X cc nL own fr lo mc ms) {n : Int} (v : Int32) (hv : (Int8.ofInt n).toInt32 = v) (d : decode cc pc = .ok (.bipush n, 2)) (k : V G X nL ce sl (pc + 2) lv (.int v :: st) cs) : V G X nL ce sl pc lv st cs :=
  fun H locs ls a1 a2 a3 => lv_bipush C.1 C.2.1 d hv (k H locs ls a1 a2 a3)
theorem V.sipush (C : Cx G X cc nL own fr lo mc ms) {n : Int} (v : Int32) (hv : (Int16.ofInt n).toInt32 = v) (d : decode cc pc = .ok (.sipush n, 3)) (k : V G X nL ce sl (pc + 3) lv (.int v :: st) cs) : V G X nL ce sl pc lv st cs :=
  fun H locs ls a1 a2 a3 => lv_sipush C.1 C.2.1 d hv (k H locs ls a1 a2 a3)
theorem V.lconst (C : Cx G X cc nL own fr lo mc ms) {n : Fin 2} (v : Int64) (hv : Int64.ofNat (n : Nat) = v) (d : decode cc pc = .ok (.lconst n, 1)) (k : V G X nL ce sl (pc + 1) lv (.long v :: st) cs) : V G X nL ce sl pc lv st cs :=
  fun H locs ls a1 a2 a3 => lv_lconst C.1 C.2.1 d hv (k H locs ls a1 a2 a3)
theorem V.ldc (C : Cx G X cc nL own fr lo mc ms) {i : Nat} {v : Int32} (hw : Cond.constant own i v ∈ TB) (d : decode cc pc = .ok (.ldc i, 2)) (k : V G X nL ce sl (pc + 2) lv (.int v :: st) cs) : V G X nL ce sl pc lv st cs :=
  fun H locs ls a1 a2 a3 => lv_ldc C.1 C.2.1 C.2.2.2.1 (C.2.2.2.2.1 _ hw) d (k H locs ls a1 a2 a3)
theorem V.ldc2 (C : Cx G X cc nL own fr lo mc ms) {i : Nat} {v : Int64} (hw : Cond.constantLong own i v ∈ TB) (d : decode cc pc = .ok (.ldc2_w i, 3)) (k : V G X nL ce sl (pc + 3) lv (.long v :: st) cs) : V G X nL ce sl pc lv st cs :=
  fun H locs ls a1 a2 a3 => lv_ldc2 C.1 C.2.1 C.2.2.2.1 (C.2.2.2.2.1 _ hw) d (k H locs ls a1 a2 a3)
theorem V.dup (C : Cx G X cc nL own fr lo mc ms) {v : Value} (hv : v.category = 1) (d : decode cc pc = .ok (.dup, 1)) (k : V G X nL ce sl (pc + 1) lv (v :: v :: st) cs) : V G X nL ce sl pc lv (v :: st) cs :=
  fun H locs ls a1 a2 a3 => lv_dup C.1 C.2.1 d hv (k H locs ls a1 a2 a3)
theorem V.dup2 (C : Cx G X cc nL own fr lo mc ms) {v w : Value} (hv : v.category = 1) (hw : w.category = 1) (d : decode cc pc = .ok (.dup2, 1)) (k : V G X nL ce sl (pc + 1) lv (v :: w :: v :: w :: st) cs) : V G X nL ce sl pc lv (v :: w :: st) cs :=
  fun H locs ls a1 a2 a3 => lv_dup2_11 C.1 C.2.1 d hv hw (k H locs ls a1 a2 a3)
theorem V.pop (C : Cx G X cc nL own fr lo mc ms) {v : Value} (hv : v.category = 1) (d : decode cc pc = .ok (.pop, 1)) (k : V G X nL ce sl (pc + 1) lv st cs) : V G X nL ce sl pc lv (v :: st) cs :=
  fun H locs ls a1 a2 a3 => lv_pop C.1 C.2.1 d hv (k H locs ls a1 a2 a3)
theorem V.iload_n (C : Cx G X cc nL own fr lo mc ms) (i : Nat) {k0 : Fin 4} {x : Int32} (hi : (k0 : Nat) = i) (h : lget lv i = some (.int x)) (d : decode cc pc = .ok (.iload_n k0, 1)) (k : V G X nL ce sl (pc + 1) lv (.int x :: st) cs) : V G X nL ce sl pc lv st cs :=
  fun H locs ls a1 a2 a3 => lv_iload_n C.1 C.2.1 d hi (lget_at a3 h) (k H locs ls a1 a2 a3)
theorem V.iload (C : Cx G X cc nL own fr lo mc ms) {i : Nat} {x : Int32} (h : lget lv i = some (.int x)) (d : decode cc pc = .ok (.iload i, 2)) (k : V G X nL ce sl (pc + 2) lv (.int x :: st) cs) : V G X nL ce sl pc lv st cs :=
  fun H locs ls a1 a2 a3 => lv_iload C.1 C.2.1 d (lget_at a3 h) (k H locs ls a1 a2 a3)
theorem V.istore_n (C : Cx G X cc nL own fr lo mc ms) (i : Nat) {k0 : Fin 4} {x : Int32} (d : decode cc pc = .ok (.istore_n k0, 1)) (hi : (k0 : Nat) = i) (hn : i < nL) (k : V G X nL ce sl (pc + 1) (lset1 lv i (.int x)) st cs) : V G X nL ce sl pc lv (.int x :: st) cs :=
  fun H locs ls a1 a2 a3 => lv_istore_n C.1 C.2.1 d hi a3 hn rfl (fun ls a3 => k H locs ls a1 a2 a3)
theorem V.istore (C : Cx G X cc nL own fr lo mc ms) {i : Nat} {x : Int32} (d : decode cc pc = .ok (.istore i, 2)) (hn : i < nL) (k : V G X nL ce sl (pc + 2) (lset1 lv i (.int x)) st cs) : V G X nL ce sl pc lv (.int x :: st) cs :=
  fun H locs ls a1 a2 a3 => lv_istore C.1 C.2.1 d a3 hn rfl (fun ls a3 => k H locs ls a1 a2 a3)
theorem V.lload_n (C : Cx G X cc nL own fr lo mc ms) (i : Nat) {k0 : Fin 4} {x : Int64} (hi : (k0 : Nat) = i) (h : lget lv i = some (.long x)) (d : decode cc pc = .ok (.lload_n k0, 1)) (k : V G X nL ce sl (pc + 1) lv (.long x :: st) cs) : V G X nL ce sl pc lv st cs :=
  fun H locs ls a1 a2 a3 => lv_lload_n C.1 C.2.1 d hi (lget_at a3 h) (k H locs ls a1 a2 a3)
theorem V.lload (C : Cx G X cc nL own fr lo mc ms) {i : Nat} {x : Int64} (h : lget lv i = some (.long x)) (d : decode cc pc = .ok (.lload i, 2)) (k : V G X nL ce sl (pc + 2) lv (.long x :: st) cs) : V G X nL ce sl pc lv st cs :=
  fun H locs ls a1 a2 a3 => lv_lload C.1 C.2.1 d (lget_at a3 h) (k H locs ls a1 a2 a3)
theorem V.lstore_n (C : Cx G X cc nL own fr lo mc ms) (i : Nat) {k0 : Fin 4} {x : Int64} (d : decode cc pc = .ok (.lstore_n k0, 1)) (hi : (k0 : Nat) = i) (hn : i + 1 < nL) (k : V G X nL ce sl (pc + 1) (lset2 lv i (.long x)) st cs) : V G X nL ce sl pc lv (.long x :: st) cs :=
  fun H locs ls a1 a2 a3 => lv_lstore_n C.1 C.2.1 d hi a3 hn rfl (fun ls a3 => k H locs ls a1 a2 a3)
theorem V.lstore (C : Cx G X cc nL own fr lo mc ms) {i : Nat} {x : Int64} (d : decode cc pc = .ok (.lstore i, 2)) (hn : i + 1 < nL) (k : V G X nL ce sl (pc + 2) (lset2 lv i (.long x)) st cs) : V G X nL ce sl pc lv (.long x :: st) cs :=
  fun H locs ls a1 a2 a3 => lv_lstore C.1 C.2.1 d a3 hn rfl (fun ls a3 => k H locs ls a1 a2 a3)
theorem V.aload_n (C : Cx G X cc nL own fr lo mc ms) (i : Nat) {k0 : Fin 4} {x : Nat} (hi : (k0 : Nat) = i) (h : lget lv i = some (Rf G x)) (d : decode cc pc = .ok (.aload_n k0, 1)) (k : V G X nL ce sl (pc + 1) lv (Rf G x :: st) cs) : V G X nL ce sl pc lv st cs :=
  fun H locs ls a1 a2 a3 => lv_aload_n C.1 C.2.1 d hi (lget_at a3 h) (k H locs ls a1 a2 a3)
theorem V.aload (C : Cx G X cc nL own fr lo mc ms) {i : Nat} {x : Nat} (h : lget lv i = some (Rf G x)) (d : decode cc pc = .ok (.aload i, 2)) (k : V G X nL ce sl (pc + 2) lv (Rf G x :: st) cs) : V G X nL ce sl pc lv st cs :=
  fun H locs ls a1 a2 a3 => lv_aload C.1 C.2.1 d (lget_at a3 h) (k H locs ls a1 a2 a3)
theorem V.astore_n (C : Cx G X cc nL own fr lo mc ms) (i : Nat) {k0 : Fin 4} {x : Nat} (d : decode cc pc = .ok (.astore_n k0, 1)) (hi : (k0 : Nat) = i) (hn : i < nL) (k : V G X nL ce sl (pc + 1) (lset1 lv i (Rf G x)) st cs) : V G X nL ce sl pc lv (Rf G x :: st) cs :=
  fun H locs ls a1 a2 a3 => lv_astore_n C.1 C.2.1 d hi a3 hn rfl (fun ls a3 => k H locs ls a1 a2 a3)
theorem V.astore (C : Cx G X cc nL own fr lo mc ms) {i : Nat} {x : Nat} (d : decode cc pc = .ok (.astore i, 2)) (hn : i < nL) (k : V G X nL ce sl (pc + 2) (lset1 lv i (Rf G x)) st cs) : V G X nL ce sl pc lv (Rf G x :: st) cs :=
  fun H locs ls a1 a2 a3 => lv_astore C.1 C.2.1 d a3 hn rfl (fun ls a3 => k H locs ls a1 a2 a3)
theorem V.rload_n (C : Cx G X cc nL own fr lo mc ms) (i : Nat) {k0 : Fin 4} {x : Nat} (hi : (k0 : Nat) = i) (h : lget lv i = some (.ref x)) (d : decode cc pc = .ok (.aload_n k0, 1)) (k : V G X nL ce sl (pc + 1) lv (.ref x :: st) cs) : V G X nL ce sl pc lv st cs :=
  fun H locs ls a1 a2 a3 => lv_aload_n C.1 C.2.1 d hi (lget_at a3 h) (k H locs ls a1 a2 a3)
theorem V.rload (C : Cx G X cc nL own fr lo mc ms) {i : Nat} {x : Nat} (h : lget lv i = some (.ref x)) (d : decode cc pc = .ok (.aload i, 2)) (k : V G X nL ce sl (pc + 2) lv (.ref x :: st) cs) : V G X nL ce sl pc lv st cs :=
  fun H locs ls a1 a2 a3 => lv_aload C.1 C.2.1 d (lget_at a3 h) (k H locs ls a1 a2 a3)
theorem V.iinc (C : Cx G X cc nL own fr lo mc ms) {i : Nat} {n : Int} {x : Int32} (v : Int32) (d : decode cc pc = .ok (.iinc i n, 3)) (h : lget lv i = some (.int x)) (hv : x + Int32.ofInt n = v) (hn : i < nL) (k : V G X nL ce sl (pc + 3) (lset1 lv i (.int v)) st cs) : V G X nL ce sl pc lv st cs :=
  fun H locs ls a1 a2 a3 => by
    obtain ⟨j, hj⟩ := List.getElem?_of_mem (lget_mem h)
    exact lv_iinc C.1 C.2.1 d a3 hj hv hn rfl (fun ls a3 => k H locs ls a1 a2 a3)
theorem V.if_eq (C : Cx G X cc nL own fr lo mc ms) {x : Int32} {off : Int} (tgt : Nat) (d : decode cc pc = .ok (.ifCond .eq off, 3)) (ht : (pc : Int) + off = (tgt : Int)) (kt : (x = 0) → V G X nL ce sl tgt lv st cs) (kf : ¬ (x = 0) → V G X nL ce sl (pc + 3) lv st cs) : V G X nL ce sl pc lv (.int x :: st) cs :=
  fun H locs ls a1 a2 a3 => lv_if_eq C.1 C.2.1 d ht (fun h => kt h H locs ls a1 a2 a3) (fun h => kf h H locs ls a1 a2 a3)
theorem V.icmp_eq (C : Cx G X cc nL own fr lo mc ms) {x y : Int32} {off : Int} (tgt : Nat) (d : decode cc pc = .ok (.if_icmp .eq off, 3)) (ht : (pc : Int) + off = (tgt : Int)) (kt : (x = y) → V G X nL ce sl tgt lv st cs) (kf : ¬ (x = y) → V G X nL ce sl (pc + 3) lv st cs) : V G X nL ce sl pc lv (.int y :: .int x :: st) cs :=
  fun H locs ls a1 a2 a3 => lv_icmp_eq C.1 C.2.1 d ht (fun h => kt h H locs ls a1 a2 a3) (fun h => kf h H locs ls a1 a2 a3)
theorem V.if_lt (C : Cx G X cc nL own fr lo mc ms) {x : Int32} {off : Int} (tgt : Nat) (d : decode cc pc = .ok (.ifCond .lt off, 3)) (ht : (pc : Int) + off = (tgt : Int)) (kt : (x < 0) → V G X nL ce sl tgt lv st cs) (kf : ¬ (x < 0) → V G X nL ce sl (pc + 3) lv st cs) : V G X nL ce sl pc lv (.int x :: st) cs :=
  fun H locs ls a1 a2 a3 => lv_if_lt C.1 C.2.1 d ht (fun h => kt h H locs ls a1 a2 a3) (fun h => kf h H locs ls a1 a2 a3)
theorem V.icmp_lt (C : Cx G X cc nL own fr lo mc ms) {x y : Int32} {off : Int} (tgt : Nat) (d : decode cc pc = .ok (.if_icmp .lt off, 3)) (ht : (pc : Int) + off = (tgt : Int)) (kt : (x < y) → V G X nL ce sl tgt lv st cs) (kf : ¬ (x < y) → V G X nL ce sl (pc + 3) lv st cs) : V G X nL ce sl pc lv (.int y :: .int x :: st) cs :=
  fun H locs ls a1 a2 a3 => lv_icmp_lt C.1 C.2.1 d ht (fun h => kt h H locs ls a1 a2 a3) (fun h => kf h H locs ls a1 a2 a3)
theorem V.if_ge (C : Cx G X cc nL own fr lo mc ms) {x : Int32} {off : Int} (tgt : Nat) (d : decode cc pc = .ok (.ifCond .ge off, 3)) (ht : (pc : Int) + off = (tgt : Int)) (kt : (x ≥ 0) → V G X nL ce sl tgt lv st cs) (kf : ¬ (x ≥ 0) → V G X nL ce sl (pc + 3) lv st cs) : V G X nL ce sl pc lv (.int x :: st) cs :=
  fun H locs ls a1 a2 a3 => lv_if_ge C.1 C.2.1 d ht (fun h => kt h H locs ls a1 a2 a3) (fun h => kf h H locs ls a1 a2 a3)
theorem V.icmp_ge (C : Cx G X cc nL own fr lo mc ms) {x y : Int32} {off : Int} (tgt : Nat) (d : decode cc pc = .ok (.if_icmp .ge off, 3)) (ht : (pc : Int) + off = (tgt : Int)) (kt : (x ≥ y) → V G X nL ce sl tgt lv st cs) (kf : ¬ (x ≥ y) → V G X nL ce sl (pc + 3) lv st cs) : V G X nL ce sl pc lv (.int y :: .int x :: st) cs :=
  fun H locs ls a1 a2 a3 => lv_icmp_ge C.1 C.2.1 d ht (fun h => kt h H locs ls a1 a2 a3) (fun h => kf h H locs ls a1 a2 a3)
theorem V.if_gt (C : Cx G X cc nL own fr lo mc ms) {x : Int32} {off : Int} (tgt : Nat) (d : decode cc pc = .ok (.ifCond .gt off, 3)) (ht : (pc : Int) + off = (tgt : Int)) (kt : (x > 0) → V G X nL ce sl tgt lv st cs) (kf : ¬ (x > 0) → V G X nL ce sl (pc + 3) lv st cs) : V G X nL ce sl pc lv (.int x :: st) cs :=
  fun H locs ls a1 a2 a3 => lv_if_gt C.1 C.2.1 d ht (fun h => kt h H locs ls a1 a2 a3) (fun h => kf h H locs ls a1 a2 a3)
theorem V.icmp_gt (C : Cx G X cc nL own fr lo mc ms) {x y : Int32} {off : Int} (tgt : Nat) (d : decode cc pc = .ok (.if_icmp .gt off, 3)) (ht : (pc : Int) + off = (tgt : Int)) (kt : (x > y) → V G X nL ce sl tgt lv st cs) (kf : ¬ (x > y) → V G X nL ce sl (pc + 3) lv st cs) : V G X nL ce sl pc lv (.int y :: .int x :: st) cs :=
  fun H locs ls a1 a2 a3 => lv_icmp_gt C.1 C.2.1 d ht (fun h => kt h H locs ls a1 a2 a3) (fun h => kf h H locs ls a1 a2 a3)
theorem V.if_le (C : Cx G X cc nL own fr lo mc ms) {x : Int32} {off : Int} (tgt : Nat) (d : decode cc pc = .ok (.ifCond .le off, 3)) (ht : (pc : Int) + off = (tgt : Int)) (kt : (x ≤ 0) → V G X nL ce sl tgt lv st cs) (kf : ¬ (x ≤ 0) → V G X nL ce sl (pc + 3) lv st cs) : V G X nL ce sl pc lv (.int x :: st) cs :=
  fun H locs ls a1 a2 a3 => lv_if_le C.1 C.2.1 d ht (fun h => kt h H locs ls a1 a2 a3) (fun h => kf h H locs ls a1 a2 a3)
theorem V.icmp_le (C : Cx G X cc nL own fr lo mc ms) {x y : Int32} {off : Int} (tgt : Nat) (d : decode cc pc = .ok (.if_icmp .le off, 3)) (ht : (pc : Int) + off = (tgt : Int)) (kt : (x ≤ y) → V G X nL ce sl tgt lv st cs) (kf : ¬ (x ≤ y) → V G X nL ce sl (pc + 3) lv st cs) : V G X nL ce sl pc lv (.int y :: .int x :: st) cs :=
  fun H locs ls a1 a2 a3 => lv_icmp_le C.1 C.2.1 d ht (fun h => kt h H locs ls a1 a2 a3) (fun h => kf h H locs ls a1 a2 a3)
theorem V.if_ne (C : Cx G X cc nL own fr lo mc ms) {x : Int32} {off : Int} (tgt : Nat) (d : decode cc pc = .ok (.ifCond .ne off, 3)) (ht : (pc : Int) + off = (tgt : Int)) (kt : ¬ x = 0 → V G X nL ce sl tgt lv st cs) (kf : x = 0 → V G X nL ce sl (pc + 3) lv st cs) : V G X nL ce sl pc lv (.int x :: st) cs :=
  fun H locs ls a1 a2 a3 => lv_if_ne C.1 C.2.1 d ht (fun h => kt h H locs ls a1 a2 a3) (fun h => kf h H locs ls a1 a2 a3)
theorem V.icmp_ne (C : Cx G X cc nL own fr lo mc ms) {x y : Int32} {off : Int} (tgt : Nat) (d : decode cc pc = .ok (.if_icmp .ne off, 3)) (ht : (pc : Int) + off = (tgt : Int)) (kt : ¬ x = y → V G X nL ce sl tgt lv st cs) (kf : x = y → V G X nL ce sl (pc + 3) lv st cs) : V G X nL ce sl pc lv (.int y :: .int x :: st) cs :=
  fun H locs ls a1 a2 a3 => lv_icmp_ne C.1 C.2.1 d ht (fun h => kt h H locs ls a1 a2 a3) (fun h => kf h H locs ls a1 a2 a3)
theorem V.goto (C : Cx G X cc nL own fr lo mc ms) {off : Int} (tgt : Nat) (d : decode cc pc = .ok (.goto off, 3)) (ht : (pc : Int) + off = (tgt : Int)) (k : V G X nL ce sl tgt lv st cs) : V G X nL ce sl pc lv st cs :=
  fun H locs ls a1 a2 a3 => lv_goto C.1 C.2.1 d ht (k H locs ls a1 a2 a3)
/-- a field's link: the class and the slot that pool entry idx of class own names; final or not; its type -/
def FLk (own : String) (idx ci j : Nat) (fin : Option Bool) (ty : FieldType) : Prop := ∃ (C : String) (T : u_T) (N : Nat) (ty0 : Nat → FieldType), vwCl[ci]? = some (C, T, N) ∧ j < N ∧ (∀ w ∈ u_ws C T N, w ∈ TB) ∧ (∀ k, k < N → parseFieldDescriptor (T k).2.2.1 = some (ty0 k)) ∧ (∀ a, a < N → ∀ b, b < N → a ≠ b → (T a).2.1 ≠ (T b).2.1) ∧ Cond.fieldLink own idx (T j).1 (T j).2.1 (T j).2.2.1 ∈ TB ∧ parseFieldDescriptor (T j).2.2.1 = some ty ∧ (fin = some false → (T j).2.2.2 = false) ∧ (fin = some true → (T j).2.2.2 = true ∧ (T j).1 = own)
theorem V.get (C : Cx G X cc nL own fr lo mc ms) {idx ci j k0 : Nat} {fin : Option Bool} {ty : FieldType} {fs : List Value} {v : Value} (F : FLk own idx ci j fin ty) (d : decode cc pc = .ok (.getfield idx, 3)) (hc : cs[k0]? = some (ob ci fs)) (hv : fs[j]? = some v) (k : V G X nL ce sl (pc + 3) lv (v :: st) cs) : V G X nL ce sl pc lv (Rf G k0 :: st) cs := by
  obtain ⟨Cn, T, N, ty0, f1, f2, f3, f4, f5, f6, f7, f8, f9⟩ := F
  exact fun H locs ls a1 a2 a3 => va_get C.1 C.2.1 C.2.2.2.2.1 f3 C.2.2.2.1 C.2.2.2.2.2.1.1 a1 k0 (mkW_get hc) f1 j f2 (C.2.2.2.2.1 _ f6) (fun _ h => h) hv d (k H locs ls a1 a2 a3)
theorem V.put (C : Cx G X cc nL own fr lo mc ms) {idx ci j k0 : Nat} {ty : FieldType} {fs : List Value} {v : Value} (F : FLk own idx ci j (some false) ty) (d : decode cc pc = .ok (.putfield idx, 3)) (hc : cs[k0]? = some (ob ci fs)) (hn : narrow ty v = v) (hf : fits ty v = true) (hl : j < fs.length) (k : V G X nL ce sl (pc + 3) lv st (cs.set k0 (ob ci (fs.set j v)))) : V G X nL ce sl pc lv (v :: Rf G k0 :: st) cs := by
  obtain ⟨Cn, T, N, ty0, f1, f2, f3, f4, f5, f6, f7, f8, f9⟩ := F
  exact fun H locs ls a1 a2 a3 => va_put C.1 C.2.1 C.2.2.2.2.1 f3 ty0 f4 f5 C.2.2.2.1 C.2.2.2.2.2.1.1 a1 (mkW_D _ _) a2 k0 (mkW_get hc) f1 j f2 (C.2.2.2.2.1 _ f6) (fun _ h => h) (f8 rfl) f7 hn hf hl d (fun H1 locs1 b1 b2 b3 => k H1 locs1 ls (by rw [← mkW_set]; exact b1) b3 a3)
theorem V.putF (C : Cx G X cc nL own fr lo mc ms) (hin : (xMe X).name = "<init>") {idx ci j k0 : Nat} {ty : FieldType} {fs : List Value} {v : Value} (F : FLk own idx ci j (some true) ty) (d : decode cc pc = .ok (.putfield idx, 3)) (hc : cs[k0]? = some (ob ci fs)) (hn : narrow ty v = v) (hf : fits ty v = true) (hl : j < fs.length) (k : V G X nL ce sl (pc + 3) lv st (cs.set k0 (ob ci (fs.set j v)))) : V G X nL ce sl pc lv (v :: Rf G k0 :: st) cs := by
  obtain ⟨Cn, T, N, ty0, f1, f2, f3, f4, f5, f6, f7, f8, f9⟩ := F
  exact fun H locs ls a1 a2 a3 => va_putF C.1 C.2.1 C.2.2.2.2.1 f3 ty0 f4 f5 C.2.2.2.1 C.2.2.2.2.2.1.1 a1 (mkW_D _ _) a2 k0 (mkW_get hc) f1 j f2 (C.2.2.2.2.1 _ f6) (fun _ h => h) (f9 rfl).1 hin (f9 rfl).2 f7 hn hf hl d (fun H1 locs1 b1 b2 b3 => k H1 locs1 ls (by rw [← mkW_set]; exact b1) b3 a3)
theorem V.iald (C : Cx G X cc nL own fr lo mc ms) {k0 n : Nat} {f : Nat → Int32} {i : Int32} (d : decode cc pc = .ok (.iaload, 1)) (hc : cs[k0]? = some (aI G n f)) (hin : vp_in i n) (k : V G X nL ce sl (pc + 1) lv (.int (f i.toNatClampNeg) :: st) cs) : V G X nL ce sl pc lv (.int i :: Rf G k0 :: st) cs :=
  fun H locs ls a1 a2 a3 => va_iald C.1 C.2.1 C.2.2.2.2.2.1.1 a1 k0 0 (mkW_get hc) rfl hin d (k H locs ls a1 a2 a3)
theorem V.zald (C : Cx G X cc nL own fr lo mc ms) {k0 n : Nat} {f : Nat → Int32} {i : Int32} (d : decode cc pc = .ok (.baload, 1)) (hc : cs[k0]? = some (aZ G n f)) (hin : vp_in i n) (k : V G X nL ce sl (pc + 1) lv (.int (f i.toNatClampNeg) :: st) cs) : V G X nL ce sl pc lv (.int i :: Rf G k0 :: st) cs :=
  fun H locs ls a1 a2 a3 => va_zald C.1 C.2.1 C.2.2.2.2.2.1.1 a1 k0 2 (mkW_get hc) rfl hin d (k H locs ls a1 a2 a3)
theorem V.cald (C : Cx G X cc nL own fr lo mc ms) {k0 n : Nat} {f : Nat → Int32} {i : Int32} (d : decode cc pc = .ok (.caload, 1)) (hc : cs[k0]? = some (aC G n f)) (hin : vp_in i n) (k : V G X nL ce sl (pc + 1) lv (.int (f i.toNatClampNeg) :: st) cs) : V G X nL ce sl pc lv (.int i :: Rf G k0 :: st) cs :=
  fun H locs ls a1 a2 a3 => va_cald C.1 C.2.1 C.2.2.2.2.2.1.1 a1 k0 3 (mkW_get hc) rfl hin d (k H locs ls a1 a2 a3)
theorem V.lald (C : Cx G X cc nL own fr lo mc ms) {k0 n : Nat} {f : Nat → Int64} {i : Int32} (d : decode cc pc = .ok (.laload, 1)) (hc : cs[k0]? = some (aL G n f)) (hin : vp_in i n) (k : V G X nL ce sl (pc + 1) lv (.long (f i.toNatClampNeg) :: st) cs) : V G X nL ce sl pc lv (.int i :: Rf G k0 :: st) cs :=
  fun H locs ls a1 a2 a3 => va_lald C.1 C.2.1 C.2.2.2.2.2.1.1 a1 k0 1 (mkW_get hc) rfl hin d (k H locs ls a1 a2 a3)
theorem V.iast (C : Cx G X cc nL own fr lo mc ms) {k0 n : Nat} {f : Nat → Int32} {i : Int32} {x : Int32} (d : decode cc pc = .ok (.iastore, 1)) (hc : cs[k0]? = some (aI G n f)) (hin : vp_in i n) (k : V G X nL ce sl (pc + 1) lv st (cs.set k0 (aI G n (va_up f i.toNatClampNeg (x))))) : V G X nL ce sl pc lv (.int x :: .int i :: Rf G k0 :: st) cs :=
  fun H locs ls a1 a2 a3 => va_iast C.1 C.2.1 C.2.2.2.2.2.1.1 a1 (mkW_D _ _) a2 k0 0 (mkW_get hc) rfl hin d (fun H1 locs1 b1 b2 b3 => k H1 locs1 ls (by rw [← mkW_set]; exact b1) b3 a3)
theorem V.zast (C : Cx G X cc nL own fr lo mc ms) {k0 n : Nat} {f : Nat → Int32} {i : Int32} {x : Int32} (d : decode cc pc = .ok (.bastore, 1)) (hc : cs[k0]? = some (aZ G n f)) (hin : vp_in i n) (k : V G X nL ce sl (pc + 1) lv st (cs.set k0 (aZ G n (va_up f i.toNatClampNeg (vp_nar .boolean x))))) : V G X nL ce sl pc lv (.int x :: .int i :: Rf G k0 :: st) cs :=
  fun H locs ls a1 a2 a3 => va_zast C.1 C.2.1 C.2.2.2.2.2.1.1 a1 (mkW_D _ _) a2 k0 2 (mkW_get hc) rfl hin d (fun H1 locs1 b1 b2 b3 => k H1 locs1 ls (by rw [← mkW_set]; exact b1) b3 a3)
theorem V.cast (C : Cx G X cc nL own fr lo mc ms) {k0 n : Nat} {f : Nat → Int32} {i : Int32} {x : Int32} (d : decode cc pc = .ok (.castore, 1)) (hc : cs[k0]? = some (aC G n f)) (hin : vp_in i n) (k : V G X nL ce sl (pc + 1) lv st (cs.set k0 (aC G n (va_up f i.toNatClampNeg (vp_nar .char x))))) : V G X nL ce sl pc lv (.int x :: .int i :: Rf G k0 :: st) cs :=
  fun H locs ls a1 a2 a3 => va_cast C.1 C.2.1 C.2.2.2.2.2.1.1 a1 (mkW_D _ _) a2 k0 3 (mkW_get hc) rfl hin d (fun H1 locs1 b1 b2 b3 => k H1 locs1 ls (by rw [← mkW_set]; exact b1) b3 a3)
theorem V.last (C : Cx G X cc nL own fr lo mc ms) {k0 n : Nat} {f : Nat → Int64} {i : Int32} {x : Int64} (d : decode cc pc = .ok (.lastore, 1)) (hc : cs[k0]? = some (aL G n f)) (hin : vp_in i n) (k : V G X nL ce sl (pc + 1) lv st (cs.set k0 (aL G n (va_up f i.toNatClampNeg (x))))) : V G X nL ce sl pc lv (.long x :: .int i :: Rf G k0 :: st) cs :=
  fun H locs ls a1 a2 a3 => va_last C.1 C.2.1 C.2.2.2.2.2.1.1 a1 (mkW_D _ _) a2 k0 1 (mkW_get hc) rfl hin d (fun H1 locs1 b1 b2 b3 => k H1 locs1 ls (by rw [← mkW_set]; exact b1) b3 a3)
theorem V.pald (C : Cx G X cc nL own fr lo mc ms) {k0 n j : Nat} {f : Nat → Option Nat} {i : Int32} (d : decode cc pc = .ok (.aaload, 1)) (hc : cs[k0]? = some (aP G n f)) (hin : vp_in i n) (hj : f i.toNatClampNeg = some j) (k : V G X nL ce sl (pc + 1) lv (Rf G j :: st) cs) : V G X nL ce sl pc lv (.int i :: Rf G k0 :: st) cs :=
  fun H locs ls a1 a2 a3 => va_aldq C.1 C.2.1 C.2.2.2.2.2.1.1 a1 k0 4 (mkW_get hc) rfl hin d (by simp only [hj]; exact k H locs ls a1 a2 a3)
theorem V.past (C : Cx G X cc nL own fr lo mc ms) {k0 n j : Nat} {f : Nat → Option Nat} {fs : List Value} {i : Int32} (d : decode cc pc = .ok (.aastore, 1)) (hc : cs[k0]? = some (aP G n f)) (hj : cs[j]? = some (ob 4 fs)) (hin : vp_in i n) (k : V G X nL ce sl (pc + 1) lv st (cs.set k0 (aP G n (va_up f i.toNatClampNeg (some j))))) : V G X nL ce sl pc lv (Rf G j :: .int i :: Rf G k0 :: st) cs :=
  fun H locs ls a1 a2 a3 => va_astq C.1 C.2.1 C.2.2.2.2.2.1.1 a1 (mkW_D _ _) a2 k0 4 j 4 (mkW_get hc) (r := (RX4, TX4, 3)) rfl (mkW_get hj) rfl hin d (fun H1 locs1 b1 b2 b3 => k H1 locs1 ls (by
    rw [← mkW_set]
    have e : aP G n (va_up f i.toNatClampNeg (some j)) = .inl (G.2.2 4, n, .inr (.inr (.inr (.inr (va_up (fun z => (f z).map (G.1 + ·)) i.toNatClampNeg (some (G.1 + j))))))) := by
      unfold aP
      congr 5
      congr 1
      congr 1
      funext z
      unfold va_up
      by_cases hz : z = i.toNatClampNeg
      · simp [hz]
      · simp [hz]
    rw [e]
    exact b1) b3 a3)
end
end
section
/-! Contracts over V, calls, answers, new cells. A method: name, bytes, locals, answer's type, frames and words of room below it. -/
abbrev Mi : Type := MethodName × ByteArray × Nat × Option FieldType × Nat × Nat
def mWs (μ : Mi) : List Cond := .code μ.1 μ.2.1 μ.2.2.1 μ.2.2.2.1 :: TB
def mRm (μ : Mi) (mc ms : Nat) : Room := { frames := μ.2.2.2.2.1, cells := mc, slots := ms, locals := μ.2.2.2.2.2 }
def Qx (G : Gl) (post : Option Value → List va_E → Prop) : Array Value → State → Outcome → State → Prop := fun _ st oc t => (∃ (v : Option Value) (cs' : List va_E), oc = .returned v ∧ post v cs' ∧ va_P G.2.1 vwCl (mkW G.1 cs') t.heap) ∧ va_F (fun q => G.1 ≤ q) st t
def Px (G : Gl) (As : List Value) (cs : List va_E) (sz : Bool) : Array Value → State → Prop := va_Pc As (fun U => (sz = true → U.heap.size = G.1 + cs.length) ∧ va_P G.2.1 vwCl (mkW G.1 cs) U.heap ∧ Ks G U)
def Ctr (G : Gl) (μ : Mi) (As : List Value) (cs : List va_E) (sz : Bool) (mc ms : Nat) (post : Option Value → List va_E → Prop) : Prop :=
  ∀ l : Launch, Met l μ.1 (mWs μ) (mRm μ mc ms) (Px G As cs sz) (Qx G post) mc ms (fun q => G.1 ≤ q)
def MOk (μ : Mi) : Prop := Cond.code μ.1 μ.2.1 μ.2.2.1 μ.2.2.2.1 ∈ TB ∧ Cond.initialized μ.1.cls ∈ TB ∧ plainName μ.1.cls = true ∧ μ.1.cls ≠ "java/lang/invoke/MethodHandle" ∧ μ.1.cls ≠ "java/lang/invoke/VarHandle"
theorem MOk.good {μ : Mi} (h : MOk μ) : GoodIn TB (mWs μ) := fun w hw => by
  rcases List.mem_cons.mp hw with rfl | hw
  · exact ⟨h.1, TB_good h.1⟩
  · exact ⟨hw, TB_good hw⟩
theorem strK.to {G : Gl} {s U : State} {H : Heap} (h : strK G s s.heap) (hW : s.WarmedH U.vm) (hk : ∀ a : Nat, a < s.heap.size → ¬ G.1 ≤ a → H[a]? = s.heap[a]?) : strK G U H :=
  ⟨(h.1.moved hW.alike).kept hk, h.2.1.warm hW, h.2.2.1.warm hW, (h.2.2.2.moved hW.alike).kept hk⟩
theorem Ks.to {G : Gl} {s U : State} (h : Ks G s) (hW : s.WarmedH U.vm) (hk : ∀ a : Nat, a < s.heap.size → ¬ G.1 ≤ a → U.heap[a]? = s.heap[a]?) : Ks G U :=
  ⟨va_K.moved hW.alike h.1, fun q hq => va_Nw.warmM hW (h.2.1 q hq), va_AO.moved hW.alike h.2.2.1, h.2.2.2.to hW hk⟩
theorem Ks.calling {G : Gl} {U : State} (h : Ks G U) (g : JFrame) (mk : MethodId) (a : Array Value) : Ks G (U.calling g mk a) :=
  ⟨va_K.moved (u := U) (U := U.calling g mk a) (Vm.Alike.refl U.vm) h.1, fun q hq => va_Nw.same rfl rfl (h.2.1 q hq), va_AO.moved (u := U) (U := U.calling g mk a) (Vm.Alike.refl U.vm) h.2.2.1,
    ⟨vk_S.moved (u := U) (U := U.calling g mk a) (Vm.Alike.refl U.vm) h.2.2.2.1, vk_R.same rfl h.2.2.2.2.1, vk_R.same rfl h.2.2.2.2.2.1, va_Z.moved (u := U) (U := U.calling g mk a) (Vm.Alike.refl U.vm) h.2.2.2.2.2.2⟩⟩
theorem Px.blind (G : Gl) (As : List Value) (cs : List va_E) (sz : Bool) : FrameBlind (Px G As cs sz) := fun a U g mk q => by
  obtain ⟨q0, q1, qP, qK⟩ := q
  exact ⟨q0, q1, qP, qK.calling g mk a⟩
/-- what the answer's end needs -/
def Cr (G : Gl) (X : Cx0) (ret : Option FieldType) (mc ms : Nat) (post : Option Value → List va_E → Prop) : Prop := xQ X = MQ (xB X) (Qx G post) (xA X) (xS X) mc ms (fun q => G.1 ≤ q) ∧ (xMe X).sig.returnType = ret ∧ (xMe X).locks = false
section
variable {G : Gl} {X : Cx0} {cc : ByteArray} {nL fr lo mc ms ce sl pc : Nat} {own : String} {lv : List (Nat × Value)} {st : List Value} {cs : List va_E} {post : Option Value → List va_E → Prop}
theorem Ctr.of {μ : Mi} {As : List Value} {sz : Bool} (hm : MOk μ) (hl : (lg_sl As).length ≤ μ.2.2.1) (h : ∀ X : Cx0, Cx G X μ.2.1 μ.2.2.1 μ.1.cls μ.2.2.2.2.1 μ.2.2.2.2.2 mc ms → Cr G X μ.2.2.2.1 mc ms post → (xMe X).name = μ.1.name → (sz = true → (xS X).heap.size = G.1 + cs.length) → V G X μ.2.2.1 0 0 0 (lv_args 0 As) [] cs) : Ctr G μ As cs sz mc ms post := by
  intro l
  refine Met.ofW (cc := μ.2.1) (maxL := μ.2.2.1) (ret := μ.2.2.2.1) hm.2.2.1 rfl ?_
  intro p e s m args below meth c s₁ B hml hv
  obtain ⟨rfl, hsz, hP, hK⟩ := hv
  have hts := atoms_spec (ws := mWs μ) B.pre
  have hown : s.vm.findClass μ.1.cls = some m.cls := findClass_of_methodNamed B.named
  have hV := h (p, l, e, mRm μ mc ms, s, m, As.toArray, below, meth, c, MQ below (Qx G post) As.toArray s mc ms (fun q => G.1 ≤ q)) ⟨B.exec, B.bytes, hml, hown, fun w hw => hts w (List.mem_cons_of_mem _ hw), hK, rfl, rfl, rfl, rfl⟩ ⟨rfl, B.returns, B.notSynchronized⟩ (name_of_methodNamed B.named B.method).1 hsz
  have hle := lv_entry As (n := μ.2.2.1) hl
  rw [lg_entry_eq]
  exact hV s.heap [] _ hP va_S.rf hle
theorem V.iret (C : Cx G X cc nL own fr lo mc ms) (R : Cr G X (some .int) ce sl post) {v : Int32} (d : decode cc pc = .ok (.ireturn, 1)) (h : post (some (.int v)) cs) : V G X nL ce sl pc lv [.int v] cs := by
  intro H locs ls a1 a2 a3
  rw [R.1]
  have hlocks := R.2.2
  exact W.iret C.1 C.2.1 R.2.1 (fun t ht hW => ⟨⟨_, cs, rfl, h, by rw [ht]; exact a1⟩, a2.F ht⟩) a2.2.2 d hlocks
theorem V.zret (C : Cx G X cc nL own fr lo mc ms) (R : Cr G X (some .boolean) ce sl post) {v : Int32} (d : decode cc pc = .ok (.ireturn, 1)) (hn : narrow .boolean (.int v) = .int v) (h : post (some (.int v)) cs) : V G X nL ce sl pc lv [.int v] cs := by
  intro H locs ls a1 a2 a3
  rw [R.1]
  have hlocks := R.2.2
  exact W.zret C.1 C.2.1 R.2.1 hn (fun t ht hW => ⟨⟨_, cs, rfl, h, by rw [ht]; exact a1⟩, a2.F ht⟩) a2.2.2 d hlocks
theorem V.cret (C : Cx G X cc nL own fr lo mc ms) (R : Cr G X (some .char) ce sl post) {v : Int32} (d : decode cc pc = .ok (.ireturn, 1)) (hn : narrow .char (.int v) = .int v) (h : post (some (.int v)) cs) : V G X nL ce sl pc lv [.int v] cs := by
  intro H locs ls a1 a2 a3
  rw [R.1]
  have hlocks := R.2.2
  exact W.zret C.1 C.2.1 R.2.1 hn (fun t ht hW => ⟨⟨_, cs, rfl, h, by rw [ht]; exact a1⟩, a2.F ht⟩) a2.2.2 d hlocks
theorem V.bret (C : Cx G X cc nL own fr lo mc ms) (R : Cr G X (some .byte) ce sl post) {v : Int32} (d : decode cc pc = .ok (.ireturn, 1)) (hn : narrow .byte (.int v) = .int v) (h : post (some (.int v)) cs) : V G X nL ce sl pc lv [.int v] cs := by
  intro H locs ls a1 a2 a3
  rw [R.1]
  have hlocks := R.2.2
  exact W.zret C.1 C.2.1 R.2.1 hn (fun t ht hW => ⟨⟨_, cs, rfl, h, by rw [ht]; exact a1⟩, a2.F ht⟩) a2.2.2 d hlocks
theorem V.lret (C : Cx G X cc nL own fr lo mc ms) (R : Cr G X (some .long) ce sl post) {v : Int64} (d : decode cc pc = .ok (.lreturn, 1)) (h : post (some (.long v)) cs) : V G X nL ce sl pc lv [.long v] cs := by
  intro H locs ls a1 a2 a3
  rw [R.1]
  have hlocks := R.2.2
  exact W.lret C.1 C.2.1 R.2.1 (fun t ht hW => ⟨⟨_, cs, rfl, h, by rw [ht]; exact a1⟩, a2.F ht⟩) a2.2.2 d hlocks
theorem V.aret (C : Cx G X cc nL own fr lo mc ms) {cn : String} (R : Cr G X (some (.object cn)) ce sl post) {j : Nat} (d : decode cc pc = .ok (.areturn, 1)) (h : post (some (Rf G j)) cs) : V G X nL ce sl pc lv [Rf G j] cs := by
  intro H locs ls a1 a2 a3
  rw [R.1]
  have hlocks := R.2.2
  exact W.aret C.1 C.2.1 R.2.1 (Or.inl ⟨cn, rfl⟩) (Or.inr ⟨_, rfl⟩) (fun t ht hW => ⟨⟨_, cs, rfl, h, by rw [ht]; exact a1⟩, a2.F ht⟩) a2.2.2 d hlocks
theorem V.vret (C : Cx G X cc nL own fr lo mc ms) (R : Cr G X none ce sl post) (d : decode cc pc = .ok (.return_, 1)) (h : post none cs) : V G X nL ce sl pc lv [] cs := by
  intro H locs ls a1 a2 a3
  rw [R.1]
  have hlocks := R.2.2
  exact W.vret C.1 C.2.1 R.2.1 (fun t ht hW => ⟨⟨_, cs, rfl, h, by rw [ht]; exact a1⟩, a2.F ht⟩) a2.2.2 d hlocks
/-- the heap's size, out of the room's book -/
theorem V.size (hz : (xS X).heap.size + ce = G.1 + cs.length ∧ (ce = 0 ∨ 0 < cs.length)) {H : Heap} (a1 : va_P G.2.1 vwCl (mkW G.1 cs) H) {locs : List Loc} (a2 : va_S (fun q => G.1 ≤ q) (xS X).heap H locs) (hup : H.size ≤ (xS X).heap.size + ce) : H.size = G.1 + cs.length := by
  rcases Nat.eq_zero_or_pos cs.length with h0 | h0
  · have h1 := a2.1
    have h3 : ce = 0 := hz.2.elim id (fun h => absurd h (by omega))
    omega
  · have hk : cs[cs.length - 1]? = some (cs[cs.length - 1]'(by omega)) := List.getElem?_eq_getElem (by omega)
    have h1 := (a1 _ _ (mkW_get (b := G.1) hk)).lt
    have h2 : G.1 + (cs.length - 1) < H.size := h1
    omega
/-- a call, out of what its run gives -/
theorem V.run {st0 : List Value} {mc' ms' : Nat} {a : Array Value} {post' : Option Value → List va_E → Prop}
    (hr : ∀ (H : Heap) (locs : List Loc) (ls : Array Slot), va_P G.2.1 vwCl (mkW G.1 cs) H → va_S (fun q => G.1 ≤ q) (xS X).heap H locs → lv_has ls nL lv → (∀ T : State, T.heap = H → Stand X.1 X.2.1 X.2.2.1 (xR X) (xS X) (xM X) (xA X) (xB X) (xMe X) (xC X) T locs ce sl → va_Run X.1 X.2.1 X.2.2.1 (xR X) (xS X) (xM X) (xA X) (xB X) (xMe X) (xC X) H locs ce sl mc' ms' (F0 (xM X) pc ls st0) st (Qx G post' a) (fun q => G.1 ≤ q)))
    (k : ∀ (v : Option Value) (cs' : List va_E), post' v cs' → V G X nL (ce + mc') (sl + ms') (pc + 3) lv (v.toList ++ st) cs') : V G X nL ce sl pc lv st0 cs := by
  intro H locs ls a1 a2 a3 T hT Y
  obtain ⟨v, st₀, t, T', L, h0, Y', hL, e1, e2, ⟨⟨v2, cs', hv, hp, hP⟩, hz, hk⟩, go⟩ := hr H locs ls a1 a2 a3 T hT Y T hT Y
  cases hv
  rw [h0] at hz hk
  obtain ⟨t2, b1, b2⟩ := k v cs' hp T'.heap (locs ++ L) ls (by rw [e1]; exact hP)
    ⟨Nat.le_trans a2.1 (by rw [e1]; exact hz), fun q h1 h2 => by rw [e1, hk q (Nat.lt_of_lt_of_le h1 a2.1) h2]; exact a2.2.1 q h1 h2, fun q hq => by
      rcases List.mem_append.mp hq with h | h
      · exact a2.2.2 q h
      · exact hL q h⟩ a3 T' rfl Y'
  exact ⟨t2, go t2 b1, b2⟩
/-- a call's link: an instance method of class number ci -/
def LkV (own : String) (idx : Nat) (μ : Mi) (n ci : Nat) : Prop := Cond.methodLink own idx μ.1 ∈ TB ∧ Cond.instanceMethod μ.1 ∈ TB ∧ Cond.selects μ.1.cls μ.1 μ.1 ∈ TB ∧ (parseMethodDescriptor μ.1.desc).map (fun d => d.parameters.length) = some n ∧ ∃ (T : u_T) (N : Nat), vwCl[ci]? = some (μ.1.cls, T, N)
def LkS (own : String) (idx : Nat) (μ : Mi) (n : Nat) : Prop := Cond.methodLink own idx μ.1 ∈ TB ∧ Cond.static μ.1 ∈ TB ∧ (parseMethodDescriptor μ.1.desc).map (fun d => d.parameters.length) = some n
def LkI (own : String) (idx : Nat) (μ : Mi) (n : Nat) : Prop := Cond.methodLink own idx μ.1 ∈ TB ∧ Cond.instanceMethod μ.1 ∈ TB ∧ μ.1.name = "<init>" ∧ (parseMethodDescriptor μ.1.desc).map (fun d => d.parameters.length) = some n
def LkSN (own : String) (idx : Nat) (μ : Mi) (n : Nat) : Prop := (own, idx, μ.1) ∈ nestL ∧ Cond.static μ.1 ∈ TB ∧ (parseMethodDescriptor μ.1.desc).map (fun d => d.parameters.length) = some n
def LkIN (own : String) (idx : Nat) (μ : Mi) (n : Nat) : Prop := (own, idx, μ.1) ∈ nestL ∧ Cond.instanceMethod μ.1 ∈ TB ∧ μ.1.name = "<init>" ∧ (parseMethodDescriptor μ.1.desc).map (fun d => d.parameters.length) = some n
theorem Px.pre (C : Cx G X cc nL own fr lo mc ms) {As : List Value} {sz : Bool} (hz : sz = true → (xS X).heap.size + ce = G.1 + cs.length ∧ (ce = 0 ∨ 0 < cs.length)) {H : Heap} {locs : List Loc} (a1 : va_P G.2.1 vwCl (mkW G.1 cs) H) (a2 : va_S (fun q => G.1 ≤ q) (xS X).heap H locs) (hup : H.size ≤ (xS X).heap.size + ce) : ∀ U : State, U.heap = H → (xS X).WarmedH U.vm → Px G As cs sz As.toArray U := fun U hU hW =>
  ⟨rfl, fun h => by rw [hU]; exact V.size (hz h) a1 a2 hup, by rw [hU]; exact a1, C.2.2.2.2.2.1.to hW (fun q h1 h2 => by rw [hU]; exact a2.2.1 q h1 h2)⟩
theorem V.callV (C : Cx G X cc nL own fr lo mc ms) {idx n ci k0 mc' ms' : Nat} {μ : Mi} {As fs : List Value} {st0 : List Value} {sz : Bool} {post' : Option Value → List va_E → Prop} (L : LkV own idx μ n ci) (M : MOk μ) (d : decode cc pc = .ok (.invokevirtual idx, 3)) (h : Ctr G μ (Rf G k0 :: As) cs sz mc' ms' post') (hc : cs[k0]? = some (ob ci fs)) (hn : As.length = n) (hst : st0 = As.reverse ++ Rf G k0 :: st) (hw : (st.map fun v => v.category).sum ≤ 8) (hr : μ.2.2.2.2.1 + 1 ≤ fr ∧ 8 + (μ.2.2.1 + 11) + μ.2.2.2.2.2 ≤ lo) (hm : ce + mc' ≤ mc ∧ sl + ms' ≤ ms) (hz : sz = true → (xS X).heap.size + ce = G.1 + cs.length ∧ (ce = 0 ∨ 0 < cs.length))
    (k : ∀ (v : Option Value) (cs' : List va_E), post' v cs' → V G X nL (ce + mc') (sl + ms') (pc + 3) lv (v.toList ++ st) cs') : V G X nL ce sl pc lv st0 cs := by
  refine V.run (mc' := mc') (ms' := ms') (post' := post') (a := (Rf G k0 :: As).toArray) (fun H locs ls a1 a2 a3 T hT Y => ?_) k
  obtain ⟨l1, l2, l3, l4, T', N', l5⟩ := L
  obtain ⟨c1, c2, c3, c4, c5, c6, c7, c8, c9, c10⟩ := C
  have hup : H.size ≤ (xS X).heap.size + ce := by rw [← hT]; exact Y.heapSize
  refine va_runV (As := As) (rest := st) (b := G.1 + k0) ⟨c1, c2, c3, c4, c5⟩ (h X.2.1) (C := μ.1.cls) (bytes := μ.2.1) (maxL := μ.2.2.1) (ret := μ.2.2.2.1) (n := n) ⟨callB_of n c5 M.good rfl rfl rfl (c5 _ M.2.1) (c5 _ l1) ⟨M.2.2.2.1, M.2.2.2.2, l4⟩ ⟨by rw [c7]; exact hr.1, by rw [c8]; exact hr.2⟩, c5 _ l2, c5 _ l3⟩ ⟨Px.blind _ _ _ _, ?_, ?_⟩ rfl hn a3.1 hst (lv_room hw) d ⟨by rw [c9]; exact hm.1, by rw [c10]; exact hm.2⟩
  · exact va_recv c6.1 a1 l5 (mkW_get hc)
  · exact Px.pre ⟨c1, c2, c3, c4, c5, c6, c7, c8, c9, c10⟩ hz a1 a2 hup
theorem V.callS (C : Cx G X cc nL own fr lo mc ms) {idx n mc' ms' : Nat} {μ : Mi} {As : List Value} {st0 : List Value} {sz : Bool} {post' : Option Value → List va_E → Prop} (L : LkS own idx μ n) (M : MOk μ) (d : decode cc pc = .ok (.invokestatic idx, 3)) (h : Ctr G μ As cs sz mc' ms' post') (hn : As.length = n) (hst : st0 = As.reverse ++ st) (hw : (st.map fun v => v.category).sum ≤ 8) (hr : μ.2.2.2.2.1 + 1 ≤ fr ∧ 8 + (μ.2.2.1 + 11) + μ.2.2.2.2.2 ≤ lo) (hm : ce + mc' ≤ mc ∧ sl + ms' ≤ ms) (hz : sz = true → (xS X).heap.size + ce = G.1 + cs.length ∧ (ce = 0 ∨ 0 < cs.length))
    (k : ∀ (v : Option Value) (cs' : List va_E), post' v cs' → V G X nL (ce + mc') (sl + ms') (pc + 3) lv (v.toList ++ st) cs') : V G X nL ce sl pc lv st0 cs := by
  refine V.run (mc' := mc') (ms' := ms') (post' := post') (a := As.toArray) (fun H locs ls a1 a2 a3 T hT Y => ?_) k
  obtain ⟨l1, l2, l4⟩ := L
  obtain ⟨c1, c2, c3, c4, c5, c6, c7, c8, c9, c10⟩ := C
  have hup : H.size ≤ (xS X).heap.size + ce := by rw [← hT]; exact Y.heapSize
  exact va_runS (As := As) (rest := st) ⟨c1, c2, c3, c4, c5⟩ (h X.2.1) (bytes := μ.2.1) (maxL := μ.2.2.1) (ret := μ.2.2.2.1) (n := n) ⟨callB_of n c5 M.good rfl rfl rfl (c5 _ M.2.1) (c5 _ l1) ⟨M.2.2.2.1, M.2.2.2.2, l4⟩ ⟨by rw [c7]; exact hr.1, by rw [c8]; exact hr.2⟩, c5 _ l2⟩ ⟨Px.blind _ _ _ _, Px.pre ⟨c1, c2, c3, c4, c5, c6, c7, c8, c9, c10⟩ hz a1 a2 hup⟩ rfl hn a3.1 hst (lv_room hw) d ⟨by rw [c9]; exact hm.1, by rw [c10]; exact hm.2⟩
theorem V.callSN (C : Cx G X cc nL own fr lo mc ms) {idx n mc' ms' : Nat} {μ : Mi} {As : List Value} {st0 : List Value} {sz : Bool} {post' : Option Value → List va_E → Prop} (L : LkSN own idx μ n) (M : MOk μ) (d : decode cc pc = .ok (.invokestatic idx, 3)) (h : Ctr G μ As cs sz mc' ms' post') (hn : As.length = n) (hst : st0 = As.reverse ++ st) (hw : (st.map fun v => v.category).sum ≤ 8) (hr : μ.2.2.2.2.1 + 1 ≤ fr ∧ 8 + (μ.2.2.1 + 11) + μ.2.2.2.2.2 ≤ lo) (hm : ce + mc' ≤ mc ∧ sl + ms' ≤ ms) (hz : sz = true → (xS X).heap.size + ce = G.1 + cs.length ∧ (ce = 0 ∨ 0 < cs.length))
    (k : ∀ (v : Option Value) (cs' : List va_E), post' v cs' → V G X nL (ce + mc') (sl + ms') (pc + 3) lv (v.toList ++ st) cs') : V G X nL ce sl pc lv st0 cs := by
  refine V.run (mc' := mc') (ms' := ms') (post' := post') (a := As.toArray) (fun H locs ls a1 a2 a3 T hT Y => ?_) k
  obtain ⟨l1, l2, l4⟩ := L
  obtain ⟨c1, c2, c3, c4, c5, c6, c7, c8, c9, c10⟩ := C
  have hup : H.size ≤ (xS X).heap.size + ce := by rw [← hT]; exact Y.heapSize
  exact va_runSN (As := As) (rest := st) ⟨c1, c2, c3, c4, c5⟩ (h X.2.1) (bytes := μ.2.1) (maxL := μ.2.2.1) (ret := μ.2.2.2.1) (n := n) (host := "SliceSolver") ⟨va_cnB n c5 M.good rfl rfl rfl (c6.2.1 _ l1) (c5 _ M.2.1) ⟨M.2.2.2.1, M.2.2.2.2, l4⟩ ⟨by rw [c7]; exact hr.1, by rw [c8]; exact hr.2⟩, c5 _ l2, trivial⟩ ⟨Px.blind _ _ _ _, Px.pre ⟨c1, c2, c3, c4, c5, c6, c7, c8, c9, c10⟩ hz a1 a2 hup⟩ rfl hn a3.1 hst (lv_room hw) d ⟨by rw [c9]; exact hm.1, by rw [c10]; exact hm.2⟩
theorem V.callI (C : Cx G X cc nL own fr lo mc ms) {idx n k0 mc' ms' : Nat} {μ : Mi} {As : List Value} {st0 : List Value} {sz : Bool} {post' : Option Value → List va_E → Prop} (L : LkI own idx μ n) (M : MOk μ) (hret : μ.2.2.2.1 = none) (d : decode cc pc = .ok (.invokespecial idx, 3)) (h : Ctr G μ (Rf G k0 :: As) cs sz mc' ms' post') (hn : As.length = n) (hst : st0 = As.reverse ++ Rf G k0 :: st) (hw : (st.map fun v => v.category).sum ≤ 8) (hr : μ.2.2.2.2.1 + 1 ≤ fr ∧ 8 + (μ.2.2.1 + 11) + μ.2.2.2.2.2 ≤ lo) (hm : ce + mc' ≤ mc ∧ sl + ms' ≤ ms) (hz : sz = true → (xS X).heap.size + ce = G.1 + cs.length ∧ (ce = 0 ∨ 0 < cs.length))
    (k : ∀ (v : Option Value) (cs' : List va_E), post' v cs' → V G X nL (ce + mc') (sl + ms') (pc + 3) lv (v.toList ++ st) cs') : V G X nL ce sl pc lv st0 cs := by
  refine V.run (mc' := mc') (ms' := ms') (post' := post') (a := (Rf G k0 :: As).toArray) (fun H locs ls a1 a2 a3 T hT Y => ?_) k
  obtain ⟨l1, l2, l3, l4⟩ := L
  obtain ⟨c1, c2, c3, c4, c5, c6, c7, c8, c9, c10⟩ := C
  have hup : H.size ≤ (xS X).heap.size + ce := by rw [← hT]; exact Y.heapSize
  exact va_runI (As := As) (rest := st) (b := G.1 + k0) ⟨c1, c2, c3, c4, c5⟩ (h X.2.1) (bytes := μ.2.1) (maxL := μ.2.2.1) (n := n) ⟨callB_of n c5 M.good (by rw [← hret]; rfl) rfl rfl (c5 _ M.2.1) (c5 _ l1) ⟨M.2.2.2.1, M.2.2.2.2, l4⟩ ⟨by rw [c7]; exact hr.1, by rw [c8]; exact hr.2⟩, l3, c5 _ l2⟩ ⟨Px.blind _ _ _ _, Px.pre ⟨c1, c2, c3, c4, c5, c6, c7, c8, c9, c10⟩ hz a1 a2 hup⟩ rfl hn a3.1 hst (lv_room hw) d ⟨by rw [c9]; exact hm.1, by rw [c10]; exact hm.2⟩
theorem V.callIN (C : Cx G X cc nL own fr lo mc ms) {idx n k0 mc' ms' : Nat} {μ : Mi} {As : List Value} {st0 : List Value} {sz : Bool} {post' : Option Value → List va_E → Prop} (L : LkIN own idx μ n) (M : MOk μ) (hret : μ.2.2.2.1 = none) (d : decode cc pc = .ok (.invokespecial idx, 3)) (h : Ctr G μ (Rf G k0 :: As) cs sz mc' ms' post') (hn : As.length = n) (hst : st0 = As.reverse ++ Rf G k0 :: st) (hw : (st.map fun v => v.category).sum ≤ 8) (hr : μ.2.2.2.2.1 + 1 ≤ fr ∧ 8 + (μ.2.2.1 + 11) + μ.2.2.2.2.2 ≤ lo) (hm : ce + mc' ≤ mc ∧ sl + ms' ≤ ms) (hz : sz = true → (xS X).heap.size + ce = G.1 + cs.length ∧ (ce = 0 ∨ 0 < cs.length))
    (k : ∀ (v : Option Value) (cs' : List va_E), post' v cs' → V G X nL (ce + mc') (sl + ms') (pc + 3) lv (v.toList ++ st) cs') : V G X nL ce sl pc lv st0 cs := by
  refine V.run (mc' := mc') (ms' := ms') (post' := post') (a := (Rf G k0 :: As).toArray) (fun H locs ls a1 a2 a3 T hT Y => ?_) k
  obtain ⟨l1, l2, l3, l4⟩ := L
  obtain ⟨c1, c2, c3, c4, c5, c6, c7, c8, c9, c10⟩ := C
  have hup : H.size ≤ (xS X).heap.size + ce := by rw [← hT]; exact Y.heapSize
  exact va_runIN (As := As) (rest := st) (b := G.1 + k0) ⟨c1, c2, c3, c4, c5⟩ (h X.2.1) (bytes := μ.2.1) (maxL := μ.2.2.1) (n := n) (host := "SliceSolver") ⟨va_cnB n c5 M.good (by rw [← hret]; rfl) rfl rfl (c6.2.1 _ l1) (c5 _ M.2.1) ⟨M.2.2.2.1, M.2.2.2.2, l4⟩ ⟨by rw [c7]; exact hr.1, by rw [c8]; exact hr.2⟩, l3, c5 _ l2⟩ ⟨Px.blind _ _ _ _, Px.pre ⟨c1, c2, c3, c4, c5, c6, c7, c8, c9, c10⟩ hz a1 a2 hup⟩ rfl hn a3.1 hst (lv_room hw) d ⟨by rw [c9]; exact hm.1, by rw [c10]; exact hm.2⟩
theorem V.objInit (C : Cx G X cc nL own fr lo mc ms) {idx k0 : Nat} (h1 : Cond.methodLink own idx Lib.objectInit ∈ TB) (h2 : Cond.instanceMethod Lib.objectInit ∈ TB) (h3 : Cond.code Lib.objectInit ⟨#[0xb1]⟩ 1 none ∈ TB) (d : decode cc pc = .ok (.invokespecial idx, 3)) (hf : 1 ≤ fr) (hlo : (st.map fun v => v.category).sum + 12 ≤ lo) (k : V G X nL ce sl (pc + 3) lv st cs) : V G X nL ce sl pc lv (Rf G k0 :: st) cs := by
  intro H locs ls a1 a2 a3
  obtain ⟨c1, c2, c3, c4, c5, c6, c7, c8, c9, c10⟩ := C
  exact W.objInit c1 c2 c4 (c5 _ h1) (c5 _ h2) (c5 _ h3) rfl (by rw [c3]; exact a3.1) rfl d (by rw [c7]; exact hf) (by rw [c8]; show 2 * 0 + _ + 12 ≤ _; omega) (k H locs ls a1 a2 a3)
theorem V.mmax (C : Cx G X cc nL own fr lo mc ms) {idx : Nat} {x y : Int32} (h1 : Cond.methodLink own idx Lib.Math.max.name ∈ TB) (h2 : Cond.static Lib.Math.max.name ∈ TB) (h3 : Cond.initialized "java/lang/Math" ∈ TB) (h4 : Cond.code Lib.Math.max.name Lib.Math.max.code 2 (some .int) ∈ TB) (d : decode cc pc = .ok (.invokestatic idx, 3)) (hf : 1 ≤ fr) (hlo : (st.map fun v => v.category).sum + 13 ≤ lo) (hce : ce ≤ mc) (hsl : sl ≤ ms) (k : V G X nL ce sl (pc + 3) lv (.int (if x < y then y else x) :: st) cs) : V G X nL ce sl pc lv (.int y :: .int x :: st) cs := by
  intro H locs ls a1 a2 a3
  obtain ⟨c1, c2, c3, c4, c5, c6, c7, c8, c9, c10⟩ := C
  exact va_mmax c1 c2 (by rw [c3]; exact a3.1.symm) c4 (c5 _ h1) (c5 _ h2) (c5 _ h3) (c5 _ h4) (by rw [c7]; exact hf) (by rw [c8]; exact hlo) (by rw [c9]; exact hce) (by rw [c10]; exact hsl) d (k H locs ls a1 a2 a3)
theorem V.mmin (C : Cx G X cc nL own fr lo mc ms) {idx : Nat} {x y : Int32} (h1 : Cond.methodLink own idx Lib.Math.min.name ∈ TB) (h2 : Cond.static Lib.Math.min.name ∈ TB) (h3 : Cond.initialized "java/lang/Math" ∈ TB) (h4 : Cond.code Lib.Math.min.name Lib.Math.min.code 2 (some .int) ∈ TB) (d : decode cc pc = .ok (.invokestatic idx, 3)) (hf : 1 ≤ fr) (hlo : (st.map fun v => v.category).sum + 13 ≤ lo) (hce : ce ≤ mc) (hsl : sl ≤ ms) (k : V G X nL ce sl (pc + 3) lv (.int (if y < x then y else x) :: st) cs) : V G X nL ce sl pc lv (.int y :: .int x :: st) cs := by
  intro H locs ls a1 a2 a3
  obtain ⟨c1, c2, c3, c4, c5, c6, c7, c8, c9, c10⟩ := C
  exact va_mmin c1 c2 (by rw [c3]; exact a3.1.symm) c4 (c5 _ h1) (c5 _ h2) (c5 _ h3) (c5 _ h4) (by rw [c7]; exact hf) (by rw [c8]; exact hlo) (by rw [c9]; exact hce) (by rw [c10]; exact hsl) d (k H locs ls a1 a2 a3)
end
end
section
/-! New cells, copies. -/
def CLk (own : String) (idx ci N : Nat) (fs : List Value) : Prop := ∃ (C : String) (T : u_T) (ty : Nat → FieldType), vwCl[ci]? = some (C, T, N) ∧ (∀ w ∈ u_ws C T N, w ∈ TB) ∧ (∀ k, k < N → parseFieldDescriptor (T k).2.2.1 = some (ty k)) ∧ Cond.classLink own idx C ∈ TB ∧ Cond.instantiable C N ∈ TB ∧ Cond.initialized C ∈ TB ∧ (∀ j, j < N → defaultValue (ty j) = vp_V fs j)
section
variable {G : Gl} {X : Cx0} {cc : ByteArray} {nL fr lo mc ms ce sl pc : Nat} {own : String} {lv : List (Nat × Value)} {st : List Value} {cs : List va_E}
theorem V.fresh {H1 : Heap} {q : Nat} {e : va_E} (hz : (xS X).heap.size + ce = G.1 + cs.length) (b1 : va_P G.2.1 vwCl (mkW G.1 cs ++ [(q, e)]) H1) (b2 : va_D (fun q => G.1 ≤ q) (mkW G.1 cs ++ [(q, e)])) (hup : H1.size ≤ (xS X).heap.size + (ce + 1)) : q = G.1 + cs.length := by
  have hl : (mkW G.1 cs).length = cs.length := by unfold mkW; simp
  have hq : (mkW G.1 cs ++ [(q, e)])[cs.length]? = some (q, e) := by rw [← hl, List.getElem?_append_right (Nat.le_refl _)]; simp
  have h1 : q < H1.size := (b1 _ _ hq).lt
  have h2 : G.1 ≤ q := b2.2 _ _ hq
  rcases Nat.lt_or_ge q (G.1 + cs.length) with h | h
  · have hk : q - G.1 < cs.length := by omega
    have h3 : (mkW G.1 cs ++ [(q, e)])[q - G.1]? = some (G.1 + (q - G.1), cs[q - G.1]) := by
      rw [List.getElem?_append_left (by rw [hl]; exact hk)]
      exact mkW_get (List.getElem?_eq_getElem hk)
    have h4 := b2.1 _ _ _ _ h3 hq (show G.1 + (q - G.1) = q by omega)
    omega
  · omega
theorem V.new (C : Cx G X cc nL own fr lo mc ms) (hb : G.1 ≤ (xS X).heap.size) (hz : (xS X).heap.size + ce = G.1 + cs.length) {idx ci N : Nat} {fs : List Value} (L : CLk own idx ci N fs) (d : decode cc pc = .ok (.new idx, 3)) (hm : ce + 1 ≤ mc ∧ sl + N ≤ ms) (k : V G X nL (ce + 1) (sl + N) (pc + 3) lv (Rf G cs.length :: st) (cs ++ [ob ci fs])) : V G X nL ce sl pc lv st cs := by
  intro H locs ls a1 a2 a3
  obtain ⟨c1, c2, c3, c4, c5, c6, c7, c8, c9, c10⟩ := C
  obtain ⟨Cn, T, ty, l1, l2, l3, l4, l5, l6, l7⟩ := L
  refine va_new c1 c2 c5 l2 ty l3 c4 (c5 _ l4) (c5 _ l5) (c5 _ l6) c6.1 a1 (mkW_D _ _) a2 (fun q h => Nat.le_trans hb h) l1 l7 (by rw [c9]; exact hm.1) (by rw [c10]; exact hm.2) d (fun q H1 b1 b2 b3 => ?_)
  intro T' hT Y
  have hq := V.fresh hz b1 b2 (by rw [← hT]; exact Y.heapSize)
  subst hq
  exact k H1 locs ls (by rw [← mkW_app]; exact b1) b3 a3 T' hT Y
theorem V.newaI (C : Cx G X cc nL own fr lo mc ms) (hb : G.1 ≤ (xS X).heap.size) (hz : (xS X).heap.size + ce = G.1 + cs.length) {n : Int32} (N : Nat) (d : decode cc pc = .ok (.newarray .int, 2)) (hw : Cond.arrayClass .int ∈ TB) (hn : ¬ n < 0) (hN : n.toNatClampNeg = N) (hs : N ≤ 60000000) (hm : ce + 1 ≤ mc ∧ sl + N ≤ ms) (k : V G X nL (ce + 1) (sl + N) (pc + 2) lv (Rf G cs.length :: st) (cs ++ [aI G N (fun _ => 0)])) : V G X nL ce sl pc lv (.int n :: st) cs := by
  intro H locs ls a1 a2 a3
  obtain ⟨c1, c2, c3, c4, c5, c6, c7, c8, c9, c10⟩ := C
  refine va_newa (atype := .int) (ty := .int) (a0 := (N, .inl (fun _ => 0))) c1 c2 (c5 _ hw) rfl c6.1 a1 (mkW_D _ _) a2 (fun q h => Nat.le_trans hb h) (fun _ => rfl) hn hN (by simp [componentBytes]; omega) (by rw [c9]; exact hm.1) (by rw [c10]; exact hm.2) d (fun q cA H1 bK b1 b2 b3 => ?_)
  intro T' hT Y
  have hq := V.fresh hz b1 b2 (by rw [← hT]; exact Y.heapSize)
  subst hq
  have e1 : va_RA (xS X) cA .int := (bK.2 5 (cA, .int) rfl).2
  have e2 : va_RA (xS X) (G.2.2 0) .int := (c6.1.2 0 (G.2.2 0, .int) rfl).2
  have e3 : cA = G.2.2 0 := Option.some.inj (Eq.trans (Eq.symm (show (xS X).vm.findClass ("[" ++ (FieldType.int).toString) = some cA from e1)) (show (xS X).vm.findClass ("[" ++ (FieldType.int).toString) = some (G.2.2 0) from e2))
  subst e3
  exact k H1 locs ls (by rw [← mkW_app]; exact b1) b3 a3 T' hT Y
theorem V.newaL (C : Cx G X cc nL own fr lo mc ms) (hb : G.1 ≤ (xS X).heap.size) (hz : (xS X).heap.size + ce = G.1 + cs.length) {n : Int32} (N : Nat) (d : decode cc pc = .ok (.newarray .long, 2)) (hw : Cond.arrayClass .long ∈ TB) (hn : ¬ n < 0) (hN : n.toNatClampNeg = N) (hs : N ≤ 60000000) (hm : ce + 1 ≤ mc ∧ sl + N ≤ ms) (k : V G X nL (ce + 1) (sl + N) (pc + 2) lv (Rf G cs.length :: st) (cs ++ [aL G N (fun _ => 0)])) : V G X nL ce sl pc lv (.int n :: st) cs := by
  intro H locs ls a1 a2 a3
  obtain ⟨c1, c2, c3, c4, c5, c6, c7, c8, c9, c10⟩ := C
  refine va_newa (atype := .long) (ty := .long) (a0 := (N, .inr (.inl (fun _ => 0)))) c1 c2 (c5 _ hw) rfl c6.1 a1 (mkW_D _ _) a2 (fun q h => Nat.le_trans hb h) (fun _ => rfl) hn hN (by simp [componentBytes]; omega) (by rw [c9]; exact hm.1) (by rw [c10]; exact hm.2) d (fun q cA H1 bK b1 b2 b3 => ?_)
  intro T' hT Y
  have hq := V.fresh hz b1 b2 (by rw [← hT]; exact Y.heapSize)
  subst hq
  have e1 : va_RA (xS X) cA .long := (bK.2 5 (cA, .long) rfl).2
  have e2 : va_RA (xS X) (G.2.2 1) .long := (c6.1.2 1 (G.2.2 1, .long) rfl).2
  have e3 : cA = G.2.2 1 := Option.some.inj (Eq.trans (Eq.symm (show (xS X).vm.findClass ("[" ++ (FieldType.long).toString) = some cA from e1)) (show (xS X).vm.findClass ("[" ++ (FieldType.long).toString) = some (G.2.2 1) from e2))
  subst e3
  exact k H1 locs ls (by rw [← mkW_app]; exact b1) b3 a3 T' hT Y
theorem V.newaZ (C : Cx G X cc nL own fr lo mc ms) (hb : G.1 ≤ (xS X).heap.size) (hz : (xS X).heap.size + ce = G.1 + cs.length) {n : Int32} (N : Nat) (d : decode cc pc = .ok (.newarray .boolean, 2)) (hw : Cond.arrayClass .boolean ∈ TB) (hn : ¬ n < 0) (hN : n.toNatClampNeg = N) (hs : N ≤ 60000000) (hm : ce + 1 ≤ mc ∧ sl + N ≤ ms) (k : V G X nL (ce + 1) (sl + N) (pc + 2) lv (Rf G cs.length :: st) (cs ++ [aZ G N (fun _ => 0)])) : V G X nL ce sl pc lv (.int n :: st) cs := by
  intro H locs ls a1 a2 a3
  obtain ⟨c1, c2, c3, c4, c5, c6, c7, c8, c9, c10⟩ := C
  refine va_newa (atype := .boolean) (ty := .boolean) (a0 := (N, .inl (fun _ => 0))) c1 c2 (c5 _ hw) rfl c6.1 a1 (mkW_D _ _) a2 (fun q h => Nat.le_trans hb h) (fun _ => rfl) hn hN (by simp [componentBytes]; omega) (by rw [c9]; exact hm.1) (by rw [c10]; exact hm.2) d (fun q cA H1 bK b1 b2 b3 => ?_)
  intro T' hT Y
  have hq := V.fresh hz b1 b2 (by rw [← hT]; exact Y.heapSize)
  subst hq
  have e1 : va_RA (xS X) cA .boolean := (bK.2 5 (cA, .boolean) rfl).2
  have e2 : va_RA (xS X) (G.2.2 2) .boolean := (c6.1.2 2 (G.2.2 2, .boolean) rfl).2
  have e3 : cA = G.2.2 2 := Option.some.inj (Eq.trans (Eq.symm (show (xS X).vm.findClass ("[" ++ (FieldType.boolean).toString) = some cA from e1)) (show (xS X).vm.findClass ("[" ++ (FieldType.boolean).toString) = some (G.2.2 2) from e2))
  subst e3
  exact k H1 locs ls (by rw [← mkW_app]; exact b1) b3 a3 T' hT Y
theorem V.newaC (C : Cx G X cc nL own fr lo mc ms) (hb : G.1 ≤ (xS X).heap.size) (hz : (xS X).heap.size + ce = G.1 + cs.length) {n : Int32} (N : Nat) (d : decode cc pc = .ok (.newarray .char, 2)) (hw : Cond.arrayClass .char ∈ TB) (hn : ¬ n < 0) (hN : n.toNatClampNeg = N) (hs : N ≤ 60000000) (hm : ce + 1 ≤ mc ∧ sl + N ≤ ms) (k : V G X nL (ce + 1) (sl + N) (pc + 2) lv (Rf G cs.length :: st) (cs ++ [aC G N (fun _ => 0)])) : V G X nL ce sl pc lv (.int n :: st) cs := by
  intro H locs ls a1 a2 a3
  obtain ⟨c1, c2, c3, c4, c5, c6, c7, c8, c9, c10⟩ := C
  refine va_newa (atype := .char) (ty := .char) (a0 := (N, .inl (fun _ => 0))) c1 c2 (c5 _ hw) rfl c6.1 a1 (mkW_D _ _) a2 (fun q h => Nat.le_trans hb h) (fun _ => rfl) hn hN (by simp [componentBytes]; omega) (by rw [c9]; exact hm.1) (by rw [c10]; exact hm.2) d (fun q cA H1 bK b1 b2 b3 => ?_)
  intro T' hT Y
  have hq := V.fresh hz b1 b2 (by rw [← hT]; exact Y.heapSize)
  subst hq
  have e1 : va_RA (xS X) cA .char := (bK.2 5 (cA, .char) rfl).2
  have e2 : va_RA (xS X) (G.2.2 3) .char := (c6.1.2 3 (G.2.2 3, .char) rfl).2
  have e3 : cA = G.2.2 3 := Option.some.inj (Eq.trans (Eq.symm (show (xS X).vm.findClass ("[" ++ (FieldType.char).toString) = some cA from e1)) (show (xS X).vm.findClass ("[" ++ (FieldType.char).toString) = some (G.2.2 3) from e2))
  subst e3
  exact k H1 locs ls (by rw [← mkW_app]; exact b1) b3 a3 T' hT Y
theorem V.newaP (C : Cx G X cc nL own fr lo mc ms) (hb : G.1 ≤ (xS X).heap.size) (hz : (xS X).heap.size + ce = G.1 + cs.length) {n : Int32} (N : Nat) {idx : Nat} (d : decode cc pc = .ok (.anewarray idx, 3)) (hw : Cond.classLink own idx "SliceSolver$Problem" ∈ TB) (hn : ¬ n < 0) (hN : n.toNatClampNeg = N) (hs : N ≤ 60000000) (hm : ce + 1 ≤ mc ∧ sl + N ≤ ms) (k : V G X nL (ce + 1) (sl + N) (pc + 3) lv (Rf G cs.length :: st) (cs ++ [aP G N (fun _ => none)])) : V G X nL ce sl pc lv (.int n :: st) cs := by
  intro H locs ls a1 a2 a3
  obtain ⟨c1, c2, c3, c4, c5, c6, c7, c8, c9, c10⟩ := C
  refine va_newq c1 c2 c4 (c5 _ hw) c6.2.2.1 c6.1 a1 (mkW_D _ _) a2 (fun q h => Nat.le_trans hb h) hn hN (by omega) (by rw [c9]; exact hm.1) (by rw [c10]; exact hm.2) d (fun q cA H1 bK b1 b2 b3 => ?_)
  intro T' hT Y
  have hq := V.fresh hz b1 b2 (by rw [← hT]; exact Y.heapSize)
  subst hq
  obtain ⟨kA, comp, -, -, -, e1⟩ : va_RA (xS X) cA (.object "SliceSolver$Problem") := (bK.2 5 (cA, .object "SliceSolver$Problem") rfl).2
  obtain ⟨kA2, comp2, -, -, -, e2⟩ : va_RA (xS X) (G.2.2 4) (.object "SliceSolver$Problem") := (c6.1.2 4 (G.2.2 4, .object "SliceSolver$Problem") rfl).2
  have e3 : cA = G.2.2 4 := Option.some.inj (e1.symm.trans e2)
  subst e3
  exact k H1 locs ls (by rw [← mkW_app]; exact b1) b3 a3 T' hT Y
theorem V.copyi (C : Cx G X cc nL own fr lo mc ms) {idx k0 k1 n0 n1 : Nat} {f g : Nat → Int32} {sp dp n : Int32} (h1 : Cond.methodLink own idx arraycopyName ∈ TB) (h2 : Cond.native arraycopyName ∈ TB) (h3 : Cond.static arraycopyName ∈ TB) (h4 : Cond.initialized "java/lang/System" ∈ TB) (d : decode cc pc = .ok (.invokestatic idx, 3)) (hc0 : cs[k0]? = some (aI G n0 f)) (hc1 : cs[k1]? = some (aI G n1 g)) (g1 : ¬ sp < 0) (g2 : ¬ dp < 0) (g3 : ¬ n < 0) (g4 : sp.toNatClampNeg + n.toNatClampNeg ≤ n0) (g5 : dp.toNatClampNeg + n.toNatClampNeg ≤ n1) (hf : 1 ≤ fr) (hlo : (st.map fun v => v.category).sum + (nativeFrameWords "java/lang/System" "arraycopy" 5 + 11) ≤ lo)
    (k : V G X nL ce sl (pc + 3) lv st (cs.set k1 (aI G n1 (va_cpy f g sp.toNatClampNeg dp.toNatClampNeg n.toNatClampNeg)))) : V G X nL ce sl pc lv (.int n :: .int dp :: Rf G k1 :: .int sp :: Rf G k0 :: st) cs := by
  intro H locs ls a1 a2 a3
  obtain ⟨c1, c2, c3, c4, c5, c6, c7, c8, c9, c10⟩ := C
  exact va_copyi c1 c2 (by rw [c3]; exact a3.1.symm) c4 (c5 _ h1) (c5 _ h2) (c5 _ h3) (c5 _ h4) c6.1 a1 (mkW_D _ _) a2 k0 k1 0 0 (mkW_get hc0) (mkW_get hc1) (ty := .int) rfl rfl rfl g1 g2 g3 g4 g5 (fun i _ => rfl) (by rw [c7]; exact hf) (by rw [c8]; exact hlo) d (fun H1 locs1 b1 b2 b3 => k H1 locs1 ls (by rw [← mkW_set]; exact b1) b3 a3)
end
end
section
/-! The state over a fixed skeleton of cells: numbers of fields, of int arrays, of long arrays, which problem stands where in the history. S 0, text 1, reader 6, term 7, problem 9, draft 19, history 29, saved 30, s1 91, s2 101, cuts 111, classes 113, trial 116, model 119, M 123 -/
abbrev SS : Type := (Nat → Nat → Int32) × (Nat → Nat → Int32) × (Nat → Nat → Int64) × (Nat → Nat)
abbrev Sk : Type := (Nat × Nat) ⊕ (Nat × List (Option Nat))
def skL : List Sk := [.inr (9, [some 1, some 6, some 9, some 19, some 29, some 91, some 101, none, some 111, some 113, some 116, some 119, none]), .inr (8, [some 2, none, some 3, some 4, some 5, none, none]), .inl (3, 200), .inl (0, 200), .inl (0, 200), .inl (0, 200), .inr (5, [some 1, some 7, none, none]), .inr (7, [some 8, none, none]), .inl (0, 16), .inr (4, [some 10, some 11, some 15]), .inl (0, 8), .inr (6, [none, none, some 12, some 13, some 14]), .inl (0, 10), .inl (0, 320), .inl (0, 20), .inr (6, [none, none, some 16, some 17, some 18]), .inl (0, 3), .inl (0, 96), .inl (0, 6), .inr (4, [some 20, some 21, some 25]), .inl (0, 8), .inr (6, [none, none, some 22, some 23, some 24]), .inl (0, 10), .inl (0, 320), .inl (0, 20), .inr (6, [none, none, some 26, some 27, some 28]), .inl (0, 3), .inl (0, 96), .inl (0, 6), .inr (2, [some 30, none]), .inl (4, 6), .inr (4, [some 32, some 33, some 37]), .inl (0, 8), .inr (6, [none, none, some 34, some 35, some 36]), .inl (0, 10), .inl (0, 320), .inl (0, 20), .inr (6, [none, none, some 38, some 39, some 40]), .inl (0, 3), .inl (0, 96), .inl (0, 6), .inr (4, [some 42, some 43, some 47]), .inl (0, 8), .inr (6, [none, none, some 44, some 45, some 46]), .inl (0, 10), .inl (0, 320), .inl (0, 20), .inr (6, [none, none, some 48, some 49, some 50]), .inl (0, 3), .inl (0, 96), .inl (0, 6), .inr (4, [some 52, some 53, some 57]), .inl (0, 8), .inr (6, [none, none, some 54, some 55, some 56]), .inl (0, 10), .inl (0, 320), .inl (0, 20), .inr (6, [none, none, some 58, some 59, some 60]), .inl (0, 3), .inl (0, 96), .inl (0, 6), .inr (4, [some 62, some 63, some 67]), .inl (0, 8), .inr (6, [none, none, some 64, some 65, some 66]), .inl (0, 10), .inl (0, 320), .inl (0, 20), .inr (6, [none, none, some 68, some 69, some 70]), .inl (0, 3), .inl (0, 96), .inl (0, 6), .inr (4, [some 72, some 73, some 77]), .inl (0, 8), .inr (6, [none, none, some 74, some 75, some 76]), .inl (0, 10), .inl (0, 320), .inl (0, 20), .inr (6, [none, none, some 78, some 79, some 80]), .inl (0, 3), .inl (0, 96), .inl (0, 6), .inr (4, [some 82, some 83, some 87]), .inl (0, 8), .inr (6, [none, none, some 84, some 85, some 86]), .inl (0, 10), .inl (0, 320), .inl (0, 20), .inr (6, [none, none, some 88, some 89, some 90]), .inl (0, 3), .inl (0, 96), .inl (0, 6), .inr (4, [some 92, some 93, some 97]), .inl (0, 8), .inr (6, [none, none, some 94, some 95, some 96]), .inl (0, 10), .inl (0, 320), .inl (0, 20), .inr (6, [none, none, some 98, some 99, some 100]), .inl (0, 3), .inl (0, 96), .inl (0, 6), .inr (4, [some 102, some 103, some 107]), .inl (0, 8), .inr (6, [none, none, some 104, some 105, some 106]), .inl (0, 10), .inl (0, 320), .inl (0, 20), .inr (6, [none, none, some 108, some 109, some 110]), .inl (0, 3), .inl (0, 96), .inl (0, 6), .inr (1, [some 112]), .inl (0, 8), .inr (0, [some 114, some 115, none]), .inl (0, 128), .inl (0, 128), .inr (0, [some 117, some 118, none]), .inl (0, 128), .inl (0, 128), .inr (3, [some 120, some 121, none, some 122, none]), .inl (1, 128), .inl (0, 128), .inl (0, 3), .inr (10, [none, some 124, some 125, some 126, none, some 127, some 128, some 129, none, none, none, none, none, none, some 130, none, none, some 131, none, some 132, some 133, none, some 134, none, some 135, none]), .inl (0, 439), .inl (0, 439), .inl (0, 2634), .inl (0, 878), .inl (2, 2), .inl (0, 200), .inl (0, 16), .inl (2, 128), .inl (0, 128), .inl (0, 128), .inl (0, 3), .inl (0, 128)]
def sk (k : Nat) : Option Sk := skL[k]?
def fv (G : Gl) (σ : SS) (k j : Nat) (r : Option Nat) : Value := match r with
  | none => .int (σ.1 k j)
  | some t => Rf G t
def cellOf (G : Gl) (σ : SS) (k : Nat) (s : Sk) : va_E := match s with
  | .inl (0, n) => aI G n (σ.2.1 k)
  | .inl (1, n) => aL G n (σ.2.2.1 k)
  | .inl (2, n) => aZ G n (σ.2.1 k)
  | .inl (3, n) => aC G n (σ.2.1 k)
  | .inl (_ + 4, n) => aP G n (fun j => some (σ.2.2.2 j))
  | .inr (ci, fs) => ob ci (fs.mapIdx (fun j r => fv G σ k j r))
def wld (G : Gl) (σ : SS) : List va_E := skL.mapIdx (fun k s => cellOf G σ k s)
theorem wld_get (G : Gl) (σ : SS) (k : Nat) : (wld G σ)[k]? = (sk k).map (cellOf G σ k) := by unfold wld sk; rw [List.getElem?_mapIdx]
theorem wld_at {G : Gl} {σ : SS} {k : Nat} {s : Sk} (h : sk k = some s) : (wld G σ)[k]? = some (cellOf G σ k s) := by rw [wld_get, h]; rfl
theorem wld_len (G : Gl) (σ : SS) : (wld G σ).length = 136 := by unfold wld; rw [List.length_mapIdx]; rfl
def sF (σ : SS) (k j : Nat) (v : Int32) : SS := (va_up σ.1 k (va_up (σ.1 k) j v), σ.2.1, σ.2.2.1, σ.2.2.2)
def sA (σ : SS) (k : Nat) (f : Nat → Int32) : SS := (σ.1, va_up σ.2.1 k f, σ.2.2.1, σ.2.2.2)
def sL (σ : SS) (k : Nat) (f : Nat → Int64) : SS := (σ.1, σ.2.1, va_up σ.2.2.1 k f, σ.2.2.2)
def sP (σ : SS) (f : Nat → Nat) : SS := (σ.1, σ.2.1, σ.2.2.1, f)
theorem wld_set {G : Gl} {σ σ' : SS} {k : Nat} {s : Sk} {e : va_E} (h : sk k = some s) (he : cellOf G σ' k s = e) (ho : ∀ j s', j ≠ k → sk j = some s' → cellOf G σ' j s' = cellOf G σ j s') : (wld G σ).set k e = wld G σ' := by
  apply List.ext_getElem?
  intro j
  rw [List.getElem?_set]
  by_cases hj : k = j
  · subst hj
    rw [if_pos rfl, if_pos (by have := List.getElem?_eq_some_iff.mp (wld_at (G := G) (σ := σ) h); exact this.1), wld_at h, he]
  · rw [if_neg hj, wld_get, wld_get]
    cases hs : sk j with
    | none => rfl
    | some s' => simp only [Option.map_some]; rw [ho j s' (fun e => hj e.symm) hs]
theorem cellOf_F {G : Gl} {σ σ' : SS} {j : Nat} {s : Sk} (h1 : σ'.1 j = σ.1 j) (h2 : σ'.2.1 j = σ.2.1 j) (h3 : σ'.2.2.1 j = σ.2.2.1 j) (h4 : σ'.2.2.2 = σ.2.2.2) : cellOf G σ' j s = cellOf G σ j s := by
  unfold cellOf fv
  rw [h1, h2, h3, h4]
theorem wld_sF {G : Gl} {σ : SS} {k j ci : Nat} {fs : List (Option Nat)} {v : Int32} (h : sk k = some (.inr (ci, fs))) (hj : fs[j]? = some none) : (wld G σ).set k (ob ci ((fs.mapIdx (fun j r => fv G σ k j r)).set j (.int v))) = wld G (sF σ k j v) := by
  refine wld_set h ?_ (fun i s' hi hs => cellOf_F (by simp [sF, va_up, hi]) rfl rfl rfl)
  show ob ci (fs.mapIdx (fun i r => fv G (sF σ k j v) k i r)) = _
  congr 1
  apply List.ext_getElem?
  intro i
  rw [List.getElem?_set, List.getElem?_mapIdx, List.getElem?_mapIdx]
  by_cases hi : j = i
  · subst hi
    rw [if_pos rfl, if_pos (by rw [List.length_mapIdx]; exact (List.getElem?_eq_some_iff.mp hj).1), hj]
    simp [fv, sF, va_up]
  · rw [if_neg hi]
    cases fs[i]? with
    | none => rfl
    | some r => cases r <;> simp [fv, sF, va_up, Ne.symm hi]
theorem wld_sAI {G : Gl} {σ : SS} {k n : Nat} {f : Nat → Int32} (h : sk k = some (.inl (0, n))) : (wld G σ).set k (aI G n f) = wld G (sA σ k f) := wld_set h (by simp [cellOf, sA, va_up]) (fun i s' hi hs => cellOf_F rfl (by simp [sA, va_up, hi]) rfl rfl)
theorem wld_sAZ {G : Gl} {σ : SS} {k n : Nat} {f : Nat → Int32} (h : sk k = some (.inl (2, n))) : (wld G σ).set k (aZ G n f) = wld G (sA σ k f) := wld_set h (by simp [cellOf, sA, va_up]) (fun i s' hi hs => cellOf_F rfl (by simp [sA, va_up, hi]) rfl rfl)
theorem wld_sAC {G : Gl} {σ : SS} {k n : Nat} {f : Nat → Int32} (h : sk k = some (.inl (3, n))) : (wld G σ).set k (aC G n f) = wld G (sA σ k f) := wld_set h (by simp [cellOf, sA, va_up]) (fun i s' hi hs => cellOf_F rfl (by simp [sA, va_up, hi]) rfl rfl)
theorem wld_sL {G : Gl} {σ : SS} {k n : Nat} {f : Nat → Int64} (h : sk k = some (.inl (1, n))) : (wld G σ).set k (aL G n f) = wld G (sL σ k f) := wld_set h (by simp [cellOf, sL, va_up]) (fun i s' hi hs => cellOf_F rfl rfl (by simp [sL, va_up, hi]) rfl)
def notP (s : Sk) : Bool := match s with
  | .inl (t, _) => decide (t < 4)
  | .inr _ => true
theorem cellOf_P {G : Gl} {σ σ' : SS} {j : Nat} {s : Sk} (hn : notP s = true) (h1 : σ'.1 j = σ.1 j) (h2 : σ'.2.1 j = σ.2.1 j) (h3 : σ'.2.2.1 j = σ.2.2.1 j) : cellOf G σ' j s = cellOf G σ j s := by
  rcases s with ⟨t, n⟩ | ⟨ci, fs⟩
  · match t with
    | 0 => simp [cellOf, h2]
    | 1 => simp [cellOf, h3]
    | 2 => simp [cellOf, h2]
    | 3 => simp [cellOf, h2]
    | t + 4 => simp [notP] at hn; omega
  · simp [cellOf, fv, h1]
theorem sk_P : ∀ j s, j ≠ 30 → sk j = some s → notP s = true := by
  have h : ∀ j, j < 136 → j ≠ 30 → (sk j).all notP = true := by decide +kernel
  intro j s hj hs
  have hl : j < 136 := (List.getElem?_eq_some_iff.mp hs).1
  have := h j hl hj
  rw [hs] at this
  exact this
theorem wld_sP {G : Gl} {σ : SS} {f : Nat → Nat} : (wld G σ).set 30 (aP G 6 (fun j => some (f j))) = wld G (sP σ f) := wld_set (s := .inl (4, 6)) rfl (by simp [cellOf, sP]) (fun i s' hi hs => cellOf_P (sk_P i s' hi hs) rfl rfl rfl)
/-- the answers' forms -/
def PI (G : Gl) (post : Int32 → SS → Prop) : Option Value → List va_E → Prop := fun v cs => ∃ (r : Int32) (σ : SS), v = some (.int r) ∧ cs = wld G σ ∧ post r σ
def PL (G : Gl) (post : Int64 → SS → Prop) : Option Value → List va_E → Prop := fun v cs => ∃ (r : Int64) (σ : SS), v = some (.long r) ∧ cs = wld G σ ∧ post r σ
def PV (G : Gl) (post : SS → Prop) : Option Value → List va_E → Prop := fun v cs => ∃ σ : SS, v = none ∧ cs = wld G σ ∧ post σ
def PR (G : Gl) (post : Nat → SS → Prop) : Option Value → List va_E → Prop := fun v cs => ∃ (r : Nat) (σ : SS), v = some (Rf G r) ∧ cs = wld G σ ∧ post r σ
abbrev CI (G : Gl) (μ : Mi) (As : List Value) (σ : SS) (post : Int32 → SS → Prop) : Prop := Ctr G μ As (wld G σ) false 0 0 (PI G post)
abbrev CL (G : Gl) (μ : Mi) (As : List Value) (σ : SS) (post : Int64 → SS → Prop) : Prop := Ctr G μ As (wld G σ) false 0 0 (PL G post)
abbrev CV (G : Gl) (μ : Mi) (As : List Value) (σ : SS) (post : SS → Prop) : Prop := Ctr G μ As (wld G σ) false 0 0 (PV G post)
abbrev CR (G : Gl) (μ : Mi) (As : List Value) (σ : SS) (post : Nat → SS → Prop) : Prop := Ctr G μ As (wld G σ) false 0 0 (PR G post)
section
variable {G : Gl} {X : Cx0} {cc : ByteArray} {nL fr lo mc ms ce sl pc : Nat} {own : String} {lv : List (Nat × Value)} {st : List Value} {σ : SS}
theorem V.getI (C : Cx G X cc nL own fr lo mc ms) {idx ci j k0 : Nat} {fin : Option Bool} {ty : FieldType} {fs : List (Option Nat)} (F : FLk own idx ci j fin ty) (d : decode cc pc = .ok (.getfield idx, 3)) (hk : sk k0 = some (.inr (ci, fs))) (hj : fs[j]? = some none) (k : V G X nL ce sl (pc + 3) lv (.int (σ.1 k0 j) :: st) (wld G σ)) : V G X nL ce sl pc lv (Rf G k0 :: st) (wld G σ) :=
  V.get C F d (wld_at hk) (v := .int (σ.1 k0 j)) (by rw [List.getElem?_mapIdx, hj]; rfl) k
theorem V.getR (C : Cx G X cc nL own fr lo mc ms) {idx ci j k0 t : Nat} {fin : Option Bool} {ty : FieldType} {fs : List (Option Nat)} (F : FLk own idx ci j fin ty) (d : decode cc pc = .ok (.getfield idx, 3)) (hk : sk k0 = some (.inr (ci, fs))) (hj : fs[j]? = some (some t)) (k : V G X nL ce sl (pc + 3) lv (Rf G t :: st) (wld G σ)) : V G X nL ce sl pc lv (Rf G k0 :: st) (wld G σ) :=
  V.get C F d (wld_at hk) (v := Rf G t) (by rw [List.getElem?_mapIdx, hj]; rfl) k
theorem V.putI (C : Cx G X cc nL own fr lo mc ms) {idx ci j k0 : Nat} {fs : List (Option Nat)} {v : Int32} (F : FLk own idx ci j (some false) .int) (d : decode cc pc = .ok (.putfield idx, 3)) (hk : sk k0 = some (.inr (ci, fs))) (hj : fs[j]? = some none) (k : V G X nL ce sl (pc + 3) lv st (wld G (sF σ k0 j v))) : V G X nL ce sl pc lv (.int v :: Rf G k0 :: st) (wld G σ) :=
  V.put C F d (wld_at hk) rfl rfl (by rw [List.length_mapIdx]; exact (List.getElem?_eq_some_iff.mp hj).1) (by rw [wld_sF hk hj]; exact k)
theorem V.putZ (C : Cx G X cc nL own fr lo mc ms) {idx ci j k0 : Nat} {fs : List (Option Nat)} {v : Int32} (F : FLk own idx ci j (some false) .boolean) (d : decode cc pc = .ok (.putfield idx, 3)) (hk : sk k0 = some (.inr (ci, fs))) (hj : fs[j]? = some none) (hv : v = 0 ∨ v = 1) (k : V G X nL ce sl (pc + 3) lv st (wld G (sF σ k0 j v))) : V G X nL ce sl pc lv (.int v :: Rf G k0 :: st) (wld G σ) :=
  V.put C F d (wld_at hk) (by rcases hv with rfl | rfl <;> rfl) (by rcases hv with rfl | rfl <;> rfl) (by rw [List.length_mapIdx]; exact (List.getElem?_eq_some_iff.mp hj).1) (by rw [wld_sF hk hj]; exact k)
theorem V.ialdS (C : Cx G X cc nL own fr lo mc ms) {k0 n : Nat} {i : Int32} (d : decode cc pc = .ok (.iaload, 1)) (hk : sk k0 = some (.inl (0, n))) (hin : vp_in i n) (k : V G X nL ce sl (pc + 1) lv (.int (σ.2.1 k0 i.toNatClampNeg) :: st) (wld G σ)) : V G X nL ce sl pc lv (.int i :: Rf G k0 :: st) (wld G σ) := V.iald C d (wld_at hk) hin k
theorem V.zaldS (C : Cx G X cc nL own fr lo mc ms) {k0 n : Nat} {i : Int32} (d : decode cc pc = .ok (.baload, 1)) (hk : sk k0 = some (.inl (2, n))) (hin : vp_in i n) (k : V G X nL ce sl (pc + 1) lv (.int (σ.2.1 k0 i.toNatClampNeg) :: st) (wld G σ)) : V G X nL ce sl pc lv (.int i :: Rf G k0 :: st) (wld G σ) := V.zald C d (wld_at hk) hin k
theorem V.caldS (C : Cx G X cc nL own fr lo mc ms) {k0 n : Nat} {i : Int32} (d : decode cc pc = .ok (.caload, 1)) (hk : sk k0 = some (.inl (3, n))) (hin : vp_in i n) (k : V G X nL ce sl (pc + 1) lv (.int (σ.2.1 k0 i.toNatClampNeg) :: st) (wld G σ)) : V G X nL ce sl pc lv (.int i :: Rf G k0 :: st) (wld G σ) := V.cald C d (wld_at hk) hin k
theorem V.laldS (C : Cx G X cc nL own fr lo mc ms) {k0 n : Nat} {i : Int32} (d : decode cc pc = .ok (.laload, 1)) (hk : sk k0 = some (.inl (1, n))) (hin : vp_in i n) (k : V G X nL ce sl (pc + 1) lv (.long (σ.2.2.1 k0 i.toNatClampNeg) :: st) (wld G σ)) : V G X nL ce sl pc lv (.int i :: Rf G k0 :: st) (wld G σ) := V.lald C d (wld_at hk) hin k
theorem V.paldS (C : Cx G X cc nL own fr lo mc ms) {k0 n : Nat} {i : Int32} (d : decode cc pc = .ok (.aaload, 1)) (hk : sk k0 = some (.inl (4, n))) (hin : vp_in i n) (k : V G X nL ce sl (pc + 1) lv (Rf G (σ.2.2.2 i.toNatClampNeg) :: st) (wld G σ)) : V G X nL ce sl pc lv (.int i :: Rf G k0 :: st) (wld G σ) := V.pald C d (wld_at hk) hin rfl k
theorem V.iastS (C : Cx G X cc nL own fr lo mc ms) {k0 n : Nat} {i x : Int32} (d : decode cc pc = .ok (.iastore, 1)) (hk : sk k0 = some (.inl (0, n))) (hin : vp_in i n) (k : V G X nL ce sl (pc + 1) lv st (wld G (sA σ k0 (va_up (σ.2.1 k0) i.toNatClampNeg x)))) : V G X nL ce sl pc lv (.int x :: .int i :: Rf G k0 :: st) (wld G σ) := V.iast C d (wld_at hk) hin (by rw [wld_sAI hk]; exact k)
theorem V.zastS (C : Cx G X cc nL own fr lo mc ms) {k0 n : Nat} {i x : Int32} (d : decode cc pc = .ok (.bastore, 1)) (hk : sk k0 = some (.inl (2, n))) (hin : vp_in i n) (hv : x = 0 ∨ x = 1) (k : V G X nL ce sl (pc + 1) lv st (wld G (sA σ k0 (va_up (σ.2.1 k0) i.toNatClampNeg x)))) : V G X nL ce sl pc lv (.int x :: .int i :: Rf G k0 :: st) (wld G σ) := V.zast C d (wld_at hk) hin (by rw [show vp_nar .boolean x = x by rcases hv with rfl | rfl <;> rfl, wld_sAZ hk]; exact k)
theorem V.castS (C : Cx G X cc nL own fr lo mc ms) {k0 n : Nat} {i x : Int32} (d : decode cc pc = .ok (.castore, 1)) (hk : sk k0 = some (.inl (3, n))) (hin : vp_in i n) (hv : vp_nar .char x = x) (k : V G X nL ce sl (pc + 1) lv st (wld G (sA σ k0 (va_up (σ.2.1 k0) i.toNatClampNeg x)))) : V G X nL ce sl pc lv (.int x :: .int i :: Rf G k0 :: st) (wld G σ) := V.cast C d (wld_at hk) hin (by rw [hv, wld_sAC hk]; exact k)
theorem V.lastS (C : Cx G X cc nL own fr lo mc ms) {k0 n : Nat} {i : Int32} {x : Int64} (d : decode cc pc = .ok (.lastore, 1)) (hk : sk k0 = some (.inl (1, n))) (hin : vp_in i n) (k : V G X nL ce sl (pc + 1) lv st (wld G (sL σ k0 (va_up (σ.2.2.1 k0) i.toNatClampNeg x)))) : V G X nL ce sl pc lv (.long x :: .int i :: Rf G k0 :: st) (wld G σ) := V.last C d (wld_at hk) hin (by rw [wld_sL hk]; exact k)
theorem V.pastS (C : Cx G X cc nL own fr lo mc ms) {j : Nat} {i : Int32} {fs : List (Option Nat)} (d : decode cc pc = .ok (.aastore, 1)) (hj : sk j = some (.inr (4, fs))) (hin : vp_in i 6) (k : V G X nL ce sl (pc + 1) lv st (wld G (sP σ (va_up σ.2.2.2 i.toNatClampNeg j)))) : V G X nL ce sl pc lv (Rf G j :: .int i :: Rf G 30 :: st) (wld G σ) := V.past C d (wld_at (s := .inl (4, 6)) rfl) (wld_at hj) hin (by
    have e : va_up (fun j => some (σ.2.2.2 j)) i.toNatClampNeg (some j) = fun z => some (va_up σ.2.2.2 i.toNatClampNeg j z) := by
      funext z; unfold va_up; by_cases hz : z = i.toNatClampNeg <;> simp [hz]
    rw [e, wld_sP]; exact k)
theorem V.copyS (C : Cx G X cc nL own fr lo mc ms) {idx k0 k1 n0 n1 : Nat} {sp dp n : Int32} (h1 : Cond.methodLink own idx arraycopyName ∈ TB) (h2 : Cond.native arraycopyName ∈ TB) (h3 : Cond.static arraycopyName ∈ TB) (h4 : Cond.initialized "java/lang/System" ∈ TB) (d : decode cc pc = .ok (.invokestatic idx, 3)) (hc0 : sk k0 = some (.inl (0, n0))) (hc1 : sk k1 = some (.inl (0, n1))) (g1 : ¬ sp < 0) (g2 : ¬ dp < 0) (g3 : ¬ n < 0) (g4 : sp.toNatClampNeg + n.toNatClampNeg ≤ n0) (g5 : dp.toNatClampNeg + n.toNatClampNeg ≤ n1) (hf : 1 ≤ fr) (hlo : (st.map fun v => v.category).sum + (nativeFrameWords "java/lang/System" "arraycopy" 5 + 11) ≤ lo)
    (k : V G X nL ce sl (pc + 3) lv st (wld G (sA σ k1 (va_cpy (σ.2.1 k0) (σ.2.1 k1) sp.toNatClampNeg dp.toNatClampNeg n.toNatClampNeg)))) : V G X nL ce sl pc lv (.int n :: .int dp :: Rf G k1 :: .int sp :: Rf G k0 :: st) (wld G σ) :=
  V.copyi C h1 h2 h3 h4 d (wld_at hc0) (wld_at hc1) g1 g2 g3 g4 g5 hf hlo (by rw [wld_sAI hc1]; exact k)
theorem V.iretS (C : Cx G X cc nL own fr lo mc ms) {post : Int32 → SS → Prop} (R : Cr G X (some .int) ce sl (PI G post)) {v : Int32} (d : decode cc pc = .ok (.ireturn, 1)) (h : post v σ) : V G X nL ce sl pc lv [.int v] (wld G σ) := V.iret C R d ⟨_, _, rfl, rfl, h⟩
theorem V.lretS (C : Cx G X cc nL own fr lo mc ms) {post : Int64 → SS → Prop} (R : Cr G X (some .long) ce sl (PL G post)) {v : Int64} (d : decode cc pc = .ok (.lreturn, 1)) (h : post v σ) : V G X nL ce sl pc lv [.long v] (wld G σ) := V.lret C R d ⟨_, _, rfl, rfl, h⟩
theorem V.zretS (C : Cx G X cc nL own fr lo mc ms) {post : Int32 → SS → Prop} (R : Cr G X (some .boolean) ce sl (PI G post)) {v : Int32} (d : decode cc pc = .ok (.ireturn, 1)) (hv : v = 0 ∨ v = 1) (h : post v σ) : V G X nL ce sl pc lv [.int v] (wld G σ) := V.zret C R d (by rcases hv with rfl | rfl <;> rfl) ⟨_, _, rfl, rfl, h⟩
theorem V.vretS (C : Cx G X cc nL own fr lo mc ms) {post : SS → Prop} (R : Cr G X none ce sl (PV G post)) (d : decode cc pc = .ok (.return_, 1)) (h : post σ) : V G X nL ce sl pc lv [] (wld G σ) := V.vret C R d ⟨_, rfl, rfl, h⟩
theorem V.aretS (C : Cx G X cc nL own fr lo mc ms) {cn : String} {post : Nat → SS → Prop} (R : Cr G X (some (.object cn)) ce sl (PR G post)) {j : Nat} (d : decode cc pc = .ok (.areturn, 1)) (h : post j σ) : V G X nL ce sl pc lv [Rf G j] (wld G σ) := V.aret C R d ⟨_, _, rfl, rfl, h⟩
theorem V.cVi (C : Cx G X cc nL own fr lo mc ms) {idx n ci k0 : Nat} {μ : Mi} {As : List Value} {fs : List (Option Nat)} {st0 : List Value} {post : Int32 → SS → Prop} (L : LkV own idx μ n ci) (M : MOk μ) (d : decode cc pc = .ok (.invokevirtual idx, 3)) (h : CI G μ (Rf G k0 :: As) σ post) (hk : sk k0 = some (.inr (ci, fs))) (hn : As.length = n) (hst : st0 = As.reverse ++ Rf G k0 :: st) (hw : (st.map fun v => v.category).sum ≤ 8) (hr : μ.2.2.2.2.1 + 1 ≤ fr ∧ 8 + (μ.2.2.1 + 11) + μ.2.2.2.2.2 ≤ lo) (hm : ce ≤ mc ∧ sl ≤ ms) (k : ∀ (r : Int32) (σ1 : SS), post r σ1 → V G X nL ce sl (pc + 3) lv (.int r :: st) (wld G σ1)) : V G X nL ce sl pc lv st0 (wld G σ) :=
  V.callV C L M d h (wld_at hk) hn hst hw hr hm (fun h => by cases h) (by intro v cs2 hp; obtain ⟨r, σ1, h1, h2, hp⟩ := hp; rw [h1, h2]; exact k r σ1 hp)
theorem V.cSi (C : Cx G X cc nL own fr lo mc ms) {idx n : Nat} {μ : Mi} {As : List Value} {st0 : List Value} {post : Int32 → SS → Prop} (L : LkS own idx μ n) (M : MOk μ) (d : decode cc pc = .ok (.invokestatic idx, 3)) (h : CI G μ As σ post) (hn : As.length = n) (hst : st0 = As.reverse ++ st) (hw : (st.map fun v => v.category).sum ≤ 8) (hr : μ.2.2.2.2.1 + 1 ≤ fr ∧ 8 + (μ.2.2.1 + 11) + μ.2.2.2.2.2 ≤ lo) (hm : ce ≤ mc ∧ sl ≤ ms) (k : ∀ (r : Int32) (σ1 : SS), post r σ1 → V G X nL ce sl (pc + 3) lv (.int r :: st) (wld G σ1)) : V G X nL ce sl pc lv st0 (wld G σ) :=
  V.callS C L M d h hn hst hw hr hm (fun h => by cases h) (by intro v cs2 hp; obtain ⟨r, σ1, h1, h2, hp⟩ := hp; rw [h1, h2]; exact k r σ1 hp)
theorem V.cSNi (C : Cx G X cc nL own fr lo mc ms) {idx n : Nat} {μ : Mi} {As : List Value} {st0 : List Value} {post : Int32 → SS → Prop} (L : LkSN own idx μ n) (M : MOk μ) (d : decode cc pc = .ok (.invokestatic idx, 3)) (h : CI G μ As σ post) (hn : As.length = n) (hst : st0 = As.reverse ++ st) (hw : (st.map fun v => v.category).sum ≤ 8) (hr : μ.2.2.2.2.1 + 1 ≤ fr ∧ 8 + (μ.2.2.1 + 11) + μ.2.2.2.2.2 ≤ lo) (hm : ce ≤ mc ∧ sl ≤ ms) (k : ∀ (r : Int32) (σ1 : SS), post r σ1 → V G X nL ce sl (pc + 3) lv (.int r :: st) (wld G σ1)) : V G X nL ce sl pc lv st0 (wld G σ) :=
  V.callSN C L M d h hn hst hw hr hm (fun h => by cases h) (by intro v cs2 hp; obtain ⟨r, σ1, h1, h2, hp⟩ := hp; rw [h1, h2]; exact k r σ1 hp)
theorem V.cVl (C : Cx G X cc nL own fr lo mc ms) {idx n ci k0 : Nat} {μ : Mi} {As : List Value} {fs : List (Option Nat)} {st0 : List Value} {post : Int64 → SS → Prop} (L : LkV own idx μ n ci) (M : MOk μ) (d : decode cc pc = .ok (.invokevirtual idx, 3)) (h : CL G μ (Rf G k0 :: As) σ post) (hk : sk k0 = some (.inr (ci, fs))) (hn : As.length = n) (hst : st0 = As.reverse ++ Rf G k0 :: st) (hw : (st.map fun v => v.category).sum ≤ 8) (hr : μ.2.2.2.2.1 + 1 ≤ fr ∧ 8 + (μ.2.2.1 + 11) + μ.2.2.2.2.2 ≤ lo) (hm : ce ≤ mc ∧ sl ≤ ms) (k : ∀ (r : Int64) (σ1 : SS), post r σ1 → V G X nL ce sl (pc + 3) lv (.long r :: st) (wld G σ1)) : V G X nL ce sl pc lv st0 (wld G σ) :=
  V.callV C L M d h (wld_at hk) hn hst hw hr hm (fun h => by cases h) (by intro v cs2 hp; obtain ⟨r, σ1, h1, h2, hp⟩ := hp; rw [h1, h2]; exact k r σ1 hp)
theorem V.cSl (C : Cx G X cc nL own fr lo mc ms) {idx n : Nat} {μ : Mi} {As : List Value} {st0 : List Value} {post : Int64 → SS → Prop} (L : LkS own idx μ n) (M : MOk μ) (d : decode cc pc = .ok (.invokestatic idx, 3)) (h : CL G μ As σ post) (hn : As.length = n) (hst : st0 = As.reverse ++ st) (hw : (st.map fun v => v.category).sum ≤ 8) (hr : μ.2.2.2.2.1 + 1 ≤ fr ∧ 8 + (μ.2.2.1 + 11) + μ.2.2.2.2.2 ≤ lo) (hm : ce ≤ mc ∧ sl ≤ ms) (k : ∀ (r : Int64) (σ1 : SS), post r σ1 → V G X nL ce sl (pc + 3) lv (.long r :: st) (wld G σ1)) : V G X nL ce sl pc lv st0 (wld G σ) :=
  V.callS C L M d h hn hst hw hr hm (fun h => by cases h) (by intro v cs2 hp; obtain ⟨r, σ1, h1, h2, hp⟩ := hp; rw [h1, h2]; exact k r σ1 hp)
theorem V.cSNl (C : Cx G X cc nL own fr lo mc ms) {idx n : Nat} {μ : Mi} {As : List Value} {st0 : List Value} {post : Int64 → SS → Prop} (L : LkSN own idx μ n) (M : MOk μ) (d : decode cc pc = .ok (.invokestatic idx, 3)) (h : CL G μ As σ post) (hn : As.length = n) (hst : st0 = As.reverse ++ st) (hw : (st.map fun v => v.category).sum ≤ 8) (hr : μ.2.2.2.2.1 + 1 ≤ fr ∧ 8 + (μ.2.2.1 + 11) + μ.2.2.2.2.2 ≤ lo) (hm : ce ≤ mc ∧ sl ≤ ms) (k : ∀ (r : Int64) (σ1 : SS), post r σ1 → V G X nL ce sl (pc + 3) lv (.long r :: st) (wld G σ1)) : V G X nL ce sl pc lv st0 (wld G σ) :=
  V.callSN C L M d h hn hst hw hr hm (fun h => by cases h) (by intro v cs2 hp; obtain ⟨r, σ1, h1, h2, hp⟩ := hp; rw [h1, h2]; exact k r σ1 hp)
theorem V.cVv (C : Cx G X cc nL own fr lo mc ms) {idx n ci k0 : Nat} {μ : Mi} {As : List Value} {fs : List (Option Nat)} {st0 : List Value} {post : SS → Prop} (L : LkV own idx μ n ci) (M : MOk μ) (d : decode cc pc = .ok (.invokevirtual idx, 3)) (h : CV G μ (Rf G k0 :: As) σ post) (hk : sk k0 = some (.inr (ci, fs))) (hn : As.length = n) (hst : st0 = As.reverse ++ Rf G k0 :: st) (hw : (st.map fun v => v.category).sum ≤ 8) (hr : μ.2.2.2.2.1 + 1 ≤ fr ∧ 8 + (μ.2.2.1 + 11) + μ.2.2.2.2.2 ≤ lo) (hm : ce ≤ mc ∧ sl ≤ ms) (k : ∀ (σ1 : SS), post σ1 → V G X nL ce sl (pc + 3) lv st (wld G σ1)) : V G X nL ce sl pc lv st0 (wld G σ) :=
  V.callV C L M d h (wld_at hk) hn hst hw hr hm (fun h => by cases h) (by intro v cs2 hp; obtain ⟨σ1, h1, h2, hp⟩ := hp; rw [h1, h2]; exact k σ1 hp)
theorem V.cSv (C : Cx G X cc nL own fr lo mc ms) {idx n : Nat} {μ : Mi} {As : List Value} {st0 : List Value} {post : SS → Prop} (L : LkS own idx μ n) (M : MOk μ) (d : decode cc pc = .ok (.invokestatic idx, 3)) (h : CV G μ As σ post) (hn : As.length = n) (hst : st0 = As.reverse ++ st) (hw : (st.map fun v => v.category).sum ≤ 8) (hr : μ.2.2.2.2.1 + 1 ≤ fr ∧ 8 + (μ.2.2.1 + 11) + μ.2.2.2.2.2 ≤ lo) (hm : ce ≤ mc ∧ sl ≤ ms) (k : ∀ (σ1 : SS), post σ1 → V G X nL ce sl (pc + 3) lv st (wld G σ1)) : V G X nL ce sl pc lv st0 (wld G σ) :=
  V.callS C L M d h hn hst hw hr hm (fun h => by cases h) (by intro v cs2 hp; obtain ⟨σ1, h1, h2, hp⟩ := hp; rw [h1, h2]; exact k σ1 hp)
theorem V.cSNv (C : Cx G X cc nL own fr lo mc ms) {idx n : Nat} {μ : Mi} {As : List Value} {st0 : List Value} {post : SS → Prop} (L : LkSN own idx μ n) (M : MOk μ) (d : decode cc pc = .ok (.invokestatic idx, 3)) (h : CV G μ As σ post) (hn : As.length = n) (hst : st0 = As.reverse ++ st) (hw : (st.map fun v => v.category).sum ≤ 8) (hr : μ.2.2.2.2.1 + 1 ≤ fr ∧ 8 + (μ.2.2.1 + 11) + μ.2.2.2.2.2 ≤ lo) (hm : ce ≤ mc ∧ sl ≤ ms) (k : ∀ (σ1 : SS), post σ1 → V G X nL ce sl (pc + 3) lv st (wld G σ1)) : V G X nL ce sl pc lv st0 (wld G σ) :=
  V.callSN C L M d h hn hst hw hr hm (fun h => by cases h) (by intro v cs2 hp; obtain ⟨σ1, h1, h2, hp⟩ := hp; rw [h1, h2]; exact k σ1 hp)
theorem V.cVr (C : Cx G X cc nL own fr lo mc ms) {idx n ci k0 : Nat} {μ : Mi} {As : List Value} {fs : List (Option Nat)} {st0 : List Value} {post : Nat → SS → Prop} (L : LkV own idx μ n ci) (M : MOk μ) (d : decode cc pc = .ok (.invokevirtual idx, 3)) (h : CR G μ (Rf G k0 :: As) σ post) (hk : sk k0 = some (.inr (ci, fs))) (hn : As.length = n) (hst : st0 = As.reverse ++ Rf G k0 :: st) (hw : (st.map fun v => v.category).sum ≤ 8) (hr : μ.2.2.2.2.1 + 1 ≤ fr ∧ 8 + (μ.2.2.1 + 11) + μ.2.2.2.2.2 ≤ lo) (hm : ce ≤ mc ∧ sl ≤ ms) (k : ∀ (r : Nat) (σ1 : SS), post r σ1 → V G X nL ce sl (pc + 3) lv (Rf G r :: st) (wld G σ1)) : V G X nL ce sl pc lv st0 (wld G σ) :=
  V.callV C L M d h (wld_at hk) hn hst hw hr hm (fun h => by cases h) (by intro v cs2 hp; obtain ⟨r, σ1, h1, h2, hp⟩ := hp; rw [h1, h2]; exact k r σ1 hp)
theorem V.cSr (C : Cx G X cc nL own fr lo mc ms) {idx n : Nat} {μ : Mi} {As : List Value} {st0 : List Value} {post : Nat → SS → Prop} (L : LkS own idx μ n) (M : MOk μ) (d : decode cc pc = .ok (.invokestatic idx, 3)) (h : CR G μ As σ post) (hn : As.length = n) (hst : st0 = As.reverse ++ st) (hw : (st.map fun v => v.category).sum ≤ 8) (hr : μ.2.2.2.2.1 + 1 ≤ fr ∧ 8 + (μ.2.2.1 + 11) + μ.2.2.2.2.2 ≤ lo) (hm : ce ≤ mc ∧ sl ≤ ms) (k : ∀ (r : Nat) (σ1 : SS), post r σ1 → V G X nL ce sl (pc + 3) lv (Rf G r :: st) (wld G σ1)) : V G X nL ce sl pc lv st0 (wld G σ) :=
  V.callS C L M d h hn hst hw hr hm (fun h => by cases h) (by intro v cs2 hp; obtain ⟨r, σ1, h1, h2, hp⟩ := hp; rw [h1, h2]; exact k r σ1 hp)
theorem V.cSNr (C : Cx G X cc nL own fr lo mc ms) {idx n : Nat} {μ : Mi} {As : List Value} {st0 : List Value} {post : Nat → SS → Prop} (L : LkSN own idx μ n) (M : MOk μ) (d : decode cc pc = .ok (.invokestatic idx, 3)) (h : CR G μ As σ post) (hn : As.length = n) (hst : st0 = As.reverse ++ st) (hw : (st.map fun v => v.category).sum ≤ 8) (hr : μ.2.2.2.2.1 + 1 ≤ fr ∧ 8 + (μ.2.2.1 + 11) + μ.2.2.2.2.2 ≤ lo) (hm : ce ≤ mc ∧ sl ≤ ms) (k : ∀ (r : Nat) (σ1 : SS), post r σ1 → V G X nL ce sl (pc + 3) lv (Rf G r :: st) (wld G σ1)) : V G X nL ce sl pc lv st0 (wld G σ) :=
  V.callSN C L M d h hn hst hw hr hm (fun h => by cases h) (by intro v cs2 hp; obtain ⟨r, σ1, h1, h2, hp⟩ := hp; rw [h1, h2]; exact k r σ1 hp)
end
end
section
/-! Methods with their room, their words; the links of calls, fields, classes. Printed by program out of the tables. -/
theorem TB_sub {ws : List Cond} (ps : List Nat) (hp : ws = ps.filterMap (fun i => lw_tbl[i]?)) (h : ws.all goodWord = true) : ∀ w ∈ ws, w ∈ TB := by
  intro w hw
  have h1 := List.all_eq_true.mp h w hw
  rw [hp] at hw
  obtain ⟨i, -, hi⟩ := List.mem_filterMap.mp hw
  exact TB_of hi h1
def mX8_init : Mi := (yX8_init, cX8_init, 1, none, 1, 20)
def mX7_init : Mi := (yX7_init, cX7_init, 1, none, 1, 20)
def mX5_init : Mi := (yX5_init, cX5_init, 2, none, 2, 40)
def mX6_init : Mi := (yX6_init, cX6_init, 2, none, 1, 21)
def mX4_init : Mi := (yX4_init, cX4_init, 1, none, 2, 42)
def mX2_init : Mi := (yX2_init, cX2_init, 2, none, 3, 62)
def mX1_init : Mi := (yX1_init, cX1_init, 1, none, 1, 20)
def mJ7_fill_53178 : Mi := (yJ7_fill_53178, cJ7_fill_53178, 4, none, 0, 0)
def mX0_clear : Mi := (yX0_clear, cX0_clear, 2, none, 1, 23)
def mX0_init : Mi := (yX0_init, cX0_init, 1, none, 2, 44)
def mX3_init : Mi := (yX3_init, cX3_init, 1, none, 1, 20)
def mX9_init : Mi := (yX9_init, cX9_init, 1, none, 4, 83)
def mX10_init : Mi := (yX10_init, cX10_init, 1, none, 1, 20)
def mX8_isFull : Mi := (yX8_isFull, cX8_isFull, 1, (some .boolean), 0, 0)
def mX8_add : Mi := (yX8_add, cX8_add, 2, none, 1, 20)
def mX8_length : Mi := (yX8_length, cX8_length, 1, (some .int), 0, 0)
def mX9_append : Mi := (yX9_append, cX9_append, 2, (some .int), 2, 41)
def mX10_in : Mi := (yX10_in, cX10_in, 3, (some .boolean), 0, 0)
def mX10_append : Mi := (yX10_append, cX10_append, 2, (some .int), 1, 22)
def mX8_clear : Mi := (yX8_clear, cX8_clear, 1, none, 0, 0)
def mX9_clearText : Mi := (yX9_clearText, cX9_clearText, 2, (some .int), 1, 20)
def mX10_clearText : Mi := (yX10_clearText, cX10_clearText, 2, (some .int), 0, 0)
def mX6_clear : Mi := (yX6_clear, cX6_clear, 1, none, 0, 0)
def mX4_clear : Mi := (yX4_clear, cX4_clear, 1, none, 1, 23)
def mX8_kindOfSign : Mi := (yX8_kindOfSign, cX8_kindOfSign, 1, (some .int), 0, 0)
def mJ0_coder_7d493 : Mi := (yJ0_coder_7d493, cJ0_coder_7d493, 1, (some .byte), 0, 0)
def mJ0_length_8abf5 : Mi := (yJ0_length_8abf5, cJ0_length_8abf5, 1, (some .int), 1, 20)
def mJ0_isLatin1_aae02 : Mi := (yJ0_isLatin1_aae02, cJ0_isLatin1_aae02, 1, (some .boolean), 0, 0)
def mJ3_checkIndex_8e157 : Mi := (yJ3_checkIndex_8e157, cJ3_checkIndex_8e157, 3, (some .int), 0, 0)
def mJ0_checkIndex_df160 : Mi := (yJ0_checkIndex_df160, cJ0_checkIndex_df160, 2, none, 1, 22)
def mJ1_charAt_3b067 : Mi := (yJ1_charAt_3b067, cJ1_charAt_3b067, 2, (some .char), 2, 43)
def mJ2_length_9d52b : Mi := (yJ2_length_9d52b, cJ2_length_9d52b, 1, (some .int), 0, 0)
def mJ2_checkIndex_2214a : Mi := (yJ2_checkIndex_2214a, cJ2_checkIndex_2214a, 2, none, 2, 43)
def mJ2_getChar_3b067 : Mi := (yJ2_getChar_3b067, cJ2_getChar_3b067, 2, (some .char), 1, 20)
def mJ2_charAt_3b067 : Mi := (yJ2_charAt_3b067, cJ2_charAt_3b067, 2, (some .char), 3, 64)
def mJ0_charAt_5068e : Mi := (yJ0_charAt_5068e, cJ0_charAt_5068e, 2, (some .char), 4, 85)
def mX8_isWord : Mi := (yX8_isWord, cX8_isWord, 5, (some .boolean), 5, 106)
def mX8_kindOfWord : Mi := (yX8_kindOfWord, cX8_kindOfWord, 3, (some .int), 6, 130)
def mX8_split : Mi := (yX8_split, cX8_split, 5, none, 7, 152)
def mX8_kind : Mi := (yX8_kind, cX8_kind, 1, (some .int), 0, 0)
def mX8_pass : Mi := (yX8_pass, cX8_pass, 2, (some .boolean), 0, 0)
def mX8_name : Mi := (yX8_name, cX8_name, 1, (some .int), 0, 0)
def mX9_isVariable : Mi := (yX9_isVariable, cX9_isVariable, 1, (some .boolean), 0, 0)
def mX4_widthOf : Mi := (yX4_widthOf, cX4_widthOf, 2, (some .int), 1, 20)
def mX8_advance : Mi := (yX8_advance, cX8_advance, 1, none, 0, 0)
def mX8_number : Mi := (yX8_number, cX8_number, 3, (some .int), 0, 0)
def mX4_declare : Mi := (yX4_declare, cX4_declare, 3, none, 1, 20)
def mX5_readDeclaration : Mi := (yX5_readDeclaration, cX5_readDeclaration, 4, (some .boolean), 2, 42)
def mX6_isFull : Mi := (yX6_isFull, cX6_isFull, 1, (some .boolean), 0, 0)
def mX7_clear : Mi := (yX7_clear, cX7_clear, 1, none, 0, 0)
def mX8_constantBits : Mi := (yX8_constantBits, cX8_constantBits, 2, (some .int), 0, 0)
def mX7_beginPart : Mi := (yX7_beginPart, cX7_beginPart, 1, none, 0, 0)
def mX8_constantBit : Mi := (yX8_constantBit, cX8_constantBit, 3, (some .int), 0, 0)
def mX7_add : Mi := (yX7_add, cX7_add, 2, none, 0, 0)
def mX5_readConstant : Mi := (yX5_readConstant, cX5_readConstant, 3, (some .boolean), 1, 22)
def mX5_readRange : Mi := (yX5_readRange, cX5_readRange, 3, (some .boolean), 1, 22)
def mX9_nodeOf : Mi := (yX9_nodeOf, cX9_nodeOf, 2, (some .int), 0, 0)
def mX7_addRange : Mi := (yX7_addRange, cX7_addRange, 4, none, 1, 21)
def mX5_readPart : Mi := (yX5_readPart, cX5_readPart, 3, (some .boolean), 2, 44)
def mX5_readTerm : Mi := (yX5_readTerm, cX5_readTerm, 4, (some .boolean), 3, 66)
def mX7_bitCount : Mi := (yX7_bitCount, cX7_bitCount, 1, (some .int), 0, 0)
def mX7_node : Mi := (yX7_node, cX7_node, 3, (some .int), 0, 0)
def mX7_partBeginsAt : Mi := (yX7_partBeginsAt, cX7_partBeginsAt, 3, (some .boolean), 0, 0)
def mX6_putTerm : Mi := (yX6_putTerm, cX6_putTerm, 5, none, 1, 22)
def mX6_finish : Mi := (yX6_finish, cX6_finish, 2, none, 1, 20)
def mX5_readStatement : Mi := (yX5_readStatement, cX5_readStatement, 5, (some .boolean), 4, 89)
def mX8_start : Mi := (yX8_start, cX8_start, 1, (some .int), 0, 0)
def mX5_read : Mi := (yX5_read, cX5_read, 4, (some .int), 8, 176)
def mX2_forgetOldest : Mi := (yX2_forgetOldest, cX2_forgetOldest, 3, none, 0, 0)
def mX6_move : Mi := (yX6_move, cX6_move, 6, none, 1, 28)
def mX6_copyFrom : Mi := (yX6_copyFrom, cX6_copyFrom, 2, none, 2, 53)
def mX4_copyFrom : Mi := (yX4_copyFrom, cX4_copyFrom, 2, none, 3, 74)
def mX2_push : Mi := (yX2_push, cX2_push, 2, none, 4, 95)
def mX6_count : Mi := (yX6_count, cX6_count, 1, (some .int), 0, 0)
def mX6_has : Mi := (yX6_has, cX6_has, 2, (some .boolean), 0, 0)
def mX6_widthOf : Mi := (yX6_widthOf, cX6_widthOf, 2, (some .int), 1, 21)
def mX6_node : Mi := (yX6_node, cX6_node, 4, (some .int), 0, 0)
def mX9_isConstantNode : Mi := (yX9_isConstantNode, cX9_isConstantNode, 1, (some .boolean), 0, 0)
def mX6_partEndsAt : Mi := (yX6_partEndsAt, cX6_partEndsAt, 4, (some .boolean), 0, 0)
def mX9_variableOf : Mi := (yX9_variableOf, cX9_variableOf, 1, (some .int), 0, 0)
def mX9_bitOf : Mi := (yX9_bitOf, cX9_bitOf, 1, (some .int), 0, 0)
def mX1_cutBelow : Mi := (yX1_cutBelow, cX1_cutBelow, 4, none, 2, 41)
def mX1_cutAroundParts : Mi := (yX1_cutAroundParts, cX1_cutAroundParts, 8, none, 3, 64)
def mX1_isCut : Mi := (yX1_isCut, cX1_isCut, 2, (some .boolean), 1, 20)
def mX1_isMarked : Mi := (yX1_isMarked, cX1_isMarked, 6, (some .boolean), 2, 41)
def mX1_spread : Mi := (yX1_spread, cX1_spread, 9, (some .boolean), 3, 66)
def mX1_cut : Mi := (yX1_cut, cX1_cut, 7, none, 4, 94)
def mX0_rootOf : Mi := (yX0_rootOf, cX0_rootOf, 4, (some .int), 0, 0)
def mX0_fix : Mi := (yX0_fix, cX0_fix, 3, none, 0, 0)
def mX0_unite : Mi := (yX0_unite, cX0_unite, 5, none, 1, 22)
def mX0_join : Mi := (yX0_join, cX0_join, 3, none, 2, 46)
def mX0_equate : Mi := (yX0_equate, cX0_equate, 4, none, 3, 68)
def mX9_slice : Mi := (yX9_slice, cX9_slice, 2, none, 5, 120)
def mX4_statementCount : Mi := (yX4_statementCount, cX4_statementCount, 1, (some .int), 1, 20)
def mX9_load : Mi := (yX9_load, cX9_load, 2, (some .int), 9, 199)
def mX10_characterAt : Mi := (yX10_characterAt, cX10_characterAt, 2, (some .int), 0, 0)
def mX10_wordOf : Mi := (yX10_wordOf, cX10_wordOf, 3, (some .int), 1, 22)
def mX10_isSignCharacter : Mi := (yX10_isSignCharacter, cX10_isSignCharacter, 1, (some .boolean), 0, 0)
def mX10_advance : Mi := (yX10_advance, cX10_advance, 3, none, 2, 44)
def mX10_isFine : Mi := (yX10_isFine, cX10_isFine, 1, (some .boolean), 0, 0)
def mX10_take : Mi := (yX10_take, cX10_take, 3, (some .int), 3, 66)
def mX10_isName : Mi := (yX10_isName, cX10_isName, 1, (some .boolean), 0, 0)
def mX10_number : Mi := (yX10_number, cX10_number, 3, (some .int), 4, 88)
def mX10_isSign : Mi := (yX10_isSign, cX10_isSign, 2, (some .boolean), 0, 0)
def mX10_readDeclaration : Mi := (yX10_readDeclaration, cX10_readDeclaration, 3, none, 5, 110)
def mX10_addBit : Mi := (yX10_addBit, cX10_addBit, 2, none, 0, 0)
def mX10_readConstant : Mi := (yX10_readConstant, cX10_readConstant, 5, none, 4, 88)
def mX10_readRange : Mi := (yX10_readRange, cX10_readRange, 5, none, 5, 110)
def mX10_readPart : Mi := (yX10_readPart, cX10_readPart, 1, none, 6, 134)
def mX10_readTerm : Mi := (yX10_readTerm, cX10_readTerm, 1, none, 7, 154)
def mX10_putTerm : Mi := (yX10_putTerm, cX10_putTerm, 3, none, 0, 0)
def mX10_readStatement : Mi := (yX10_readStatement, cX10_readStatement, 5, none, 8, 174)
def mX10_readItem : Mi := (yX10_readItem, cX10_readItem, 1, none, 9, 198)
def mX10_keep : Mi := (yX10_keep, cX10_keep, 2, none, 0, 0)
def mX10_load : Mi := (yX10_load, cX10_load, 2, (some .int), 10, 218)
def mX6_drop : Mi := (yX6_drop, cX6_drop, 2, none, 2, 53)
def mX9_removeEquation : Mi := (yX9_removeEquation, cX9_removeEquation, 2, (some .int), 6, 141)
def mX10_removeAt : Mi := (yX10_removeAt, cX10_removeAt, 4, none, 0, 0)
def mX10_removeEquation : Mi := (yX10_removeEquation, cX10_removeEquation, 2, (some .int), 1, 23)
def mX9_removeDisequation : Mi := (yX9_removeDisequation, cX9_removeDisequation, 2, (some .int), 6, 141)
def mX10_removeDisequation : Mi := (yX10_removeDisequation, cX10_removeDisequation, 2, (some .int), 1, 23)
def mX9_width : Mi := (yX9_width, cX9_width, 2, (some .int), 2, 41)
def mX10_isVariable : Mi := (yX10_isVariable, cX10_isVariable, 1, (some .boolean), 1, 22)
def mX10_width : Mi := (yX10_width, cX10_width, 2, (some .int), 2, 42)
def mX9_equationCount : Mi := (yX9_equationCount, cX9_equationCount, 1, (some .int), 1, 20)
def mX10_equationCount : Mi := (yX10_equationCount, cX10_equationCount, 1, (some .int), 0, 0)
def mX9_disequationCount : Mi := (yX9_disequationCount, cX9_disequationCount, 1, (some .int), 1, 20)
def mX10_disequationCount : Mi := (yX10_disequationCount, cX10_disequationCount, 1, (some .int), 0, 0)
def mJ6_bitCount_0f7a4 : Mi := (yJ6_bitCount_0f7a4, cJ6_bitCount_0f7a4, 1, (some .int), 0, 0)
def mX1_countOf : Mi := (yX1_countOf, cX1_countOf, 2, (some .int), 1, 20)
def mX9_slicesOf : Mi := (yX9_slicesOf, cX9_slicesOf, 2, (some .int), 2, 41)
def mX9_sliceCount : Mi := (yX9_sliceCount, cX9_sliceCount, 2, (some .int), 3, 62)
def mX10_widthOf : Mi := (yX10_widthOf, cX10_widthOf, 2, (some .int), 0, 0)
def mX10_bitOf : Mi := (yX10_bitOf, cX10_bitOf, 4, (some .int), 0, 0)
def mX10_isOfVariable : Mi := (yX10_isOfVariable, cX10_isOfVariable, 2, (some .boolean), 0, 0)
def mX10_variableBit : Mi := (yX10_variableBit, cX10_variableBit, 1, (some .int), 0, 0)
def mX10_areOfOnePart : Mi := (yX10_areOfOnePart, cX10_areOfOnePart, 2, (some .boolean), 0, 0)
def mX10_addCut : Mi := (yX10_addCut, cX10_addCut, 2, none, 0, 0)
def mX10_cutEnds : Mi := (yX10_cutEnds, cX10_cutEnds, 9, none, 1, 23)
def mX10_isMarked : Mi := (yX10_isMarked, cX10_isMarked, 6, (some .boolean), 1, 23)
def mX10_carry : Mi := (yX10_carry, cX10_carry, 6, none, 2, 48)
def mX10_findCuts : Mi := (yX10_findCuts, cX10_findCuts, 3, none, 3, 73)
def mX10_slicesOf : Mi := (yX10_slicesOf, cX10_slicesOf, 4, (some .int), 0, 0)
def mX10_sliceCount : Mi := (yX10_sliceCount, cX10_sliceCount, 2, (some .int), 4, 95)
def mX9_isSlice : Mi := (yX9_isSlice, cX9_isSlice, 3, (some .boolean), 3, 62)
def mX1_startOf : Mi := (yX1_startOf, cX1_startOf, 5, (some .int), 0, 0)
def mX9_sliceStart : Mi := (yX9_sliceStart, cX9_sliceStart, 3, (some .int), 4, 84)
def mX10_isSlice : Mi := (yX10_isSlice, cX10_isSlice, 3, (some .boolean), 4, 95)
def mX10_startOf : Mi := (yX10_startOf, cX10_startOf, 5, (some .int), 0, 0)
def mX10_sliceStart : Mi := (yX10_sliceStart, cX10_sliceStart, 3, (some .int), 5, 117)
def mX9_sliceWidth : Mi := (yX9_sliceWidth, cX9_sliceWidth, 5, (some .int), 4, 84)
def mX10_sliceWidth : Mi := (yX10_sliceWidth, cX10_sliceWidth, 3, (some .int), 5, 117)
def mX1_sliceAt : Mi := (yX1_sliceAt, cX1_sliceAt, 4, (some .int), 1, 20)
def mX9_representative : Mi := (yX9_representative, cX9_representative, 5, (some .int), 4, 84)
def mX10_rootOf : Mi := (yX10_rootOf, cX10_rootOf, 3, (some .int), 0, 0)
def mX10_fix : Mi := (yX10_fix, cX10_fix, 3, none, 0, 0)
def mX10_join : Mi := (yX10_join, cX10_join, 5, none, 1, 22)
def mX10_equate : Mi := (yX10_equate, cX10_equate, 3, none, 2, 46)
def mX10_equateTerms : Mi := (yX10_equateTerms, cX10_equateTerms, 3, none, 3, 68)
def mX10_solve : Mi := (yX10_solve, cX10_solve, 3, (some .boolean), 4, 90)
def mX10_solveAll : Mi := (yX10_solveAll, cX10_solveAll, 1, (some .boolean), 5, 112)
def mX10_sliceOfBit : Mi := (yX10_sliceOfBit, cX10_sliceOfBit, 5, (some .int), 0, 0)
def mX10_representative : Mi := (yX10_representative, cX10_representative, 4, (some .int), 6, 132)
def mX9_classCount : Mi := (yX9_classCount, cX9_classCount, 6, (some .int), 3, 62)
def mX10_classCount : Mi := (yX10_classCount, cX10_classCount, 5, (some .int), 6, 132)
def mX0_agree : Mi := (yX0_agree, cX0_agree, 1, (some .boolean), 0, 0)
def mX9_isConsistent : Mi := (yX9_isConsistent, cX9_isConsistent, 1, (some .int), 1, 20)
def mX10_isConsistent : Mi := (yX10_isConsistent, cX10_isConsistent, 1, (some .int), 6, 132)
def mX9_firstConflict : Mi := (yX9_firstConflict, cX9_firstConflict, 2, (some .int), 4, 91)
def mX10_firstConflict : Mi := (yX10_firstConflict, cX10_firstConflict, 2, (some .int), 5, 112)
def mX9_tryEquations : Mi := (yX9_tryEquations, cX9_tryEquations, 3, none, 4, 91)
def mX9_conflictSet : Mi := (yX9_conflictSet, cX9_conflictSet, 4, (some .int), 5, 113)
def mX10_conflictSet : Mi := (yX10_conflictSet, cX10_conflictSet, 3, (some .int), 5, 112)
def mX9_isBit : Mi := (yX9_isBit, cX9_isBit, 3, (some .boolean), 2, 41)
def mX0_constantOf : Mi := (yX0_constantOf, cX0_constantOf, 2, (some .int), 1, 23)
def mX9_fixedBit : Mi := (yX9_fixedBit, cX9_fixedBit, 4, (some .int), 3, 63)
def mX10_isBit : Mi := (yX10_isBit, cX10_isBit, 3, (some .boolean), 2, 42)
def mX10_fixedBit : Mi := (yX10_fixedBit, cX10_fixedBit, 3, (some .int), 6, 132)
def mX9_compareBits : Mi := (yX9_compareBits, cX9_compareBits, 9, (some .int), 3, 63)
def mX10_compareBits : Mi := (yX10_compareBits, cX10_compareBits, 7, (some .int), 6, 132)
def mX9_freeBits : Mi := (yX9_freeBits, cX9_freeBits, 4, (some .int), 2, 44)
def mX10_isFree : Mi := (yX10_isFree, cX10_isFree, 2, (some .boolean), 0, 0)
def mX10_freeBits : Mi := (yX10_freeBits, cX10_freeBits, 3, (some .int), 6, 132)
def mJ7_fill_d0a16 : Mi := (yJ7_fill_d0a16, cJ7_fill_d0a16, 5, none, 0, 0)
def mX3_constantPlace : Mi := (yX3_constantPlace, cX3_constantPlace, 6, (some .long), 2, 44)
def mX3_wordOfZeros : Mi := (yX3_wordOfZeros, cX3_wordOfZeros, 9, (some .long), 3, 69)
def mX3_gatherCandidates : Mi := (yX3_gatherCandidates, cX3_gatherCandidates, 2, none, 0, 0)
def mX3_holds : Mi := (yX3_holds, cX3_holds, 2, (some .boolean), 0, 0)
def mX3_pickLast : Mi := (yX3_pickLast, cX3_pickLast, 6, (some .boolean), 1, 21)
def mX3_pickLastTwo : Mi := (yX3_pickLastTwo, cX3_pickLastTwo, 6, (some .boolean), 2, 46)
def mX3_pickThree : Mi := (yX3_pickThree, cX3_pickThree, 4, (some .boolean), 3, 71)
def mX3_choose : Mi := (yX3_choose, cX3_choose, 5, none, 4, 97)
def mX9_chosenModel : Mi := (yX9_chosenModel, cX9_chosenModel, 1, (some (.object "SliceSolver$Model")), 5, 121)
def mX3_oneCount : Mi := (yX3_oneCount, cX3_oneCount, 1, (some .int), 0, 0)
def mX9_isSatisfiable : Mi := (yX9_isSatisfiable, cX9_isSatisfiable, 1, (some .int), 6, 141)
def mX10_occurs : Mi := (yX10_occurs, cX10_occurs, 6, (some .boolean), 1, 23)
def mX10_findUsed : Mi := (yX10_findUsed, cX10_findUsed, 2, none, 2, 48)
def mX10_valueOf : Mi := (yX10_valueOf, cX10_valueOf, 5, (some .int), 1, 22)
def mX10_holds : Mi := (yX10_holds, cX10_holds, 4, (some .boolean), 2, 46)
def mX10_isModel : Mi := (yX10_isModel, cX10_isModel, 3, (some .boolean), 3, 69)
def mX10_search : Mi := (yX10_search, cX10_search, 8, (some .boolean), 4, 91)
def mX10_choose : Mi := (yX10_choose, cX10_choose, 2, (some .boolean), 6, 132)
def mX10_isSatisfiable : Mi := (yX10_isSatisfiable, cX10_isSatisfiable, 1, (some .int), 7, 153)
def mX9_oneBits : Mi := (yX9_oneBits, cX9_oneBits, 1, (some .int), 6, 141)
def mX10_oneBits : Mi := (yX10_oneBits, cX10_oneBits, 1, (some .int), 7, 153)
def mX3_hasOne : Mi := (yX3_hasOne, cX3_hasOne, 3, (some .boolean), 0, 0)
def mX9_value : Mi := (yX9_value, cX9_value, 7, (some .int), 6, 141)
def mX10_value : Mi := (yX10_value, cX10_value, 4, (some .int), 7, 153)
def mX9_isImplied : Mi := (yX9_isImplied, cX9_isImplied, 2, (some .int), 5, 113)
def mX10_isImplied : Mi := (yX10_isImplied, cX10_isImplied, 2, (some .int), 6, 132)
def mX2_depth : Mi := (yX2_depth, cX2_depth, 1, (some .int), 0, 0)
def mX2_popInto : Mi := (yX2_popInto, cX2_popInto, 2, none, 4, 95)
def mX9_undo : Mi := (yX9_undo, cX9_undo, 1, (some .int), 6, 141)
def mX10_undo : Mi := (yX10_undo, cX10_undo, 2, (some .int), 0, 0)
def mX9_undoDepth : Mi := (yX9_undoDepth, cX9_undoDepth, 1, (some .int), 1, 20)
def mX10_undoDepth : Mi := (yX10_undoDepth, cX10_undoDepth, 1, (some .int), 0, 0)
def mX9_isSlot : Mi := (yX9_isSlot, cX9_isSlot, 1, (some .boolean), 0, 0)
def mX9_snapshot : Mi := (yX9_snapshot, cX9_snapshot, 2, (some (.object "SliceSolver$Problem")), 0, 0)
def mX9_save : Mi := (yX9_save, cX9_save, 2, (some .int), 4, 95)
def mX10_save : Mi := (yX10_save, cX10_save, 3, (some .int), 1, 22)
def mX2_clear : Mi := (yX2_clear, cX2_clear, 1, none, 0, 0)
def mX9_restore : Mi := (yX9_restore, cX9_restore, 2, (some .int), 6, 141)
def mX10_restore : Mi := (yX10_restore, cX10_restore, 3, (some .int), 1, 22)
theorem ini_X9 : Cond.initialized RX9 ∈ TB := TB_of (w := Cond.initialized RX9) (i := 79) (by decide +kernel) (by decide +kernel)
theorem ini_X0 : Cond.initialized RX0 ∈ TB := TB_of (w := Cond.initialized RX0) (i := 88) (by decide +kernel) (by decide +kernel)
theorem ini_X1 : Cond.initialized RX1 ∈ TB := TB_of (w := Cond.initialized RX1) (i := 87) (by decide +kernel) (by decide +kernel)
theorem ini_X2 : Cond.initialized RX2 ∈ TB := TB_of (w := Cond.initialized RX2) (i := 86) (by decide +kernel) (by decide +kernel)
theorem ini_X3 : Cond.initialized RX3 ∈ TB := TB_of (w := Cond.initialized RX3) (i := 90) (by decide +kernel) (by decide +kernel)
theorem ini_X4 : Cond.initialized RX4 ∈ TB := TB_of (w := Cond.initialized RX4) (i := 83) (by decide +kernel) (by decide +kernel)
theorem ini_X5 : Cond.initialized RX5 ∈ TB := TB_of (w := Cond.initialized RX5) (i := 81) (by decide +kernel) (by decide +kernel)
theorem ini_X6 : Cond.initialized RX6 ∈ TB := TB_of (w := Cond.initialized RX6) (i := 84) (by decide +kernel) (by decide +kernel)
theorem ini_X7 : Cond.initialized RX7 ∈ TB := TB_of (w := Cond.initialized RX7) (i := 82) (by decide +kernel) (by decide +kernel)
theorem ini_X8 : Cond.initialized RX8 ∈ TB := TB_of (w := Cond.initialized RX8) (i := 80) (by decide +kernel) (by decide +kernel)
theorem ini_X10 : Cond.initialized RX10 ∈ TB := TB_of (w := Cond.initialized RX10) (i := 91) (by decide +kernel) (by decide +kernel)
theorem ini_J6 : Cond.initialized RJ6 ∈ TB := TB_of (w := Cond.initialized RJ6) (i := 97) (by decide +kernel) (by decide +kernel)
theorem ini_J0 : Cond.initialized RJ0 ∈ TB := TB_of (w := Cond.initialized RJ0) (i := 92) (by decide +kernel) (by decide +kernel)
theorem ini_J1 : Cond.initialized RJ1 ∈ TB := TB_of (w := Cond.initialized RJ1) (i := 93) (by decide +kernel) (by decide +kernel)
theorem ini_J2 : Cond.initialized RJ2 ∈ TB := TB_of (w := Cond.initialized RJ2) (i := 95) (by decide +kernel) (by decide +kernel)
theorem ini_J7 : Cond.initialized RJ7 ∈ TB := TB_of (w := Cond.initialized RJ7) (i := 89) (by decide +kernel) (by decide +kernel)
theorem ini_J3 : Cond.initialized RJ3 ∈ TB := TB_of (w := Cond.initialized RJ3) (i := 94) (by decide +kernel) (by decide +kernel)
theorem lay_X0 : ∀ w ∈ u_ws RX0 TX0 3, w ∈ TB := TB_sub [259, 261, 263] (by decide +kernel) (by decide +kernel)
theorem lay_X1 : ∀ w ∈ u_ws RX1 TX1 1, w ∈ TB := TB_sub [240] (by decide +kernel) (by decide +kernel)
theorem lay_X2 : ∀ w ∈ u_ws RX2 TX2 2, w ∈ TB := TB_sub [228, 230] (by decide +kernel) (by decide +kernel)
theorem lay_X3 : ∀ w ∈ u_ws RX3 TX3 5, w ∈ TB := TB_sub [277, 279, 281, 283, 285] (by decide +kernel) (by decide +kernel)
theorem lay_X4 : ∀ w ∈ u_ws RX4 TX4 3, w ∈ TB := TB_sub [210, 212, 214] (by decide +kernel) (by decide +kernel)
theorem lay_X5 : ∀ w ∈ u_ws RX5 TX5 4, w ∈ TB := TB_sub [162, 164, 166, 168] (by decide +kernel) (by decide +kernel)
theorem lay_X6 : ∀ w ∈ u_ws RX6 TX6 5, w ∈ TB := TB_sub [191, 193, 195, 197, 199] (by decide +kernel) (by decide +kernel)
theorem lay_X7 : ∀ w ∈ u_ws RX7 TX7 3, w ∈ TB := TB_sub [151, 153, 155] (by decide +kernel) (by decide +kernel)
theorem lay_X8 : ∀ w ∈ u_ws RX8 TX8 7, w ∈ TB := TB_sub [119, 121, 123, 125, 127, 129, 131] (by decide +kernel) (by decide +kernel)
theorem lay_X9 : ∀ w ∈ u_ws RX9 TX9 13, w ∈ TB := TB_sub [302, 304, 306, 308, 310, 312, 314, 316, 318, 320, 322, 324, 326] (by decide +kernel) (by decide +kernel)
theorem lay_X10 : ∀ w ∈ u_ws RX10 TX10 26, w ∈ TB := TB_sub [925, 927, 929, 931, 933, 935, 937, 939, 941, 943, 945, 947, 949, 951, 953, 955, 957, 959, 961, 963, 965, 967, 969, 971, 973, 975] (by decide +kernel) (by decide +kernel)
theorem fX8_9 : FLk RX8 9 8 0 (some true) (.array .char) := ⟨RX8, TX8, 7, tyX8, rfl, by decide, lay_X8, tyX8_ok, nmX8, TB_of (i := 112) (by decide +kernel) (by decide +kernel), by decide +kernel, by decide +kernel, by decide +kernel⟩
theorem fX8_25 : FLk RX8 25 8 1 (some false) (.int) := ⟨RX8, TX8, 7, tyX8, rfl, by decide, lay_X8, tyX8_ok, nmX8, TB_of (i := 113) (by decide +kernel) (by decide +kernel), by decide +kernel, by decide +kernel, by decide +kernel⟩
theorem fX8_15 : FLk RX8 15 8 2 (some true) (.array .int) := ⟨RX8, TX8, 7, tyX8, rfl, by decide, lay_X8, tyX8_ok, nmX8, TB_of (i := 114) (by decide +kernel) (by decide +kernel), by decide +kernel, by decide +kernel, by decide +kernel⟩
theorem fX8_19 : FLk RX8 19 8 3 (some true) (.array .int) := ⟨RX8, TX8, 7, tyX8, rfl, by decide, lay_X8, tyX8_ok, nmX8, TB_of (i := 115) (by decide +kernel) (by decide +kernel), by decide +kernel, by decide +kernel, by decide +kernel⟩
theorem fX8_22 : FLk RX8 22 8 4 (some true) (.array .int) := ⟨RX8, TX8, 7, tyX8, rfl, by decide, lay_X8, tyX8_ok, nmX8, TB_of (i := 116) (by decide +kernel) (by decide +kernel), by decide +kernel, by decide +kernel, by decide +kernel⟩
theorem fX8_33 : FLk RX8 33 8 5 (some false) (.int) := ⟨RX8, TX8, 7, tyX8, rfl, by decide, lay_X8, tyX8_ok, nmX8, TB_of (i := 117) (by decide +kernel) (by decide +kernel), by decide +kernel, by decide +kernel, by decide +kernel⟩
theorem fX8_36 : FLk RX8 36 8 6 (some false) (.int) := ⟨RX8, TX8, 7, tyX8, rfl, by decide, lay_X8, tyX8_ok, nmX8, TB_of (i := 118) (by decide +kernel) (by decide +kernel), by decide +kernel, by decide +kernel, by decide +kernel⟩
theorem fX7_9 : FLk RX7 9 7 0 (some true) (.array .int) := ⟨RX7, TX7, 3, tyX7, rfl, by decide, lay_X7, tyX7_ok, nmX7, TB_of (i := 148) (by decide +kernel) (by decide +kernel), by decide +kernel, by decide +kernel, by decide +kernel⟩
theorem fX7_15 : FLk RX7 15 7 1 (some false) (.int) := ⟨RX7, TX7, 3, tyX7, rfl, by decide, lay_X7, tyX7_ok, nmX7, TB_of (i := 149) (by decide +kernel) (by decide +kernel), by decide +kernel, by decide +kernel, by decide +kernel⟩
theorem fX7_19 : FLk RX7 19 7 2 (some false) (.int) := ⟨RX7, TX7, 3, tyX7, rfl, by decide, lay_X7, tyX7_ok, nmX7, TB_of (i := 150) (by decide +kernel) (by decide +kernel), by decide +kernel, by decide +kernel, by decide +kernel⟩
theorem fX5_18 : FLk RX5 18 5 0 (some true) (.object "SliceSolver$Text") := ⟨RX5, TX5, 4, tyX5, rfl, by decide, lay_X5, tyX5_ok, nmX5, TB_of (i := 158) (by decide +kernel) (by decide +kernel), by decide +kernel, by decide +kernel, by decide +kernel⟩
theorem fX5_12 : FLk RX5 12 5 1 (some true) (.object "SliceSolver$Term") := ⟨RX5, TX5, 4, tyX5, rfl, by decide, lay_X5, tyX5_ok, nmX5, TB_of (i := 159) (by decide +kernel) (by decide +kernel), by decide +kernel, by decide +kernel, by decide +kernel⟩
theorem fX5_101 : FLk RX5 101 5 2 (some false) (.int) := ⟨RX5, TX5, 4, tyX5, rfl, by decide, lay_X5, tyX5_ok, nmX5, TB_of (i := 160) (by decide +kernel) (by decide +kernel), by decide +kernel, by decide +kernel, by decide +kernel⟩
theorem fX5_105 : FLk RX5 105 5 3 (some false) (.int) := ⟨RX5, TX5, 4, tyX5, rfl, by decide, lay_X5, tyX5_ok, nmX5, TB_of (i := 161) (by decide +kernel) (by decide +kernel), by decide +kernel, by decide +kernel, by decide +kernel⟩
theorem fX6_15 : FLk RX6 15 6 0 (some true) (.int) := ⟨RX6, TX6, 5, tyX6, rfl, by decide, lay_X6, tyX6_ok, nmX6, TB_of (i := 186) (by decide +kernel) (by decide +kernel), by decide +kernel, by decide +kernel, by decide +kernel⟩
theorem fX6_31 : FLk RX6 31 6 1 (some false) (.int) := ⟨RX6, TX6, 5, tyX6, rfl, by decide, lay_X6, tyX6_ok, nmX6, TB_of (i := 187) (by decide +kernel) (by decide +kernel), by decide +kernel, by decide +kernel, by decide +kernel⟩
theorem fX6_21 : FLk RX6 21 6 2 (some true) (.array .int) := ⟨RX6, TX6, 5, tyX6, rfl, by decide, lay_X6, tyX6_ok, nmX6, TB_of (i := 188) (by decide +kernel) (by decide +kernel), by decide +kernel, by decide +kernel, by decide +kernel⟩
theorem fX6_25 : FLk RX6 25 6 3 (some true) (.array .int) := ⟨RX6, TX6, 5, tyX6, rfl, by decide, lay_X6, tyX6_ok, nmX6, TB_of (i := 189) (by decide +kernel) (by decide +kernel), by decide +kernel, by decide +kernel, by decide +kernel⟩
theorem fX6_28 : FLk RX6 28 6 4 (some true) (.array .int) := ⟨RX6, TX6, 5, tyX6, rfl, by decide, lay_X6, tyX6_ok, nmX6, TB_of (i := 190) (by decide +kernel) (by decide +kernel), by decide +kernel, by decide +kernel, by decide +kernel⟩
theorem fX4_9 : FLk RX4 9 4 0 (some true) (.array .int) := ⟨RX4, TX4, 3, tyX4, rfl, by decide, lay_X4, tyX4_ok, nmX4, TB_of (i := 202) (by decide +kernel) (by decide +kernel), by decide +kernel, by decide +kernel, by decide +kernel⟩
theorem fX4_20 : FLk RX4 20 4 1 (some true) (.object "SliceSolver$Statements") := ⟨RX4, TX4, 3, tyX4, rfl, by decide, lay_X4, tyX4_ok, nmX4, TB_of (i := 203) (by decide +kernel) (by decide +kernel), by decide +kernel, by decide +kernel, by decide +kernel⟩
theorem fX5_71 : FLk RX5 71 4 1 none (.object "SliceSolver$Statements") := ⟨RX4, TX4, 3, tyX4, rfl, by decide, lay_X4, tyX4_ok, nmX4, TB_of (i := 204) (by decide +kernel) (by decide +kernel), by decide +kernel, by decide +kernel, by decide +kernel⟩
theorem fX9_112 : FLk RX9 112 4 1 none (.object "SliceSolver$Statements") := ⟨RX4, TX4, 3, tyX4, rfl, by decide, lay_X4, tyX4_ok, nmX4, TB_of (i := 205) (by decide +kernel) (by decide +kernel), by decide +kernel, by decide +kernel, by decide +kernel⟩
theorem fX1_27 : FLk RX1 27 4 1 none (.object "SliceSolver$Statements") := ⟨RX4, TX4, 3, tyX4, rfl, by decide, lay_X4, tyX4_ok, nmX4, TB_of (i := 206) (by decide +kernel) (by decide +kernel), by decide +kernel, by decide +kernel, by decide +kernel⟩
theorem fX4_24 : FLk RX4 24 4 2 (some true) (.object "SliceSolver$Statements") := ⟨RX4, TX4, 3, tyX4, rfl, by decide, lay_X4, tyX4_ok, nmX4, TB_of (i := 207) (by decide +kernel) (by decide +kernel), by decide +kernel, by decide +kernel, by decide +kernel⟩
theorem fX5_67 : FLk RX5 67 4 2 none (.object "SliceSolver$Statements") := ⟨RX4, TX4, 3, tyX4, rfl, by decide, lay_X4, tyX4_ok, nmX4, TB_of (i := 208) (by decide +kernel) (by decide +kernel), by decide +kernel, by decide +kernel, by decide +kernel⟩
theorem fX9_129 : FLk RX9 129 4 2 none (.object "SliceSolver$Statements") := ⟨RX4, TX4, 3, tyX4, rfl, by decide, lay_X4, tyX4_ok, nmX4, TB_of (i := 209) (by decide +kernel) (by decide +kernel), by decide +kernel, by decide +kernel, by decide +kernel⟩
theorem fX2_11 : FLk RX2 11 2 0 (some true) (.array (.object "SliceSolver$Problem")) := ⟨RX2, TX2, 2, tyX2, rfl, by decide, lay_X2, tyX2_ok, nmX2, TB_of (i := 226) (by decide +kernel) (by decide +kernel), by decide +kernel, by decide +kernel, by decide +kernel⟩
theorem fX2_18 : FLk RX2 18 2 1 (some false) (.int) := ⟨RX2, TX2, 2, tyX2, rfl, by decide, lay_X2, tyX2_ok, nmX2, TB_of (i := 227) (by decide +kernel) (by decide +kernel), by decide +kernel, by decide +kernel, by decide +kernel⟩
theorem fX1_9 : FLk RX1 9 1 0 (some true) (.array .int) := ⟨RX1, TX1, 1, tyX1, rfl, by decide, lay_X1, tyX1_ok, nmX1, TB_of (i := 239) (by decide +kernel) (by decide +kernel), by decide +kernel, by decide +kernel, by decide +kernel⟩
theorem fX0_9 : FLk RX0 9 0 0 (some true) (.array .int) := ⟨RX0, TX0, 3, tyX0, rfl, by decide, lay_X0, tyX0_ok, nmX0, TB_of (i := 256) (by decide +kernel) (by decide +kernel), by decide +kernel, by decide +kernel, by decide +kernel⟩
theorem fX0_15 : FLk RX0 15 0 1 (some true) (.array .int) := ⟨RX0, TX0, 3, tyX0, rfl, by decide, lay_X0, tyX0_ok, nmX0, TB_of (i := 257) (by decide +kernel) (by decide +kernel), by decide +kernel, by decide +kernel, by decide +kernel⟩
theorem fX0_27 : FLk RX0 27 0 2 (some false) (.boolean) := ⟨RX0, TX0, 3, tyX0, rfl, by decide, lay_X0, tyX0_ok, nmX0, TB_of (i := 258) (by decide +kernel) (by decide +kernel), by decide +kernel, by decide +kernel, by decide +kernel⟩
theorem fX3_9 : FLk RX3 9 3 0 (some true) (.array .long) := ⟨RX3, TX3, 5, tyX3, rfl, by decide, lay_X3, tyX3_ok, nmX3, TB_of (i := 272) (by decide +kernel) (by decide +kernel), by decide +kernel, by decide +kernel, by decide +kernel⟩
theorem fX3_15 : FLk RX3 15 3 1 (some true) (.array .int) := ⟨RX3, TX3, 5, tyX3, rfl, by decide, lay_X3, tyX3_ok, nmX3, TB_of (i := 273) (by decide +kernel) (by decide +kernel), by decide +kernel, by decide +kernel, by decide +kernel⟩
theorem fX3_83 : FLk RX3 83 3 2 (some false) (.int) := ⟨RX3, TX3, 5, tyX3, rfl, by decide, lay_X3, tyX3_ok, nmX3, TB_of (i := 274) (by decide +kernel) (by decide +kernel), by decide +kernel, by decide +kernel, by decide +kernel⟩
theorem fX3_19 : FLk RX3 19 3 3 (some true) (.array .int) := ⟨RX3, TX3, 5, tyX3, rfl, by decide, lay_X3, tyX3_ok, nmX3, TB_of (i := 275) (by decide +kernel) (by decide +kernel), by decide +kernel, by decide +kernel, by decide +kernel⟩
theorem fX3_22 : FLk RX3 22 3 4 (some false) (.int) := ⟨RX3, TX3, 5, tyX3, rfl, by decide, lay_X3, tyX3_ok, nmX3, TB_of (i := 276) (by decide +kernel) (by decide +kernel), by decide +kernel, by decide +kernel, by decide +kernel⟩
theorem fX9_12 : FLk RX9 12 9 0 (some true) (.object "SliceSolver$Text") := ⟨RX9, TX9, 13, tyX9, rfl, by decide, lay_X9, tyX9_ok, nmX9, TB_of (i := 289) (by decide +kernel) (by decide +kernel), by decide +kernel, by decide +kernel, by decide +kernel⟩
theorem fX9_21 : FLk RX9 21 9 1 (some true) (.object "SliceSolver$Reader") := ⟨RX9, TX9, 13, tyX9, rfl, by decide, lay_X9, tyX9_ok, nmX9, TB_of (i := 290) (by decide +kernel) (by decide +kernel), by decide +kernel, by decide +kernel, by decide +kernel⟩
theorem fX9_28 : FLk RX9 28 9 2 (some true) (.object "SliceSolver$Problem") := ⟨RX9, TX9, 13, tyX9, rfl, by decide, lay_X9, tyX9_ok, nmX9, TB_of (i := 291) (by decide +kernel) (by decide +kernel), by decide +kernel, by decide +kernel, by decide +kernel⟩
theorem fX9_32 : FLk RX9 32 9 3 (some true) (.object "SliceSolver$Problem") := ⟨RX9, TX9, 13, tyX9, rfl, by decide, lay_X9, tyX9_ok, nmX9, TB_of (i := 292) (by decide +kernel) (by decide +kernel), by decide +kernel, by decide +kernel, by decide +kernel⟩
theorem fX9_38 : FLk RX9 38 9 4 (some true) (.object "SliceSolver$History") := ⟨RX9, TX9, 13, tyX9, rfl, by decide, lay_X9, tyX9_ok, nmX9, TB_of (i := 293) (by decide +kernel) (by decide +kernel), by decide +kernel, by decide +kernel, by decide +kernel⟩
theorem fX9_42 : FLk RX9 42 9 5 (some true) (.object "SliceSolver$Problem") := ⟨RX9, TX9, 13, tyX9, rfl, by decide, lay_X9, tyX9_ok, nmX9, TB_of (i := 294) (by decide +kernel) (by decide +kernel), by decide +kernel, by decide +kernel, by decide +kernel⟩
theorem fX9_45 : FLk RX9 45 9 6 (some true) (.object "SliceSolver$Problem") := ⟨RX9, TX9, 13, tyX9, rfl, by decide, lay_X9, tyX9_ok, nmX9, TB_of (i := 295) (by decide +kernel) (by decide +kernel), by decide +kernel, by decide +kernel, by decide +kernel⟩
theorem fX9_72 : FLk RX9 72 9 7 (some false) (.int) := ⟨RX9, TX9, 13, tyX9, rfl, by decide, lay_X9, tyX9_ok, nmX9, TB_of (i := 296) (by decide +kernel) (by decide +kernel), by decide +kernel, by decide +kernel, by decide +kernel⟩
theorem fX9_51 : FLk RX9 51 9 8 (some true) (.object "SliceSolver$Cuts") := ⟨RX9, TX9, 13, tyX9, rfl, by decide, lay_X9, tyX9_ok, nmX9, TB_of (i := 297) (by decide +kernel) (by decide +kernel), by decide +kernel, by decide +kernel, by decide +kernel⟩
theorem fX9_58 : FLk RX9 58 9 9 (some true) (.object "SliceSolver$Classes") := ⟨RX9, TX9, 13, tyX9, rfl, by decide, lay_X9, tyX9_ok, nmX9, TB_of (i := 298) (by decide +kernel) (by decide +kernel), by decide +kernel, by decide +kernel, by decide +kernel⟩
theorem fX9_62 : FLk RX9 62 9 10 (some true) (.object "SliceSolver$Classes") := ⟨RX9, TX9, 13, tyX9, rfl, by decide, lay_X9, tyX9_ok, nmX9, TB_of (i := 299) (by decide +kernel) (by decide +kernel), by decide +kernel, by decide +kernel, by decide +kernel⟩
theorem fX9_68 : FLk RX9 68 9 11 (some true) (.object "SliceSolver$Model") := ⟨RX9, TX9, 13, tyX9, rfl, by decide, lay_X9, tyX9_ok, nmX9, TB_of (i := 300) (by decide +kernel) (by decide +kernel), by decide +kernel, by decide +kernel, by decide +kernel⟩
theorem fX9_76 : FLk RX9 76 9 12 (some false) (.boolean) := ⟨RX9, TX9, 13, tyX9, rfl, by decide, lay_X9, tyX9_ok, nmX9, TB_of (i := 301) (by decide +kernel) (by decide +kernel), by decide +kernel, by decide +kernel, by decide +kernel⟩
theorem fX10_47 : FLk RX10 47 10 0 (some false) (.int) := ⟨RX10, TX10, 26, tyX10, rfl, by decide, lay_X10, tyX10_ok, nmX10, TB_of (i := 899) (by decide +kernel) (by decide +kernel), by decide +kernel, by decide +kernel, by decide +kernel⟩
theorem fX10_7 : FLk RX10 7 10 1 (some true) (.array .int) := ⟨RX10, TX10, 26, tyX10, rfl, by decide, lay_X10, tyX10_ok, nmX10, TB_of (i := 900) (by decide +kernel) (by decide +kernel), by decide +kernel, by decide +kernel, by decide +kernel⟩
theorem fX10_13 : FLk RX10 13 10 2 (some true) (.array .int) := ⟨RX10, TX10, 26, tyX10, rfl, by decide, lay_X10, tyX10_ok, nmX10, TB_of (i := 901) (by decide +kernel) (by decide +kernel), by decide +kernel, by decide +kernel, by decide +kernel⟩
theorem fX10_16 : FLk RX10 16 10 3 (some true) (.array .int) := ⟨RX10, TX10, 26, tyX10, rfl, by decide, lay_X10, tyX10_ok, nmX10, TB_of (i := 902) (by decide +kernel) (by decide +kernel), by decide +kernel, by decide +kernel, by decide +kernel⟩
theorem fX10_144 : FLk RX10 144 10 4 (some false) (.int) := ⟨RX10, TX10, 26, tyX10, rfl, by decide, lay_X10, tyX10_ok, nmX10, TB_of (i := 903) (by decide +kernel) (by decide +kernel), by decide +kernel, by decide +kernel, by decide +kernel⟩
theorem fX10_19 : FLk RX10 19 10 5 (some true) (.array .int) := ⟨RX10, TX10, 26, tyX10, rfl, by decide, lay_X10, tyX10_ok, nmX10, TB_of (i := 904) (by decide +kernel) (by decide +kernel), by decide +kernel, by decide +kernel, by decide +kernel⟩
theorem fX10_22 : FLk RX10 22 10 6 (some true) (.array .boolean) := ⟨RX10, TX10, 26, tyX10, rfl, by decide, lay_X10, tyX10_ok, nmX10, TB_of (i := 905) (by decide +kernel) (by decide +kernel), by decide +kernel, by decide +kernel, by decide +kernel⟩
theorem fX10_26 : FLk RX10 26 10 7 (some true) (.array .int) := ⟨RX10, TX10, 26, tyX10, rfl, by decide, lay_X10, tyX10_ok, nmX10, TB_of (i := 906) (by decide +kernel) (by decide +kernel), by decide +kernel, by decide +kernel, by decide +kernel⟩
theorem fX10_51 : FLk RX10 51 10 8 (some false) (.int) := ⟨RX10, TX10, 26, tyX10, rfl, by decide, lay_X10, tyX10_ok, nmX10, TB_of (i := 907) (by decide +kernel) (by decide +kernel), by decide +kernel, by decide +kernel, by decide +kernel⟩
theorem fX10_54 : FLk RX10 54 10 9 (some false) (.int) := ⟨RX10, TX10, 26, tyX10, rfl, by decide, lay_X10, tyX10_ok, nmX10, TB_of (i := 908) (by decide +kernel) (by decide +kernel), by decide +kernel, by decide +kernel, by decide +kernel⟩
theorem fX10_57 : FLk RX10 57 10 10 (some false) (.int) := ⟨RX10, TX10, 26, tyX10, rfl, by decide, lay_X10, tyX10_ok, nmX10, TB_of (i := 909) (by decide +kernel) (by decide +kernel), by decide +kernel, by decide +kernel, by decide +kernel⟩
theorem fX10_71 : FLk RX10 71 10 11 (some false) (.int) := ⟨RX10, TX10, 26, tyX10, rfl, by decide, lay_X10, tyX10_ok, nmX10, TB_of (i := 910) (by decide +kernel) (by decide +kernel), by decide +kernel, by decide +kernel, by decide +kernel⟩
theorem fX10_68 : FLk RX10 68 10 12 (some false) (.int) := ⟨RX10, TX10, 26, tyX10, rfl, by decide, lay_X10, tyX10_ok, nmX10, TB_of (i := 911) (by decide +kernel) (by decide +kernel), by decide +kernel, by decide +kernel, by decide +kernel⟩
theorem fX10_82 : FLk RX10 82 10 13 (some false) (.int) := ⟨RX10, TX10, 26, tyX10, rfl, by decide, lay_X10, tyX10_ok, nmX10, TB_of (i := 912) (by decide +kernel) (by decide +kernel), by decide +kernel, by decide +kernel, by decide +kernel⟩
theorem fX10_29 : FLk RX10 29 10 14 (some true) (.array .int) := ⟨RX10, TX10, 26, tyX10, rfl, by decide, lay_X10, tyX10_ok, nmX10, TB_of (i := 913) (by decide +kernel) (by decide +kernel), by decide +kernel, by decide +kernel, by decide +kernel⟩
theorem fX10_96 : FLk RX10 96 10 15 (some false) (.int) := ⟨RX10, TX10, 26, tyX10, rfl, by decide, lay_X10, tyX10_ok, nmX10, TB_of (i := 914) (by decide +kernel) (by decide +kernel), by decide +kernel, by decide +kernel, by decide +kernel⟩
theorem fX10_99 : FLk RX10 99 10 16 (some false) (.int) := ⟨RX10, TX10, 26, tyX10, rfl, by decide, lay_X10, tyX10_ok, nmX10, TB_of (i := 915) (by decide +kernel) (by decide +kernel), by decide +kernel, by decide +kernel, by decide +kernel⟩
theorem fX10_32 : FLk RX10 32 10 17 (some true) (.array .boolean) := ⟨RX10, TX10, 26, tyX10, rfl, by decide, lay_X10, tyX10_ok, nmX10, TB_of (i := 916) (by decide +kernel) (by decide +kernel), by decide +kernel, by decide +kernel, by decide +kernel⟩
theorem fX10_154 : FLk RX10 154 10 18 (some false) (.boolean) := ⟨RX10, TX10, 26, tyX10, rfl, by decide, lay_X10, tyX10_ok, nmX10, TB_of (i := 917) (by decide +kernel) (by decide +kernel), by decide +kernel, by decide +kernel, by decide +kernel⟩
theorem fX10_35 : FLk RX10 35 10 19 (some true) (.array .int) := ⟨RX10, TX10, 26, tyX10, rfl, by decide, lay_X10, tyX10_ok, nmX10, TB_of (i := 918) (by decide +kernel) (by decide +kernel), by decide +kernel, by decide +kernel, by decide +kernel⟩
theorem fX10_38 : FLk RX10 38 10 20 (some true) (.array .int) := ⟨RX10, TX10, 26, tyX10, rfl, by decide, lay_X10, tyX10_ok, nmX10, TB_of (i := 919) (by decide +kernel) (by decide +kernel), by decide +kernel, by decide +kernel, by decide +kernel⟩
theorem fX10_200 : FLk RX10 200 10 21 (some false) (.boolean) := ⟨RX10, TX10, 26, tyX10, rfl, by decide, lay_X10, tyX10_ok, nmX10, TB_of (i := 920) (by decide +kernel) (by decide +kernel), by decide +kernel, by decide +kernel, by decide +kernel⟩
theorem fX10_41 : FLk RX10 41 10 22 (some true) (.array .int) := ⟨RX10, TX10, 26, tyX10, rfl, by decide, lay_X10, tyX10_ok, nmX10, TB_of (i := 921) (by decide +kernel) (by decide +kernel), by decide +kernel, by decide +kernel, by decide +kernel⟩
theorem fX10_233 : FLk RX10 233 10 23 (some false) (.int) := ⟨RX10, TX10, 26, tyX10, rfl, by decide, lay_X10, tyX10_ok, nmX10, TB_of (i := 922) (by decide +kernel) (by decide +kernel), by decide +kernel, by decide +kernel, by decide +kernel⟩
theorem fX10_44 : FLk RX10 44 10 24 (some true) (.array .int) := ⟨RX10, TX10, 26, tyX10, rfl, by decide, lay_X10, tyX10_ok, nmX10, TB_of (i := 923) (by decide +kernel) (by decide +kernel), by decide +kernel, by decide +kernel, by decide +kernel⟩
theorem fX10_242 : FLk RX10 242 10 25 (some false) (.int) := ⟨RX10, TX10, 26, tyX10, rfl, by decide, lay_X10, tyX10_ok, nmX10, TB_of (i := 924) (by decide +kernel) (by decide +kernel), by decide +kernel, by decide +kernel, by decide +kernel⟩
end
section
set_option maxRecDepth 100000 in
theorem oX8_init : MOk mX8_init := ⟨TB_of (i := 110) rfl rfl, ini_X8, by decide +kernel, by decide +kernel, by decide +kernel⟩
set_option maxRecDepth 100000 in
theorem oX7_init : MOk mX7_init := ⟨TB_of (i := 146) rfl rfl, ini_X7, by decide +kernel, by decide +kernel, by decide +kernel⟩
set_option maxRecDepth 100000 in
theorem oX5_init : MOk mX5_init := ⟨TB_of (i := 140) rfl rfl, ini_X5, by decide +kernel, by decide +kernel, by decide +kernel⟩
set_option maxRecDepth 100000 in
theorem oX6_init : MOk mX6_init := ⟨TB_of (i := 181) rfl rfl, ini_X6, by decide +kernel, by decide +kernel, by decide +kernel⟩
set_option maxRecDepth 100000 in
theorem oX4_init : MOk mX4_init := ⟨TB_of (i := 175) rfl rfl, ini_X4, by decide +kernel, by decide +kernel, by decide +kernel⟩
set_option maxRecDepth 100000 in
theorem oX2_init : MOk mX2_init := ⟨TB_of (i := 221) rfl rfl, ini_X2, by decide +kernel, by decide +kernel, by decide +kernel⟩
set_option maxRecDepth 100000 in
theorem oX1_init : MOk mX1_init := ⟨TB_of (i := 237) rfl rfl, ini_X1, by decide +kernel, by decide +kernel, by decide +kernel⟩
set_option maxRecDepth 100000 in
theorem oJ7_fill_53178 : MOk mJ7_fill_53178 := ⟨TB_of (i := 255) rfl rfl, ini_J7, by decide +kernel, by decide +kernel, by decide +kernel⟩
set_option maxRecDepth 100000 in
theorem oX0_clear : MOk mX0_clear := ⟨TB_of (i := 252) rfl rfl, ini_X0, by decide +kernel, by decide +kernel, by decide +kernel⟩
set_option maxRecDepth 100000 in
theorem oX0_init : MOk mX0_init := ⟨TB_of (i := 247) rfl rfl, ini_X0, by decide +kernel, by decide +kernel, by decide +kernel⟩
set_option maxRecDepth 100000 in
theorem oX3_init : MOk mX3_init := ⟨TB_of (i := 270) rfl rfl, ini_X3, by decide +kernel, by decide +kernel, by decide +kernel⟩
set_option maxRecDepth 100000 in
theorem oX9_init : MOk mX9_init := ⟨TB_of (i := 102) rfl rfl, ini_X9, by decide +kernel, by decide +kernel, by decide +kernel⟩
set_option maxRecDepth 100000 in
theorem oX10_init : MOk mX10_init := ⟨TB_of (i := 897) rfl rfl, ini_X10, by decide +kernel, by decide +kernel, by decide +kernel⟩
set_option maxRecDepth 100000 in
theorem oX8_isFull : MOk mX8_isFull := ⟨TB_of (i := 336) rfl rfl, ini_X8, by decide +kernel, by decide +kernel, by decide +kernel⟩
set_option maxRecDepth 100000 in
theorem oX8_add : MOk mX8_add := ⟨TB_of (i := 340) rfl rfl, ini_X8, by decide +kernel, by decide +kernel, by decide +kernel⟩
set_option maxRecDepth 100000 in
theorem oX8_length : MOk mX8_length := ⟨TB_of (i := 345) rfl rfl, ini_X8, by decide +kernel, by decide +kernel, by decide +kernel⟩
set_option maxRecDepth 100000 in
theorem oX9_append : MOk mX9_append := ⟨TB_of (i := 332) rfl rfl, ini_X9, by decide +kernel, by decide +kernel, by decide +kernel⟩
set_option maxRecDepth 100000 in
theorem oX10_in : MOk mX10_in := ⟨TB_of (i := 985) rfl rfl, ini_X10, by decide +kernel, by decide +kernel, by decide +kernel⟩
set_option maxRecDepth 100000 in
theorem oX10_append : MOk mX10_append := ⟨TB_of (i := 982) rfl rfl, ini_X10, by decide +kernel, by decide +kernel, by decide +kernel⟩
set_option maxRecDepth 100000 in
theorem oX8_clear : MOk mX8_clear := ⟨TB_of (i := 353) rfl rfl, ini_X8, by decide +kernel, by decide +kernel, by decide +kernel⟩
set_option maxRecDepth 100000 in
theorem oX9_clearText : MOk mX9_clearText := ⟨TB_of (i := 349) rfl rfl, ini_X9, by decide +kernel, by decide +kernel, by decide +kernel⟩
set_option maxRecDepth 100000 in
theorem oX10_clearText : MOk mX10_clearText := ⟨TB_of (i := 989) rfl rfl, ini_X10, by decide +kernel, by decide +kernel, by decide +kernel⟩
set_option maxRecDepth 100000 in
theorem oX6_clear : MOk mX6_clear := ⟨TB_of (i := 370) rfl rfl, ini_X6, by decide +kernel, by decide +kernel, by decide +kernel⟩
set_option maxRecDepth 100000 in
theorem oX4_clear : MOk mX4_clear := ⟨TB_of (i := 365) rfl rfl, ini_X4, by decide +kernel, by decide +kernel, by decide +kernel⟩
set_option maxRecDepth 100000 in
theorem oX8_kindOfSign : MOk mX8_kindOfSign := ⟨TB_of (i := 377) rfl rfl, ini_X8, by decide +kernel, by decide +kernel, by decide +kernel⟩
set_option maxRecDepth 100000 in
theorem oJ0_coder_7d493 : MOk mJ0_coder_7d493 := ⟨TB_of (i := 394) rfl rfl, ini_J0, by decide +kernel, by decide +kernel, by decide +kernel⟩
set_option maxRecDepth 100000 in
theorem oJ0_length_8abf5 : MOk mJ0_length_8abf5 := ⟨TB_of (i := 390) rfl rfl, ini_J0, by decide +kernel, by decide +kernel, by decide +kernel⟩
set_option maxRecDepth 100000 in
theorem oJ0_isLatin1_aae02 : MOk mJ0_isLatin1_aae02 := ⟨TB_of (i := 404) rfl rfl, ini_J0, by decide +kernel, by decide +kernel, by decide +kernel⟩
set_option maxRecDepth 100000 in
theorem oJ3_checkIndex_8e157 : MOk mJ3_checkIndex_8e157 := ⟨TB_of (i := 415) rfl rfl, ini_J3, by decide +kernel, by decide +kernel, by decide +kernel⟩
set_option maxRecDepth 100000 in
theorem oJ0_checkIndex_df160 : MOk mJ0_checkIndex_df160 := ⟨TB_of (i := 410) rfl rfl, ini_J0, by decide +kernel, by decide +kernel, by decide +kernel⟩
set_option maxRecDepth 100000 in
theorem oJ1_charAt_3b067 : MOk mJ1_charAt_3b067 := ⟨TB_of (i := 407) rfl rfl, ini_J1, by decide +kernel, by decide +kernel, by decide +kernel⟩
set_option maxRecDepth 100000 in
theorem oJ2_length_9d52b : MOk mJ2_length_9d52b := ⟨TB_of (i := 424) rfl rfl, ini_J2, by decide +kernel, by decide +kernel, by decide +kernel⟩
set_option maxRecDepth 100000 in
theorem oJ2_checkIndex_2214a : MOk mJ2_checkIndex_2214a := ⟨TB_of (i := 421) rfl rfl, ini_J2, by decide +kernel, by decide +kernel, by decide +kernel⟩
set_option maxRecDepth 100000 in
theorem oJ2_getChar_3b067 : MOk mJ2_getChar_3b067 := ⟨TB_of (i := 428) rfl rfl, ini_J2, by decide +kernel, by decide +kernel, by decide +kernel⟩
set_option maxRecDepth 100000 in
theorem oJ2_charAt_3b067 : MOk mJ2_charAt_3b067 := ⟨TB_of (i := 418) rfl rfl, ini_J2, by decide +kernel, by decide +kernel, by decide +kernel⟩
set_option maxRecDepth 100000 in
theorem oJ0_charAt_5068e : MOk mJ0_charAt_5068e := ⟨TB_of (i := 400) rfl rfl, ini_J0, by decide +kernel, by decide +kernel, by decide +kernel⟩
set_option maxRecDepth 100000 in
theorem oX8_isWord : MOk mX8_isWord := ⟨TB_of (i := 386) rfl rfl, ini_X8, by decide +kernel, by decide +kernel, by decide +kernel⟩
set_option maxRecDepth 100000 in
theorem oX8_kindOfWord : MOk mX8_kindOfWord := ⟨TB_of (i := 381) rfl rfl, ini_X8, by decide +kernel, by decide +kernel, by decide +kernel⟩
set_option maxRecDepth 100000 in
theorem oX8_split : MOk mX8_split := ⟨TB_of (i := 374) rfl rfl, ini_X8, by decide +kernel, by decide +kernel, by decide +kernel⟩
set_option maxRecDepth 100000 in
theorem oX8_kind : MOk mX8_kind := ⟨TB_of (i := 439) rfl rfl, ini_X8, by decide +kernel, by decide +kernel, by decide +kernel⟩
set_option maxRecDepth 100000 in
theorem oX8_pass : MOk mX8_pass := ⟨TB_of (i := 443) rfl rfl, ini_X8, by decide +kernel, by decide +kernel, by decide +kernel⟩
set_option maxRecDepth 100000 in
theorem oX8_name : MOk mX8_name := ⟨TB_of (i := 451) rfl rfl, ini_X8, by decide +kernel, by decide +kernel, by decide +kernel⟩
set_option maxRecDepth 100000 in
theorem oX9_isVariable : MOk mX9_isVariable := ⟨TB_of (i := 458) rfl rfl, ini_X9, by decide +kernel, by decide +kernel, by decide +kernel⟩
set_option maxRecDepth 100000 in
theorem oX4_widthOf : MOk mX4_widthOf := ⟨TB_of (i := 455) rfl rfl, ini_X4, by decide +kernel, by decide +kernel, by decide +kernel⟩
set_option maxRecDepth 100000 in
theorem oX8_advance : MOk mX8_advance := ⟨TB_of (i := 462) rfl rfl, ini_X8, by decide +kernel, by decide +kernel, by decide +kernel⟩
set_option maxRecDepth 100000 in
theorem oX8_number : MOk mX8_number := ⟨TB_of (i := 466) rfl rfl, ini_X8, by decide +kernel, by decide +kernel, by decide +kernel⟩
set_option maxRecDepth 100000 in
theorem oX4_declare : MOk mX4_declare := ⟨TB_of (i := 470) rfl rfl, ini_X4, by decide +kernel, by decide +kernel, by decide +kernel⟩
set_option maxRecDepth 100000 in
theorem oX5_readDeclaration : MOk mX5_readDeclaration := ⟨TB_of (i := 447) rfl rfl, ini_X5, by decide +kernel, by decide +kernel, by decide +kernel⟩
set_option maxRecDepth 100000 in
theorem oX6_isFull : MOk mX6_isFull := ⟨TB_of (i := 478) rfl rfl, ini_X6, by decide +kernel, by decide +kernel, by decide +kernel⟩
set_option maxRecDepth 100000 in
theorem oX7_clear : MOk mX7_clear := ⟨TB_of (i := 486) rfl rfl, ini_X7, by decide +kernel, by decide +kernel, by decide +kernel⟩
set_option maxRecDepth 100000 in
theorem oX8_constantBits : MOk mX8_constantBits := ⟨TB_of (i := 498) rfl rfl, ini_X8, by decide +kernel, by decide +kernel, by decide +kernel⟩
set_option maxRecDepth 100000 in
theorem oX7_beginPart : MOk mX7_beginPart := ⟨TB_of (i := 502) rfl rfl, ini_X7, by decide +kernel, by decide +kernel, by decide +kernel⟩
set_option maxRecDepth 100000 in
theorem oX8_constantBit : MOk mX8_constantBit := ⟨TB_of (i := 506) rfl rfl, ini_X8, by decide +kernel, by decide +kernel, by decide +kernel⟩
set_option maxRecDepth 100000 in
theorem oX7_add : MOk mX7_add := ⟨TB_of (i := 510) rfl rfl, ini_X7, by decide +kernel, by decide +kernel, by decide +kernel⟩
set_option maxRecDepth 100000 in
theorem oX5_readConstant : MOk mX5_readConstant := ⟨TB_of (i := 494) rfl rfl, ini_X5, by decide +kernel, by decide +kernel, by decide +kernel⟩
set_option maxRecDepth 100000 in
theorem oX5_readRange : MOk mX5_readRange := ⟨TB_of (i := 514) rfl rfl, ini_X5, by decide +kernel, by decide +kernel, by decide +kernel⟩
set_option maxRecDepth 100000 in
theorem oX9_nodeOf : MOk mX9_nodeOf := ⟨TB_of (i := 517) rfl rfl, ini_X9, by decide +kernel, by decide +kernel, by decide +kernel⟩
set_option maxRecDepth 100000 in
theorem oX7_addRange : MOk mX7_addRange := ⟨TB_of (i := 521) rfl rfl, ini_X7, by decide +kernel, by decide +kernel, by decide +kernel⟩
set_option maxRecDepth 100000 in
theorem oX5_readPart : MOk mX5_readPart := ⟨TB_of (i := 490) rfl rfl, ini_X5, by decide +kernel, by decide +kernel, by decide +kernel⟩
set_option maxRecDepth 100000 in
theorem oX5_readTerm : MOk mX5_readTerm := ⟨TB_of (i := 482) rfl rfl, ini_X5, by decide +kernel, by decide +kernel, by decide +kernel⟩
set_option maxRecDepth 100000 in
theorem oX7_bitCount : MOk mX7_bitCount := ⟨TB_of (i := 527) rfl rfl, ini_X7, by decide +kernel, by decide +kernel, by decide +kernel⟩
set_option maxRecDepth 100000 in
theorem oX7_node : MOk mX7_node := ⟨TB_of (i := 537) rfl rfl, ini_X7, by decide +kernel, by decide +kernel, by decide +kernel⟩
set_option maxRecDepth 100000 in
theorem oX7_partBeginsAt : MOk mX7_partBeginsAt := ⟨TB_of (i := 541) rfl rfl, ini_X7, by decide +kernel, by decide +kernel, by decide +kernel⟩
set_option maxRecDepth 100000 in
theorem oX6_putTerm : MOk mX6_putTerm := ⟨TB_of (i := 531) rfl rfl, ini_X6, by decide +kernel, by decide +kernel, by decide +kernel⟩
set_option maxRecDepth 100000 in
theorem oX6_finish : MOk mX6_finish := ⟨TB_of (i := 545) rfl rfl, ini_X6, by decide +kernel, by decide +kernel, by decide +kernel⟩
set_option maxRecDepth 100000 in
theorem oX5_readStatement : MOk mX5_readStatement := ⟨TB_of (i := 474) rfl rfl, ini_X5, by decide +kernel, by decide +kernel, by decide +kernel⟩
set_option maxRecDepth 100000 in
theorem oX8_start : MOk mX8_start := ⟨TB_of (i := 549) rfl rfl, ini_X8, by decide +kernel, by decide +kernel, by decide +kernel⟩
set_option maxRecDepth 100000 in
theorem oX5_read : MOk mX5_read := ⟨TB_of (i := 361) rfl rfl, ini_X5, by decide +kernel, by decide +kernel, by decide +kernel⟩
set_option maxRecDepth 100000 in
theorem oX2_forgetOldest : MOk mX2_forgetOldest := ⟨TB_of (i := 557) rfl rfl, ini_X2, by decide +kernel, by decide +kernel, by decide +kernel⟩
set_option maxRecDepth 100000 in
theorem oX6_move : MOk mX6_move := ⟨TB_of (i := 575) rfl rfl, ini_X6, by decide +kernel, by decide +kernel, by decide +kernel⟩
set_option maxRecDepth 100000 in
theorem oX6_copyFrom : MOk mX6_copyFrom := ⟨TB_of (i := 568) rfl rfl, ini_X6, by decide +kernel, by decide +kernel, by decide +kernel⟩
set_option maxRecDepth 100000 in
theorem oX4_copyFrom : MOk mX4_copyFrom := ⟨TB_of (i := 561) rfl rfl, ini_X4, by decide +kernel, by decide +kernel, by decide +kernel⟩
set_option maxRecDepth 100000 in
theorem oX2_push : MOk mX2_push := ⟨TB_of (i := 553) rfl rfl, ini_X2, by decide +kernel, by decide +kernel, by decide +kernel⟩
set_option maxRecDepth 100000 in
theorem oX6_count : MOk mX6_count := ⟨TB_of (i := 590) rfl rfl, ini_X6, by decide +kernel, by decide +kernel, by decide +kernel⟩
set_option maxRecDepth 100000 in
theorem oX6_has : MOk mX6_has := ⟨TB_of (i := 602) rfl rfl, ini_X6, by decide +kernel, by decide +kernel, by decide +kernel⟩
set_option maxRecDepth 100000 in
theorem oX6_widthOf : MOk mX6_widthOf := ⟨TB_of (i := 598) rfl rfl, ini_X6, by decide +kernel, by decide +kernel, by decide +kernel⟩
set_option maxRecDepth 100000 in
theorem oX6_node : MOk mX6_node := ⟨TB_of (i := 606) rfl rfl, ini_X6, by decide +kernel, by decide +kernel, by decide +kernel⟩
set_option maxRecDepth 100000 in
theorem oX9_isConstantNode : MOk mX9_isConstantNode := ⟨TB_of (i := 609) rfl rfl, ini_X9, by decide +kernel, by decide +kernel, by decide +kernel⟩
set_option maxRecDepth 100000 in
theorem oX6_partEndsAt : MOk mX6_partEndsAt := ⟨TB_of (i := 613) rfl rfl, ini_X6, by decide +kernel, by decide +kernel, by decide +kernel⟩
set_option maxRecDepth 100000 in
theorem oX9_variableOf : MOk mX9_variableOf := ⟨TB_of (i := 616) rfl rfl, ini_X9, by decide +kernel, by decide +kernel, by decide +kernel⟩
set_option maxRecDepth 100000 in
theorem oX9_bitOf : MOk mX9_bitOf := ⟨TB_of (i := 619) rfl rfl, ini_X9, by decide +kernel, by decide +kernel, by decide +kernel⟩
set_option maxRecDepth 100000 in
theorem oX1_cutBelow : MOk mX1_cutBelow := ⟨TB_of (i := 623) rfl rfl, ini_X1, by decide +kernel, by decide +kernel, by decide +kernel⟩
set_option maxRecDepth 100000 in
theorem oX1_cutAroundParts : MOk mX1_cutAroundParts := ⟨TB_of (i := 594) rfl rfl, ini_X1, by decide +kernel, by decide +kernel, by decide +kernel⟩
set_option maxRecDepth 100000 in
theorem oX1_isCut : MOk mX1_isCut := ⟨TB_of (i := 632) rfl rfl, ini_X1, by decide +kernel, by decide +kernel, by decide +kernel⟩
set_option maxRecDepth 100000 in
theorem oX1_isMarked : MOk mX1_isMarked := ⟨TB_of (i := 636) rfl rfl, ini_X1, by decide +kernel, by decide +kernel, by decide +kernel⟩
set_option maxRecDepth 100000 in
theorem oX1_spread : MOk mX1_spread := ⟨TB_of (i := 628) rfl rfl, ini_X1, by decide +kernel, by decide +kernel, by decide +kernel⟩
set_option maxRecDepth 100000 in
theorem oX1_cut : MOk mX1_cut := ⟨TB_of (i := 585) rfl rfl, ini_X1, by decide +kernel, by decide +kernel, by decide +kernel⟩
set_option maxRecDepth 100000 in
theorem oX0_rootOf : MOk mX0_rootOf := ⟨TB_of (i := 653) rfl rfl, ini_X0, by decide +kernel, by decide +kernel, by decide +kernel⟩
set_option maxRecDepth 100000 in
theorem oX0_fix : MOk mX0_fix := ⟨TB_of (i := 657) rfl rfl, ini_X0, by decide +kernel, by decide +kernel, by decide +kernel⟩
set_option maxRecDepth 100000 in
theorem oX0_unite : MOk mX0_unite := ⟨TB_of (i := 661) rfl rfl, ini_X0, by decide +kernel, by decide +kernel, by decide +kernel⟩
set_option maxRecDepth 100000 in
theorem oX0_join : MOk mX0_join := ⟨TB_of (i := 648) rfl rfl, ini_X0, by decide +kernel, by decide +kernel, by decide +kernel⟩
set_option maxRecDepth 100000 in
theorem oX0_equate : MOk mX0_equate := ⟨TB_of (i := 642) rfl rfl, ini_X0, by decide +kernel, by decide +kernel, by decide +kernel⟩
set_option maxRecDepth 100000 in
theorem oX9_slice : MOk mX9_slice := ⟨TB_of (i := 581) rfl rfl, ini_X9, by decide +kernel, by decide +kernel, by decide +kernel⟩
set_option maxRecDepth 100000 in
theorem oX4_statementCount : MOk mX4_statementCount := ⟨TB_of (i := 667) rfl rfl, ini_X4, by decide +kernel, by decide +kernel, by decide +kernel⟩
set_option maxRecDepth 100000 in
theorem oX9_load : MOk mX9_load := ⟨TB_of (i := 357) rfl rfl, ini_X9, by decide +kernel, by decide +kernel, by decide +kernel⟩
set_option maxRecDepth 100000 in
theorem oX10_characterAt : MOk mX10_characterAt := ⟨TB_of (i := 1001) rfl rfl, ini_X10, by decide +kernel, by decide +kernel, by decide +kernel⟩
set_option maxRecDepth 100000 in
theorem oX10_wordOf : MOk mX10_wordOf := ⟨TB_of (i := 1005) rfl rfl, ini_X10, by decide +kernel, by decide +kernel, by decide +kernel⟩
set_option maxRecDepth 100000 in
theorem oX10_isSignCharacter : MOk mX10_isSignCharacter := ⟨TB_of (i := 1008) rfl rfl, ini_X10, by decide +kernel, by decide +kernel, by decide +kernel⟩
set_option maxRecDepth 100000 in
theorem oX10_advance : MOk mX10_advance := ⟨TB_of (i := 997) rfl rfl, ini_X10, by decide +kernel, by decide +kernel, by decide +kernel⟩
set_option maxRecDepth 100000 in
theorem oX10_isFine : MOk mX10_isFine := ⟨TB_of (i := 1012) rfl rfl, ini_X10, by decide +kernel, by decide +kernel, by decide +kernel⟩
set_option maxRecDepth 100000 in
theorem oX10_take : MOk mX10_take := ⟨TB_of (i := 1024) rfl rfl, ini_X10, by decide +kernel, by decide +kernel, by decide +kernel⟩
set_option maxRecDepth 100000 in
theorem oX10_isName : MOk mX10_isName := ⟨TB_of (i := 1028) rfl rfl, ini_X10, by decide +kernel, by decide +kernel, by decide +kernel⟩
set_option maxRecDepth 100000 in
theorem oX10_number : MOk mX10_number := ⟨TB_of (i := 1032) rfl rfl, ini_X10, by decide +kernel, by decide +kernel, by decide +kernel⟩
set_option maxRecDepth 100000 in
theorem oX10_isSign : MOk mX10_isSign := ⟨TB_of (i := 1036) rfl rfl, ini_X10, by decide +kernel, by decide +kernel, by decide +kernel⟩
set_option maxRecDepth 100000 in
theorem oX10_readDeclaration : MOk mX10_readDeclaration := ⟨TB_of (i := 1020) rfl rfl, ini_X10, by decide +kernel, by decide +kernel, by decide +kernel⟩
set_option maxRecDepth 100000 in
theorem oX10_addBit : MOk mX10_addBit := ⟨TB_of (i := 1056) rfl rfl, ini_X10, by decide +kernel, by decide +kernel, by decide +kernel⟩
set_option maxRecDepth 100000 in
theorem oX10_readConstant : MOk mX10_readConstant := ⟨TB_of (i := 1052) rfl rfl, ini_X10, by decide +kernel, by decide +kernel, by decide +kernel⟩
set_option maxRecDepth 100000 in
theorem oX10_readRange : MOk mX10_readRange := ⟨TB_of (i := 1060) rfl rfl, ini_X10, by decide +kernel, by decide +kernel, by decide +kernel⟩
set_option maxRecDepth 100000 in
theorem oX10_readPart : MOk mX10_readPart := ⟨TB_of (i := 1048) rfl rfl, ini_X10, by decide +kernel, by decide +kernel, by decide +kernel⟩
set_option maxRecDepth 100000 in
theorem oX10_readTerm : MOk mX10_readTerm := ⟨TB_of (i := 1044) rfl rfl, ini_X10, by decide +kernel, by decide +kernel, by decide +kernel⟩
set_option maxRecDepth 100000 in
theorem oX10_putTerm : MOk mX10_putTerm := ⟨TB_of (i := 1064) rfl rfl, ini_X10, by decide +kernel, by decide +kernel, by decide +kernel⟩
set_option maxRecDepth 100000 in
theorem oX10_readStatement : MOk mX10_readStatement := ⟨TB_of (i := 1040) rfl rfl, ini_X10, by decide +kernel, by decide +kernel, by decide +kernel⟩
set_option maxRecDepth 100000 in
theorem oX10_readItem : MOk mX10_readItem := ⟨TB_of (i := 1016) rfl rfl, ini_X10, by decide +kernel, by decide +kernel, by decide +kernel⟩
set_option maxRecDepth 100000 in
theorem oX10_keep : MOk mX10_keep := ⟨TB_of (i := 1068) rfl rfl, ini_X10, by decide +kernel, by decide +kernel, by decide +kernel⟩
set_option maxRecDepth 100000 in
theorem oX10_load : MOk mX10_load := ⟨TB_of (i := 993) rfl rfl, ini_X10, by decide +kernel, by decide +kernel, by decide +kernel⟩
set_option maxRecDepth 100000 in
theorem oX6_drop : MOk mX6_drop := ⟨TB_of (i := 678) rfl rfl, ini_X6, by decide +kernel, by decide +kernel, by decide +kernel⟩
set_option maxRecDepth 100000 in
theorem oX9_removeEquation : MOk mX9_removeEquation := ⟨TB_of (i := 673) rfl rfl, ini_X9, by decide +kernel, by decide +kernel, by decide +kernel⟩
set_option maxRecDepth 100000 in
theorem oX10_removeAt : MOk mX10_removeAt := ⟨TB_of (i := 1076) rfl rfl, ini_X10, by decide +kernel, by decide +kernel, by decide +kernel⟩
set_option maxRecDepth 100000 in
theorem oX10_removeEquation : MOk mX10_removeEquation := ⟨TB_of (i := 1072) rfl rfl, ini_X10, by decide +kernel, by decide +kernel, by decide +kernel⟩
set_option maxRecDepth 100000 in
theorem oX9_removeDisequation : MOk mX9_removeDisequation := ⟨TB_of (i := 682) rfl rfl, ini_X9, by decide +kernel, by decide +kernel, by decide +kernel⟩
set_option maxRecDepth 100000 in
theorem oX10_removeDisequation : MOk mX10_removeDisequation := ⟨TB_of (i := 1080) rfl rfl, ini_X10, by decide +kernel, by decide +kernel, by decide +kernel⟩
set_option maxRecDepth 100000 in
theorem oX9_width : MOk mX9_width := ⟨TB_of (i := 686) rfl rfl, ini_X9, by decide +kernel, by decide +kernel, by decide +kernel⟩
set_option maxRecDepth 100000 in
theorem oX10_isVariable : MOk mX10_isVariable := ⟨TB_of (i := 1087) rfl rfl, ini_X10, by decide +kernel, by decide +kernel, by decide +kernel⟩
set_option maxRecDepth 100000 in
theorem oX10_width : MOk mX10_width := ⟨TB_of (i := 1084) rfl rfl, ini_X10, by decide +kernel, by decide +kernel, by decide +kernel⟩
set_option maxRecDepth 100000 in
theorem oX9_equationCount : MOk mX9_equationCount := ⟨TB_of (i := 692) rfl rfl, ini_X9, by decide +kernel, by decide +kernel, by decide +kernel⟩
set_option maxRecDepth 100000 in
theorem oX10_equationCount : MOk mX10_equationCount := ⟨TB_of (i := 1091) rfl rfl, ini_X10, by decide +kernel, by decide +kernel, by decide +kernel⟩
set_option maxRecDepth 100000 in
theorem oX9_disequationCount : MOk mX9_disequationCount := ⟨TB_of (i := 696) rfl rfl, ini_X9, by decide +kernel, by decide +kernel, by decide +kernel⟩
set_option maxRecDepth 100000 in
theorem oX10_disequationCount : MOk mX10_disequationCount := ⟨TB_of (i := 1095) rfl rfl, ini_X10, by decide +kernel, by decide +kernel, by decide +kernel⟩
set_option maxRecDepth 100000 in
theorem oJ6_bitCount_0f7a4 : MOk mJ6_bitCount_0f7a4 := ⟨TB_of (i := 711) rfl rfl, ini_J6, by decide +kernel, by decide +kernel, by decide +kernel⟩
set_option maxRecDepth 100000 in
theorem oX1_countOf : MOk mX1_countOf := ⟨TB_of (i := 708) rfl rfl, ini_X1, by decide +kernel, by decide +kernel, by decide +kernel⟩
set_option maxRecDepth 100000 in
theorem oX9_slicesOf : MOk mX9_slicesOf := ⟨TB_of (i := 704) rfl rfl, ini_X9, by decide +kernel, by decide +kernel, by decide +kernel⟩
set_option maxRecDepth 100000 in
theorem oX9_sliceCount : MOk mX9_sliceCount := ⟨TB_of (i := 700) rfl rfl, ini_X9, by decide +kernel, by decide +kernel, by decide +kernel⟩
set_option maxRecDepth 100000 in
theorem oX10_widthOf : MOk mX10_widthOf := ⟨TB_of (i := 1111) rfl rfl, ini_X10, by decide +kernel, by decide +kernel, by decide +kernel⟩
set_option maxRecDepth 100000 in
theorem oX10_bitOf : MOk mX10_bitOf := ⟨TB_of (i := 1115) rfl rfl, ini_X10, by decide +kernel, by decide +kernel, by decide +kernel⟩
set_option maxRecDepth 100000 in
theorem oX10_isOfVariable : MOk mX10_isOfVariable := ⟨TB_of (i := 1119) rfl rfl, ini_X10, by decide +kernel, by decide +kernel, by decide +kernel⟩
set_option maxRecDepth 100000 in
theorem oX10_variableBit : MOk mX10_variableBit := ⟨TB_of (i := 1122) rfl rfl, ini_X10, by decide +kernel, by decide +kernel, by decide +kernel⟩
set_option maxRecDepth 100000 in
theorem oX10_areOfOnePart : MOk mX10_areOfOnePart := ⟨TB_of (i := 1125) rfl rfl, ini_X10, by decide +kernel, by decide +kernel, by decide +kernel⟩
set_option maxRecDepth 100000 in
theorem oX10_addCut : MOk mX10_addCut := ⟨TB_of (i := 1129) rfl rfl, ini_X10, by decide +kernel, by decide +kernel, by decide +kernel⟩
set_option maxRecDepth 100000 in
theorem oX10_cutEnds : MOk mX10_cutEnds := ⟨TB_of (i := 1107) rfl rfl, ini_X10, by decide +kernel, by decide +kernel, by decide +kernel⟩
set_option maxRecDepth 100000 in
theorem oX10_isMarked : MOk mX10_isMarked := ⟨TB_of (i := 1137) rfl rfl, ini_X10, by decide +kernel, by decide +kernel, by decide +kernel⟩
set_option maxRecDepth 100000 in
theorem oX10_carry : MOk mX10_carry := ⟨TB_of (i := 1133) rfl rfl, ini_X10, by decide +kernel, by decide +kernel, by decide +kernel⟩
set_option maxRecDepth 100000 in
theorem oX10_findCuts : MOk mX10_findCuts := ⟨TB_of (i := 1103) rfl rfl, ini_X10, by decide +kernel, by decide +kernel, by decide +kernel⟩
set_option maxRecDepth 100000 in
theorem oX10_slicesOf : MOk mX10_slicesOf := ⟨TB_of (i := 1141) rfl rfl, ini_X10, by decide +kernel, by decide +kernel, by decide +kernel⟩
set_option maxRecDepth 100000 in
theorem oX10_sliceCount : MOk mX10_sliceCount := ⟨TB_of (i := 1099) rfl rfl, ini_X10, by decide +kernel, by decide +kernel, by decide +kernel⟩
set_option maxRecDepth 100000 in
theorem oX9_isSlice : MOk mX9_isSlice := ⟨TB_of (i := 722) rfl rfl, ini_X9, by decide +kernel, by decide +kernel, by decide +kernel⟩
set_option maxRecDepth 100000 in
theorem oX1_startOf : MOk mX1_startOf := ⟨TB_of (i := 726) rfl rfl, ini_X1, by decide +kernel, by decide +kernel, by decide +kernel⟩
set_option maxRecDepth 100000 in
theorem oX9_sliceStart : MOk mX9_sliceStart := ⟨TB_of (i := 718) rfl rfl, ini_X9, by decide +kernel, by decide +kernel, by decide +kernel⟩
set_option maxRecDepth 100000 in
theorem oX10_isSlice : MOk mX10_isSlice := ⟨TB_of (i := 1149) rfl rfl, ini_X10, by decide +kernel, by decide +kernel, by decide +kernel⟩
set_option maxRecDepth 100000 in
theorem oX10_startOf : MOk mX10_startOf := ⟨TB_of (i := 1153) rfl rfl, ini_X10, by decide +kernel, by decide +kernel, by decide +kernel⟩
set_option maxRecDepth 100000 in
theorem oX10_sliceStart : MOk mX10_sliceStart := ⟨TB_of (i := 1145) rfl rfl, ini_X10, by decide +kernel, by decide +kernel, by decide +kernel⟩
set_option maxRecDepth 100000 in
theorem oX9_sliceWidth : MOk mX9_sliceWidth := ⟨TB_of (i := 730) rfl rfl, ini_X9, by decide +kernel, by decide +kernel, by decide +kernel⟩
set_option maxRecDepth 100000 in
theorem oX10_sliceWidth : MOk mX10_sliceWidth := ⟨TB_of (i := 1157) rfl rfl, ini_X10, by decide +kernel, by decide +kernel, by decide +kernel⟩
set_option maxRecDepth 100000 in
theorem oX1_sliceAt : MOk mX1_sliceAt := ⟨TB_of (i := 742) rfl rfl, ini_X1, by decide +kernel, by decide +kernel, by decide +kernel⟩
set_option maxRecDepth 100000 in
theorem oX9_representative : MOk mX9_representative := ⟨TB_of (i := 734) rfl rfl, ini_X9, by decide +kernel, by decide +kernel, by decide +kernel⟩
set_option maxRecDepth 100000 in
theorem oX10_rootOf : MOk mX10_rootOf := ⟨TB_of (i := 1181) rfl rfl, ini_X10, by decide +kernel, by decide +kernel, by decide +kernel⟩
set_option maxRecDepth 100000 in
theorem oX10_fix : MOk mX10_fix := ⟨TB_of (i := 1185) rfl rfl, ini_X10, by decide +kernel, by decide +kernel, by decide +kernel⟩
set_option maxRecDepth 100000 in
theorem oX10_join : MOk mX10_join := ⟨TB_of (i := 1189) rfl rfl, ini_X10, by decide +kernel, by decide +kernel, by decide +kernel⟩
set_option maxRecDepth 100000 in
theorem oX10_equate : MOk mX10_equate := ⟨TB_of (i := 1177) rfl rfl, ini_X10, by decide +kernel, by decide +kernel, by decide +kernel⟩
set_option maxRecDepth 100000 in
theorem oX10_equateTerms : MOk mX10_equateTerms := ⟨TB_of (i := 1173) rfl rfl, ini_X10, by decide +kernel, by decide +kernel, by decide +kernel⟩
set_option maxRecDepth 100000 in
theorem oX10_solve : MOk mX10_solve := ⟨TB_of (i := 1169) rfl rfl, ini_X10, by decide +kernel, by decide +kernel, by decide +kernel⟩
set_option maxRecDepth 100000 in
theorem oX10_solveAll : MOk mX10_solveAll := ⟨TB_of (i := 1165) rfl rfl, ini_X10, by decide +kernel, by decide +kernel, by decide +kernel⟩
set_option maxRecDepth 100000 in
theorem oX10_sliceOfBit : MOk mX10_sliceOfBit := ⟨TB_of (i := 1193) rfl rfl, ini_X10, by decide +kernel, by decide +kernel, by decide +kernel⟩
set_option maxRecDepth 100000 in
theorem oX10_representative : MOk mX10_representative := ⟨TB_of (i := 1161) rfl rfl, ini_X10, by decide +kernel, by decide +kernel, by decide +kernel⟩
set_option maxRecDepth 100000 in
theorem oX9_classCount : MOk mX9_classCount := ⟨TB_of (i := 746) rfl rfl, ini_X9, by decide +kernel, by decide +kernel, by decide +kernel⟩
set_option maxRecDepth 100000 in
theorem oX10_classCount : MOk mX10_classCount := ⟨TB_of (i := 1197) rfl rfl, ini_X10, by decide +kernel, by decide +kernel, by decide +kernel⟩
set_option maxRecDepth 100000 in
theorem oX0_agree : MOk mX0_agree := ⟨TB_of (i := 754) rfl rfl, ini_X0, by decide +kernel, by decide +kernel, by decide +kernel⟩
set_option maxRecDepth 100000 in
theorem oX9_isConsistent : MOk mX9_isConsistent := ⟨TB_of (i := 750) rfl rfl, ini_X9, by decide +kernel, by decide +kernel, by decide +kernel⟩
set_option maxRecDepth 100000 in
theorem oX10_isConsistent : MOk mX10_isConsistent := ⟨TB_of (i := 1201) rfl rfl, ini_X10, by decide +kernel, by decide +kernel, by decide +kernel⟩
set_option maxRecDepth 100000 in
theorem oX9_firstConflict : MOk mX9_firstConflict := ⟨TB_of (i := 758) rfl rfl, ini_X9, by decide +kernel, by decide +kernel, by decide +kernel⟩
set_option maxRecDepth 100000 in
theorem oX10_firstConflict : MOk mX10_firstConflict := ⟨TB_of (i := 1205) rfl rfl, ini_X10, by decide +kernel, by decide +kernel, by decide +kernel⟩
set_option maxRecDepth 100000 in
theorem oX9_tryEquations : MOk mX9_tryEquations := ⟨TB_of (i := 766) rfl rfl, ini_X9, by decide +kernel, by decide +kernel, by decide +kernel⟩
set_option maxRecDepth 100000 in
theorem oX9_conflictSet : MOk mX9_conflictSet := ⟨TB_of (i := 762) rfl rfl, ini_X9, by decide +kernel, by decide +kernel, by decide +kernel⟩
set_option maxRecDepth 100000 in
theorem oX10_conflictSet : MOk mX10_conflictSet := ⟨TB_of (i := 1209) rfl rfl, ini_X10, by decide +kernel, by decide +kernel, by decide +kernel⟩
set_option maxRecDepth 100000 in
theorem oX9_isBit : MOk mX9_isBit := ⟨TB_of (i := 774) rfl rfl, ini_X9, by decide +kernel, by decide +kernel, by decide +kernel⟩
set_option maxRecDepth 100000 in
theorem oX0_constantOf : MOk mX0_constantOf := ⟨TB_of (i := 778) rfl rfl, ini_X0, by decide +kernel, by decide +kernel, by decide +kernel⟩
set_option maxRecDepth 100000 in
theorem oX9_fixedBit : MOk mX9_fixedBit := ⟨TB_of (i := 770) rfl rfl, ini_X9, by decide +kernel, by decide +kernel, by decide +kernel⟩
set_option maxRecDepth 100000 in
theorem oX10_isBit : MOk mX10_isBit := ⟨TB_of (i := 1217) rfl rfl, ini_X10, by decide +kernel, by decide +kernel, by decide +kernel⟩
set_option maxRecDepth 100000 in
theorem oX10_fixedBit : MOk mX10_fixedBit := ⟨TB_of (i := 1213) rfl rfl, ini_X10, by decide +kernel, by decide +kernel, by decide +kernel⟩
set_option maxRecDepth 100000 in
theorem oX9_compareBits : MOk mX9_compareBits := ⟨TB_of (i := 782) rfl rfl, ini_X9, by decide +kernel, by decide +kernel, by decide +kernel⟩
set_option maxRecDepth 100000 in
theorem oX10_compareBits : MOk mX10_compareBits := ⟨TB_of (i := 1221) rfl rfl, ini_X10, by decide +kernel, by decide +kernel, by decide +kernel⟩
set_option maxRecDepth 100000 in
theorem oX9_freeBits : MOk mX9_freeBits := ⟨TB_of (i := 786) rfl rfl, ini_X9, by decide +kernel, by decide +kernel, by decide +kernel⟩
set_option maxRecDepth 100000 in
theorem oX10_isFree : MOk mX10_isFree := ⟨TB_of (i := 1229) rfl rfl, ini_X10, by decide +kernel, by decide +kernel, by decide +kernel⟩
set_option maxRecDepth 100000 in
theorem oX10_freeBits : MOk mX10_freeBits := ⟨TB_of (i := 1225) rfl rfl, ini_X10, by decide +kernel, by decide +kernel, by decide +kernel⟩
set_option maxRecDepth 100000 in
theorem oJ7_fill_d0a16 : MOk mJ7_fill_d0a16 := ⟨TB_of (i := 806) rfl rfl, ini_J7, by decide +kernel, by decide +kernel, by decide +kernel⟩
set_option maxRecDepth 100000 in
theorem oX3_constantPlace : MOk mX3_constantPlace := ⟨TB_of (i := 813) rfl rfl, ini_X3, by decide +kernel, by decide +kernel, by decide +kernel⟩
set_option maxRecDepth 100000 in
theorem oX3_wordOfZeros : MOk mX3_wordOfZeros := ⟨TB_of (i := 803) rfl rfl, ini_X3, by decide +kernel, by decide +kernel, by decide +kernel⟩
set_option maxRecDepth 100000 in
theorem oX3_gatherCandidates : MOk mX3_gatherCandidates := ⟨TB_of (i := 819) rfl rfl, ini_X3, by decide +kernel, by decide +kernel, by decide +kernel⟩
set_option maxRecDepth 100000 in
theorem oX3_holds : MOk mX3_holds := ⟨TB_of (i := 822) rfl rfl, ini_X3, by decide +kernel, by decide +kernel, by decide +kernel⟩
set_option maxRecDepth 100000 in
theorem oX3_pickLast : MOk mX3_pickLast := ⟨TB_of (i := 829) rfl rfl, ini_X3, by decide +kernel, by decide +kernel, by decide +kernel⟩
set_option maxRecDepth 100000 in
theorem oX3_pickLastTwo : MOk mX3_pickLastTwo := ⟨TB_of (i := 833) rfl rfl, ini_X3, by decide +kernel, by decide +kernel, by decide +kernel⟩
set_option maxRecDepth 100000 in
theorem oX3_pickThree : MOk mX3_pickThree := ⟨TB_of (i := 837) rfl rfl, ini_X3, by decide +kernel, by decide +kernel, by decide +kernel⟩
set_option maxRecDepth 100000 in
theorem oX3_choose : MOk mX3_choose := ⟨TB_of (i := 798) rfl rfl, ini_X3, by decide +kernel, by decide +kernel, by decide +kernel⟩
set_option maxRecDepth 100000 in
theorem oX9_chosenModel : MOk mX9_chosenModel := ⟨TB_of (i := 794) rfl rfl, ini_X9, by decide +kernel, by decide +kernel, by decide +kernel⟩
set_option maxRecDepth 100000 in
theorem oX3_oneCount : MOk mX3_oneCount := ⟨TB_of (i := 841) rfl rfl, ini_X3, by decide +kernel, by decide +kernel, by decide +kernel⟩
set_option maxRecDepth 100000 in
theorem oX9_isSatisfiable : MOk mX9_isSatisfiable := ⟨TB_of (i := 790) rfl rfl, ini_X9, by decide +kernel, by decide +kernel, by decide +kernel⟩
set_option maxRecDepth 100000 in
theorem oX10_occurs : MOk mX10_occurs := ⟨TB_of (i := 1245) rfl rfl, ini_X10, by decide +kernel, by decide +kernel, by decide +kernel⟩
set_option maxRecDepth 100000 in
theorem oX10_findUsed : MOk mX10_findUsed := ⟨TB_of (i := 1241) rfl rfl, ini_X10, by decide +kernel, by decide +kernel, by decide +kernel⟩
set_option maxRecDepth 100000 in
theorem oX10_valueOf : MOk mX10_valueOf := ⟨TB_of (i := 1261) rfl rfl, ini_X10, by decide +kernel, by decide +kernel, by decide +kernel⟩
set_option maxRecDepth 100000 in
theorem oX10_holds : MOk mX10_holds := ⟨TB_of (i := 1257) rfl rfl, ini_X10, by decide +kernel, by decide +kernel, by decide +kernel⟩
set_option maxRecDepth 100000 in
theorem oX10_isModel : MOk mX10_isModel := ⟨TB_of (i := 1253) rfl rfl, ini_X10, by decide +kernel, by decide +kernel, by decide +kernel⟩
set_option maxRecDepth 100000 in
theorem oX10_search : MOk mX10_search := ⟨TB_of (i := 1249) rfl rfl, ini_X10, by decide +kernel, by decide +kernel, by decide +kernel⟩
set_option maxRecDepth 100000 in
theorem oX10_choose : MOk mX10_choose := ⟨TB_of (i := 1237) rfl rfl, ini_X10, by decide +kernel, by decide +kernel, by decide +kernel⟩
set_option maxRecDepth 100000 in
theorem oX10_isSatisfiable : MOk mX10_isSatisfiable := ⟨TB_of (i := 1233) rfl rfl, ini_X10, by decide +kernel, by decide +kernel, by decide +kernel⟩
set_option maxRecDepth 100000 in
theorem oX9_oneBits : MOk mX9_oneBits := ⟨TB_of (i := 845) rfl rfl, ini_X9, by decide +kernel, by decide +kernel, by decide +kernel⟩
set_option maxRecDepth 100000 in
theorem oX10_oneBits : MOk mX10_oneBits := ⟨TB_of (i := 1265) rfl rfl, ini_X10, by decide +kernel, by decide +kernel, by decide +kernel⟩
set_option maxRecDepth 100000 in
theorem oX3_hasOne : MOk mX3_hasOne := ⟨TB_of (i := 853) rfl rfl, ini_X3, by decide +kernel, by decide +kernel, by decide +kernel⟩
set_option maxRecDepth 100000 in
theorem oX9_value : MOk mX9_value := ⟨TB_of (i := 849) rfl rfl, ini_X9, by decide +kernel, by decide +kernel, by decide +kernel⟩
set_option maxRecDepth 100000 in
theorem oX10_value : MOk mX10_value := ⟨TB_of (i := 1269) rfl rfl, ini_X10, by decide +kernel, by decide +kernel, by decide +kernel⟩
set_option maxRecDepth 100000 in
theorem oX9_isImplied : MOk mX9_isImplied := ⟨TB_of (i := 857) rfl rfl, ini_X9, by decide +kernel, by decide +kernel, by decide +kernel⟩
set_option maxRecDepth 100000 in
theorem oX10_isImplied : MOk mX10_isImplied := ⟨TB_of (i := 1273) rfl rfl, ini_X10, by decide +kernel, by decide +kernel, by decide +kernel⟩
set_option maxRecDepth 100000 in
theorem oX2_depth : MOk mX2_depth := ⟨TB_of (i := 865) rfl rfl, ini_X2, by decide +kernel, by decide +kernel, by decide +kernel⟩
set_option maxRecDepth 100000 in
theorem oX2_popInto : MOk mX2_popInto := ⟨TB_of (i := 869) rfl rfl, ini_X2, by decide +kernel, by decide +kernel, by decide +kernel⟩
set_option maxRecDepth 100000 in
theorem oX9_undo : MOk mX9_undo := ⟨TB_of (i := 861) rfl rfl, ini_X9, by decide +kernel, by decide +kernel, by decide +kernel⟩
set_option maxRecDepth 100000 in
theorem oX10_undo : MOk mX10_undo := ⟨TB_of (i := 1277) rfl rfl, ini_X10, by decide +kernel, by decide +kernel, by decide +kernel⟩
set_option maxRecDepth 100000 in
theorem oX9_undoDepth : MOk mX9_undoDepth := ⟨TB_of (i := 873) rfl rfl, ini_X9, by decide +kernel, by decide +kernel, by decide +kernel⟩
set_option maxRecDepth 100000 in
theorem oX10_undoDepth : MOk mX10_undoDepth := ⟨TB_of (i := 1281) rfl rfl, ini_X10, by decide +kernel, by decide +kernel, by decide +kernel⟩
set_option maxRecDepth 100000 in
theorem oX9_isSlot : MOk mX9_isSlot := ⟨TB_of (i := 880) rfl rfl, ini_X9, by decide +kernel, by decide +kernel, by decide +kernel⟩
set_option maxRecDepth 100000 in
theorem oX9_snapshot : MOk mX9_snapshot := ⟨TB_of (i := 884) rfl rfl, ini_X9, by decide +kernel, by decide +kernel, by decide +kernel⟩
set_option maxRecDepth 100000 in
theorem oX9_save : MOk mX9_save := ⟨TB_of (i := 877) rfl rfl, ini_X9, by decide +kernel, by decide +kernel, by decide +kernel⟩
set_option maxRecDepth 100000 in
theorem oX10_save : MOk mX10_save := ⟨TB_of (i := 1285) rfl rfl, ini_X10, by decide +kernel, by decide +kernel, by decide +kernel⟩
set_option maxRecDepth 100000 in
theorem oX2_clear : MOk mX2_clear := ⟨TB_of (i := 892) rfl rfl, ini_X2, by decide +kernel, by decide +kernel, by decide +kernel⟩
set_option maxRecDepth 100000 in
theorem oX9_restore : MOk mX9_restore := ⟨TB_of (i := 888) rfl rfl, ini_X9, by decide +kernel, by decide +kernel, by decide +kernel⟩
set_option maxRecDepth 100000 in
theorem oX10_restore : MOk mX10_restore := ⟨TB_of (i := 1289) rfl rfl, ini_X10, by decide +kernel, by decide +kernel, by decide +kernel⟩
theorem lL_9 : LkI "SliceSolverLaw" 9 mX9_init 0 := ⟨TB_of (w := Cond.methodLink "SliceSolverLaw" 9 yX9_init) (i := 100) (by decide +kernel) (by decide +kernel), TB_of (w := Cond.instanceMethod yX9_init) (i := 101) (by decide +kernel) (by decide +kernel), rfl, by decide +kernel⟩
theorem lX9_18 : LkI RX9 18 mX5_init 1 := ⟨TB_of (w := Cond.methodLink RX9 18 yX5_init) (i := 138) (by decide +kernel) (by decide +kernel), TB_of (w := Cond.instanceMethod yX5_init) (i := 139) (by decide +kernel) (by decide +kernel), rfl, by decide +kernel⟩
theorem lX4_17 : LkI RX4 17 mX6_init 1 := ⟨TB_of (w := Cond.methodLink RX4 17 yX6_init) (i := 179) (by decide +kernel) (by decide +kernel), TB_of (w := Cond.instanceMethod yX6_init) (i := 180) (by decide +kernel) (by decide +kernel), rfl, by decide +kernel⟩
theorem lX9_37 : LkI RX9 37 mX2_init 0 := ⟨TB_of (w := Cond.methodLink RX9 37 yX2_init) (i := 219) (by decide +kernel) (by decide +kernel), TB_of (w := Cond.instanceMethod yX2_init) (i := 220) (by decide +kernel) (by decide +kernel), rfl, by decide +kernel⟩
theorem lX9_57 : LkI RX9 57 mX0_init 0 := ⟨TB_of (w := Cond.methodLink RX9 57 yX0_init) (i := 245) (by decide +kernel) (by decide +kernel), TB_of (w := Cond.instanceMethod yX0_init) (i := 246) (by decide +kernel) (by decide +kernel), rfl, by decide +kernel⟩
theorem lX0_18 : LkV RX0 18 mX0_clear 0 0 := ⟨TB_of (w := Cond.methodLink RX0 18 yX0_clear) (i := 249) (by decide +kernel) (by decide +kernel), TB_of (w := Cond.instanceMethod yX0_clear) (i := 250) (by decide +kernel) (by decide +kernel), TB_of (w := Cond.selects RX0 yX0_clear yX0_clear) (i := 251) (by decide +kernel) (by decide +kernel), by decide +kernel, TX0, 3, rfl⟩
theorem lX0_21 : LkS RX0 21 mJ7_fill_53178 2 := ⟨TB_of (w := Cond.methodLink RX0 21 yJ7_fill_53178) (i := 253) (by decide +kernel) (by decide +kernel), TB_of (w := Cond.static yJ7_fill_53178) (i := 254) (by decide +kernel) (by decide +kernel), by decide +kernel⟩
theorem lL_13 : LkV "SliceSolverLaw" 13 mX9_append 1 9 := ⟨TB_of (w := Cond.methodLink "SliceSolverLaw" 13 yX9_append) (i := 329) (by decide +kernel) (by decide +kernel), TB_of (w := Cond.instanceMethod yX9_append) (i := 330) (by decide +kernel) (by decide +kernel), TB_of (w := Cond.selects RX9 yX9_append yX9_append) (i := 331) (by decide +kernel) (by decide +kernel), by decide +kernel, TX9, 13, rfl⟩
theorem lX9_80 : LkV RX9 80 mX8_isFull 0 8 := ⟨TB_of (w := Cond.methodLink RX9 80 yX8_isFull) (i := 333) (by decide +kernel) (by decide +kernel), TB_of (w := Cond.instanceMethod yX8_isFull) (i := 334) (by decide +kernel) (by decide +kernel), TB_of (w := Cond.selects RX8 yX8_isFull yX8_isFull) (i := 335) (by decide +kernel) (by decide +kernel), by decide +kernel, TX8, 7, rfl⟩
theorem lX9_84 : LkV RX9 84 mX8_add 1 8 := ⟨TB_of (w := Cond.methodLink RX9 84 yX8_add) (i := 337) (by decide +kernel) (by decide +kernel), TB_of (w := Cond.instanceMethod yX8_add) (i := 338) (by decide +kernel) (by decide +kernel), TB_of (w := Cond.selects RX8 yX8_add yX8_add) (i := 339) (by decide +kernel) (by decide +kernel), by decide +kernel, TX8, 7, rfl⟩
theorem lX8_29 : LkV RX8 29 mX8_isFull 0 8 := ⟨TB_of (w := Cond.methodLink RX8 29 yX8_isFull) (i := 341) (by decide +kernel) (by decide +kernel), TB_of (w := Cond.instanceMethod yX8_isFull) (i := 334) (by decide +kernel) (by decide +kernel), TB_of (w := Cond.selects RX8 yX8_isFull yX8_isFull) (i := 335) (by decide +kernel) (by decide +kernel), by decide +kernel, TX8, 7, rfl⟩
theorem lX9_88 : LkV RX9 88 mX8_length 0 8 := ⟨TB_of (w := Cond.methodLink RX9 88 yX8_length) (i := 342) (by decide +kernel) (by decide +kernel), TB_of (w := Cond.instanceMethod yX8_length) (i := 343) (by decide +kernel) (by decide +kernel), TB_of (w := Cond.selects RX8 yX8_length yX8_length) (i := 344) (by decide +kernel) (by decide +kernel), by decide +kernel, TX8, 7, rfl⟩
theorem lL_18 : LkV "SliceSolverLaw" 18 mX9_clearText 0 9 := ⟨TB_of (w := Cond.methodLink "SliceSolverLaw" 18 yX9_clearText) (i := 346) (by decide +kernel) (by decide +kernel), TB_of (w := Cond.instanceMethod yX9_clearText) (i := 347) (by decide +kernel) (by decide +kernel), TB_of (w := Cond.selects RX9 yX9_clearText yX9_clearText) (i := 348) (by decide +kernel) (by decide +kernel), by decide +kernel, TX9, 13, rfl⟩
theorem lX9_92 : LkV RX9 92 mX8_clear 0 8 := ⟨TB_of (w := Cond.methodLink RX9 92 yX8_clear) (i := 350) (by decide +kernel) (by decide +kernel), TB_of (w := Cond.instanceMethod yX8_clear) (i := 351) (by decide +kernel) (by decide +kernel), TB_of (w := Cond.selects RX8 yX8_clear yX8_clear) (i := 352) (by decide +kernel) (by decide +kernel), by decide +kernel, TX8, 7, rfl⟩
theorem lL_23 : LkV "SliceSolverLaw" 23 mX9_load 0 9 := ⟨TB_of (w := Cond.methodLink "SliceSolverLaw" 23 yX9_load) (i := 354) (by decide +kernel) (by decide +kernel), TB_of (w := Cond.instanceMethod yX9_load) (i := 355) (by decide +kernel) (by decide +kernel), TB_of (w := Cond.selects RX9 yX9_load yX9_load) (i := 356) (by decide +kernel) (by decide +kernel), by decide +kernel, TX9, 13, rfl⟩
theorem lX9_95 : LkV RX9 95 mX5_read 1 5 := ⟨TB_of (w := Cond.methodLink RX9 95 yX5_read) (i := 358) (by decide +kernel) (by decide +kernel), TB_of (w := Cond.instanceMethod yX5_read) (i := 359) (by decide +kernel) (by decide +kernel), TB_of (w := Cond.selects RX5 yX5_read yX5_read) (i := 360) (by decide +kernel) (by decide +kernel), by decide +kernel, TX5, 4, rfl⟩
theorem lX5_22 : LkV RX5 22 mX4_clear 0 4 := ⟨TB_of (w := Cond.methodLink RX5 22 yX4_clear) (i := 362) (by decide +kernel) (by decide +kernel), TB_of (w := Cond.instanceMethod yX4_clear) (i := 363) (by decide +kernel) (by decide +kernel), TB_of (w := Cond.selects RX4 yX4_clear yX4_clear) (i := 364) (by decide +kernel) (by decide +kernel), by decide +kernel, TX4, 3, rfl⟩
theorem lX4_35 : LkS RX4 35 mJ7_fill_53178 2 := ⟨TB_of (w := Cond.methodLink RX4 35 yJ7_fill_53178) (i := 366) (by decide +kernel) (by decide +kernel), TB_of (w := Cond.static yJ7_fill_53178) (i := 254) (by decide +kernel) (by decide +kernel), by decide +kernel⟩
theorem lX4_41 : LkV RX4 41 mX6_clear 0 6 := ⟨TB_of (w := Cond.methodLink RX4 41 yX6_clear) (i := 367) (by decide +kernel) (by decide +kernel), TB_of (w := Cond.instanceMethod yX6_clear) (i := 368) (by decide +kernel) (by decide +kernel), TB_of (w := Cond.selects RX6 yX6_clear yX6_clear) (i := 369) (by decide +kernel) (by decide +kernel), by decide +kernel, TX6, 5, rfl⟩
theorem lX5_27 : LkV RX5 27 mX8_split 0 8 := ⟨TB_of (w := Cond.methodLink RX5 27 yX8_split) (i := 371) (by decide +kernel) (by decide +kernel), TB_of (w := Cond.instanceMethod yX8_split) (i := 372) (by decide +kernel) (by decide +kernel), TB_of (w := Cond.selects RX8 yX8_split yX8_split) (i := 373) (by decide +kernel) (by decide +kernel), by decide +kernel, TX8, 7, rfl⟩
theorem lX8_39 : LkS RX8 39 mX8_kindOfSign 1 := ⟨TB_of (w := Cond.methodLink RX8 39 yX8_kindOfSign) (i := 375) (by decide +kernel) (by decide +kernel), TB_of (w := Cond.static yX8_kindOfSign) (i := 376) (by decide +kernel) (by decide +kernel), by decide +kernel⟩
theorem lX8_43 : LkV RX8 43 mX8_kindOfWord 2 8 := ⟨TB_of (w := Cond.methodLink RX8 43 yX8_kindOfWord) (i := 378) (by decide +kernel) (by decide +kernel), TB_of (w := Cond.instanceMethod yX8_kindOfWord) (i := 380) (by decide +kernel) (by decide +kernel), TB_of (w := Cond.selects RX8 yX8_kindOfWord yX8_kindOfWord) (i := 0) (by decide +kernel) (by decide +kernel), by decide +kernel, TX8, 7, rfl⟩
theorem lX8_49 : LkV RX8 49 mX8_isWord 3 8 := ⟨TB_of (w := Cond.methodLink RX8 49 yX8_isWord) (i := 383) (by decide +kernel) (by decide +kernel), TB_of (w := Cond.instanceMethod yX8_isWord) (i := 385) (by decide +kernel) (by decide +kernel), TB_of (w := Cond.selects RX8 yX8_isWord yX8_isWord) (i := 1) (by decide +kernel) (by decide +kernel), by decide +kernel, TX8, 7, rfl⟩
theorem lJ0_495 : LkS RJ0 495 mJ1_charAt_3b067 2 := ⟨TB_of (w := Cond.methodLink RJ0 495 yJ1_charAt_3b067) (i := 405) (by decide +kernel) (by decide +kernel), TB_of (w := Cond.static yJ1_charAt_3b067) (i := 406) (by decide +kernel) (by decide +kernel), by decide +kernel⟩
theorem lJ1_9 : LkS RJ1 9 mJ0_checkIndex_df160 2 := ⟨TB_of (w := Cond.methodLink RJ1 9 yJ0_checkIndex_df160) (i := 408) (by decide +kernel) (by decide +kernel), TB_of (w := Cond.static yJ0_checkIndex_df160) (i := 409) (by decide +kernel) (by decide +kernel), by decide +kernel⟩
theorem lJ0_1059 : LkS RJ0 1059 mJ3_checkIndex_8e157 3 := ⟨TB_of (w := Cond.methodLink RJ0 1059 yJ3_checkIndex_8e157) (i := 413) (by decide +kernel) (by decide +kernel), TB_of (w := Cond.static yJ3_checkIndex_8e157) (i := 414) (by decide +kernel) (by decide +kernel), by decide +kernel⟩
theorem lJ0_498 : LkS RJ0 498 mJ2_charAt_3b067 2 := ⟨TB_of (w := Cond.methodLink RJ0 498 yJ2_charAt_3b067) (i := 416) (by decide +kernel) (by decide +kernel), TB_of (w := Cond.static yJ2_charAt_3b067) (i := 417) (by decide +kernel) (by decide +kernel), by decide +kernel⟩
theorem lJ2_67 : LkS RJ2 67 mJ2_checkIndex_2214a 2 := ⟨TB_of (w := Cond.methodLink RJ2 67 yJ2_checkIndex_2214a) (i := 419) (by decide +kernel) (by decide +kernel), TB_of (w := Cond.static yJ2_checkIndex_2214a) (i := 420) (by decide +kernel) (by decide +kernel), by decide +kernel⟩
theorem lJ2_48 : LkS RJ2 48 mJ2_length_9d52b 1 := ⟨TB_of (w := Cond.methodLink RJ2 48 yJ2_length_9d52b) (i := 422) (by decide +kernel) (by decide +kernel), TB_of (w := Cond.static yJ2_length_9d52b) (i := 423) (by decide +kernel) (by decide +kernel), by decide +kernel⟩
theorem lJ2_414 : LkS RJ2 414 mJ0_checkIndex_df160 2 := ⟨TB_of (w := Cond.methodLink RJ2 414 yJ0_checkIndex_df160) (i := 425) (by decide +kernel) (by decide +kernel), TB_of (w := Cond.static yJ0_checkIndex_df160) (i := 409) (by decide +kernel) (by decide +kernel), by decide +kernel⟩
theorem lJ2_71 : LkS RJ2 71 mJ2_getChar_3b067 2 := ⟨TB_of (w := Cond.methodLink RJ2 71 yJ2_getChar_3b067) (i := 426) (by decide +kernel) (by decide +kernel), TB_of (w := Cond.static yJ2_getChar_3b067) (i := 427) (by decide +kernel) (by decide +kernel), by decide +kernel⟩
theorem lX5_32 : LkV RX5 32 mX8_kind 0 8 := ⟨TB_of (w := Cond.methodLink RX5 32 yX8_kind) (i := 436) (by decide +kernel) (by decide +kernel), TB_of (w := Cond.instanceMethod yX8_kind) (i := 437) (by decide +kernel) (by decide +kernel), TB_of (w := Cond.selects RX8 yX8_kind yX8_kind) (i := 438) (by decide +kernel) (by decide +kernel), by decide +kernel, TX8, 7, rfl⟩
theorem lX5_36 : LkV RX5 36 mX8_pass 1 8 := ⟨TB_of (w := Cond.methodLink RX5 36 yX8_pass) (i := 440) (by decide +kernel) (by decide +kernel), TB_of (w := Cond.instanceMethod yX8_pass) (i := 441) (by decide +kernel) (by decide +kernel), TB_of (w := Cond.selects RX8 yX8_pass yX8_pass) (i := 442) (by decide +kernel) (by decide +kernel), by decide +kernel, TX8, 7, rfl⟩
theorem lX5_40 : LkV RX5 40 mX5_readDeclaration 1 5 := ⟨TB_of (w := Cond.methodLink RX5 40 yX5_readDeclaration) (i := 444) (by decide +kernel) (by decide +kernel), TB_of (w := Cond.instanceMethod yX5_readDeclaration) (i := 446) (by decide +kernel) (by decide +kernel), TB_of (w := Cond.selects RX5 yX5_readDeclaration yX5_readDeclaration) (i := 2) (by decide +kernel) (by decide +kernel), by decide +kernel, TX5, 4, rfl⟩
theorem lX5_50 : LkV RX5 50 mX8_name 0 8 := ⟨TB_of (w := Cond.methodLink RX5 50 yX8_name) (i := 448) (by decide +kernel) (by decide +kernel), TB_of (w := Cond.instanceMethod yX8_name) (i := 449) (by decide +kernel) (by decide +kernel), TB_of (w := Cond.selects RX8 yX8_name yX8_name) (i := 450) (by decide +kernel) (by decide +kernel), by decide +kernel, TX8, 7, rfl⟩
theorem lX5_53 : LkV RX5 53 mX4_widthOf 1 4 := ⟨TB_of (w := Cond.methodLink RX5 53 yX4_widthOf) (i := 452) (by decide +kernel) (by decide +kernel), TB_of (w := Cond.instanceMethod yX4_widthOf) (i := 453) (by decide +kernel) (by decide +kernel), TB_of (w := Cond.selects RX4 yX4_widthOf yX4_widthOf) (i := 454) (by decide +kernel) (by decide +kernel), by decide +kernel, TX4, 3, rfl⟩
theorem lX5_57 : LkV RX5 57 mX8_advance 0 8 := ⟨TB_of (w := Cond.methodLink RX5 57 yX8_advance) (i := 459) (by decide +kernel) (by decide +kernel), TB_of (w := Cond.instanceMethod yX8_advance) (i := 460) (by decide +kernel) (by decide +kernel), TB_of (w := Cond.selects RX8 yX8_advance yX8_advance) (i := 461) (by decide +kernel) (by decide +kernel), by decide +kernel, TX8, 7, rfl⟩
theorem lX5_60 : LkV RX5 60 mX8_number 0 8 := ⟨TB_of (w := Cond.methodLink RX5 60 yX8_number) (i := 463) (by decide +kernel) (by decide +kernel), TB_of (w := Cond.instanceMethod yX8_number) (i := 464) (by decide +kernel) (by decide +kernel), TB_of (w := Cond.selects RX8 yX8_number yX8_number) (i := 465) (by decide +kernel) (by decide +kernel), by decide +kernel, TX8, 7, rfl⟩
theorem lX5_63 : LkV RX5 63 mX4_declare 2 4 := ⟨TB_of (w := Cond.methodLink RX5 63 yX4_declare) (i := 467) (by decide +kernel) (by decide +kernel), TB_of (w := Cond.instanceMethod yX4_declare) (i := 468) (by decide +kernel) (by decide +kernel), TB_of (w := Cond.selects RX4 yX4_declare yX4_declare) (i := 469) (by decide +kernel) (by decide +kernel), by decide +kernel, TX4, 3, rfl⟩
theorem lX5_44 : LkV RX5 44 mX5_readStatement 1 5 := ⟨TB_of (w := Cond.methodLink RX5 44 yX5_readStatement) (i := 471) (by decide +kernel) (by decide +kernel), TB_of (w := Cond.instanceMethod yX5_readStatement) (i := 473) (by decide +kernel) (by decide +kernel), TB_of (w := Cond.selects RX5 yX5_readStatement yX5_readStatement) (i := 3) (by decide +kernel) (by decide +kernel), by decide +kernel, TX5, 4, rfl⟩
theorem lX5_74 : LkV RX5 74 mX6_isFull 0 6 := ⟨TB_of (w := Cond.methodLink RX5 74 yX6_isFull) (i := 475) (by decide +kernel) (by decide +kernel), TB_of (w := Cond.instanceMethod yX6_isFull) (i := 476) (by decide +kernel) (by decide +kernel), TB_of (w := Cond.selects RX6 yX6_isFull yX6_isFull) (i := 477) (by decide +kernel) (by decide +kernel), by decide +kernel, TX6, 5, rfl⟩
theorem lX5_80 : LkV RX5 80 mX5_readTerm 1 5 := ⟨TB_of (w := Cond.methodLink RX5 80 yX5_readTerm) (i := 479) (by decide +kernel) (by decide +kernel), TB_of (w := Cond.instanceMethod yX5_readTerm) (i := 481) (by decide +kernel) (by decide +kernel), TB_of (w := Cond.selects RX5 yX5_readTerm yX5_readTerm) (i := 4) (by decide +kernel) (by decide +kernel), by decide +kernel, TX5, 4, rfl⟩
theorem lX5_94 : LkV RX5 94 mX7_clear 0 7 := ⟨TB_of (w := Cond.methodLink RX5 94 yX7_clear) (i := 483) (by decide +kernel) (by decide +kernel), TB_of (w := Cond.instanceMethod yX7_clear) (i := 484) (by decide +kernel) (by decide +kernel), TB_of (w := Cond.selects RX7 yX7_clear yX7_clear) (i := 485) (by decide +kernel) (by decide +kernel), by decide +kernel, TX7, 3, rfl⟩
theorem lX5_95 : LkV RX5 95 mX5_readPart 1 5 := ⟨TB_of (w := Cond.methodLink RX5 95 yX5_readPart) (i := 487) (by decide +kernel) (by decide +kernel), TB_of (w := Cond.instanceMethod yX5_readPart) (i := 489) (by decide +kernel) (by decide +kernel), TB_of (w := Cond.selects RX5 yX5_readPart yX5_readPart) (i := 5) (by decide +kernel) (by decide +kernel), by decide +kernel, TX5, 4, rfl⟩
theorem lX5_98 : LkV RX5 98 mX5_readConstant 0 5 := ⟨TB_of (w := Cond.methodLink RX5 98 yX5_readConstant) (i := 491) (by decide +kernel) (by decide +kernel), TB_of (w := Cond.instanceMethod yX5_readConstant) (i := 493) (by decide +kernel) (by decide +kernel), TB_of (w := Cond.selects RX5 yX5_readConstant yX5_readConstant) (i := 6) (by decide +kernel) (by decide +kernel), by decide +kernel, TX5, 4, rfl⟩
theorem lX5_118 : LkV RX5 118 mX8_constantBits 0 8 := ⟨TB_of (w := Cond.methodLink RX5 118 yX8_constantBits) (i := 495) (by decide +kernel) (by decide +kernel), TB_of (w := Cond.instanceMethod yX8_constantBits) (i := 496) (by decide +kernel) (by decide +kernel), TB_of (w := Cond.selects RX8 yX8_constantBits yX8_constantBits) (i := 497) (by decide +kernel) (by decide +kernel), by decide +kernel, TX8, 7, rfl⟩
theorem lX5_121 : LkV RX5 121 mX7_beginPart 0 7 := ⟨TB_of (w := Cond.methodLink RX5 121 yX7_beginPart) (i := 499) (by decide +kernel) (by decide +kernel), TB_of (w := Cond.instanceMethod yX7_beginPart) (i := 500) (by decide +kernel) (by decide +kernel), TB_of (w := Cond.selects RX7 yX7_beginPart yX7_beginPart) (i := 501) (by decide +kernel) (by decide +kernel), by decide +kernel, TX7, 3, rfl⟩
theorem lX5_124 : LkV RX5 124 mX8_constantBit 1 8 := ⟨TB_of (w := Cond.methodLink RX5 124 yX8_constantBit) (i := 503) (by decide +kernel) (by decide +kernel), TB_of (w := Cond.instanceMethod yX8_constantBit) (i := 504) (by decide +kernel) (by decide +kernel), TB_of (w := Cond.selects RX8 yX8_constantBit yX8_constantBit) (i := 505) (by decide +kernel) (by decide +kernel), by decide +kernel, TX8, 7, rfl⟩
theorem lX5_127 : LkV RX5 127 mX7_add 1 7 := ⟨TB_of (w := Cond.methodLink RX5 127 yX7_add) (i := 507) (by decide +kernel) (by decide +kernel), TB_of (w := Cond.instanceMethod yX7_add) (i := 508) (by decide +kernel) (by decide +kernel), TB_of (w := Cond.selects RX7 yX7_add yX7_add) (i := 509) (by decide +kernel) (by decide +kernel), by decide +kernel, TX7, 3, rfl⟩
theorem lX5_108 : LkV RX5 108 mX5_readRange 0 5 := ⟨TB_of (w := Cond.methodLink RX5 108 yX5_readRange) (i := 511) (by decide +kernel) (by decide +kernel), TB_of (w := Cond.instanceMethod yX5_readRange) (i := 513) (by decide +kernel) (by decide +kernel), TB_of (w := Cond.selects RX5 yX5_readRange yX5_readRange) (i := 7) (by decide +kernel) (by decide +kernel), by decide +kernel, TX5, 4, rfl⟩
theorem lX5_115 : LkV RX5 115 mX7_addRange 2 7 := ⟨TB_of (w := Cond.methodLink RX5 115 yX7_addRange) (i := 518) (by decide +kernel) (by decide +kernel), TB_of (w := Cond.instanceMethod yX7_addRange) (i := 519) (by decide +kernel) (by decide +kernel), TB_of (w := Cond.selects RX7 yX7_addRange yX7_addRange) (i := 520) (by decide +kernel) (by decide +kernel), by decide +kernel, TX7, 3, rfl⟩
theorem lX7_22 : LkV RX7 22 mX7_beginPart 0 7 := ⟨TB_of (w := Cond.methodLink RX7 22 yX7_beginPart) (i := 522) (by decide +kernel) (by decide +kernel), TB_of (w := Cond.instanceMethod yX7_beginPart) (i := 500) (by decide +kernel) (by decide +kernel), TB_of (w := Cond.selects RX7 yX7_beginPart yX7_beginPart) (i := 501) (by decide +kernel) (by decide +kernel), by decide +kernel, TX7, 3, rfl⟩
theorem lX7_25 : LkV RX7 25 mX7_add 1 7 := ⟨TB_of (w := Cond.methodLink RX7 25 yX7_add) (i := 523) (by decide +kernel) (by decide +kernel), TB_of (w := Cond.instanceMethod yX7_add) (i := 508) (by decide +kernel) (by decide +kernel), TB_of (w := Cond.selects RX7 yX7_add yX7_add) (i := 509) (by decide +kernel) (by decide +kernel), by decide +kernel, TX7, 3, rfl⟩
theorem lX5_83 : LkV RX5 83 mX7_bitCount 0 7 := ⟨TB_of (w := Cond.methodLink RX5 83 yX7_bitCount) (i := 524) (by decide +kernel) (by decide +kernel), TB_of (w := Cond.instanceMethod yX7_bitCount) (i := 525) (by decide +kernel) (by decide +kernel), TB_of (w := Cond.selects RX7 yX7_bitCount yX7_bitCount) (i := 526) (by decide +kernel) (by decide +kernel), by decide +kernel, TX7, 3, rfl⟩
theorem lX5_86 : LkV RX5 86 mX6_putTerm 2 6 := ⟨TB_of (w := Cond.methodLink RX5 86 yX6_putTerm) (i := 528) (by decide +kernel) (by decide +kernel), TB_of (w := Cond.instanceMethod yX6_putTerm) (i := 529) (by decide +kernel) (by decide +kernel), TB_of (w := Cond.selects RX6 yX6_putTerm yX6_putTerm) (i := 530) (by decide +kernel) (by decide +kernel), by decide +kernel, TX6, 5, rfl⟩
theorem lX6_38 : LkV RX6 38 mX6_isFull 0 6 := ⟨TB_of (w := Cond.methodLink RX6 38 yX6_isFull) (i := 532) (by decide +kernel) (by decide +kernel), TB_of (w := Cond.instanceMethod yX6_isFull) (i := 476) (by decide +kernel) (by decide +kernel), TB_of (w := Cond.selects RX6 yX6_isFull yX6_isFull) (i := 477) (by decide +kernel) (by decide +kernel), by decide +kernel, TX6, 5, rfl⟩
theorem lX6_42 : LkV RX6 42 mX7_bitCount 0 7 := ⟨TB_of (w := Cond.methodLink RX6 42 yX7_bitCount) (i := 533) (by decide +kernel) (by decide +kernel), TB_of (w := Cond.instanceMethod yX7_bitCount) (i := 525) (by decide +kernel) (by decide +kernel), TB_of (w := Cond.selects RX7 yX7_bitCount yX7_bitCount) (i := 526) (by decide +kernel) (by decide +kernel), by decide +kernel, TX7, 3, rfl⟩
theorem lX6_48 : LkV RX6 48 mX7_node 1 7 := ⟨TB_of (w := Cond.methodLink RX6 48 yX7_node) (i := 534) (by decide +kernel) (by decide +kernel), TB_of (w := Cond.instanceMethod yX7_node) (i := 535) (by decide +kernel) (by decide +kernel), TB_of (w := Cond.selects RX7 yX7_node yX7_node) (i := 536) (by decide +kernel) (by decide +kernel), by decide +kernel, TX7, 3, rfl⟩
theorem lX6_52 : LkV RX6 52 mX7_partBeginsAt 1 7 := ⟨TB_of (w := Cond.methodLink RX6 52 yX7_partBeginsAt) (i := 538) (by decide +kernel) (by decide +kernel), TB_of (w := Cond.instanceMethod yX7_partBeginsAt) (i := 539) (by decide +kernel) (by decide +kernel), TB_of (w := Cond.selects RX7 yX7_partBeginsAt yX7_partBeginsAt) (i := 540) (by decide +kernel) (by decide +kernel), by decide +kernel, TX7, 3, rfl⟩
theorem lX5_90 : LkV RX5 90 mX6_finish 1 6 := ⟨TB_of (w := Cond.methodLink RX5 90 yX6_finish) (i := 542) (by decide +kernel) (by decide +kernel), TB_of (w := Cond.instanceMethod yX6_finish) (i := 543) (by decide +kernel) (by decide +kernel), TB_of (w := Cond.selects RX6 yX6_finish yX6_finish) (i := 544) (by decide +kernel) (by decide +kernel), by decide +kernel, TX6, 5, rfl⟩
theorem lX5_47 : LkV RX5 47 mX8_start 0 8 := ⟨TB_of (w := Cond.methodLink RX5 47 yX8_start) (i := 546) (by decide +kernel) (by decide +kernel), TB_of (w := Cond.instanceMethod yX8_start) (i := 547) (by decide +kernel) (by decide +kernel), TB_of (w := Cond.selects RX8 yX8_start yX8_start) (i := 548) (by decide +kernel) (by decide +kernel), by decide +kernel, TX8, 7, rfl⟩
theorem lX9_99 : LkV RX9 99 mX2_push 1 2 := ⟨TB_of (w := Cond.methodLink RX9 99 yX2_push) (i := 550) (by decide +kernel) (by decide +kernel), TB_of (w := Cond.instanceMethod yX2_push) (i := 551) (by decide +kernel) (by decide +kernel), TB_of (w := Cond.selects RX2 yX2_push yX2_push) (i := 552) (by decide +kernel) (by decide +kernel), by decide +kernel, TX2, 2, rfl⟩
theorem lX2_22 : LkV RX2 22 mX2_forgetOldest 0 2 := ⟨TB_of (w := Cond.methodLink RX2 22 yX2_forgetOldest) (i := 554) (by decide +kernel) (by decide +kernel), TB_of (w := Cond.instanceMethod yX2_forgetOldest) (i := 556) (by decide +kernel) (by decide +kernel), TB_of (w := Cond.selects RX2 yX2_forgetOldest yX2_forgetOldest) (i := 8) (by decide +kernel) (by decide +kernel), by decide +kernel, TX2, 2, rfl⟩
theorem lX2_25 : LkV RX2 25 mX4_copyFrom 1 4 := ⟨TB_of (w := Cond.methodLink RX2 25 yX4_copyFrom) (i := 558) (by decide +kernel) (by decide +kernel), TB_of (w := Cond.instanceMethod yX4_copyFrom) (i := 559) (by decide +kernel) (by decide +kernel), TB_of (w := Cond.selects RX4 yX4_copyFrom yX4_copyFrom) (i := 560) (by decide +kernel) (by decide +kernel), by decide +kernel, TX4, 3, rfl⟩
theorem lX4_50 : LkV RX4 50 mX6_copyFrom 1 6 := ⟨TB_of (w := Cond.methodLink RX4 50 yX6_copyFrom) (i := 565) (by decide +kernel) (by decide +kernel), TB_of (w := Cond.instanceMethod yX6_copyFrom) (i := 566) (by decide +kernel) (by decide +kernel), TB_of (w := Cond.selects RX6 yX6_copyFrom yX6_copyFrom) (i := 567) (by decide +kernel) (by decide +kernel), by decide +kernel, TX6, 5, rfl⟩
theorem lX6_58 : LkV RX6 58 mX6_move 4 6 := ⟨TB_of (w := Cond.methodLink RX6 58 yX6_move) (i := 572) (by decide +kernel) (by decide +kernel), TB_of (w := Cond.instanceMethod yX6_move) (i := 574) (by decide +kernel) (by decide +kernel), TB_of (w := Cond.selects RX6 yX6_move yX6_move) (i := 9) (by decide +kernel) (by decide +kernel), by decide +kernel, TX6, 5, rfl⟩
theorem lX9_103 : LkV RX9 103 mX4_copyFrom 1 4 := ⟨TB_of (w := Cond.methodLink RX9 103 yX4_copyFrom) (i := 577) (by decide +kernel) (by decide +kernel), TB_of (w := Cond.instanceMethod yX4_copyFrom) (i := 559) (by decide +kernel) (by decide +kernel), TB_of (w := Cond.selects RX4 yX4_copyFrom yX4_copyFrom) (i := 560) (by decide +kernel) (by decide +kernel), by decide +kernel, TX4, 3, rfl⟩
theorem lX9_106 : LkV RX9 106 mX9_slice 0 9 := ⟨TB_of (w := Cond.methodLink RX9 106 yX9_slice) (i := 578) (by decide +kernel) (by decide +kernel), TB_of (w := Cond.instanceMethod yX9_slice) (i := 580) (by decide +kernel) (by decide +kernel), TB_of (w := Cond.selects RX9 yX9_slice yX9_slice) (i := 10) (by decide +kernel) (by decide +kernel), by decide +kernel, TX9, 13, rfl⟩
theorem lX9_206 : LkV RX9 206 mX1_cut 1 1 := ⟨TB_of (w := Cond.methodLink RX9 206 yX1_cut) (i := 582) (by decide +kernel) (by decide +kernel), TB_of (w := Cond.instanceMethod yX1_cut) (i := 583) (by decide +kernel) (by decide +kernel), TB_of (w := Cond.selects RX1 yX1_cut yX1_cut) (i := 584) (by decide +kernel) (by decide +kernel), by decide +kernel, TX1, 1, rfl⟩
theorem lX1_21 : LkS RX1 21 mJ7_fill_53178 2 := ⟨TB_of (w := Cond.methodLink RX1 21 yJ7_fill_53178) (i := 586) (by decide +kernel) (by decide +kernel), TB_of (w := Cond.static yJ7_fill_53178) (i := 254) (by decide +kernel) (by decide +kernel), by decide +kernel⟩
theorem lX1_33 : LkV RX1 33 mX6_count 0 6 := ⟨TB_of (w := Cond.methodLink RX1 33 yX6_count) (i := 587) (by decide +kernel) (by decide +kernel), TB_of (w := Cond.instanceMethod yX6_count) (i := 588) (by decide +kernel) (by decide +kernel), TB_of (w := Cond.selects RX6 yX6_count yX6_count) (i := 589) (by decide +kernel) (by decide +kernel), by decide +kernel, TX6, 5, rfl⟩
theorem lX1_39 : LkV RX1 39 mX1_cutAroundParts 3 1 := ⟨TB_of (w := Cond.methodLink RX1 39 yX1_cutAroundParts) (i := 591) (by decide +kernel) (by decide +kernel), TB_of (w := Cond.instanceMethod yX1_cutAroundParts) (i := 593) (by decide +kernel) (by decide +kernel), TB_of (w := Cond.selects RX1 yX1_cutAroundParts yX1_cutAroundParts) (i := 11) (by decide +kernel) (by decide +kernel), by decide +kernel, TX1, 1, rfl⟩
theorem lX1_47 : LkV RX1 47 mX6_widthOf 1 6 := ⟨TB_of (w := Cond.methodLink RX1 47 yX6_widthOf) (i := 595) (by decide +kernel) (by decide +kernel), TB_of (w := Cond.instanceMethod yX6_widthOf) (i := 596) (by decide +kernel) (by decide +kernel), TB_of (w := Cond.selects RX6 yX6_widthOf yX6_widthOf) (i := 597) (by decide +kernel) (by decide +kernel), by decide +kernel, TX6, 5, rfl⟩
theorem lX6_34 : LkV RX6 34 mX6_has 1 6 := ⟨TB_of (w := Cond.methodLink RX6 34 yX6_has) (i := 599) (by decide +kernel) (by decide +kernel), TB_of (w := Cond.instanceMethod yX6_has) (i := 600) (by decide +kernel) (by decide +kernel), TB_of (w := Cond.selects RX6 yX6_has yX6_has) (i := 601) (by decide +kernel) (by decide +kernel), by decide +kernel, TX6, 5, rfl⟩
theorem lX1_50 : LkV RX1 50 mX6_node 3 6 := ⟨TB_of (w := Cond.methodLink RX1 50 yX6_node) (i := 603) (by decide +kernel) (by decide +kernel), TB_of (w := Cond.instanceMethod yX6_node) (i := 604) (by decide +kernel) (by decide +kernel), TB_of (w := Cond.selects RX6 yX6_node yX6_node) (i := 605) (by decide +kernel) (by decide +kernel), by decide +kernel, TX6, 5, rfl⟩
theorem lX1_58 : LkV RX1 58 mX6_partEndsAt 3 6 := ⟨TB_of (w := Cond.methodLink RX1 58 yX6_partEndsAt) (i := 610) (by decide +kernel) (by decide +kernel), TB_of (w := Cond.instanceMethod yX6_partEndsAt) (i := 611) (by decide +kernel) (by decide +kernel), TB_of (w := Cond.selects RX6 yX6_partEndsAt yX6_partEndsAt) (i := 612) (by decide +kernel) (by decide +kernel), by decide +kernel, TX6, 5, rfl⟩
theorem lX1_68 : LkV RX1 68 mX1_cutBelow 3 1 := ⟨TB_of (w := Cond.methodLink RX1 68 yX1_cutBelow) (i := 620) (by decide +kernel) (by decide +kernel), TB_of (w := Cond.instanceMethod yX1_cutBelow) (i := 622) (by decide +kernel) (by decide +kernel), TB_of (w := Cond.selects RX1 yX1_cutBelow yX1_cutBelow) (i := 12) (by decide +kernel) (by decide +kernel), by decide +kernel, TX1, 1, rfl⟩
theorem lX1_71 : LkV RX1 71 mX4_widthOf 1 4 := ⟨TB_of (w := Cond.methodLink RX1 71 yX4_widthOf) (i := 624) (by decide +kernel) (by decide +kernel), TB_of (w := Cond.instanceMethod yX4_widthOf) (i := 453) (by decide +kernel) (by decide +kernel), TB_of (w := Cond.selects RX4 yX4_widthOf yX4_widthOf) (i := 454) (by decide +kernel) (by decide +kernel), by decide +kernel, TX4, 3, rfl⟩
theorem lX1_43 : LkV RX1 43 mX1_spread 4 1 := ⟨TB_of (w := Cond.methodLink RX1 43 yX1_spread) (i := 625) (by decide +kernel) (by decide +kernel), TB_of (w := Cond.instanceMethod yX1_spread) (i := 627) (by decide +kernel) (by decide +kernel), TB_of (w := Cond.selects RX1 yX1_spread yX1_spread) (i := 13) (by decide +kernel) (by decide +kernel), by decide +kernel, TX1, 1, rfl⟩
theorem lX1_72 : LkV RX1 72 mX1_isCut 1 1 := ⟨TB_of (w := Cond.methodLink RX1 72 yX1_isCut) (i := 629) (by decide +kernel) (by decide +kernel), TB_of (w := Cond.instanceMethod yX1_isCut) (i := 631) (by decide +kernel) (by decide +kernel), TB_of (w := Cond.selects RX1 yX1_isCut yX1_isCut) (i := 14) (by decide +kernel) (by decide +kernel), by decide +kernel, TX1, 1, rfl⟩
theorem lX1_75 : LkV RX1 75 mX1_isMarked 4 1 := ⟨TB_of (w := Cond.methodLink RX1 75 yX1_isMarked) (i := 633) (by decide +kernel) (by decide +kernel), TB_of (w := Cond.instanceMethod yX1_isMarked) (i := 635) (by decide +kernel) (by decide +kernel), TB_of (w := Cond.selects RX1 yX1_isMarked yX1_isMarked) (i := 15) (by decide +kernel) (by decide +kernel), by decide +kernel, TX1, 1, rfl⟩
theorem lX9_168 : LkV RX9 168 mX0_clear 0 0 := ⟨TB_of (w := Cond.methodLink RX9 168 yX0_clear) (i := 637) (by decide +kernel) (by decide +kernel), TB_of (w := Cond.instanceMethod yX0_clear) (i := 250) (by decide +kernel) (by decide +kernel), TB_of (w := Cond.selects RX0 yX0_clear yX0_clear) (i := 251) (by decide +kernel) (by decide +kernel), by decide +kernel, TX0, 3, rfl⟩
theorem lX9_126 : LkV RX9 126 mX6_count 0 6 := ⟨TB_of (w := Cond.methodLink RX9 126 yX6_count) (i := 638) (by decide +kernel) (by decide +kernel), TB_of (w := Cond.instanceMethod yX6_count) (i := 588) (by decide +kernel) (by decide +kernel), TB_of (w := Cond.selects RX6 yX6_count yX6_count) (i := 589) (by decide +kernel) (by decide +kernel), by decide +kernel, TX6, 5, rfl⟩
theorem lX9_169 : LkV RX9 169 mX0_equate 2 0 := ⟨TB_of (w := Cond.methodLink RX9 169 yX0_equate) (i := 639) (by decide +kernel) (by decide +kernel), TB_of (w := Cond.instanceMethod yX0_equate) (i := 640) (by decide +kernel) (by decide +kernel), TB_of (w := Cond.selects RX0 yX0_equate yX0_equate) (i := 641) (by decide +kernel) (by decide +kernel), by decide +kernel, TX0, 3, rfl⟩
theorem lX0_39 : LkV RX0 39 mX6_widthOf 1 6 := ⟨TB_of (w := Cond.methodLink RX0 39 yX6_widthOf) (i := 643) (by decide +kernel) (by decide +kernel), TB_of (w := Cond.instanceMethod yX6_widthOf) (i := 596) (by decide +kernel) (by decide +kernel), TB_of (w := Cond.selects RX6 yX6_widthOf yX6_widthOf) (i := 597) (by decide +kernel) (by decide +kernel), by decide +kernel, TX6, 5, rfl⟩
theorem lX0_44 : LkV RX0 44 mX6_node 3 6 := ⟨TB_of (w := Cond.methodLink RX0 44 yX6_node) (i := 644) (by decide +kernel) (by decide +kernel), TB_of (w := Cond.instanceMethod yX6_node) (i := 604) (by decide +kernel) (by decide +kernel), TB_of (w := Cond.selects RX6 yX6_node yX6_node) (i := 605) (by decide +kernel) (by decide +kernel), by decide +kernel, TX6, 5, rfl⟩
theorem lX0_48 : LkV RX0 48 mX0_join 2 0 := ⟨TB_of (w := Cond.methodLink RX0 48 yX0_join) (i := 645) (by decide +kernel) (by decide +kernel), TB_of (w := Cond.instanceMethod yX0_join) (i := 647) (by decide +kernel) (by decide +kernel), TB_of (w := Cond.selects RX0 yX0_join yX0_join) (i := 16) (by decide +kernel) (by decide +kernel), by decide +kernel, TX0, 3, rfl⟩
theorem lX0_35 : LkV RX0 35 mX0_rootOf 1 0 := ⟨TB_of (w := Cond.methodLink RX0 35 yX0_rootOf) (i := 650) (by decide +kernel) (by decide +kernel), TB_of (w := Cond.instanceMethod yX0_rootOf) (i := 651) (by decide +kernel) (by decide +kernel), TB_of (w := Cond.selects RX0 yX0_rootOf yX0_rootOf) (i := 652) (by decide +kernel) (by decide +kernel), by decide +kernel, TX0, 3, rfl⟩
theorem lX0_52 : LkV RX0 52 mX0_fix 2 0 := ⟨TB_of (w := Cond.methodLink RX0 52 yX0_fix) (i := 654) (by decide +kernel) (by decide +kernel), TB_of (w := Cond.instanceMethod yX0_fix) (i := 656) (by decide +kernel) (by decide +kernel), TB_of (w := Cond.selects RX0 yX0_fix yX0_fix) (i := 17) (by decide +kernel) (by decide +kernel), by decide +kernel, TX0, 3, rfl⟩
theorem lX0_55 : LkV RX0 55 mX0_unite 2 0 := ⟨TB_of (w := Cond.methodLink RX0 55 yX0_unite) (i := 658) (by decide +kernel) (by decide +kernel), TB_of (w := Cond.instanceMethod yX0_unite) (i := 660) (by decide +kernel) (by decide +kernel), TB_of (w := Cond.selects RX0 yX0_unite yX0_unite) (i := 18) (by decide +kernel) (by decide +kernel), by decide +kernel, TX0, 3, rfl⟩
theorem lX9_109 : LkV RX9 109 mX4_statementCount 0 4 := ⟨TB_of (w := Cond.methodLink RX9 109 yX4_statementCount) (i := 664) (by decide +kernel) (by decide +kernel), TB_of (w := Cond.instanceMethod yX4_statementCount) (i := 665) (by decide +kernel) (by decide +kernel), TB_of (w := Cond.selects RX4 yX4_statementCount yX4_statementCount) (i := 666) (by decide +kernel) (by decide +kernel), by decide +kernel, TX4, 3, rfl⟩
theorem lX4_31 : LkV RX4 31 mX6_count 0 6 := ⟨TB_of (w := Cond.methodLink RX4 31 yX6_count) (i := 668) (by decide +kernel) (by decide +kernel), TB_of (w := Cond.instanceMethod yX6_count) (i := 588) (by decide +kernel) (by decide +kernel), TB_of (w := Cond.selects RX6 yX6_count yX6_count) (i := 589) (by decide +kernel) (by decide +kernel), by decide +kernel, TX6, 5, rfl⟩
theorem lL_27 : LkV "SliceSolverLaw" 27 mX9_removeEquation 1 9 := ⟨TB_of (w := Cond.methodLink "SliceSolverLaw" 27 yX9_removeEquation) (i := 670) (by decide +kernel) (by decide +kernel), TB_of (w := Cond.instanceMethod yX9_removeEquation) (i := 671) (by decide +kernel) (by decide +kernel), TB_of (w := Cond.selects RX9 yX9_removeEquation yX9_removeEquation) (i := 672) (by decide +kernel) (by decide +kernel), by decide +kernel, TX9, 13, rfl⟩
theorem lX9_116 : LkV RX9 116 mX6_has 1 6 := ⟨TB_of (w := Cond.methodLink RX9 116 yX6_has) (i := 674) (by decide +kernel) (by decide +kernel), TB_of (w := Cond.instanceMethod yX6_has) (i := 600) (by decide +kernel) (by decide +kernel), TB_of (w := Cond.selects RX6 yX6_has yX6_has) (i := 601) (by decide +kernel) (by decide +kernel), by decide +kernel, TX6, 5, rfl⟩
theorem lX9_122 : LkV RX9 122 mX6_drop 1 6 := ⟨TB_of (w := Cond.methodLink RX9 122 yX6_drop) (i := 675) (by decide +kernel) (by decide +kernel), TB_of (w := Cond.instanceMethod yX6_drop) (i := 676) (by decide +kernel) (by decide +kernel), TB_of (w := Cond.selects RX6 yX6_drop yX6_drop) (i := 677) (by decide +kernel) (by decide +kernel), by decide +kernel, TX6, 5, rfl⟩
theorem lL_31 : LkV "SliceSolverLaw" 31 mX9_removeDisequation 1 9 := ⟨TB_of (w := Cond.methodLink "SliceSolverLaw" 31 yX9_removeDisequation) (i := 679) (by decide +kernel) (by decide +kernel), TB_of (w := Cond.instanceMethod yX9_removeDisequation) (i := 680) (by decide +kernel) (by decide +kernel), TB_of (w := Cond.selects RX9 yX9_removeDisequation yX9_removeDisequation) (i := 681) (by decide +kernel) (by decide +kernel), by decide +kernel, TX9, 13, rfl⟩
theorem lL_35 : LkV "SliceSolverLaw" 35 mX9_width 1 9 := ⟨TB_of (w := Cond.methodLink "SliceSolverLaw" 35 yX9_width) (i := 683) (by decide +kernel) (by decide +kernel), TB_of (w := Cond.instanceMethod yX9_width) (i := 684) (by decide +kernel) (by decide +kernel), TB_of (w := Cond.selects RX9 yX9_width yX9_width) (i := 685) (by decide +kernel) (by decide +kernel), by decide +kernel, TX9, 13, rfl⟩
theorem lX9_132 : LkS RX9 132 mX9_isVariable 1 := ⟨TB_of (w := Cond.methodLink RX9 132 yX9_isVariable) (i := 687) (by decide +kernel) (by decide +kernel), TB_of (w := Cond.static yX9_isVariable) (i := 457) (by decide +kernel) (by decide +kernel), by decide +kernel⟩
theorem lX9_135 : LkV RX9 135 mX4_widthOf 1 4 := ⟨TB_of (w := Cond.methodLink RX9 135 yX4_widthOf) (i := 688) (by decide +kernel) (by decide +kernel), TB_of (w := Cond.instanceMethod yX4_widthOf) (i := 453) (by decide +kernel) (by decide +kernel), TB_of (w := Cond.selects RX4 yX4_widthOf yX4_widthOf) (i := 454) (by decide +kernel) (by decide +kernel), by decide +kernel, TX4, 3, rfl⟩
theorem lL_39 : LkV "SliceSolverLaw" 39 mX9_equationCount 0 9 := ⟨TB_of (w := Cond.methodLink "SliceSolverLaw" 39 yX9_equationCount) (i := 689) (by decide +kernel) (by decide +kernel), TB_of (w := Cond.instanceMethod yX9_equationCount) (i := 690) (by decide +kernel) (by decide +kernel), TB_of (w := Cond.selects RX9 yX9_equationCount yX9_equationCount) (i := 691) (by decide +kernel) (by decide +kernel), by decide +kernel, TX9, 13, rfl⟩
theorem lL_43 : LkV "SliceSolverLaw" 43 mX9_disequationCount 0 9 := ⟨TB_of (w := Cond.methodLink "SliceSolverLaw" 43 yX9_disequationCount) (i := 693) (by decide +kernel) (by decide +kernel), TB_of (w := Cond.instanceMethod yX9_disequationCount) (i := 694) (by decide +kernel) (by decide +kernel), TB_of (w := Cond.selects RX9 yX9_disequationCount yX9_disequationCount) (i := 695) (by decide +kernel) (by decide +kernel), by decide +kernel, TX9, 13, rfl⟩
theorem lL_47 : LkV "SliceSolverLaw" 47 mX9_sliceCount 1 9 := ⟨TB_of (w := Cond.methodLink "SliceSolverLaw" 47 yX9_sliceCount) (i := 697) (by decide +kernel) (by decide +kernel), TB_of (w := Cond.instanceMethod yX9_sliceCount) (i := 698) (by decide +kernel) (by decide +kernel), TB_of (w := Cond.selects RX9 yX9_sliceCount yX9_sliceCount) (i := 699) (by decide +kernel) (by decide +kernel), by decide +kernel, TX9, 13, rfl⟩
theorem lX9_139 : LkV RX9 139 mX9_slicesOf 1 9 := ⟨TB_of (w := Cond.methodLink RX9 139 yX9_slicesOf) (i := 701) (by decide +kernel) (by decide +kernel), TB_of (w := Cond.instanceMethod yX9_slicesOf) (i := 703) (by decide +kernel) (by decide +kernel), TB_of (w := Cond.selects RX9 yX9_slicesOf yX9_slicesOf) (i := 19) (by decide +kernel) (by decide +kernel), by decide +kernel, TX9, 13, rfl⟩
theorem lX9_213 : LkV RX9 213 mX1_countOf 1 1 := ⟨TB_of (w := Cond.methodLink RX9 213 yX1_countOf) (i := 705) (by decide +kernel) (by decide +kernel), TB_of (w := Cond.instanceMethod yX1_countOf) (i := 706) (by decide +kernel) (by decide +kernel), TB_of (w := Cond.selects RX1 yX1_countOf yX1_countOf) (i := 707) (by decide +kernel) (by decide +kernel), by decide +kernel, TX1, 1, rfl⟩
theorem lX1_15 : LkS RX1 15 mJ6_bitCount_0f7a4 1 := ⟨TB_of (w := Cond.methodLink RX1 15 yJ6_bitCount_0f7a4) (i := 709) (by decide +kernel) (by decide +kernel), TB_of (w := Cond.static yJ6_bitCount_0f7a4) (i := 710) (by decide +kernel) (by decide +kernel), by decide +kernel⟩
theorem lL_51 : LkV "SliceSolverLaw" 51 mX9_sliceStart 2 9 := ⟨TB_of (w := Cond.methodLink "SliceSolverLaw" 51 yX9_sliceStart) (i := 715) (by decide +kernel) (by decide +kernel), TB_of (w := Cond.instanceMethod yX9_sliceStart) (i := 716) (by decide +kernel) (by decide +kernel), TB_of (w := Cond.selects RX9 yX9_sliceStart yX9_sliceStart) (i := 717) (by decide +kernel) (by decide +kernel), by decide +kernel, TX9, 13, rfl⟩
theorem lX9_142 : LkV RX9 142 mX9_isSlice 2 9 := ⟨TB_of (w := Cond.methodLink RX9 142 yX9_isSlice) (i := 719) (by decide +kernel) (by decide +kernel), TB_of (w := Cond.instanceMethod yX9_isSlice) (i := 721) (by decide +kernel) (by decide +kernel), TB_of (w := Cond.selects RX9 yX9_isSlice yX9_isSlice) (i := 20) (by decide +kernel) (by decide +kernel), by decide +kernel, TX9, 13, rfl⟩
theorem lX9_146 : LkV RX9 146 mX1_startOf 2 1 := ⟨TB_of (w := Cond.methodLink RX9 146 yX1_startOf) (i := 723) (by decide +kernel) (by decide +kernel), TB_of (w := Cond.instanceMethod yX1_startOf) (i := 724) (by decide +kernel) (by decide +kernel), TB_of (w := Cond.selects RX1 yX1_startOf yX1_startOf) (i := 725) (by decide +kernel) (by decide +kernel), by decide +kernel, TX1, 1, rfl⟩
theorem lL_56 : LkV "SliceSolverLaw" 56 mX9_sliceWidth 2 9 := ⟨TB_of (w := Cond.methodLink "SliceSolverLaw" 56 yX9_sliceWidth) (i := 727) (by decide +kernel) (by decide +kernel), TB_of (w := Cond.instanceMethod yX9_sliceWidth) (i := 728) (by decide +kernel) (by decide +kernel), TB_of (w := Cond.selects RX9 yX9_sliceWidth yX9_sliceWidth) (i := 729) (by decide +kernel) (by decide +kernel), by decide +kernel, TX9, 13, rfl⟩
theorem lL_60 : LkV "SliceSolverLaw" 60 mX9_representative 2 9 := ⟨TB_of (w := Cond.methodLink "SliceSolverLaw" 60 yX9_representative) (i := 731) (by decide +kernel) (by decide +kernel), TB_of (w := Cond.instanceMethod yX9_representative) (i := 732) (by decide +kernel) (by decide +kernel), TB_of (w := Cond.selects RX9 yX9_representative yX9_representative) (i := 733) (by decide +kernel) (by decide +kernel), by decide +kernel, TX9, 13, rfl⟩
theorem lX9_150 : LkS RX9 150 mX9_nodeOf 2 := ⟨TB_of (w := Cond.methodLink RX9 150 yX9_nodeOf) (i := 735) (by decide +kernel) (by decide +kernel), TB_of (w := Cond.static yX9_nodeOf) (i := 516) (by decide +kernel) (by decide +kernel), by decide +kernel⟩
theorem lX9_153 : LkV RX9 153 mX0_rootOf 1 0 := ⟨TB_of (w := Cond.methodLink RX9 153 yX0_rootOf) (i := 736) (by decide +kernel) (by decide +kernel), TB_of (w := Cond.instanceMethod yX0_rootOf) (i := 651) (by decide +kernel) (by decide +kernel), TB_of (w := Cond.selects RX0 yX0_rootOf yX0_rootOf) (i := 652) (by decide +kernel) (by decide +kernel), by decide +kernel, TX0, 3, rfl⟩
theorem lX9_156 : LkS RX9 156 mX9_variableOf 1 := ⟨TB_of (w := Cond.methodLink RX9 156 yX9_variableOf) (i := 737) (by decide +kernel) (by decide +kernel), TB_of (w := Cond.static yX9_variableOf) (i := 615) (by decide +kernel) (by decide +kernel), by decide +kernel⟩
theorem lX9_159 : LkS RX9 159 mX9_bitOf 1 := ⟨TB_of (w := Cond.methodLink RX9 159 yX9_bitOf) (i := 738) (by decide +kernel) (by decide +kernel), TB_of (w := Cond.static yX9_bitOf) (i := 618) (by decide +kernel) (by decide +kernel), by decide +kernel⟩
theorem lX9_162 : LkV RX9 162 mX1_sliceAt 2 1 := ⟨TB_of (w := Cond.methodLink RX9 162 yX1_sliceAt) (i := 739) (by decide +kernel) (by decide +kernel), TB_of (w := Cond.instanceMethod yX1_sliceAt) (i := 740) (by decide +kernel) (by decide +kernel), TB_of (w := Cond.selects RX1 yX1_sliceAt yX1_sliceAt) (i := 741) (by decide +kernel) (by decide +kernel), by decide +kernel, TX1, 1, rfl⟩
theorem lL_64 : LkV "SliceSolverLaw" 64 mX9_classCount 0 9 := ⟨TB_of (w := Cond.methodLink "SliceSolverLaw" 64 yX9_classCount) (i := 743) (by decide +kernel) (by decide +kernel), TB_of (w := Cond.instanceMethod yX9_classCount) (i := 744) (by decide +kernel) (by decide +kernel), TB_of (w := Cond.selects RX9 yX9_classCount yX9_classCount) (i := 745) (by decide +kernel) (by decide +kernel), by decide +kernel, TX9, 13, rfl⟩
theorem lL_68 : LkV "SliceSolverLaw" 68 mX9_isConsistent 0 9 := ⟨TB_of (w := Cond.methodLink "SliceSolverLaw" 68 yX9_isConsistent) (i := 747) (by decide +kernel) (by decide +kernel), TB_of (w := Cond.instanceMethod yX9_isConsistent) (i := 748) (by decide +kernel) (by decide +kernel), TB_of (w := Cond.selects RX9 yX9_isConsistent yX9_isConsistent) (i := 749) (by decide +kernel) (by decide +kernel), by decide +kernel, TX9, 13, rfl⟩
theorem lX9_165 : LkV RX9 165 mX0_agree 0 0 := ⟨TB_of (w := Cond.methodLink RX9 165 yX0_agree) (i := 751) (by decide +kernel) (by decide +kernel), TB_of (w := Cond.instanceMethod yX0_agree) (i := 752) (by decide +kernel) (by decide +kernel), TB_of (w := Cond.selects RX0 yX0_agree yX0_agree) (i := 753) (by decide +kernel) (by decide +kernel), by decide +kernel, TX0, 3, rfl⟩
theorem lL_72 : LkV "SliceSolverLaw" 72 mX9_firstConflict 0 9 := ⟨TB_of (w := Cond.methodLink "SliceSolverLaw" 72 yX9_firstConflict) (i := 755) (by decide +kernel) (by decide +kernel), TB_of (w := Cond.instanceMethod yX9_firstConflict) (i := 756) (by decide +kernel) (by decide +kernel), TB_of (w := Cond.selects RX9 yX9_firstConflict yX9_firstConflict) (i := 757) (by decide +kernel) (by decide +kernel), by decide +kernel, TX9, 13, rfl⟩
theorem lL_76 : LkV "SliceSolverLaw" 76 mX9_conflictSet 0 9 := ⟨TB_of (w := Cond.methodLink "SliceSolverLaw" 76 yX9_conflictSet) (i := 759) (by decide +kernel) (by decide +kernel), TB_of (w := Cond.instanceMethod yX9_conflictSet) (i := 760) (by decide +kernel) (by decide +kernel), TB_of (w := Cond.selects RX9 yX9_conflictSet yX9_conflictSet) (i := 761) (by decide +kernel) (by decide +kernel), by decide +kernel, TX9, 13, rfl⟩
theorem lX9_173 : LkV RX9 173 mX9_tryEquations 1 9 := ⟨TB_of (w := Cond.methodLink RX9 173 yX9_tryEquations) (i := 763) (by decide +kernel) (by decide +kernel), TB_of (w := Cond.instanceMethod yX9_tryEquations) (i := 765) (by decide +kernel) (by decide +kernel), TB_of (w := Cond.selects RX9 yX9_tryEquations yX9_tryEquations) (i := 21) (by decide +kernel) (by decide +kernel), by decide +kernel, TX9, 13, rfl⟩
theorem lL_80 : LkV "SliceSolverLaw" 80 mX9_fixedBit 2 9 := ⟨TB_of (w := Cond.methodLink "SliceSolverLaw" 80 yX9_fixedBit) (i := 767) (by decide +kernel) (by decide +kernel), TB_of (w := Cond.instanceMethod yX9_fixedBit) (i := 768) (by decide +kernel) (by decide +kernel), TB_of (w := Cond.selects RX9 yX9_fixedBit yX9_fixedBit) (i := 769) (by decide +kernel) (by decide +kernel), by decide +kernel, TX9, 13, rfl⟩
theorem lX9_176 : LkV RX9 176 mX9_isBit 2 9 := ⟨TB_of (w := Cond.methodLink RX9 176 yX9_isBit) (i := 771) (by decide +kernel) (by decide +kernel), TB_of (w := Cond.instanceMethod yX9_isBit) (i := 773) (by decide +kernel) (by decide +kernel), TB_of (w := Cond.selects RX9 yX9_isBit yX9_isBit) (i := 22) (by decide +kernel) (by decide +kernel), by decide +kernel, TX9, 13, rfl⟩
theorem lX9_179 : LkV RX9 179 mX0_constantOf 1 0 := ⟨TB_of (w := Cond.methodLink RX9 179 yX0_constantOf) (i := 775) (by decide +kernel) (by decide +kernel), TB_of (w := Cond.instanceMethod yX0_constantOf) (i := 776) (by decide +kernel) (by decide +kernel), TB_of (w := Cond.selects RX0 yX0_constantOf yX0_constantOf) (i := 777) (by decide +kernel) (by decide +kernel), by decide +kernel, TX0, 3, rfl⟩
theorem lL_84 : LkV "SliceSolverLaw" 84 mX9_compareBits 4 9 := ⟨TB_of (w := Cond.methodLink "SliceSolverLaw" 84 yX9_compareBits) (i := 779) (by decide +kernel) (by decide +kernel), TB_of (w := Cond.instanceMethod yX9_compareBits) (i := 780) (by decide +kernel) (by decide +kernel), TB_of (w := Cond.selects RX9 yX9_compareBits yX9_compareBits) (i := 781) (by decide +kernel) (by decide +kernel), by decide +kernel, TX9, 13, rfl⟩
theorem lL_89 : LkV "SliceSolverLaw" 89 mX9_freeBits 0 9 := ⟨TB_of (w := Cond.methodLink "SliceSolverLaw" 89 yX9_freeBits) (i := 783) (by decide +kernel) (by decide +kernel), TB_of (w := Cond.instanceMethod yX9_freeBits) (i := 784) (by decide +kernel) (by decide +kernel), TB_of (w := Cond.selects RX9 yX9_freeBits yX9_freeBits) (i := 785) (by decide +kernel) (by decide +kernel), by decide +kernel, TX9, 13, rfl⟩
theorem lL_93 : LkV "SliceSolverLaw" 93 mX9_isSatisfiable 0 9 := ⟨TB_of (w := Cond.methodLink "SliceSolverLaw" 93 yX9_isSatisfiable) (i := 787) (by decide +kernel) (by decide +kernel), TB_of (w := Cond.instanceMethod yX9_isSatisfiable) (i := 788) (by decide +kernel) (by decide +kernel), TB_of (w := Cond.selects RX9 yX9_isSatisfiable yX9_isSatisfiable) (i := 789) (by decide +kernel) (by decide +kernel), by decide +kernel, TX9, 13, rfl⟩
theorem lX9_182 : LkV RX9 182 mX9_chosenModel 0 9 := ⟨TB_of (w := Cond.methodLink RX9 182 yX9_chosenModel) (i := 791) (by decide +kernel) (by decide +kernel), TB_of (w := Cond.instanceMethod yX9_chosenModel) (i := 793) (by decide +kernel) (by decide +kernel), TB_of (w := Cond.selects RX9 yX9_chosenModel yX9_chosenModel) (i := 23) (by decide +kernel) (by decide +kernel), by decide +kernel, TX9, 13, rfl⟩
theorem lX9_209 : LkV RX9 209 mX3_choose 2 3 := ⟨TB_of (w := Cond.methodLink RX9 209 yX3_choose) (i := 795) (by decide +kernel) (by decide +kernel), TB_of (w := Cond.instanceMethod yX3_choose) (i := 796) (by decide +kernel) (by decide +kernel), TB_of (w := Cond.selects RX3 yX3_choose yX3_choose) (i := 797) (by decide +kernel) (by decide +kernel), by decide +kernel, TX3, 5, rfl⟩
theorem lX3_26 : LkV RX3 26 mX0_agree 0 0 := ⟨TB_of (w := Cond.methodLink RX3 26 yX0_agree) (i := 799) (by decide +kernel) (by decide +kernel), TB_of (w := Cond.instanceMethod yX0_agree) (i := 752) (by decide +kernel) (by decide +kernel), TB_of (w := Cond.selects RX0 yX0_agree yX0_agree) (i := 753) (by decide +kernel) (by decide +kernel), by decide +kernel, TX0, 3, rfl⟩
theorem lX3_32 : LkV RX3 32 mX3_wordOfZeros 2 3 := ⟨TB_of (w := Cond.methodLink RX3 32 yX3_wordOfZeros) (i := 800) (by decide +kernel) (by decide +kernel), TB_of (w := Cond.instanceMethod yX3_wordOfZeros) (i := 802) (by decide +kernel) (by decide +kernel), TB_of (w := Cond.selects RX3 yX3_wordOfZeros yX3_wordOfZeros) (i := 24) (by decide +kernel) (by decide +kernel), by decide +kernel, TX3, 5, rfl⟩
theorem lX3_53 : LkS RX3 53 mJ7_fill_d0a16 2 := ⟨TB_of (w := Cond.methodLink RX3 53 yJ7_fill_d0a16) (i := 804) (by decide +kernel) (by decide +kernel), TB_of (w := Cond.static yJ7_fill_d0a16) (i := 805) (by decide +kernel) (by decide +kernel), by decide +kernel⟩
theorem lX3_59 : LkV RX3 59 mX6_has 1 6 := ⟨TB_of (w := Cond.methodLink RX3 59 yX6_has) (i := 807) (by decide +kernel) (by decide +kernel), TB_of (w := Cond.instanceMethod yX6_has) (i := 600) (by decide +kernel) (by decide +kernel), TB_of (w := Cond.selects RX6 yX6_has yX6_has) (i := 601) (by decide +kernel) (by decide +kernel), by decide +kernel, TX6, 5, rfl⟩
theorem lX3_65 : LkV RX3 65 mX6_widthOf 1 6 := ⟨TB_of (w := Cond.methodLink RX3 65 yX6_widthOf) (i := 808) (by decide +kernel) (by decide +kernel), TB_of (w := Cond.instanceMethod yX6_widthOf) (i := 596) (by decide +kernel) (by decide +kernel), TB_of (w := Cond.selects RX6 yX6_widthOf yX6_widthOf) (i := 597) (by decide +kernel) (by decide +kernel), by decide +kernel, TX6, 5, rfl⟩
theorem lX3_69 : LkV RX3 69 mX6_node 3 6 := ⟨TB_of (w := Cond.methodLink RX3 69 yX6_node) (i := 809) (by decide +kernel) (by decide +kernel), TB_of (w := Cond.instanceMethod yX6_node) (i := 604) (by decide +kernel) (by decide +kernel), TB_of (w := Cond.selects RX6 yX6_node yX6_node) (i := 605) (by decide +kernel) (by decide +kernel), by decide +kernel, TX6, 5, rfl⟩
theorem lX3_73 : LkV RX3 73 mX3_constantPlace 3 3 := ⟨TB_of (w := Cond.methodLink RX3 73 yX3_constantPlace) (i := 810) (by decide +kernel) (by decide +kernel), TB_of (w := Cond.instanceMethod yX3_constantPlace) (i := 812) (by decide +kernel) (by decide +kernel), TB_of (w := Cond.selects RX3 yX3_constantPlace yX3_constantPlace) (i := 25) (by decide +kernel) (by decide +kernel), by decide +kernel, TX3, 5, rfl⟩
theorem lX3_77 : LkV RX3 77 mX0_constantOf 1 0 := ⟨TB_of (w := Cond.methodLink RX3 77 yX0_constantOf) (i := 814) (by decide +kernel) (by decide +kernel), TB_of (w := Cond.instanceMethod yX0_constantOf) (i := 776) (by decide +kernel) (by decide +kernel), TB_of (w := Cond.selects RX0 yX0_constantOf yX0_constantOf) (i := 777) (by decide +kernel) (by decide +kernel), by decide +kernel, TX0, 3, rfl⟩
theorem lX3_80 : LkV RX3 80 mX0_rootOf 1 0 := ⟨TB_of (w := Cond.methodLink RX3 80 yX0_rootOf) (i := 815) (by decide +kernel) (by decide +kernel), TB_of (w := Cond.instanceMethod yX0_rootOf) (i := 651) (by decide +kernel) (by decide +kernel), TB_of (w := Cond.selects RX0 yX0_rootOf yX0_rootOf) (i := 652) (by decide +kernel) (by decide +kernel), by decide +kernel, TX0, 3, rfl⟩
theorem lX3_36 : LkV RX3 36 mX3_gatherCandidates 0 3 := ⟨TB_of (w := Cond.methodLink RX3 36 yX3_gatherCandidates) (i := 816) (by decide +kernel) (by decide +kernel), TB_of (w := Cond.instanceMethod yX3_gatherCandidates) (i := 818) (by decide +kernel) (by decide +kernel), TB_of (w := Cond.selects RX3 yX3_gatherCandidates yX3_gatherCandidates) (i := 26) (by decide +kernel) (by decide +kernel), by decide +kernel, TX3, 5, rfl⟩
theorem lX3_39 : LkS RX3 39 mX3_holds 1 := ⟨TB_of (w := Cond.methodLink RX3 39 yX3_holds) (i := 820) (by decide +kernel) (by decide +kernel), TB_of (w := Cond.static yX3_holds) (i := 821) (by decide +kernel) (by decide +kernel), by decide +kernel⟩
theorem lX3_43 : LkV RX3 43 mX3_pickLast 3 3 := ⟨TB_of (w := Cond.methodLink RX3 43 yX3_pickLast) (i := 826) (by decide +kernel) (by decide +kernel), TB_of (w := Cond.instanceMethod yX3_pickLast) (i := 828) (by decide +kernel) (by decide +kernel), TB_of (w := Cond.selects RX3 yX3_pickLast yX3_pickLast) (i := 27) (by decide +kernel) (by decide +kernel), by decide +kernel, TX3, 5, rfl⟩
theorem lX3_47 : LkV RX3 47 mX3_pickLastTwo 3 3 := ⟨TB_of (w := Cond.methodLink RX3 47 yX3_pickLastTwo) (i := 830) (by decide +kernel) (by decide +kernel), TB_of (w := Cond.instanceMethod yX3_pickLastTwo) (i := 832) (by decide +kernel) (by decide +kernel), TB_of (w := Cond.selects RX3 yX3_pickLastTwo yX3_pickLastTwo) (i := 28) (by decide +kernel) (by decide +kernel), by decide +kernel, TX3, 5, rfl⟩
theorem lX3_50 : LkV RX3 50 mX3_pickThree 1 3 := ⟨TB_of (w := Cond.methodLink RX3 50 yX3_pickThree) (i := 834) (by decide +kernel) (by decide +kernel), TB_of (w := Cond.instanceMethod yX3_pickThree) (i := 836) (by decide +kernel) (by decide +kernel), TB_of (w := Cond.selects RX3 yX3_pickThree yX3_pickThree) (i := 29) (by decide +kernel) (by decide +kernel), by decide +kernel, TX3, 5, rfl⟩
theorem lX9_186 : LkV RX9 186 mX3_oneCount 0 3 := ⟨TB_of (w := Cond.methodLink RX9 186 yX3_oneCount) (i := 838) (by decide +kernel) (by decide +kernel), TB_of (w := Cond.instanceMethod yX3_oneCount) (i := 839) (by decide +kernel) (by decide +kernel), TB_of (w := Cond.selects RX3 yX3_oneCount yX3_oneCount) (i := 840) (by decide +kernel) (by decide +kernel), by decide +kernel, TX3, 5, rfl⟩
theorem lL_97 : LkV "SliceSolverLaw" 97 mX9_oneBits 0 9 := ⟨TB_of (w := Cond.methodLink "SliceSolverLaw" 97 yX9_oneBits) (i := 842) (by decide +kernel) (by decide +kernel), TB_of (w := Cond.instanceMethod yX9_oneBits) (i := 843) (by decide +kernel) (by decide +kernel), TB_of (w := Cond.selects RX9 yX9_oneBits yX9_oneBits) (i := 844) (by decide +kernel) (by decide +kernel), by decide +kernel, TX9, 13, rfl⟩
theorem lL_101 : LkV "SliceSolverLaw" 101 mX9_value 1 9 := ⟨TB_of (w := Cond.methodLink "SliceSolverLaw" 101 yX9_value) (i := 846) (by decide +kernel) (by decide +kernel), TB_of (w := Cond.instanceMethod yX9_value) (i := 847) (by decide +kernel) (by decide +kernel), TB_of (w := Cond.selects RX9 yX9_value yX9_value) (i := 848) (by decide +kernel) (by decide +kernel), by decide +kernel, TX9, 13, rfl⟩
theorem lX9_189 : LkV RX9 189 mX3_hasOne 1 3 := ⟨TB_of (w := Cond.methodLink RX9 189 yX3_hasOne) (i := 850) (by decide +kernel) (by decide +kernel), TB_of (w := Cond.instanceMethod yX3_hasOne) (i := 851) (by decide +kernel) (by decide +kernel), TB_of (w := Cond.selects RX3 yX3_hasOne yX3_hasOne) (i := 852) (by decide +kernel) (by decide +kernel), by decide +kernel, TX3, 5, rfl⟩
theorem lL_105 : LkV "SliceSolverLaw" 105 mX9_isImplied 1 9 := ⟨TB_of (w := Cond.methodLink "SliceSolverLaw" 105 yX9_isImplied) (i := 854) (by decide +kernel) (by decide +kernel), TB_of (w := Cond.instanceMethod yX9_isImplied) (i := 855) (by decide +kernel) (by decide +kernel), TB_of (w := Cond.selects RX9 yX9_isImplied yX9_isImplied) (i := 856) (by decide +kernel) (by decide +kernel), by decide +kernel, TX9, 13, rfl⟩
theorem lL_109 : LkV "SliceSolverLaw" 109 mX9_undo 0 9 := ⟨TB_of (w := Cond.methodLink "SliceSolverLaw" 109 yX9_undo) (i := 858) (by decide +kernel) (by decide +kernel), TB_of (w := Cond.instanceMethod yX9_undo) (i := 859) (by decide +kernel) (by decide +kernel), TB_of (w := Cond.selects RX9 yX9_undo yX9_undo) (i := 860) (by decide +kernel) (by decide +kernel), by decide +kernel, TX9, 13, rfl⟩
theorem lX9_192 : LkV RX9 192 mX2_depth 0 2 := ⟨TB_of (w := Cond.methodLink RX9 192 yX2_depth) (i := 862) (by decide +kernel) (by decide +kernel), TB_of (w := Cond.instanceMethod yX2_depth) (i := 863) (by decide +kernel) (by decide +kernel), TB_of (w := Cond.selects RX2 yX2_depth yX2_depth) (i := 864) (by decide +kernel) (by decide +kernel), by decide +kernel, TX2, 2, rfl⟩
theorem lX9_195 : LkV RX9 195 mX2_popInto 1 2 := ⟨TB_of (w := Cond.methodLink RX9 195 yX2_popInto) (i := 866) (by decide +kernel) (by decide +kernel), TB_of (w := Cond.instanceMethod yX2_popInto) (i := 867) (by decide +kernel) (by decide +kernel), TB_of (w := Cond.selects RX2 yX2_popInto yX2_popInto) (i := 868) (by decide +kernel) (by decide +kernel), by decide +kernel, TX2, 2, rfl⟩
theorem lL_113 : LkV "SliceSolverLaw" 113 mX9_undoDepth 0 9 := ⟨TB_of (w := Cond.methodLink "SliceSolverLaw" 113 yX9_undoDepth) (i := 870) (by decide +kernel) (by decide +kernel), TB_of (w := Cond.instanceMethod yX9_undoDepth) (i := 871) (by decide +kernel) (by decide +kernel), TB_of (w := Cond.selects RX9 yX9_undoDepth yX9_undoDepth) (i := 872) (by decide +kernel) (by decide +kernel), by decide +kernel, TX9, 13, rfl⟩
theorem lL_117 : LkV "SliceSolverLaw" 117 mX9_save 1 9 := ⟨TB_of (w := Cond.methodLink "SliceSolverLaw" 117 yX9_save) (i := 874) (by decide +kernel) (by decide +kernel), TB_of (w := Cond.instanceMethod yX9_save) (i := 875) (by decide +kernel) (by decide +kernel), TB_of (w := Cond.selects RX9 yX9_save yX9_save) (i := 876) (by decide +kernel) (by decide +kernel), by decide +kernel, TX9, 13, rfl⟩
theorem lX9_198 : LkS RX9 198 mX9_isSlot 1 := ⟨TB_of (w := Cond.methodLink RX9 198 yX9_isSlot) (i := 878) (by decide +kernel) (by decide +kernel), TB_of (w := Cond.static yX9_isSlot) (i := 879) (by decide +kernel) (by decide +kernel), by decide +kernel⟩
theorem lX9_201 : LkV RX9 201 mX9_snapshot 1 9 := ⟨TB_of (w := Cond.methodLink RX9 201 yX9_snapshot) (i := 881) (by decide +kernel) (by decide +kernel), TB_of (w := Cond.instanceMethod yX9_snapshot) (i := 883) (by decide +kernel) (by decide +kernel), TB_of (w := Cond.selects RX9 yX9_snapshot yX9_snapshot) (i := 30) (by decide +kernel) (by decide +kernel), by decide +kernel, TX9, 13, rfl⟩
theorem lL_121 : LkV "SliceSolverLaw" 121 mX9_restore 1 9 := ⟨TB_of (w := Cond.methodLink "SliceSolverLaw" 121 yX9_restore) (i := 885) (by decide +kernel) (by decide +kernel), TB_of (w := Cond.instanceMethod yX9_restore) (i := 886) (by decide +kernel) (by decide +kernel), TB_of (w := Cond.selects RX9 yX9_restore yX9_restore) (i := 887) (by decide +kernel) (by decide +kernel), by decide +kernel, TX9, 13, rfl⟩
theorem lX9_205 : LkV RX9 205 mX2_clear 0 2 := ⟨TB_of (w := Cond.methodLink RX9 205 yX2_clear) (i := 889) (by decide +kernel) (by decide +kernel), TB_of (w := Cond.instanceMethod yX2_clear) (i := 890) (by decide +kernel) (by decide +kernel), TB_of (w := Cond.selects RX2 yX2_clear yX2_clear) (i := 891) (by decide +kernel) (by decide +kernel), by decide +kernel, TX2, 2, rfl⟩
theorem lL_12 : LkI "SliceSolverLaw" 12 mX10_init 0 := ⟨TB_of (w := Cond.methodLink "SliceSolverLaw" 12 yX10_init) (i := 895) (by decide +kernel) (by decide +kernel), TB_of (w := Cond.instanceMethod yX10_init) (i := 896) (by decide +kernel) (by decide +kernel), rfl, by decide +kernel⟩
theorem lL_17 : LkV "SliceSolverLaw" 17 mX10_append 1 10 := ⟨TB_of (w := Cond.methodLink "SliceSolverLaw" 17 yX10_append) (i := 979) (by decide +kernel) (by decide +kernel), TB_of (w := Cond.instanceMethod yX10_append) (i := 980) (by decide +kernel) (by decide +kernel), TB_of (w := Cond.selects RX10 yX10_append yX10_append) (i := 981) (by decide +kernel) (by decide +kernel), by decide +kernel, TX10, 26, rfl⟩
theorem lX10_60 : LkS RX10 60 mX10_in 3 := ⟨TB_of (w := Cond.methodLink RX10 60 yX10_in) (i := 983) (by decide +kernel) (by decide +kernel), TB_of (w := Cond.static yX10_in) (i := 984) (by decide +kernel) (by decide +kernel), by decide +kernel⟩
theorem lL_22 : LkV "SliceSolverLaw" 22 mX10_clearText 0 10 := ⟨TB_of (w := Cond.methodLink "SliceSolverLaw" 22 yX10_clearText) (i := 986) (by decide +kernel) (by decide +kernel), TB_of (w := Cond.instanceMethod yX10_clearText) (i := 987) (by decide +kernel) (by decide +kernel), TB_of (w := Cond.selects RX10 yX10_clearText yX10_clearText) (i := 988) (by decide +kernel) (by decide +kernel), by decide +kernel, TX10, 26, rfl⟩
theorem lL_26 : LkV "SliceSolverLaw" 26 mX10_load 0 10 := ⟨TB_of (w := Cond.methodLink "SliceSolverLaw" 26 yX10_load) (i := 990) (by decide +kernel) (by decide +kernel), TB_of (w := Cond.instanceMethod yX10_load) (i := 991) (by decide +kernel) (by decide +kernel), TB_of (w := Cond.selects RX10 yX10_load yX10_load) (i := 992) (by decide +kernel) (by decide +kernel), by decide +kernel, TX10, 26, rfl⟩
theorem lX10_89 : LkV RX10 89 mX10_advance 0 10 := ⟨TB_of (w := Cond.methodLink RX10 89 yX10_advance) (i := 994) (by decide +kernel) (by decide +kernel), TB_of (w := Cond.instanceMethod yX10_advance) (i := 996) (by decide +kernel) (by decide +kernel), TB_of (w := Cond.selects RX10 yX10_advance yX10_advance) (i := 31) (by decide +kernel) (by decide +kernel), by decide +kernel, TX10, 26, rfl⟩
theorem lX10_64 : LkV RX10 64 mX10_characterAt 1 10 := ⟨TB_of (w := Cond.methodLink RX10 64 yX10_characterAt) (i := 998) (by decide +kernel) (by decide +kernel), TB_of (w := Cond.instanceMethod yX10_characterAt) (i := 1000) (by decide +kernel) (by decide +kernel), TB_of (w := Cond.selects RX10 yX10_characterAt yX10_characterAt) (i := 32) (by decide +kernel) (by decide +kernel), by decide +kernel, TX10, 26, rfl⟩
theorem lX10_74 : LkV RX10 74 mX10_wordOf 0 10 := ⟨TB_of (w := Cond.methodLink RX10 74 yX10_wordOf) (i := 1002) (by decide +kernel) (by decide +kernel), TB_of (w := Cond.instanceMethod yX10_wordOf) (i := 1004) (by decide +kernel) (by decide +kernel), TB_of (w := Cond.selects RX10 yX10_wordOf yX10_wordOf) (i := 33) (by decide +kernel) (by decide +kernel), by decide +kernel, TX10, 26, rfl⟩
theorem lX10_78 : LkS RX10 78 mX10_isSignCharacter 1 := ⟨TB_of (w := Cond.methodLink RX10 78 yX10_isSignCharacter) (i := 1006) (by decide +kernel) (by decide +kernel), TB_of (w := Cond.static yX10_isSignCharacter) (i := 1007) (by decide +kernel) (by decide +kernel), by decide +kernel⟩
theorem lX10_85 : LkV RX10 85 mX10_isFine 0 10 := ⟨TB_of (w := Cond.methodLink RX10 85 yX10_isFine) (i := 1009) (by decide +kernel) (by decide +kernel), TB_of (w := Cond.instanceMethod yX10_isFine) (i := 1011) (by decide +kernel) (by decide +kernel), TB_of (w := Cond.selects RX10 yX10_isFine yX10_isFine) (i := 34) (by decide +kernel) (by decide +kernel), by decide +kernel, TX10, 26, rfl⟩
theorem lX10_138 : LkV RX10 138 mX10_readItem 0 10 := ⟨TB_of (w := Cond.methodLink RX10 138 yX10_readItem) (i := 1013) (by decide +kernel) (by decide +kernel), TB_of (w := Cond.instanceMethod yX10_readItem) (i := 1015) (by decide +kernel) (by decide +kernel), TB_of (w := Cond.selects RX10 yX10_readItem yX10_readItem) (i := 35) (by decide +kernel) (by decide +kernel), by decide +kernel, TX10, 26, rfl⟩
theorem lX10_131 : LkV RX10 131 mX10_readDeclaration 0 10 := ⟨TB_of (w := Cond.methodLink RX10 131 yX10_readDeclaration) (i := 1017) (by decide +kernel) (by decide +kernel), TB_of (w := Cond.instanceMethod yX10_readDeclaration) (i := 1019) (by decide +kernel) (by decide +kernel), TB_of (w := Cond.selects RX10 yX10_readDeclaration yX10_readDeclaration) (i := 36) (by decide +kernel) (by decide +kernel), by decide +kernel, TX10, 26, rfl⟩
theorem lX10_92 : LkV RX10 92 mX10_take 1 10 := ⟨TB_of (w := Cond.methodLink RX10 92 yX10_take) (i := 1021) (by decide +kernel) (by decide +kernel), TB_of (w := Cond.instanceMethod yX10_take) (i := 1023) (by decide +kernel) (by decide +kernel), TB_of (w := Cond.selects RX10 yX10_take yX10_take) (i := 37) (by decide +kernel) (by decide +kernel), by decide +kernel, TX10, 26, rfl⟩
theorem lX10_102 : LkV RX10 102 mX10_isName 0 10 := ⟨TB_of (w := Cond.methodLink RX10 102 yX10_isName) (i := 1025) (by decide +kernel) (by decide +kernel), TB_of (w := Cond.instanceMethod yX10_isName) (i := 1027) (by decide +kernel) (by decide +kernel), TB_of (w := Cond.selects RX10 yX10_isName yX10_isName) (i := 38) (by decide +kernel) (by decide +kernel), by decide +kernel, TX10, 26, rfl⟩
theorem lX10_108 : LkV RX10 108 mX10_number 2 10 := ⟨TB_of (w := Cond.methodLink RX10 108 yX10_number) (i := 1029) (by decide +kernel) (by decide +kernel), TB_of (w := Cond.instanceMethod yX10_number) (i := 1031) (by decide +kernel) (by decide +kernel), TB_of (w := Cond.selects RX10 yX10_number yX10_number) (i := 39) (by decide +kernel) (by decide +kernel), by decide +kernel, TX10, 26, rfl⟩
theorem lX10_105 : LkV RX10 105 mX10_isSign 1 10 := ⟨TB_of (w := Cond.methodLink RX10 105 yX10_isSign) (i := 1033) (by decide +kernel) (by decide +kernel), TB_of (w := Cond.instanceMethod yX10_isSign) (i := 1035) (by decide +kernel) (by decide +kernel), TB_of (w := Cond.selects RX10 yX10_isSign yX10_isSign) (i := 40) (by decide +kernel) (by decide +kernel), by decide +kernel, TX10, 26, rfl⟩
theorem lX10_134 : LkV RX10 134 mX10_readStatement 1 10 := ⟨TB_of (w := Cond.methodLink RX10 134 yX10_readStatement) (i := 1037) (by decide +kernel) (by decide +kernel), TB_of (w := Cond.instanceMethod yX10_readStatement) (i := 1039) (by decide +kernel) (by decide +kernel), TB_of (w := Cond.selects RX10 yX10_readStatement yX10_readStatement) (i := 41) (by decide +kernel) (by decide +kernel), by decide +kernel, TX10, 26, rfl⟩
theorem lX10_125 : LkV RX10 125 mX10_readTerm 0 10 := ⟨TB_of (w := Cond.methodLink RX10 125 yX10_readTerm) (i := 1041) (by decide +kernel) (by decide +kernel), TB_of (w := Cond.instanceMethod yX10_readTerm) (i := 1043) (by decide +kernel) (by decide +kernel), TB_of (w := Cond.selects RX10 yX10_readTerm yX10_readTerm) (i := 42) (by decide +kernel) (by decide +kernel), by decide +kernel, TX10, 26, rfl⟩
theorem lX10_122 : LkV RX10 122 mX10_readPart 0 10 := ⟨TB_of (w := Cond.methodLink RX10 122 yX10_readPart) (i := 1045) (by decide +kernel) (by decide +kernel), TB_of (w := Cond.instanceMethod yX10_readPart) (i := 1047) (by decide +kernel) (by decide +kernel), TB_of (w := Cond.selects RX10 yX10_readPart yX10_readPart) (i := 43) (by decide +kernel) (by decide +kernel), by decide +kernel, TX10, 26, rfl⟩
theorem lX10_116 : LkV RX10 116 mX10_readConstant 0 10 := ⟨TB_of (w := Cond.methodLink RX10 116 yX10_readConstant) (i := 1049) (by decide +kernel) (by decide +kernel), TB_of (w := Cond.instanceMethod yX10_readConstant) (i := 1051) (by decide +kernel) (by decide +kernel), TB_of (w := Cond.selects RX10 yX10_readConstant yX10_readConstant) (i := 44) (by decide +kernel) (by decide +kernel), by decide +kernel, TX10, 26, rfl⟩
theorem lX10_112 : LkV RX10 112 mX10_addBit 1 10 := ⟨TB_of (w := Cond.methodLink RX10 112 yX10_addBit) (i := 1053) (by decide +kernel) (by decide +kernel), TB_of (w := Cond.instanceMethod yX10_addBit) (i := 1055) (by decide +kernel) (by decide +kernel), TB_of (w := Cond.selects RX10 yX10_addBit yX10_addBit) (i := 45) (by decide +kernel) (by decide +kernel), by decide +kernel, TX10, 26, rfl⟩
theorem lX10_119 : LkV RX10 119 mX10_readRange 0 10 := ⟨TB_of (w := Cond.methodLink RX10 119 yX10_readRange) (i := 1057) (by decide +kernel) (by decide +kernel), TB_of (w := Cond.instanceMethod yX10_readRange) (i := 1059) (by decide +kernel) (by decide +kernel), TB_of (w := Cond.selects RX10 yX10_readRange yX10_readRange) (i := 46) (by decide +kernel) (by decide +kernel), by decide +kernel, TX10, 26, rfl⟩
theorem lX10_128 : LkV RX10 128 mX10_putTerm 1 10 := ⟨TB_of (w := Cond.methodLink RX10 128 yX10_putTerm) (i := 1061) (by decide +kernel) (by decide +kernel), TB_of (w := Cond.instanceMethod yX10_putTerm) (i := 1063) (by decide +kernel) (by decide +kernel), TB_of (w := Cond.selects RX10 yX10_putTerm yX10_putTerm) (i := 47) (by decide +kernel) (by decide +kernel), by decide +kernel, TX10, 26, rfl⟩
theorem lX10_141 : LkV RX10 141 mX10_keep 0 10 := ⟨TB_of (w := Cond.methodLink RX10 141 yX10_keep) (i := 1065) (by decide +kernel) (by decide +kernel), TB_of (w := Cond.instanceMethod yX10_keep) (i := 1067) (by decide +kernel) (by decide +kernel), TB_of (w := Cond.selects RX10 yX10_keep yX10_keep) (i := 48) (by decide +kernel) (by decide +kernel), by decide +kernel, TX10, 26, rfl⟩
theorem lL_30 : LkV "SliceSolverLaw" 30 mX10_removeEquation 1 10 := ⟨TB_of (w := Cond.methodLink "SliceSolverLaw" 30 yX10_removeEquation) (i := 1069) (by decide +kernel) (by decide +kernel), TB_of (w := Cond.instanceMethod yX10_removeEquation) (i := 1070) (by decide +kernel) (by decide +kernel), TB_of (w := Cond.selects RX10 yX10_removeEquation yX10_removeEquation) (i := 1071) (by decide +kernel) (by decide +kernel), by decide +kernel, TX10, 26, rfl⟩
theorem lX10_147 : LkV RX10 147 mX10_removeAt 2 10 := ⟨TB_of (w := Cond.methodLink RX10 147 yX10_removeAt) (i := 1073) (by decide +kernel) (by decide +kernel), TB_of (w := Cond.instanceMethod yX10_removeAt) (i := 1075) (by decide +kernel) (by decide +kernel), TB_of (w := Cond.selects RX10 yX10_removeAt yX10_removeAt) (i := 49) (by decide +kernel) (by decide +kernel), by decide +kernel, TX10, 26, rfl⟩
theorem lL_34 : LkV "SliceSolverLaw" 34 mX10_removeDisequation 1 10 := ⟨TB_of (w := Cond.methodLink "SliceSolverLaw" 34 yX10_removeDisequation) (i := 1077) (by decide +kernel) (by decide +kernel), TB_of (w := Cond.instanceMethod yX10_removeDisequation) (i := 1078) (by decide +kernel) (by decide +kernel), TB_of (w := Cond.selects RX10 yX10_removeDisequation yX10_removeDisequation) (i := 1079) (by decide +kernel) (by decide +kernel), by decide +kernel, TX10, 26, rfl⟩
theorem lL_38 : LkV "SliceSolverLaw" 38 mX10_width 1 10 := ⟨TB_of (w := Cond.methodLink "SliceSolverLaw" 38 yX10_width) (i := 1081) (by decide +kernel) (by decide +kernel), TB_of (w := Cond.instanceMethod yX10_width) (i := 1082) (by decide +kernel) (by decide +kernel), TB_of (w := Cond.selects RX10 yX10_width yX10_width) (i := 1083) (by decide +kernel) (by decide +kernel), by decide +kernel, TX10, 26, rfl⟩
theorem lX10_151 : LkS RX10 151 mX10_isVariable 1 := ⟨TB_of (w := Cond.methodLink RX10 151 yX10_isVariable) (i := 1085) (by decide +kernel) (by decide +kernel), TB_of (w := Cond.static yX10_isVariable) (i := 1086) (by decide +kernel) (by decide +kernel), by decide +kernel⟩
theorem lL_42 : LkV "SliceSolverLaw" 42 mX10_equationCount 0 10 := ⟨TB_of (w := Cond.methodLink "SliceSolverLaw" 42 yX10_equationCount) (i := 1088) (by decide +kernel) (by decide +kernel), TB_of (w := Cond.instanceMethod yX10_equationCount) (i := 1089) (by decide +kernel) (by decide +kernel), TB_of (w := Cond.selects RX10 yX10_equationCount yX10_equationCount) (i := 1090) (by decide +kernel) (by decide +kernel), by decide +kernel, TX10, 26, rfl⟩
theorem lL_46 : LkV "SliceSolverLaw" 46 mX10_disequationCount 0 10 := ⟨TB_of (w := Cond.methodLink "SliceSolverLaw" 46 yX10_disequationCount) (i := 1092) (by decide +kernel) (by decide +kernel), TB_of (w := Cond.instanceMethod yX10_disequationCount) (i := 1093) (by decide +kernel) (by decide +kernel), TB_of (w := Cond.selects RX10 yX10_disequationCount yX10_disequationCount) (i := 1094) (by decide +kernel) (by decide +kernel), by decide +kernel, TX10, 26, rfl⟩
theorem lL_50 : LkV "SliceSolverLaw" 50 mX10_sliceCount 1 10 := ⟨TB_of (w := Cond.methodLink "SliceSolverLaw" 50 yX10_sliceCount) (i := 1096) (by decide +kernel) (by decide +kernel), TB_of (w := Cond.instanceMethod yX10_sliceCount) (i := 1097) (by decide +kernel) (by decide +kernel), TB_of (w := Cond.selects RX10 yX10_sliceCount yX10_sliceCount) (i := 1098) (by decide +kernel) (by decide +kernel), by decide +kernel, TX10, 26, rfl⟩
theorem lX10_188 : LkV RX10 188 mX10_findCuts 0 10 := ⟨TB_of (w := Cond.methodLink RX10 188 yX10_findCuts) (i := 1100) (by decide +kernel) (by decide +kernel), TB_of (w := Cond.instanceMethod yX10_findCuts) (i := 1102) (by decide +kernel) (by decide +kernel), TB_of (w := Cond.selects RX10 yX10_findCuts yX10_findCuts) (i := 50) (by decide +kernel) (by decide +kernel), by decide +kernel, TX10, 26, rfl⟩
theorem lX10_181 : LkV RX10 181 mX10_cutEnds 2 10 := ⟨TB_of (w := Cond.methodLink RX10 181 yX10_cutEnds) (i := 1104) (by decide +kernel) (by decide +kernel), TB_of (w := Cond.instanceMethod yX10_cutEnds) (i := 1106) (by decide +kernel) (by decide +kernel), TB_of (w := Cond.selects RX10 yX10_cutEnds yX10_cutEnds) (i := 51) (by decide +kernel) (by decide +kernel), by decide +kernel, TX10, 26, rfl⟩
theorem lX10_158 : LkV RX10 158 mX10_widthOf 1 10 := ⟨TB_of (w := Cond.methodLink RX10 158 yX10_widthOf) (i := 1108) (by decide +kernel) (by decide +kernel), TB_of (w := Cond.instanceMethod yX10_widthOf) (i := 1110) (by decide +kernel) (by decide +kernel), TB_of (w := Cond.selects RX10 yX10_widthOf yX10_widthOf) (i := 52) (by decide +kernel) (by decide +kernel), by decide +kernel, TX10, 26, rfl⟩
theorem lX10_161 : LkV RX10 161 mX10_bitOf 3 10 := ⟨TB_of (w := Cond.methodLink RX10 161 yX10_bitOf) (i := 1112) (by decide +kernel) (by decide +kernel), TB_of (w := Cond.instanceMethod yX10_bitOf) (i := 1114) (by decide +kernel) (by decide +kernel), TB_of (w := Cond.selects RX10 yX10_bitOf yX10_bitOf) (i := 53) (by decide +kernel) (by decide +kernel), by decide +kernel, TX10, 26, rfl⟩
theorem lX10_165 : LkV RX10 165 mX10_isOfVariable 1 10 := ⟨TB_of (w := Cond.methodLink RX10 165 yX10_isOfVariable) (i := 1116) (by decide +kernel) (by decide +kernel), TB_of (w := Cond.instanceMethod yX10_isOfVariable) (i := 1118) (by decide +kernel) (by decide +kernel), TB_of (w := Cond.selects RX10 yX10_isOfVariable yX10_isOfVariable) (i := 54) (by decide +kernel) (by decide +kernel), by decide +kernel, TX10, 26, rfl⟩
theorem lX10_168 : LkS RX10 168 mX10_variableBit 1 := ⟨TB_of (w := Cond.methodLink RX10 168 yX10_variableBit) (i := 1120) (by decide +kernel) (by decide +kernel), TB_of (w := Cond.static yX10_variableBit) (i := 1121) (by decide +kernel) (by decide +kernel), by decide +kernel⟩
theorem lX10_171 : LkS RX10 171 mX10_areOfOnePart 2 := ⟨TB_of (w := Cond.methodLink RX10 171 yX10_areOfOnePart) (i := 1123) (by decide +kernel) (by decide +kernel), TB_of (w := Cond.static yX10_areOfOnePart) (i := 1124) (by decide +kernel) (by decide +kernel), by decide +kernel⟩
theorem lX10_175 : LkV RX10 175 mX10_addCut 1 10 := ⟨TB_of (w := Cond.methodLink RX10 175 yX10_addCut) (i := 1126) (by decide +kernel) (by decide +kernel), TB_of (w := Cond.instanceMethod yX10_addCut) (i := 1128) (by decide +kernel) (by decide +kernel), TB_of (w := Cond.selects RX10 yX10_addCut yX10_addCut) (i := 55) (by decide +kernel) (by decide +kernel), by decide +kernel, TX10, 26, rfl⟩
theorem lX10_184 : LkV RX10 184 mX10_carry 3 10 := ⟨TB_of (w := Cond.methodLink RX10 184 yX10_carry) (i := 1130) (by decide +kernel) (by decide +kernel), TB_of (w := Cond.instanceMethod yX10_carry) (i := 1132) (by decide +kernel) (by decide +kernel), TB_of (w := Cond.selects RX10 yX10_carry yX10_carry) (i := 56) (by decide +kernel) (by decide +kernel), by decide +kernel, TX10, 26, rfl⟩
theorem lX10_178 : LkV RX10 178 mX10_isMarked 3 10 := ⟨TB_of (w := Cond.methodLink RX10 178 yX10_isMarked) (i := 1134) (by decide +kernel) (by decide +kernel), TB_of (w := Cond.instanceMethod yX10_isMarked) (i := 1136) (by decide +kernel) (by decide +kernel), TB_of (w := Cond.selects RX10 yX10_isMarked yX10_isMarked) (i := 57) (by decide +kernel) (by decide +kernel), by decide +kernel, TX10, 26, rfl⟩
theorem lX10_191 : LkV RX10 191 mX10_slicesOf 1 10 := ⟨TB_of (w := Cond.methodLink RX10 191 yX10_slicesOf) (i := 1138) (by decide +kernel) (by decide +kernel), TB_of (w := Cond.instanceMethod yX10_slicesOf) (i := 1140) (by decide +kernel) (by decide +kernel), TB_of (w := Cond.selects RX10 yX10_slicesOf yX10_slicesOf) (i := 58) (by decide +kernel) (by decide +kernel), by decide +kernel, TX10, 26, rfl⟩
theorem lL_55 : LkV "SliceSolverLaw" 55 mX10_sliceStart 2 10 := ⟨TB_of (w := Cond.methodLink "SliceSolverLaw" 55 yX10_sliceStart) (i := 1142) (by decide +kernel) (by decide +kernel), TB_of (w := Cond.instanceMethod yX10_sliceStart) (i := 1143) (by decide +kernel) (by decide +kernel), TB_of (w := Cond.selects RX10 yX10_sliceStart yX10_sliceStart) (i := 1144) (by decide +kernel) (by decide +kernel), by decide +kernel, TX10, 26, rfl⟩
theorem lX10_194 : LkV RX10 194 mX10_isSlice 2 10 := ⟨TB_of (w := Cond.methodLink RX10 194 yX10_isSlice) (i := 1146) (by decide +kernel) (by decide +kernel), TB_of (w := Cond.instanceMethod yX10_isSlice) (i := 1148) (by decide +kernel) (by decide +kernel), TB_of (w := Cond.selects RX10 yX10_isSlice yX10_isSlice) (i := 59) (by decide +kernel) (by decide +kernel), by decide +kernel, TX10, 26, rfl⟩
theorem lX10_197 : LkV RX10 197 mX10_startOf 2 10 := ⟨TB_of (w := Cond.methodLink RX10 197 yX10_startOf) (i := 1150) (by decide +kernel) (by decide +kernel), TB_of (w := Cond.instanceMethod yX10_startOf) (i := 1152) (by decide +kernel) (by decide +kernel), TB_of (w := Cond.selects RX10 yX10_startOf yX10_startOf) (i := 60) (by decide +kernel) (by decide +kernel), by decide +kernel, TX10, 26, rfl⟩
theorem lL_59 : LkV "SliceSolverLaw" 59 mX10_sliceWidth 2 10 := ⟨TB_of (w := Cond.methodLink "SliceSolverLaw" 59 yX10_sliceWidth) (i := 1154) (by decide +kernel) (by decide +kernel), TB_of (w := Cond.instanceMethod yX10_sliceWidth) (i := 1155) (by decide +kernel) (by decide +kernel), TB_of (w := Cond.selects RX10 yX10_sliceWidth yX10_sliceWidth) (i := 1156) (by decide +kernel) (by decide +kernel), by decide +kernel, TX10, 26, rfl⟩
theorem lL_63 : LkV "SliceSolverLaw" 63 mX10_representative 2 10 := ⟨TB_of (w := Cond.methodLink "SliceSolverLaw" 63 yX10_representative) (i := 1158) (by decide +kernel) (by decide +kernel), TB_of (w := Cond.instanceMethod yX10_representative) (i := 1159) (by decide +kernel) (by decide +kernel), TB_of (w := Cond.selects RX10 yX10_representative yX10_representative) (i := 1160) (by decide +kernel) (by decide +kernel), by decide +kernel, TX10, 26, rfl⟩
theorem lX10_221 : LkV RX10 221 mX10_solveAll 0 10 := ⟨TB_of (w := Cond.methodLink RX10 221 yX10_solveAll) (i := 1162) (by decide +kernel) (by decide +kernel), TB_of (w := Cond.instanceMethod yX10_solveAll) (i := 1164) (by decide +kernel) (by decide +kernel), TB_of (w := Cond.selects RX10 yX10_solveAll yX10_solveAll) (i := 61) (by decide +kernel) (by decide +kernel), by decide +kernel, TX10, 26, rfl⟩
theorem lX10_218 : LkV RX10 218 mX10_solve 1 10 := ⟨TB_of (w := Cond.methodLink RX10 218 yX10_solve) (i := 1166) (by decide +kernel) (by decide +kernel), TB_of (w := Cond.instanceMethod yX10_solve) (i := 1168) (by decide +kernel) (by decide +kernel), TB_of (w := Cond.selects RX10 yX10_solve yX10_solve) (i := 62) (by decide +kernel) (by decide +kernel), by decide +kernel, TX10, 26, rfl⟩
theorem lX10_215 : LkV RX10 215 mX10_equateTerms 1 10 := ⟨TB_of (w := Cond.methodLink RX10 215 yX10_equateTerms) (i := 1170) (by decide +kernel) (by decide +kernel), TB_of (w := Cond.instanceMethod yX10_equateTerms) (i := 1172) (by decide +kernel) (by decide +kernel), TB_of (w := Cond.selects RX10 yX10_equateTerms yX10_equateTerms) (i := 63) (by decide +kernel) (by decide +kernel), by decide +kernel, TX10, 26, rfl⟩
theorem lX10_212 : LkV RX10 212 mX10_equate 2 10 := ⟨TB_of (w := Cond.methodLink RX10 212 yX10_equate) (i := 1174) (by decide +kernel) (by decide +kernel), TB_of (w := Cond.instanceMethod yX10_equate) (i := 1176) (by decide +kernel) (by decide +kernel), TB_of (w := Cond.selects RX10 yX10_equate yX10_equate) (i := 64) (by decide +kernel) (by decide +kernel), by decide +kernel, TX10, 26, rfl⟩
theorem lX10_203 : LkV RX10 203 mX10_rootOf 1 10 := ⟨TB_of (w := Cond.methodLink RX10 203 yX10_rootOf) (i := 1178) (by decide +kernel) (by decide +kernel), TB_of (w := Cond.instanceMethod yX10_rootOf) (i := 1180) (by decide +kernel) (by decide +kernel), TB_of (w := Cond.selects RX10 yX10_rootOf yX10_rootOf) (i := 65) (by decide +kernel) (by decide +kernel), by decide +kernel, TX10, 26, rfl⟩
theorem lX10_206 : LkV RX10 206 mX10_fix 2 10 := ⟨TB_of (w := Cond.methodLink RX10 206 yX10_fix) (i := 1182) (by decide +kernel) (by decide +kernel), TB_of (w := Cond.instanceMethod yX10_fix) (i := 1184) (by decide +kernel) (by decide +kernel), TB_of (w := Cond.selects RX10 yX10_fix yX10_fix) (i := 66) (by decide +kernel) (by decide +kernel), by decide +kernel, TX10, 26, rfl⟩
theorem lX10_209 : LkV RX10 209 mX10_join 2 10 := ⟨TB_of (w := Cond.methodLink RX10 209 yX10_join) (i := 1186) (by decide +kernel) (by decide +kernel), TB_of (w := Cond.instanceMethod yX10_join) (i := 1188) (by decide +kernel) (by decide +kernel), TB_of (w := Cond.selects RX10 yX10_join yX10_join) (i := 67) (by decide +kernel) (by decide +kernel), by decide +kernel, TX10, 26, rfl⟩
theorem lX10_224 : LkV RX10 224 mX10_sliceOfBit 2 10 := ⟨TB_of (w := Cond.methodLink RX10 224 yX10_sliceOfBit) (i := 1190) (by decide +kernel) (by decide +kernel), TB_of (w := Cond.instanceMethod yX10_sliceOfBit) (i := 1192) (by decide +kernel) (by decide +kernel), TB_of (w := Cond.selects RX10 yX10_sliceOfBit yX10_sliceOfBit) (i := 68) (by decide +kernel) (by decide +kernel), by decide +kernel, TX10, 26, rfl⟩
theorem lL_67 : LkV "SliceSolverLaw" 67 mX10_classCount 0 10 := ⟨TB_of (w := Cond.methodLink "SliceSolverLaw" 67 yX10_classCount) (i := 1194) (by decide +kernel) (by decide +kernel), TB_of (w := Cond.instanceMethod yX10_classCount) (i := 1195) (by decide +kernel) (by decide +kernel), TB_of (w := Cond.selects RX10 yX10_classCount yX10_classCount) (i := 1196) (by decide +kernel) (by decide +kernel), by decide +kernel, TX10, 26, rfl⟩
theorem lL_71 : LkV "SliceSolverLaw" 71 mX10_isConsistent 0 10 := ⟨TB_of (w := Cond.methodLink "SliceSolverLaw" 71 yX10_isConsistent) (i := 1198) (by decide +kernel) (by decide +kernel), TB_of (w := Cond.instanceMethod yX10_isConsistent) (i := 1199) (by decide +kernel) (by decide +kernel), TB_of (w := Cond.selects RX10 yX10_isConsistent yX10_isConsistent) (i := 1200) (by decide +kernel) (by decide +kernel), by decide +kernel, TX10, 26, rfl⟩
theorem lL_75 : LkV "SliceSolverLaw" 75 mX10_firstConflict 0 10 := ⟨TB_of (w := Cond.methodLink "SliceSolverLaw" 75 yX10_firstConflict) (i := 1202) (by decide +kernel) (by decide +kernel), TB_of (w := Cond.instanceMethod yX10_firstConflict) (i := 1203) (by decide +kernel) (by decide +kernel), TB_of (w := Cond.selects RX10 yX10_firstConflict yX10_firstConflict) (i := 1204) (by decide +kernel) (by decide +kernel), by decide +kernel, TX10, 26, rfl⟩
theorem lL_79 : LkV "SliceSolverLaw" 79 mX10_conflictSet 0 10 := ⟨TB_of (w := Cond.methodLink "SliceSolverLaw" 79 yX10_conflictSet) (i := 1206) (by decide +kernel) (by decide +kernel), TB_of (w := Cond.instanceMethod yX10_conflictSet) (i := 1207) (by decide +kernel) (by decide +kernel), TB_of (w := Cond.selects RX10 yX10_conflictSet yX10_conflictSet) (i := 1208) (by decide +kernel) (by decide +kernel), by decide +kernel, TX10, 26, rfl⟩
theorem lL_83 : LkV "SliceSolverLaw" 83 mX10_fixedBit 2 10 := ⟨TB_of (w := Cond.methodLink "SliceSolverLaw" 83 yX10_fixedBit) (i := 1210) (by decide +kernel) (by decide +kernel), TB_of (w := Cond.instanceMethod yX10_fixedBit) (i := 1211) (by decide +kernel) (by decide +kernel), TB_of (w := Cond.selects RX10 yX10_fixedBit yX10_fixedBit) (i := 1212) (by decide +kernel) (by decide +kernel), by decide +kernel, TX10, 26, rfl⟩
theorem lX10_227 : LkV RX10 227 mX10_isBit 2 10 := ⟨TB_of (w := Cond.methodLink RX10 227 yX10_isBit) (i := 1214) (by decide +kernel) (by decide +kernel), TB_of (w := Cond.instanceMethod yX10_isBit) (i := 1216) (by decide +kernel) (by decide +kernel), TB_of (w := Cond.selects RX10 yX10_isBit yX10_isBit) (i := 69) (by decide +kernel) (by decide +kernel), by decide +kernel, TX10, 26, rfl⟩
theorem lL_88 : LkV "SliceSolverLaw" 88 mX10_compareBits 4 10 := ⟨TB_of (w := Cond.methodLink "SliceSolverLaw" 88 yX10_compareBits) (i := 1218) (by decide +kernel) (by decide +kernel), TB_of (w := Cond.instanceMethod yX10_compareBits) (i := 1219) (by decide +kernel) (by decide +kernel), TB_of (w := Cond.selects RX10 yX10_compareBits yX10_compareBits) (i := 1220) (by decide +kernel) (by decide +kernel), by decide +kernel, TX10, 26, rfl⟩
theorem lL_92 : LkV "SliceSolverLaw" 92 mX10_freeBits 0 10 := ⟨TB_of (w := Cond.methodLink "SliceSolverLaw" 92 yX10_freeBits) (i := 1222) (by decide +kernel) (by decide +kernel), TB_of (w := Cond.instanceMethod yX10_freeBits) (i := 1223) (by decide +kernel) (by decide +kernel), TB_of (w := Cond.selects RX10 yX10_freeBits yX10_freeBits) (i := 1224) (by decide +kernel) (by decide +kernel), by decide +kernel, TX10, 26, rfl⟩
theorem lX10_230 : LkV RX10 230 mX10_isFree 1 10 := ⟨TB_of (w := Cond.methodLink RX10 230 yX10_isFree) (i := 1226) (by decide +kernel) (by decide +kernel), TB_of (w := Cond.instanceMethod yX10_isFree) (i := 1228) (by decide +kernel) (by decide +kernel), TB_of (w := Cond.selects RX10 yX10_isFree yX10_isFree) (i := 70) (by decide +kernel) (by decide +kernel), by decide +kernel, TX10, 26, rfl⟩
theorem lL_96 : LkV "SliceSolverLaw" 96 mX10_isSatisfiable 0 10 := ⟨TB_of (w := Cond.methodLink "SliceSolverLaw" 96 yX10_isSatisfiable) (i := 1230) (by decide +kernel) (by decide +kernel), TB_of (w := Cond.instanceMethod yX10_isSatisfiable) (i := 1231) (by decide +kernel) (by decide +kernel), TB_of (w := Cond.selects RX10 yX10_isSatisfiable yX10_isSatisfiable) (i := 1232) (by decide +kernel) (by decide +kernel), by decide +kernel, TX10, 26, rfl⟩
theorem lX10_257 : LkV RX10 257 mX10_choose 0 10 := ⟨TB_of (w := Cond.methodLink RX10 257 yX10_choose) (i := 1234) (by decide +kernel) (by decide +kernel), TB_of (w := Cond.instanceMethod yX10_choose) (i := 1236) (by decide +kernel) (by decide +kernel), TB_of (w := Cond.selects RX10 yX10_choose yX10_choose) (i := 71) (by decide +kernel) (by decide +kernel), by decide +kernel, TX10, 26, rfl⟩
theorem lX10_251 : LkV RX10 251 mX10_findUsed 0 10 := ⟨TB_of (w := Cond.methodLink RX10 251 yX10_findUsed) (i := 1238) (by decide +kernel) (by decide +kernel), TB_of (w := Cond.instanceMethod yX10_findUsed) (i := 1240) (by decide +kernel) (by decide +kernel), TB_of (w := Cond.selects RX10 yX10_findUsed yX10_findUsed) (i := 72) (by decide +kernel) (by decide +kernel), by decide +kernel, TX10, 26, rfl⟩
theorem lX10_245 : LkV RX10 245 mX10_occurs 1 10 := ⟨TB_of (w := Cond.methodLink RX10 245 yX10_occurs) (i := 1242) (by decide +kernel) (by decide +kernel), TB_of (w := Cond.instanceMethod yX10_occurs) (i := 1244) (by decide +kernel) (by decide +kernel), TB_of (w := Cond.selects RX10 yX10_occurs yX10_occurs) (i := 73) (by decide +kernel) (by decide +kernel), by decide +kernel, TX10, 26, rfl⟩
theorem lX10_254 : LkV RX10 254 mX10_search 1 10 := ⟨TB_of (w := Cond.methodLink RX10 254 yX10_search) (i := 1246) (by decide +kernel) (by decide +kernel), TB_of (w := Cond.instanceMethod yX10_search) (i := 1248) (by decide +kernel) (by decide +kernel), TB_of (w := Cond.selects RX10 yX10_search yX10_search) (i := 74) (by decide +kernel) (by decide +kernel), by decide +kernel, TX10, 26, rfl⟩
theorem lX10_248 : LkV RX10 248 mX10_isModel 0 10 := ⟨TB_of (w := Cond.methodLink RX10 248 yX10_isModel) (i := 1250) (by decide +kernel) (by decide +kernel), TB_of (w := Cond.instanceMethod yX10_isModel) (i := 1252) (by decide +kernel) (by decide +kernel), TB_of (w := Cond.selects RX10 yX10_isModel yX10_isModel) (i := 75) (by decide +kernel) (by decide +kernel), by decide +kernel, TX10, 26, rfl⟩
theorem lX10_239 : LkV RX10 239 mX10_holds 1 10 := ⟨TB_of (w := Cond.methodLink RX10 239 yX10_holds) (i := 1254) (by decide +kernel) (by decide +kernel), TB_of (w := Cond.instanceMethod yX10_holds) (i := 1256) (by decide +kernel) (by decide +kernel), TB_of (w := Cond.selects RX10 yX10_holds yX10_holds) (i := 76) (by decide +kernel) (by decide +kernel), by decide +kernel, TX10, 26, rfl⟩
theorem lX10_236 : LkV RX10 236 mX10_valueOf 1 10 := ⟨TB_of (w := Cond.methodLink RX10 236 yX10_valueOf) (i := 1258) (by decide +kernel) (by decide +kernel), TB_of (w := Cond.instanceMethod yX10_valueOf) (i := 1260) (by decide +kernel) (by decide +kernel), TB_of (w := Cond.selects RX10 yX10_valueOf yX10_valueOf) (i := 77) (by decide +kernel) (by decide +kernel), by decide +kernel, TX10, 26, rfl⟩
theorem lL_100 : LkV "SliceSolverLaw" 100 mX10_oneBits 0 10 := ⟨TB_of (w := Cond.methodLink "SliceSolverLaw" 100 yX10_oneBits) (i := 1262) (by decide +kernel) (by decide +kernel), TB_of (w := Cond.instanceMethod yX10_oneBits) (i := 1263) (by decide +kernel) (by decide +kernel), TB_of (w := Cond.selects RX10 yX10_oneBits yX10_oneBits) (i := 1264) (by decide +kernel) (by decide +kernel), by decide +kernel, TX10, 26, rfl⟩
theorem lL_104 : LkV "SliceSolverLaw" 104 mX10_value 1 10 := ⟨TB_of (w := Cond.methodLink "SliceSolverLaw" 104 yX10_value) (i := 1266) (by decide +kernel) (by decide +kernel), TB_of (w := Cond.instanceMethod yX10_value) (i := 1267) (by decide +kernel) (by decide +kernel), TB_of (w := Cond.selects RX10 yX10_value yX10_value) (i := 1268) (by decide +kernel) (by decide +kernel), by decide +kernel, TX10, 26, rfl⟩
theorem lL_108 : LkV "SliceSolverLaw" 108 mX10_isImplied 1 10 := ⟨TB_of (w := Cond.methodLink "SliceSolverLaw" 108 yX10_isImplied) (i := 1270) (by decide +kernel) (by decide +kernel), TB_of (w := Cond.instanceMethod yX10_isImplied) (i := 1271) (by decide +kernel) (by decide +kernel), TB_of (w := Cond.selects RX10 yX10_isImplied yX10_isImplied) (i := 1272) (by decide +kernel) (by decide +kernel), by decide +kernel, TX10, 26, rfl⟩
theorem lL_112 : LkV "SliceSolverLaw" 112 mX10_undo 0 10 := ⟨TB_of (w := Cond.methodLink "SliceSolverLaw" 112 yX10_undo) (i := 1274) (by decide +kernel) (by decide +kernel), TB_of (w := Cond.instanceMethod yX10_undo) (i := 1275) (by decide +kernel) (by decide +kernel), TB_of (w := Cond.selects RX10 yX10_undo yX10_undo) (i := 1276) (by decide +kernel) (by decide +kernel), by decide +kernel, TX10, 26, rfl⟩
theorem lL_116 : LkV "SliceSolverLaw" 116 mX10_undoDepth 0 10 := ⟨TB_of (w := Cond.methodLink "SliceSolverLaw" 116 yX10_undoDepth) (i := 1278) (by decide +kernel) (by decide +kernel), TB_of (w := Cond.instanceMethod yX10_undoDepth) (i := 1279) (by decide +kernel) (by decide +kernel), TB_of (w := Cond.selects RX10 yX10_undoDepth yX10_undoDepth) (i := 1280) (by decide +kernel) (by decide +kernel), by decide +kernel, TX10, 26, rfl⟩
theorem lL_120 : LkV "SliceSolverLaw" 120 mX10_save 1 10 := ⟨TB_of (w := Cond.methodLink "SliceSolverLaw" 120 yX10_save) (i := 1282) (by decide +kernel) (by decide +kernel), TB_of (w := Cond.instanceMethod yX10_save) (i := 1283) (by decide +kernel) (by decide +kernel), TB_of (w := Cond.selects RX10 yX10_save yX10_save) (i := 1284) (by decide +kernel) (by decide +kernel), by decide +kernel, TX10, 26, rfl⟩
theorem lL_124 : LkV "SliceSolverLaw" 124 mX10_restore 1 10 := ⟨TB_of (w := Cond.methodLink "SliceSolverLaw" 124 yX10_restore) (i := 1286) (by decide +kernel) (by decide +kernel), TB_of (w := Cond.instanceMethod yX10_restore) (i := 1287) (by decide +kernel) (by decide +kernel), TB_of (w := Cond.selects RX10 yX10_restore yX10_restore) (i := 1288) (by decide +kernel) (by decide +kernel), by decide +kernel, TX10, 26, rfl⟩
theorem lX9_11 : LkIN RX9 11 mX8_init 0 := ⟨by decide +kernel, TB_of (w := Cond.instanceMethod yX8_init) (i := 109) (by decide +kernel) (by decide +kernel), rfl, by decide +kernel⟩
theorem lX5_11 : LkIN RX5 11 mX7_init 0 := ⟨by decide +kernel, TB_of (w := Cond.instanceMethod yX7_init) (i := 145) (by decide +kernel) (by decide +kernel), rfl, by decide +kernel⟩
theorem lX9_27 : LkIN RX9 27 mX4_init 0 := ⟨by decide +kernel, TB_of (w := Cond.instanceMethod yX4_init) (i := 174) (by decide +kernel) (by decide +kernel), rfl, by decide +kernel⟩
theorem lX2_17 : LkIN RX2 17 mX4_init 0 := ⟨by decide +kernel, TB_of (w := Cond.instanceMethod yX4_init) (i := 174) (by decide +kernel) (by decide +kernel), rfl, by decide +kernel⟩
theorem lX9_50 : LkIN RX9 50 mX1_init 0 := ⟨by decide +kernel, TB_of (w := Cond.instanceMethod yX1_init) (i := 236) (by decide +kernel) (by decide +kernel), rfl, by decide +kernel⟩
theorem lX9_67 : LkIN RX9 67 mX3_init 0 := ⟨by decide +kernel, TB_of (w := Cond.instanceMethod yX3_init) (i := 269) (by decide +kernel) (by decide +kernel), rfl, by decide +kernel⟩
theorem lX4_27 : LkSN RX4 27 mX9_isVariable 1 := ⟨by decide +kernel, TB_of (w := Cond.static yX9_isVariable) (i := 457) (by decide +kernel) (by decide +kernel), by decide +kernel⟩
theorem lX5_111 : LkSN RX5 111 mX9_nodeOf 2 := ⟨by decide +kernel, TB_of (w := Cond.static yX9_nodeOf) (i := 516) (by decide +kernel) (by decide +kernel), by decide +kernel⟩
theorem lX1_54 : LkSN RX1 54 mX9_isConstantNode 1 := ⟨by decide +kernel, TB_of (w := Cond.static yX9_isConstantNode) (i := 608) (by decide +kernel) (by decide +kernel), by decide +kernel⟩
theorem lX1_62 : LkSN RX1 62 mX9_variableOf 1 := ⟨by decide +kernel, TB_of (w := Cond.static yX9_variableOf) (i := 615) (by decide +kernel) (by decide +kernel), by decide +kernel⟩
theorem lX1_65 : LkSN RX1 65 mX9_bitOf 1 := ⟨by decide +kernel, TB_of (w := Cond.static yX9_bitOf) (i := 618) (by decide +kernel) (by decide +kernel), by decide +kernel⟩
theorem lX0_31 : LkSN RX0 31 mX9_isConstantNode 1 := ⟨by decide +kernel, TB_of (w := Cond.static yX9_isConstantNode) (i := 608) (by decide +kernel) (by decide +kernel), by decide +kernel⟩
theorem kL_7 : CLk "SliceSolverLaw" 7 9 13 [.null, .null, .null, .null, .null, .null, .null, .int 0, .null, .null, .null, .null, .int 0] := ⟨RX9, TX9, tyX9, rfl, lay_X9, tyX9_ok, TB_of (w := Cond.classLink "SliceSolverLaw" 7 RX9) (i := 98) (by decide +kernel) (by decide +kernel), TB_of (w := Cond.instantiable RX9 13) (i := 99) (by decide +kernel) (by decide +kernel), ini_X9, by decide +kernel⟩
theorem kL_7w : Cond.classLink "SliceSolverLaw" 7 RX9 ∈ TB := TB_of (w := Cond.classLink "SliceSolverLaw" 7 RX9) (i := 98) (by decide +kernel) (by decide +kernel)
theorem kX9_9 : CLk RX9 9 8 7 [.null, .int 0, .null, .null, .null, .int 0, .int 0] := ⟨RX8, TX8, tyX8, rfl, lay_X8, tyX8_ok, TB_of (w := Cond.classLink RX9 9 RX8) (i := 106) (by decide +kernel) (by decide +kernel), TB_of (w := Cond.instantiable RX8 7) (i := 107) (by decide +kernel) (by decide +kernel), ini_X8, by decide +kernel⟩
theorem kX9_9w : Cond.classLink RX9 9 RX8 ∈ TB := TB_of (w := Cond.classLink RX9 9 RX8) (i := 106) (by decide +kernel) (by decide +kernel)
theorem kX9_16 : CLk RX9 16 5 4 [.null, .null, .int 0, .int 0] := ⟨RX5, TX5, tyX5, rfl, lay_X5, tyX5_ok, TB_of (w := Cond.classLink RX9 16 RX5) (i := 136) (by decide +kernel) (by decide +kernel), TB_of (w := Cond.instantiable RX5 4) (i := 137) (by decide +kernel) (by decide +kernel), ini_X5, by decide +kernel⟩
theorem kX9_16w : Cond.classLink RX9 16 RX5 ∈ TB := TB_of (w := Cond.classLink RX9 16 RX5) (i := 136) (by decide +kernel) (by decide +kernel)
theorem kX5_9 : CLk RX5 9 7 3 [.null, .int 0, .int 0] := ⟨RX7, TX7, tyX7, rfl, lay_X7, tyX7_ok, TB_of (w := Cond.classLink RX5 9 RX7) (i := 142) (by decide +kernel) (by decide +kernel), TB_of (w := Cond.instantiable RX7 3) (i := 143) (by decide +kernel) (by decide +kernel), ini_X7, by decide +kernel⟩
theorem kX5_9w : Cond.classLink RX5 9 RX7 ∈ TB := TB_of (w := Cond.classLink RX5 9 RX7) (i := 142) (by decide +kernel) (by decide +kernel)
theorem kX9_25 : CLk RX9 25 4 3 [.null, .null, .null] := ⟨RX4, TX4, tyX4, rfl, lay_X4, tyX4_ok, TB_of (w := Cond.classLink RX9 25 RX4) (i := 171) (by decide +kernel) (by decide +kernel), TB_of (w := Cond.instantiable RX4 3) (i := 172) (by decide +kernel) (by decide +kernel), ini_X4, by decide +kernel⟩
theorem kX9_25w : Cond.classLink RX9 25 RX4 ∈ TB := TB_of (w := Cond.classLink RX9 25 RX4) (i := 171) (by decide +kernel) (by decide +kernel)
theorem kX4_15 : CLk RX4 15 6 5 [.int 0, .int 0, .null, .null, .null] := ⟨RX6, TX6, tyX6, rfl, lay_X6, tyX6_ok, TB_of (w := Cond.classLink RX4 15 RX6) (i := 177) (by decide +kernel) (by decide +kernel), TB_of (w := Cond.instantiable RX6 5) (i := 178) (by decide +kernel) (by decide +kernel), ini_X6, by decide +kernel⟩
theorem kX4_15w : Cond.classLink RX4 15 RX6 ∈ TB := TB_of (w := Cond.classLink RX4 15 RX6) (i := 177) (by decide +kernel) (by decide +kernel)
theorem kX9_35 : CLk RX9 35 2 2 [.null, .int 0] := ⟨RX2, TX2, tyX2, rfl, lay_X2, tyX2_ok, TB_of (w := Cond.classLink RX9 35 RX2) (i := 217) (by decide +kernel) (by decide +kernel), TB_of (w := Cond.instantiable RX2 2) (i := 218) (by decide +kernel) (by decide +kernel), ini_X2, by decide +kernel⟩
theorem kX9_35w : Cond.classLink RX9 35 RX2 ∈ TB := TB_of (w := Cond.classLink RX9 35 RX2) (i := 217) (by decide +kernel) (by decide +kernel)
theorem kX2_9 : CLk RX2 9 4 3 [.null, .null, .null] := ⟨RX4, TX4, tyX4, rfl, lay_X4, tyX4_ok, TB_of (w := Cond.classLink RX2 9 RX4) (i := 223) (by decide +kernel) (by decide +kernel), TB_of (w := Cond.instantiable RX4 3) (i := 172) (by decide +kernel) (by decide +kernel), ini_X4, by decide +kernel⟩
theorem kX2_9w : Cond.classLink RX2 9 RX4 ∈ TB := TB_of (w := Cond.classLink RX2 9 RX4) (i := 223) (by decide +kernel) (by decide +kernel)
theorem kX9_48 : CLk RX9 48 1 1 [.null] := ⟨RX1, TX1, tyX1, rfl, lay_X1, tyX1_ok, TB_of (w := Cond.classLink RX9 48 RX1) (i := 233) (by decide +kernel) (by decide +kernel), TB_of (w := Cond.instantiable RX1 1) (i := 234) (by decide +kernel) (by decide +kernel), ini_X1, by decide +kernel⟩
theorem kX9_48w : Cond.classLink RX9 48 RX1 ∈ TB := TB_of (w := Cond.classLink RX9 48 RX1) (i := 233) (by decide +kernel) (by decide +kernel)
theorem kX9_55 : CLk RX9 55 0 3 [.null, .null, .int 0] := ⟨RX0, TX0, tyX0, rfl, lay_X0, tyX0_ok, TB_of (w := Cond.classLink RX9 55 RX0) (i := 243) (by decide +kernel) (by decide +kernel), TB_of (w := Cond.instantiable RX0 3) (i := 244) (by decide +kernel) (by decide +kernel), ini_X0, by decide +kernel⟩
theorem kX9_55w : Cond.classLink RX9 55 RX0 ∈ TB := TB_of (w := Cond.classLink RX9 55 RX0) (i := 243) (by decide +kernel) (by decide +kernel)
theorem kX9_65 : CLk RX9 65 3 5 [.null, .null, .int 0, .null, .int 0] := ⟨RX3, TX3, tyX3, rfl, lay_X3, tyX3_ok, TB_of (w := Cond.classLink RX9 65 RX3) (i := 266) (by decide +kernel) (by decide +kernel), TB_of (w := Cond.instantiable RX3 5) (i := 267) (by decide +kernel) (by decide +kernel), ini_X3, by decide +kernel⟩
theorem kX9_65w : Cond.classLink RX9 65 RX3 ∈ TB := TB_of (w := Cond.classLink RX9 65 RX3) (i := 266) (by decide +kernel) (by decide +kernel)
theorem kL_10 : CLk "SliceSolverLaw" 10 10 26 [.int 0, .null, .null, .null, .int 0, .null, .null, .null, .int 0, .int 0, .int 0, .int 0, .int 0, .int 0, .null, .int 0, .int 0, .null, .int 0, .null, .null, .int 0, .null, .int 0, .null, .int 0] := ⟨RX10, TX10, tyX10, rfl, lay_X10, tyX10_ok, TB_of (w := Cond.classLink "SliceSolverLaw" 10 RX10) (i := 893) (by decide +kernel) (by decide +kernel), TB_of (w := Cond.instantiable RX10 26) (i := 894) (by decide +kernel) (by decide +kernel), ini_X10, by decide +kernel⟩
theorem kL_10w : Cond.classLink "SliceSolverLaw" 10 RX10 ∈ TB := TB_of (w := Cond.classLink "SliceSolverLaw" 10 RX10) (i := 893) (by decide +kernel) (by decide +kernel)
theorem arrW_int : Cond.arrayClass .int ∈ TB := TB_of (w := Cond.arrayClass .int) (i := 135) (by decide +kernel) (by decide +kernel)
theorem arrW_long : Cond.arrayClass .long ∈ TB := TB_of (w := Cond.arrayClass .long) (i := 288) (by decide +kernel) (by decide +kernel)
theorem arrW_boolean : Cond.arrayClass .boolean ∈ TB := TB_of (w := Cond.arrayClass .boolean) (i := 978) (by decide +kernel) (by decide +kernel)
theorem arrW_char : Cond.arrayClass .char ∈ TB := TB_of (w := Cond.arrayClass .char) (i := 134) (by decide +kernel) (by decide +kernel)
theorem lX9_3 : Cond.methodLink RX9 3 Lib.objectInit ∈ TB := TB_of (i := 103) (by decide +kernel) (by decide +kernel)
theorem lX8_3 : Cond.methodLink RX8 3 Lib.objectInit ∈ TB := TB_of (i := 111) (by decide +kernel) (by decide +kernel)
theorem lX5_3 : Cond.methodLink RX5 3 Lib.objectInit ∈ TB := TB_of (i := 141) (by decide +kernel) (by decide +kernel)
theorem lX7_3 : Cond.methodLink RX7 3 Lib.objectInit ∈ TB := TB_of (i := 147) (by decide +kernel) (by decide +kernel)
theorem lX4_3 : Cond.methodLink RX4 3 Lib.objectInit ∈ TB := TB_of (i := 176) (by decide +kernel) (by decide +kernel)
theorem lX6_3 : Cond.methodLink RX6 3 Lib.objectInit ∈ TB := TB_of (i := 182) (by decide +kernel) (by decide +kernel)
theorem lX6_9 : Cond.methodLink RX6 9 Lib.Math.max.name ∈ TB := TB_of (i := 183) (by decide +kernel) (by decide +kernel)
theorem lX2_3 : Cond.methodLink RX2 3 Lib.objectInit ∈ TB := TB_of (i := 222) (by decide +kernel) (by decide +kernel)
theorem lX1_3 : Cond.methodLink RX1 3 Lib.objectInit ∈ TB := TB_of (i := 238) (by decide +kernel) (by decide +kernel)
theorem lX0_3 : Cond.methodLink RX0 3 Lib.objectInit ∈ TB := TB_of (i := 248) (by decide +kernel) (by decide +kernel)
theorem lX3_3 : Cond.methodLink RX3 3 Lib.objectInit ∈ TB := TB_of (i := 271) (by decide +kernel) (by decide +kernel)
theorem lX4_44 : Cond.methodLink RX4 44 arraycopyName ∈ TB := TB_of (i := 562) (by decide +kernel) (by decide +kernel)
theorem lX6_55 : Cond.methodLink RX6 55 Lib.Math.min.name ∈ TB := TB_of (i := 569) (by decide +kernel) (by decide +kernel)
theorem lX6_62 : Cond.methodLink RX6 62 arraycopyName ∈ TB := TB_of (i := 576) (by decide +kernel) (by decide +kernel)
theorem lX0_58 : Cond.methodLink RX0 58 Lib.Math.min.name ∈ TB := TB_of (i := 662) (by decide +kernel) (by decide +kernel)
theorem lX0_64 : Cond.methodLink RX0 64 Lib.Math.max.name ∈ TB := TB_of (i := 663) (by decide +kernel) (by decide +kernel)
theorem lX10_1 : Cond.methodLink RX10 1 Lib.objectInit ∈ TB := TB_of (i := 898) (by decide +kernel) (by decide +kernel)
theorem objI1 : Cond.instanceMethod Lib.objectInit ∈ TB := TB_of (i := 104) (by decide +kernel) (by decide +kernel)
set_option maxRecDepth 100000 in
theorem objI2 : Cond.code Lib.objectInit ⟨#[0xb1]⟩ 1 none ∈ TB := TB_of (i := 105) rfl rfl
theorem math_max1 : Cond.static Lib.Math.max.name ∈ TB := TB_of (i := 184) (by decide +kernel) (by decide +kernel)
theorem math_max2 : Cond.code Lib.Math.max.name Lib.Math.max.code 2 (some .int) ∈ TB := TB_of (i := 185) (by decide +kernel) (by decide +kernel)
theorem math_min1 : Cond.static Lib.Math.min.name ∈ TB := TB_of (i := 570) (by decide +kernel) (by decide +kernel)
theorem math_min2 : Cond.code Lib.Math.min.name Lib.Math.min.code 2 (some .int) ∈ TB := TB_of (i := 571) (by decide +kernel) (by decide +kernel)
theorem math_ini : Cond.initialized "java/lang/Math" ∈ TB := TB_of (i := 85) (by decide +kernel) (by decide +kernel)
theorem sys_ini : Cond.initialized "java/lang/System" ∈ TB := TB_of (i := 96) (by decide +kernel) (by decide +kernel)
theorem cpy_nat : Cond.native arraycopyName ∈ TB := TB_of (i := 564) (by decide +kernel) (by decide +kernel)
theorem cpy_sta : Cond.static arraycopyName ∈ TB := TB_of (i := 563) (by decide +kernel) (by decide +kernel)
theorem qJ6_265 : Cond.constant RJ6 265 (1431655765 : Int32) ∈ TB := TB_of (i := 712) (by decide +kernel) (by decide +kernel)
theorem qJ6_266 : Cond.constant RJ6 266 (858993459 : Int32) ∈ TB := TB_of (i := 713) (by decide +kernel) (by decide +kernel)
theorem qJ6_267 : Cond.constant RJ6 267 (252645135 : Int32) ∈ TB := TB_of (i := 714) (by decide +kernel) (by decide +kernel)
theorem qX3_86 : Cond.constantLong RX3 86 (65535 : Int64) ∈ TB := TB_of (i := 823) (by decide +kernel) (by decide +kernel)
theorem qX3_88 : Cond.constantLong RX3 88 (4294901760 : Int64) ∈ TB := TB_of (i := 824) (by decide +kernel) (by decide +kernel)
theorem qX3_90 : Cond.constantLong RX3 90 (281470681743360 : Int64) ∈ TB := TB_of (i := 825) (by decide +kernel) (by decide +kernel)
end
section
/-! Constants, the skeleton's rows, numbers. -/
theorem b_m10 : (Int8.ofInt (-10)).toInt32 = (-10 : Int32) := by decide +kernel
theorem b_m9 : (Int8.ofInt (-9)).toInt32 = (-9 : Int32) := by decide +kernel
theorem b_m3 : (Int8.ofInt (-3)).toInt32 = (-3 : Int32) := by decide +kernel
theorem b_m2 : (Int8.ofInt (-2)).toInt32 = (-2 : Int32) := by decide +kernel
theorem b_6 : (Int8.ofInt (6)).toInt32 = nI 6 := by decide +kernel
theorem b_7 : (Int8.ofInt (7)).toInt32 = nI 7 := by decide +kernel
theorem b_8 : (Int8.ofInt (8)).toInt32 = nI 8 := by decide +kernel
theorem b_9 : (Int8.ofInt (9)).toInt32 = nI 9 := by decide +kernel
theorem b_10 : (Int8.ofInt (10)).toInt32 = nI 10 := by decide +kernel
theorem b_13 : (Int8.ofInt (13)).toInt32 = nI 13 := by decide +kernel
theorem b_16 : (Int8.ofInt (16)).toInt32 = nI 16 := by decide +kernel
theorem b_31 : (Int8.ofInt (31)).toInt32 = nI 31 := by decide +kernel
theorem b_32 : (Int8.ofInt (32)).toInt32 = nI 32 := by decide +kernel
theorem b_33 : (Int8.ofInt (33)).toInt32 = nI 33 := by decide +kernel
theorem b_37 : (Int8.ofInt (37)).toInt32 = nI 37 := by decide +kernel
theorem b_46 : (Int8.ofInt (46)).toInt32 = nI 46 := by decide +kernel
theorem b_48 : (Int8.ofInt (48)).toInt32 = nI 48 := by decide +kernel
theorem b_49 : (Int8.ofInt (49)).toInt32 = nI 49 := by decide +kernel
theorem b_57 : (Int8.ofInt (57)).toInt32 = nI 57 := by decide +kernel
theorem b_58 : (Int8.ofInt (58)).toInt32 = nI 58 := by decide +kernel
theorem b_59 : (Int8.ofInt (59)).toInt32 = nI 59 := by decide +kernel
theorem b_61 : (Int8.ofInt (61)).toInt32 = nI 61 := by decide +kernel
theorem b_63 : (Int8.ofInt (63)).toInt32 = nI 63 := by decide +kernel
theorem b_91 : (Int8.ofInt (91)).toInt32 = nI 91 := by decide +kernel
theorem b_93 : (Int8.ofInt (93)).toInt32 = nI 93 := by decide +kernel
theorem b_97 : (Int8.ofInt (97)).toInt32 = nI 97 := by decide +kernel
theorem b_98 : (Int8.ofInt (98)).toInt32 = nI 98 := by decide +kernel
theorem b_104 : (Int8.ofInt (104)).toInt32 = nI 104 := by decide +kernel
theorem b_105 : (Int8.ofInt (105)).toInt32 = nI 105 := by decide +kernel
theorem b_110 : (Int8.ofInt (110)).toInt32 = nI 110 := by decide +kernel
theorem b_111 : (Int8.ofInt (111)).toInt32 = nI 111 := by decide +kernel
theorem b_115 : (Int8.ofInt (115)).toInt32 = nI 115 := by decide +kernel
theorem b_116 : (Int8.ofInt (116)).toInt32 = nI 116 := by decide +kernel
theorem b_122 : (Int8.ofInt (122)).toInt32 = nI 122 := by decide +kernel
theorem c_m1 : Int32.ofInt (-1) = (-1 : Int32) := by decide +kernel
theorem c_0 : Int32.ofInt (0) = nI 0 := by decide +kernel
theorem c_1 : Int32.ofInt (1) = nI 1 := by decide +kernel
theorem c_2 : Int32.ofInt (2) = nI 2 := by decide +kernel
theorem c_3 : Int32.ofInt (3) = nI 3 := by decide +kernel
theorem c_4 : Int32.ofInt (4) = nI 4 := by decide +kernel
theorem c_5 : Int32.ofInt (5) = nI 5 := by decide +kernel
theorem s_128 : (Int16.ofInt (128)).toInt32 = nI 128 := by decide +kernel
theorem s_200 : (Int16.ofInt (200)).toInt32 = nI 200 := by decide +kernel
theorem s_255 : (Int16.ofInt (255)).toInt32 = nI 255 := by decide +kernel
theorem s_256 : (Int16.ofInt (256)).toInt32 = nI 256 := by decide +kernel
theorem s_257 : (Int16.ofInt (257)).toInt32 = nI 257 := by decide +kernel
theorem s_258 : (Int16.ofInt (258)).toInt32 = nI 258 := by decide +kernel
theorem s_259 : (Int16.ofInt (259)).toInt32 = nI 259 := by decide +kernel
theorem s_260 : (Int16.ofInt (260)).toInt32 = nI 260 := by decide +kernel
theorem s_261 : (Int16.ofInt (261)).toInt32 = nI 261 := by decide +kernel
theorem s_439 : (Int16.ofInt (439)).toInt32 = nI 439 := by decide +kernel
theorem s_878 : (Int16.ofInt (878)).toInt32 = nI 878 := by decide +kernel
theorem s_2195 : (Int16.ofInt (2195)).toInt32 = nI 2195 := by decide +kernel
theorem s_2634 : (Int16.ofInt (2634)).toInt32 = nI 2634 := by decide +kernel
theorem sk_0 : sk 0 = some (.inr (9, [some 1, some 6, some 9, some 19, some 29, some 91, some 101, none, some 111, some 113, some 116, some 119, none])) := rfl
theorem sk_1 : sk 1 = some (.inr (8, [some 2, none, some 3, some 4, some 5, none, none])) := rfl
theorem sk_2 : sk 2 = some (.inl (3, 200)) := rfl
theorem sk_3 : sk 3 = some (.inl (0, 200)) := rfl
theorem sk_4 : sk 4 = some (.inl (0, 200)) := rfl
theorem sk_5 : sk 5 = some (.inl (0, 200)) := rfl
theorem sk_6 : sk 6 = some (.inr (5, [some 1, some 7, none, none])) := rfl
theorem sk_7 : sk 7 = some (.inr (7, [some 8, none, none])) := rfl
theorem sk_8 : sk 8 = some (.inl (0, 16)) := rfl
theorem sk_9 : sk 9 = some (.inr (4, [some 10, some 11, some 15])) := rfl
theorem sk_10 : sk 10 = some (.inl (0, 8)) := rfl
theorem sk_11 : sk 11 = some (.inr (6, [none, none, some 12, some 13, some 14])) := rfl
theorem sk_12 : sk 12 = some (.inl (0, 10)) := rfl
theorem sk_13 : sk 13 = some (.inl (0, 320)) := rfl
theorem sk_14 : sk 14 = some (.inl (0, 20)) := rfl
theorem sk_15 : sk 15 = some (.inr (6, [none, none, some 16, some 17, some 18])) := rfl
theorem sk_16 : sk 16 = some (.inl (0, 3)) := rfl
theorem sk_17 : sk 17 = some (.inl (0, 96)) := rfl
theorem sk_18 : sk 18 = some (.inl (0, 6)) := rfl
theorem sk_19 : sk 19 = some (.inr (4, [some 20, some 21, some 25])) := rfl
theorem sk_20 : sk 20 = some (.inl (0, 8)) := rfl
theorem sk_21 : sk 21 = some (.inr (6, [none, none, some 22, some 23, some 24])) := rfl
theorem sk_22 : sk 22 = some (.inl (0, 10)) := rfl
theorem sk_23 : sk 23 = some (.inl (0, 320)) := rfl
theorem sk_24 : sk 24 = some (.inl (0, 20)) := rfl
theorem sk_25 : sk 25 = some (.inr (6, [none, none, some 26, some 27, some 28])) := rfl
theorem sk_26 : sk 26 = some (.inl (0, 3)) := rfl
theorem sk_27 : sk 27 = some (.inl (0, 96)) := rfl
theorem sk_28 : sk 28 = some (.inl (0, 6)) := rfl
theorem sk_29 : sk 29 = some (.inr (2, [some 30, none])) := rfl
theorem sk_30 : sk 30 = some (.inl (4, 6)) := rfl
theorem sk_31 : sk 31 = some (.inr (4, [some 32, some 33, some 37])) := rfl
theorem sk_32 : sk 32 = some (.inl (0, 8)) := rfl
theorem sk_33 : sk 33 = some (.inr (6, [none, none, some 34, some 35, some 36])) := rfl
theorem sk_34 : sk 34 = some (.inl (0, 10)) := rfl
theorem sk_35 : sk 35 = some (.inl (0, 320)) := rfl
theorem sk_36 : sk 36 = some (.inl (0, 20)) := rfl
theorem sk_37 : sk 37 = some (.inr (6, [none, none, some 38, some 39, some 40])) := rfl
theorem sk_38 : sk 38 = some (.inl (0, 3)) := rfl
theorem sk_39 : sk 39 = some (.inl (0, 96)) := rfl
theorem sk_40 : sk 40 = some (.inl (0, 6)) := rfl
theorem sk_41 : sk 41 = some (.inr (4, [some 42, some 43, some 47])) := rfl
theorem sk_42 : sk 42 = some (.inl (0, 8)) := rfl
theorem sk_43 : sk 43 = some (.inr (6, [none, none, some 44, some 45, some 46])) := rfl
theorem sk_44 : sk 44 = some (.inl (0, 10)) := rfl
theorem sk_45 : sk 45 = some (.inl (0, 320)) := rfl
theorem sk_46 : sk 46 = some (.inl (0, 20)) := rfl
theorem sk_47 : sk 47 = some (.inr (6, [none, none, some 48, some 49, some 50])) := rfl
theorem sk_48 : sk 48 = some (.inl (0, 3)) := rfl
theorem sk_49 : sk 49 = some (.inl (0, 96)) := rfl
theorem sk_50 : sk 50 = some (.inl (0, 6)) := rfl
theorem sk_51 : sk 51 = some (.inr (4, [some 52, some 53, some 57])) := rfl
theorem sk_52 : sk 52 = some (.inl (0, 8)) := rfl
theorem sk_53 : sk 53 = some (.inr (6, [none, none, some 54, some 55, some 56])) := rfl
theorem sk_54 : sk 54 = some (.inl (0, 10)) := rfl
theorem sk_55 : sk 55 = some (.inl (0, 320)) := rfl
theorem sk_56 : sk 56 = some (.inl (0, 20)) := rfl
theorem sk_57 : sk 57 = some (.inr (6, [none, none, some 58, some 59, some 60])) := rfl
theorem sk_58 : sk 58 = some (.inl (0, 3)) := rfl
theorem sk_59 : sk 59 = some (.inl (0, 96)) := rfl
theorem sk_60 : sk 60 = some (.inl (0, 6)) := rfl
theorem sk_61 : sk 61 = some (.inr (4, [some 62, some 63, some 67])) := rfl
theorem sk_62 : sk 62 = some (.inl (0, 8)) := rfl
theorem sk_63 : sk 63 = some (.inr (6, [none, none, some 64, some 65, some 66])) := rfl
theorem sk_64 : sk 64 = some (.inl (0, 10)) := rfl
theorem sk_65 : sk 65 = some (.inl (0, 320)) := rfl
theorem sk_66 : sk 66 = some (.inl (0, 20)) := rfl
theorem sk_67 : sk 67 = some (.inr (6, [none, none, some 68, some 69, some 70])) := rfl
theorem sk_68 : sk 68 = some (.inl (0, 3)) := rfl
theorem sk_69 : sk 69 = some (.inl (0, 96)) := rfl
theorem sk_70 : sk 70 = some (.inl (0, 6)) := rfl
theorem sk_71 : sk 71 = some (.inr (4, [some 72, some 73, some 77])) := rfl
theorem sk_72 : sk 72 = some (.inl (0, 8)) := rfl
theorem sk_73 : sk 73 = some (.inr (6, [none, none, some 74, some 75, some 76])) := rfl
theorem sk_74 : sk 74 = some (.inl (0, 10)) := rfl
theorem sk_75 : sk 75 = some (.inl (0, 320)) := rfl
theorem sk_76 : sk 76 = some (.inl (0, 20)) := rfl
theorem sk_77 : sk 77 = some (.inr (6, [none, none, some 78, some 79, some 80])) := rfl
theorem sk_78 : sk 78 = some (.inl (0, 3)) := rfl
theorem sk_79 : sk 79 = some (.inl (0, 96)) := rfl
theorem sk_80 : sk 80 = some (.inl (0, 6)) := rfl
theorem sk_81 : sk 81 = some (.inr (4, [some 82, some 83, some 87])) := rfl
theorem sk_82 : sk 82 = some (.inl (0, 8)) := rfl
theorem sk_83 : sk 83 = some (.inr (6, [none, none, some 84, some 85, some 86])) := rfl
theorem sk_84 : sk 84 = some (.inl (0, 10)) := rfl
theorem sk_85 : sk 85 = some (.inl (0, 320)) := rfl
theorem sk_86 : sk 86 = some (.inl (0, 20)) := rfl
theorem sk_87 : sk 87 = some (.inr (6, [none, none, some 88, some 89, some 90])) := rfl
theorem sk_88 : sk 88 = some (.inl (0, 3)) := rfl
theorem sk_89 : sk 89 = some (.inl (0, 96)) := rfl
theorem sk_90 : sk 90 = some (.inl (0, 6)) := rfl
theorem sk_91 : sk 91 = some (.inr (4, [some 92, some 93, some 97])) := rfl
theorem sk_92 : sk 92 = some (.inl (0, 8)) := rfl
theorem sk_93 : sk 93 = some (.inr (6, [none, none, some 94, some 95, some 96])) := rfl
theorem sk_94 : sk 94 = some (.inl (0, 10)) := rfl
theorem sk_95 : sk 95 = some (.inl (0, 320)) := rfl
theorem sk_96 : sk 96 = some (.inl (0, 20)) := rfl
theorem sk_97 : sk 97 = some (.inr (6, [none, none, some 98, some 99, some 100])) := rfl
theorem sk_98 : sk 98 = some (.inl (0, 3)) := rfl
theorem sk_99 : sk 99 = some (.inl (0, 96)) := rfl
theorem sk_100 : sk 100 = some (.inl (0, 6)) := rfl
theorem sk_101 : sk 101 = some (.inr (4, [some 102, some 103, some 107])) := rfl
theorem sk_102 : sk 102 = some (.inl (0, 8)) := rfl
theorem sk_103 : sk 103 = some (.inr (6, [none, none, some 104, some 105, some 106])) := rfl
theorem sk_104 : sk 104 = some (.inl (0, 10)) := rfl
theorem sk_105 : sk 105 = some (.inl (0, 320)) := rfl
theorem sk_106 : sk 106 = some (.inl (0, 20)) := rfl
theorem sk_107 : sk 107 = some (.inr (6, [none, none, some 108, some 109, some 110])) := rfl
theorem sk_108 : sk 108 = some (.inl (0, 3)) := rfl
theorem sk_109 : sk 109 = some (.inl (0, 96)) := rfl
theorem sk_110 : sk 110 = some (.inl (0, 6)) := rfl
theorem sk_111 : sk 111 = some (.inr (1, [some 112])) := rfl
theorem sk_112 : sk 112 = some (.inl (0, 8)) := rfl
theorem sk_113 : sk 113 = some (.inr (0, [some 114, some 115, none])) := rfl
theorem sk_114 : sk 114 = some (.inl (0, 128)) := rfl
theorem sk_115 : sk 115 = some (.inl (0, 128)) := rfl
theorem sk_116 : sk 116 = some (.inr (0, [some 117, some 118, none])) := rfl
theorem sk_117 : sk 117 = some (.inl (0, 128)) := rfl
theorem sk_118 : sk 118 = some (.inl (0, 128)) := rfl
theorem sk_119 : sk 119 = some (.inr (3, [some 120, some 121, none, some 122, none])) := rfl
theorem sk_120 : sk 120 = some (.inl (1, 128)) := rfl
theorem sk_121 : sk 121 = some (.inl (0, 128)) := rfl
theorem sk_122 : sk 122 = some (.inl (0, 3)) := rfl
theorem sk_123 : sk 123 = some (.inr (10, [none, some 124, some 125, some 126, none, some 127, some 128, some 129, none, none, none, none, none, none, some 130, none, none, some 131, none, some 132, some 133, none, some 134, none, some 135, none])) := rfl
theorem sk_124 : sk 124 = some (.inl (0, 439)) := rfl
theorem sk_125 : sk 125 = some (.inl (0, 439)) := rfl
theorem sk_126 : sk 126 = some (.inl (0, 2634)) := rfl
theorem sk_127 : sk 127 = some (.inl (0, 878)) := rfl
theorem sk_128 : sk 128 = some (.inl (2, 2)) := rfl
theorem sk_129 : sk 129 = some (.inl (0, 200)) := rfl
theorem sk_130 : sk 130 = some (.inl (0, 16)) := rfl
theorem sk_131 : sk 131 = some (.inl (2, 128)) := rfl
theorem sk_132 : sk 132 = some (.inl (0, 128)) := rfl
theorem sk_133 : sk 133 = some (.inl (0, 128)) := rfl
theorem sk_134 : sk 134 = some (.inl (0, 3)) := rfl
theorem sk_135 : sk 135 = some (.inl (0, 128)) := rfl
theorem bI01 (b : Bool) : bI b = 0 ∨ bI b = 1 := by cases b <;> simp [bI]
theorem bI_t : bI true = 1 := rfl
theorem bI_f : bI false = 0 := rfl
theorem bI_eq0 {b : Bool} (h : bI b = 0) : b = false := by cases b <;> simp_all [bI]
theorem bI_ne0 {b : Bool} (h : ¬ bI b = 0) : b = true := by cases b <;> simp_all [bI]
theorem bI_0 {b : Bool} : bI b = 0 ↔ b = false := by cases b <;> simp [bI]
theorem bI_1 {b : Bool} : bI b = 1 ↔ b = true := by cases b <;> simp [bI]
theorem nI_mul (a b : Nat) : nI a * nI b = nI (a * b) := by
  unfold nI; exact (Int32.ofNat_mul a b).symm
theorem nI_sub {a b : Nat} (h : b ≤ a) : nI a - nI b = nI (a - b) := by
  have : nI (a - b) + nI b = nI a := by rw [nI_add]; congr 1; omega
  rw [← this]; simp
theorem nI_nonneg {n : Nat} (h : n < 2 ^ 31) : ¬ nI n < 0 := nI_pos h
theorem up_eq {α : Type} (f : Nat → α) (k : Nat) (v : α) : va_up f k v k = v := by simp [va_up]
theorem up_ne {α : Type} (f : Nat → α) {k j : Nat} (v : α) (h : j ≠ k) : va_up f k v j = f j := by simp [va_up, h]
end
section
/-! Numbers in range; the static helpers of SliceSolver. -/
def inB (x : Int32) (n : Nat) : Bool := decide (0 ≤ x.toInt ∧ x.toInt < n)
theorem lt0_iff (x : Int32) : x < 0 ↔ x.toInt < 0 := by rw [Int32.lt_iff_toInt_lt]; simp
theorem lt_iff (x y : Int32) : x < y ↔ x.toInt < y.toInt := Int32.lt_iff_toInt_lt
theorem le_iff (x y : Int32) : x ≤ y ↔ x.toInt ≤ y.toInt := Int32.le_iff_toInt_le
theorem inB_lt0 {x : Int32} {n : Nat} (h : x < 0) : inB x n = false := by
  have := (lt0_iff x).mp h
  simp [inB]; omega
theorem inB_ge {x : Int32} {n : Nat} (h : x ≥ nI n) (hn : n < 2 ^ 31) : inB x n = false := by
  have h1 : (nI n).toInt ≤ x.toInt := (le_iff _ _).mp h
  rw [nI_toInt hn] at h1
  simp [inB]; omega
theorem inB_in {x : Int32} {n : Nat} (h0 : ¬ x < 0) (h : ¬ x ≥ nI n) (hn : n < 2 ^ 31) : inB x n = true := by
  have h1 : ¬ (nI n).toInt ≤ x.toInt := fun q => h ((le_iff _ _).mpr q)
  rw [nI_toInt hn] at h1
  have h2 : ¬ x.toInt < 0 := fun q => h0 ((lt0_iff x).mpr q)
  simp [inB]; omega
theorem inB_nI {j n : Nat} (hj : j < 2 ^ 31) : inB (nI j) n = decide (j < n) := by
  simp only [inB, nI_toInt hj]
  congr 1
  apply propext
  omega
theorem inB_of {x : Int32} {n : Nat} (hn : n < 2 ^ 31) (h : inB x n = true) : ∃ j, j < n ∧ x = nI j := by
  have h1 : 0 ≤ x.toInt ∧ x.toInt < n := by simpa [inB] using h
  obtain ⟨j, hj, e⟩ := nI_of (x := x) (fun q => by have := (lt0_iff x).mp q; omega)
  refine ⟨j, ?_, e⟩
  rw [e, nI_toInt hj] at h1
  omega
theorem nI_div {a b : Nat} (ha : a < 2 ^ 31) (hb : b < 2 ^ 31) (h0 : 0 < b) : nI a / nI b = nI (a / b) := by
  apply Int32.toInt_inj.mp
  rw [Int32.toInt_div_of_ne_right, nI_toInt ha, nI_toInt hb, nI_toInt (Nat.lt_of_le_of_lt (Nat.div_le_self _ _) ha)]
  · rfl
  · intro h; have := congrArg Int32.toInt h; rw [nI_toInt hb] at this; simp at this; try omega
theorem nI_rem {a b : Nat} (ha : a < 2 ^ 31) (hb : b < 2 ^ 31) (h0 : 0 < b) : rem32 (nI a) (nI b) = nI (a % b) := by
  unfold rem32
  rw [nI_div ha hb h0, nI_mul]
  have h := Nat.div_add_mod a b
  rw [Nat.mul_comm] at h
  rw [nI_sub (by omega)]
  congr 1
  omega
set_option maxRecDepth 100000 in
set_option maxHeartbeats 4000000 in
theorem ct_isVariable (G : Gl) (σ : SS) (x : Int32) : CI G mX9_isVariable [.int x] σ (fun r σ1 => r = bI (inB x 8) ∧ σ1 = σ) := by
  refine Ctr.of oX9_isVariable (Nat.le_of_ble_eq_true rfl) ?_
  intro X C R hnm hz0
  have C : Cx G X cX9_isVariable 1 RX9 0 0 0 0 := C
  have R : Cr G X (some .boolean) 0 0 _ := R
  show V G X 1 0 0 0 [(0, .int x)] [] (wld G σ)
  refine V.iload_n C 0 rfl rfl dX9_isVariable_0 ?_
  refine V.if_lt C 14 dX9_isVariable_1 rfl (fun h1 => ?_) (fun h1 => ?_)
  · refine V.iconst C (nI 0) c_0 dX9_isVariable_14 ?_
    exact V.zretS C R dX9_isVariable_15 (by first | exact Or.inl rfl | exact Or.inr rfl | exact bI01 _) (by first | exact ⟨by rw [inB_in h1 h6 (by decide)]; rfl, rfl⟩ | exact ⟨by rw [inB_lt0 h1]; rfl, rfl⟩ | exact ⟨by rw [inB_ge h6 (by decide)]; rfl, rfl⟩)
  · refine V.iload_n C 0 rfl rfl dX9_isVariable_4 ?_
    refine V.bipush C (nI 8) b_8 dX9_isVariable_5 ?_
    refine V.icmp_ge C 14 dX9_isVariable_7 rfl (fun h6 => ?_) (fun h6 => ?_)
    · refine V.iconst C (nI 0) c_0 dX9_isVariable_14 ?_
      exact V.zretS C R dX9_isVariable_15 (by first | exact Or.inl rfl | exact Or.inr rfl | exact bI01 _) (by first | exact ⟨by rw [inB_in h1 h6 (by decide)]; rfl, rfl⟩ | exact ⟨by rw [inB_lt0 h1]; rfl, rfl⟩ | exact ⟨by rw [inB_ge h6 (by decide)]; rfl, rfl⟩)
    · refine V.iconst C (nI 1) c_1 dX9_isVariable_10 ?_
      refine V.goto C 15 dX9_isVariable_11 rfl ?_
      exact V.zretS C R dX9_isVariable_15 (by first | exact Or.inl rfl | exact Or.inr rfl | exact bI01 _) (by first | exact ⟨by rw [inB_in h1 h6 (by decide)]; rfl, rfl⟩ | exact ⟨by rw [inB_lt0 h1]; rfl, rfl⟩ | exact ⟨by rw [inB_ge h6 (by decide)]; rfl, rfl⟩)
set_option maxRecDepth 100000 in
set_option maxHeartbeats 4000000 in
theorem ct_isSlot (G : Gl) (σ : SS) (x : Int32) : CI G mX9_isSlot [.int x] σ (fun r σ1 => r = bI (inB x 2) ∧ σ1 = σ) := by
  refine Ctr.of oX9_isSlot (Nat.le_of_ble_eq_true rfl) ?_
  intro X C R hnm hz0
  have C : Cx G X cX9_isSlot 1 RX9 0 0 0 0 := C
  have R : Cr G X (some .boolean) 0 0 _ := R
  show V G X 1 0 0 0 [(0, .int x)] [] (wld G σ)
  refine V.iload_n C 0 rfl rfl dX9_isSlot_0 ?_
  refine V.if_lt C 13 dX9_isSlot_1 rfl (fun h1 => ?_) (fun h1 => ?_)
  · refine V.iconst C (nI 0) c_0 dX9_isSlot_13 ?_
    exact V.zretS C R dX9_isSlot_14 (by first | exact Or.inl rfl | exact Or.inr rfl | exact bI01 _) (by first | exact ⟨by rw [inB_in h1 h6 (by decide)]; rfl, rfl⟩ | exact ⟨by rw [inB_lt0 h1]; rfl, rfl⟩ | exact ⟨by rw [inB_ge h6 (by decide)]; rfl, rfl⟩)
  · refine V.iload_n C 0 rfl rfl dX9_isSlot_4 ?_
    refine V.iconst C (nI 2) c_2 dX9_isSlot_5 ?_
    refine V.icmp_ge C 13 dX9_isSlot_6 rfl (fun h6 => ?_) (fun h6 => ?_)
    · refine V.iconst C (nI 0) c_0 dX9_isSlot_13 ?_
      exact V.zretS C R dX9_isSlot_14 (by first | exact Or.inl rfl | exact Or.inr rfl | exact bI01 _) (by first | exact ⟨by rw [inB_in h1 h6 (by decide)]; rfl, rfl⟩ | exact ⟨by rw [inB_lt0 h1]; rfl, rfl⟩ | exact ⟨by rw [inB_ge h6 (by decide)]; rfl, rfl⟩)
    · refine V.iconst C (nI 1) c_1 dX9_isSlot_9 ?_
      refine V.goto C 14 dX9_isSlot_10 rfl ?_
      exact V.zretS C R dX9_isSlot_14 (by first | exact Or.inl rfl | exact Or.inr rfl | exact bI01 _) (by first | exact ⟨by rw [inB_in h1 h6 (by decide)]; rfl, rfl⟩ | exact ⟨by rw [inB_lt0 h1]; rfl, rfl⟩ | exact ⟨by rw [inB_ge h6 (by decide)]; rfl, rfl⟩)
set_option maxRecDepth 100000 in
set_option maxHeartbeats 4000000 in
theorem ct_isConstantNode (G : Gl) (σ : SS) (x : Int32) : CI G mX9_isConstantNode [.int x] σ (fun r σ1 => r = bI (decide (¬ x < nI 128)) ∧ σ1 = σ) := by
  refine Ctr.of oX9_isConstantNode (Nat.le_of_ble_eq_true rfl) ?_
  intro X C R hnm hz0
  have C : Cx G X cX9_isConstantNode 1 RX9 0 0 0 0 := C
  have R : Cr G X (some .boolean) 0 0 _ := R
  show V G X 1 0 0 0 [(0, .int x)] [] (wld G σ)
  refine V.iload_n C 0 rfl rfl dX9_isConstantNode_0 ?_
  refine V.sipush C (nI 128) s_128 dX9_isConstantNode_1 ?_
  refine V.icmp_lt C 11 dX9_isConstantNode_4 rfl (fun h4 => ?_) (fun h4 => ?_)
  · refine V.iconst C (nI 0) c_0 dX9_isConstantNode_11 ?_
    exact V.zretS C R dX9_isConstantNode_12 (by first | exact Or.inl rfl | exact Or.inr rfl | exact bI01 _) (by first | exact ⟨by simp only [h4, decide_true]; rfl, rfl⟩ | exact ⟨by simp only [h4, decide_false]; rfl, rfl⟩)
  · refine V.iconst C (nI 1) c_1 dX9_isConstantNode_7 ?_
    refine V.goto C 12 dX9_isConstantNode_8 rfl ?_
    exact V.zretS C R dX9_isConstantNode_12 (by first | exact Or.inl rfl | exact Or.inr rfl | exact bI01 _) (by first | exact ⟨by simp only [h4, decide_true]; rfl, rfl⟩ | exact ⟨by simp only [h4, decide_false]; rfl, rfl⟩)
set_option maxRecDepth 100000 in
set_option maxHeartbeats 4000000 in
theorem ct_variableOf (G : Gl) (σ : SS) (x : Nat) (hx : x < 2 ^ 31) : CI G mX9_variableOf [.int (nI x)] σ (fun r σ1 => r = nI (x / 16) ∧ σ1 = σ) := by
  refine Ctr.of oX9_variableOf (Nat.le_of_ble_eq_true rfl) ?_
  intro X C R hnm hz0
  have C : Cx G X cX9_variableOf 1 RX9 0 0 0 0 := C
  have R : Cr G X (some .int) 0 0 _ := R
  show V G X 1 0 0 0 [(0, .int (nI x))] [] (wld G σ)
  refine V.iload_n C 0 rfl rfl dX9_variableOf_0 ?_
  refine V.bipush C (nI 16) b_16 dX9_variableOf_1 ?_
  refine V.idiv C (by decide) dX9_variableOf_3 ?_
  exact V.iretS C R dX9_variableOf_4 ⟨nI_div hx (by decide) (by decide), rfl⟩
set_option maxRecDepth 100000 in
set_option maxHeartbeats 4000000 in
theorem ct_bitOf (G : Gl) (σ : SS) (x : Nat) (hx : x < 2 ^ 31) : CI G mX9_bitOf [.int (nI x)] σ (fun r σ1 => r = nI (x % 16) ∧ σ1 = σ) := by
  refine Ctr.of oX9_bitOf (Nat.le_of_ble_eq_true rfl) ?_
  intro X C R hnm hz0
  have C : Cx G X cX9_bitOf 1 RX9 0 0 0 0 := C
  have R : Cr G X (some .int) 0 0 _ := R
  show V G X 1 0 0 0 [(0, .int (nI x))] [] (wld G σ)
  refine V.iload_n C 0 rfl rfl dX9_bitOf_0 ?_
  refine V.bipush C (nI 16) b_16 dX9_bitOf_1 ?_
  refine V.irem C (by decide) dX9_bitOf_3 ?_
  exact V.iretS C R dX9_bitOf_4 ⟨nI_rem hx (by decide) (by decide), rfl⟩
set_option maxRecDepth 100000 in
set_option maxHeartbeats 4000000 in
theorem ct_nodeOf (G : Gl) (σ : SS) (x y : Nat) : CI G mX9_nodeOf [.int (nI x), .int (nI y)] σ (fun r σ1 => r = nI (x * 16 + y) ∧ σ1 = σ) := by
  refine Ctr.of oX9_nodeOf (Nat.le_of_ble_eq_true rfl) ?_
  intro X C R hnm hz0
  have C : Cx G X cX9_nodeOf 2 RX9 0 0 0 0 := C
  have R : Cr G X (some .int) 0 0 _ := R
  show V G X 2 0 0 0 [(0, .int (nI x)), (1, .int (nI y))] [] (wld G σ)
  refine V.iload_n C 0 rfl rfl dX9_nodeOf_0 ?_
  refine V.bipush C (nI 16) b_16 dX9_nodeOf_1 ?_
  refine V.imul C dX9_nodeOf_3 ?_
  refine V.iload_n C 1 rfl rfl dX9_nodeOf_4 ?_
  refine V.iadd C dX9_nodeOf_5 ?_
  exact V.iretS C R dX9_nodeOf_6 ⟨by rw [nI_mul, nI_add], rfl⟩
end
section
/-! Arrays.fill, Integer.bitCount; the setters' laws. -/
theorem sA_A (σ : SS) (k : Nat) (f : Nat → Int32) : (sA σ k f).2.1 k = f := up_eq _ _ _
theorem sA_ne (σ : SS) {k j : Nat} (f : Nat → Int32) (h : j ≠ k) : (sA σ k f).2.1 j = σ.2.1 j := up_ne _ _ h
theorem sA_F (σ : SS) (k : Nat) (f : Nat → Int32) : (sA σ k f).1 = σ.1 := rfl
theorem sA_L (σ : SS) (k : Nat) (f : Nat → Int32) : (sA σ k f).2.2.1 = σ.2.2.1 := rfl
theorem sA_P (σ : SS) (k : Nat) (f : Nat → Int32) : (sA σ k f).2.2.2 = σ.2.2.2 := rfl
theorem up_up {α : Type} (f : Nat → α) (k : Nat) (v w : α) : va_up (va_up f k v) k w = va_up f k w := by
  funext j; unfold va_up; by_cases h : j = k <;> simp [h]
theorem up_same {α : Type} (f : Nat → α) (k : Nat) : va_up f k (f k) = f := by
  funext j; unfold va_up; by_cases h : j = k <;> simp [h]
theorem sA_sA (σ : SS) (k : Nat) (f g : Nat → Int32) : sA (sA σ k f) k g = sA σ k g := by unfold sA; rw [up_up]
theorem sA_self (σ : SS) (k : Nat) : sA σ k (σ.2.1 k) = σ := by unfold sA; rw [up_same]
theorem sL_L (σ : SS) (k : Nat) (f : Nat → Int64) : (sL σ k f).2.2.1 k = f := up_eq _ _ _
theorem sL_ne (σ : SS) {k j : Nat} (f : Nat → Int64) (h : j ≠ k) : (sL σ k f).2.2.1 j = σ.2.2.1 j := up_ne _ _ h
theorem sL_sL (σ : SS) (k : Nat) (f g : Nat → Int64) : sL (sL σ k f) k g = sL σ k g := by unfold sL; rw [up_up]
theorem sL_self (σ : SS) (k : Nat) : sL σ k (σ.2.2.1 k) = σ := by unfold sL; rw [up_same]
theorem sF_F (σ : SS) (k j : Nat) (v : Int32) : (sF σ k j v).1 k j = v := by simp [sF, va_up]
theorem sF_ne (σ : SS) {k j a b : Nat} (v : Int32) (h : ¬ (a = k ∧ b = j)) : (sF σ k j v).1 a b = σ.1 a b := by
  unfold sF va_up
  by_cases h1 : a = k
  · by_cases h2 : b = j
    · exact absurd ⟨h1, h2⟩ h
    · simp [h1, h2]
  · simp [h1]
theorem sF_sF (σ : SS) (k j : Nat) (v w : Int32) : sF (sF σ k j v) k j w = sF σ k j w := by
  unfold sF; simp only [up_up, up_eq]
theorem sF_self (σ : SS) (k j : Nat) : sF σ k j (σ.1 k j) = σ := by unfold sF; rw [up_same, up_same]
theorem V.alenS {G : Gl} {X : Cx0} {cc : ByteArray} {nL fr lo mc ms ce sl pc : Nat} {own : String} {lv : List (Nat × Value)} {st : List Value} {σ : SS} (C : Cx G X cc nL own fr lo mc ms) {k0 t n : Nat} (d : decode cc pc = .ok (.arraylength, 1)) (hk : sk k0 = some (.inl (t, n))) (ht : t < 4) (k : V G X nL ce sl (pc + 1) lv (.int (nI n) :: st) (wld G σ)) : V G X nL ce sl pc lv (Rf G k0 :: st) (wld G σ) := by
  intro H locs ls a1 a2 a3
  rcases (show t = 0 ∨ t = 1 ∨ t = 2 ∨ t = 3 by omega) with h | h | h | h
  · rw [h] at hk
    exact va_alen C.1 C.2.1 C.2.2.2.2.2.1.1 a1 k0 0 (mkW_get (wld_at (G := G) (σ := σ) hk)) (ty := .int) rfl rfl d (k H locs ls a1 a2 a3)
  · rw [h] at hk
    exact va_alen C.1 C.2.1 C.2.2.2.2.2.1.1 a1 k0 1 (mkW_get (wld_at (G := G) (σ := σ) hk)) (ty := .long) rfl rfl d (k H locs ls a1 a2 a3)
  · rw [h] at hk
    exact va_alen C.1 C.2.1 C.2.2.2.2.2.1.1 a1 k0 2 (mkW_get (wld_at (G := G) (σ := σ) hk)) (ty := .boolean) rfl rfl d (k H locs ls a1 a2 a3)
  · rw [h] at hk
    exact va_alen C.1 C.2.1 C.2.2.2.2.2.1.1 a1 k0 3 (mkW_get (wld_at (G := G) (σ := σ) hk)) (ty := .char) rfl rfl d (k H locs ls a1 a2 a3)
def ushr32 (x y : Int32) : Int32 := (x.toUInt32 >>> (y &&& 31).toUInt32).toInt32
theorem V.iushr {G : Gl} {X : Cx0} {cc : ByteArray} {nL fr lo mc ms ce sl pc : Nat} {own : String} {lv : List (Nat × Value)} {st : List Value} {cs : List va_E} (C : Cx G X cc nL own fr lo mc ms) {x y : Int32} (d : decode cc pc = .ok (.iushr, 1)) (k : V G X nL ce sl (pc + 1) lv (.int (ushr32 x y) :: st) cs) : V G X nL ce sl pc lv (.int y :: .int x :: st) cs :=
  fun H locs ls a1 a2 a3 => lv_iushr C.1 C.2.1 d rfl (k H locs ls a1 a2 a3)
theorem V.ldcw {G : Gl} {X : Cx0} {cc : ByteArray} {nL fr lo mc ms ce sl pc : Nat} {own : String} {lv : List (Nat × Value)} {st : List Value} {cs : List va_E} (C : Cx G X cc nL own fr lo mc ms) {i : Nat} {v : Int32} (hw : Cond.constant own i v ∈ TB) (d : decode cc pc = .ok (.ldc_w i, 3)) (k : V G X nL ce sl (pc + 3) lv (.int v :: st) cs) : V G X nL ce sl pc lv st cs :=
  fun H locs ls a1 a2 a3 => lv_ldcw C.1 C.2.1 C.2.2.2.1 (C.2.2.2.2.1 _ hw) d (k H locs ls a1 a2 a3)
def bc32 (x0 : Int32) : Int32 :=
  let x1 := x0 - (ushr32 x0 (nI 1) &&& 1431655765)
  let x2 := (x1 &&& 858993459) + (ushr32 x1 (nI 2) &&& 858993459)
  let x3 := (x2 + ushr32 x2 (nI 4)) &&& 252645135
  let x4 := x3 + ushr32 x3 (nI 8)
  let x5 := x4 + ushr32 x4 (nI 16)
  x5 &&& nI 63
set_option maxRecDepth 100000 in
set_option maxHeartbeats 4000000 in
theorem ct_bitCount (G : Gl) (σ : SS) (x : Int32) : CI G mJ6_bitCount_0f7a4 [.int x] σ (fun r σ1 => r = bc32 x ∧ σ1 = σ) := by
  refine Ctr.of oJ6_bitCount_0f7a4 (Nat.le_of_ble_eq_true rfl) ?_
  intro X C R hnm hz0
  have C : Cx G X cJ6_bitCount_0f7a4 1 RJ6 0 0 0 0 := C
  have R : Cr G X (some .int) 0 0 _ := R
  show V G X 1 0 0 0 [(0, .int x)] [] (wld G σ)
  refine V.iload_n C 0 rfl rfl dJ6_bitCount_0f7a4_0 ?_
  refine V.iload_n C 0 rfl rfl dJ6_bitCount_0f7a4_1 ?_
  refine V.iconst C (nI 1) c_1 dJ6_bitCount_0f7a4_2 ?_
  refine V.iushr C dJ6_bitCount_0f7a4_3 ?_
  refine V.ldcw C qJ6_265 dJ6_bitCount_0f7a4_4 ?_
  refine V.iand C dJ6_bitCount_0f7a4_7 ?_
  refine V.isub C dJ6_bitCount_0f7a4_8 ?_
  refine V.istore_n C 0 dJ6_bitCount_0f7a4_9 rfl (by decide) ?_
  refine V.iload_n C 0 rfl rfl dJ6_bitCount_0f7a4_10 ?_
  refine V.ldcw C qJ6_266 dJ6_bitCount_0f7a4_11 ?_
  refine V.iand C dJ6_bitCount_0f7a4_14 ?_
  refine V.iload_n C 0 rfl rfl dJ6_bitCount_0f7a4_15 ?_
  refine V.iconst C (nI 2) c_2 dJ6_bitCount_0f7a4_16 ?_
  refine V.iushr C dJ6_bitCount_0f7a4_17 ?_
  refine V.ldcw C qJ6_266 dJ6_bitCount_0f7a4_18 ?_
  refine V.iand C dJ6_bitCount_0f7a4_21 ?_
  refine V.iadd C dJ6_bitCount_0f7a4_22 ?_
  refine V.istore_n C 0 dJ6_bitCount_0f7a4_23 rfl (by decide) ?_
  refine V.iload_n C 0 rfl rfl dJ6_bitCount_0f7a4_24 ?_
  refine V.iload_n C 0 rfl rfl dJ6_bitCount_0f7a4_25 ?_
  refine V.iconst C (nI 4) c_4 dJ6_bitCount_0f7a4_26 ?_
  refine V.iushr C dJ6_bitCount_0f7a4_27 ?_
  refine V.iadd C dJ6_bitCount_0f7a4_28 ?_
  refine V.ldcw C qJ6_267 dJ6_bitCount_0f7a4_29 ?_
  refine V.iand C dJ6_bitCount_0f7a4_32 ?_
  refine V.istore_n C 0 dJ6_bitCount_0f7a4_33 rfl (by decide) ?_
  refine V.iload_n C 0 rfl rfl dJ6_bitCount_0f7a4_34 ?_
  refine V.iload_n C 0 rfl rfl dJ6_bitCount_0f7a4_35 ?_
  refine V.bipush C (nI 8) b_8 dJ6_bitCount_0f7a4_36 ?_
  refine V.iushr C dJ6_bitCount_0f7a4_38 ?_
  refine V.iadd C dJ6_bitCount_0f7a4_39 ?_
  refine V.istore_n C 0 dJ6_bitCount_0f7a4_40 rfl (by decide) ?_
  refine V.iload_n C 0 rfl rfl dJ6_bitCount_0f7a4_41 ?_
  refine V.iload_n C 0 rfl rfl dJ6_bitCount_0f7a4_42 ?_
  refine V.bipush C (nI 16) b_16 dJ6_bitCount_0f7a4_43 ?_
  refine V.iushr C dJ6_bitCount_0f7a4_45 ?_
  refine V.iadd C dJ6_bitCount_0f7a4_46 ?_
  refine V.istore_n C 0 dJ6_bitCount_0f7a4_47 rfl (by decide) ?_
  refine V.iload_n C 0 rfl rfl dJ6_bitCount_0f7a4_48 ?_
  refine V.bipush C (nI 63) b_63 dJ6_bitCount_0f7a4_49 ?_
  refine V.iand C dJ6_bitCount_0f7a4_51 ?_
  exact V.iretS C R dJ6_bitCount_0f7a4_52 ⟨rfl, rfl⟩
set_option maxRecDepth 100000 in
set_option maxHeartbeats 4000000 in
theorem ct_fillI (G : Gl) (σ : SS) (k n : Nat) (v : Int32) (hk : sk k = some (.inl (0, n))) (hn : n < 2 ^ 31) : CV G mJ7_fill_53178 [Rf G k, .int v] σ (fun σ1 => σ1 = sA σ k (fun j => if j < n then v else σ.2.1 k j)) := by
  refine Ctr.of oJ7_fill_53178 (Nat.le_of_ble_eq_true rfl) ?_
  intro X C R hnm hz0
  have C : Cx G X cJ7_fill_53178 4 RJ7 0 0 0 0 := C
  have R : Cr G X none 0 0 _ := R
  show V G X 4 0 0 0 [(0, Rf G k), (1, .int v)] [] (wld G σ)
  have loop : ∀ m i : Nat, i + m = n → V G X 4 0 0 5 [(0, Rf G k), (1, .int v), (2, .int (nI i)), (3, .int (nI n))] [] (wld G (sA σ k (fun j => if j < i then v else σ.2.1 k j))) := by
    intro m
    induction m with
    | zero =>
      intro i hi
      have hi : i = n := by omega
      subst hi
      refine V.iload_n C 2 rfl rfl dJ7_fill_53178_5 ?_
      refine V.iload_n C 3 rfl rfl dJ7_fill_53178_6 ?_
      refine V.icmp_ge C 20 dJ7_fill_53178_7 rfl (fun hc => ?_) (fun hc => ?_)
      · exact V.vretS C R dJ7_fill_53178_20 rfl
      · exact absurd (nI_le (Nat.le_refl i) hn) hc
    | succ m ih =>
      intro i hi
      refine V.iload_n C 2 rfl rfl dJ7_fill_53178_5 ?_
      refine V.iload_n C 3 rfl rfl dJ7_fill_53178_6 ?_
      refine V.icmp_ge C 20 dJ7_fill_53178_7 rfl (fun hc => ?_) (fun hc => ?_)
      · exact absurd ((nI_leI (by omega) (by omega)).mp hc) (by omega)
      · refine V.aload_n C 0 rfl rfl dJ7_fill_53178_10 ?_
        refine V.iload_n C 2 rfl rfl dJ7_fill_53178_11 ?_
        refine V.iload_n C 1 rfl rfl dJ7_fill_53178_12 ?_
        refine V.iastS C dJ7_fill_53178_13 (by assumption) (vp_in_nI (by omega) hn) ?_
        refine V.iinc C (nI (i + 1)) dJ7_fill_53178_14 rfl (nI_1 i) (by decide) ?_
        refine V.goto C 5 dJ7_fill_53178_17 rfl ?_
        refine V.lvs (lv' := [(0, Rf G k), (1, .int v), (2, .int (nI (i + 1))), (3, .int (nI n))]) rfl ?_
        rw [sA_sA, sA_A]
        have e : va_up (fun j => if j < i then v else σ.2.1 k j) (nI i).toNatClampNeg v = fun j => if j < i + 1 then v else σ.2.1 k j := by
          rw [nI_clamp (by omega)]
          funext j
          unfold va_up
          by_cases h1 : j = i
          · simp [h1]
          · by_cases h2 : j < i
            · simp [h1, h2, show j < i + 1 by omega]
            · simp [h1, h2, show ¬ j < i + 1 by omega]
        rw [e]
        exact ih (i + 1) (by omega)
  refine V.iconst C (nI 0) c_0 dJ7_fill_53178_0 ?_
  refine V.istore_n C 2 dJ7_fill_53178_1 rfl (by decide) ?_
  refine V.aload_n C 0 rfl rfl dJ7_fill_53178_2 ?_
  refine V.alenS C dJ7_fill_53178_3 (by assumption) (by decide) ?_
  refine V.istore_n C 3 dJ7_fill_53178_4 rfl (by decide) ?_
  refine V.lvs (lv' := [(0, Rf G k), (1, .int v), (2, .int (nI 0)), (3, .int (nI n))]) rfl ?_
  have e0 : σ = sA σ k (fun j => if j < 0 then v else σ.2.1 k j) := by simp only [Nat.not_lt_zero, if_false]; exact (sA_self σ k).symm
  have q := loop n 0 (by omega)
  rw [← e0] at q
  exact q
set_option maxRecDepth 100000 in
set_option maxHeartbeats 4000000 in
theorem ct_fillL (G : Gl) (σ : SS) (k n : Nat) (v : Int64) (hk : sk k = some (.inl (1, n))) (hn : n < 2 ^ 31) : CV G mJ7_fill_d0a16 [Rf G k, .long v] σ (fun σ1 => σ1 = sL σ k (fun j => if j < n then v else σ.2.2.1 k j)) := by
  refine Ctr.of oJ7_fill_d0a16 (Nat.le_of_ble_eq_true rfl) ?_
  intro X C R hnm hz0
  have C : Cx G X cJ7_fill_d0a16 5 RJ7 0 0 0 0 := C
  have R : Cr G X none 0 0 _ := R
  show V G X 5 0 0 0 [(0, Rf G k), (1, .long v)] [] (wld G σ)
  have loop : ∀ m i : Nat, i + m = n → V G X 5 0 0 6 [(0, Rf G k), (1, .long v), (3, .int (nI i)), (4, .int (nI n))] [] (wld G (sL σ k (fun j => if j < i then v else σ.2.2.1 k j))) := by
    intro m
    induction m with
    | zero =>
      intro i hi
      have hi : i = n := by omega
      subst hi
      refine V.iload_n C 3 rfl rfl dJ7_fill_d0a16_6 ?_
      refine V.iload C rfl dJ7_fill_d0a16_7 ?_
      refine V.icmp_ge C 22 dJ7_fill_d0a16_9 rfl (fun hc => ?_) (fun hc => ?_)
      · exact V.vretS C R dJ7_fill_d0a16_22 rfl
      · exact absurd (nI_le (Nat.le_refl i) hn) hc
    | succ m ih =>
      intro i hi
      refine V.iload_n C 3 rfl rfl dJ7_fill_d0a16_6 ?_
      refine V.iload C rfl dJ7_fill_d0a16_7 ?_
      refine V.icmp_ge C 22 dJ7_fill_d0a16_9 rfl (fun hc => ?_) (fun hc => ?_)
      · exact absurd ((nI_leI (by omega) (by omega)).mp hc) (by omega)
      · refine V.aload_n C 0 rfl rfl dJ7_fill_d0a16_12 ?_
        refine V.iload_n C 3 rfl rfl dJ7_fill_d0a16_13 ?_
        refine V.lload_n C 1 rfl rfl dJ7_fill_d0a16_14 ?_
        refine V.lastS C dJ7_fill_d0a16_15 (by assumption) (vp_in_nI (by omega) hn) ?_
        refine V.iinc C (nI (i + 1)) dJ7_fill_d0a16_16 rfl (nI_1 i) (by decide) ?_
        refine V.goto C 6 dJ7_fill_d0a16_19 rfl ?_
        refine V.lvs (lv' := [(0, Rf G k), (1, .long v), (3, .int (nI (i + 1))), (4, .int (nI n))]) rfl ?_
        rw [sL_sL, sL_L]
        have e : va_up (fun j => if j < i then v else σ.2.2.1 k j) (nI i).toNatClampNeg v = fun j => if j < i + 1 then v else σ.2.2.1 k j := by
          rw [nI_clamp (by omega)]
          funext j
          unfold va_up
          by_cases h1 : j = i
          · simp [h1]
          · by_cases h2 : j < i
            · simp [h1, h2, show j < i + 1 by omega]
            · simp [h1, h2, show ¬ j < i + 1 by omega]
        rw [e]
        exact ih (i + 1) (by omega)
  refine V.iconst C (nI 0) c_0 dJ7_fill_d0a16_0 ?_
  refine V.istore_n C 3 dJ7_fill_d0a16_1 rfl (by decide) ?_
  refine V.aload_n C 0 rfl rfl dJ7_fill_d0a16_2 ?_
  refine V.alenS C dJ7_fill_d0a16_3 (by assumption) (by decide) ?_
  refine V.istore C dJ7_fill_d0a16_4 (by decide) ?_
  refine V.lvs (lv' := [(0, Rf G k), (1, .long v), (3, .int (nI 0)), (4, .int (nI n))]) rfl ?_
  have e0 : σ = sL σ k (fun j => if j < 0 then v else σ.2.2.1 k j) := by simp only [Nat.not_lt_zero, if_false]; exact (sL_self σ k).symm
  have q := loop n 0 (by omega)
  rw [← e0] at q
  exact q
end
section
/-! Arrays by natural places; Statements, Term: reads and small writes. -/
theorem sk_small {k t n : Nat} (h : sk k = some (.inl (t, n))) : n < 2 ^ 31 := by
  have h0 : ∀ j, j < 136 → (sk j).all (fun s => match s with
    | .inl (_, n) => decide (n < 2 ^ 31)
    | .inr _ => true) = true := by decide +kernel
  have hl : k < 136 := (List.getElem?_eq_some_iff.mp h).1
  have h1 := h0 k hl
  rw [h] at h1
  simpa using h1
section
variable {G : Gl} {X : Cx0} {cc : ByteArray} {nL fr lo mc ms ce sl pc : Nat} {own : String} {lv : List (Nat × Value)} {st : List Value} {σ : SS}
theorem V.paldN (C : Cx G X cc nL own fr lo mc ms) {k0 n i : Nat} (d : decode cc pc = .ok (.aaload, 1)) (hk : sk k0 = some (.inl (4, n))) (hi : i < n) (k : V G X nL ce sl (pc + 1) lv (Rf G (σ.2.2.2 i) :: st) (wld G σ)) : V G X nL ce sl pc lv (.int (nI i) :: Rf G k0 :: st) (wld G σ) := by
  have hn := sk_small hk
  exact V.paldS C d hk (vp_in_nI hi hn) (by rw [nI_clamp (Nat.lt_trans hi hn)]; exact k)
theorem V.pastN (C : Cx G X cc nL own fr lo mc ms) {j i : Nat} {fs : List (Option Nat)} (d : decode cc pc = .ok (.aastore, 1)) (hj : sk j = some (.inr (4, fs))) (hi : i < 6) (k : V G X nL ce sl (pc + 1) lv st (wld G (sP σ (va_up σ.2.2.2 i j)))) : V G X nL ce sl pc lv (Rf G j :: .int (nI i) :: Rf G 30 :: st) (wld G σ) :=
  V.pastS C d hj (vp_in_nI hi (by decide)) (by rw [nI_clamp (by omega)]; exact k)
theorem V.ialdN (C : Cx G X cc nL own fr lo mc ms) {k0 n i : Nat} (d : decode cc pc = .ok (.iaload, 1)) (hk : sk k0 = some (.inl (0, n))) (hi : i < n) (k : V G X nL ce sl (pc + 1) lv (.int (σ.2.1 k0 i) :: st) (wld G σ)) : V G X nL ce sl pc lv (.int (nI i) :: Rf G k0 :: st) (wld G σ) := by
  have hn := sk_small hk
  exact V.ialdS C d hk (vp_in_nI hi hn) (by rw [nI_clamp (Nat.lt_trans hi hn)]; exact k)
theorem V.zaldN (C : Cx G X cc nL own fr lo mc ms) {k0 n i : Nat} (d : decode cc pc = .ok (.baload, 1)) (hk : sk k0 = some (.inl (2, n))) (hi : i < n) (k : V G X nL ce sl (pc + 1) lv (.int (σ.2.1 k0 i) :: st) (wld G σ)) : V G X nL ce sl pc lv (.int (nI i) :: Rf G k0 :: st) (wld G σ) := by
  have hn := sk_small hk
  exact V.zaldS C d hk (vp_in_nI hi hn) (by rw [nI_clamp (Nat.lt_trans hi hn)]; exact k)
theorem V.caldN (C : Cx G X cc nL own fr lo mc ms) {k0 n i : Nat} (d : decode cc pc = .ok (.caload, 1)) (hk : sk k0 = some (.inl (3, n))) (hi : i < n) (k : V G X nL ce sl (pc + 1) lv (.int (σ.2.1 k0 i) :: st) (wld G σ)) : V G X nL ce sl pc lv (.int (nI i) :: Rf G k0 :: st) (wld G σ) := by
  have hn := sk_small hk
  exact V.caldS C d hk (vp_in_nI hi hn) (by rw [nI_clamp (Nat.lt_trans hi hn)]; exact k)
theorem V.laldN (C : Cx G X cc nL own fr lo mc ms) {k0 n i : Nat} (d : decode cc pc = .ok (.laload, 1)) (hk : sk k0 = some (.inl (1, n))) (hi : i < n) (k : V G X nL ce sl (pc + 1) lv (.long (σ.2.2.1 k0 i) :: st) (wld G σ)) : V G X nL ce sl pc lv (.int (nI i) :: Rf G k0 :: st) (wld G σ) := by
  have hn := sk_small hk
  exact V.laldS C d hk (vp_in_nI hi hn) (by rw [nI_clamp (Nat.lt_trans hi hn)]; exact k)
theorem V.iastN (C : Cx G X cc nL own fr lo mc ms) {k0 n i : Nat} {x : Int32} (d : decode cc pc = .ok (.iastore, 1)) (hk : sk k0 = some (.inl (0, n))) (hi : i < n)  (k : V G X nL ce sl (pc + 1) lv st (wld G (sA σ k0 (va_up (σ.2.1 k0) i x)))) : V G X nL ce sl pc lv (.int x :: .int (nI i) :: Rf G k0 :: st) (wld G σ) := by
  have hn := sk_small hk
  exact V.iastS C d hk (vp_in_nI hi hn) (by rw [nI_clamp (Nat.lt_trans hi hn)]; exact k)
theorem V.zastN (C : Cx G X cc nL own fr lo mc ms) {k0 n i : Nat} {x : Int32} (d : decode cc pc = .ok (.bastore, 1)) (hk : sk k0 = some (.inl (2, n))) (hi : i < n) (hv : x = 0 ∨ x = 1) (k : V G X nL ce sl (pc + 1) lv st (wld G (sA σ k0 (va_up (σ.2.1 k0) i x)))) : V G X nL ce sl pc lv (.int x :: .int (nI i) :: Rf G k0 :: st) (wld G σ) := by
  have hn := sk_small hk
  exact V.zastS C d hk (vp_in_nI hi hn) hv (by rw [nI_clamp (Nat.lt_trans hi hn)]; exact k)
theorem V.castN (C : Cx G X cc nL own fr lo mc ms) {k0 n i : Nat} {x : Int32} (d : decode cc pc = .ok (.castore, 1)) (hk : sk k0 = some (.inl (3, n))) (hi : i < n) (hv : vp_nar .char x = x) (k : V G X nL ce sl (pc + 1) lv st (wld G (sA σ k0 (va_up (σ.2.1 k0) i x)))) : V G X nL ce sl pc lv (.int x :: .int (nI i) :: Rf G k0 :: st) (wld G σ) := by
  have hn := sk_small hk
  exact V.castS C d hk (vp_in_nI hi hn) hv (by rw [nI_clamp (Nat.lt_trans hi hn)]; exact k)
theorem V.lastN (C : Cx G X cc nL own fr lo mc ms) {k0 n i : Nat} {x : Int64} (d : decode cc pc = .ok (.lastore, 1)) (hk : sk k0 = some (.inl (1, n))) (hi : i < n)  (k : V G X nL ce sl (pc + 1) lv st (wld G (sL σ k0 (va_up (σ.2.2.1 k0) i x)))) : V G X nL ce sl pc lv (.long x :: .int (nI i) :: Rf G k0 :: st) (wld G σ) := by
  have hn := sk_small hk
  exact V.lastS C d hk (vp_in_nI hi hn) (by rw [nI_clamp (Nat.lt_trans hi hn)]; exact k)
end
/-- a list of statements at o, of capacity cap -/
def StA (o cap : Nat) : Prop := sk o = some (.inr (6, [none, none, some (o + 1), some (o + 2), some (o + 3)])) ∧ sk (o + 1) = some (.inl (0, cap)) ∧ sk (o + 2) = some (.inl (0, cap * 32)) ∧ sk (o + 3) = some (.inl (0, cap * 2)) ∧ cap ≤ 10
/-- a problem at p -/
def PbA (p : Nat) : Prop := sk p = some (.inr (4, [some (p + 1), some (p + 2), some (p + 6)])) ∧ sk (p + 1) = some (.inl (0, 8)) ∧ StA (p + 2) 10 ∧ StA (p + 6) 3
def pbs : List Nat := [9, 19, 31, 41, 51, 61, 71, 81, 91, 101]
theorem PbA_of {p : Nat} (h : p ∈ pbs) : PbA p := by
  simp only [pbs, List.mem_cons, List.mem_nil_iff, or_false] at h
  rcases h with rfl | rfl | rfl | rfl | rfl | rfl | rfl | rfl | rfl | rfl <;> exact ⟨rfl, rfl, ⟨rfl, rfl, rfl, rfl, by decide⟩, ⟨rfl, rfl, rfl, rfl, by decide⟩⟩
set_option maxRecDepth 100000 in
set_option maxHeartbeats 4000000 in
theorem ct_St_count (G : Gl) (σ : SS) (o cap : Nat) (hS : StA o cap) : CI G mX6_count [Rf G o] σ (fun r σ1 => r = σ.1 o 1 ∧ σ1 = σ) := by
  refine Ctr.of oX6_count (Nat.le_of_ble_eq_true rfl) ?_
  intro X C R hnm hz0
  have C : Cx G X cX6_count 1 RX6 0 0 0 0 := C
  have R : Cr G X (some .int) 0 0 _ := R
  show V G X 1 0 0 0 [(0, Rf G o)] [] (wld G σ)
  obtain ⟨ho, h1, h2, h3, hcap⟩ := hS
  refine V.aload_n C 0 rfl rfl dX6_count_0 ?_
  refine V.getI C fX6_31 dX6_count_1 (by assumption) rfl ?_
  exact V.iretS C R dX6_count_4 ⟨rfl, rfl⟩
set_option maxRecDepth 100000 in
set_option maxHeartbeats 4000000 in
theorem ct_St_isFull (G : Gl) (σ : SS) (o cap : Nat) (hS : StA o cap) : CI G mX6_isFull [Rf G o] σ (fun r σ1 => r = bI (decide (¬ σ.1 o 1 < σ.1 o 0)) ∧ σ1 = σ) := by
  refine Ctr.of oX6_isFull (Nat.le_of_ble_eq_true rfl) ?_
  intro X C R hnm hz0
  have C : Cx G X cX6_isFull 1 RX6 0 0 0 0 := C
  have R : Cr G X (some .boolean) 0 0 _ := R
  show V G X 1 0 0 0 [(0, Rf G o)] [] (wld G σ)
  obtain ⟨ho, h1, h2, h3, hcap⟩ := hS
  refine V.aload_n C 0 rfl rfl dX6_isFull_0 ?_
  refine V.getI C fX6_31 dX6_isFull_1 (by assumption) rfl ?_
  refine V.aload_n C 0 rfl rfl dX6_isFull_4 ?_
  refine V.getI C fX6_15 dX6_isFull_5 (by assumption) rfl ?_
  refine V.icmp_lt C 15 dX6_isFull_8 rfl (fun h8 => ?_) (fun h8 => ?_)
  · refine V.iconst C (nI 0) c_0 dX6_isFull_15 ?_
    exact V.zretS C R dX6_isFull_16 (by first | exact Or.inl rfl | exact Or.inr rfl | exact bI01 _) (by first | exact ⟨by simp only [h8, decide_true]; rfl, rfl⟩ | exact ⟨by simp only [h8, decide_false]; rfl, rfl⟩)
  · refine V.iconst C (nI 1) c_1 dX6_isFull_11 ?_
    refine V.goto C 16 dX6_isFull_12 rfl ?_
    exact V.zretS C R dX6_isFull_16 (by first | exact Or.inl rfl | exact Or.inr rfl | exact bI01 _) (by first | exact ⟨by simp only [h8, decide_true]; rfl, rfl⟩ | exact ⟨by simp only [h8, decide_false]; rfl, rfl⟩)
set_option maxRecDepth 100000 in
set_option maxHeartbeats 4000000 in
theorem ct_St_has (G : Gl) (σ : SS) (o cap c : Nat) (x : Int32) (hS : StA o cap) (hc : σ.1 o 1 = nI c) (hcc : c < 2 ^ 31) : CI G mX6_has [Rf G o, .int x] σ (fun r σ1 => r = bI (inB x c) ∧ σ1 = σ) := by
  refine Ctr.of oX6_has (Nat.le_of_ble_eq_true rfl) ?_
  intro X C R hnm hz0
  have C : Cx G X cX6_has 2 RX6 0 0 0 0 := C
  have R : Cr G X (some .boolean) 0 0 _ := R
  show V G X 2 0 0 0 [(0, Rf G o), (1, .int x)] [] (wld G σ)
  obtain ⟨ho, h1, h2, h3, hcap⟩ := hS
  refine V.iload_n C 1 rfl rfl dX6_has_0 ?_
  refine V.if_lt C 16 dX6_has_1 rfl (fun h1 => ?_) (fun h1 => ?_)
  · refine V.iconst C (nI 0) c_0 dX6_has_16 ?_
    exact V.zretS C R dX6_has_17 (by first | exact Or.inl rfl | exact Or.inr rfl | exact bI01 _) (by first | exact ⟨by rw [inB_in h1 h9 hcc]; rfl, rfl⟩ | exact ⟨by rw [inB_lt0 h1]; rfl, rfl⟩ | exact ⟨by rw [inB_ge h9 hcc]; rfl, rfl⟩)
  · refine V.iload_n C 1 rfl rfl dX6_has_4 ?_
    refine V.aload_n C 0 rfl rfl dX6_has_5 ?_
    refine V.getI C fX6_31 dX6_has_6 (by assumption) rfl ?_
    rw [hc]
    refine V.icmp_ge C 16 dX6_has_9 rfl (fun h9 => ?_) (fun h9 => ?_)
    · refine V.iconst C (nI 0) c_0 dX6_has_16 ?_
      exact V.zretS C R dX6_has_17 (by first | exact Or.inl rfl | exact Or.inr rfl | exact bI01 _) (by first | exact ⟨by rw [inB_in h1 h9 hcc]; rfl, rfl⟩ | exact ⟨by rw [inB_lt0 h1]; rfl, rfl⟩ | exact ⟨by rw [inB_ge h9 hcc]; rfl, rfl⟩)
    · refine V.iconst C (nI 1) c_1 dX6_has_12 ?_
      refine V.goto C 17 dX6_has_13 rfl ?_
      exact V.zretS C R dX6_has_17 (by first | exact Or.inl rfl | exact Or.inr rfl | exact bI01 _) (by first | exact ⟨by rw [inB_in h1 h9 hcc]; rfl, rfl⟩ | exact ⟨by rw [inB_lt0 h1]; rfl, rfl⟩ | exact ⟨by rw [inB_ge h9 hcc]; rfl, rfl⟩)
set_option maxRecDepth 100000 in
set_option maxHeartbeats 4000000 in
theorem ct_St_widthOf (G : Gl) (σ : SS) (o cap c i : Nat) (hS : StA o cap) (hc : σ.1 o 1 = nI c) (hcc : c ≤ cap) (hi : i < 2 ^ 31) : CI G mX6_widthOf [Rf G o, .int (nI i)] σ (fun r σ1 => r = (if i < c then σ.2.1 (o + 1) i else 0) ∧ σ1 = σ) := by
  refine Ctr.of oX6_widthOf (Nat.le_of_ble_eq_true rfl) ?_
  intro X C R hnm hz0
  have C : Cx G X cX6_widthOf 2 RX6 1 21 0 0 := C
  have R : Cr G X (some .int) 0 0 _ := R
  show V G X 2 0 0 0 [(0, Rf G o), (1, .int (nI i))] [] (wld G σ)
  obtain ⟨ho, h1, h2, h3, hcap⟩ := hS
  refine V.aload_n C 0 rfl rfl dX6_widthOf_0 ?_
  refine V.iload_n C 1 rfl rfl dX6_widthOf_1 ?_
  refine V.cVi C lX6_34 oX6_has dX6_widthOf_2 (ct_St_has G σ o cap c (nI i) ⟨ho, h1, h2, h3, hcap⟩ hc (by omega)) (by assumption) rfl rfl (Nat.le_of_ble_eq_true rfl) ⟨Nat.le_of_ble_eq_true rfl, Nat.le_of_ble_eq_true rfl⟩ ⟨Nat.le_of_ble_eq_true rfl, Nat.le_of_ble_eq_true rfl⟩ (fun r2 σ2 p2 => ?_)
  obtain ⟨e2, e3⟩ := p2
  rw [e2, e3, inB_nI hi]
  refine V.if_eq C 17 dX6_widthOf_5 rfl (fun h5 => ?_) (fun h5 => ?_)
  · have h6 : ¬ i < c := by simpa using bI_eq0 h5
    refine V.iconst C (nI 0) c_0 dX6_widthOf_17 ?_
    exact V.iretS C R dX6_widthOf_18 (by first | exact ⟨by rw [if_pos h6], rfl⟩ | exact ⟨by rw [if_neg h6]; rfl, rfl⟩)
  · have h6 : i < c := by simpa using bI_ne0 h5
    refine V.aload_n C 0 rfl rfl dX6_widthOf_8 ?_
    refine V.getR C fX6_21 dX6_widthOf_9 (by assumption) rfl ?_
    refine V.iload_n C 1 rfl rfl dX6_widthOf_12 ?_
    refine V.ialdN C dX6_widthOf_13 (by assumption) (by omega) ?_
    refine V.goto C 18 dX6_widthOf_14 rfl ?_
    exact V.iretS C R dX6_widthOf_18 (by first | exact ⟨by rw [if_pos h6], rfl⟩ | exact ⟨by rw [if_neg h6]; rfl, rfl⟩)
set_option maxRecDepth 100000 in
set_option maxHeartbeats 4000000 in
theorem ct_St_node (G : Gl) (σ : SS) (o cap i s b : Nat) (hS : StA o cap) (hi : i < cap) (hs : s < 2) (hb : b < 16) : CI G mX6_node [Rf G o, .int (nI i), .int (nI s), .int (nI b)] σ (fun r σ1 => r = σ.2.1 (o + 2) ((i * 2 + s) * 16 + b) ∧ σ1 = σ) := by
  refine Ctr.of oX6_node (Nat.le_of_ble_eq_true rfl) ?_
  intro X C R hnm hz0
  have C : Cx G X cX6_node 4 RX6 0 0 0 0 := C
  have R : Cr G X (some .int) 0 0 _ := R
  show V G X 4 0 0 0 [(0, Rf G o), (1, .int (nI i)), (2, .int (nI s)), (3, .int (nI b))] [] (wld G σ)
  obtain ⟨ho, h1, h2, h3, hcap⟩ := hS
  refine V.aload_n C 0 rfl rfl dX6_node_0 ?_
  refine V.getR C fX6_25 dX6_node_1 (by assumption) rfl ?_
  refine V.iload_n C 1 rfl rfl dX6_node_4 ?_
  refine V.iconst C (nI 2) c_2 dX6_node_5 ?_
  refine V.imul C dX6_node_6 ?_
  refine V.iload_n C 2 rfl rfl dX6_node_7 ?_
  refine V.iadd C dX6_node_8 ?_
  refine V.bipush C (nI 16) b_16 dX6_node_9 ?_
  refine V.imul C dX6_node_11 ?_
  refine V.iload_n C 3 rfl rfl dX6_node_12 ?_
  refine V.iadd C dX6_node_13 ?_
  rw [nI_mul, nI_add, nI_mul, nI_add]
  refine V.ialdN C dX6_node_14 (by assumption) (by omega) ?_
  exact V.iretS C R dX6_node_15 ⟨rfl, rfl⟩
set_option maxRecDepth 100000 in
set_option maxHeartbeats 4000000 in
theorem ct_St_partEndsAt (G : Gl) (σ : SS) (o cap i s b : Nat) (hS : StA o cap) (hi : i < cap) (hs : s < 2) : CI G mX6_partEndsAt [Rf G o, .int (nI i), .int (nI s), .int (nI b)] σ (fun r σ1 => r = bI (decide (¬ (σ.2.1 (o + 3) (i * 2 + s) &&& shl32 (nI 1) (nI b)) = 0)) ∧ σ1 = σ) := by
  refine Ctr.of oX6_partEndsAt (Nat.le_of_ble_eq_true rfl) ?_
  intro X C R hnm hz0
  have C : Cx G X cX6_partEndsAt 4 RX6 0 0 0 0 := C
  have R : Cr G X (some .boolean) 0 0 _ := R
  show V G X 4 0 0 0 [(0, Rf G o), (1, .int (nI i)), (2, .int (nI s)), (3, .int (nI b))] [] (wld G σ)
  obtain ⟨ho, h1, h2, h3, hcap⟩ := hS
  refine V.aload_n C 0 rfl rfl dX6_partEndsAt_0 ?_
  refine V.getR C fX6_28 dX6_partEndsAt_1 (by assumption) rfl ?_
  refine V.iload_n C 1 rfl rfl dX6_partEndsAt_4 ?_
  refine V.iconst C (nI 2) c_2 dX6_partEndsAt_5 ?_
  refine V.imul C dX6_partEndsAt_6 ?_
  refine V.iload_n C 2 rfl rfl dX6_partEndsAt_7 ?_
  refine V.iadd C dX6_partEndsAt_8 ?_
  rw [nI_mul, nI_add]
  refine V.ialdN C dX6_partEndsAt_9 (by assumption) (by omega) ?_
  refine V.iconst C (nI 1) c_1 dX6_partEndsAt_10 ?_
  refine V.iload_n C 3 rfl rfl dX6_partEndsAt_11 ?_
  refine V.ishl C dX6_partEndsAt_12 ?_
  refine V.iand C dX6_partEndsAt_13 ?_
  refine V.if_eq C 21 dX6_partEndsAt_14 rfl (fun h14 => ?_) (fun h14 => ?_)
  · refine V.iconst C (nI 0) c_0 dX6_partEndsAt_21 ?_
    exact V.zretS C R dX6_partEndsAt_22 (by first | exact Or.inl rfl | exact Or.inr rfl | exact bI01 _) (by first | exact ⟨by simp only [h14, decide_true, decide_false, not_true, not_false_iff]; rfl, rfl⟩ | exact ⟨by simp only [h14, not_false_iff, decide_true]; rfl, rfl⟩)
  · refine V.iconst C (nI 1) c_1 dX6_partEndsAt_17 ?_
    refine V.goto C 22 dX6_partEndsAt_18 rfl ?_
    exact V.zretS C R dX6_partEndsAt_22 (by first | exact Or.inl rfl | exact Or.inr rfl | exact bI01 _) (by first | exact ⟨by simp only [h14, decide_true, decide_false, not_true, not_false_iff]; rfl, rfl⟩ | exact ⟨by simp only [h14, not_false_iff, decide_true]; rfl, rfl⟩)
set_option maxRecDepth 100000 in
set_option maxHeartbeats 4000000 in
theorem ct_St_clear (G : Gl) (σ : SS) (o cap : Nat) (hS : StA o cap) : CV G mX6_clear [Rf G o] σ (fun σ1 => σ1 = sF σ o 1 (nI 0)) := by
  refine Ctr.of oX6_clear (Nat.le_of_ble_eq_true rfl) ?_
  intro X C R hnm hz0
  have C : Cx G X cX6_clear 1 RX6 0 0 0 0 := C
  have R : Cr G X none 0 0 _ := R
  show V G X 1 0 0 0 [(0, Rf G o)] [] (wld G σ)
  obtain ⟨ho, h1, h2, h3, hcap⟩ := hS
  refine V.aload_n C 0 rfl rfl dX6_clear_0 ?_
  refine V.iconst C (nI 0) c_0 dX6_clear_1 ?_
  refine V.putI C fX6_31 dX6_clear_2 (by assumption) rfl ?_
  exact V.vretS C R dX6_clear_5 rfl
end
