section
-- ===== PART A: goes FIRST, ahead of the names: the tables' words, and 'selects' of the private methods out of them =====
/-- a private method of a class that the tables say can be made, by its rows of tables_1 -/
def lw_okq (q : MethodName × Nat) : Prop := (q.1.cls ≠ "java/lang/invoke/MethodHandle" ∧ q.1.cls ≠ "java/lang/invoke/VarHandle") ∧ Cond.instantiable q.1.cls q.2 ∈ tables_1 ∧ Cond.privateMethod q.1 ∈ tables_1 ∧ Cond.instanceMethod q.1 ∈ tables_1
theorem lw_p0 : lw_okq (⟨"TakenUpCalls", "addLetter", "(I)Z"⟩, 13) := ⟨⟨by decide +kernel, by decide +kernel⟩, List.mem_of_getElem? (i := 15) (by decide +kernel), List.mem_of_getElem? (i := 224) (by decide +kernel), List.mem_of_getElem? (i := 225) (by decide +kernel)⟩
theorem lw_p1 : lw_okq (⟨"TakenUpCalls", "takeText", "()I"⟩, 13) := ⟨⟨by decide +kernel, by decide +kernel⟩, List.mem_of_getElem? (i := 15) (by decide +kernel), List.mem_of_getElem? (i := 228) (by decide +kernel), List.mem_of_getElem? (i := 229) (by decide +kernel)⟩
theorem lw_p2 : lw_okq (⟨"TakenUpCalls$Reader", "readLetter", "(I)I"⟩, 8) := ⟨⟨by decide +kernel, by decide +kernel⟩, List.mem_of_getElem? (i := 23) (by decide +kernel), List.mem_of_getElem? (i := 243) (by decide +kernel), List.mem_of_getElem? (i := 244) (by decide +kernel)⟩
theorem lw_p3 : lw_okq (⟨"TakenUpCalls$Reader", "beginFunction", "(I)I"⟩, 8) := ⟨⟨by decide +kernel, by decide +kernel⟩, List.mem_of_getElem? (i := 23) (by decide +kernel), List.mem_of_getElem? (i := 247) (by decide +kernel), List.mem_of_getElem? (i := 248) (by decide +kernel)⟩
theorem lw_p4 : lw_okq (⟨"TakenUpCalls$Reader", "beginTerm", "(I)I"⟩, 8) := ⟨⟨by decide +kernel, by decide +kernel⟩, List.mem_of_getElem? (i := 23) (by decide +kernel), List.mem_of_getElem? (i := 255) (by decide +kernel), List.mem_of_getElem? (i := 256) (by decide +kernel)⟩
theorem lw_p5 : lw_okq (⟨"TakenUpCalls$Reader", "readLeaf", "(II)I"⟩, 8) := ⟨⟨by decide +kernel, by decide +kernel⟩, List.mem_of_getElem? (i := 23) (by decide +kernel), List.mem_of_getElem? (i := 262) (by decide +kernel), List.mem_of_getElem? (i := 263) (by decide +kernel)⟩
theorem lw_p6 : lw_okq (⟨"TakenUpCalls$Reader", "placeSkips", "(I)V"⟩, 8) := ⟨⟨by decide +kernel, by decide +kernel⟩, List.mem_of_getElem? (i := 23) (by decide +kernel), List.mem_of_getElem? (i := 270) (by decide +kernel), List.mem_of_getElem? (i := 271) (by decide +kernel)⟩
theorem lw_p7 : lw_okq (⟨"TakenUpCalls$Reader", "openTerm", "(III)I"⟩, 8) := ⟨⟨by decide +kernel, by decide +kernel⟩, List.mem_of_getElem? (i := 23) (by decide +kernel), List.mem_of_getElem? (i := 278) (by decide +kernel), List.mem_of_getElem? (i := 279) (by decide +kernel)⟩
theorem lw_p8 : lw_okq (⟨"TakenUpCalls$Reader", "beginCall", "()I"⟩, 8) := ⟨⟨by decide +kernel, by decide +kernel⟩, List.mem_of_getElem? (i := 23) (by decide +kernel), List.mem_of_getElem? (i := 282) (by decide +kernel), List.mem_of_getElem? (i := 283) (by decide +kernel)⟩
theorem lw_p9 : lw_okq (⟨"TakenUpCalls$Reader", "readCalledFunction", "(I)I"⟩, 8) := ⟨⟨by decide +kernel, by decide +kernel⟩, List.mem_of_getElem? (i := 23) (by decide +kernel), List.mem_of_getElem? (i := 286) (by decide +kernel), List.mem_of_getElem? (i := 287) (by decide +kernel)⟩
theorem lw_p10 : lw_okq (⟨"TakenUpCalls$Reader", "endFunction", "(I)I"⟩, 8) := ⟨⟨by decide +kernel, by decide +kernel⟩, List.mem_of_getElem? (i := 23) (by decide +kernel), List.mem_of_getElem? (i := 290) (by decide +kernel), List.mem_of_getElem? (i := 291) (by decide +kernel)⟩
theorem lw_p11 : lw_okq (⟨"TakenUpCalls", "startAnew", "()V"⟩, 13) := ⟨⟨by decide +kernel, by decide +kernel⟩, List.mem_of_getElem? (i := 15) (by decide +kernel), List.mem_of_getElem? (i := 299) (by decide +kernel), List.mem_of_getElem? (i := 300) (by decide +kernel)⟩
theorem lw_p12 : lw_okq (⟨"TakenUpCalls$Maker", "letGo", "(LTakenUpCalls$Call;)V"⟩, 10) := ⟨⟨by decide +kernel, by decide +kernel⟩, List.mem_of_getElem? (i := 183) (by decide +kernel), List.mem_of_getElem? (i := 315) (by decide +kernel), List.mem_of_getElem? (i := 316) (by decide +kernel)⟩
theorem lw_p13 : lw_okq (⟨"TakenUpCalls$Maker", "letGoChain", "(LTakenUpCalls$Call;LTakenUpCalls$Call;)V"⟩, 10) := ⟨⟨by decide +kernel, by decide +kernel⟩, List.mem_of_getElem? (i := 183) (by decide +kernel), List.mem_of_getElem? (i := 319) (by decide +kernel), List.mem_of_getElem? (i := 320) (by decide +kernel)⟩
theorem lw_p14 : lw_okq (⟨"TakenUpCalls$Maker", "make", "(III)LTakenUpCalls$Call;"⟩, 10) := ⟨⟨by decide +kernel, by decide +kernel⟩, List.mem_of_getElem? (i := 183) (by decide +kernel), List.mem_of_getElem? (i := 331) (by decide +kernel), List.mem_of_getElem? (i := 332) (by decide +kernel)⟩
theorem lw_p15 : lw_okq (⟨"TakenUpCalls$Maker", "goThrough", "(LTakenUpCalls$Call;)V"⟩, 10) := ⟨⟨by decide +kernel, by decide +kernel⟩, List.mem_of_getElem? (i := 183) (by decide +kernel), List.mem_of_getElem? (i := 421) (by decide +kernel), List.mem_of_getElem? (i := 422) (by decide +kernel)⟩
def lw_privs_1 : List (MethodName × Nat) := [(⟨"TakenUpCalls", "addLetter", "(I)Z"⟩, 13), (⟨"TakenUpCalls", "takeText", "()I"⟩, 13), (⟨"TakenUpCalls$Reader", "readLetter", "(I)I"⟩, 8), (⟨"TakenUpCalls$Reader", "beginFunction", "(I)I"⟩, 8), (⟨"TakenUpCalls$Reader", "beginTerm", "(I)I"⟩, 8), (⟨"TakenUpCalls$Reader", "readLeaf", "(II)I"⟩, 8), (⟨"TakenUpCalls$Reader", "placeSkips", "(I)V"⟩, 8), (⟨"TakenUpCalls$Reader", "openTerm", "(III)I"⟩, 8), (⟨"TakenUpCalls$Reader", "beginCall", "()I"⟩, 8), (⟨"TakenUpCalls$Reader", "readCalledFunction", "(I)I"⟩, 8), (⟨"TakenUpCalls$Reader", "endFunction", "(I)I"⟩, 8), (⟨"TakenUpCalls", "startAnew", "()V"⟩, 13), (⟨"TakenUpCalls$Maker", "letGo", "(LTakenUpCalls$Call;)V"⟩, 10), (⟨"TakenUpCalls$Maker", "letGoChain", "(LTakenUpCalls$Call;LTakenUpCalls$Call;)V"⟩, 10), (⟨"TakenUpCalls$Maker", "make", "(III)LTakenUpCalls$Call;"⟩, 10), (⟨"TakenUpCalls$Maker", "goThrough", "(LTakenUpCalls$Call;)V"⟩, 10)]
theorem lw_r1 : ∀ q ∈ lw_privs_1, lw_okq q := List.forall_mem_cons.mpr ⟨lw_p0, List.forall_mem_cons.mpr ⟨lw_p1, List.forall_mem_cons.mpr ⟨lw_p2, List.forall_mem_cons.mpr ⟨lw_p3, List.forall_mem_cons.mpr ⟨lw_p4, List.forall_mem_cons.mpr ⟨lw_p5, List.forall_mem_cons.mpr ⟨lw_p6, List.forall_mem_cons.mpr ⟨lw_p7, List.forall_mem_cons.mpr ⟨lw_p8, List.forall_mem_cons.mpr ⟨lw_p9, List.forall_mem_cons.mpr ⟨lw_p10, List.forall_mem_cons.mpr ⟨lw_p11, List.forall_mem_cons.mpr ⟨lw_p12, List.forall_mem_cons.mpr ⟨lw_p13, List.forall_mem_cons.mpr ⟨lw_p14, List.forall_mem_cons.mpr ⟨lw_p15, fun _ h => absurd h List.not_mem_nil⟩⟩⟩⟩⟩⟩⟩⟩⟩⟩⟩⟩⟩⟩⟩⟩
theorem lw_p16 : lw_okq (⟨"TakenUpCalls$Maker", "takeStep", "(LTakenUpCalls$Call;II)I"⟩, 10) := ⟨⟨by decide +kernel, by decide +kernel⟩, List.mem_of_getElem? (i := 183) (by decide +kernel), List.mem_of_getElem? (i := 441) (by decide +kernel), List.mem_of_getElem? (i := 442) (by decide +kernel)⟩
theorem lw_p17 : lw_okq (⟨"TakenUpCalls$Maker", "push", "(I)V"⟩, 10) := ⟨⟨by decide +kernel, by decide +kernel⟩, List.mem_of_getElem? (i := 183) (by decide +kernel), List.mem_of_getElem? (i := 449) (by decide +kernel), List.mem_of_getElem? (i := 450) (by decide +kernel)⟩
theorem lw_p18 : lw_okq (⟨"TakenUpCalls$Maker", "pop", "()I"⟩, 10) := ⟨⟨by decide +kernel, by decide +kernel⟩, List.mem_of_getElem? (i := 183) (by decide +kernel), List.mem_of_getElem? (i := 453) (by decide +kernel), List.mem_of_getElem? (i := 454) (by decide +kernel)⟩
theorem lw_p19 : lw_okq (⟨"TakenUpCalls$Maker", "readCell", "(LTakenUpCalls$Call;I)I"⟩, 10) := ⟨⟨by decide +kernel, by decide +kernel⟩, List.mem_of_getElem? (i := 183) (by decide +kernel), List.mem_of_getElem? (i := 457) (by decide +kernel), List.mem_of_getElem? (i := 458) (by decide +kernel)⟩
theorem lw_p20 : lw_okq (⟨"TakenUpCalls$Maker", "whatPartTells", "(LTakenUpCalls$Call;II)I"⟩, 10) := ⟨⟨by decide +kernel, by decide +kernel⟩, List.mem_of_getElem? (i := 183) (by decide +kernel), List.mem_of_getElem? (i := 468) (by decide +kernel), List.mem_of_getElem? (i := 469) (by decide +kernel)⟩
theorem lw_p21 : lw_okq (⟨"TakenUpCalls$Maker", "takeUp", "(LTakenUpCalls$Call;LTakenUpCalls$Call;)V"⟩, 10) := ⟨⟨by decide +kernel, by decide +kernel⟩, List.mem_of_getElem? (i := 183) (by decide +kernel), List.mem_of_getElem? (i := 481) (by decide +kernel), List.mem_of_getElem? (i := 482) (by decide +kernel)⟩
theorem lw_p22 : lw_okq (⟨"TakenUpCalls$Maker", "bringUp", "(LTakenUpCalls$Call;)V"⟩, 10) := ⟨⟨by decide +kernel, by decide +kernel⟩, List.mem_of_getElem? (i := 183) (by decide +kernel), List.mem_of_getElem? (i := 485) (by decide +kernel), List.mem_of_getElem? (i := 486) (by decide +kernel)⟩
theorem lw_p23 : lw_okq (⟨"TakenUpCalls$Maker", "isAnyPartOtherwise", "(LTakenUpCalls$Call;)Z"⟩, 10) := ⟨⟨by decide +kernel, by decide +kernel⟩, List.mem_of_getElem? (i := 183) (by decide +kernel), List.mem_of_getElem? (i := 494) (by decide +kernel), List.mem_of_getElem? (i := 495) (by decide +kernel)⟩
theorem lw_p24 : lw_okq (⟨"TakenUpCalls$Maker", "joinTwo", "(I)V"⟩, 10) := ⟨⟨by decide +kernel, by decide +kernel⟩, List.mem_of_getElem? (i := 183) (by decide +kernel), List.mem_of_getElem? (i := 502) (by decide +kernel), List.mem_of_getElem? (i := 503) (by decide +kernel)⟩
theorem lw_p25 : lw_okq (⟨"TakenUpCalls$Maker", "clearCounts", "()V"⟩, 10) := ⟨⟨by decide +kernel, by decide +kernel⟩, List.mem_of_getElem? (i := 183) (by decide +kernel), List.mem_of_getElem? (i := 506) (by decide +kernel), List.mem_of_getElem? (i := 507) (by decide +kernel)⟩
theorem lw_p26 : lw_okq (⟨"TakenUpCalls$Trace", "listAll", "(LTakenUpCalls$Call;I)V"⟩, 3) := ⟨⟨by decide +kernel, by decide +kernel⟩, List.mem_of_getElem? (i := 109) (by decide +kernel), List.mem_of_getElem? (i := 514) (by decide +kernel), List.mem_of_getElem? (i := 515) (by decide +kernel)⟩
theorem lw_p27 : lw_okq (⟨"TakenUpCalls", "tellingByItself", "(II)I"⟩, 13) := ⟨⟨by decide +kernel, by decide +kernel⟩, List.mem_of_getElem? (i := 15) (by decide +kernel), List.mem_of_getElem? (i := 580) (by decide +kernel), List.mem_of_getElem? (i := 581) (by decide +kernel)⟩
theorem lw_p28 : lw_okq (⟨"TakenUpCalls", "isAlike", "()Z"⟩, 13) := ⟨⟨by decide +kernel, by decide +kernel⟩, List.mem_of_getElem? (i := 15) (by decide +kernel), List.mem_of_getElem? (i := 588) (by decide +kernel), List.mem_of_getElem? (i := 589) (by decide +kernel)⟩
theorem lw_p29 : lw_okq (⟨"TakenUpCalls", "firstWrong", "()I"⟩, 13) := ⟨⟨by decide +kernel, by decide +kernel⟩, List.mem_of_getElem? (i := 15) (by decide +kernel), List.mem_of_getElem? (i := 615) (by decide +kernel), List.mem_of_getElem? (i := 616) (by decide +kernel)⟩
theorem lw_p30 : lw_okq (⟨"TakenUpCalls$Book", "has", "(I)Z"⟩, 4) := ⟨⟨by decide +kernel, by decide +kernel⟩, List.mem_of_getElem? (i := 152) (by decide +kernel), List.mem_of_getElem? (i := 623) (by decide +kernel), List.mem_of_getElem? (i := 624) (by decide +kernel)⟩
theorem lw_p31 : lw_okq (⟨"TakenUpCalls", "changeCell", "(II)I"⟩, 13) := ⟨⟨by decide +kernel, by decide +kernel⟩, List.mem_of_getElem? (i := 15) (by decide +kernel), List.mem_of_getElem? (i := 672) (by decide +kernel), List.mem_of_getElem? (i := 673) (by decide +kernel)⟩
def lw_privs_2 : List (MethodName × Nat) := [(⟨"TakenUpCalls$Maker", "takeStep", "(LTakenUpCalls$Call;II)I"⟩, 10), (⟨"TakenUpCalls$Maker", "push", "(I)V"⟩, 10), (⟨"TakenUpCalls$Maker", "pop", "()I"⟩, 10), (⟨"TakenUpCalls$Maker", "readCell", "(LTakenUpCalls$Call;I)I"⟩, 10), (⟨"TakenUpCalls$Maker", "whatPartTells", "(LTakenUpCalls$Call;II)I"⟩, 10), (⟨"TakenUpCalls$Maker", "takeUp", "(LTakenUpCalls$Call;LTakenUpCalls$Call;)V"⟩, 10), (⟨"TakenUpCalls$Maker", "bringUp", "(LTakenUpCalls$Call;)V"⟩, 10), (⟨"TakenUpCalls$Maker", "isAnyPartOtherwise", "(LTakenUpCalls$Call;)Z"⟩, 10), (⟨"TakenUpCalls$Maker", "joinTwo", "(I)V"⟩, 10), (⟨"TakenUpCalls$Maker", "clearCounts", "()V"⟩, 10), (⟨"TakenUpCalls$Trace", "listAll", "(LTakenUpCalls$Call;I)V"⟩, 3), (⟨"TakenUpCalls", "tellingByItself", "(II)I"⟩, 13), (⟨"TakenUpCalls", "isAlike", "()Z"⟩, 13), (⟨"TakenUpCalls", "firstWrong", "()I"⟩, 13), (⟨"TakenUpCalls$Book", "has", "(I)Z"⟩, 4), (⟨"TakenUpCalls", "changeCell", "(II)I"⟩, 13)]
theorem lw_r2 : ∀ q ∈ lw_privs_2, lw_okq q := List.forall_mem_cons.mpr ⟨lw_p16, List.forall_mem_cons.mpr ⟨lw_p17, List.forall_mem_cons.mpr ⟨lw_p18, List.forall_mem_cons.mpr ⟨lw_p19, List.forall_mem_cons.mpr ⟨lw_p20, List.forall_mem_cons.mpr ⟨lw_p21, List.forall_mem_cons.mpr ⟨lw_p22, List.forall_mem_cons.mpr ⟨lw_p23, List.forall_mem_cons.mpr ⟨lw_p24, List.forall_mem_cons.mpr ⟨lw_p25, List.forall_mem_cons.mpr ⟨lw_p26, List.forall_mem_cons.mpr ⟨lw_p27, List.forall_mem_cons.mpr ⟨lw_p28, List.forall_mem_cons.mpr ⟨lw_p29, List.forall_mem_cons.mpr ⟨lw_p30, List.forall_mem_cons.mpr ⟨lw_p31, fun _ h => absurd h List.not_mem_nil⟩⟩⟩⟩⟩⟩⟩⟩⟩⟩⟩⟩⟩⟩⟩⟩
theorem lw_p32 : lw_okq (⟨"TakenUpCalls$Deeds", "note", "(III)V"⟩, 5) := ⟨⟨by decide +kernel, by decide +kernel⟩, List.mem_of_getElem? (i := 129) (by decide +kernel), List.mem_of_getElem? (i := 680) (by decide +kernel), List.mem_of_getElem? (i := 681) (by decide +kernel)⟩
theorem lw_p33 : lw_okq (⟨"TakenUpCallsModel", "layFirst", "()V"⟩, 48) := ⟨⟨by decide +kernel, by decide +kernel⟩, List.mem_of_getElem? (i := 758) (by decide +kernel), List.mem_of_getElem? (i := 764) (by decide +kernel), List.mem_of_getElem? (i := 765) (by decide +kernel)⟩
theorem lw_p34 : lw_okq (⟨"TakenUpCallsModel", "layNow", "()I"⟩, 48) := ⟨⟨by decide +kernel, by decide +kernel⟩, List.mem_of_getElem? (i := 758) (by decide +kernel), List.mem_of_getElem? (i := 768) (by decide +kernel), List.mem_of_getElem? (i := 769) (by decide +kernel)⟩
theorem lw_p35 : lw_okq (⟨"TakenUpCallsModel", "layNew", "(II)I"⟩, 48) := ⟨⟨by decide +kernel, by decide +kernel⟩, List.mem_of_getElem? (i := 758) (by decide +kernel), List.mem_of_getElem? (i := 772) (by decide +kernel), List.mem_of_getElem? (i := 773) (by decide +kernel)⟩
theorem lw_p36 : lw_okq (⟨"TakenUpCallsModel", "begin", "(II)V"⟩, 48) := ⟨⟨by decide +kernel, by decide +kernel⟩, List.mem_of_getElem? (i := 758) (by decide +kernel), List.mem_of_getElem? (i := 776) (by decide +kernel), List.mem_of_getElem? (i := 777) (by decide +kernel)⟩
theorem lw_p37 : lw_okq (⟨"TakenUpCallsModel", "push", "(II)V"⟩, 48) := ⟨⟨by decide +kernel, by decide +kernel⟩, List.mem_of_getElem? (i := 758) (by decide +kernel), List.mem_of_getElem? (i := 780) (by decide +kernel), List.mem_of_getElem? (i := 781) (by decide +kernel)⟩
theorem lw_p38 : lw_okq (⟨"TakenUpCallsModel", "open", "()I"⟩, 48) := ⟨⟨by decide +kernel, by decide +kernel⟩, List.mem_of_getElem? (i := 758) (by decide +kernel), List.mem_of_getElem? (i := 784) (by decide +kernel), List.mem_of_getElem? (i := 785) (by decide +kernel)⟩
theorem lw_p39 : lw_okq (⟨"TakenUpCallsModel", "give", "(I)I"⟩, 48) := ⟨⟨by decide +kernel, by decide +kernel⟩, List.mem_of_getElem? (i := 758) (by decide +kernel), List.mem_of_getElem? (i := 793) (by decide +kernel), List.mem_of_getElem? (i := 794) (by decide +kernel)⟩
theorem lw_p40 : lw_okq (⟨"TakenUpCallsModel", "called", "(II)I"⟩, 48) := ⟨⟨by decide +kernel, by decide +kernel⟩, List.mem_of_getElem? (i := 758) (by decide +kernel), List.mem_of_getElem? (i := 797) (by decide +kernel), List.mem_of_getElem? (i := 798) (by decide +kernel)⟩
theorem lw_p41 : lw_okq (⟨"TakenUpCallsModel", "choose", "(II)I"⟩, 48) := ⟨⟨by decide +kernel, by decide +kernel⟩, List.mem_of_getElem? (i := 758) (by decide +kernel), List.mem_of_getElem? (i := 801) (by decide +kernel), List.mem_of_getElem? (i := 802) (by decide +kernel)⟩
theorem lw_p42 : lw_okq (⟨"TakenUpCallsModel", "skip", "()V"⟩, 48) := ⟨⟨by decide +kernel, by decide +kernel⟩, List.mem_of_getElem? (i := 758) (by decide +kernel), List.mem_of_getElem? (i := 805) (by decide +kernel), List.mem_of_getElem? (i := 806) (by decide +kernel)⟩
theorem lw_p43 : lw_okq (⟨"TakenUpCallsModel", "giveTwo", "(II)I"⟩, 48) := ⟨⟨by decide +kernel, by decide +kernel⟩, List.mem_of_getElem? (i := 758) (by decide +kernel), List.mem_of_getElem? (i := 812) (by decide +kernel), List.mem_of_getElem? (i := 813) (by decide +kernel)⟩
theorem lw_p44 : lw_okq (⟨"TakenUpCallsModel", "matchAll", "(Z)V"⟩, 48) := ⟨⟨by decide +kernel, by decide +kernel⟩, List.mem_of_getElem? (i := 758) (by decide +kernel), List.mem_of_getElem? (i := 819) (by decide +kernel), List.mem_of_getElem? (i := 820) (by decide +kernel)⟩
theorem lw_p45 : lw_okq (⟨"TakenUpCallsModel", "isDoneAnew", "(II)Z"⟩, 48) := ⟨⟨by decide +kernel, by decide +kernel⟩, List.mem_of_getElem? (i := 758) (by decide +kernel), List.mem_of_getElem? (i := 823) (by decide +kernel), List.mem_of_getElem? (i := 824) (by decide +kernel)⟩
theorem lw_p46 : lw_okq (⟨"TakenUpCallsModel", "isOld", "(I)Z"⟩, 48) := ⟨⟨by decide +kernel, by decide +kernel⟩, List.mem_of_getElem? (i := 758) (by decide +kernel), List.mem_of_getElem? (i := 827) (by decide +kernel), List.mem_of_getElem? (i := 828) (by decide +kernel)⟩
theorem lw_p47 : lw_okq (⟨"TakenUpCallsModel", "matchParts", "(II)V"⟩, 48) := ⟨⟨by decide +kernel, by decide +kernel⟩, List.mem_of_getElem? (i := 758) (by decide +kernel), List.mem_of_getElem? (i := 837) (by decide +kernel), List.mem_of_getElem? (i := 838) (by decide +kernel)⟩
def lw_privs_3 : List (MethodName × Nat) := [(⟨"TakenUpCalls$Deeds", "note", "(III)V"⟩, 5), (⟨"TakenUpCallsModel", "layFirst", "()V"⟩, 48), (⟨"TakenUpCallsModel", "layNow", "()I"⟩, 48), (⟨"TakenUpCallsModel", "layNew", "(II)I"⟩, 48), (⟨"TakenUpCallsModel", "begin", "(II)V"⟩, 48), (⟨"TakenUpCallsModel", "push", "(II)V"⟩, 48), (⟨"TakenUpCallsModel", "open", "()I"⟩, 48), (⟨"TakenUpCallsModel", "give", "(I)I"⟩, 48), (⟨"TakenUpCallsModel", "called", "(II)I"⟩, 48), (⟨"TakenUpCallsModel", "choose", "(II)I"⟩, 48), (⟨"TakenUpCallsModel", "skip", "()V"⟩, 48), (⟨"TakenUpCallsModel", "giveTwo", "(II)I"⟩, 48), (⟨"TakenUpCallsModel", "matchAll", "(Z)V"⟩, 48), (⟨"TakenUpCallsModel", "isDoneAnew", "(II)Z"⟩, 48), (⟨"TakenUpCallsModel", "isOld", "(I)Z"⟩, 48), (⟨"TakenUpCallsModel", "matchParts", "(II)V"⟩, 48)]
theorem lw_r3 : ∀ q ∈ lw_privs_3, lw_okq q := List.forall_mem_cons.mpr ⟨lw_p32, List.forall_mem_cons.mpr ⟨lw_p33, List.forall_mem_cons.mpr ⟨lw_p34, List.forall_mem_cons.mpr ⟨lw_p35, List.forall_mem_cons.mpr ⟨lw_p36, List.forall_mem_cons.mpr ⟨lw_p37, List.forall_mem_cons.mpr ⟨lw_p38, List.forall_mem_cons.mpr ⟨lw_p39, List.forall_mem_cons.mpr ⟨lw_p40, List.forall_mem_cons.mpr ⟨lw_p41, List.forall_mem_cons.mpr ⟨lw_p42, List.forall_mem_cons.mpr ⟨lw_p43, List.forall_mem_cons.mpr ⟨lw_p44, List.forall_mem_cons.mpr ⟨lw_p45, List.forall_mem_cons.mpr ⟨lw_p46, List.forall_mem_cons.mpr ⟨lw_p47, fun _ h => absurd h List.not_mem_nil⟩⟩⟩⟩⟩⟩⟩⟩⟩⟩⟩⟩⟩⟩⟩⟩
theorem lw_p48 : lw_okq (⟨"TakenUpCallsModel", "takeOver", "()V"⟩, 48) := ⟨⟨by decide +kernel, by decide +kernel⟩, List.mem_of_getElem? (i := 758) (by decide +kernel), List.mem_of_getElem? (i := 841) (by decide +kernel), List.mem_of_getElem? (i := 842) (by decide +kernel)⟩
theorem lw_p49 : lw_okq (⟨"TakenUpCallsModel", "readText", "()I"⟩, 48) := ⟨⟨by decide +kernel, by decide +kernel⟩, List.mem_of_getElem? (i := 758) (by decide +kernel), List.mem_of_getElem? (i := 1001) (by decide +kernel), List.mem_of_getElem? (i := 1002) (by decide +kernel)⟩
theorem lw_p50 : lw_okq (⟨"TakenUpCallsModel", "faultOf", "(I)I"⟩, 48) := ⟨⟨by decide +kernel, by decide +kernel⟩, List.mem_of_getElem? (i := 758) (by decide +kernel), List.mem_of_getElem? (i := 1005) (by decide +kernel), List.mem_of_getElem? (i := 1006) (by decide +kernel)⟩
theorem lw_p51 : lw_okq (⟨"TakenUpCallsModel", "goOn", "(I)V"⟩, 48) := ⟨⟨by decide +kernel, by decide +kernel⟩, List.mem_of_getElem? (i := 758) (by decide +kernel), List.mem_of_getElem? (i := 1012) (by decide +kernel), List.mem_of_getElem? (i := 1013) (by decide +kernel)⟩
theorem lw_p52 : lw_okq (⟨"TakenUpCallsModel", "layCode", "()V"⟩, 48) := ⟨⟨by decide +kernel, by decide +kernel⟩, List.mem_of_getElem? (i := 758) (by decide +kernel), List.mem_of_getElem? (i := 1016) (by decide +kernel), List.mem_of_getElem? (i := 1017) (by decide +kernel)⟩
theorem lw_p53 : lw_okq (⟨"TakenUpCallsModel", "isAlike", "()Z"⟩, 48) := ⟨⟨by decide +kernel, by decide +kernel⟩, List.mem_of_getElem? (i := 758) (by decide +kernel), List.mem_of_getElem? (i := 1028) (by decide +kernel), List.mem_of_getElem? (i := 1029) (by decide +kernel)⟩
theorem lw_p54 : lw_okq (⟨"TakenUpCallsModel", "toldMore", "(I)I"⟩, 48) := ⟨⟨by decide +kernel, by decide +kernel⟩, List.mem_of_getElem? (i := 758) (by decide +kernel), List.mem_of_getElem? (i := 1032) (by decide +kernel), List.mem_of_getElem? (i := 1033) (by decide +kernel)⟩
theorem lw_p55 : lw_okq (⟨"TakenUpCallsModel", "deepest", "()I"⟩, 48) := ⟨⟨by decide +kernel, by decide +kernel⟩, List.mem_of_getElem? (i := 758) (by decide +kernel), List.mem_of_getElem? (i := 1036) (by decide +kernel), List.mem_of_getElem? (i := 1037) (by decide +kernel)⟩
theorem lw_p56 : lw_okq (⟨"TakenUpCallsModel", "oldMany", "()I"⟩, 48) := ⟨⟨by decide +kernel, by decide +kernel⟩, List.mem_of_getElem? (i := 758) (by decide +kernel), List.mem_of_getElem? (i := 1040) (by decide +kernel), List.mem_of_getElem? (i := 1041) (by decide +kernel)⟩
theorem lw_p57 : lw_okq (⟨"TakenUpCallsModel", "bears", "()I"⟩, 48) := ⟨⟨by decide +kernel, by decide +kernel⟩, List.mem_of_getElem? (i := 758) (by decide +kernel), List.mem_of_getElem? (i := 1044) (by decide +kernel), List.mem_of_getElem? (i := 1045) (by decide +kernel)⟩
theorem lw_p58 : lw_okq (⟨"TakenUpCallsModel", "wrong", "()I"⟩, 48) := ⟨⟨by decide +kernel, by decide +kernel⟩, List.mem_of_getElem? (i := 758) (by decide +kernel), List.mem_of_getElem? (i := 1048) (by decide +kernel), List.mem_of_getElem? (i := 1049) (by decide +kernel)⟩
theorem lw_p59 : lw_okq (⟨"TakenUpCallsModel", "makerOf", "(I)I"⟩, 48) := ⟨⟨by decide +kernel, by decide +kernel⟩, List.mem_of_getElem? (i := 758) (by decide +kernel), List.mem_of_getElem? (i := 1062) (by decide +kernel), List.mem_of_getElem? (i := 1063) (by decide +kernel)⟩
theorem lw_p60 : lw_okq (⟨"TakenUpCallsModel", "partsOf", "(I)I"⟩, 48) := ⟨⟨by decide +kernel, by decide +kernel⟩, List.mem_of_getElem? (i := 758) (by decide +kernel), List.mem_of_getElem? (i := 1066) (by decide +kernel), List.mem_of_getElem? (i := 1067) (by decide +kernel)⟩
theorem lw_p61 : lw_okq (⟨"TakenUpCallsModel", "remember", "()V"⟩, 48) := ⟨⟨by decide +kernel, by decide +kernel⟩, List.mem_of_getElem? (i := 758) (by decide +kernel), List.mem_of_getElem? (i := 1079) (by decide +kernel), List.mem_of_getElem? (i := 1080) (by decide +kernel)⟩
theorem lw_p62 : lw_okq (⟨"TakenUpCallsModel", "copyRow", "(II)V"⟩, 48) := ⟨⟨by decide +kernel, by decide +kernel⟩, List.mem_of_getElem? (i := 758) (by decide +kernel), List.mem_of_getElem? (i := 1083) (by decide +kernel), List.mem_of_getElem? (i := 1084) (by decide +kernel)⟩
theorem lw_p63 : lw_okq (⟨"TakenUpCallsModel", "draw", "(I)I"⟩, 48) := ⟨⟨by decide +kernel, by decide +kernel⟩, List.mem_of_getElem? (i := 758) (by decide +kernel), List.mem_of_getElem? (i := 1100) (by decide +kernel), List.mem_of_getElem? (i := 1101) (by decide +kernel)⟩
def lw_privs_4 : List (MethodName × Nat) := [(⟨"TakenUpCallsModel", "takeOver", "()V"⟩, 48), (⟨"TakenUpCallsModel", "readText", "()I"⟩, 48), (⟨"TakenUpCallsModel", "faultOf", "(I)I"⟩, 48), (⟨"TakenUpCallsModel", "goOn", "(I)V"⟩, 48), (⟨"TakenUpCallsModel", "layCode", "()V"⟩, 48), (⟨"TakenUpCallsModel", "isAlike", "()Z"⟩, 48), (⟨"TakenUpCallsModel", "toldMore", "(I)I"⟩, 48), (⟨"TakenUpCallsModel", "deepest", "()I"⟩, 48), (⟨"TakenUpCallsModel", "oldMany", "()I"⟩, 48), (⟨"TakenUpCallsModel", "bears", "()I"⟩, 48), (⟨"TakenUpCallsModel", "wrong", "()I"⟩, 48), (⟨"TakenUpCallsModel", "makerOf", "(I)I"⟩, 48), (⟨"TakenUpCallsModel", "partsOf", "(I)I"⟩, 48), (⟨"TakenUpCallsModel", "remember", "()V"⟩, 48), (⟨"TakenUpCallsModel", "copyRow", "(II)V"⟩, 48), (⟨"TakenUpCallsModel", "draw", "(I)I"⟩, 48)]
theorem lw_r4 : ∀ q ∈ lw_privs_4, lw_okq q := List.forall_mem_cons.mpr ⟨lw_p48, List.forall_mem_cons.mpr ⟨lw_p49, List.forall_mem_cons.mpr ⟨lw_p50, List.forall_mem_cons.mpr ⟨lw_p51, List.forall_mem_cons.mpr ⟨lw_p52, List.forall_mem_cons.mpr ⟨lw_p53, List.forall_mem_cons.mpr ⟨lw_p54, List.forall_mem_cons.mpr ⟨lw_p55, List.forall_mem_cons.mpr ⟨lw_p56, List.forall_mem_cons.mpr ⟨lw_p57, List.forall_mem_cons.mpr ⟨lw_p58, List.forall_mem_cons.mpr ⟨lw_p59, List.forall_mem_cons.mpr ⟨lw_p60, List.forall_mem_cons.mpr ⟨lw_p61, List.forall_mem_cons.mpr ⟨lw_p62, List.forall_mem_cons.mpr ⟨lw_p63, fun _ h => absurd h List.not_mem_nil⟩⟩⟩⟩⟩⟩⟩⟩⟩⟩⟩⟩⟩⟩⟩⟩
def lw_privs : List (MethodName × Nat) := lw_privs_1 ++ (lw_privs_2 ++ (lw_privs_3 ++ (lw_privs_4)))
def lw_tbl : List Cond := k2_sels lw_privs ++ tables_1
theorem lw_privs_ok : ∀ q ∈ lw_privs, lw_okq q := by
  show ∀ q ∈ lw_privs_1 ++ (lw_privs_2 ++ (lw_privs_3 ++ (lw_privs_4))), lw_okq q
  exact List.forall_mem_append.mpr ⟨lw_r1, List.forall_mem_append.mpr ⟨lw_r2, List.forall_mem_append.mpr ⟨lw_r3, lw_r4⟩⟩⟩
end
section
def RX0 : String := "TakenUpCalls$Book"
def TX0 : u_T := fun k => match k with
  | 0 => ("TakenUpCalls$Book", "function", "[I", true)
  | 1 => ("TakenUpCalls$Book", "argument", "[I", true)
  | 2 => ("TakenUpCalls$Book", "telling", "[I", true)
  | _ => ("TakenUpCalls$Book", "entries", "I", false)
def tyX0 : Nat → FieldType := fun k => match k with
  | 0 => .array .int
  | 1 => .array .int
  | 2 => .array .int
  | _ => .int
abbrev wsX00 : List Cond := u_ws RX0 TX0 4
theorem nmX0 : ∀ a, a < 4 → ∀ b, b < 4 → a ≠ b → (TX0 a).2.1 ≠ (TX0 b).2.1 := by decide +kernel
theorem tyX0_ok : ∀ k, k < 4 → parseFieldDescriptor (TX0 k).2.2.1 = some (tyX0 k) := by decide +kernel
abbrev cX0_init : ByteArray := prog_2_method_1_code
def yX0_init : MethodName := ⟨RX0, "<init>", "()V"⟩
abbrev cX0_addEntry : ByteArray := prog_2_method_2_code
def yX0_addEntry : MethodName := ⟨RX0, "addEntry", "(III)Z"⟩
abbrev cX0_has : ByteArray := prog_2_method_3_code
def yX0_has : MethodName := ⟨RX0, "has", "(I)Z"⟩
abbrev cX0_functionAt : ByteArray := prog_2_method_4_code
def yX0_functionAt : MethodName := ⟨RX0, "functionAt", "(I)I"⟩
abbrev cX0_argumentAt : ByteArray := prog_2_method_5_code
def yX0_argumentAt : MethodName := ⟨RX0, "argumentAt", "(I)I"⟩
abbrev cX0_tellingAt : ByteArray := prog_2_method_6_code
def yX0_tellingAt : MethodName := ⟨RX0, "tellingAt", "(I)I"⟩
def RX1 : String := "TakenUpCalls$Call"
def TX1 : u_T := fun k => match k with
  | 0 => ("TakenUpCalls$Call", "function", "I", false)
  | 1 => ("TakenUpCalls$Call", "argument", "I", false)
  | 2 => ("TakenUpCalls$Call", "tells", "I", false)
  | 3 => ("TakenUpCalls$Call", "name", "I", false)
  | 4 => ("TakenUpCalls$Call", "doings", "I", false)
  | 5 => ("TakenUpCalls$Call", "nest", "I", false)
  | 6 => ("TakenUpCalls$Call", "reads", "I", false)
  | 7 => ("TakenUpCalls$Call", "held", "[I", true)
  | 8 => ("TakenUpCalls$Call", "firstPart", "LTakenUpCalls$Call;", false)
  | 9 => ("TakenUpCalls$Call", "lastPart", "LTakenUpCalls$Call;", false)
  | 10 => ("TakenUpCalls$Call", "next", "LTakenUpCalls$Call;", false)
  | 11 => ("TakenUpCalls$Call", "partsSoFar", "LTakenUpCalls$Call;", false)
  | 12 => ("TakenUpCalls$Call", "broughtBy", "I", false)
  | 13 => ("TakenUpCalls$Call", "madeBy", "I", false)
  | _ => ("TakenUpCalls$Call", "holds", "I", false)
def tyX1 : Nat → FieldType := fun k => match k with
  | 0 => .int
  | 1 => .int
  | 2 => .int
  | 3 => .int
  | 4 => .int
  | 5 => .int
  | 6 => .int
  | 7 => .array .int
  | 8 => .object "TakenUpCalls$Call"
  | 9 => .object "TakenUpCalls$Call"
  | 10 => .object "TakenUpCalls$Call"
  | 11 => .object "TakenUpCalls$Call"
  | 12 => .int
  | 13 => .int
  | _ => .int
abbrev wsX10 : List Cond := u_ws RX1 TX1 15
theorem nmX1 : ∀ a, a < 15 → ∀ b, b < 15 → a ≠ b → (TX1 a).2.1 ≠ (TX1 b).2.1 := by decide +kernel
theorem tyX1_ok : ∀ k, k < 15 → parseFieldDescriptor (TX1 k).2.2.1 = some (tyX1 k) := by decide +kernel
abbrev cX1_init : ByteArray := prog_3_method_1_code
def yX1_init : MethodName := ⟨RX1, "<init>", "()V"⟩
abbrev cX1_begin : ByteArray := prog_3_method_2_code
def yX1_begin : MethodName := ⟨RX1, "begin", "(IIII)V"⟩
abbrev cX1_beginDoing : ByteArray := prog_3_method_3_code
def yX1_beginDoing : MethodName := ⟨RX1, "beginDoing", "()V"⟩
abbrev cX1_addPart : ByteArray := prog_3_method_4_code
def yX1_addPart : MethodName := ⟨RX1, "addPart", "(LTakenUpCalls$Call;)V"⟩
abbrev cX1_firstSoFar : ByteArray := prog_3_method_5_code
def yX1_firstSoFar : MethodName := ⟨RX1, "firstSoFar", "(II)LTakenUpCalls$Call;"⟩
abbrev cX1_noteRead : ByteArray := prog_3_method_6_code
def yX1_noteRead : MethodName := ⟨RX1, "noteRead", "(II)V"⟩
abbrev cX1_isOf : ByteArray := prog_3_method_7_code
def yX1_isOf : MethodName := ⟨RX1, "isOf", "(II)Z"⟩
abbrev cX1_isOld : ByteArray := prog_3_method_8_code
def yX1_isOld : MethodName := ⟨RX1, "isOld", "([I)Z"⟩
abbrev cX1_howManyParts : ByteArray := prog_3_method_9_code
def yX1_howManyParts : MethodName := ⟨RX1, "howManyParts", "()I"⟩
abbrev cX1_isAlike : ByteArray := prog_3_method_10_code
def yX1_isAlike : MethodName := ⟨RX1, "isAlike", "(LTakenUpCalls$Call;)Z"⟩
abbrev cX1_areAlike : ByteArray := prog_3_method_11_code
def yX1_areAlike : MethodName := ⟨RX1, "areAlike", "(LTakenUpCalls$Call;LTakenUpCalls$Call;)Z"⟩
def RX2 : String := "TakenUpCalls$Deeds"
def TX2 : u_T := fun k => match k with
  | 0 => ("TakenUpCalls$Deeds", "ofWhat", "[I", true)
  | 1 => ("TakenUpCalls$Deeds", "first", "[I", true)
  | 2 => ("TakenUpCalls$Deeds", "second", "[I", true)
  | 3 => ("TakenUpCalls$Deeds", "latest", "I", false)
  | _ => ("TakenUpCalls$Deeds", "count", "I", false)
def tyX2 : Nat → FieldType := fun k => match k with
  | 0 => .array .int
  | 1 => .array .int
  | 2 => .array .int
  | 3 => .int
  | _ => .int
abbrev wsX20 : List Cond := u_ws RX2 TX2 5
theorem nmX2 : ∀ a, a < 5 → ∀ b, b < 5 → a ≠ b → (TX2 a).2.1 ≠ (TX2 b).2.1 := by decide +kernel
theorem tyX2_ok : ∀ k, k < 5 → parseFieldDescriptor (TX2 k).2.2.1 = some (tyX2 k) := by decide +kernel
abbrev cX2_init : ByteArray := prog_4_method_1_code
def yX2_init : MethodName := ⟨RX2, "<init>", "()V"⟩
abbrev cX2_noteCell : ByteArray := prog_4_method_2_code
def yX2_noteCell : MethodName := ⟨RX2, "noteCell", "(II)V"⟩
abbrev cX2_noteAim : ByteArray := prog_4_method_3_code
def yX2_noteAim : MethodName := ⟨RX2, "noteAim", "(II)V"⟩
abbrev cX2_note : ByteArray := prog_4_method_4_code
def yX2_note : MethodName := ⟨RX2, "note", "(III)V"⟩
abbrev cX2_forget : ByteArray := prog_4_method_5_code
def yX2_forget : MethodName := ⟨RX2, "forget", "()V"⟩
abbrev cX2_takeBackLatest : ByteArray := prog_4_method_6_code
def yX2_takeBackLatest : MethodName := ⟨RX2, "takeBackLatest", "(LTakenUpCalls$Scene;)V"⟩
def RX3 : String := "TakenUpCalls$Maker"
def TX3 : u_T := fun k => match k with
  | 0 => ("TakenUpCalls$Maker", "scene", "LTakenUpCalls$Scene;", true)
  | 1 => ("TakenUpCalls$Maker", "pool", "LTakenUpCalls$Pool;", true)
  | 2 => ("TakenUpCalls$Maker", "stack", "[I", true)
  | 3 => ("TakenUpCalls$Maker", "top", "I", false)
  | 4 => ("TakenUpCalls$Maker", "program", "LTakenUpCalls$Program;", false)
  | 5 => ("TakenUpCalls$Maker", "brings", "I", false)
  | 6 => ("TakenUpCalls$Maker", "madeEver", "I", false)
  | 7 => ("TakenUpCalls$Maker", "made", "I", false)
  | 8 => ("TakenUpCalls$Maker", "doneAnew", "I", false)
  | _ => ("TakenUpCalls$Maker", "gone", "I", false)
def tyX3 : Nat → FieldType := fun k => match k with
  | 0 => .object "TakenUpCalls$Scene"
  | 1 => .object "TakenUpCalls$Pool"
  | 2 => .array .int
  | 3 => .int
  | 4 => .object "TakenUpCalls$Program"
  | 5 => .int
  | 6 => .int
  | 7 => .int
  | 8 => .int
  | _ => .int
abbrev wsX30 : List Cond := u_ws RX3 TX3 10
theorem nmX3 : ∀ a, a < 10 → ∀ b, b < 10 → a ≠ b → (TX3 a).2.1 ≠ (TX3 b).2.1 := by decide +kernel
theorem tyX3_ok : ∀ k, k < 10 → parseFieldDescriptor (TX3 k).2.2.1 = some (tyX3 k) := by decide +kernel
abbrev cX3_init : ByteArray := prog_5_method_1_code
def yX3_init : MethodName := ⟨RX3, "<init>", "(LTakenUpCalls$Scene;LTakenUpCalls$Pool;LTakenUpCalls$Program;)V"⟩
abbrev cX3_takeProgram : ByteArray := prog_5_method_2_code
def yX3_takeProgram : MethodName := ⟨RX3, "takeProgram", "(LTakenUpCalls$Program;)V"⟩
abbrev cX3_firstRoot : ByteArray := prog_5_method_3_code
def yX3_firstRoot : MethodName := ⟨RX3, "firstRoot", "()LTakenUpCalls$Call;"⟩
abbrev cX3_madeByItself : ByteArray := prog_5_method_4_code
def yX3_madeByItself : MethodName := ⟨RX3, "madeByItself", "(II)LTakenUpCalls$Call;"⟩
abbrev cX3_broughtRoot : ByteArray := prog_5_method_5_code
def yX3_broughtRoot : MethodName := ⟨RX3, "broughtRoot", "(LTakenUpCalls$Call;)LTakenUpCalls$Call;"⟩
abbrev cX3_letGoWithAll : ByteArray := prog_5_method_6_code
def yX3_letGoWithAll : MethodName := ⟨RX3, "letGoWithAll", "(LTakenUpCalls$Call;)V"⟩
abbrev cX3_clearCounts : ByteArray := prog_5_method_7_code
def yX3_clearCounts : MethodName := ⟨RX3, "clearCounts", "()V"⟩
abbrev cX3_make : ByteArray := prog_5_method_8_code
def yX3_make : MethodName := ⟨RX3, "make", "(III)LTakenUpCalls$Call;"⟩
abbrev cX3_bringUp : ByteArray := prog_5_method_9_code
def yX3_bringUp : MethodName := ⟨RX3, "bringUp", "(LTakenUpCalls$Call;)V"⟩
abbrev cX3_isAnyPartOtherwise : ByteArray := prog_5_method_10_code
def yX3_isAnyPartOtherwise : MethodName := ⟨RX3, "isAnyPartOtherwise", "(LTakenUpCalls$Call;)Z"⟩
abbrev cX3_goThrough : ByteArray := prog_5_method_11_code
def yX3_goThrough : MethodName := ⟨RX3, "goThrough", "(LTakenUpCalls$Call;)V"⟩
abbrev cX3_takeStep : ByteArray := prog_5_method_12_code
def yX3_takeStep : MethodName := ⟨RX3, "takeStep", "(LTakenUpCalls$Call;II)I"⟩
abbrev cX3_joinTwo : ByteArray := prog_5_method_13_code
def yX3_joinTwo : MethodName := ⟨RX3, "joinTwo", "(I)V"⟩
abbrev cX3_readCell : ByteArray := prog_5_method_14_code
def yX3_readCell : MethodName := ⟨RX3, "readCell", "(LTakenUpCalls$Call;I)I"⟩
abbrev cX3_whatPartTells : ByteArray := prog_5_method_15_code
def yX3_whatPartTells : MethodName := ⟨RX3, "whatPartTells", "(LTakenUpCalls$Call;II)I"⟩
abbrev cX3_takeUp : ByteArray := prog_5_method_16_code
def yX3_takeUp : MethodName := ⟨RX3, "takeUp", "(LTakenUpCalls$Call;LTakenUpCalls$Call;)V"⟩
abbrev cX3_letGoChain : ByteArray := prog_5_method_17_code
def yX3_letGoChain : MethodName := ⟨RX3, "letGoChain", "(LTakenUpCalls$Call;LTakenUpCalls$Call;)V"⟩
abbrev cX3_letGo : ByteArray := prog_5_method_18_code
def yX3_letGo : MethodName := ⟨RX3, "letGo", "(LTakenUpCalls$Call;)V"⟩
abbrev cX3_push : ByteArray := prog_5_method_19_code
def yX3_push : MethodName := ⟨RX3, "push", "(I)V"⟩
abbrev cX3_pop : ByteArray := prog_5_method_20_code
def yX3_pop : MethodName := ⟨RX3, "pop", "()I"⟩
def RX4 : String := "TakenUpCalls$Pool"
def TX4 : u_T := fun k => match k with
  | _ => ("TakenUpCalls$Pool", "free", "LTakenUpCalls$Call;", false)
def tyX4 : Nat → FieldType := fun k => match k with
  | _ => .object "TakenUpCalls$Call"
abbrev wsX40 : List Cond := u_ws RX4 TX4 1
theorem nmX4 : ∀ a, a < 1 → ∀ b, b < 1 → a ≠ b → (TX4 a).2.1 ≠ (TX4 b).2.1 := by decide +kernel
theorem tyX4_ok : ∀ k, k < 1 → parseFieldDescriptor (TX4 k).2.2.1 = some (tyX4 k) := by decide +kernel
abbrev cX4_init : ByteArray := prog_6_method_1_code
def yX4_init : MethodName := ⟨RX4, "<init>", "()V"⟩
abbrev cX4_take : ByteArray := prog_6_method_2_code
def yX4_take : MethodName := ⟨RX4, "take", "()LTakenUpCalls$Call;"⟩
abbrev cX4_giveBack : ByteArray := prog_6_method_3_code
def yX4_giveBack : MethodName := ⟨RX4, "giveBack", "(LTakenUpCalls$Call;)V"⟩
def RX5 : String := "TakenUpCalls$Program"
def TX5 : u_T := fun k => match k with
  | 0 => ("TakenUpCalls$Program", "step", "[I", true)
  | 1 => ("TakenUpCalls$Program", "value", "[I", true)
  | 2 => ("TakenUpCalls$Program", "start", "[I", true)
  | 3 => ("TakenUpCalls$Program", "steps", "I", false)
  | _ => ("TakenUpCalls$Program", "functions", "I", false)
def tyX5 : Nat → FieldType := fun k => match k with
  | 0 => .array .int
  | 1 => .array .int
  | 2 => .array .int
  | 3 => .int
  | _ => .int
abbrev wsX50 : List Cond := u_ws RX5 TX5 5
theorem nmX5 : ∀ a, a < 5 → ∀ b, b < 5 → a ≠ b → (TX5 a).2.1 ≠ (TX5 b).2.1 := by decide +kernel
theorem tyX5_ok : ∀ k, k < 5 → parseFieldDescriptor (TX5 k).2.2.1 = some (tyX5 k) := by decide +kernel
abbrev cX5_init : ByteArray := prog_7_method_1_code
def yX5_init : MethodName := ⟨RX5, "<init>", "()V"⟩
abbrev cX5_clear : ByteArray := prog_7_method_2_code
def yX5_clear : MethodName := ⟨RX5, "clear", "()V"⟩
abbrev cX5_beginFunction : ByteArray := prog_7_method_3_code
def yX5_beginFunction : MethodName := ⟨RX5, "beginFunction", "()V"⟩
abbrev cX5_endFunction : ByteArray := prog_7_method_4_code
def yX5_endFunction : MethodName := ⟨RX5, "endFunction", "()V"⟩
abbrev cX5_addStep : ByteArray := prog_7_method_5_code
def yX5_addStep : MethodName := ⟨RX5, "addStep", "(II)I"⟩
abbrev cX5_skipToHere : ByteArray := prog_7_method_6_code
def yX5_skipToHere : MethodName := ⟨RX5, "skipToHere", "(I)V"⟩
abbrev cX5_tellsOf : ByteArray := prog_7_method_7_code
def yX5_tellsOf : MethodName := ⟨RX5, "tellsOf", "(I)Z"⟩
abbrev cX5_startOf : ByteArray := prog_7_method_8_code
def yX5_startOf : MethodName := ⟨RX5, "startOf", "(I)I"⟩
abbrev cX5_stepAt : ByteArray := prog_7_method_9_code
def yX5_stepAt : MethodName := ⟨RX5, "stepAt", "(I)I"⟩
abbrev cX5_valueAt : ByteArray := prog_7_method_10_code
def yX5_valueAt : MethodName := ⟨RX5, "valueAt", "(I)I"⟩
def RX6 : String := "TakenUpCalls$Reader"
def TX6 : u_T := fun k => match k with
  | 0 => ("TakenUpCalls$Reader", "openStep", "[I", true)
  | 1 => ("TakenUpCalls$Reader", "openValue", "[I", true)
  | 2 => ("TakenUpCalls$Reader", "openWants", "[I", true)
  | 3 => ("TakenUpCalls$Reader", "open", "I", false)
  | 4 => ("TakenUpCalls$Reader", "awaits", "I", false)
  | 5 => ("TakenUpCalls$Reader", "callsInBody", "I", false)
  | 6 => ("TakenUpCalls$Reader", "program", "LTakenUpCalls$Program;", false)
  | _ => ("TakenUpCalls$Reader", "place", "I", false)
def tyX6 : Nat → FieldType := fun k => match k with
  | 0 => .array .int
  | 1 => .array .int
  | 2 => .array .int
  | 3 => .int
  | 4 => .int
  | 5 => .int
  | 6 => .object "TakenUpCalls$Program"
  | _ => .int
abbrev wsX60 : List Cond := u_ws RX6 TX6 8
theorem nmX6 : ∀ a, a < 8 → ∀ b, b < 8 → a ≠ b → (TX6 a).2.1 ≠ (TX6 b).2.1 := by decide +kernel
theorem tyX6_ok : ∀ k, k < 8 → parseFieldDescriptor (TX6 k).2.2.1 = some (tyX6 k) := by decide +kernel
abbrev cX6_init : ByteArray := prog_8_method_1_code
def yX6_init : MethodName := ⟨RX6, "<init>", "()V"⟩
abbrev cX6_readInto : ByteArray := prog_8_method_2_code
def yX6_readInto : MethodName := ⟨RX6, "readInto", "(LTakenUpCalls$Program;[II)I"⟩
abbrev cX6_readLetter : ByteArray := prog_8_method_3_code
def yX6_readLetter : MethodName := ⟨RX6, "readLetter", "(I)I"⟩
abbrev cX6_beginFunction : ByteArray := prog_8_method_4_code
def yX6_beginFunction : MethodName := ⟨RX6, "beginFunction", "(I)I"⟩
abbrev cX6_endFunction : ByteArray := prog_8_method_5_code
def yX6_endFunction : MethodName := ⟨RX6, "endFunction", "(I)I"⟩
abbrev cX6_beginTerm : ByteArray := prog_8_method_6_code
def yX6_beginTerm : MethodName := ⟨RX6, "beginTerm", "(I)I"⟩
abbrev cX6_beginCall : ByteArray := prog_8_method_7_code
def yX6_beginCall : MethodName := ⟨RX6, "beginCall", "()I"⟩
abbrev cX6_readCalledFunction : ByteArray := prog_8_method_8_code
def yX6_readCalledFunction : MethodName := ⟨RX6, "readCalledFunction", "(I)I"⟩
abbrev cX6_openTerm : ByteArray := prog_8_method_9_code
def yX6_openTerm : MethodName := ⟨RX6, "openTerm", "(III)I"⟩
abbrev cX6_readLeaf : ByteArray := prog_8_method_10_code
def yX6_readLeaf : MethodName := ⟨RX6, "readLeaf", "(II)I"⟩
abbrev cX6_placeSkips : ByteArray := prog_8_method_11_code
def yX6_placeSkips : MethodName := ⟨RX6, "placeSkips", "(I)V"⟩
abbrev cX6_isFigure : ByteArray := prog_8_method_12_code
def yX6_isFigure : MethodName := ⟨RX6, "isFigure", "(I)Z"⟩
def RX7 : String := "TakenUpCalls$Scene"
def TX7 : u_T := fun k => match k with
  | 0 => ("TakenUpCalls$Scene", "cells", "[I", true)
  | 1 => ("TakenUpCalls$Scene", "aimFunction", "I", false)
  | 2 => ("TakenUpCalls$Scene", "aimArgument", "I", false)
  | _ => ("TakenUpCalls$Scene", "seed", "I", false)
def tyX7 : Nat → FieldType := fun k => match k with
  | 0 => .array .int
  | 1 => .int
  | 2 => .int
  | _ => .int
abbrev wsX70 : List Cond := u_ws RX7 TX7 4
theorem nmX7 : ∀ a, a < 4 → ∀ b, b < 4 → a ≠ b → (TX7 a).2.1 ≠ (TX7 b).2.1 := by decide +kernel
theorem tyX7_ok : ∀ k, k < 4 → parseFieldDescriptor (TX7 k).2.2.1 = some (tyX7 k) := by decide +kernel
abbrev cX7_init : ByteArray := prog_9_method_1_code
def yX7_init : MethodName := ⟨RX7, "<init>", "()V"⟩
abbrev cX7_become : ByteArray := prog_9_method_2_code
def yX7_become : MethodName := ⟨RX7, "become", "(LTakenUpCalls$Scene;)V"⟩
abbrev cX7_draw : ByteArray := prog_9_method_3_code
def yX7_draw : MethodName := ⟨RX7, "draw", "(I)I"⟩
def RX8 : String := "TakenUpCalls$Trace"
def TX8 : u_T := fun k => match k with
  | 0 => ("TakenUpCalls$Trace", "calls", "[LTakenUpCalls$Call;", true)
  | 1 => ("TakenUpCalls$Trace", "root", "LTakenUpCalls$Call;", false)
  | _ => ("TakenUpCalls$Trace", "size", "I", false)
def tyX8 : Nat → FieldType := fun k => match k with
  | 0 => .array (.object "TakenUpCalls$Call")
  | 1 => .object "TakenUpCalls$Call"
  | _ => .int
abbrev wsX80 : List Cond := u_ws RX8 TX8 3
theorem nmX8 : ∀ a, a < 3 → ∀ b, b < 3 → a ≠ b → (TX8 a).2.1 ≠ (TX8 b).2.1 := by decide +kernel
theorem tyX8_ok : ∀ k, k < 3 → parseFieldDescriptor (TX8 k).2.2.1 = some (tyX8 k) := by decide +kernel
abbrev cX8_init : ByteArray := prog_10_method_1_code
def yX8_init : MethodName := ⟨RX8, "<init>", "()V"⟩
abbrev cX8_list : ByteArray := prog_10_method_2_code
def yX8_list : MethodName := ⟨RX8, "list", "(LTakenUpCalls$Call;)V"⟩
abbrev cX8_listAll : ByteArray := prog_10_method_3_code
def yX8_listAll : MethodName := ⟨RX8, "listAll", "(LTakenUpCalls$Call;I)V"⟩
abbrev cX8_numbered : ByteArray := prog_10_method_4_code
def yX8_numbered : MethodName := ⟨RX8, "numbered", "(I)LTakenUpCalls$Call;"⟩
abbrev cX8_numberOfName : ByteArray := prog_10_method_5_code
def yX8_numberOfName : MethodName := ⟨RX8, "numberOfName", "(I)I"⟩
abbrev cX8_rootTells : ByteArray := prog_10_method_6_code
def yX8_rootTells : MethodName := ⟨RX8, "rootTells", "()I"⟩
abbrev cX8_greatestNest : ByteArray := prog_10_method_7_code
def yX8_greatestNest : MethodName := ⟨RX8, "greatestNest", "()I"⟩
abbrev cX8_howManyOld : ByteArray := prog_10_method_8_code
def yX8_howManyOld : MethodName := ⟨RX8, "howManyOld", "([I)I"⟩
abbrev cX8_cellsRead : ByteArray := prog_10_method_9_code
def yX8_cellsRead : MethodName := ⟨RX8, "cellsRead", "()I"⟩
def RX9 : String := "TakenUpCalls"
def TX9 : u_T := fun k => match k with
  | 0 => ("TakenUpCalls", "text", "[I", true)
  | 1 => ("TakenUpCalls", "letters", "I", false)
  | 2 => ("TakenUpCalls", "faultPlace", "I", false)
  | 3 => ("TakenUpCalls", "reader", "LTakenUpCalls$Reader;", true)
  | 4 => ("TakenUpCalls", "program", "LTakenUpCalls$Program;", false)
  | 5 => ("TakenUpCalls", "spare", "LTakenUpCalls$Program;", false)
  | 6 => ("TakenUpCalls", "scene", "LTakenUpCalls$Scene;", true)
  | 7 => ("TakenUpCalls", "maker", "LTakenUpCalls$Maker;", true)
  | 8 => ("TakenUpCalls", "trial", "LTakenUpCalls$Maker;", true)
  | 9 => ("TakenUpCalls", "trace", "LTakenUpCalls$Trace;", true)
  | 10 => ("TakenUpCalls", "deeds", "LTakenUpCalls$Deeds;", true)
  | 11 => ("TakenUpCalls", "book", "LTakenUpCalls$Book;", true)
  | _ => ("TakenUpCalls", "images", "[LTakenUpCalls$Scene;", true)
def tyX9 : Nat → FieldType := fun k => match k with
  | 0 => .array .int
  | 1 => .int
  | 2 => .int
  | 3 => .object "TakenUpCalls$Reader"
  | 4 => .object "TakenUpCalls$Program"
  | 5 => .object "TakenUpCalls$Program"
  | 6 => .object "TakenUpCalls$Scene"
  | 7 => .object "TakenUpCalls$Maker"
  | 8 => .object "TakenUpCalls$Maker"
  | 9 => .object "TakenUpCalls$Trace"
  | 10 => .object "TakenUpCalls$Deeds"
  | 11 => .object "TakenUpCalls$Book"
  | _ => .array (.object "TakenUpCalls$Scene")
abbrev wsX90 : List Cond := u_ws RX9 TX9 13
theorem nmX9 : ∀ a, a < 13 → ∀ b, b < 13 → a ≠ b → (TX9 a).2.1 ≠ (TX9 b).2.1 := by decide +kernel
theorem tyX9_ok : ∀ k, k < 13 → parseFieldDescriptor (TX9 k).2.2.1 = some (tyX9 k) := by decide +kernel
abbrev cX9_init : ByteArray := prog_1_method_1_code
def yX9_init : MethodName := ⟨RX9, "<init>", "()V"⟩
abbrev cX9_feed : ByteArray := prog_1_method_2_code
def yX9_feed : MethodName := ⟨RX9, "feed", "(I)I"⟩
abbrev cX9_functions : ByteArray := prog_1_method_3_code
def yX9_functions : MethodName := ⟨RX9, "functions", "()I"⟩
abbrev cX9_fault : ByteArray := prog_1_method_4_code
def yX9_fault : MethodName := ⟨RX9, "fault", "()I"⟩
abbrev cX9_told : ByteArray := prog_1_method_5_code
def yX9_told : MethodName := ⟨RX9, "told", "(I)I"⟩
abbrev cX9_cell : ByteArray := prog_1_method_6_code
def yX9_cell : MethodName := ⟨RX9, "cell", "(I)I"⟩
abbrev cX9_call : ByteArray := prog_1_method_7_code
def yX9_call : MethodName := ⟨RX9, "call", "(II)I"⟩
abbrev cX9_find : ByteArray := prog_1_method_8_code
def yX9_find : MethodName := ⟨RX9, "find", "(I)I"⟩
abbrev cX9_set : ByteArray := prog_1_method_9_code
def yX9_set : MethodName := ⟨RX9, "set", "(II)I"⟩
abbrev cX9_aim : ByteArray := prog_1_method_10_code
def yX9_aim : MethodName := ⟨RX9, "aim", "(II)I"⟩
abbrev cX9_bring : ByteArray := prog_1_method_11_code
def yX9_bring : MethodName := ⟨RX9, "bring", "()I"⟩
abbrev cX9_drift : ByteArray := prog_1_method_12_code
def yX9_drift : MethodName := ⟨RX9, "drift", "(I)I"⟩
abbrev cX9_undo : ByteArray := prog_1_method_13_code
def yX9_undo : MethodName := ⟨RX9, "undo", "(I)I"⟩
abbrev cX9_write : ByteArray := prog_1_method_14_code
def yX9_write : MethodName := ⟨RX9, "write", "(III)I"⟩
abbrev cX9_tear : ByteArray := prog_1_method_15_code
def yX9_tear : MethodName := ⟨RX9, "tear", "()I"⟩
abbrev cX9_seed : ByteArray := prog_1_method_16_code
def yX9_seed : MethodName := ⟨RX9, "seed", "(I)I"⟩
abbrev cX9_keep : ByteArray := prog_1_method_17_code
def yX9_keep : MethodName := ⟨RX9, "keep", "(I)I"⟩
abbrev cX9_goBack : ByteArray := prog_1_method_18_code
def yX9_goBack : MethodName := ⟨RX9, "goBack", "(I)I"⟩
abbrev cX9_isCell : ByteArray := prog_1_method_19_code
def yX9_isCell : MethodName := ⟨RX9, "isCell", "(I)Z"⟩
abbrev cX9_isNumber : ByteArray := prog_1_method_20_code
def yX9_isNumber : MethodName := ⟨RX9, "isNumber", "(I)Z"⟩
abbrev cX9_isImage : ByteArray := prog_1_method_21_code
def yX9_isImage : MethodName := ⟨RX9, "isImage", "(I)Z"⟩
abbrev cX9_addLetter : ByteArray := prog_1_method_22_code
def yX9_addLetter : MethodName := ⟨RX9, "addLetter", "(I)Z"⟩
abbrev cX9_takeText : ByteArray := prog_1_method_23_code
def yX9_takeText : MethodName := ⟨RX9, "takeText", "()I"⟩
abbrev cX9_startAnew : ByteArray := prog_1_method_24_code
def yX9_startAnew : MethodName := ⟨RX9, "startAnew", "()V"⟩
abbrev cX9_changeCell : ByteArray := prog_1_method_25_code
def yX9_changeCell : MethodName := ⟨RX9, "changeCell", "(II)I"⟩
abbrev cX9_tellingByItself : ByteArray := prog_1_method_26_code
def yX9_tellingByItself : MethodName := ⟨RX9, "tellingByItself", "(II)I"⟩
abbrev cX9_isAlike : ByteArray := prog_1_method_27_code
def yX9_isAlike : MethodName := ⟨RX9, "isAlike", "()Z"⟩
abbrev cX9_firstWrong : ByteArray := prog_1_method_28_code
def yX9_firstWrong : MethodName := ⟨RX9, "firstWrong", "()I"⟩
def RX10 : String := "TakenUpCallsModel"
def TX10 : u_T := fun k => match k with
  | 0 => ("TakenUpCallsModel", "w", "[I", true)
  | 1 => ("TakenUpCallsModel", "known", "I", false)
  | 2 => ("TakenUpCallsModel", "kept", "I", false)
  | 3 => ("TakenUpCallsModel", "seed", "I", false)
  | 4 => ("TakenUpCallsModel", "imageSeed", "[I", true)
  | 5 => ("TakenUpCallsModel", "text", "[I", true)
  | 6 => ("TakenUpCallsModel", "size", "I", false)
  | 7 => ("TakenUpCallsModel", "faultAt", "I", false)
  | 8 => ("TakenUpCallsModel", "bookOf", "[I", true)
  | 9 => ("TakenUpCallsModel", "bookBy", "[I", true)
  | 10 => ("TakenUpCallsModel", "bookIs", "[I", true)
  | 11 => ("TakenUpCallsModel", "written", "I", false)
  | 12 => ("TakenUpCallsModel", "code", "[I", true)
  | 13 => ("TakenUpCallsModel", "begins", "[I", true)
  | 14 => ("TakenUpCallsModel", "many", "I", false)
  | 15 => ("TakenUpCallsModel", "function", "[I", true)
  | 16 => ("TakenUpCallsModel", "argument", "[I", true)
  | 17 => ("TakenUpCallsModel", "tells", "[I", true)
  | 18 => ("TakenUpCallsModel", "nest", "[I", true)
  | 19 => ("TakenUpCallsModel", "reads", "[I", true)
  | 20 => ("TakenUpCallsModel", "names", "[I", true)
  | 21 => ("TakenUpCallsModel", "doings", "[I", true)
  | 22 => ("TakenUpCallsModel", "calls", "I", false)
  | 23 => ("TakenUpCallsModel", "held", "[I", true)
  | 24 => ("TakenUpCallsModel", "newFunction", "[I", true)
  | 25 => ("TakenUpCallsModel", "newArgument", "[I", true)
  | 26 => ("TakenUpCallsModel", "newTells", "[I", true)
  | 27 => ("TakenUpCallsModel", "newNest", "[I", true)
  | 28 => ("TakenUpCallsModel", "newReads", "[I", true)
  | 29 => ("TakenUpCallsModel", "newCalls", "I", false)
  | 30 => ("TakenUpCallsModel", "match", "[I", true)
  | 31 => ("TakenUpCallsModel", "newNames", "[I", true)
  | 32 => ("TakenUpCallsModel", "newDoings", "[I", true)
  | 33 => ("TakenUpCallsModel", "madeEver", "I", false)
  | 34 => ("TakenUpCallsModel", "made", "I", false)
  | 35 => ("TakenUpCallsModel", "again", "I", false)
  | 36 => ("TakenUpCallsModel", "gone", "I", false)
  | 37 => ("TakenUpCallsModel", "sign", "[I", true)
  | 38 => ("TakenUpCallsModel", "stage", "[I", true)
  | 39 => ("TakenUpCallsModel", "value", "[I", true)
  | 40 => ("TakenUpCallsModel", "waits", "I", false)
  | 41 => ("TakenUpCallsModel", "at", "I", false)
  | 42 => ("TakenUpCallsModel", "now", "I", false)
  | 43 => ("TakenUpCallsModel", "terms", "I", false)
  | 44 => ("TakenUpCallsModel", "figureNext", "Z", false)
  | 45 => ("TakenUpCallsModel", "fs", "I", false)
  | 46 => ("TakenUpCallsModel", "inBody", "Z", false)
  | _ => ("TakenUpCallsModel", "told", "I", false)
def tyX10 : Nat → FieldType := fun k => match k with
  | 0 => .array .int
  | 1 => .int
  | 2 => .int
  | 3 => .int
  | 4 => .array .int
  | 5 => .array .int
  | 6 => .int
  | 7 => .int
  | 8 => .array .int
  | 9 => .array .int
  | 10 => .array .int
  | 11 => .int
  | 12 => .array .int
  | 13 => .array .int
  | 14 => .int
  | 15 => .array .int
  | 16 => .array .int
  | 17 => .array .int
  | 18 => .array .int
  | 19 => .array .int
  | 20 => .array .int
  | 21 => .array .int
  | 22 => .int
  | 23 => .array .int
  | 24 => .array .int
  | 25 => .array .int
  | 26 => .array .int
  | 27 => .array .int
  | 28 => .array .int
  | 29 => .int
  | 30 => .array .int
  | 31 => .array .int
  | 32 => .array .int
  | 33 => .int
  | 34 => .int
  | 35 => .int
  | 36 => .int
  | 37 => .array .int
  | 38 => .array .int
  | 39 => .array .int
  | 40 => .int
  | 41 => .int
  | 42 => .int
  | 43 => .int
  | 44 => .boolean
  | 45 => .int
  | 46 => .boolean
  | _ => .int
abbrev wsX100 : List Cond := u_ws RX10 TX10 48
theorem nmX10 : ∀ a, a < 48 → ∀ b, b < 48 → a ≠ b → (TX10 a).2.1 ≠ (TX10 b).2.1 := by decide +kernel
theorem tyX10_ok : ∀ k, k < 48 → parseFieldDescriptor (TX10 k).2.2.1 = some (tyX10 k) := by decide +kernel
abbrev cX10_init : ByteArray := prog_12_method_1_code
def yX10_init : MethodName := ⟨RX10, "<init>", "()V"⟩
abbrev cX10_in : ByteArray := prog_12_method_2_code
def yX10_in : MethodName := ⟨RX10, "in", "(JJJ)Z"⟩
abbrev cX10_has : ByteArray := prog_12_method_3_code
def yX10_has : MethodName := ⟨RX10, "has", "(II)Z"⟩
abbrev cX10_copyRow : ByteArray := prog_12_method_4_code
def yX10_copyRow : MethodName := ⟨RX10, "copyRow", "(II)V"⟩
abbrev cX10_remember : ByteArray := prog_12_method_5_code
def yX10_remember : MethodName := ⟨RX10, "remember", "()V"⟩
abbrev cX10_push : ByteArray := prog_12_method_6_code
def yX10_push : MethodName := ⟨RX10, "push", "(II)V"⟩
abbrev cX10_wants : ByteArray := prog_12_method_7_code
def yX10_wants : MethodName := ⟨RX10, "wants", "(I)I"⟩
abbrev cX10_skip : ByteArray := prog_12_method_8_code
def yX10_skip : MethodName := ⟨RX10, "skip", "()V"⟩
abbrev cX10_begin : ByteArray := prog_12_method_9_code
def yX10_begin : MethodName := ⟨RX10, "begin", "(II)V"⟩
abbrev cX10_counted : ByteArray := prog_12_method_10_code
def yX10_counted : MethodName := ⟨RX10, "counted", "(III)I"⟩
abbrev cX10_open : ByteArray := prog_12_method_11_code
def yX10_open : MethodName := ⟨RX10, "open", "()I"⟩
abbrev cX10_called : ByteArray := prog_12_method_12_code
def yX10_called : MethodName := ⟨RX10, "called", "(II)I"⟩
abbrev cX10_give : ByteArray := prog_12_method_13_code
def yX10_give : MethodName := ⟨RX10, "give", "(I)I"⟩
abbrev cX10_giveTwo : ByteArray := prog_12_method_14_code
def yX10_giveTwo : MethodName := ⟨RX10, "giveTwo", "(II)I"⟩
abbrev cX10_choose : ByteArray := prog_12_method_15_code
def yX10_choose : MethodName := ⟨RX10, "choose", "(II)I"⟩
abbrev cX10_layNew : ByteArray := prog_12_method_16_code
def yX10_layNew : MethodName := ⟨RX10, "layNew", "(II)I"⟩
abbrev cX10_layNow : ByteArray := prog_12_method_17_code
def yX10_layNow : MethodName := ⟨RX10, "layNow", "()I"⟩
abbrev cX10_endOf : ByteArray := prog_12_method_18_code
def yX10_endOf : MethodName := ⟨RX10, "endOf", "([III)I"⟩
abbrev cX10_isOld : ByteArray := prog_12_method_19_code
def yX10_isOld : MethodName := ⟨RX10, "isOld", "(I)Z"⟩
abbrev cX10_isDoneAnew : ByteArray := prog_12_method_20_code
def yX10_isDoneAnew : MethodName := ⟨RX10, "isDoneAnew", "(II)Z"⟩
abbrev cX10_matchParts : ByteArray := prog_12_method_21_code
def yX10_matchParts : MethodName := ⟨RX10, "matchParts", "(II)V"⟩
abbrev cX10_matchAll : ByteArray := prog_12_method_22_code
def yX10_matchAll : MethodName := ⟨RX10, "matchAll", "(Z)V"⟩
abbrev cX10_takeOver : ByteArray := prog_12_method_23_code
def yX10_takeOver : MethodName := ⟨RX10, "takeOver", "()V"⟩
abbrev cX10_layFirst : ByteArray := prog_12_method_24_code
def yX10_layFirst : MethodName := ⟨RX10, "layFirst", "()V"⟩
abbrev cX10_isAlike : ByteArray := prog_12_method_25_code
def yX10_isAlike : MethodName := ⟨RX10, "isAlike", "()Z"⟩
abbrev cX10_isTerm : ByteArray := prog_12_method_26_code
def yX10_isTerm : MethodName := ⟨RX10, "isTerm", "(I)Z"⟩
abbrev cX10_faultOf : ByteArray := prog_12_method_27_code
def yX10_faultOf : MethodName := ⟨RX10, "faultOf", "(I)I"⟩
abbrev cX10_goOn : ByteArray := prog_12_method_28_code
def yX10_goOn : MethodName := ⟨RX10, "goOn", "(I)V"⟩
abbrev cX10_readText : ByteArray := prog_12_method_29_code
def yX10_readText : MethodName := ⟨RX10, "readText", "()I"⟩
abbrev cX10_layCode : ByteArray := prog_12_method_30_code
def yX10_layCode : MethodName := ⟨RX10, "layCode", "()V"⟩
abbrev cX10_feed : ByteArray := prog_12_method_31_code
def yX10_feed : MethodName := ⟨RX10, "feed", "(I)I"⟩
abbrev cX10_functions : ByteArray := prog_12_method_32_code
def yX10_functions : MethodName := ⟨RX10, "functions", "()I"⟩
abbrev cX10_fault : ByteArray := prog_12_method_33_code
def yX10_fault : MethodName := ⟨RX10, "fault", "()I"⟩
abbrev cX10_deepest : ByteArray := prog_12_method_34_code
def yX10_deepest : MethodName := ⟨RX10, "deepest", "()I"⟩
abbrev cX10_oldMany : ByteArray := prog_12_method_35_code
def yX10_oldMany : MethodName := ⟨RX10, "oldMany", "()I"⟩
abbrev cX10_bears : ByteArray := prog_12_method_36_code
def yX10_bears : MethodName := ⟨RX10, "bears", "()I"⟩
abbrev cX10_wrong : ByteArray := prog_12_method_37_code
def yX10_wrong : MethodName := ⟨RX10, "wrong", "()I"⟩
abbrev cX10_toldMore : ByteArray := prog_12_method_38_code
def yX10_toldMore : MethodName := ⟨RX10, "toldMore", "(I)I"⟩
abbrev cX10_told : ByteArray := prog_12_method_39_code
def yX10_told : MethodName := ⟨RX10, "told", "(I)I"⟩
abbrev cX10_cell : ByteArray := prog_12_method_40_code
def yX10_cell : MethodName := ⟨RX10, "cell", "(I)I"⟩
abbrev cX10_makerOf : ByteArray := prog_12_method_41_code
def yX10_makerOf : MethodName := ⟨RX10, "makerOf", "(I)I"⟩
abbrev cX10_partsOf : ByteArray := prog_12_method_42_code
def yX10_partsOf : MethodName := ⟨RX10, "partsOf", "(I)I"⟩
abbrev cX10_call : ByteArray := prog_12_method_43_code
def yX10_call : MethodName := ⟨RX10, "call", "(II)I"⟩
abbrev cX10_find : ByteArray := prog_12_method_44_code
def yX10_find : MethodName := ⟨RX10, "find", "(I)I"⟩
abbrev cX10_set : ByteArray := prog_12_method_45_code
def yX10_set : MethodName := ⟨RX10, "set", "(II)I"⟩
abbrev cX10_aim : ByteArray := prog_12_method_46_code
def yX10_aim : MethodName := ⟨RX10, "aim", "(II)I"⟩
abbrev cX10_bring : ByteArray := prog_12_method_47_code
def yX10_bring : MethodName := ⟨RX10, "bring", "()I"⟩
abbrev cX10_draw : ByteArray := prog_12_method_48_code
def yX10_draw : MethodName := ⟨RX10, "draw", "(I)I"⟩
abbrev cX10_drift : ByteArray := prog_12_method_49_code
def yX10_drift : MethodName := ⟨RX10, "drift", "(I)I"⟩
abbrev cX10_undo : ByteArray := prog_12_method_50_code
def yX10_undo : MethodName := ⟨RX10, "undo", "(I)I"⟩
abbrev cX10_write : ByteArray := prog_12_method_51_code
def yX10_write : MethodName := ⟨RX10, "write", "(III)I"⟩
abbrev cX10_tear : ByteArray := prog_12_method_52_code
def yX10_tear : MethodName := ⟨RX10, "tear", "()I"⟩
abbrev cX10_seed : ByteArray := prog_12_method_53_code
def yX10_seed : MethodName := ⟨RX10, "seed", "(I)I"⟩
abbrev cX10_keep : ByteArray := prog_12_method_54_code
def yX10_keep : MethodName := ⟨RX10, "keep", "(I)I"⟩
abbrev cX10_goBack : ByteArray := prog_12_method_55_code
def yX10_goBack : MethodName := ⟨RX10, "goBack", "(I)I"⟩
def RJ9 : String := "java/lang/Math"
def TJ9 : u_T := fun k => match k with
  | _ => ("", "", "", false)
def tyJ9 : Nat → FieldType := fun k => match k with
  | _ => .int
abbrev wsJ90 : List Cond := u_ws RJ9 TJ9 0
theorem nmJ9 : ∀ a, a < 0 → ∀ b, b < 0 → a ≠ b → (TJ9 a).2.1 ≠ (TJ9 b).2.1 := by decide +kernel
theorem tyJ9_ok : ∀ k, k < 0 → parseFieldDescriptor (TJ9 k).2.2.1 = some (tyJ9 k) := by decide +kernel
abbrev cJ9_floorMod_7cf53 : ByteArray := prog_13_method_50_code
def yJ9_floorMod_7cf53 : MethodName := ⟨RJ9, "floorMod", "(II)I"⟩
abbrev cJ9_max_7cf53 : ByteArray := prog_13_method_65_code
def yJ9_max_7cf53 : MethodName := ⟨RJ9, "max", "(II)I"⟩
abbrev cJ9_min_7cf53 : ByteArray := prog_13_method_69_code
def yJ9_min_7cf53 : MethodName := ⟨RJ9, "min", "(II)I"⟩
def RJ10 : String := "java/lang/System"
def TJ10 : u_T := fun k => match k with
  | _ => ("", "", "", false)
def tyJ10 : Nat → FieldType := fun k => match k with
  | _ => .int
abbrev wsJ100 : List Cond := u_ws RJ10 TJ10 0
theorem nmJ10 : ∀ a, a < 0 → ∀ b, b < 0 → a ≠ b → (TJ10 a).2.1 ≠ (TJ10 b).2.1 := by decide +kernel
theorem tyJ10_ok : ∀ k, k < 0 → parseFieldDescriptor (TJ10 k).2.2.1 = some (tyJ10 k) := by decide +kernel
def RL : String := "TakenUpCallsLaw"
abbrev cL_law : ByteArray := code
def yL_law : MethodName := ⟨RL, "law", "([I)Z"⟩
abbrev vwCl : List vw_C := [(RX0, TX0, 4), (RX1, TX1, 15), (RX2, TX2, 5), (RX3, TX3, 10), (RX4, TX4, 1), (RX5, TX5, 5), (RX6, TX6, 8), (RX7, TX7, 4), (RX8, TX8, 3), (RX9, TX9, 13), (RX10, TX10, 48)]
end
section
theorem dX0_init_0 : decode cX0_init 0 = .ok (.aload_n 0, 1) := by decide +kernel
theorem dX0_init_1 : decode cX0_init 1 = .ok (.invokespecial 3, 3) := by decide +kernel
theorem dX0_init_4 : decode cX0_init 4 = .ok (.aload_n 0, 1) := by decide +kernel
theorem dX0_init_5 : decode cX0_init 5 = .ok (.bipush 20, 2) := by decide +kernel
theorem dX0_init_7 : decode cX0_init 7 = .ok (.newarray .int, 2) := by decide +kernel
theorem dX0_init_9 : decode cX0_init 9 = .ok (.putfield 9, 3) := by decide +kernel
theorem dX0_init_12 : decode cX0_init 12 = .ok (.aload_n 0, 1) := by decide +kernel
theorem dX0_init_13 : decode cX0_init 13 = .ok (.bipush 20, 2) := by decide +kernel
theorem dX0_init_15 : decode cX0_init 15 = .ok (.newarray .int, 2) := by decide +kernel
theorem dX0_init_17 : decode cX0_init 17 = .ok (.putfield 15, 3) := by decide +kernel
theorem dX0_init_20 : decode cX0_init 20 = .ok (.aload_n 0, 1) := by decide +kernel
theorem dX0_init_21 : decode cX0_init 21 = .ok (.bipush 20, 2) := by decide +kernel
theorem dX0_init_23 : decode cX0_init 23 = .ok (.newarray .int, 2) := by decide +kernel
theorem dX0_init_25 : decode cX0_init 25 = .ok (.putfield 18, 3) := by decide +kernel
theorem dX0_init_28 : decode cX0_init 28 = .ok (.return_, 1) := by decide +kernel
theorem dX0_addEntry_0 : decode cX0_addEntry 0 = .ok (.aload_n 0, 1) := by decide +kernel
theorem dX0_addEntry_1 : decode cX0_addEntry 1 = .ok (.getfield 21, 3) := by decide +kernel
theorem dX0_addEntry_4 : decode cX0_addEntry 4 = .ok (.bipush 20, 2) := by decide +kernel
theorem dX0_addEntry_6 : decode cX0_addEntry 6 = .ok (.if_icmp .lt 5, 3) := by decide +kernel
theorem dX0_addEntry_9 : decode cX0_addEntry 9 = .ok (.iconst 0, 1) := by decide +kernel
theorem dX0_addEntry_10 : decode cX0_addEntry 10 = .ok (.ireturn, 1) := by decide +kernel
theorem dX0_addEntry_11 : decode cX0_addEntry 11 = .ok (.aload_n 0, 1) := by decide +kernel
theorem dX0_addEntry_12 : decode cX0_addEntry 12 = .ok (.getfield 9, 3) := by decide +kernel
theorem dX0_addEntry_15 : decode cX0_addEntry 15 = .ok (.aload_n 0, 1) := by decide +kernel
theorem dX0_addEntry_16 : decode cX0_addEntry 16 = .ok (.getfield 21, 3) := by decide +kernel
theorem dX0_addEntry_19 : decode cX0_addEntry 19 = .ok (.iload_n 1, 1) := by decide +kernel
theorem dX0_addEntry_20 : decode cX0_addEntry 20 = .ok (.iastore, 1) := by decide +kernel
theorem dX0_addEntry_21 : decode cX0_addEntry 21 = .ok (.aload_n 0, 1) := by decide +kernel
theorem dX0_addEntry_22 : decode cX0_addEntry 22 = .ok (.getfield 15, 3) := by decide +kernel
theorem dX0_addEntry_25 : decode cX0_addEntry 25 = .ok (.aload_n 0, 1) := by decide +kernel
theorem dX0_addEntry_26 : decode cX0_addEntry 26 = .ok (.getfield 21, 3) := by decide +kernel
theorem dX0_addEntry_29 : decode cX0_addEntry 29 = .ok (.iload_n 2, 1) := by decide +kernel
theorem dX0_addEntry_30 : decode cX0_addEntry 30 = .ok (.iastore, 1) := by decide +kernel
theorem dX0_addEntry_31 : decode cX0_addEntry 31 = .ok (.aload_n 0, 1) := by decide +kernel
theorem dX0_addEntry_32 : decode cX0_addEntry 32 = .ok (.getfield 18, 3) := by decide +kernel
theorem dX0_addEntry_35 : decode cX0_addEntry 35 = .ok (.aload_n 0, 1) := by decide +kernel
theorem dX0_addEntry_36 : decode cX0_addEntry 36 = .ok (.getfield 21, 3) := by decide +kernel
theorem dX0_addEntry_39 : decode cX0_addEntry 39 = .ok (.iload_n 3, 1) := by decide +kernel
theorem dX0_addEntry_40 : decode cX0_addEntry 40 = .ok (.iastore, 1) := by decide +kernel
theorem dX0_addEntry_41 : decode cX0_addEntry 41 = .ok (.aload_n 0, 1) := by decide +kernel
theorem dX0_addEntry_42 : decode cX0_addEntry 42 = .ok (.dup, 1) := by decide +kernel
theorem dX0_addEntry_43 : decode cX0_addEntry 43 = .ok (.getfield 21, 3) := by decide +kernel
theorem dX0_addEntry_46 : decode cX0_addEntry 46 = .ok (.iconst 1, 1) := by decide +kernel
theorem dX0_addEntry_47 : decode cX0_addEntry 47 = .ok (.iadd, 1) := by decide +kernel
theorem dX0_addEntry_48 : decode cX0_addEntry 48 = .ok (.putfield 21, 3) := by decide +kernel
theorem dX0_addEntry_51 : decode cX0_addEntry 51 = .ok (.iconst 1, 1) := by decide +kernel
theorem dX0_addEntry_52 : decode cX0_addEntry 52 = .ok (.ireturn, 1) := by decide +kernel
theorem dX0_has_0 : decode cX0_has 0 = .ok (.iload_n 1, 1) := by decide +kernel
theorem dX0_has_1 : decode cX0_has 1 = .ok (.ifCond .lt 15, 3) := by decide +kernel
theorem dX0_has_4 : decode cX0_has 4 = .ok (.iload_n 1, 1) := by decide +kernel
theorem dX0_has_5 : decode cX0_has 5 = .ok (.aload_n 0, 1) := by decide +kernel
theorem dX0_has_6 : decode cX0_has 6 = .ok (.getfield 21, 3) := by decide +kernel
theorem dX0_has_9 : decode cX0_has 9 = .ok (.if_icmp .ge 7, 3) := by decide +kernel
theorem dX0_has_12 : decode cX0_has 12 = .ok (.iconst 1, 1) := by decide +kernel
theorem dX0_has_13 : decode cX0_has 13 = .ok (.goto 4, 3) := by decide +kernel
theorem dX0_has_16 : decode cX0_has 16 = .ok (.iconst 0, 1) := by decide +kernel
theorem dX0_has_17 : decode cX0_has 17 = .ok (.ireturn, 1) := by decide +kernel
theorem dX0_functionAt_0 : decode cX0_functionAt 0 = .ok (.aload_n 0, 1) := by decide +kernel
theorem dX0_functionAt_1 : decode cX0_functionAt 1 = .ok (.iload_n 1, 1) := by decide +kernel
theorem dX0_functionAt_2 : decode cX0_functionAt 2 = .ok (.invokevirtual 25, 3) := by decide +kernel
theorem dX0_functionAt_5 : decode cX0_functionAt 5 = .ok (.ifCond .eq 12, 3) := by decide +kernel
theorem dX0_functionAt_8 : decode cX0_functionAt 8 = .ok (.aload_n 0, 1) := by decide +kernel
theorem dX0_functionAt_9 : decode cX0_functionAt 9 = .ok (.getfield 9, 3) := by decide +kernel
theorem dX0_functionAt_12 : decode cX0_functionAt 12 = .ok (.iload_n 1, 1) := by decide +kernel
theorem dX0_functionAt_13 : decode cX0_functionAt 13 = .ok (.iaload, 1) := by decide +kernel
theorem dX0_functionAt_14 : decode cX0_functionAt 14 = .ok (.goto 4, 3) := by decide +kernel
theorem dX0_functionAt_17 : decode cX0_functionAt 17 = .ok (.iconst (-1), 1) := by decide +kernel
theorem dX0_functionAt_18 : decode cX0_functionAt 18 = .ok (.ireturn, 1) := by decide +kernel
theorem dX0_argumentAt_0 : decode cX0_argumentAt 0 = .ok (.aload_n 0, 1) := by decide +kernel
theorem dX0_argumentAt_1 : decode cX0_argumentAt 1 = .ok (.iload_n 1, 1) := by decide +kernel
theorem dX0_argumentAt_2 : decode cX0_argumentAt 2 = .ok (.invokevirtual 25, 3) := by decide +kernel
theorem dX0_argumentAt_5 : decode cX0_argumentAt 5 = .ok (.ifCond .eq 12, 3) := by decide +kernel
theorem dX0_argumentAt_8 : decode cX0_argumentAt 8 = .ok (.aload_n 0, 1) := by decide +kernel
theorem dX0_argumentAt_9 : decode cX0_argumentAt 9 = .ok (.getfield 15, 3) := by decide +kernel
theorem dX0_argumentAt_12 : decode cX0_argumentAt 12 = .ok (.iload_n 1, 1) := by decide +kernel
theorem dX0_argumentAt_13 : decode cX0_argumentAt 13 = .ok (.iaload, 1) := by decide +kernel
theorem dX0_argumentAt_14 : decode cX0_argumentAt 14 = .ok (.goto 4, 3) := by decide +kernel
theorem dX0_argumentAt_17 : decode cX0_argumentAt 17 = .ok (.iconst 0, 1) := by decide +kernel
theorem dX0_argumentAt_18 : decode cX0_argumentAt 18 = .ok (.ireturn, 1) := by decide +kernel
theorem dX0_tellingAt_0 : decode cX0_tellingAt 0 = .ok (.aload_n 0, 1) := by decide +kernel
theorem dX0_tellingAt_1 : decode cX0_tellingAt 1 = .ok (.iload_n 1, 1) := by decide +kernel
theorem dX0_tellingAt_2 : decode cX0_tellingAt 2 = .ok (.invokevirtual 25, 3) := by decide +kernel
theorem dX0_tellingAt_5 : decode cX0_tellingAt 5 = .ok (.ifCond .eq 12, 3) := by decide +kernel
theorem dX0_tellingAt_8 : decode cX0_tellingAt 8 = .ok (.aload_n 0, 1) := by decide +kernel
theorem dX0_tellingAt_9 : decode cX0_tellingAt 9 = .ok (.getfield 18, 3) := by decide +kernel
theorem dX0_tellingAt_12 : decode cX0_tellingAt 12 = .ok (.iload_n 1, 1) := by decide +kernel
theorem dX0_tellingAt_13 : decode cX0_tellingAt 13 = .ok (.iaload, 1) := by decide +kernel
theorem dX0_tellingAt_14 : decode cX0_tellingAt 14 = .ok (.goto 4, 3) := by decide +kernel
theorem dX0_tellingAt_17 : decode cX0_tellingAt 17 = .ok (.iconst 0, 1) := by decide +kernel
theorem dX0_tellingAt_18 : decode cX0_tellingAt 18 = .ok (.ireturn, 1) := by decide +kernel
theorem dX1_init_0 : decode cX1_init 0 = .ok (.aload_n 0, 1) := by decide +kernel
theorem dX1_init_1 : decode cX1_init 1 = .ok (.invokespecial 3, 3) := by decide +kernel
theorem dX1_init_4 : decode cX1_init 4 = .ok (.aload_n 0, 1) := by decide +kernel
theorem dX1_init_5 : decode cX1_init 5 = .ok (.bipush 8, 2) := by decide +kernel
theorem dX1_init_7 : decode cX1_init 7 = .ok (.newarray .int, 2) := by decide +kernel
theorem dX1_init_9 : decode cX1_init 9 = .ok (.putfield 9, 3) := by decide +kernel
theorem dX1_init_12 : decode cX1_init 12 = .ok (.return_, 1) := by decide +kernel
theorem dX1_begin_0 : decode cX1_begin 0 = .ok (.aload_n 0, 1) := by decide +kernel
theorem dX1_begin_1 : decode cX1_begin 1 = .ok (.iload_n 1, 1) := by decide +kernel
theorem dX1_begin_2 : decode cX1_begin 2 = .ok (.putfield 15, 3) := by decide +kernel
theorem dX1_begin_5 : decode cX1_begin 5 = .ok (.aload_n 0, 1) := by decide +kernel
theorem dX1_begin_6 : decode cX1_begin 6 = .ok (.iload_n 2, 1) := by decide +kernel
theorem dX1_begin_7 : decode cX1_begin 7 = .ok (.putfield 19, 3) := by decide +kernel
theorem dX1_begin_10 : decode cX1_begin 10 = .ok (.aload_n 0, 1) := by decide +kernel
theorem dX1_begin_11 : decode cX1_begin 11 = .ok (.iload_n 3, 1) := by decide +kernel
theorem dX1_begin_12 : decode cX1_begin 12 = .ok (.putfield 22, 3) := by decide +kernel
theorem dX1_begin_15 : decode cX1_begin 15 = .ok (.aload_n 0, 1) := by decide +kernel
theorem dX1_begin_16 : decode cX1_begin 16 = .ok (.iload 4, 2) := by decide +kernel
theorem dX1_begin_18 : decode cX1_begin 18 = .ok (.putfield 25, 3) := by decide +kernel
theorem dX1_begin_21 : decode cX1_begin 21 = .ok (.aload_n 0, 1) := by decide +kernel
theorem dX1_begin_22 : decode cX1_begin 22 = .ok (.iconst 0, 1) := by decide +kernel
theorem dX1_begin_23 : decode cX1_begin 23 = .ok (.putfield 28, 3) := by decide +kernel
theorem dX1_begin_26 : decode cX1_begin 26 = .ok (.aload_n 0, 1) := by decide +kernel
theorem dX1_begin_27 : decode cX1_begin 27 = .ok (.iconst 0, 1) := by decide +kernel
theorem dX1_begin_28 : decode cX1_begin 28 = .ok (.putfield 31, 3) := by decide +kernel
theorem dX1_begin_31 : decode cX1_begin 31 = .ok (.aload_n 0, 1) := by decide +kernel
theorem dX1_begin_32 : decode cX1_begin 32 = .ok (.aconst_null, 1) := by decide +kernel
theorem dX1_begin_33 : decode cX1_begin 33 = .ok (.putfield 34, 3) := by decide +kernel
theorem dX1_begin_36 : decode cX1_begin 36 = .ok (.aload_n 0, 1) := by decide +kernel
theorem dX1_begin_37 : decode cX1_begin 37 = .ok (.iconst 0, 1) := by decide +kernel
theorem dX1_begin_38 : decode cX1_begin 38 = .ok (.putfield 38, 3) := by decide +kernel
theorem dX1_begin_41 : decode cX1_begin 41 = .ok (.return_, 1) := by decide +kernel
theorem dX1_beginDoing_0 : decode cX1_beginDoing 0 = .ok (.aload_n 0, 1) := by decide +kernel
theorem dX1_beginDoing_1 : decode cX1_beginDoing 1 = .ok (.dup, 1) := by decide +kernel
theorem dX1_beginDoing_2 : decode cX1_beginDoing 2 = .ok (.getfield 31, 3) := by decide +kernel
theorem dX1_beginDoing_5 : decode cX1_beginDoing 5 = .ok (.iconst 1, 1) := by decide +kernel
theorem dX1_beginDoing_6 : decode cX1_beginDoing 6 = .ok (.iadd, 1) := by decide +kernel
theorem dX1_beginDoing_7 : decode cX1_beginDoing 7 = .ok (.putfield 31, 3) := by decide +kernel
theorem dX1_beginDoing_10 : decode cX1_beginDoing 10 = .ok (.aload_n 0, 1) := by decide +kernel
theorem dX1_beginDoing_11 : decode cX1_beginDoing 11 = .ok (.iconst 0, 1) := by decide +kernel
theorem dX1_beginDoing_12 : decode cX1_beginDoing 12 = .ok (.putfield 41, 3) := by decide +kernel
theorem dX1_beginDoing_15 : decode cX1_beginDoing 15 = .ok (.aload_n 0, 1) := by decide +kernel
theorem dX1_beginDoing_16 : decode cX1_beginDoing 16 = .ok (.aload_n 0, 1) := by decide +kernel
theorem dX1_beginDoing_17 : decode cX1_beginDoing 17 = .ok (.getfield 34, 3) := by decide +kernel
theorem dX1_beginDoing_20 : decode cX1_beginDoing 20 = .ok (.putfield 44, 3) := by decide +kernel
theorem dX1_beginDoing_23 : decode cX1_beginDoing 23 = .ok (.aload_n 0, 1) := by decide +kernel
theorem dX1_beginDoing_24 : decode cX1_beginDoing 24 = .ok (.aconst_null, 1) := by decide +kernel
theorem dX1_beginDoing_25 : decode cX1_beginDoing 25 = .ok (.putfield 34, 3) := by decide +kernel
theorem dX1_beginDoing_28 : decode cX1_beginDoing 28 = .ok (.aload_n 0, 1) := by decide +kernel
theorem dX1_beginDoing_29 : decode cX1_beginDoing 29 = .ok (.aconst_null, 1) := by decide +kernel
theorem dX1_beginDoing_30 : decode cX1_beginDoing 30 = .ok (.putfield 47, 3) := by decide +kernel
theorem dX1_beginDoing_33 : decode cX1_beginDoing 33 = .ok (.return_, 1) := by decide +kernel
theorem dX1_addPart_0 : decode cX1_addPart 0 = .ok (.aload_n 1, 1) := by decide +kernel
theorem dX1_addPart_1 : decode cX1_addPart 1 = .ok (.aconst_null, 1) := by decide +kernel
theorem dX1_addPart_2 : decode cX1_addPart 2 = .ok (.putfield 50, 3) := by decide +kernel
theorem dX1_addPart_5 : decode cX1_addPart 5 = .ok (.aload_n 0, 1) := by decide +kernel
theorem dX1_addPart_6 : decode cX1_addPart 6 = .ok (.getfield 47, 3) := by decide +kernel
theorem dX1_addPart_9 : decode cX1_addPart 9 = .ok (.ifnonnull 11, 3) := by decide +kernel
theorem dX1_addPart_12 : decode cX1_addPart 12 = .ok (.aload_n 0, 1) := by decide +kernel
theorem dX1_addPart_13 : decode cX1_addPart 13 = .ok (.aload_n 1, 1) := by decide +kernel
theorem dX1_addPart_14 : decode cX1_addPart 14 = .ok (.putfield 34, 3) := by decide +kernel
theorem dX1_addPart_17 : decode cX1_addPart 17 = .ok (.goto 11, 3) := by decide +kernel
theorem dX1_addPart_20 : decode cX1_addPart 20 = .ok (.aload_n 0, 1) := by decide +kernel
theorem dX1_addPart_21 : decode cX1_addPart 21 = .ok (.getfield 47, 3) := by decide +kernel
theorem dX1_addPart_24 : decode cX1_addPart 24 = .ok (.aload_n 1, 1) := by decide +kernel
theorem dX1_addPart_25 : decode cX1_addPart 25 = .ok (.putfield 50, 3) := by decide +kernel
theorem dX1_addPart_28 : decode cX1_addPart 28 = .ok (.aload_n 0, 1) := by decide +kernel
theorem dX1_addPart_29 : decode cX1_addPart 29 = .ok (.aload_n 1, 1) := by decide +kernel
theorem dX1_addPart_30 : decode cX1_addPart 30 = .ok (.putfield 47, 3) := by decide +kernel
theorem dX1_addPart_33 : decode cX1_addPart 33 = .ok (.return_, 1) := by decide +kernel
theorem dX1_firstSoFar_0 : decode cX1_firstSoFar 0 = .ok (.aload_n 0, 1) := by decide +kernel
theorem dX1_firstSoFar_1 : decode cX1_firstSoFar 1 = .ok (.getfield 44, 3) := by decide +kernel
theorem dX1_firstSoFar_4 : decode cX1_firstSoFar 4 = .ok (.astore_n 3, 1) := by decide +kernel
theorem dX1_firstSoFar_5 : decode cX1_firstSoFar 5 = .ok (.aload_n 3, 1) := by decide +kernel
theorem dX1_firstSoFar_6 : decode cX1_firstSoFar 6 = .ok (.ifnull 22, 3) := by decide +kernel
theorem dX1_firstSoFar_9 : decode cX1_firstSoFar 9 = .ok (.aload_n 3, 1) := by decide +kernel
theorem dX1_firstSoFar_10 : decode cX1_firstSoFar 10 = .ok (.iload_n 1, 1) := by decide +kernel
theorem dX1_firstSoFar_11 : decode cX1_firstSoFar 11 = .ok (.iload_n 2, 1) := by decide +kernel
theorem dX1_firstSoFar_12 : decode cX1_firstSoFar 12 = .ok (.invokevirtual 53, 3) := by decide +kernel
theorem dX1_firstSoFar_15 : decode cX1_firstSoFar 15 = .ok (.ifCond .eq 5, 3) := by decide +kernel
theorem dX1_firstSoFar_18 : decode cX1_firstSoFar 18 = .ok (.aload_n 3, 1) := by decide +kernel
theorem dX1_firstSoFar_19 : decode cX1_firstSoFar 19 = .ok (.areturn, 1) := by decide +kernel
theorem dX1_firstSoFar_20 : decode cX1_firstSoFar 20 = .ok (.aload_n 3, 1) := by decide +kernel
theorem dX1_firstSoFar_21 : decode cX1_firstSoFar 21 = .ok (.getfield 50, 3) := by decide +kernel
theorem dX1_firstSoFar_24 : decode cX1_firstSoFar 24 = .ok (.astore_n 3, 1) := by decide +kernel
theorem dX1_firstSoFar_25 : decode cX1_firstSoFar 25 = .ok (.goto (-20), 3) := by decide +kernel
theorem dX1_firstSoFar_28 : decode cX1_firstSoFar 28 = .ok (.aconst_null, 1) := by decide +kernel
theorem dX1_firstSoFar_29 : decode cX1_firstSoFar 29 = .ok (.areturn, 1) := by decide +kernel
theorem dX1_noteRead_0 : decode cX1_noteRead 0 = .ok (.iload_n 1, 1) := by decide +kernel
theorem dX1_noteRead_1 : decode cX1_noteRead 1 = .ok (.ifCond .lt 28, 3) := by decide +kernel
theorem dX1_noteRead_4 : decode cX1_noteRead 4 = .ok (.iload_n 1, 1) := by decide +kernel
theorem dX1_noteRead_5 : decode cX1_noteRead 5 = .ok (.bipush 8, 2) := by decide +kernel
theorem dX1_noteRead_7 : decode cX1_noteRead 7 = .ok (.if_icmp .ge 22, 3) := by decide +kernel
theorem dX1_noteRead_10 : decode cX1_noteRead 10 = .ok (.aload_n 0, 1) := by decide +kernel
theorem dX1_noteRead_11 : decode cX1_noteRead 11 = .ok (.dup, 1) := by decide +kernel
theorem dX1_noteRead_12 : decode cX1_noteRead 12 = .ok (.getfield 41, 3) := by decide +kernel
theorem dX1_noteRead_15 : decode cX1_noteRead 15 = .ok (.iconst 1, 1) := by decide +kernel
theorem dX1_noteRead_16 : decode cX1_noteRead 16 = .ok (.iload_n 1, 1) := by decide +kernel
theorem dX1_noteRead_17 : decode cX1_noteRead 17 = .ok (.ishl, 1) := by decide +kernel
theorem dX1_noteRead_18 : decode cX1_noteRead 18 = .ok (.ior, 1) := by decide +kernel
theorem dX1_noteRead_19 : decode cX1_noteRead 19 = .ok (.putfield 41, 3) := by decide +kernel
theorem dX1_noteRead_22 : decode cX1_noteRead 22 = .ok (.aload_n 0, 1) := by decide +kernel
theorem dX1_noteRead_23 : decode cX1_noteRead 23 = .ok (.getfield 9, 3) := by decide +kernel
theorem dX1_noteRead_26 : decode cX1_noteRead 26 = .ok (.iload_n 1, 1) := by decide +kernel
theorem dX1_noteRead_27 : decode cX1_noteRead 27 = .ok (.iload_n 2, 1) := by decide +kernel
theorem dX1_noteRead_28 : decode cX1_noteRead 28 = .ok (.iastore, 1) := by decide +kernel
theorem dX1_noteRead_29 : decode cX1_noteRead 29 = .ok (.return_, 1) := by decide +kernel
theorem dX1_isOf_0 : decode cX1_isOf 0 = .ok (.aload_n 0, 1) := by decide +kernel
theorem dX1_isOf_1 : decode cX1_isOf 1 = .ok (.getfield 15, 3) := by decide +kernel
theorem dX1_isOf_4 : decode cX1_isOf 4 = .ok (.iload_n 1, 1) := by decide +kernel
theorem dX1_isOf_5 : decode cX1_isOf 5 = .ok (.if_icmp .ne 15, 3) := by decide +kernel
theorem dX1_isOf_8 : decode cX1_isOf 8 = .ok (.aload_n 0, 1) := by decide +kernel
theorem dX1_isOf_9 : decode cX1_isOf 9 = .ok (.getfield 19, 3) := by decide +kernel
theorem dX1_isOf_12 : decode cX1_isOf 12 = .ok (.iload_n 2, 1) := by decide +kernel
theorem dX1_isOf_13 : decode cX1_isOf 13 = .ok (.if_icmp .ne 7, 3) := by decide +kernel
theorem dX1_isOf_16 : decode cX1_isOf 16 = .ok (.iconst 1, 1) := by decide +kernel
theorem dX1_isOf_17 : decode cX1_isOf 17 = .ok (.goto 4, 3) := by decide +kernel
theorem dX1_isOf_20 : decode cX1_isOf 20 = .ok (.iconst 0, 1) := by decide +kernel
theorem dX1_isOf_21 : decode cX1_isOf 21 = .ok (.ireturn, 1) := by decide +kernel
theorem dX1_isOld_0 : decode cX1_isOld 0 = .ok (.aload_n 1, 1) := by decide +kernel
theorem dX1_isOld_1 : decode cX1_isOld 1 = .ok (.arraylength, 1) := by decide +kernel
theorem dX1_isOld_2 : decode cX1_isOld 2 = .ok (.bipush 8, 2) := by decide +kernel
theorem dX1_isOld_4 : decode cX1_isOld 4 = .ok (.invokestatic 57, 3) := by decide +kernel
theorem dX1_isOld_7 : decode cX1_isOld 7 = .ok (.istore_n 2, 1) := by decide +kernel
theorem dX1_isOld_8 : decode cX1_isOld 8 = .ok (.iconst 0, 1) := by decide +kernel
theorem dX1_isOld_9 : decode cX1_isOld 9 = .ok (.istore_n 3, 1) := by decide +kernel
theorem dX1_isOld_10 : decode cX1_isOld 10 = .ok (.iload_n 3, 1) := by decide +kernel
theorem dX1_isOld_11 : decode cX1_isOld 11 = .ok (.iload_n 2, 1) := by decide +kernel
theorem dX1_isOld_12 : decode cX1_isOld 12 = .ok (.if_icmp .ge 34, 3) := by decide +kernel
theorem dX1_isOld_15 : decode cX1_isOld 15 = .ok (.aload_n 0, 1) := by decide +kernel
theorem dX1_isOld_16 : decode cX1_isOld 16 = .ok (.getfield 41, 3) := by decide +kernel
theorem dX1_isOld_19 : decode cX1_isOld 19 = .ok (.iload_n 3, 1) := by decide +kernel
theorem dX1_isOld_20 : decode cX1_isOld 20 = .ok (.ishr, 1) := by decide +kernel
theorem dX1_isOld_21 : decode cX1_isOld 21 = .ok (.iconst 1, 1) := by decide +kernel
theorem dX1_isOld_22 : decode cX1_isOld 22 = .ok (.iand, 1) := by decide +kernel
theorem dX1_isOld_23 : decode cX1_isOld 23 = .ok (.ifCond .eq 17, 3) := by decide +kernel
theorem dX1_isOld_26 : decode cX1_isOld 26 = .ok (.aload_n 0, 1) := by decide +kernel
theorem dX1_isOld_27 : decode cX1_isOld 27 = .ok (.getfield 9, 3) := by decide +kernel
theorem dX1_isOld_30 : decode cX1_isOld 30 = .ok (.iload_n 3, 1) := by decide +kernel
theorem dX1_isOld_31 : decode cX1_isOld 31 = .ok (.iaload, 1) := by decide +kernel
theorem dX1_isOld_32 : decode cX1_isOld 32 = .ok (.aload_n 1, 1) := by decide +kernel
theorem dX1_isOld_33 : decode cX1_isOld 33 = .ok (.iload_n 3, 1) := by decide +kernel
theorem dX1_isOld_34 : decode cX1_isOld 34 = .ok (.iaload, 1) := by decide +kernel
theorem dX1_isOld_35 : decode cX1_isOld 35 = .ok (.if_icmp .eq 5, 3) := by decide +kernel
theorem dX1_isOld_38 : decode cX1_isOld 38 = .ok (.iconst 1, 1) := by decide +kernel
theorem dX1_isOld_39 : decode cX1_isOld 39 = .ok (.ireturn, 1) := by decide +kernel
theorem dX1_isOld_40 : decode cX1_isOld 40 = .ok (.iinc 3 1, 3) := by decide +kernel
theorem dX1_isOld_43 : decode cX1_isOld 43 = .ok (.goto (-33), 3) := by decide +kernel
theorem dX1_isOld_46 : decode cX1_isOld 46 = .ok (.iconst 0, 1) := by decide +kernel
theorem dX1_isOld_47 : decode cX1_isOld 47 = .ok (.ireturn, 1) := by decide +kernel
theorem dX1_howManyParts_0 : decode cX1_howManyParts 0 = .ok (.iconst 0, 1) := by decide +kernel
theorem dX1_howManyParts_1 : decode cX1_howManyParts 1 = .ok (.istore_n 1, 1) := by decide +kernel
theorem dX1_howManyParts_2 : decode cX1_howManyParts 2 = .ok (.aload_n 0, 1) := by decide +kernel
theorem dX1_howManyParts_3 : decode cX1_howManyParts 3 = .ok (.getfield 34, 3) := by decide +kernel
theorem dX1_howManyParts_6 : decode cX1_howManyParts 6 = .ok (.astore_n 2, 1) := by decide +kernel
theorem dX1_howManyParts_7 : decode cX1_howManyParts 7 = .ok (.aload_n 2, 1) := by decide +kernel
theorem dX1_howManyParts_8 : decode cX1_howManyParts 8 = .ok (.ifnull 14, 3) := by decide +kernel
theorem dX1_howManyParts_11 : decode cX1_howManyParts 11 = .ok (.iinc 1 1, 3) := by decide +kernel
theorem dX1_howManyParts_14 : decode cX1_howManyParts 14 = .ok (.aload_n 2, 1) := by decide +kernel
theorem dX1_howManyParts_15 : decode cX1_howManyParts 15 = .ok (.getfield 50, 3) := by decide +kernel
theorem dX1_howManyParts_18 : decode cX1_howManyParts 18 = .ok (.astore_n 2, 1) := by decide +kernel
theorem dX1_howManyParts_19 : decode cX1_howManyParts 19 = .ok (.goto (-12), 3) := by decide +kernel
theorem dX1_howManyParts_22 : decode cX1_howManyParts 22 = .ok (.iload_n 1, 1) := by decide +kernel
theorem dX1_howManyParts_23 : decode cX1_howManyParts 23 = .ok (.ireturn, 1) := by decide +kernel
theorem dX1_isAlike_0 : decode cX1_isAlike 0 = .ok (.aload_n 0, 1) := by decide +kernel
theorem dX1_isAlike_1 : decode cX1_isAlike 1 = .ok (.aload_n 1, 1) := by decide +kernel
theorem dX1_isAlike_2 : decode cX1_isAlike 2 = .ok (.invokestatic 63, 3) := by decide +kernel
theorem dX1_isAlike_5 : decode cX1_isAlike 5 = .ok (.ireturn, 1) := by decide +kernel
theorem dX1_areAlike_0 : decode cX1_areAlike 0 = .ok (.aload_n 0, 1) := by decide +kernel
theorem dX1_areAlike_1 : decode cX1_areAlike 1 = .ok (.getfield 22, 3) := by decide +kernel
theorem dX1_areAlike_4 : decode cX1_areAlike 4 = .ok (.bipush 6, 2) := by decide +kernel
theorem dX1_areAlike_6 : decode cX1_areAlike 6 = .ok (.if_icmp .gt 29, 3) := by decide +kernel
theorem dX1_areAlike_9 : decode cX1_areAlike 9 = .ok (.aload_n 0, 1) := by decide +kernel
theorem dX1_areAlike_10 : decode cX1_areAlike 10 = .ok (.aload_n 1, 1) := by decide +kernel
theorem dX1_areAlike_11 : decode cX1_areAlike 11 = .ok (.getfield 15, 3) := by decide +kernel
theorem dX1_areAlike_14 : decode cX1_areAlike 14 = .ok (.aload_n 1, 1) := by decide +kernel
theorem dX1_areAlike_15 : decode cX1_areAlike 15 = .ok (.getfield 19, 3) := by decide +kernel
theorem dX1_areAlike_18 : decode cX1_areAlike 18 = .ok (.invokevirtual 53, 3) := by decide +kernel
theorem dX1_areAlike_21 : decode cX1_areAlike 21 = .ok (.ifCond .eq 14, 3) := by decide +kernel
theorem dX1_areAlike_24 : decode cX1_areAlike 24 = .ok (.aload_n 0, 1) := by decide +kernel
theorem dX1_areAlike_25 : decode cX1_areAlike 25 = .ok (.getfield 28, 3) := by decide +kernel
theorem dX1_areAlike_28 : decode cX1_areAlike 28 = .ok (.aload_n 1, 1) := by decide +kernel
theorem dX1_areAlike_29 : decode cX1_areAlike 29 = .ok (.getfield 28, 3) := by decide +kernel
theorem dX1_areAlike_32 : decode cX1_areAlike 32 = .ok (.if_icmp .eq 5, 3) := by decide +kernel
theorem dX1_areAlike_35 : decode cX1_areAlike 35 = .ok (.iconst 0, 1) := by decide +kernel
theorem dX1_areAlike_36 : decode cX1_areAlike 36 = .ok (.ireturn, 1) := by decide +kernel
theorem dX1_areAlike_37 : decode cX1_areAlike 37 = .ok (.aload_n 1, 1) := by decide +kernel
theorem dX1_areAlike_38 : decode cX1_areAlike 38 = .ok (.getfield 34, 3) := by decide +kernel
theorem dX1_areAlike_41 : decode cX1_areAlike 41 = .ok (.astore_n 2, 1) := by decide +kernel
theorem dX1_areAlike_42 : decode cX1_areAlike 42 = .ok (.aload_n 0, 1) := by decide +kernel
theorem dX1_areAlike_43 : decode cX1_areAlike 43 = .ok (.getfield 34, 3) := by decide +kernel
theorem dX1_areAlike_46 : decode cX1_areAlike 46 = .ok (.astore_n 3, 1) := by decide +kernel
theorem dX1_areAlike_47 : decode cX1_areAlike 47 = .ok (.aload_n 3, 1) := by decide +kernel
theorem dX1_areAlike_48 : decode cX1_areAlike 48 = .ok (.ifnull 30, 3) := by decide +kernel
theorem dX1_areAlike_51 : decode cX1_areAlike 51 = .ok (.aload_n 2, 1) := by decide +kernel
theorem dX1_areAlike_52 : decode cX1_areAlike 52 = .ok (.ifnull 11, 3) := by decide +kernel
theorem dX1_areAlike_55 : decode cX1_areAlike 55 = .ok (.aload_n 3, 1) := by decide +kernel
theorem dX1_areAlike_56 : decode cX1_areAlike 56 = .ok (.aload_n 2, 1) := by decide +kernel
theorem dX1_areAlike_57 : decode cX1_areAlike 57 = .ok (.invokestatic 63, 3) := by decide +kernel
theorem dX1_areAlike_60 : decode cX1_areAlike 60 = .ok (.ifCond .ne 5, 3) := by decide +kernel
theorem dX1_areAlike_63 : decode cX1_areAlike 63 = .ok (.iconst 0, 1) := by decide +kernel
theorem dX1_areAlike_64 : decode cX1_areAlike 64 = .ok (.ireturn, 1) := by decide +kernel
theorem dX1_areAlike_65 : decode cX1_areAlike 65 = .ok (.aload_n 2, 1) := by decide +kernel
theorem dX1_areAlike_66 : decode cX1_areAlike 66 = .ok (.getfield 50, 3) := by decide +kernel
theorem dX1_areAlike_69 : decode cX1_areAlike 69 = .ok (.astore_n 2, 1) := by decide +kernel
theorem dX1_areAlike_70 : decode cX1_areAlike 70 = .ok (.aload_n 3, 1) := by decide +kernel
theorem dX1_areAlike_71 : decode cX1_areAlike 71 = .ok (.getfield 50, 3) := by decide +kernel
theorem dX1_areAlike_74 : decode cX1_areAlike 74 = .ok (.astore_n 3, 1) := by decide +kernel
theorem dX1_areAlike_75 : decode cX1_areAlike 75 = .ok (.goto (-28), 3) := by decide +kernel
theorem dX1_areAlike_78 : decode cX1_areAlike 78 = .ok (.aload_n 2, 1) := by decide +kernel
theorem dX1_areAlike_79 : decode cX1_areAlike 79 = .ok (.ifnonnull 7, 3) := by decide +kernel
theorem dX1_areAlike_82 : decode cX1_areAlike 82 = .ok (.iconst 1, 1) := by decide +kernel
theorem dX1_areAlike_83 : decode cX1_areAlike 83 = .ok (.goto 4, 3) := by decide +kernel
theorem dX1_areAlike_86 : decode cX1_areAlike 86 = .ok (.iconst 0, 1) := by decide +kernel
theorem dX1_areAlike_87 : decode cX1_areAlike 87 = .ok (.ireturn, 1) := by decide +kernel
theorem dX2_init_0 : decode cX2_init 0 = .ok (.aload_n 0, 1) := by decide +kernel
theorem dX2_init_1 : decode cX2_init 1 = .ok (.invokespecial 3, 3) := by decide +kernel
theorem dX2_init_4 : decode cX2_init 4 = .ok (.aload_n 0, 1) := by decide +kernel
theorem dX2_init_5 : decode cX2_init 5 = .ok (.bipush 16, 2) := by decide +kernel
theorem dX2_init_7 : decode cX2_init 7 = .ok (.newarray .int, 2) := by decide +kernel
theorem dX2_init_9 : decode cX2_init 9 = .ok (.putfield 9, 3) := by decide +kernel
theorem dX2_init_12 : decode cX2_init 12 = .ok (.aload_n 0, 1) := by decide +kernel
theorem dX2_init_13 : decode cX2_init 13 = .ok (.bipush 16, 2) := by decide +kernel
theorem dX2_init_15 : decode cX2_init 15 = .ok (.newarray .int, 2) := by decide +kernel
theorem dX2_init_17 : decode cX2_init 17 = .ok (.putfield 15, 3) := by decide +kernel
theorem dX2_init_20 : decode cX2_init 20 = .ok (.aload_n 0, 1) := by decide +kernel
theorem dX2_init_21 : decode cX2_init 21 = .ok (.bipush 16, 2) := by decide +kernel
theorem dX2_init_23 : decode cX2_init 23 = .ok (.newarray .int, 2) := by decide +kernel
theorem dX2_init_25 : decode cX2_init 25 = .ok (.putfield 18, 3) := by decide +kernel
theorem dX2_init_28 : decode cX2_init 28 = .ok (.return_, 1) := by decide +kernel
theorem dX2_noteCell_0 : decode cX2_noteCell 0 = .ok (.aload_n 0, 1) := by decide +kernel
theorem dX2_noteCell_1 : decode cX2_noteCell 1 = .ok (.iload_n 1, 1) := by decide +kernel
theorem dX2_noteCell_2 : decode cX2_noteCell 2 = .ok (.iload_n 2, 1) := by decide +kernel
theorem dX2_noteCell_3 : decode cX2_noteCell 3 = .ok (.iconst 0, 1) := by decide +kernel
theorem dX2_noteCell_4 : decode cX2_noteCell 4 = .ok (.invokevirtual 21, 3) := by decide +kernel
theorem dX2_noteCell_7 : decode cX2_noteCell 7 = .ok (.return_, 1) := by decide +kernel
theorem dX2_noteAim_0 : decode cX2_noteAim 0 = .ok (.aload_n 0, 1) := by decide +kernel
theorem dX2_noteAim_1 : decode cX2_noteAim 1 = .ok (.iconst (-1), 1) := by decide +kernel
theorem dX2_noteAim_2 : decode cX2_noteAim 2 = .ok (.iload_n 1, 1) := by decide +kernel
theorem dX2_noteAim_3 : decode cX2_noteAim 3 = .ok (.iload_n 2, 1) := by decide +kernel
theorem dX2_noteAim_4 : decode cX2_noteAim 4 = .ok (.invokevirtual 21, 3) := by decide +kernel
theorem dX2_noteAim_7 : decode cX2_noteAim 7 = .ok (.return_, 1) := by decide +kernel
theorem dX2_note_0 : decode cX2_note 0 = .ok (.aload_n 0, 1) := by decide +kernel
theorem dX2_note_1 : decode cX2_note 1 = .ok (.aload_n 0, 1) := by decide +kernel
theorem dX2_note_2 : decode cX2_note 2 = .ok (.getfield 25, 3) := by decide +kernel
theorem dX2_note_5 : decode cX2_note 5 = .ok (.iconst 1, 1) := by decide +kernel
theorem dX2_note_6 : decode cX2_note 6 = .ok (.iadd, 1) := by decide +kernel
theorem dX2_note_7 : decode cX2_note 7 = .ok (.bipush 16, 2) := by decide +kernel
theorem dX2_note_9 : decode cX2_note 9 = .ok (.irem, 1) := by decide +kernel
theorem dX2_note_10 : decode cX2_note 10 = .ok (.putfield 25, 3) := by decide +kernel
theorem dX2_note_13 : decode cX2_note 13 = .ok (.aload_n 0, 1) := by decide +kernel
theorem dX2_note_14 : decode cX2_note 14 = .ok (.getfield 9, 3) := by decide +kernel
theorem dX2_note_17 : decode cX2_note 17 = .ok (.aload_n 0, 1) := by decide +kernel
theorem dX2_note_18 : decode cX2_note 18 = .ok (.getfield 25, 3) := by decide +kernel
theorem dX2_note_21 : decode cX2_note 21 = .ok (.iload_n 1, 1) := by decide +kernel
theorem dX2_note_22 : decode cX2_note 22 = .ok (.iastore, 1) := by decide +kernel
theorem dX2_note_23 : decode cX2_note 23 = .ok (.aload_n 0, 1) := by decide +kernel
theorem dX2_note_24 : decode cX2_note 24 = .ok (.getfield 15, 3) := by decide +kernel
theorem dX2_note_27 : decode cX2_note 27 = .ok (.aload_n 0, 1) := by decide +kernel
theorem dX2_note_28 : decode cX2_note 28 = .ok (.getfield 25, 3) := by decide +kernel
theorem dX2_note_31 : decode cX2_note 31 = .ok (.iload_n 2, 1) := by decide +kernel
theorem dX2_note_32 : decode cX2_note 32 = .ok (.iastore, 1) := by decide +kernel
theorem dX2_note_33 : decode cX2_note 33 = .ok (.aload_n 0, 1) := by decide +kernel
theorem dX2_note_34 : decode cX2_note 34 = .ok (.getfield 18, 3) := by decide +kernel
theorem dX2_note_37 : decode cX2_note 37 = .ok (.aload_n 0, 1) := by decide +kernel
theorem dX2_note_38 : decode cX2_note 38 = .ok (.getfield 25, 3) := by decide +kernel
theorem dX2_note_41 : decode cX2_note 41 = .ok (.iload_n 3, 1) := by decide +kernel
theorem dX2_note_42 : decode cX2_note 42 = .ok (.iastore, 1) := by decide +kernel
theorem dX2_note_43 : decode cX2_note 43 = .ok (.aload_n 0, 1) := by decide +kernel
theorem dX2_note_44 : decode cX2_note 44 = .ok (.aload_n 0, 1) := by decide +kernel
theorem dX2_note_45 : decode cX2_note 45 = .ok (.getfield 29, 3) := by decide +kernel
theorem dX2_note_48 : decode cX2_note 48 = .ok (.iconst 1, 1) := by decide +kernel
theorem dX2_note_49 : decode cX2_note 49 = .ok (.iadd, 1) := by decide +kernel
theorem dX2_note_50 : decode cX2_note 50 = .ok (.bipush 16, 2) := by decide +kernel
theorem dX2_note_52 : decode cX2_note 52 = .ok (.invokestatic 32, 3) := by decide +kernel
theorem dX2_note_55 : decode cX2_note 55 = .ok (.putfield 29, 3) := by decide +kernel
theorem dX2_note_58 : decode cX2_note 58 = .ok (.return_, 1) := by decide +kernel
theorem dX2_forget_0 : decode cX2_forget 0 = .ok (.aload_n 0, 1) := by decide +kernel
theorem dX2_forget_1 : decode cX2_forget 1 = .ok (.iconst 0, 1) := by decide +kernel
theorem dX2_forget_2 : decode cX2_forget 2 = .ok (.putfield 29, 3) := by decide +kernel
theorem dX2_forget_5 : decode cX2_forget 5 = .ok (.return_, 1) := by decide +kernel
theorem dX2_takeBackLatest_0 : decode cX2_takeBackLatest 0 = .ok (.aload_n 0, 1) := by decide +kernel
theorem dX2_takeBackLatest_1 : decode cX2_takeBackLatest 1 = .ok (.getfield 29, 3) := by decide +kernel
theorem dX2_takeBackLatest_4 : decode cX2_takeBackLatest 4 = .ok (.ifCond .ne 4, 3) := by decide +kernel
theorem dX2_takeBackLatest_7 : decode cX2_takeBackLatest 7 = .ok (.return_, 1) := by decide +kernel
theorem dX2_takeBackLatest_8 : decode cX2_takeBackLatest 8 = .ok (.aload_n 0, 1) := by decide +kernel
theorem dX2_takeBackLatest_9 : decode cX2_takeBackLatest 9 = .ok (.getfield 9, 3) := by decide +kernel
theorem dX2_takeBackLatest_12 : decode cX2_takeBackLatest 12 = .ok (.aload_n 0, 1) := by decide +kernel
theorem dX2_takeBackLatest_13 : decode cX2_takeBackLatest 13 = .ok (.getfield 25, 3) := by decide +kernel
theorem dX2_takeBackLatest_16 : decode cX2_takeBackLatest 16 = .ok (.iaload, 1) := by decide +kernel
theorem dX2_takeBackLatest_17 : decode cX2_takeBackLatest 17 = .ok (.istore_n 2, 1) := by decide +kernel
theorem dX2_takeBackLatest_18 : decode cX2_takeBackLatest 18 = .ok (.iload_n 2, 1) := by decide +kernel
theorem dX2_takeBackLatest_19 : decode cX2_takeBackLatest 19 = .ok (.iconst (-1), 1) := by decide +kernel
theorem dX2_takeBackLatest_20 : decode cX2_takeBackLatest 20 = .ok (.if_icmp .ne 32, 3) := by decide +kernel
theorem dX2_takeBackLatest_23 : decode cX2_takeBackLatest 23 = .ok (.aload_n 1, 1) := by decide +kernel
theorem dX2_takeBackLatest_24 : decode cX2_takeBackLatest 24 = .ok (.aload_n 0, 1) := by decide +kernel
theorem dX2_takeBackLatest_25 : decode cX2_takeBackLatest 25 = .ok (.getfield 15, 3) := by decide +kernel
theorem dX2_takeBackLatest_28 : decode cX2_takeBackLatest 28 = .ok (.aload_n 0, 1) := by decide +kernel
theorem dX2_takeBackLatest_29 : decode cX2_takeBackLatest 29 = .ok (.getfield 25, 3) := by decide +kernel
theorem dX2_takeBackLatest_32 : decode cX2_takeBackLatest 32 = .ok (.iaload, 1) := by decide +kernel
theorem dX2_takeBackLatest_33 : decode cX2_takeBackLatest 33 = .ok (.putfield 38, 3) := by decide +kernel
theorem dX2_takeBackLatest_36 : decode cX2_takeBackLatest 36 = .ok (.aload_n 1, 1) := by decide +kernel
theorem dX2_takeBackLatest_37 : decode cX2_takeBackLatest 37 = .ok (.aload_n 0, 1) := by decide +kernel
theorem dX2_takeBackLatest_38 : decode cX2_takeBackLatest 38 = .ok (.getfield 18, 3) := by decide +kernel
theorem dX2_takeBackLatest_41 : decode cX2_takeBackLatest 41 = .ok (.aload_n 0, 1) := by decide +kernel
theorem dX2_takeBackLatest_42 : decode cX2_takeBackLatest 42 = .ok (.getfield 25, 3) := by decide +kernel
theorem dX2_takeBackLatest_45 : decode cX2_takeBackLatest 45 = .ok (.iaload, 1) := by decide +kernel
theorem dX2_takeBackLatest_46 : decode cX2_takeBackLatest 46 = .ok (.putfield 43, 3) := by decide +kernel
theorem dX2_takeBackLatest_49 : decode cX2_takeBackLatest 49 = .ok (.goto 25, 3) := by decide +kernel
theorem dX2_takeBackLatest_52 : decode cX2_takeBackLatest 52 = .ok (.iload_n 2, 1) := by decide +kernel
theorem dX2_takeBackLatest_53 : decode cX2_takeBackLatest 53 = .ok (.invokestatic 46, 3) := by decide +kernel
theorem dX2_takeBackLatest_56 : decode cX2_takeBackLatest 56 = .ok (.ifCond .eq 18, 3) := by decide +kernel
theorem dX2_takeBackLatest_59 : decode cX2_takeBackLatest 59 = .ok (.aload_n 1, 1) := by decide +kernel
theorem dX2_takeBackLatest_60 : decode cX2_takeBackLatest 60 = .ok (.getfield 50, 3) := by decide +kernel
theorem dX2_takeBackLatest_63 : decode cX2_takeBackLatest 63 = .ok (.iload_n 2, 1) := by decide +kernel
theorem dX2_takeBackLatest_64 : decode cX2_takeBackLatest 64 = .ok (.aload_n 0, 1) := by decide +kernel
theorem dX2_takeBackLatest_65 : decode cX2_takeBackLatest 65 = .ok (.getfield 15, 3) := by decide +kernel
theorem dX2_takeBackLatest_68 : decode cX2_takeBackLatest 68 = .ok (.aload_n 0, 1) := by decide +kernel
theorem dX2_takeBackLatest_69 : decode cX2_takeBackLatest 69 = .ok (.getfield 25, 3) := by decide +kernel
theorem dX2_takeBackLatest_72 : decode cX2_takeBackLatest 72 = .ok (.iaload, 1) := by decide +kernel
theorem dX2_takeBackLatest_73 : decode cX2_takeBackLatest 73 = .ok (.iastore, 1) := by decide +kernel
theorem dX2_takeBackLatest_74 : decode cX2_takeBackLatest 74 = .ok (.aload_n 0, 1) := by decide +kernel
theorem dX2_takeBackLatest_75 : decode cX2_takeBackLatest 75 = .ok (.aload_n 0, 1) := by decide +kernel
theorem dX2_takeBackLatest_76 : decode cX2_takeBackLatest 76 = .ok (.getfield 25, 3) := by decide +kernel
theorem dX2_takeBackLatest_79 : decode cX2_takeBackLatest 79 = .ok (.bipush 16, 2) := by decide +kernel
theorem dX2_takeBackLatest_81 : decode cX2_takeBackLatest 81 = .ok (.iadd, 1) := by decide +kernel
theorem dX2_takeBackLatest_82 : decode cX2_takeBackLatest 82 = .ok (.iconst 1, 1) := by decide +kernel
theorem dX2_takeBackLatest_83 : decode cX2_takeBackLatest 83 = .ok (.isub, 1) := by decide +kernel
theorem dX2_takeBackLatest_84 : decode cX2_takeBackLatest 84 = .ok (.bipush 16, 2) := by decide +kernel
theorem dX2_takeBackLatest_86 : decode cX2_takeBackLatest 86 = .ok (.irem, 1) := by decide +kernel
theorem dX2_takeBackLatest_87 : decode cX2_takeBackLatest 87 = .ok (.putfield 25, 3) := by decide +kernel
theorem dX2_takeBackLatest_90 : decode cX2_takeBackLatest 90 = .ok (.aload_n 0, 1) := by decide +kernel
theorem dX2_takeBackLatest_91 : decode cX2_takeBackLatest 91 = .ok (.dup, 1) := by decide +kernel
theorem dX2_takeBackLatest_92 : decode cX2_takeBackLatest 92 = .ok (.getfield 29, 3) := by decide +kernel
theorem dX2_takeBackLatest_95 : decode cX2_takeBackLatest 95 = .ok (.iconst 1, 1) := by decide +kernel
theorem dX2_takeBackLatest_96 : decode cX2_takeBackLatest 96 = .ok (.isub, 1) := by decide +kernel
theorem dX2_takeBackLatest_97 : decode cX2_takeBackLatest 97 = .ok (.putfield 29, 3) := by decide +kernel
theorem dX2_takeBackLatest_100 : decode cX2_takeBackLatest 100 = .ok (.return_, 1) := by decide +kernel
theorem dX3_init_0 : decode cX3_init 0 = .ok (.aload_n 0, 1) := by decide +kernel
theorem dX3_init_1 : decode cX3_init 1 = .ok (.invokespecial 3, 3) := by decide +kernel
theorem dX3_init_4 : decode cX3_init 4 = .ok (.aload_n 0, 1) := by decide +kernel
theorem dX3_init_5 : decode cX3_init 5 = .ok (.sipush 960, 3) := by decide +kernel
theorem dX3_init_8 : decode cX3_init 8 = .ok (.newarray .int, 2) := by decide +kernel
theorem dX3_init_10 : decode cX3_init 10 = .ok (.putfield 9, 3) := by decide +kernel
theorem dX3_init_13 : decode cX3_init 13 = .ok (.aload_n 0, 1) := by decide +kernel
theorem dX3_init_14 : decode cX3_init 14 = .ok (.aload_n 1, 1) := by decide +kernel
theorem dX3_init_15 : decode cX3_init 15 = .ok (.putfield 15, 3) := by decide +kernel
theorem dX3_init_18 : decode cX3_init 18 = .ok (.aload_n 0, 1) := by decide +kernel
theorem dX3_init_19 : decode cX3_init 19 = .ok (.aload_n 2, 1) := by decide +kernel
theorem dX3_init_20 : decode cX3_init 20 = .ok (.putfield 19, 3) := by decide +kernel
theorem dX3_init_23 : decode cX3_init 23 = .ok (.aload_n 0, 1) := by decide +kernel
theorem dX3_init_24 : decode cX3_init 24 = .ok (.aload_n 3, 1) := by decide +kernel
theorem dX3_init_25 : decode cX3_init 25 = .ok (.putfield 23, 3) := by decide +kernel
theorem dX3_init_28 : decode cX3_init 28 = .ok (.return_, 1) := by decide +kernel
theorem dX3_takeProgram_0 : decode cX3_takeProgram 0 = .ok (.aload_n 0, 1) := by decide +kernel
theorem dX3_takeProgram_1 : decode cX3_takeProgram 1 = .ok (.aload_n 1, 1) := by decide +kernel
theorem dX3_takeProgram_2 : decode cX3_takeProgram 2 = .ok (.putfield 23, 3) := by decide +kernel
theorem dX3_takeProgram_5 : decode cX3_takeProgram 5 = .ok (.return_, 1) := by decide +kernel
theorem dX3_firstRoot_0 : decode cX3_firstRoot 0 = .ok (.aload_n 0, 1) := by decide +kernel
theorem dX3_firstRoot_1 : decode cX3_firstRoot 1 = .ok (.iconst 0, 1) := by decide +kernel
theorem dX3_firstRoot_2 : decode cX3_firstRoot 2 = .ok (.putfield 27, 3) := by decide +kernel
theorem dX3_firstRoot_5 : decode cX3_firstRoot 5 = .ok (.aload_n 0, 1) := by decide +kernel
theorem dX3_firstRoot_6 : decode cX3_firstRoot 6 = .ok (.iconst 0, 1) := by decide +kernel
theorem dX3_firstRoot_7 : decode cX3_firstRoot 7 = .ok (.iconst 0, 1) := by decide +kernel
theorem dX3_firstRoot_8 : decode cX3_firstRoot 8 = .ok (.iconst 1, 1) := by decide +kernel
theorem dX3_firstRoot_9 : decode cX3_firstRoot 9 = .ok (.invokevirtual 31, 3) := by decide +kernel
theorem dX3_firstRoot_12 : decode cX3_firstRoot 12 = .ok (.astore_n 1, 1) := by decide +kernel
theorem dX3_firstRoot_13 : decode cX3_firstRoot 13 = .ok (.aload_n 0, 1) := by decide +kernel
theorem dX3_firstRoot_14 : decode cX3_firstRoot 14 = .ok (.invokevirtual 35, 3) := by decide +kernel
theorem dX3_firstRoot_17 : decode cX3_firstRoot 17 = .ok (.aload_n 1, 1) := by decide +kernel
theorem dX3_firstRoot_18 : decode cX3_firstRoot 18 = .ok (.areturn, 1) := by decide +kernel
theorem dX3_madeByItself_0 : decode cX3_madeByItself 0 = .ok (.aload_n 0, 1) := by decide +kernel
theorem dX3_madeByItself_1 : decode cX3_madeByItself 1 = .ok (.iload_n 1, 1) := by decide +kernel
theorem dX3_madeByItself_2 : decode cX3_madeByItself 2 = .ok (.iload_n 2, 1) := by decide +kernel
theorem dX3_madeByItself_3 : decode cX3_madeByItself 3 = .ok (.iconst 1, 1) := by decide +kernel
theorem dX3_madeByItself_4 : decode cX3_madeByItself 4 = .ok (.invokevirtual 31, 3) := by decide +kernel
theorem dX3_madeByItself_7 : decode cX3_madeByItself 7 = .ok (.areturn, 1) := by decide +kernel
theorem dX3_broughtRoot_0 : decode cX3_broughtRoot 0 = .ok (.aload_n 0, 1) := by decide +kernel
theorem dX3_broughtRoot_1 : decode cX3_broughtRoot 1 = .ok (.invokevirtual 35, 3) := by decide +kernel
theorem dX3_broughtRoot_4 : decode cX3_broughtRoot 4 = .ok (.aload_n 0, 1) := by decide +kernel
theorem dX3_broughtRoot_5 : decode cX3_broughtRoot 5 = .ok (.dup, 1) := by decide +kernel
theorem dX3_broughtRoot_6 : decode cX3_broughtRoot 6 = .ok (.getfield 38, 3) := by decide +kernel
theorem dX3_broughtRoot_9 : decode cX3_broughtRoot 9 = .ok (.iconst 1, 1) := by decide +kernel
theorem dX3_broughtRoot_10 : decode cX3_broughtRoot 10 = .ok (.iadd, 1) := by decide +kernel
theorem dX3_broughtRoot_11 : decode cX3_broughtRoot 11 = .ok (.putfield 38, 3) := by decide +kernel
theorem dX3_broughtRoot_14 : decode cX3_broughtRoot 14 = .ok (.aload_n 1, 1) := by decide +kernel
theorem dX3_broughtRoot_15 : decode cX3_broughtRoot 15 = .ok (.ifnull 31, 3) := by decide +kernel
theorem dX3_broughtRoot_18 : decode cX3_broughtRoot 18 = .ok (.aload_n 1, 1) := by decide +kernel
theorem dX3_broughtRoot_19 : decode cX3_broughtRoot 19 = .ok (.aload_n 0, 1) := by decide +kernel
theorem dX3_broughtRoot_20 : decode cX3_broughtRoot 20 = .ok (.getfield 15, 3) := by decide +kernel
theorem dX3_broughtRoot_23 : decode cX3_broughtRoot 23 = .ok (.getfield 41, 3) := by decide +kernel
theorem dX3_broughtRoot_26 : decode cX3_broughtRoot 26 = .ok (.aload_n 0, 1) := by decide +kernel
theorem dX3_broughtRoot_27 : decode cX3_broughtRoot 27 = .ok (.getfield 15, 3) := by decide +kernel
theorem dX3_broughtRoot_30 : decode cX3_broughtRoot 30 = .ok (.getfield 46, 3) := by decide +kernel
theorem dX3_broughtRoot_33 : decode cX3_broughtRoot 33 = .ok (.invokevirtual 49, 3) := by decide +kernel
theorem dX3_broughtRoot_36 : decode cX3_broughtRoot 36 = .ok (.ifCond .eq 10, 3) := by decide +kernel
theorem dX3_broughtRoot_39 : decode cX3_broughtRoot 39 = .ok (.aload_n 0, 1) := by decide +kernel
theorem dX3_broughtRoot_40 : decode cX3_broughtRoot 40 = .ok (.aload_n 1, 1) := by decide +kernel
theorem dX3_broughtRoot_41 : decode cX3_broughtRoot 41 = .ok (.invokevirtual 55, 3) := by decide +kernel
theorem dX3_broughtRoot_44 : decode cX3_broughtRoot 44 = .ok (.aload_n 1, 1) := by decide +kernel
theorem dX3_broughtRoot_45 : decode cX3_broughtRoot 45 = .ok (.areturn, 1) := by decide +kernel
theorem dX3_broughtRoot_46 : decode cX3_broughtRoot 46 = .ok (.aload_n 0, 1) := by decide +kernel
theorem dX3_broughtRoot_47 : decode cX3_broughtRoot 47 = .ok (.aload_n 1, 1) := by decide +kernel
theorem dX3_broughtRoot_48 : decode cX3_broughtRoot 48 = .ok (.invokevirtual 59, 3) := by decide +kernel
theorem dX3_broughtRoot_51 : decode cX3_broughtRoot 51 = .ok (.aload_n 0, 1) := by decide +kernel
theorem dX3_broughtRoot_52 : decode cX3_broughtRoot 52 = .ok (.aload_n 0, 1) := by decide +kernel
theorem dX3_broughtRoot_53 : decode cX3_broughtRoot 53 = .ok (.getfield 15, 3) := by decide +kernel
theorem dX3_broughtRoot_56 : decode cX3_broughtRoot 56 = .ok (.getfield 41, 3) := by decide +kernel
theorem dX3_broughtRoot_59 : decode cX3_broughtRoot 59 = .ok (.aload_n 0, 1) := by decide +kernel
theorem dX3_broughtRoot_60 : decode cX3_broughtRoot 60 = .ok (.getfield 15, 3) := by decide +kernel
theorem dX3_broughtRoot_63 : decode cX3_broughtRoot 63 = .ok (.getfield 46, 3) := by decide +kernel
theorem dX3_broughtRoot_66 : decode cX3_broughtRoot 66 = .ok (.iconst 1, 1) := by decide +kernel
theorem dX3_broughtRoot_67 : decode cX3_broughtRoot 67 = .ok (.invokevirtual 31, 3) := by decide +kernel
theorem dX3_broughtRoot_70 : decode cX3_broughtRoot 70 = .ok (.areturn, 1) := by decide +kernel
theorem dX3_letGoWithAll_0 : decode cX3_letGoWithAll 0 = .ok (.aload_n 1, 1) := by decide +kernel
theorem dX3_letGoWithAll_1 : decode cX3_letGoWithAll 1 = .ok (.ifnull 8, 3) := by decide +kernel
theorem dX3_letGoWithAll_4 : decode cX3_letGoWithAll 4 = .ok (.aload_n 0, 1) := by decide +kernel
theorem dX3_letGoWithAll_5 : decode cX3_letGoWithAll 5 = .ok (.aload_n 1, 1) := by decide +kernel
theorem dX3_letGoWithAll_6 : decode cX3_letGoWithAll 6 = .ok (.invokevirtual 62, 3) := by decide +kernel
theorem dX3_letGoWithAll_9 : decode cX3_letGoWithAll 9 = .ok (.return_, 1) := by decide +kernel
theorem dX3_clearCounts_0 : decode cX3_clearCounts 0 = .ok (.aload_n 0, 1) := by decide +kernel
theorem dX3_clearCounts_1 : decode cX3_clearCounts 1 = .ok (.iconst 0, 1) := by decide +kernel
theorem dX3_clearCounts_2 : decode cX3_clearCounts 2 = .ok (.putfield 65, 3) := by decide +kernel
theorem dX3_clearCounts_5 : decode cX3_clearCounts 5 = .ok (.aload_n 0, 1) := by decide +kernel
theorem dX3_clearCounts_6 : decode cX3_clearCounts 6 = .ok (.iconst 0, 1) := by decide +kernel
theorem dX3_clearCounts_7 : decode cX3_clearCounts 7 = .ok (.putfield 68, 3) := by decide +kernel
theorem dX3_clearCounts_10 : decode cX3_clearCounts 10 = .ok (.aload_n 0, 1) := by decide +kernel
theorem dX3_clearCounts_11 : decode cX3_clearCounts 11 = .ok (.iconst 0, 1) := by decide +kernel
theorem dX3_clearCounts_12 : decode cX3_clearCounts 12 = .ok (.putfield 71, 3) := by decide +kernel
theorem dX3_clearCounts_15 : decode cX3_clearCounts 15 = .ok (.return_, 1) := by decide +kernel
theorem dX3_make_0 : decode cX3_make 0 = .ok (.aload_n 0, 1) := by decide +kernel
theorem dX3_make_1 : decode cX3_make 1 = .ok (.getfield 19, 3) := by decide +kernel
theorem dX3_make_4 : decode cX3_make 4 = .ok (.invokevirtual 74, 3) := by decide +kernel
theorem dX3_make_7 : decode cX3_make 7 = .ok (.astore 4, 2) := by decide +kernel
theorem dX3_make_9 : decode cX3_make 9 = .ok (.aload 4, 2) := by decide +kernel
theorem dX3_make_11 : decode cX3_make 11 = .ok (.iload_n 1, 1) := by decide +kernel
theorem dX3_make_12 : decode cX3_make 12 = .ok (.iload_n 2, 1) := by decide +kernel
theorem dX3_make_13 : decode cX3_make 13 = .ok (.iload_n 3, 1) := by decide +kernel
theorem dX3_make_14 : decode cX3_make 14 = .ok (.aload_n 0, 1) := by decide +kernel
theorem dX3_make_15 : decode cX3_make 15 = .ok (.getfield 27, 3) := by decide +kernel
theorem dX3_make_18 : decode cX3_make 18 = .ok (.invokevirtual 80, 3) := by decide +kernel
theorem dX3_make_21 : decode cX3_make 21 = .ok (.aload_n 0, 1) := by decide +kernel
theorem dX3_make_22 : decode cX3_make 22 = .ok (.dup, 1) := by decide +kernel
theorem dX3_make_23 : decode cX3_make 23 = .ok (.getfield 27, 3) := by decide +kernel
theorem dX3_make_26 : decode cX3_make 26 = .ok (.iconst 1, 1) := by decide +kernel
theorem dX3_make_27 : decode cX3_make 27 = .ok (.iadd, 1) := by decide +kernel
theorem dX3_make_28 : decode cX3_make 28 = .ok (.putfield 27, 3) := by decide +kernel
theorem dX3_make_31 : decode cX3_make 31 = .ok (.aload_n 0, 1) := by decide +kernel
theorem dX3_make_32 : decode cX3_make 32 = .ok (.dup, 1) := by decide +kernel
theorem dX3_make_33 : decode cX3_make 33 = .ok (.getfield 65, 3) := by decide +kernel
theorem dX3_make_36 : decode cX3_make 36 = .ok (.iconst 1, 1) := by decide +kernel
theorem dX3_make_37 : decode cX3_make 37 = .ok (.iadd, 1) := by decide +kernel
theorem dX3_make_38 : decode cX3_make 38 = .ok (.putfield 65, 3) := by decide +kernel
theorem dX3_make_41 : decode cX3_make 41 = .ok (.aload_n 0, 1) := by decide +kernel
theorem dX3_make_42 : decode cX3_make 42 = .ok (.aload 4, 2) := by decide +kernel
theorem dX3_make_44 : decode cX3_make 44 = .ok (.invokevirtual 84, 3) := by decide +kernel
theorem dX3_make_47 : decode cX3_make 47 = .ok (.aload 4, 2) := by decide +kernel
theorem dX3_make_49 : decode cX3_make 49 = .ok (.areturn, 1) := by decide +kernel
theorem dX3_bringUp_0 : decode cX3_bringUp 0 = .ok (.aload_n 1, 1) := by decide +kernel
theorem dX3_bringUp_1 : decode cX3_bringUp 1 = .ok (.aload_n 0, 1) := by decide +kernel
theorem dX3_bringUp_2 : decode cX3_bringUp 2 = .ok (.getfield 38, 3) := by decide +kernel
theorem dX3_bringUp_5 : decode cX3_bringUp 5 = .ok (.putfield 87, 3) := by decide +kernel
theorem dX3_bringUp_8 : decode cX3_bringUp 8 = .ok (.aload_n 1, 1) := by decide +kernel
theorem dX3_bringUp_9 : decode cX3_bringUp 9 = .ok (.aload_n 0, 1) := by decide +kernel
theorem dX3_bringUp_10 : decode cX3_bringUp 10 = .ok (.getfield 15, 3) := by decide +kernel
theorem dX3_bringUp_13 : decode cX3_bringUp 13 = .ok (.getfield 90, 3) := by decide +kernel
theorem dX3_bringUp_16 : decode cX3_bringUp 16 = .ok (.invokevirtual 93, 3) := by decide +kernel
theorem dX3_bringUp_19 : decode cX3_bringUp 19 = .ok (.ifCond .ne 11, 3) := by decide +kernel
theorem dX3_bringUp_22 : decode cX3_bringUp 22 = .ok (.aload_n 0, 1) := by decide +kernel
theorem dX3_bringUp_23 : decode cX3_bringUp 23 = .ok (.aload_n 1, 1) := by decide +kernel
theorem dX3_bringUp_24 : decode cX3_bringUp 24 = .ok (.invokevirtual 97, 3) := by decide +kernel
theorem dX3_bringUp_27 : decode cX3_bringUp 27 = .ok (.ifCond .eq 18, 3) := by decide +kernel
theorem dX3_bringUp_30 : decode cX3_bringUp 30 = .ok (.aload_n 0, 1) := by decide +kernel
theorem dX3_bringUp_31 : decode cX3_bringUp 31 = .ok (.dup, 1) := by decide +kernel
theorem dX3_bringUp_32 : decode cX3_bringUp 32 = .ok (.getfield 68, 3) := by decide +kernel
theorem dX3_bringUp_35 : decode cX3_bringUp 35 = .ok (.iconst 1, 1) := by decide +kernel
theorem dX3_bringUp_36 : decode cX3_bringUp 36 = .ok (.iadd, 1) := by decide +kernel
theorem dX3_bringUp_37 : decode cX3_bringUp 37 = .ok (.putfield 68, 3) := by decide +kernel
theorem dX3_bringUp_40 : decode cX3_bringUp 40 = .ok (.aload_n 0, 1) := by decide +kernel
theorem dX3_bringUp_41 : decode cX3_bringUp 41 = .ok (.aload_n 1, 1) := by decide +kernel
theorem dX3_bringUp_42 : decode cX3_bringUp 42 = .ok (.invokevirtual 84, 3) := by decide +kernel
theorem dX3_bringUp_45 : decode cX3_bringUp 45 = .ok (.return_, 1) := by decide +kernel
theorem dX3_isAnyPartOtherwise_0 : decode cX3_isAnyPartOtherwise 0 = .ok (.aload_n 1, 1) := by decide +kernel
theorem dX3_isAnyPartOtherwise_1 : decode cX3_isAnyPartOtherwise 1 = .ok (.getfield 101, 3) := by decide +kernel
theorem dX3_isAnyPartOtherwise_4 : decode cX3_isAnyPartOtherwise 4 = .ok (.bipush 6, 2) := by decide +kernel
theorem dX3_isAnyPartOtherwise_6 : decode cX3_isAnyPartOtherwise 6 = .ok (.if_icmp .lt 5, 3) := by decide +kernel
theorem dX3_isAnyPartOtherwise_9 : decode cX3_isAnyPartOtherwise 9 = .ok (.iconst 0, 1) := by decide +kernel
theorem dX3_isAnyPartOtherwise_10 : decode cX3_isAnyPartOtherwise 10 = .ok (.ireturn, 1) := by decide +kernel
theorem dX3_isAnyPartOtherwise_11 : decode cX3_isAnyPartOtherwise 11 = .ok (.aload_n 1, 1) := by decide +kernel
theorem dX3_isAnyPartOtherwise_12 : decode cX3_isAnyPartOtherwise 12 = .ok (.getfield 104, 3) := by decide +kernel
theorem dX3_isAnyPartOtherwise_15 : decode cX3_isAnyPartOtherwise 15 = .ok (.astore_n 2, 1) := by decide +kernel
theorem dX3_isAnyPartOtherwise_16 : decode cX3_isAnyPartOtherwise 16 = .ok (.aload_n 2, 1) := by decide +kernel
theorem dX3_isAnyPartOtherwise_17 : decode cX3_isAnyPartOtherwise 17 = .ok (.ifnull 31, 3) := by decide +kernel
theorem dX3_isAnyPartOtherwise_20 : decode cX3_isAnyPartOtherwise 20 = .ok (.aload_n 2, 1) := by decide +kernel
theorem dX3_isAnyPartOtherwise_21 : decode cX3_isAnyPartOtherwise 21 = .ok (.getfield 108, 3) := by decide +kernel
theorem dX3_isAnyPartOtherwise_24 : decode cX3_isAnyPartOtherwise 24 = .ok (.istore_n 3, 1) := by decide +kernel
theorem dX3_isAnyPartOtherwise_25 : decode cX3_isAnyPartOtherwise 25 = .ok (.aload_n 0, 1) := by decide +kernel
theorem dX3_isAnyPartOtherwise_26 : decode cX3_isAnyPartOtherwise 26 = .ok (.aload_n 2, 1) := by decide +kernel
theorem dX3_isAnyPartOtherwise_27 : decode cX3_isAnyPartOtherwise 27 = .ok (.invokevirtual 55, 3) := by decide +kernel
theorem dX3_isAnyPartOtherwise_30 : decode cX3_isAnyPartOtherwise 30 = .ok (.aload_n 2, 1) := by decide +kernel
theorem dX3_isAnyPartOtherwise_31 : decode cX3_isAnyPartOtherwise 31 = .ok (.getfield 108, 3) := by decide +kernel
theorem dX3_isAnyPartOtherwise_34 : decode cX3_isAnyPartOtherwise 34 = .ok (.iload_n 3, 1) := by decide +kernel
theorem dX3_isAnyPartOtherwise_35 : decode cX3_isAnyPartOtherwise 35 = .ok (.if_icmp .eq 5, 3) := by decide +kernel
theorem dX3_isAnyPartOtherwise_38 : decode cX3_isAnyPartOtherwise 38 = .ok (.iconst 1, 1) := by decide +kernel
theorem dX3_isAnyPartOtherwise_39 : decode cX3_isAnyPartOtherwise 39 = .ok (.ireturn, 1) := by decide +kernel
theorem dX3_isAnyPartOtherwise_40 : decode cX3_isAnyPartOtherwise 40 = .ok (.aload_n 2, 1) := by decide +kernel
theorem dX3_isAnyPartOtherwise_41 : decode cX3_isAnyPartOtherwise 41 = .ok (.getfield 111, 3) := by decide +kernel
theorem dX3_isAnyPartOtherwise_44 : decode cX3_isAnyPartOtherwise 44 = .ok (.astore_n 2, 1) := by decide +kernel
theorem dX3_isAnyPartOtherwise_45 : decode cX3_isAnyPartOtherwise 45 = .ok (.goto (-29), 3) := by decide +kernel
theorem dX3_isAnyPartOtherwise_48 : decode cX3_isAnyPartOtherwise 48 = .ok (.iconst 0, 1) := by decide +kernel
theorem dX3_isAnyPartOtherwise_49 : decode cX3_isAnyPartOtherwise 49 = .ok (.ireturn, 1) := by decide +kernel
theorem dX3_goThrough_0 : decode cX3_goThrough 0 = .ok (.aload_n 1, 1) := by decide +kernel
theorem dX3_goThrough_1 : decode cX3_goThrough 1 = .ok (.invokevirtual 114, 3) := by decide +kernel
theorem dX3_goThrough_4 : decode cX3_goThrough 4 = .ok (.aload_n 0, 1) := by decide +kernel
theorem dX3_goThrough_5 : decode cX3_goThrough 5 = .ok (.getfield 23, 3) := by decide +kernel
theorem dX3_goThrough_8 : decode cX3_goThrough 8 = .ok (.aload_n 1, 1) := by decide +kernel
theorem dX3_goThrough_9 : decode cX3_goThrough 9 = .ok (.getfield 117, 3) := by decide +kernel
theorem dX3_goThrough_12 : decode cX3_goThrough 12 = .ok (.invokevirtual 120, 3) := by decide +kernel
theorem dX3_goThrough_15 : decode cX3_goThrough 15 = .ok (.istore_n 2, 1) := by decide +kernel
theorem dX3_goThrough_16 : decode cX3_goThrough 16 = .ok (.iconst 0, 1) := by decide +kernel
theorem dX3_goThrough_17 : decode cX3_goThrough 17 = .ok (.istore_n 3, 1) := by decide +kernel
theorem dX3_goThrough_18 : decode cX3_goThrough 18 = .ok (.iload_n 3, 1) := by decide +kernel
theorem dX3_goThrough_19 : decode cX3_goThrough 19 = .ok (.sipush 320, 3) := by decide +kernel
theorem dX3_goThrough_22 : decode cX3_goThrough 22 = .ok (.if_icmp .ge 38, 3) := by decide +kernel
theorem dX3_goThrough_25 : decode cX3_goThrough 25 = .ok (.aload_n 0, 1) := by decide +kernel
theorem dX3_goThrough_26 : decode cX3_goThrough 26 = .ok (.getfield 23, 3) := by decide +kernel
theorem dX3_goThrough_29 : decode cX3_goThrough 29 = .ok (.iload_n 2, 1) := by decide +kernel
theorem dX3_goThrough_30 : decode cX3_goThrough 30 = .ok (.invokevirtual 126, 3) := by decide +kernel
theorem dX3_goThrough_33 : decode cX3_goThrough 33 = .ok (.istore 4, 2) := by decide +kernel
theorem dX3_goThrough_35 : decode cX3_goThrough 35 = .ok (.iload 4, 2) := by decide +kernel
theorem dX3_goThrough_37 : decode cX3_goThrough 37 = .ok (.bipush 11, 2) := by decide +kernel
theorem dX3_goThrough_39 : decode cX3_goThrough 39 = .ok (.if_icmp .ne 6, 3) := by decide +kernel
theorem dX3_goThrough_42 : decode cX3_goThrough 42 = .ok (.goto 18, 3) := by decide +kernel
theorem dX3_goThrough_45 : decode cX3_goThrough 45 = .ok (.aload_n 0, 1) := by decide +kernel
theorem dX3_goThrough_46 : decode cX3_goThrough 46 = .ok (.aload_n 1, 1) := by decide +kernel
theorem dX3_goThrough_47 : decode cX3_goThrough 47 = .ok (.iload 4, 2) := by decide +kernel
theorem dX3_goThrough_49 : decode cX3_goThrough 49 = .ok (.iload_n 2, 1) := by decide +kernel
theorem dX3_goThrough_50 : decode cX3_goThrough 50 = .ok (.invokevirtual 129, 3) := by decide +kernel
theorem dX3_goThrough_53 : decode cX3_goThrough 53 = .ok (.istore_n 2, 1) := by decide +kernel
theorem dX3_goThrough_54 : decode cX3_goThrough 54 = .ok (.iinc 3 1, 3) := by decide +kernel
theorem dX3_goThrough_57 : decode cX3_goThrough 57 = .ok (.goto (-39), 3) := by decide +kernel
theorem dX3_goThrough_60 : decode cX3_goThrough 60 = .ok (.aload_n 1, 1) := by decide +kernel
theorem dX3_goThrough_61 : decode cX3_goThrough 61 = .ok (.aload_n 0, 1) := by decide +kernel
theorem dX3_goThrough_62 : decode cX3_goThrough 62 = .ok (.invokevirtual 133, 3) := by decide +kernel
theorem dX3_goThrough_65 : decode cX3_goThrough 65 = .ok (.putfield 108, 3) := by decide +kernel
theorem dX3_goThrough_68 : decode cX3_goThrough 68 = .ok (.aload_n 0, 1) := by decide +kernel
theorem dX3_goThrough_69 : decode cX3_goThrough 69 = .ok (.aload_n 1, 1) := by decide +kernel
theorem dX3_goThrough_70 : decode cX3_goThrough 70 = .ok (.getfield 137, 3) := by decide +kernel
theorem dX3_goThrough_73 : decode cX3_goThrough 73 = .ok (.aconst_null, 1) := by decide +kernel
theorem dX3_goThrough_74 : decode cX3_goThrough 74 = .ok (.invokevirtual 140, 3) := by decide +kernel
theorem dX3_goThrough_77 : decode cX3_goThrough 77 = .ok (.aload_n 1, 1) := by decide +kernel
theorem dX3_goThrough_78 : decode cX3_goThrough 78 = .ok (.aconst_null, 1) := by decide +kernel
theorem dX3_goThrough_79 : decode cX3_goThrough 79 = .ok (.putfield 137, 3) := by decide +kernel
theorem dX3_goThrough_82 : decode cX3_goThrough 82 = .ok (.return_, 1) := by decide +kernel
theorem dX3_takeStep_0 : decode cX3_takeStep 0 = .ok (.aload_n 0, 1) := by decide +kernel
theorem dX3_takeStep_1 : decode cX3_takeStep 1 = .ok (.getfield 23, 3) := by decide +kernel
theorem dX3_takeStep_4 : decode cX3_takeStep 4 = .ok (.iload_n 3, 1) := by decide +kernel
theorem dX3_takeStep_5 : decode cX3_takeStep 5 = .ok (.invokevirtual 144, 3) := by decide +kernel
theorem dX3_takeStep_8 : decode cX3_takeStep 8 = .ok (.istore 4, 2) := by decide +kernel
theorem dX3_takeStep_10 : decode cX3_takeStep 10 = .ok (.iload_n 2, 1) := by decide +kernel
theorem dX3_takeStep_11 : decode cX3_takeStep 11 = .ok (.tableswitch 130 0 10 #[57, 66, 77, 93, 130, 130, 130, 130, 130, 114, 111], 57) := by decide +kernel
theorem dX3_takeStep_68 : decode cX3_takeStep 68 = .ok (.aload_n 0, 1) := by decide +kernel
theorem dX3_takeStep_69 : decode cX3_takeStep 69 = .ok (.iload 4, 2) := by decide +kernel
theorem dX3_takeStep_71 : decode cX3_takeStep 71 = .ok (.invokevirtual 147, 3) := by decide +kernel
theorem dX3_takeStep_74 : decode cX3_takeStep 74 = .ok (.goto 72, 3) := by decide +kernel
theorem dX3_takeStep_77 : decode cX3_takeStep 77 = .ok (.aload_n 0, 1) := by decide +kernel
theorem dX3_takeStep_78 : decode cX3_takeStep 78 = .ok (.aload_n 1, 1) := by decide +kernel
theorem dX3_takeStep_79 : decode cX3_takeStep 79 = .ok (.getfield 151, 3) := by decide +kernel
theorem dX3_takeStep_82 : decode cX3_takeStep 82 = .ok (.invokevirtual 147, 3) := by decide +kernel
theorem dX3_takeStep_85 : decode cX3_takeStep 85 = .ok (.goto 61, 3) := by decide +kernel
theorem dX3_takeStep_88 : decode cX3_takeStep 88 = .ok (.aload_n 0, 1) := by decide +kernel
theorem dX3_takeStep_89 : decode cX3_takeStep 89 = .ok (.aload_n 0, 1) := by decide +kernel
theorem dX3_takeStep_90 : decode cX3_takeStep 90 = .ok (.aload_n 1, 1) := by decide +kernel
theorem dX3_takeStep_91 : decode cX3_takeStep 91 = .ok (.aload_n 0, 1) := by decide +kernel
theorem dX3_takeStep_92 : decode cX3_takeStep 92 = .ok (.invokevirtual 133, 3) := by decide +kernel
theorem dX3_takeStep_95 : decode cX3_takeStep 95 = .ok (.invokevirtual 154, 3) := by decide +kernel
theorem dX3_takeStep_98 : decode cX3_takeStep 98 = .ok (.invokevirtual 147, 3) := by decide +kernel
theorem dX3_takeStep_101 : decode cX3_takeStep 101 = .ok (.goto 45, 3) := by decide +kernel
theorem dX3_takeStep_104 : decode cX3_takeStep 104 = .ok (.aload_n 0, 1) := by decide +kernel
theorem dX3_takeStep_105 : decode cX3_takeStep 105 = .ok (.aload_n 0, 1) := by decide +kernel
theorem dX3_takeStep_106 : decode cX3_takeStep 106 = .ok (.aload_n 1, 1) := by decide +kernel
theorem dX3_takeStep_107 : decode cX3_takeStep 107 = .ok (.iload 4, 2) := by decide +kernel
theorem dX3_takeStep_109 : decode cX3_takeStep 109 = .ok (.aload_n 0, 1) := by decide +kernel
theorem dX3_takeStep_110 : decode cX3_takeStep 110 = .ok (.invokevirtual 133, 3) := by decide +kernel
theorem dX3_takeStep_113 : decode cX3_takeStep 113 = .ok (.invokevirtual 158, 3) := by decide +kernel
theorem dX3_takeStep_116 : decode cX3_takeStep 116 = .ok (.invokevirtual 147, 3) := by decide +kernel
theorem dX3_takeStep_119 : decode cX3_takeStep 119 = .ok (.goto 27, 3) := by decide +kernel
theorem dX3_takeStep_122 : decode cX3_takeStep 122 = .ok (.iload 4, 2) := by decide +kernel
theorem dX3_takeStep_124 : decode cX3_takeStep 124 = .ok (.ireturn, 1) := by decide +kernel
theorem dX3_takeStep_125 : decode cX3_takeStep 125 = .ok (.aload_n 0, 1) := by decide +kernel
theorem dX3_takeStep_126 : decode cX3_takeStep 126 = .ok (.invokevirtual 133, 3) := by decide +kernel
theorem dX3_takeStep_129 : decode cX3_takeStep 129 = .ok (.ifCond .ne 8, 3) := by decide +kernel
theorem dX3_takeStep_132 : decode cX3_takeStep 132 = .ok (.iload 4, 2) := by decide +kernel
theorem dX3_takeStep_134 : decode cX3_takeStep 134 = .ok (.goto 6, 3) := by decide +kernel
theorem dX3_takeStep_137 : decode cX3_takeStep 137 = .ok (.iload_n 3, 1) := by decide +kernel
theorem dX3_takeStep_138 : decode cX3_takeStep 138 = .ok (.iconst 1, 1) := by decide +kernel
theorem dX3_takeStep_139 : decode cX3_takeStep 139 = .ok (.iadd, 1) := by decide +kernel
theorem dX3_takeStep_140 : decode cX3_takeStep 140 = .ok (.ireturn, 1) := by decide +kernel
theorem dX3_takeStep_141 : decode cX3_takeStep 141 = .ok (.aload_n 0, 1) := by decide +kernel
theorem dX3_takeStep_142 : decode cX3_takeStep 142 = .ok (.iload_n 2, 1) := by decide +kernel
theorem dX3_takeStep_143 : decode cX3_takeStep 143 = .ok (.invokevirtual 161, 3) := by decide +kernel
theorem dX3_takeStep_146 : decode cX3_takeStep 146 = .ok (.iload_n 3, 1) := by decide +kernel
theorem dX3_takeStep_147 : decode cX3_takeStep 147 = .ok (.iconst 1, 1) := by decide +kernel
theorem dX3_takeStep_148 : decode cX3_takeStep 148 = .ok (.iadd, 1) := by decide +kernel
theorem dX3_takeStep_149 : decode cX3_takeStep 149 = .ok (.ireturn, 1) := by decide +kernel
theorem dX3_joinTwo_0 : decode cX3_joinTwo 0 = .ok (.aload_n 0, 1) := by decide +kernel
theorem dX3_joinTwo_1 : decode cX3_joinTwo 1 = .ok (.invokevirtual 133, 3) := by decide +kernel
theorem dX3_joinTwo_4 : decode cX3_joinTwo 4 = .ok (.istore_n 2, 1) := by decide +kernel
theorem dX3_joinTwo_5 : decode cX3_joinTwo 5 = .ok (.aload_n 0, 1) := by decide +kernel
theorem dX3_joinTwo_6 : decode cX3_joinTwo 6 = .ok (.invokevirtual 133, 3) := by decide +kernel
theorem dX3_joinTwo_9 : decode cX3_joinTwo 9 = .ok (.istore_n 3, 1) := by decide +kernel
theorem dX3_joinTwo_10 : decode cX3_joinTwo 10 = .ok (.iload_n 1, 1) := by decide +kernel
theorem dX3_joinTwo_11 : decode cX3_joinTwo 11 = .ok (.tableswitch 71 4 6 #[25, 39, 57], 25) := by decide +kernel
theorem dX3_joinTwo_36 : decode cX3_joinTwo 36 = .ok (.aload_n 0, 1) := by decide +kernel
theorem dX3_joinTwo_37 : decode cX3_joinTwo 37 = .ok (.iload_n 3, 1) := by decide +kernel
theorem dX3_joinTwo_38 : decode cX3_joinTwo 38 = .ok (.iload_n 2, 1) := by decide +kernel
theorem dX3_joinTwo_39 : decode cX3_joinTwo 39 = .ok (.iadd, 1) := by decide +kernel
theorem dX3_joinTwo_40 : decode cX3_joinTwo 40 = .ok (.sipush 997, 3) := by decide +kernel
theorem dX3_joinTwo_43 : decode cX3_joinTwo 43 = .ok (.irem, 1) := by decide +kernel
theorem dX3_joinTwo_44 : decode cX3_joinTwo 44 = .ok (.invokevirtual 147, 3) := by decide +kernel
theorem dX3_joinTwo_47 : decode cX3_joinTwo 47 = .ok (.goto 49, 3) := by decide +kernel
theorem dX3_joinTwo_50 : decode cX3_joinTwo 50 = .ok (.aload_n 0, 1) := by decide +kernel
theorem dX3_joinTwo_51 : decode cX3_joinTwo 51 = .ok (.iload_n 3, 1) := by decide +kernel
theorem dX3_joinTwo_52 : decode cX3_joinTwo 52 = .ok (.iload_n 2, 1) := by decide +kernel
theorem dX3_joinTwo_53 : decode cX3_joinTwo 53 = .ok (.isub, 1) := by decide +kernel
theorem dX3_joinTwo_54 : decode cX3_joinTwo 54 = .ok (.sipush 997, 3) := by decide +kernel
theorem dX3_joinTwo_57 : decode cX3_joinTwo 57 = .ok (.iadd, 1) := by decide +kernel
theorem dX3_joinTwo_58 : decode cX3_joinTwo 58 = .ok (.sipush 997, 3) := by decide +kernel
theorem dX3_joinTwo_61 : decode cX3_joinTwo 61 = .ok (.irem, 1) := by decide +kernel
theorem dX3_joinTwo_62 : decode cX3_joinTwo 62 = .ok (.invokevirtual 147, 3) := by decide +kernel
theorem dX3_joinTwo_65 : decode cX3_joinTwo 65 = .ok (.goto 31, 3) := by decide +kernel
theorem dX3_joinTwo_68 : decode cX3_joinTwo 68 = .ok (.aload_n 0, 1) := by decide +kernel
theorem dX3_joinTwo_69 : decode cX3_joinTwo 69 = .ok (.iload_n 3, 1) := by decide +kernel
theorem dX3_joinTwo_70 : decode cX3_joinTwo 70 = .ok (.iload_n 2, 1) := by decide +kernel
theorem dX3_joinTwo_71 : decode cX3_joinTwo 71 = .ok (.imul, 1) := by decide +kernel
theorem dX3_joinTwo_72 : decode cX3_joinTwo 72 = .ok (.sipush 997, 3) := by decide +kernel
theorem dX3_joinTwo_75 : decode cX3_joinTwo 75 = .ok (.irem, 1) := by decide +kernel
theorem dX3_joinTwo_76 : decode cX3_joinTwo 76 = .ok (.invokevirtual 147, 3) := by decide +kernel
theorem dX3_joinTwo_79 : decode cX3_joinTwo 79 = .ok (.goto 17, 3) := by decide +kernel
theorem dX3_joinTwo_82 : decode cX3_joinTwo 82 = .ok (.aload_n 0, 1) := by decide +kernel
theorem dX3_joinTwo_83 : decode cX3_joinTwo 83 = .ok (.iload_n 3, 1) := by decide +kernel
theorem dX3_joinTwo_84 : decode cX3_joinTwo 84 = .ok (.iload_n 2, 1) := by decide +kernel
theorem dX3_joinTwo_85 : decode cX3_joinTwo 85 = .ok (.if_icmp .ge 7, 3) := by decide +kernel
theorem dX3_joinTwo_88 : decode cX3_joinTwo 88 = .ok (.iconst 1, 1) := by decide +kernel
theorem dX3_joinTwo_89 : decode cX3_joinTwo 89 = .ok (.goto 4, 3) := by decide +kernel
theorem dX3_joinTwo_92 : decode cX3_joinTwo 92 = .ok (.iconst 0, 1) := by decide +kernel
theorem dX3_joinTwo_93 : decode cX3_joinTwo 93 = .ok (.invokevirtual 147, 3) := by decide +kernel
theorem dX3_joinTwo_96 : decode cX3_joinTwo 96 = .ok (.return_, 1) := by decide +kernel
theorem dX3_readCell_0 : decode cX3_readCell 0 = .ok (.iload_n 2, 1) := by decide +kernel
theorem dX3_readCell_1 : decode cX3_readCell 1 = .ok (.bipush 8, 2) := by decide +kernel
theorem dX3_readCell_3 : decode cX3_readCell 3 = .ok (.invokestatic 164, 3) := by decide +kernel
theorem dX3_readCell_6 : decode cX3_readCell 6 = .ok (.istore_n 3, 1) := by decide +kernel
theorem dX3_readCell_7 : decode cX3_readCell 7 = .ok (.aload_n 1, 1) := by decide +kernel
theorem dX3_readCell_8 : decode cX3_readCell 8 = .ok (.iload_n 3, 1) := by decide +kernel
theorem dX3_readCell_9 : decode cX3_readCell 9 = .ok (.aload_n 0, 1) := by decide +kernel
theorem dX3_readCell_10 : decode cX3_readCell 10 = .ok (.getfield 15, 3) := by decide +kernel
theorem dX3_readCell_13 : decode cX3_readCell 13 = .ok (.getfield 90, 3) := by decide +kernel
theorem dX3_readCell_16 : decode cX3_readCell 16 = .ok (.iload_n 3, 1) := by decide +kernel
theorem dX3_readCell_17 : decode cX3_readCell 17 = .ok (.iaload, 1) := by decide +kernel
theorem dX3_readCell_18 : decode cX3_readCell 18 = .ok (.invokevirtual 170, 3) := by decide +kernel
theorem dX3_readCell_21 : decode cX3_readCell 21 = .ok (.aload_n 0, 1) := by decide +kernel
theorem dX3_readCell_22 : decode cX3_readCell 22 = .ok (.getfield 15, 3) := by decide +kernel
theorem dX3_readCell_25 : decode cX3_readCell 25 = .ok (.getfield 90, 3) := by decide +kernel
theorem dX3_readCell_28 : decode cX3_readCell 28 = .ok (.iload_n 3, 1) := by decide +kernel
theorem dX3_readCell_29 : decode cX3_readCell 29 = .ok (.iaload, 1) := by decide +kernel
theorem dX3_readCell_30 : decode cX3_readCell 30 = .ok (.ireturn, 1) := by decide +kernel
theorem dX3_whatPartTells_0 : decode cX3_whatPartTells 0 = .ok (.aload_n 0, 1) := by decide +kernel
theorem dX3_whatPartTells_1 : decode cX3_whatPartTells 1 = .ok (.getfield 23, 3) := by decide +kernel
theorem dX3_whatPartTells_4 : decode cX3_whatPartTells 4 = .ok (.iload_n 2, 1) := by decide +kernel
theorem dX3_whatPartTells_5 : decode cX3_whatPartTells 5 = .ok (.invokevirtual 174, 3) := by decide +kernel
theorem dX3_whatPartTells_8 : decode cX3_whatPartTells 8 = .ok (.ifCond .eq 12, 3) := by decide +kernel
theorem dX3_whatPartTells_11 : decode cX3_whatPartTells 11 = .ok (.aload_n 1, 1) := by decide +kernel
theorem dX3_whatPartTells_12 : decode cX3_whatPartTells 12 = .ok (.getfield 101, 3) := by decide +kernel
theorem dX3_whatPartTells_15 : decode cX3_whatPartTells 15 = .ok (.bipush 6, 2) := by decide +kernel
theorem dX3_whatPartTells_17 : decode cX3_whatPartTells 17 = .ok (.if_icmp .lt 5, 3) := by decide +kernel
theorem dX3_whatPartTells_20 : decode cX3_whatPartTells 20 = .ok (.iconst 0, 1) := by decide +kernel
theorem dX3_whatPartTells_21 : decode cX3_whatPartTells 21 = .ok (.ireturn, 1) := by decide +kernel
theorem dX3_whatPartTells_22 : decode cX3_whatPartTells 22 = .ok (.aload_n 1, 1) := by decide +kernel
theorem dX3_whatPartTells_23 : decode cX3_whatPartTells 23 = .ok (.iload_n 2, 1) := by decide +kernel
theorem dX3_whatPartTells_24 : decode cX3_whatPartTells 24 = .ok (.iload_n 3, 1) := by decide +kernel
theorem dX3_whatPartTells_25 : decode cX3_whatPartTells 25 = .ok (.invokevirtual 178, 3) := by decide +kernel
theorem dX3_whatPartTells_28 : decode cX3_whatPartTells 28 = .ok (.astore 4, 2) := by decide +kernel
theorem dX3_whatPartTells_30 : decode cX3_whatPartTells 30 = .ok (.aload 4, 2) := by decide +kernel
theorem dX3_whatPartTells_32 : decode cX3_whatPartTells 32 = .ok (.ifnonnull 20, 3) := by decide +kernel
theorem dX3_whatPartTells_35 : decode cX3_whatPartTells 35 = .ok (.aload_n 0, 1) := by decide +kernel
theorem dX3_whatPartTells_36 : decode cX3_whatPartTells 36 = .ok (.iload_n 2, 1) := by decide +kernel
theorem dX3_whatPartTells_37 : decode cX3_whatPartTells 37 = .ok (.iload_n 3, 1) := by decide +kernel
theorem dX3_whatPartTells_38 : decode cX3_whatPartTells 38 = .ok (.aload_n 1, 1) := by decide +kernel
theorem dX3_whatPartTells_39 : decode cX3_whatPartTells 39 = .ok (.getfield 101, 3) := by decide +kernel
theorem dX3_whatPartTells_42 : decode cX3_whatPartTells 42 = .ok (.iconst 1, 1) := by decide +kernel
theorem dX3_whatPartTells_43 : decode cX3_whatPartTells 43 = .ok (.iadd, 1) := by decide +kernel
theorem dX3_whatPartTells_44 : decode cX3_whatPartTells 44 = .ok (.invokevirtual 31, 3) := by decide +kernel
theorem dX3_whatPartTells_47 : decode cX3_whatPartTells 47 = .ok (.astore 4, 2) := by decide +kernel
theorem dX3_whatPartTells_49 : decode cX3_whatPartTells 49 = .ok (.goto 10, 3) := by decide +kernel
theorem dX3_whatPartTells_52 : decode cX3_whatPartTells 52 = .ok (.aload_n 0, 1) := by decide +kernel
theorem dX3_whatPartTells_53 : decode cX3_whatPartTells 53 = .ok (.aload_n 1, 1) := by decide +kernel
theorem dX3_whatPartTells_54 : decode cX3_whatPartTells 54 = .ok (.aload 4, 2) := by decide +kernel
theorem dX3_whatPartTells_56 : decode cX3_whatPartTells 56 = .ok (.invokevirtual 182, 3) := by decide +kernel
theorem dX3_whatPartTells_59 : decode cX3_whatPartTells 59 = .ok (.aload_n 1, 1) := by decide +kernel
theorem dX3_whatPartTells_60 : decode cX3_whatPartTells 60 = .ok (.aload 4, 2) := by decide +kernel
theorem dX3_whatPartTells_62 : decode cX3_whatPartTells 62 = .ok (.invokevirtual 185, 3) := by decide +kernel
theorem dX3_whatPartTells_65 : decode cX3_whatPartTells 65 = .ok (.aload 4, 2) := by decide +kernel
theorem dX3_whatPartTells_67 : decode cX3_whatPartTells 67 = .ok (.getfield 108, 3) := by decide +kernel
theorem dX3_whatPartTells_70 : decode cX3_whatPartTells 70 = .ok (.ireturn, 1) := by decide +kernel
theorem dX3_takeUp_0 : decode cX3_takeUp 0 = .ok (.aload_n 0, 1) := by decide +kernel
theorem dX3_takeUp_1 : decode cX3_takeUp 1 = .ok (.aload_n 1, 1) := by decide +kernel
theorem dX3_takeUp_2 : decode cX3_takeUp 2 = .ok (.getfield 137, 3) := by decide +kernel
theorem dX3_takeUp_5 : decode cX3_takeUp 5 = .ok (.aload_n 2, 1) := by decide +kernel
theorem dX3_takeUp_6 : decode cX3_takeUp 6 = .ok (.invokevirtual 140, 3) := by decide +kernel
theorem dX3_takeUp_9 : decode cX3_takeUp 9 = .ok (.aload_n 1, 1) := by decide +kernel
theorem dX3_takeUp_10 : decode cX3_takeUp 10 = .ok (.aload_n 2, 1) := by decide +kernel
theorem dX3_takeUp_11 : decode cX3_takeUp 11 = .ok (.getfield 111, 3) := by decide +kernel
theorem dX3_takeUp_14 : decode cX3_takeUp 14 = .ok (.putfield 137, 3) := by decide +kernel
theorem dX3_takeUp_17 : decode cX3_takeUp 17 = .ok (.aload_n 2, 1) := by decide +kernel
theorem dX3_takeUp_18 : decode cX3_takeUp 18 = .ok (.getfield 87, 3) := by decide +kernel
theorem dX3_takeUp_21 : decode cX3_takeUp 21 = .ok (.aload_n 0, 1) := by decide +kernel
theorem dX3_takeUp_22 : decode cX3_takeUp 22 = .ok (.getfield 38, 3) := by decide +kernel
theorem dX3_takeUp_25 : decode cX3_takeUp 25 = .ok (.if_icmp .eq 8, 3) := by decide +kernel
theorem dX3_takeUp_28 : decode cX3_takeUp 28 = .ok (.aload_n 0, 1) := by decide +kernel
theorem dX3_takeUp_29 : decode cX3_takeUp 29 = .ok (.aload_n 2, 1) := by decide +kernel
theorem dX3_takeUp_30 : decode cX3_takeUp 30 = .ok (.invokevirtual 55, 3) := by decide +kernel
theorem dX3_takeUp_33 : decode cX3_takeUp 33 = .ok (.return_, 1) := by decide +kernel
theorem dX3_letGoChain_0 : decode cX3_letGoChain 0 = .ok (.aload_n 1, 1) := by decide +kernel
theorem dX3_letGoChain_1 : decode cX3_letGoChain 1 = .ok (.astore_n 3, 1) := by decide +kernel
theorem dX3_letGoChain_2 : decode cX3_letGoChain 2 = .ok (.aload_n 3, 1) := by decide +kernel
theorem dX3_letGoChain_3 : decode cX3_letGoChain 3 = .ok (.ifnull 25, 3) := by decide +kernel
theorem dX3_letGoChain_6 : decode cX3_letGoChain 6 = .ok (.aload_n 3, 1) := by decide +kernel
theorem dX3_letGoChain_7 : decode cX3_letGoChain 7 = .ok (.aload_n 2, 1) := by decide +kernel
theorem dX3_letGoChain_8 : decode cX3_letGoChain 8 = .ok (.if_acmp .eq 20, 3) := by decide +kernel
theorem dX3_letGoChain_11 : decode cX3_letGoChain 11 = .ok (.aload_n 3, 1) := by decide +kernel
theorem dX3_letGoChain_12 : decode cX3_letGoChain 12 = .ok (.getfield 111, 3) := by decide +kernel
theorem dX3_letGoChain_15 : decode cX3_letGoChain 15 = .ok (.astore 4, 2) := by decide +kernel
theorem dX3_letGoChain_17 : decode cX3_letGoChain 17 = .ok (.aload_n 0, 1) := by decide +kernel
theorem dX3_letGoChain_18 : decode cX3_letGoChain 18 = .ok (.aload_n 3, 1) := by decide +kernel
theorem dX3_letGoChain_19 : decode cX3_letGoChain 19 = .ok (.invokevirtual 62, 3) := by decide +kernel
theorem dX3_letGoChain_22 : decode cX3_letGoChain 22 = .ok (.aload 4, 2) := by decide +kernel
theorem dX3_letGoChain_24 : decode cX3_letGoChain 24 = .ok (.astore_n 3, 1) := by decide +kernel
theorem dX3_letGoChain_25 : decode cX3_letGoChain 25 = .ok (.goto (-23), 3) := by decide +kernel
theorem dX3_letGoChain_28 : decode cX3_letGoChain 28 = .ok (.return_, 1) := by decide +kernel
theorem dX3_letGo_0 : decode cX3_letGo 0 = .ok (.aload_n 1, 1) := by decide +kernel
theorem dX3_letGo_1 : decode cX3_letGo 1 = .ok (.getfield 101, 3) := by decide +kernel
theorem dX3_letGo_4 : decode cX3_letGo 4 = .ok (.bipush 6, 2) := by decide +kernel
theorem dX3_letGo_6 : decode cX3_letGo 6 = .ok (.if_icmp .ge 12, 3) := by decide +kernel
theorem dX3_letGo_9 : decode cX3_letGo 9 = .ok (.aload_n 0, 1) := by decide +kernel
theorem dX3_letGo_10 : decode cX3_letGo 10 = .ok (.aload_n 1, 1) := by decide +kernel
theorem dX3_letGo_11 : decode cX3_letGo 11 = .ok (.getfield 104, 3) := by decide +kernel
theorem dX3_letGo_14 : decode cX3_letGo 14 = .ok (.aconst_null, 1) := by decide +kernel
theorem dX3_letGo_15 : decode cX3_letGo 15 = .ok (.invokevirtual 140, 3) := by decide +kernel
theorem dX3_letGo_18 : decode cX3_letGo 18 = .ok (.aload_n 0, 1) := by decide +kernel
theorem dX3_letGo_19 : decode cX3_letGo 19 = .ok (.dup, 1) := by decide +kernel
theorem dX3_letGo_20 : decode cX3_letGo 20 = .ok (.getfield 71, 3) := by decide +kernel
theorem dX3_letGo_23 : decode cX3_letGo 23 = .ok (.iconst 1, 1) := by decide +kernel
theorem dX3_letGo_24 : decode cX3_letGo 24 = .ok (.iadd, 1) := by decide +kernel
theorem dX3_letGo_25 : decode cX3_letGo 25 = .ok (.putfield 71, 3) := by decide +kernel
theorem dX3_letGo_28 : decode cX3_letGo 28 = .ok (.aload_n 0, 1) := by decide +kernel
theorem dX3_letGo_29 : decode cX3_letGo 29 = .ok (.getfield 19, 3) := by decide +kernel
theorem dX3_letGo_32 : decode cX3_letGo 32 = .ok (.aload_n 1, 1) := by decide +kernel
theorem dX3_letGo_33 : decode cX3_letGo 33 = .ok (.invokevirtual 188, 3) := by decide +kernel
theorem dX3_letGo_36 : decode cX3_letGo 36 = .ok (.return_, 1) := by decide +kernel
theorem dX3_push_0 : decode cX3_push 0 = .ok (.aload_n 0, 1) := by decide +kernel
theorem dX3_push_1 : decode cX3_push 1 = .ok (.getfield 191, 3) := by decide +kernel
theorem dX3_push_4 : decode cX3_push 4 = .ok (.aload_n 0, 1) := by decide +kernel
theorem dX3_push_5 : decode cX3_push 5 = .ok (.getfield 9, 3) := by decide +kernel
theorem dX3_push_8 : decode cX3_push 8 = .ok (.arraylength, 1) := by decide +kernel
theorem dX3_push_9 : decode cX3_push 9 = .ok (.if_icmp .ge 23, 3) := by decide +kernel
theorem dX3_push_12 : decode cX3_push 12 = .ok (.aload_n 0, 1) := by decide +kernel
theorem dX3_push_13 : decode cX3_push 13 = .ok (.getfield 9, 3) := by decide +kernel
theorem dX3_push_16 : decode cX3_push 16 = .ok (.aload_n 0, 1) := by decide +kernel
theorem dX3_push_17 : decode cX3_push 17 = .ok (.getfield 191, 3) := by decide +kernel
theorem dX3_push_20 : decode cX3_push 20 = .ok (.iload_n 1, 1) := by decide +kernel
theorem dX3_push_21 : decode cX3_push 21 = .ok (.iastore, 1) := by decide +kernel
theorem dX3_push_22 : decode cX3_push 22 = .ok (.aload_n 0, 1) := by decide +kernel
theorem dX3_push_23 : decode cX3_push 23 = .ok (.dup, 1) := by decide +kernel
theorem dX3_push_24 : decode cX3_push 24 = .ok (.getfield 191, 3) := by decide +kernel
theorem dX3_push_27 : decode cX3_push 27 = .ok (.iconst 1, 1) := by decide +kernel
theorem dX3_push_28 : decode cX3_push 28 = .ok (.iadd, 1) := by decide +kernel
theorem dX3_push_29 : decode cX3_push 29 = .ok (.putfield 191, 3) := by decide +kernel
theorem dX3_push_32 : decode cX3_push 32 = .ok (.return_, 1) := by decide +kernel
theorem dX3_pop_0 : decode cX3_pop 0 = .ok (.aload_n 0, 1) := by decide +kernel
theorem dX3_pop_1 : decode cX3_pop 1 = .ok (.getfield 191, 3) := by decide +kernel
theorem dX3_pop_4 : decode cX3_pop 4 = .ok (.ifCond .ne 5, 3) := by decide +kernel
theorem dX3_pop_7 : decode cX3_pop 7 = .ok (.iconst 0, 1) := by decide +kernel
theorem dX3_pop_8 : decode cX3_pop 8 = .ok (.ireturn, 1) := by decide +kernel
theorem dX3_pop_9 : decode cX3_pop 9 = .ok (.aload_n 0, 1) := by decide +kernel
theorem dX3_pop_10 : decode cX3_pop 10 = .ok (.dup, 1) := by decide +kernel
theorem dX3_pop_11 : decode cX3_pop 11 = .ok (.getfield 191, 3) := by decide +kernel
theorem dX3_pop_14 : decode cX3_pop 14 = .ok (.iconst 1, 1) := by decide +kernel
theorem dX3_pop_15 : decode cX3_pop 15 = .ok (.isub, 1) := by decide +kernel
theorem dX3_pop_16 : decode cX3_pop 16 = .ok (.putfield 191, 3) := by decide +kernel
theorem dX3_pop_19 : decode cX3_pop 19 = .ok (.aload_n 0, 1) := by decide +kernel
theorem dX3_pop_20 : decode cX3_pop 20 = .ok (.getfield 9, 3) := by decide +kernel
theorem dX3_pop_23 : decode cX3_pop 23 = .ok (.aload_n 0, 1) := by decide +kernel
theorem dX3_pop_24 : decode cX3_pop 24 = .ok (.getfield 191, 3) := by decide +kernel
theorem dX3_pop_27 : decode cX3_pop 27 = .ok (.iaload, 1) := by decide +kernel
theorem dX3_pop_28 : decode cX3_pop 28 = .ok (.ireturn, 1) := by decide +kernel
theorem dX4_init_0 : decode cX4_init 0 = .ok (.aload_n 0, 1) := by decide +kernel
theorem dX4_init_1 : decode cX4_init 1 = .ok (.invokespecial 1, 3) := by decide +kernel
theorem dX4_init_4 : decode cX4_init 4 = .ok (.return_, 1) := by decide +kernel
theorem dX4_take_0 : decode cX4_take 0 = .ok (.aload_n 0, 1) := by decide +kernel
theorem dX4_take_1 : decode cX4_take 1 = .ok (.getfield 7, 3) := by decide +kernel
theorem dX4_take_4 : decode cX4_take 4 = .ok (.astore_n 1, 1) := by decide +kernel
theorem dX4_take_5 : decode cX4_take 5 = .ok (.aload_n 1, 1) := by decide +kernel
theorem dX4_take_6 : decode cX4_take 6 = .ok (.ifnonnull 11, 3) := by decide +kernel
theorem dX4_take_9 : decode cX4_take 9 = .ok (.new 13, 3) := by decide +kernel
theorem dX4_take_12 : decode cX4_take 12 = .ok (.dup, 1) := by decide +kernel
theorem dX4_take_13 : decode cX4_take 13 = .ok (.invokespecial 15, 3) := by decide +kernel
theorem dX4_take_16 : decode cX4_take 16 = .ok (.areturn, 1) := by decide +kernel
theorem dX4_take_17 : decode cX4_take 17 = .ok (.aload_n 0, 1) := by decide +kernel
theorem dX4_take_18 : decode cX4_take 18 = .ok (.aload_n 1, 1) := by decide +kernel
theorem dX4_take_19 : decode cX4_take 19 = .ok (.getfield 16, 3) := by decide +kernel
theorem dX4_take_22 : decode cX4_take 22 = .ok (.putfield 7, 3) := by decide +kernel
theorem dX4_take_25 : decode cX4_take 25 = .ok (.aload_n 1, 1) := by decide +kernel
theorem dX4_take_26 : decode cX4_take 26 = .ok (.aconst_null, 1) := by decide +kernel
theorem dX4_take_27 : decode cX4_take 27 = .ok (.putfield 16, 3) := by decide +kernel
theorem dX4_take_30 : decode cX4_take 30 = .ok (.aload_n 1, 1) := by decide +kernel
theorem dX4_take_31 : decode cX4_take 31 = .ok (.areturn, 1) := by decide +kernel
theorem dX4_giveBack_0 : decode cX4_giveBack 0 = .ok (.aload_n 1, 1) := by decide +kernel
theorem dX4_giveBack_1 : decode cX4_giveBack 1 = .ok (.aconst_null, 1) := by decide +kernel
theorem dX4_giveBack_2 : decode cX4_giveBack 2 = .ok (.putfield 19, 3) := by decide +kernel
theorem dX4_giveBack_5 : decode cX4_giveBack 5 = .ok (.aload_n 1, 1) := by decide +kernel
theorem dX4_giveBack_6 : decode cX4_giveBack 6 = .ok (.aconst_null, 1) := by decide +kernel
theorem dX4_giveBack_7 : decode cX4_giveBack 7 = .ok (.putfield 22, 3) := by decide +kernel
theorem dX4_giveBack_10 : decode cX4_giveBack 10 = .ok (.aload_n 1, 1) := by decide +kernel
theorem dX4_giveBack_11 : decode cX4_giveBack 11 = .ok (.aload_n 0, 1) := by decide +kernel
theorem dX4_giveBack_12 : decode cX4_giveBack 12 = .ok (.getfield 7, 3) := by decide +kernel
theorem dX4_giveBack_15 : decode cX4_giveBack 15 = .ok (.putfield 16, 3) := by decide +kernel
theorem dX4_giveBack_18 : decode cX4_giveBack 18 = .ok (.aload_n 0, 1) := by decide +kernel
theorem dX4_giveBack_19 : decode cX4_giveBack 19 = .ok (.aload_n 1, 1) := by decide +kernel
theorem dX4_giveBack_20 : decode cX4_giveBack 20 = .ok (.putfield 7, 3) := by decide +kernel
theorem dX4_giveBack_23 : decode cX4_giveBack 23 = .ok (.return_, 1) := by decide +kernel
theorem dX5_init_0 : decode cX5_init 0 = .ok (.aload_n 0, 1) := by decide +kernel
theorem dX5_init_1 : decode cX5_init 1 = .ok (.invokespecial 3, 3) := by decide +kernel
theorem dX5_init_4 : decode cX5_init 4 = .ok (.aload_n 0, 1) := by decide +kernel
theorem dX5_init_5 : decode cX5_init 5 = .ok (.sipush 320, 3) := by decide +kernel
theorem dX5_init_8 : decode cX5_init 8 = .ok (.newarray .int, 2) := by decide +kernel
theorem dX5_init_10 : decode cX5_init 10 = .ok (.putfield 9, 3) := by decide +kernel
theorem dX5_init_13 : decode cX5_init 13 = .ok (.aload_n 0, 1) := by decide +kernel
theorem dX5_init_14 : decode cX5_init 14 = .ok (.sipush 320, 3) := by decide +kernel
theorem dX5_init_17 : decode cX5_init 17 = .ok (.newarray .int, 2) := by decide +kernel
theorem dX5_init_19 : decode cX5_init 19 = .ok (.putfield 15, 3) := by decide +kernel
theorem dX5_init_22 : decode cX5_init 22 = .ok (.aload_n 0, 1) := by decide +kernel
theorem dX5_init_23 : decode cX5_init 23 = .ok (.iconst 5, 1) := by decide +kernel
theorem dX5_init_24 : decode cX5_init 24 = .ok (.newarray .int, 2) := by decide +kernel
theorem dX5_init_26 : decode cX5_init 26 = .ok (.putfield 18, 3) := by decide +kernel
theorem dX5_init_29 : decode cX5_init 29 = .ok (.return_, 1) := by decide +kernel
theorem dX5_clear_0 : decode cX5_clear 0 = .ok (.aload_n 0, 1) := by decide +kernel
theorem dX5_clear_1 : decode cX5_clear 1 = .ok (.iconst 0, 1) := by decide +kernel
theorem dX5_clear_2 : decode cX5_clear 2 = .ok (.putfield 21, 3) := by decide +kernel
theorem dX5_clear_5 : decode cX5_clear 5 = .ok (.aload_n 0, 1) := by decide +kernel
theorem dX5_clear_6 : decode cX5_clear 6 = .ok (.iconst 0, 1) := by decide +kernel
theorem dX5_clear_7 : decode cX5_clear 7 = .ok (.putfield 25, 3) := by decide +kernel
theorem dX5_clear_10 : decode cX5_clear 10 = .ok (.return_, 1) := by decide +kernel
theorem dX5_beginFunction_0 : decode cX5_beginFunction 0 = .ok (.aload_n 0, 1) := by decide +kernel
theorem dX5_beginFunction_1 : decode cX5_beginFunction 1 = .ok (.getfield 25, 3) := by decide +kernel
theorem dX5_beginFunction_4 : decode cX5_beginFunction 4 = .ok (.iconst 5, 1) := by decide +kernel
theorem dX5_beginFunction_5 : decode cX5_beginFunction 5 = .ok (.if_icmp .ge 16, 3) := by decide +kernel
theorem dX5_beginFunction_8 : decode cX5_beginFunction 8 = .ok (.aload_n 0, 1) := by decide +kernel
theorem dX5_beginFunction_9 : decode cX5_beginFunction 9 = .ok (.getfield 18, 3) := by decide +kernel
theorem dX5_beginFunction_12 : decode cX5_beginFunction 12 = .ok (.aload_n 0, 1) := by decide +kernel
theorem dX5_beginFunction_13 : decode cX5_beginFunction 13 = .ok (.getfield 25, 3) := by decide +kernel
theorem dX5_beginFunction_16 : decode cX5_beginFunction 16 = .ok (.aload_n 0, 1) := by decide +kernel
theorem dX5_beginFunction_17 : decode cX5_beginFunction 17 = .ok (.getfield 21, 3) := by decide +kernel
theorem dX5_beginFunction_20 : decode cX5_beginFunction 20 = .ok (.iastore, 1) := by decide +kernel
theorem dX5_beginFunction_21 : decode cX5_beginFunction 21 = .ok (.return_, 1) := by decide +kernel
theorem dX5_endFunction_0 : decode cX5_endFunction 0 = .ok (.aload_n 0, 1) := by decide +kernel
theorem dX5_endFunction_1 : decode cX5_endFunction 1 = .ok (.bipush 11, 2) := by decide +kernel
theorem dX5_endFunction_3 : decode cX5_endFunction 3 = .ok (.iconst 0, 1) := by decide +kernel
theorem dX5_endFunction_4 : decode cX5_endFunction 4 = .ok (.invokevirtual 28, 3) := by decide +kernel
theorem dX5_endFunction_7 : decode cX5_endFunction 7 = .ok (.pop, 1) := by decide +kernel
theorem dX5_endFunction_8 : decode cX5_endFunction 8 = .ok (.aload_n 0, 1) := by decide +kernel
theorem dX5_endFunction_9 : decode cX5_endFunction 9 = .ok (.getfield 25, 3) := by decide +kernel
theorem dX5_endFunction_12 : decode cX5_endFunction 12 = .ok (.iconst 5, 1) := by decide +kernel
theorem dX5_endFunction_13 : decode cX5_endFunction 13 = .ok (.if_icmp .ge 13, 3) := by decide +kernel
theorem dX5_endFunction_16 : decode cX5_endFunction 16 = .ok (.aload_n 0, 1) := by decide +kernel
theorem dX5_endFunction_17 : decode cX5_endFunction 17 = .ok (.dup, 1) := by decide +kernel
theorem dX5_endFunction_18 : decode cX5_endFunction 18 = .ok (.getfield 25, 3) := by decide +kernel
theorem dX5_endFunction_21 : decode cX5_endFunction 21 = .ok (.iconst 1, 1) := by decide +kernel
theorem dX5_endFunction_22 : decode cX5_endFunction 22 = .ok (.iadd, 1) := by decide +kernel
theorem dX5_endFunction_23 : decode cX5_endFunction 23 = .ok (.putfield 25, 3) := by decide +kernel
theorem dX5_endFunction_26 : decode cX5_endFunction 26 = .ok (.return_, 1) := by decide +kernel
theorem dX5_addStep_0 : decode cX5_addStep 0 = .ok (.aload_n 0, 1) := by decide +kernel
theorem dX5_addStep_1 : decode cX5_addStep 1 = .ok (.getfield 21, 3) := by decide +kernel
theorem dX5_addStep_4 : decode cX5_addStep 4 = .ok (.sipush 320, 3) := by decide +kernel
theorem dX5_addStep_7 : decode cX5_addStep 7 = .ok (.if_icmp .lt 5, 3) := by decide +kernel
theorem dX5_addStep_10 : decode cX5_addStep 10 = .ok (.iconst (-1), 1) := by decide +kernel
theorem dX5_addStep_11 : decode cX5_addStep 11 = .ok (.ireturn, 1) := by decide +kernel
theorem dX5_addStep_12 : decode cX5_addStep 12 = .ok (.aload_n 0, 1) := by decide +kernel
theorem dX5_addStep_13 : decode cX5_addStep 13 = .ok (.getfield 9, 3) := by decide +kernel
theorem dX5_addStep_16 : decode cX5_addStep 16 = .ok (.aload_n 0, 1) := by decide +kernel
theorem dX5_addStep_17 : decode cX5_addStep 17 = .ok (.getfield 21, 3) := by decide +kernel
theorem dX5_addStep_20 : decode cX5_addStep 20 = .ok (.iload_n 1, 1) := by decide +kernel
theorem dX5_addStep_21 : decode cX5_addStep 21 = .ok (.iastore, 1) := by decide +kernel
theorem dX5_addStep_22 : decode cX5_addStep 22 = .ok (.aload_n 0, 1) := by decide +kernel
theorem dX5_addStep_23 : decode cX5_addStep 23 = .ok (.getfield 15, 3) := by decide +kernel
theorem dX5_addStep_26 : decode cX5_addStep 26 = .ok (.aload_n 0, 1) := by decide +kernel
theorem dX5_addStep_27 : decode cX5_addStep 27 = .ok (.getfield 21, 3) := by decide +kernel
theorem dX5_addStep_30 : decode cX5_addStep 30 = .ok (.iload_n 2, 1) := by decide +kernel
theorem dX5_addStep_31 : decode cX5_addStep 31 = .ok (.iastore, 1) := by decide +kernel
theorem dX5_addStep_32 : decode cX5_addStep 32 = .ok (.aload_n 0, 1) := by decide +kernel
theorem dX5_addStep_33 : decode cX5_addStep 33 = .ok (.dup, 1) := by decide +kernel
theorem dX5_addStep_34 : decode cX5_addStep 34 = .ok (.getfield 21, 3) := by decide +kernel
theorem dX5_addStep_37 : decode cX5_addStep 37 = .ok (.iconst 1, 1) := by decide +kernel
theorem dX5_addStep_38 : decode cX5_addStep 38 = .ok (.iadd, 1) := by decide +kernel
theorem dX5_addStep_39 : decode cX5_addStep 39 = .ok (.putfield 21, 3) := by decide +kernel
theorem dX5_addStep_42 : decode cX5_addStep 42 = .ok (.aload_n 0, 1) := by decide +kernel
theorem dX5_addStep_43 : decode cX5_addStep 43 = .ok (.getfield 21, 3) := by decide +kernel
theorem dX5_addStep_46 : decode cX5_addStep 46 = .ok (.iconst 1, 1) := by decide +kernel
theorem dX5_addStep_47 : decode cX5_addStep 47 = .ok (.isub, 1) := by decide +kernel
theorem dX5_addStep_48 : decode cX5_addStep 48 = .ok (.ireturn, 1) := by decide +kernel
theorem dX5_skipToHere_0 : decode cX5_skipToHere 0 = .ok (.iload_n 1, 1) := by decide +kernel
theorem dX5_skipToHere_1 : decode cX5_skipToHere 1 = .ok (.ifCond .lt 21, 3) := by decide +kernel
theorem dX5_skipToHere_4 : decode cX5_skipToHere 4 = .ok (.iload_n 1, 1) := by decide +kernel
theorem dX5_skipToHere_5 : decode cX5_skipToHere 5 = .ok (.aload_n 0, 1) := by decide +kernel
theorem dX5_skipToHere_6 : decode cX5_skipToHere 6 = .ok (.getfield 21, 3) := by decide +kernel
theorem dX5_skipToHere_9 : decode cX5_skipToHere 9 = .ok (.if_icmp .ge 13, 3) := by decide +kernel
theorem dX5_skipToHere_12 : decode cX5_skipToHere 12 = .ok (.aload_n 0, 1) := by decide +kernel
theorem dX5_skipToHere_13 : decode cX5_skipToHere 13 = .ok (.getfield 15, 3) := by decide +kernel
theorem dX5_skipToHere_16 : decode cX5_skipToHere 16 = .ok (.iload_n 1, 1) := by decide +kernel
theorem dX5_skipToHere_17 : decode cX5_skipToHere 17 = .ok (.aload_n 0, 1) := by decide +kernel
theorem dX5_skipToHere_18 : decode cX5_skipToHere 18 = .ok (.getfield 21, 3) := by decide +kernel
theorem dX5_skipToHere_21 : decode cX5_skipToHere 21 = .ok (.iastore, 1) := by decide +kernel
theorem dX5_skipToHere_22 : decode cX5_skipToHere 22 = .ok (.return_, 1) := by decide +kernel
theorem dX5_tellsOf_0 : decode cX5_tellsOf 0 = .ok (.iload_n 1, 1) := by decide +kernel
theorem dX5_tellsOf_1 : decode cX5_tellsOf 1 = .ok (.ifCond .lt 15, 3) := by decide +kernel
theorem dX5_tellsOf_4 : decode cX5_tellsOf 4 = .ok (.iload_n 1, 1) := by decide +kernel
theorem dX5_tellsOf_5 : decode cX5_tellsOf 5 = .ok (.aload_n 0, 1) := by decide +kernel
theorem dX5_tellsOf_6 : decode cX5_tellsOf 6 = .ok (.getfield 25, 3) := by decide +kernel
theorem dX5_tellsOf_9 : decode cX5_tellsOf 9 = .ok (.if_icmp .ge 7, 3) := by decide +kernel
theorem dX5_tellsOf_12 : decode cX5_tellsOf 12 = .ok (.iconst 1, 1) := by decide +kernel
theorem dX5_tellsOf_13 : decode cX5_tellsOf 13 = .ok (.goto 4, 3) := by decide +kernel
theorem dX5_tellsOf_16 : decode cX5_tellsOf 16 = .ok (.iconst 0, 1) := by decide +kernel
theorem dX5_tellsOf_17 : decode cX5_tellsOf 17 = .ok (.ireturn, 1) := by decide +kernel
theorem dX5_startOf_0 : decode cX5_startOf 0 = .ok (.aload_n 0, 1) := by decide +kernel
theorem dX5_startOf_1 : decode cX5_startOf 1 = .ok (.iload_n 1, 1) := by decide +kernel
theorem dX5_startOf_2 : decode cX5_startOf 2 = .ok (.invokevirtual 32, 3) := by decide +kernel
theorem dX5_startOf_5 : decode cX5_startOf 5 = .ok (.ifCond .eq 12, 3) := by decide +kernel
theorem dX5_startOf_8 : decode cX5_startOf 8 = .ok (.aload_n 0, 1) := by decide +kernel
theorem dX5_startOf_9 : decode cX5_startOf 9 = .ok (.getfield 18, 3) := by decide +kernel
theorem dX5_startOf_12 : decode cX5_startOf 12 = .ok (.iload_n 1, 1) := by decide +kernel
theorem dX5_startOf_13 : decode cX5_startOf 13 = .ok (.iaload, 1) := by decide +kernel
theorem dX5_startOf_14 : decode cX5_startOf 14 = .ok (.goto 4, 3) := by decide +kernel
theorem dX5_startOf_17 : decode cX5_startOf 17 = .ok (.iconst (-1), 1) := by decide +kernel
theorem dX5_startOf_18 : decode cX5_startOf 18 = .ok (.ireturn, 1) := by decide +kernel
theorem dX5_stepAt_0 : decode cX5_stepAt 0 = .ok (.iload_n 1, 1) := by decide +kernel
theorem dX5_stepAt_1 : decode cX5_stepAt 1 = .ok (.ifCond .lt 20, 3) := by decide +kernel
theorem dX5_stepAt_4 : decode cX5_stepAt 4 = .ok (.iload_n 1, 1) := by decide +kernel
theorem dX5_stepAt_5 : decode cX5_stepAt 5 = .ok (.aload_n 0, 1) := by decide +kernel
theorem dX5_stepAt_6 : decode cX5_stepAt 6 = .ok (.getfield 21, 3) := by decide +kernel
theorem dX5_stepAt_9 : decode cX5_stepAt 9 = .ok (.if_icmp .ge 12, 3) := by decide +kernel
theorem dX5_stepAt_12 : decode cX5_stepAt 12 = .ok (.aload_n 0, 1) := by decide +kernel
theorem dX5_stepAt_13 : decode cX5_stepAt 13 = .ok (.getfield 9, 3) := by decide +kernel
theorem dX5_stepAt_16 : decode cX5_stepAt 16 = .ok (.iload_n 1, 1) := by decide +kernel
theorem dX5_stepAt_17 : decode cX5_stepAt 17 = .ok (.iaload, 1) := by decide +kernel
theorem dX5_stepAt_18 : decode cX5_stepAt 18 = .ok (.goto 5, 3) := by decide +kernel
theorem dX5_stepAt_21 : decode cX5_stepAt 21 = .ok (.bipush 11, 2) := by decide +kernel
theorem dX5_stepAt_23 : decode cX5_stepAt 23 = .ok (.ireturn, 1) := by decide +kernel
theorem dX5_valueAt_0 : decode cX5_valueAt 0 = .ok (.iload_n 1, 1) := by decide +kernel
theorem dX5_valueAt_1 : decode cX5_valueAt 1 = .ok (.ifCond .lt 20, 3) := by decide +kernel
theorem dX5_valueAt_4 : decode cX5_valueAt 4 = .ok (.iload_n 1, 1) := by decide +kernel
theorem dX5_valueAt_5 : decode cX5_valueAt 5 = .ok (.aload_n 0, 1) := by decide +kernel
theorem dX5_valueAt_6 : decode cX5_valueAt 6 = .ok (.getfield 21, 3) := by decide +kernel
theorem dX5_valueAt_9 : decode cX5_valueAt 9 = .ok (.if_icmp .ge 12, 3) := by decide +kernel
theorem dX5_valueAt_12 : decode cX5_valueAt 12 = .ok (.aload_n 0, 1) := by decide +kernel
theorem dX5_valueAt_13 : decode cX5_valueAt 13 = .ok (.getfield 15, 3) := by decide +kernel
theorem dX5_valueAt_16 : decode cX5_valueAt 16 = .ok (.iload_n 1, 1) := by decide +kernel
theorem dX5_valueAt_17 : decode cX5_valueAt 17 = .ok (.iaload, 1) := by decide +kernel
theorem dX5_valueAt_18 : decode cX5_valueAt 18 = .ok (.goto 4, 3) := by decide +kernel
theorem dX5_valueAt_21 : decode cX5_valueAt 21 = .ok (.iconst 0, 1) := by decide +kernel
theorem dX5_valueAt_22 : decode cX5_valueAt 22 = .ok (.ireturn, 1) := by decide +kernel
theorem dX6_init_0 : decode cX6_init 0 = .ok (.aload_n 0, 1) := by decide +kernel
theorem dX6_init_1 : decode cX6_init 1 = .ok (.invokespecial 3, 3) := by decide +kernel
theorem dX6_init_4 : decode cX6_init 4 = .ok (.aload_n 0, 1) := by decide +kernel
theorem dX6_init_5 : decode cX6_init 5 = .ok (.sipush 160, 3) := by decide +kernel
theorem dX6_init_8 : decode cX6_init 8 = .ok (.newarray .int, 2) := by decide +kernel
theorem dX6_init_10 : decode cX6_init 10 = .ok (.putfield 9, 3) := by decide +kernel
theorem dX6_init_13 : decode cX6_init 13 = .ok (.aload_n 0, 1) := by decide +kernel
theorem dX6_init_14 : decode cX6_init 14 = .ok (.sipush 160, 3) := by decide +kernel
theorem dX6_init_17 : decode cX6_init 17 = .ok (.newarray .int, 2) := by decide +kernel
theorem dX6_init_19 : decode cX6_init 19 = .ok (.putfield 15, 3) := by decide +kernel
theorem dX6_init_22 : decode cX6_init 22 = .ok (.aload_n 0, 1) := by decide +kernel
theorem dX6_init_23 : decode cX6_init 23 = .ok (.sipush 160, 3) := by decide +kernel
theorem dX6_init_26 : decode cX6_init 26 = .ok (.newarray .int, 2) := by decide +kernel
theorem dX6_init_28 : decode cX6_init 28 = .ok (.putfield 18, 3) := by decide +kernel
theorem dX6_init_31 : decode cX6_init 31 = .ok (.return_, 1) := by decide +kernel
theorem dX6_readInto_0 : decode cX6_readInto 0 = .ok (.aload_n 0, 1) := by decide +kernel
theorem dX6_readInto_1 : decode cX6_readInto 1 = .ok (.aload_n 1, 1) := by decide +kernel
theorem dX6_readInto_2 : decode cX6_readInto 2 = .ok (.putfield 21, 3) := by decide +kernel
theorem dX6_readInto_5 : decode cX6_readInto 5 = .ok (.aload_n 0, 1) := by decide +kernel
theorem dX6_readInto_6 : decode cX6_readInto 6 = .ok (.getfield 21, 3) := by decide +kernel
theorem dX6_readInto_9 : decode cX6_readInto 9 = .ok (.invokevirtual 25, 3) := by decide +kernel
theorem dX6_readInto_12 : decode cX6_readInto 12 = .ok (.aload_n 0, 1) := by decide +kernel
theorem dX6_readInto_13 : decode cX6_readInto 13 = .ok (.iconst 0, 1) := by decide +kernel
theorem dX6_readInto_14 : decode cX6_readInto 14 = .ok (.putfield 30, 3) := by decide +kernel
theorem dX6_readInto_17 : decode cX6_readInto 17 = .ok (.iload_n 3, 1) := by decide +kernel
theorem dX6_readInto_18 : decode cX6_readInto 18 = .ok (.aload_n 2, 1) := by decide +kernel
theorem dX6_readInto_19 : decode cX6_readInto 19 = .ok (.arraylength, 1) := by decide +kernel
theorem dX6_readInto_20 : decode cX6_readInto 20 = .ok (.invokestatic 34, 3) := by decide +kernel
theorem dX6_readInto_23 : decode cX6_readInto 23 = .ok (.istore 4, 2) := by decide +kernel
theorem dX6_readInto_25 : decode cX6_readInto 25 = .ok (.aload_n 0, 1) := by decide +kernel
theorem dX6_readInto_26 : decode cX6_readInto 26 = .ok (.iconst 0, 1) := by decide +kernel
theorem dX6_readInto_27 : decode cX6_readInto 27 = .ok (.putfield 40, 3) := by decide +kernel
theorem dX6_readInto_30 : decode cX6_readInto 30 = .ok (.aload_n 0, 1) := by decide +kernel
theorem dX6_readInto_31 : decode cX6_readInto 31 = .ok (.getfield 40, 3) := by decide +kernel
theorem dX6_readInto_34 : decode cX6_readInto 34 = .ok (.iload 4, 2) := by decide +kernel
theorem dX6_readInto_36 : decode cX6_readInto 36 = .ok (.if_icmp .ge 51, 3) := by decide +kernel
theorem dX6_readInto_39 : decode cX6_readInto 39 = .ok (.aload_n 2, 1) := by decide +kernel
theorem dX6_readInto_40 : decode cX6_readInto 40 = .ok (.aload_n 0, 1) := by decide +kernel
theorem dX6_readInto_41 : decode cX6_readInto 41 = .ok (.getfield 40, 3) := by decide +kernel
theorem dX6_readInto_44 : decode cX6_readInto 44 = .ok (.iaload, 1) := by decide +kernel
theorem dX6_readInto_45 : decode cX6_readInto 45 = .ok (.bipush 32, 2) := by decide +kernel
theorem dX6_readInto_47 : decode cX6_readInto 47 = .ok (.if_icmp .ne 7, 3) := by decide +kernel
theorem dX6_readInto_50 : decode cX6_readInto 50 = .ok (.iconst 0, 1) := by decide +kernel
theorem dX6_readInto_51 : decode cX6_readInto 51 = .ok (.goto 13, 3) := by decide +kernel
theorem dX6_readInto_54 : decode cX6_readInto 54 = .ok (.aload_n 0, 1) := by decide +kernel
theorem dX6_readInto_55 : decode cX6_readInto 55 = .ok (.aload_n 2, 1) := by decide +kernel
theorem dX6_readInto_56 : decode cX6_readInto 56 = .ok (.aload_n 0, 1) := by decide +kernel
theorem dX6_readInto_57 : decode cX6_readInto 57 = .ok (.getfield 40, 3) := by decide +kernel
theorem dX6_readInto_60 : decode cX6_readInto 60 = .ok (.iaload, 1) := by decide +kernel
theorem dX6_readInto_61 : decode cX6_readInto 61 = .ok (.invokevirtual 43, 3) := by decide +kernel
theorem dX6_readInto_64 : decode cX6_readInto 64 = .ok (.istore 5, 2) := by decide +kernel
theorem dX6_readInto_66 : decode cX6_readInto 66 = .ok (.iload 5, 2) := by decide +kernel
theorem dX6_readInto_68 : decode cX6_readInto 68 = .ok (.ifCond .eq 6, 3) := by decide +kernel
theorem dX6_readInto_71 : decode cX6_readInto 71 = .ok (.iload 5, 2) := by decide +kernel
theorem dX6_readInto_73 : decode cX6_readInto 73 = .ok (.ireturn, 1) := by decide +kernel
theorem dX6_readInto_74 : decode cX6_readInto 74 = .ok (.aload_n 0, 1) := by decide +kernel
theorem dX6_readInto_75 : decode cX6_readInto 75 = .ok (.dup, 1) := by decide +kernel
theorem dX6_readInto_76 : decode cX6_readInto 76 = .ok (.getfield 40, 3) := by decide +kernel
theorem dX6_readInto_79 : decode cX6_readInto 79 = .ok (.iconst 1, 1) := by decide +kernel
theorem dX6_readInto_80 : decode cX6_readInto 80 = .ok (.iadd, 1) := by decide +kernel
theorem dX6_readInto_81 : decode cX6_readInto 81 = .ok (.putfield 40, 3) := by decide +kernel
theorem dX6_readInto_84 : decode cX6_readInto 84 = .ok (.goto (-54), 3) := by decide +kernel
theorem dX6_readInto_87 : decode cX6_readInto 87 = .ok (.aload_n 0, 1) := by decide +kernel
theorem dX6_readInto_88 : decode cX6_readInto 88 = .ok (.getfield 30, 3) := by decide +kernel
theorem dX6_readInto_91 : decode cX6_readInto 91 = .ok (.ifCond .ne 17, 3) := by decide +kernel
theorem dX6_readInto_94 : decode cX6_readInto 94 = .ok (.aload_n 0, 1) := by decide +kernel
theorem dX6_readInto_95 : decode cX6_readInto 95 = .ok (.getfield 21, 3) := by decide +kernel
theorem dX6_readInto_98 : decode cX6_readInto 98 = .ok (.getfield 47, 3) := by decide +kernel
theorem dX6_readInto_101 : decode cX6_readInto 101 = .ok (.ifCond .le 7, 3) := by decide +kernel
theorem dX6_readInto_104 : decode cX6_readInto 104 = .ok (.iconst 0, 1) := by decide +kernel
theorem dX6_readInto_105 : decode cX6_readInto 105 = .ok (.goto 4, 3) := by decide +kernel
theorem dX6_readInto_108 : decode cX6_readInto 108 = .ok (.iconst 1, 1) := by decide +kernel
theorem dX6_readInto_109 : decode cX6_readInto 109 = .ok (.ireturn, 1) := by decide +kernel
theorem dX6_readLetter_0 : decode cX6_readLetter 0 = .ok (.aload_n 0, 1) := by decide +kernel
theorem dX6_readLetter_1 : decode cX6_readLetter 1 = .ok (.getfield 30, 3) := by decide +kernel
theorem dX6_readLetter_4 : decode cX6_readLetter 4 = .ok (.tableswitch 46 0 2 #[28, 34, 40], 28) := by decide +kernel
theorem dX6_readLetter_32 : decode cX6_readLetter 32 = .ok (.aload_n 0, 1) := by decide +kernel
theorem dX6_readLetter_33 : decode cX6_readLetter 33 = .ok (.iload_n 1, 1) := by decide +kernel
theorem dX6_readLetter_34 : decode cX6_readLetter 34 = .ok (.invokevirtual 50, 3) := by decide +kernel
theorem dX6_readLetter_37 : decode cX6_readLetter 37 = .ok (.ireturn, 1) := by decide +kernel
theorem dX6_readLetter_38 : decode cX6_readLetter 38 = .ok (.aload_n 0, 1) := by decide +kernel
theorem dX6_readLetter_39 : decode cX6_readLetter 39 = .ok (.iload_n 1, 1) := by decide +kernel
theorem dX6_readLetter_40 : decode cX6_readLetter 40 = .ok (.invokevirtual 53, 3) := by decide +kernel
theorem dX6_readLetter_43 : decode cX6_readLetter 43 = .ok (.ireturn, 1) := by decide +kernel
theorem dX6_readLetter_44 : decode cX6_readLetter 44 = .ok (.aload_n 0, 1) := by decide +kernel
theorem dX6_readLetter_45 : decode cX6_readLetter 45 = .ok (.iload_n 1, 1) := by decide +kernel
theorem dX6_readLetter_46 : decode cX6_readLetter 46 = .ok (.invokevirtual 56, 3) := by decide +kernel
theorem dX6_readLetter_49 : decode cX6_readLetter 49 = .ok (.ireturn, 1) := by decide +kernel
theorem dX6_readLetter_50 : decode cX6_readLetter 50 = .ok (.aload_n 0, 1) := by decide +kernel
theorem dX6_readLetter_51 : decode cX6_readLetter 51 = .ok (.iload_n 1, 1) := by decide +kernel
theorem dX6_readLetter_52 : decode cX6_readLetter 52 = .ok (.invokevirtual 59, 3) := by decide +kernel
theorem dX6_readLetter_55 : decode cX6_readLetter 55 = .ok (.ireturn, 1) := by decide +kernel
theorem dX6_beginFunction_0 : decode cX6_beginFunction 0 = .ok (.iload_n 1, 1) := by decide +kernel
theorem dX6_beginFunction_1 : decode cX6_beginFunction 1 = .ok (.bipush 100, 2) := by decide +kernel
theorem dX6_beginFunction_3 : decode cX6_beginFunction 3 = .ok (.if_icmp .eq 5, 3) := by decide +kernel
theorem dX6_beginFunction_6 : decode cX6_beginFunction 6 = .ok (.iconst 1, 1) := by decide +kernel
theorem dX6_beginFunction_7 : decode cX6_beginFunction 7 = .ok (.ireturn, 1) := by decide +kernel
theorem dX6_beginFunction_8 : decode cX6_beginFunction 8 = .ok (.aload_n 0, 1) := by decide +kernel
theorem dX6_beginFunction_9 : decode cX6_beginFunction 9 = .ok (.getfield 21, 3) := by decide +kernel
theorem dX6_beginFunction_12 : decode cX6_beginFunction 12 = .ok (.getfield 47, 3) := by decide +kernel
theorem dX6_beginFunction_15 : decode cX6_beginFunction 15 = .ok (.iconst 5, 1) := by decide +kernel
theorem dX6_beginFunction_16 : decode cX6_beginFunction 16 = .ok (.if_icmp .lt 5, 3) := by decide +kernel
theorem dX6_beginFunction_19 : decode cX6_beginFunction 19 = .ok (.iconst 3, 1) := by decide +kernel
theorem dX6_beginFunction_20 : decode cX6_beginFunction 20 = .ok (.ireturn, 1) := by decide +kernel
theorem dX6_beginFunction_21 : decode cX6_beginFunction 21 = .ok (.aload_n 0, 1) := by decide +kernel
theorem dX6_beginFunction_22 : decode cX6_beginFunction 22 = .ok (.getfield 21, 3) := by decide +kernel
theorem dX6_beginFunction_25 : decode cX6_beginFunction 25 = .ok (.invokevirtual 62, 3) := by decide +kernel
theorem dX6_beginFunction_28 : decode cX6_beginFunction 28 = .ok (.aload_n 0, 1) := by decide +kernel
theorem dX6_beginFunction_29 : decode cX6_beginFunction 29 = .ok (.iconst 0, 1) := by decide +kernel
theorem dX6_beginFunction_30 : decode cX6_beginFunction 30 = .ok (.putfield 64, 3) := by decide +kernel
theorem dX6_beginFunction_33 : decode cX6_beginFunction 33 = .ok (.aload_n 0, 1) := by decide +kernel
theorem dX6_beginFunction_34 : decode cX6_beginFunction 34 = .ok (.iconst 0, 1) := by decide +kernel
theorem dX6_beginFunction_35 : decode cX6_beginFunction 35 = .ok (.putfield 67, 3) := by decide +kernel
theorem dX6_beginFunction_38 : decode cX6_beginFunction 38 = .ok (.aload_n 0, 1) := by decide +kernel
theorem dX6_beginFunction_39 : decode cX6_beginFunction 39 = .ok (.iconst 1, 1) := by decide +kernel
theorem dX6_beginFunction_40 : decode cX6_beginFunction 40 = .ok (.putfield 30, 3) := by decide +kernel
theorem dX6_beginFunction_43 : decode cX6_beginFunction 43 = .ok (.iconst 0, 1) := by decide +kernel
theorem dX6_beginFunction_44 : decode cX6_beginFunction 44 = .ok (.ireturn, 1) := by decide +kernel
theorem dX6_endFunction_0 : decode cX6_endFunction 0 = .ok (.iload_n 1, 1) := by decide +kernel
theorem dX6_endFunction_1 : decode cX6_endFunction 1 = .ok (.bipush 59, 2) := by decide +kernel
theorem dX6_endFunction_3 : decode cX6_endFunction 3 = .ok (.if_icmp .eq 5, 3) := by decide +kernel
theorem dX6_endFunction_6 : decode cX6_endFunction 6 = .ok (.iconst 1, 1) := by decide +kernel
theorem dX6_endFunction_7 : decode cX6_endFunction 7 = .ok (.ireturn, 1) := by decide +kernel
theorem dX6_endFunction_8 : decode cX6_endFunction 8 = .ok (.aload_n 0, 1) := by decide +kernel
theorem dX6_endFunction_9 : decode cX6_endFunction 9 = .ok (.getfield 21, 3) := by decide +kernel
theorem dX6_endFunction_12 : decode cX6_endFunction 12 = .ok (.invokevirtual 70, 3) := by decide +kernel
theorem dX6_endFunction_15 : decode cX6_endFunction 15 = .ok (.aload_n 0, 1) := by decide +kernel
theorem dX6_endFunction_16 : decode cX6_endFunction 16 = .ok (.iconst 0, 1) := by decide +kernel
theorem dX6_endFunction_17 : decode cX6_endFunction 17 = .ok (.putfield 30, 3) := by decide +kernel
theorem dX6_endFunction_20 : decode cX6_endFunction 20 = .ok (.iconst 0, 1) := by decide +kernel
theorem dX6_endFunction_21 : decode cX6_endFunction 21 = .ok (.ireturn, 1) := by decide +kernel
theorem dX6_beginTerm_0 : decode cX6_beginTerm 0 = .ok (.iload_n 1, 1) := by decide +kernel
theorem dX6_beginTerm_1 : decode cX6_beginTerm 1 = .ok (.invokestatic 72, 3) := by decide +kernel
theorem dX6_beginTerm_4 : decode cX6_beginTerm 4 = .ok (.ifCond .eq 13, 3) := by decide +kernel
theorem dX6_beginTerm_7 : decode cX6_beginTerm 7 = .ok (.aload_n 0, 1) := by decide +kernel
theorem dX6_beginTerm_8 : decode cX6_beginTerm 8 = .ok (.iconst 0, 1) := by decide +kernel
theorem dX6_beginTerm_9 : decode cX6_beginTerm 9 = .ok (.iload_n 1, 1) := by decide +kernel
theorem dX6_beginTerm_10 : decode cX6_beginTerm 10 = .ok (.bipush 48, 2) := by decide +kernel
theorem dX6_beginTerm_12 : decode cX6_beginTerm 12 = .ok (.isub, 1) := by decide +kernel
theorem dX6_beginTerm_13 : decode cX6_beginTerm 13 = .ok (.invokevirtual 76, 3) := by decide +kernel
theorem dX6_beginTerm_16 : decode cX6_beginTerm 16 = .ok (.ireturn, 1) := by decide +kernel
theorem dX6_beginTerm_17 : decode cX6_beginTerm 17 = .ok (.iload_n 1, 1) := by decide +kernel
theorem dX6_beginTerm_18 : decode cX6_beginTerm 18 = .ok (.lookupswitch 137 #[(42, 110), (43, 94), (45, 102), (60, 119), (63, 128), (102, 89), (110, 74), (120, 81)], 74) := by decide +kernel
theorem dX6_beginTerm_92 : decode cX6_beginTerm 92 = .ok (.aload_n 0, 1) := by decide +kernel
theorem dX6_beginTerm_93 : decode cX6_beginTerm 93 = .ok (.iconst 1, 1) := by decide +kernel
theorem dX6_beginTerm_94 : decode cX6_beginTerm 94 = .ok (.iconst 0, 1) := by decide +kernel
theorem dX6_beginTerm_95 : decode cX6_beginTerm 95 = .ok (.invokevirtual 76, 3) := by decide +kernel
theorem dX6_beginTerm_98 : decode cX6_beginTerm 98 = .ok (.ireturn, 1) := by decide +kernel
theorem dX6_beginTerm_99 : decode cX6_beginTerm 99 = .ok (.aload_n 0, 1) := by decide +kernel
theorem dX6_beginTerm_100 : decode cX6_beginTerm 100 = .ok (.iconst 2, 1) := by decide +kernel
theorem dX6_beginTerm_101 : decode cX6_beginTerm 101 = .ok (.iconst 0, 1) := by decide +kernel
theorem dX6_beginTerm_102 : decode cX6_beginTerm 102 = .ok (.iconst 1, 1) := by decide +kernel
theorem dX6_beginTerm_103 : decode cX6_beginTerm 103 = .ok (.invokevirtual 79, 3) := by decide +kernel
theorem dX6_beginTerm_106 : decode cX6_beginTerm 106 = .ok (.ireturn, 1) := by decide +kernel
theorem dX6_beginTerm_107 : decode cX6_beginTerm 107 = .ok (.aload_n 0, 1) := by decide +kernel
theorem dX6_beginTerm_108 : decode cX6_beginTerm 108 = .ok (.invokevirtual 83, 3) := by decide +kernel
theorem dX6_beginTerm_111 : decode cX6_beginTerm 111 = .ok (.ireturn, 1) := by decide +kernel
theorem dX6_beginTerm_112 : decode cX6_beginTerm 112 = .ok (.aload_n 0, 1) := by decide +kernel
theorem dX6_beginTerm_113 : decode cX6_beginTerm 113 = .ok (.iconst 4, 1) := by decide +kernel
theorem dX6_beginTerm_114 : decode cX6_beginTerm 114 = .ok (.iconst 0, 1) := by decide +kernel
theorem dX6_beginTerm_115 : decode cX6_beginTerm 115 = .ok (.iconst 2, 1) := by decide +kernel
theorem dX6_beginTerm_116 : decode cX6_beginTerm 116 = .ok (.invokevirtual 79, 3) := by decide +kernel
theorem dX6_beginTerm_119 : decode cX6_beginTerm 119 = .ok (.ireturn, 1) := by decide +kernel
theorem dX6_beginTerm_120 : decode cX6_beginTerm 120 = .ok (.aload_n 0, 1) := by decide +kernel
theorem dX6_beginTerm_121 : decode cX6_beginTerm 121 = .ok (.iconst 5, 1) := by decide +kernel
theorem dX6_beginTerm_122 : decode cX6_beginTerm 122 = .ok (.iconst 0, 1) := by decide +kernel
theorem dX6_beginTerm_123 : decode cX6_beginTerm 123 = .ok (.iconst 2, 1) := by decide +kernel
theorem dX6_beginTerm_124 : decode cX6_beginTerm 124 = .ok (.invokevirtual 79, 3) := by decide +kernel
theorem dX6_beginTerm_127 : decode cX6_beginTerm 127 = .ok (.ireturn, 1) := by decide +kernel
theorem dX6_beginTerm_128 : decode cX6_beginTerm 128 = .ok (.aload_n 0, 1) := by decide +kernel
theorem dX6_beginTerm_129 : decode cX6_beginTerm 129 = .ok (.bipush 6, 2) := by decide +kernel
theorem dX6_beginTerm_131 : decode cX6_beginTerm 131 = .ok (.iconst 0, 1) := by decide +kernel
theorem dX6_beginTerm_132 : decode cX6_beginTerm 132 = .ok (.iconst 2, 1) := by decide +kernel
theorem dX6_beginTerm_133 : decode cX6_beginTerm 133 = .ok (.invokevirtual 79, 3) := by decide +kernel
theorem dX6_beginTerm_136 : decode cX6_beginTerm 136 = .ok (.ireturn, 1) := by decide +kernel
theorem dX6_beginTerm_137 : decode cX6_beginTerm 137 = .ok (.aload_n 0, 1) := by decide +kernel
theorem dX6_beginTerm_138 : decode cX6_beginTerm 138 = .ok (.bipush 7, 2) := by decide +kernel
theorem dX6_beginTerm_140 : decode cX6_beginTerm 140 = .ok (.iconst 0, 1) := by decide +kernel
theorem dX6_beginTerm_141 : decode cX6_beginTerm 141 = .ok (.iconst 2, 1) := by decide +kernel
theorem dX6_beginTerm_142 : decode cX6_beginTerm 142 = .ok (.invokevirtual 79, 3) := by decide +kernel
theorem dX6_beginTerm_145 : decode cX6_beginTerm 145 = .ok (.ireturn, 1) := by decide +kernel
theorem dX6_beginTerm_146 : decode cX6_beginTerm 146 = .ok (.aload_n 0, 1) := by decide +kernel
theorem dX6_beginTerm_147 : decode cX6_beginTerm 147 = .ok (.bipush 8, 2) := by decide +kernel
theorem dX6_beginTerm_149 : decode cX6_beginTerm 149 = .ok (.iconst (-1), 1) := by decide +kernel
theorem dX6_beginTerm_150 : decode cX6_beginTerm 150 = .ok (.iconst 3, 1) := by decide +kernel
theorem dX6_beginTerm_151 : decode cX6_beginTerm 151 = .ok (.invokevirtual 79, 3) := by decide +kernel
theorem dX6_beginTerm_154 : decode cX6_beginTerm 154 = .ok (.ireturn, 1) := by decide +kernel
theorem dX6_beginTerm_155 : decode cX6_beginTerm 155 = .ok (.iconst 1, 1) := by decide +kernel
theorem dX6_beginTerm_156 : decode cX6_beginTerm 156 = .ok (.ireturn, 1) := by decide +kernel
theorem dX6_beginCall_0 : decode cX6_beginCall 0 = .ok (.aload_n 0, 1) := by decide +kernel
theorem dX6_beginCall_1 : decode cX6_beginCall 1 = .ok (.getfield 67, 3) := by decide +kernel
theorem dX6_beginCall_4 : decode cX6_beginCall 4 = .ok (.iconst 3, 1) := by decide +kernel
theorem dX6_beginCall_5 : decode cX6_beginCall 5 = .ok (.if_icmp .lt 5, 3) := by decide +kernel
theorem dX6_beginCall_8 : decode cX6_beginCall 8 = .ok (.iconst 4, 1) := by decide +kernel
theorem dX6_beginCall_9 : decode cX6_beginCall 9 = .ok (.ireturn, 1) := by decide +kernel
theorem dX6_beginCall_10 : decode cX6_beginCall 10 = .ok (.aload_n 0, 1) := by decide +kernel
theorem dX6_beginCall_11 : decode cX6_beginCall 11 = .ok (.dup, 1) := by decide +kernel
theorem dX6_beginCall_12 : decode cX6_beginCall 12 = .ok (.getfield 67, 3) := by decide +kernel
theorem dX6_beginCall_15 : decode cX6_beginCall 15 = .ok (.iconst 1, 1) := by decide +kernel
theorem dX6_beginCall_16 : decode cX6_beginCall 16 = .ok (.iadd, 1) := by decide +kernel
theorem dX6_beginCall_17 : decode cX6_beginCall 17 = .ok (.putfield 67, 3) := by decide +kernel
theorem dX6_beginCall_20 : decode cX6_beginCall 20 = .ok (.aload_n 0, 1) := by decide +kernel
theorem dX6_beginCall_21 : decode cX6_beginCall 21 = .ok (.iconst 2, 1) := by decide +kernel
theorem dX6_beginCall_22 : decode cX6_beginCall 22 = .ok (.putfield 30, 3) := by decide +kernel
theorem dX6_beginCall_25 : decode cX6_beginCall 25 = .ok (.iconst 0, 1) := by decide +kernel
theorem dX6_beginCall_26 : decode cX6_beginCall 26 = .ok (.ireturn, 1) := by decide +kernel
theorem dX6_readCalledFunction_0 : decode cX6_readCalledFunction 0 = .ok (.iload_n 1, 1) := by decide +kernel
theorem dX6_readCalledFunction_1 : decode cX6_readCalledFunction 1 = .ok (.invokestatic 72, 3) := by decide +kernel
theorem dX6_readCalledFunction_4 : decode cX6_readCalledFunction 4 = .ok (.ifCond .ne 5, 3) := by decide +kernel
theorem dX6_readCalledFunction_7 : decode cX6_readCalledFunction 7 = .ok (.iconst 1, 1) := by decide +kernel
theorem dX6_readCalledFunction_8 : decode cX6_readCalledFunction 8 = .ok (.ireturn, 1) := by decide +kernel
theorem dX6_readCalledFunction_9 : decode cX6_readCalledFunction 9 = .ok (.iload_n 1, 1) := by decide +kernel
theorem dX6_readCalledFunction_10 : decode cX6_readCalledFunction 10 = .ok (.bipush 48, 2) := by decide +kernel
theorem dX6_readCalledFunction_12 : decode cX6_readCalledFunction 12 = .ok (.isub, 1) := by decide +kernel
theorem dX6_readCalledFunction_13 : decode cX6_readCalledFunction 13 = .ok (.iconst 5, 1) := by decide +kernel
theorem dX6_readCalledFunction_14 : decode cX6_readCalledFunction 14 = .ok (.if_icmp .lt 5, 3) := by decide +kernel
theorem dX6_readCalledFunction_17 : decode cX6_readCalledFunction 17 = .ok (.iconst 2, 1) := by decide +kernel
theorem dX6_readCalledFunction_18 : decode cX6_readCalledFunction 18 = .ok (.ireturn, 1) := by decide +kernel
theorem dX6_readCalledFunction_19 : decode cX6_readCalledFunction 19 = .ok (.aload_n 0, 1) := by decide +kernel
theorem dX6_readCalledFunction_20 : decode cX6_readCalledFunction 20 = .ok (.iconst 1, 1) := by decide +kernel
theorem dX6_readCalledFunction_21 : decode cX6_readCalledFunction 21 = .ok (.putfield 30, 3) := by decide +kernel
theorem dX6_readCalledFunction_24 : decode cX6_readCalledFunction 24 = .ok (.aload_n 0, 1) := by decide +kernel
theorem dX6_readCalledFunction_25 : decode cX6_readCalledFunction 25 = .ok (.iconst 3, 1) := by decide +kernel
theorem dX6_readCalledFunction_26 : decode cX6_readCalledFunction 26 = .ok (.iload_n 1, 1) := by decide +kernel
theorem dX6_readCalledFunction_27 : decode cX6_readCalledFunction 27 = .ok (.bipush 48, 2) := by decide +kernel
theorem dX6_readCalledFunction_29 : decode cX6_readCalledFunction 29 = .ok (.isub, 1) := by decide +kernel
theorem dX6_readCalledFunction_30 : decode cX6_readCalledFunction 30 = .ok (.iconst 1, 1) := by decide +kernel
theorem dX6_readCalledFunction_31 : decode cX6_readCalledFunction 31 = .ok (.invokevirtual 79, 3) := by decide +kernel
theorem dX6_readCalledFunction_34 : decode cX6_readCalledFunction 34 = .ok (.ireturn, 1) := by decide +kernel
theorem dX6_openTerm_0 : decode cX6_openTerm 0 = .ok (.aload_n 0, 1) := by decide +kernel
theorem dX6_openTerm_1 : decode cX6_openTerm 1 = .ok (.getfield 64, 3) := by decide +kernel
theorem dX6_openTerm_4 : decode cX6_openTerm 4 = .ok (.sipush 160, 3) := by decide +kernel
theorem dX6_openTerm_7 : decode cX6_openTerm 7 = .ok (.if_icmp .lt 5, 3) := by decide +kernel
theorem dX6_openTerm_10 : decode cX6_openTerm 10 = .ok (.iconst 1, 1) := by decide +kernel
theorem dX6_openTerm_11 : decode cX6_openTerm 11 = .ok (.ireturn, 1) := by decide +kernel
theorem dX6_openTerm_12 : decode cX6_openTerm 12 = .ok (.aload_n 0, 1) := by decide +kernel
theorem dX6_openTerm_13 : decode cX6_openTerm 13 = .ok (.getfield 9, 3) := by decide +kernel
theorem dX6_openTerm_16 : decode cX6_openTerm 16 = .ok (.aload_n 0, 1) := by decide +kernel
theorem dX6_openTerm_17 : decode cX6_openTerm 17 = .ok (.getfield 64, 3) := by decide +kernel
theorem dX6_openTerm_20 : decode cX6_openTerm 20 = .ok (.iload_n 1, 1) := by decide +kernel
theorem dX6_openTerm_21 : decode cX6_openTerm 21 = .ok (.iastore, 1) := by decide +kernel
theorem dX6_openTerm_22 : decode cX6_openTerm 22 = .ok (.aload_n 0, 1) := by decide +kernel
theorem dX6_openTerm_23 : decode cX6_openTerm 23 = .ok (.getfield 15, 3) := by decide +kernel
theorem dX6_openTerm_26 : decode cX6_openTerm 26 = .ok (.aload_n 0, 1) := by decide +kernel
theorem dX6_openTerm_27 : decode cX6_openTerm 27 = .ok (.getfield 64, 3) := by decide +kernel
theorem dX6_openTerm_30 : decode cX6_openTerm 30 = .ok (.iload_n 2, 1) := by decide +kernel
theorem dX6_openTerm_31 : decode cX6_openTerm 31 = .ok (.iastore, 1) := by decide +kernel
theorem dX6_openTerm_32 : decode cX6_openTerm 32 = .ok (.aload_n 0, 1) := by decide +kernel
theorem dX6_openTerm_33 : decode cX6_openTerm 33 = .ok (.getfield 18, 3) := by decide +kernel
theorem dX6_openTerm_36 : decode cX6_openTerm 36 = .ok (.aload_n 0, 1) := by decide +kernel
theorem dX6_openTerm_37 : decode cX6_openTerm 37 = .ok (.getfield 64, 3) := by decide +kernel
theorem dX6_openTerm_40 : decode cX6_openTerm 40 = .ok (.iload_n 3, 1) := by decide +kernel
theorem dX6_openTerm_41 : decode cX6_openTerm 41 = .ok (.iastore, 1) := by decide +kernel
theorem dX6_openTerm_42 : decode cX6_openTerm 42 = .ok (.aload_n 0, 1) := by decide +kernel
theorem dX6_openTerm_43 : decode cX6_openTerm 43 = .ok (.dup, 1) := by decide +kernel
theorem dX6_openTerm_44 : decode cX6_openTerm 44 = .ok (.getfield 64, 3) := by decide +kernel
theorem dX6_openTerm_47 : decode cX6_openTerm 47 = .ok (.iconst 1, 1) := by decide +kernel
theorem dX6_openTerm_48 : decode cX6_openTerm 48 = .ok (.iadd, 1) := by decide +kernel
theorem dX6_openTerm_49 : decode cX6_openTerm 49 = .ok (.putfield 64, 3) := by decide +kernel
theorem dX6_openTerm_52 : decode cX6_openTerm 52 = .ok (.iconst 0, 1) := by decide +kernel
theorem dX6_openTerm_53 : decode cX6_openTerm 53 = .ok (.ireturn, 1) := by decide +kernel
theorem dX6_readLeaf_0 : decode cX6_readLeaf 0 = .ok (.aload_n 0, 1) := by decide +kernel
theorem dX6_readLeaf_1 : decode cX6_readLeaf 1 = .ok (.getfield 21, 3) := by decide +kernel
theorem dX6_readLeaf_4 : decode cX6_readLeaf 4 = .ok (.iload_n 1, 1) := by decide +kernel
theorem dX6_readLeaf_5 : decode cX6_readLeaf 5 = .ok (.iload_n 2, 1) := by decide +kernel
theorem dX6_readLeaf_6 : decode cX6_readLeaf 6 = .ok (.invokevirtual 87, 3) := by decide +kernel
theorem dX6_readLeaf_9 : decode cX6_readLeaf 9 = .ok (.pop, 1) := by decide +kernel
theorem dX6_readLeaf_10 : decode cX6_readLeaf 10 = .ok (.aload_n 0, 1) := by decide +kernel
theorem dX6_readLeaf_11 : decode cX6_readLeaf 11 = .ok (.getfield 64, 3) := by decide +kernel
theorem dX6_readLeaf_14 : decode cX6_readLeaf 14 = .ok (.iconst 1, 1) := by decide +kernel
theorem dX6_readLeaf_15 : decode cX6_readLeaf 15 = .ok (.isub, 1) := by decide +kernel
theorem dX6_readLeaf_16 : decode cX6_readLeaf 16 = .ok (.istore_n 3, 1) := by decide +kernel
theorem dX6_readLeaf_17 : decode cX6_readLeaf 17 = .ok (.iload_n 3, 1) := by decide +kernel
theorem dX6_readLeaf_18 : decode cX6_readLeaf 18 = .ok (.ifCond .lt 82, 3) := by decide +kernel
theorem dX6_readLeaf_21 : decode cX6_readLeaf 21 = .ok (.aload_n 0, 1) := by decide +kernel
theorem dX6_readLeaf_22 : decode cX6_readLeaf 22 = .ok (.getfield 18, 3) := by decide +kernel
theorem dX6_readLeaf_25 : decode cX6_readLeaf 25 = .ok (.iload_n 3, 1) := by decide +kernel
theorem dX6_readLeaf_26 : decode cX6_readLeaf 26 = .ok (.dup2, 1) := by decide +kernel
theorem dX6_readLeaf_27 : decode cX6_readLeaf 27 = .ok (.iaload, 1) := by decide +kernel
theorem dX6_readLeaf_28 : decode cX6_readLeaf 28 = .ok (.iconst 1, 1) := by decide +kernel
theorem dX6_readLeaf_29 : decode cX6_readLeaf 29 = .ok (.isub, 1) := by decide +kernel
theorem dX6_readLeaf_30 : decode cX6_readLeaf 30 = .ok (.iastore, 1) := by decide +kernel
theorem dX6_readLeaf_31 : decode cX6_readLeaf 31 = .ok (.aload_n 0, 1) := by decide +kernel
theorem dX6_readLeaf_32 : decode cX6_readLeaf 32 = .ok (.getfield 9, 3) := by decide +kernel
theorem dX6_readLeaf_35 : decode cX6_readLeaf 35 = .ok (.iload_n 3, 1) := by decide +kernel
theorem dX6_readLeaf_36 : decode cX6_readLeaf 36 = .ok (.iaload, 1) := by decide +kernel
theorem dX6_readLeaf_37 : decode cX6_readLeaf 37 = .ok (.bipush 8, 2) := by decide +kernel
theorem dX6_readLeaf_39 : decode cX6_readLeaf 39 = .ok (.if_icmp .ne 8, 3) := by decide +kernel
theorem dX6_readLeaf_42 : decode cX6_readLeaf 42 = .ok (.aload_n 0, 1) := by decide +kernel
theorem dX6_readLeaf_43 : decode cX6_readLeaf 43 = .ok (.iload_n 3, 1) := by decide +kernel
theorem dX6_readLeaf_44 : decode cX6_readLeaf 44 = .ok (.invokevirtual 90, 3) := by decide +kernel
theorem dX6_readLeaf_47 : decode cX6_readLeaf 47 = .ok (.aload_n 0, 1) := by decide +kernel
theorem dX6_readLeaf_48 : decode cX6_readLeaf 48 = .ok (.getfield 18, 3) := by decide +kernel
theorem dX6_readLeaf_51 : decode cX6_readLeaf 51 = .ok (.iload_n 3, 1) := by decide +kernel
theorem dX6_readLeaf_52 : decode cX6_readLeaf 52 = .ok (.iaload, 1) := by decide +kernel
theorem dX6_readLeaf_53 : decode cX6_readLeaf 53 = .ok (.ifCond .le 5, 3) := by decide +kernel
theorem dX6_readLeaf_56 : decode cX6_readLeaf 56 = .ok (.iconst 0, 1) := by decide +kernel
theorem dX6_readLeaf_57 : decode cX6_readLeaf 57 = .ok (.ireturn, 1) := by decide +kernel
theorem dX6_readLeaf_58 : decode cX6_readLeaf 58 = .ok (.aload_n 0, 1) := by decide +kernel
theorem dX6_readLeaf_59 : decode cX6_readLeaf 59 = .ok (.getfield 9, 3) := by decide +kernel
theorem dX6_readLeaf_62 : decode cX6_readLeaf 62 = .ok (.iload_n 3, 1) := by decide +kernel
theorem dX6_readLeaf_63 : decode cX6_readLeaf 63 = .ok (.iaload, 1) := by decide +kernel
theorem dX6_readLeaf_64 : decode cX6_readLeaf 64 = .ok (.bipush 8, 2) := by decide +kernel
theorem dX6_readLeaf_66 : decode cX6_readLeaf 66 = .ok (.if_icmp .eq 23, 3) := by decide +kernel
theorem dX6_readLeaf_69 : decode cX6_readLeaf 69 = .ok (.aload_n 0, 1) := by decide +kernel
theorem dX6_readLeaf_70 : decode cX6_readLeaf 70 = .ok (.getfield 21, 3) := by decide +kernel
theorem dX6_readLeaf_73 : decode cX6_readLeaf 73 = .ok (.aload_n 0, 1) := by decide +kernel
theorem dX6_readLeaf_74 : decode cX6_readLeaf 74 = .ok (.getfield 9, 3) := by decide +kernel
theorem dX6_readLeaf_77 : decode cX6_readLeaf 77 = .ok (.iload_n 3, 1) := by decide +kernel
theorem dX6_readLeaf_78 : decode cX6_readLeaf 78 = .ok (.iaload, 1) := by decide +kernel
theorem dX6_readLeaf_79 : decode cX6_readLeaf 79 = .ok (.aload_n 0, 1) := by decide +kernel
theorem dX6_readLeaf_80 : decode cX6_readLeaf 80 = .ok (.getfield 15, 3) := by decide +kernel
theorem dX6_readLeaf_83 : decode cX6_readLeaf 83 = .ok (.iload_n 3, 1) := by decide +kernel
theorem dX6_readLeaf_84 : decode cX6_readLeaf 84 = .ok (.iaload, 1) := by decide +kernel
theorem dX6_readLeaf_85 : decode cX6_readLeaf 85 = .ok (.invokevirtual 87, 3) := by decide +kernel
theorem dX6_readLeaf_88 : decode cX6_readLeaf 88 = .ok (.pop, 1) := by decide +kernel
theorem dX6_readLeaf_89 : decode cX6_readLeaf 89 = .ok (.aload_n 0, 1) := by decide +kernel
theorem dX6_readLeaf_90 : decode cX6_readLeaf 90 = .ok (.iload_n 3, 1) := by decide +kernel
theorem dX6_readLeaf_91 : decode cX6_readLeaf 91 = .ok (.putfield 64, 3) := by decide +kernel
theorem dX6_readLeaf_94 : decode cX6_readLeaf 94 = .ok (.iinc 3 (-1), 3) := by decide +kernel
theorem dX6_readLeaf_97 : decode cX6_readLeaf 97 = .ok (.goto (-80), 3) := by decide +kernel
theorem dX6_readLeaf_100 : decode cX6_readLeaf 100 = .ok (.aload_n 0, 1) := by decide +kernel
theorem dX6_readLeaf_101 : decode cX6_readLeaf 101 = .ok (.iconst 3, 1) := by decide +kernel
theorem dX6_readLeaf_102 : decode cX6_readLeaf 102 = .ok (.putfield 30, 3) := by decide +kernel
theorem dX6_readLeaf_105 : decode cX6_readLeaf 105 = .ok (.iconst 0, 1) := by decide +kernel
theorem dX6_readLeaf_106 : decode cX6_readLeaf 106 = .ok (.ireturn, 1) := by decide +kernel
theorem dX6_placeSkips_0 : decode cX6_placeSkips 0 = .ok (.aload_n 0, 1) := by decide +kernel
theorem dX6_placeSkips_1 : decode cX6_placeSkips 1 = .ok (.getfield 18, 3) := by decide +kernel
theorem dX6_placeSkips_4 : decode cX6_placeSkips 4 = .ok (.iload_n 1, 1) := by decide +kernel
theorem dX6_placeSkips_5 : decode cX6_placeSkips 5 = .ok (.iaload, 1) := by decide +kernel
theorem dX6_placeSkips_6 : decode cX6_placeSkips 6 = .ok (.iconst 2, 1) := by decide +kernel
theorem dX6_placeSkips_7 : decode cX6_placeSkips 7 = .ok (.if_icmp .ne 22, 3) := by decide +kernel
theorem dX6_placeSkips_10 : decode cX6_placeSkips 10 = .ok (.aload_n 0, 1) := by decide +kernel
theorem dX6_placeSkips_11 : decode cX6_placeSkips 11 = .ok (.getfield 15, 3) := by decide +kernel
theorem dX6_placeSkips_14 : decode cX6_placeSkips 14 = .ok (.iload_n 1, 1) := by decide +kernel
theorem dX6_placeSkips_15 : decode cX6_placeSkips 15 = .ok (.aload_n 0, 1) := by decide +kernel
theorem dX6_placeSkips_16 : decode cX6_placeSkips 16 = .ok (.getfield 21, 3) := by decide +kernel
theorem dX6_placeSkips_19 : decode cX6_placeSkips 19 = .ok (.bipush 9, 2) := by decide +kernel
theorem dX6_placeSkips_21 : decode cX6_placeSkips 21 = .ok (.iconst 0, 1) := by decide +kernel
theorem dX6_placeSkips_22 : decode cX6_placeSkips 22 = .ok (.invokevirtual 87, 3) := by decide +kernel
theorem dX6_placeSkips_25 : decode cX6_placeSkips 25 = .ok (.iastore, 1) := by decide +kernel
theorem dX6_placeSkips_26 : decode cX6_placeSkips 26 = .ok (.goto 60, 3) := by decide +kernel
theorem dX6_placeSkips_29 : decode cX6_placeSkips 29 = .ok (.aload_n 0, 1) := by decide +kernel
theorem dX6_placeSkips_30 : decode cX6_placeSkips 30 = .ok (.getfield 18, 3) := by decide +kernel
theorem dX6_placeSkips_33 : decode cX6_placeSkips 33 = .ok (.iload_n 1, 1) := by decide +kernel
theorem dX6_placeSkips_34 : decode cX6_placeSkips 34 = .ok (.iaload, 1) := by decide +kernel
theorem dX6_placeSkips_35 : decode cX6_placeSkips 35 = .ok (.iconst 1, 1) := by decide +kernel
theorem dX6_placeSkips_36 : decode cX6_placeSkips 36 = .ok (.if_icmp .ne 37, 3) := by decide +kernel
theorem dX6_placeSkips_39 : decode cX6_placeSkips 39 = .ok (.aload_n 0, 1) := by decide +kernel
theorem dX6_placeSkips_40 : decode cX6_placeSkips 40 = .ok (.getfield 21, 3) := by decide +kernel
theorem dX6_placeSkips_43 : decode cX6_placeSkips 43 = .ok (.bipush 10, 2) := by decide +kernel
theorem dX6_placeSkips_45 : decode cX6_placeSkips 45 = .ok (.iconst 0, 1) := by decide +kernel
theorem dX6_placeSkips_46 : decode cX6_placeSkips 46 = .ok (.invokevirtual 87, 3) := by decide +kernel
theorem dX6_placeSkips_49 : decode cX6_placeSkips 49 = .ok (.istore_n 2, 1) := by decide +kernel
theorem dX6_placeSkips_50 : decode cX6_placeSkips 50 = .ok (.aload_n 0, 1) := by decide +kernel
theorem dX6_placeSkips_51 : decode cX6_placeSkips 51 = .ok (.getfield 21, 3) := by decide +kernel
theorem dX6_placeSkips_54 : decode cX6_placeSkips 54 = .ok (.aload_n 0, 1) := by decide +kernel
theorem dX6_placeSkips_55 : decode cX6_placeSkips 55 = .ok (.getfield 15, 3) := by decide +kernel
theorem dX6_placeSkips_58 : decode cX6_placeSkips 58 = .ok (.iload_n 1, 1) := by decide +kernel
theorem dX6_placeSkips_59 : decode cX6_placeSkips 59 = .ok (.iaload, 1) := by decide +kernel
theorem dX6_placeSkips_60 : decode cX6_placeSkips 60 = .ok (.invokevirtual 94, 3) := by decide +kernel
theorem dX6_placeSkips_63 : decode cX6_placeSkips 63 = .ok (.aload_n 0, 1) := by decide +kernel
theorem dX6_placeSkips_64 : decode cX6_placeSkips 64 = .ok (.getfield 15, 3) := by decide +kernel
theorem dX6_placeSkips_67 : decode cX6_placeSkips 67 = .ok (.iload_n 1, 1) := by decide +kernel
theorem dX6_placeSkips_68 : decode cX6_placeSkips 68 = .ok (.iload_n 2, 1) := by decide +kernel
theorem dX6_placeSkips_69 : decode cX6_placeSkips 69 = .ok (.iastore, 1) := by decide +kernel
theorem dX6_placeSkips_70 : decode cX6_placeSkips 70 = .ok (.goto 16, 3) := by decide +kernel
theorem dX6_placeSkips_73 : decode cX6_placeSkips 73 = .ok (.aload_n 0, 1) := by decide +kernel
theorem dX6_placeSkips_74 : decode cX6_placeSkips 74 = .ok (.getfield 21, 3) := by decide +kernel
theorem dX6_placeSkips_77 : decode cX6_placeSkips 77 = .ok (.aload_n 0, 1) := by decide +kernel
theorem dX6_placeSkips_78 : decode cX6_placeSkips 78 = .ok (.getfield 15, 3) := by decide +kernel
theorem dX6_placeSkips_81 : decode cX6_placeSkips 81 = .ok (.iload_n 1, 1) := by decide +kernel
theorem dX6_placeSkips_82 : decode cX6_placeSkips 82 = .ok (.iaload, 1) := by decide +kernel
theorem dX6_placeSkips_83 : decode cX6_placeSkips 83 = .ok (.invokevirtual 94, 3) := by decide +kernel
theorem dX6_placeSkips_86 : decode cX6_placeSkips 86 = .ok (.return_, 1) := by decide +kernel
theorem dX6_isFigure_0 : decode cX6_isFigure 0 = .ok (.iload_n 0, 1) := by decide +kernel
theorem dX6_isFigure_1 : decode cX6_isFigure 1 = .ok (.bipush 48, 2) := by decide +kernel
theorem dX6_isFigure_3 : decode cX6_isFigure 3 = .ok (.if_icmp .lt 13, 3) := by decide +kernel
theorem dX6_isFigure_6 : decode cX6_isFigure 6 = .ok (.iload_n 0, 1) := by decide +kernel
theorem dX6_isFigure_7 : decode cX6_isFigure 7 = .ok (.bipush 57, 2) := by decide +kernel
theorem dX6_isFigure_9 : decode cX6_isFigure 9 = .ok (.if_icmp .gt 7, 3) := by decide +kernel
theorem dX6_isFigure_12 : decode cX6_isFigure 12 = .ok (.iconst 1, 1) := by decide +kernel
theorem dX6_isFigure_13 : decode cX6_isFigure 13 = .ok (.goto 4, 3) := by decide +kernel
theorem dX6_isFigure_16 : decode cX6_isFigure 16 = .ok (.iconst 0, 1) := by decide +kernel
theorem dX6_isFigure_17 : decode cX6_isFigure 17 = .ok (.ireturn, 1) := by decide +kernel
theorem dX7_init_0 : decode cX7_init 0 = .ok (.aload_n 0, 1) := by decide +kernel
theorem dX7_init_1 : decode cX7_init 1 = .ok (.invokespecial 3, 3) := by decide +kernel
theorem dX7_init_4 : decode cX7_init 4 = .ok (.aload_n 0, 1) := by decide +kernel
theorem dX7_init_5 : decode cX7_init 5 = .ok (.bipush 8, 2) := by decide +kernel
theorem dX7_init_7 : decode cX7_init 7 = .ok (.newarray .int, 2) := by decide +kernel
theorem dX7_init_9 : decode cX7_init 9 = .ok (.putfield 9, 3) := by decide +kernel
theorem dX7_init_12 : decode cX7_init 12 = .ok (.return_, 1) := by decide +kernel
theorem dX7_become_0 : decode cX7_become 0 = .ok (.aload_n 1, 1) := by decide +kernel
theorem dX7_become_1 : decode cX7_become 1 = .ok (.getfield 9, 3) := by decide +kernel
theorem dX7_become_4 : decode cX7_become 4 = .ok (.iconst 0, 1) := by decide +kernel
theorem dX7_become_5 : decode cX7_become 5 = .ok (.aload_n 0, 1) := by decide +kernel
theorem dX7_become_6 : decode cX7_become 6 = .ok (.getfield 9, 3) := by decide +kernel
theorem dX7_become_9 : decode cX7_become 9 = .ok (.iconst 0, 1) := by decide +kernel
theorem dX7_become_10 : decode cX7_become 10 = .ok (.bipush 8, 2) := by decide +kernel
theorem dX7_become_12 : decode cX7_become 12 = .ok (.invokestatic 15, 3) := by decide +kernel
theorem dX7_become_15 : decode cX7_become 15 = .ok (.aload_n 0, 1) := by decide +kernel
theorem dX7_become_16 : decode cX7_become 16 = .ok (.aload_n 1, 1) := by decide +kernel
theorem dX7_become_17 : decode cX7_become 17 = .ok (.getfield 21, 3) := by decide +kernel
theorem dX7_become_20 : decode cX7_become 20 = .ok (.putfield 21, 3) := by decide +kernel
theorem dX7_become_23 : decode cX7_become 23 = .ok (.aload_n 0, 1) := by decide +kernel
theorem dX7_become_24 : decode cX7_become 24 = .ok (.aload_n 1, 1) := by decide +kernel
theorem dX7_become_25 : decode cX7_become 25 = .ok (.getfield 25, 3) := by decide +kernel
theorem dX7_become_28 : decode cX7_become 28 = .ok (.putfield 25, 3) := by decide +kernel
theorem dX7_become_31 : decode cX7_become 31 = .ok (.aload_n 0, 1) := by decide +kernel
theorem dX7_become_32 : decode cX7_become 32 = .ok (.aload_n 1, 1) := by decide +kernel
theorem dX7_become_33 : decode cX7_become 33 = .ok (.getfield 28, 3) := by decide +kernel
theorem dX7_become_36 : decode cX7_become 36 = .ok (.putfield 28, 3) := by decide +kernel
theorem dX7_become_39 : decode cX7_become 39 = .ok (.return_, 1) := by decide +kernel
theorem dX7_draw_0 : decode cX7_draw 0 = .ok (.aload_n 0, 1) := by decide +kernel
theorem dX7_draw_1 : decode cX7_draw 1 = .ok (.aload_n 0, 1) := by decide +kernel
theorem dX7_draw_2 : decode cX7_draw 2 = .ok (.getfield 28, 3) := by decide +kernel
theorem dX7_draw_5 : decode cX7_draw 5 = .ok (.ldc 31, 2) := by decide +kernel
theorem dX7_draw_7 : decode cX7_draw 7 = .ok (.imul, 1) := by decide +kernel
theorem dX7_draw_8 : decode cX7_draw 8 = .ok (.sipush 12345, 3) := by decide +kernel
theorem dX7_draw_11 : decode cX7_draw 11 = .ok (.iadd, 1) := by decide +kernel
theorem dX7_draw_12 : decode cX7_draw 12 = .ok (.ldc 32, 2) := by decide +kernel
theorem dX7_draw_14 : decode cX7_draw 14 = .ok (.iand, 1) := by decide +kernel
theorem dX7_draw_15 : decode cX7_draw 15 = .ok (.putfield 28, 3) := by decide +kernel
theorem dX7_draw_18 : decode cX7_draw 18 = .ok (.iload_n 1, 1) := by decide +kernel
theorem dX7_draw_19 : decode cX7_draw 19 = .ok (.ifCond .le 15, 3) := by decide +kernel
theorem dX7_draw_22 : decode cX7_draw 22 = .ok (.aload_n 0, 1) := by decide +kernel
theorem dX7_draw_23 : decode cX7_draw 23 = .ok (.getfield 28, 3) := by decide +kernel
theorem dX7_draw_26 : decode cX7_draw 26 = .ok (.ldc 33, 2) := by decide +kernel
theorem dX7_draw_28 : decode cX7_draw 28 = .ok (.idiv, 1) := by decide +kernel
theorem dX7_draw_29 : decode cX7_draw 29 = .ok (.iload_n 1, 1) := by decide +kernel
theorem dX7_draw_30 : decode cX7_draw 30 = .ok (.irem, 1) := by decide +kernel
theorem dX7_draw_31 : decode cX7_draw 31 = .ok (.goto 4, 3) := by decide +kernel
theorem dX7_draw_34 : decode cX7_draw 34 = .ok (.iconst 0, 1) := by decide +kernel
theorem dX7_draw_35 : decode cX7_draw 35 = .ok (.ireturn, 1) := by decide +kernel
theorem dX8_init_0 : decode cX8_init 0 = .ok (.aload_n 0, 1) := by decide +kernel
theorem dX8_init_1 : decode cX8_init 1 = .ok (.invokespecial 3, 3) := by decide +kernel
theorem dX8_init_4 : decode cX8_init 4 = .ok (.aload_n 0, 1) := by decide +kernel
theorem dX8_init_5 : decode cX8_init 5 = .ok (.sipush 364, 3) := by decide +kernel
theorem dX8_init_8 : decode cX8_init 8 = .ok (.anewarray 9, 3) := by decide +kernel
theorem dX8_init_11 : decode cX8_init 11 = .ok (.putfield 11, 3) := by decide +kernel
theorem dX8_init_14 : decode cX8_init 14 = .ok (.return_, 1) := by decide +kernel
theorem dX8_list_0 : decode cX8_list 0 = .ok (.aload_n 0, 1) := by decide +kernel
theorem dX8_list_1 : decode cX8_list 1 = .ok (.aload_n 1, 1) := by decide +kernel
theorem dX8_list_2 : decode cX8_list 2 = .ok (.putfield 17, 3) := by decide +kernel
theorem dX8_list_5 : decode cX8_list 5 = .ok (.aload_n 0, 1) := by decide +kernel
theorem dX8_list_6 : decode cX8_list 6 = .ok (.iconst 0, 1) := by decide +kernel
theorem dX8_list_7 : decode cX8_list 7 = .ok (.putfield 21, 3) := by decide +kernel
theorem dX8_list_10 : decode cX8_list 10 = .ok (.aload_n 0, 1) := by decide +kernel
theorem dX8_list_11 : decode cX8_list 11 = .ok (.getfield 17, 3) := by decide +kernel
theorem dX8_list_14 : decode cX8_list 14 = .ok (.ifnull 12, 3) := by decide +kernel
theorem dX8_list_17 : decode cX8_list 17 = .ok (.aload_n 0, 1) := by decide +kernel
theorem dX8_list_18 : decode cX8_list 18 = .ok (.aload_n 0, 1) := by decide +kernel
theorem dX8_list_19 : decode cX8_list 19 = .ok (.getfield 17, 3) := by decide +kernel
theorem dX8_list_22 : decode cX8_list 22 = .ok (.iconst (-1), 1) := by decide +kernel
theorem dX8_list_23 : decode cX8_list 23 = .ok (.invokevirtual 25, 3) := by decide +kernel
theorem dX8_list_26 : decode cX8_list 26 = .ok (.return_, 1) := by decide +kernel
theorem dX8_listAll_0 : decode cX8_listAll 0 = .ok (.aload_n 0, 1) := by decide +kernel
theorem dX8_listAll_1 : decode cX8_listAll 1 = .ok (.getfield 21, 3) := by decide +kernel
theorem dX8_listAll_4 : decode cX8_listAll 4 = .ok (.sipush 364, 3) := by decide +kernel
theorem dX8_listAll_7 : decode cX8_listAll 7 = .ok (.if_icmp .ge 12, 3) := by decide +kernel
theorem dX8_listAll_10 : decode cX8_listAll 10 = .ok (.aload_n 1, 1) := by decide +kernel
theorem dX8_listAll_11 : decode cX8_listAll 11 = .ok (.getfield 29, 3) := by decide +kernel
theorem dX8_listAll_14 : decode cX8_listAll 14 = .ok (.bipush 6, 2) := by decide +kernel
theorem dX8_listAll_16 : decode cX8_listAll 16 = .ok (.if_icmp .le 4, 3) := by decide +kernel
theorem dX8_listAll_19 : decode cX8_listAll 19 = .ok (.return_, 1) := by decide +kernel
theorem dX8_listAll_20 : decode cX8_listAll 20 = .ok (.aload_n 0, 1) := by decide +kernel
theorem dX8_listAll_21 : decode cX8_listAll 21 = .ok (.getfield 21, 3) := by decide +kernel
theorem dX8_listAll_24 : decode cX8_listAll 24 = .ok (.istore_n 3, 1) := by decide +kernel
theorem dX8_listAll_25 : decode cX8_listAll 25 = .ok (.aload_n 0, 1) := by decide +kernel
theorem dX8_listAll_26 : decode cX8_listAll 26 = .ok (.getfield 11, 3) := by decide +kernel
theorem dX8_listAll_29 : decode cX8_listAll 29 = .ok (.iload_n 3, 1) := by decide +kernel
theorem dX8_listAll_30 : decode cX8_listAll 30 = .ok (.aload_n 1, 1) := by decide +kernel
theorem dX8_listAll_31 : decode cX8_listAll 31 = .ok (.aastore, 1) := by decide +kernel
theorem dX8_listAll_32 : decode cX8_listAll 32 = .ok (.aload_n 0, 1) := by decide +kernel
theorem dX8_listAll_33 : decode cX8_listAll 33 = .ok (.dup, 1) := by decide +kernel
theorem dX8_listAll_34 : decode cX8_listAll 34 = .ok (.getfield 21, 3) := by decide +kernel
theorem dX8_listAll_37 : decode cX8_listAll 37 = .ok (.iconst 1, 1) := by decide +kernel
theorem dX8_listAll_38 : decode cX8_listAll 38 = .ok (.iadd, 1) := by decide +kernel
theorem dX8_listAll_39 : decode cX8_listAll 39 = .ok (.putfield 21, 3) := by decide +kernel
theorem dX8_listAll_42 : decode cX8_listAll 42 = .ok (.aload_n 1, 1) := by decide +kernel
theorem dX8_listAll_43 : decode cX8_listAll 43 = .ok (.iload_n 2, 1) := by decide +kernel
theorem dX8_listAll_44 : decode cX8_listAll 44 = .ok (.putfield 32, 3) := by decide +kernel
theorem dX8_listAll_47 : decode cX8_listAll 47 = .ok (.aload_n 1, 1) := by decide +kernel
theorem dX8_listAll_48 : decode cX8_listAll 48 = .ok (.getfield 35, 3) := by decide +kernel
theorem dX8_listAll_51 : decode cX8_listAll 51 = .ok (.astore 4, 2) := by decide +kernel
theorem dX8_listAll_53 : decode cX8_listAll 53 = .ok (.aload 4, 2) := by decide +kernel
theorem dX8_listAll_55 : decode cX8_listAll 55 = .ok (.ifnull 20, 3) := by decide +kernel
theorem dX8_listAll_58 : decode cX8_listAll 58 = .ok (.aload_n 0, 1) := by decide +kernel
theorem dX8_listAll_59 : decode cX8_listAll 59 = .ok (.aload 4, 2) := by decide +kernel
theorem dX8_listAll_61 : decode cX8_listAll 61 = .ok (.iload_n 3, 1) := by decide +kernel
theorem dX8_listAll_62 : decode cX8_listAll 62 = .ok (.invokevirtual 25, 3) := by decide +kernel
theorem dX8_listAll_65 : decode cX8_listAll 65 = .ok (.aload 4, 2) := by decide +kernel
theorem dX8_listAll_67 : decode cX8_listAll 67 = .ok (.getfield 38, 3) := by decide +kernel
theorem dX8_listAll_70 : decode cX8_listAll 70 = .ok (.astore 4, 2) := by decide +kernel
theorem dX8_listAll_72 : decode cX8_listAll 72 = .ok (.goto (-19), 3) := by decide +kernel
theorem dX8_listAll_75 : decode cX8_listAll 75 = .ok (.aload_n 1, 1) := by decide +kernel
theorem dX8_listAll_76 : decode cX8_listAll 76 = .ok (.aload_n 0, 1) := by decide +kernel
theorem dX8_listAll_77 : decode cX8_listAll 77 = .ok (.getfield 21, 3) := by decide +kernel
theorem dX8_listAll_80 : decode cX8_listAll 80 = .ok (.iload_n 3, 1) := by decide +kernel
theorem dX8_listAll_81 : decode cX8_listAll 81 = .ok (.isub, 1) := by decide +kernel
theorem dX8_listAll_82 : decode cX8_listAll 82 = .ok (.putfield 41, 3) := by decide +kernel
theorem dX8_listAll_85 : decode cX8_listAll 85 = .ok (.return_, 1) := by decide +kernel
theorem dX8_numbered_0 : decode cX8_numbered 0 = .ok (.iload_n 1, 1) := by decide +kernel
theorem dX8_numbered_1 : decode cX8_numbered 1 = .ok (.ifCond .lt 20, 3) := by decide +kernel
theorem dX8_numbered_4 : decode cX8_numbered 4 = .ok (.iload_n 1, 1) := by decide +kernel
theorem dX8_numbered_5 : decode cX8_numbered 5 = .ok (.aload_n 0, 1) := by decide +kernel
theorem dX8_numbered_6 : decode cX8_numbered 6 = .ok (.getfield 21, 3) := by decide +kernel
theorem dX8_numbered_9 : decode cX8_numbered 9 = .ok (.if_icmp .ge 12, 3) := by decide +kernel
theorem dX8_numbered_12 : decode cX8_numbered 12 = .ok (.aload_n 0, 1) := by decide +kernel
theorem dX8_numbered_13 : decode cX8_numbered 13 = .ok (.getfield 11, 3) := by decide +kernel
theorem dX8_numbered_16 : decode cX8_numbered 16 = .ok (.iload_n 1, 1) := by decide +kernel
theorem dX8_numbered_17 : decode cX8_numbered 17 = .ok (.aaload, 1) := by decide +kernel
theorem dX8_numbered_18 : decode cX8_numbered 18 = .ok (.goto 4, 3) := by decide +kernel
theorem dX8_numbered_21 : decode cX8_numbered 21 = .ok (.aconst_null, 1) := by decide +kernel
theorem dX8_numbered_22 : decode cX8_numbered 22 = .ok (.areturn, 1) := by decide +kernel
theorem dX8_numberOfName_0 : decode cX8_numberOfName 0 = .ok (.iconst 0, 1) := by decide +kernel
theorem dX8_numberOfName_1 : decode cX8_numberOfName 1 = .ok (.istore_n 2, 1) := by decide +kernel
theorem dX8_numberOfName_2 : decode cX8_numberOfName 2 = .ok (.iload_n 2, 1) := by decide +kernel
theorem dX8_numberOfName_3 : decode cX8_numberOfName 3 = .ok (.aload_n 0, 1) := by decide +kernel
theorem dX8_numberOfName_4 : decode cX8_numberOfName 4 = .ok (.getfield 21, 3) := by decide +kernel
theorem dX8_numberOfName_7 : decode cX8_numberOfName 7 = .ok (.if_icmp .ge 24, 3) := by decide +kernel
theorem dX8_numberOfName_10 : decode cX8_numberOfName 10 = .ok (.aload_n 0, 1) := by decide +kernel
theorem dX8_numberOfName_11 : decode cX8_numberOfName 11 = .ok (.getfield 11, 3) := by decide +kernel
theorem dX8_numberOfName_14 : decode cX8_numberOfName 14 = .ok (.iload_n 2, 1) := by decide +kernel
theorem dX8_numberOfName_15 : decode cX8_numberOfName 15 = .ok (.aaload, 1) := by decide +kernel
theorem dX8_numberOfName_16 : decode cX8_numberOfName 16 = .ok (.getfield 44, 3) := by decide +kernel
theorem dX8_numberOfName_19 : decode cX8_numberOfName 19 = .ok (.iload_n 1, 1) := by decide +kernel
theorem dX8_numberOfName_20 : decode cX8_numberOfName 20 = .ok (.if_icmp .ne 5, 3) := by decide +kernel
theorem dX8_numberOfName_23 : decode cX8_numberOfName 23 = .ok (.iload_n 2, 1) := by decide +kernel
theorem dX8_numberOfName_24 : decode cX8_numberOfName 24 = .ok (.ireturn, 1) := by decide +kernel
theorem dX8_numberOfName_25 : decode cX8_numberOfName 25 = .ok (.iinc 2 1, 3) := by decide +kernel
theorem dX8_numberOfName_28 : decode cX8_numberOfName 28 = .ok (.goto (-26), 3) := by decide +kernel
theorem dX8_numberOfName_31 : decode cX8_numberOfName 31 = .ok (.iconst (-1), 1) := by decide +kernel
theorem dX8_numberOfName_32 : decode cX8_numberOfName 32 = .ok (.ireturn, 1) := by decide +kernel
theorem dX8_rootTells_0 : decode cX8_rootTells 0 = .ok (.aload_n 0, 1) := by decide +kernel
theorem dX8_rootTells_1 : decode cX8_rootTells 1 = .ok (.getfield 17, 3) := by decide +kernel
theorem dX8_rootTells_4 : decode cX8_rootTells 4 = .ok (.ifnonnull 7, 3) := by decide +kernel
theorem dX8_rootTells_7 : decode cX8_rootTells 7 = .ok (.iconst 0, 1) := by decide +kernel
theorem dX8_rootTells_8 : decode cX8_rootTells 8 = .ok (.goto 10, 3) := by decide +kernel
theorem dX8_rootTells_11 : decode cX8_rootTells 11 = .ok (.aload_n 0, 1) := by decide +kernel
theorem dX8_rootTells_12 : decode cX8_rootTells 12 = .ok (.getfield 17, 3) := by decide +kernel
theorem dX8_rootTells_15 : decode cX8_rootTells 15 = .ok (.getfield 47, 3) := by decide +kernel
theorem dX8_rootTells_18 : decode cX8_rootTells 18 = .ok (.ireturn, 1) := by decide +kernel
theorem dX8_greatestNest_0 : decode cX8_greatestNest 0 = .ok (.iconst 0, 1) := by decide +kernel
theorem dX8_greatestNest_1 : decode cX8_greatestNest 1 = .ok (.istore_n 1, 1) := by decide +kernel
theorem dX8_greatestNest_2 : decode cX8_greatestNest 2 = .ok (.iconst 0, 1) := by decide +kernel
theorem dX8_greatestNest_3 : decode cX8_greatestNest 3 = .ok (.istore_n 2, 1) := by decide +kernel
theorem dX8_greatestNest_4 : decode cX8_greatestNest 4 = .ok (.iload_n 2, 1) := by decide +kernel
theorem dX8_greatestNest_5 : decode cX8_greatestNest 5 = .ok (.aload_n 0, 1) := by decide +kernel
theorem dX8_greatestNest_6 : decode cX8_greatestNest 6 = .ok (.getfield 21, 3) := by decide +kernel
theorem dX8_greatestNest_9 : decode cX8_greatestNest 9 = .ok (.if_icmp .ge 23, 3) := by decide +kernel
theorem dX8_greatestNest_12 : decode cX8_greatestNest 12 = .ok (.iload_n 1, 1) := by decide +kernel
theorem dX8_greatestNest_13 : decode cX8_greatestNest 13 = .ok (.aload_n 0, 1) := by decide +kernel
theorem dX8_greatestNest_14 : decode cX8_greatestNest 14 = .ok (.getfield 11, 3) := by decide +kernel
theorem dX8_greatestNest_17 : decode cX8_greatestNest 17 = .ok (.iload_n 2, 1) := by decide +kernel
theorem dX8_greatestNest_18 : decode cX8_greatestNest 18 = .ok (.aaload, 1) := by decide +kernel
theorem dX8_greatestNest_19 : decode cX8_greatestNest 19 = .ok (.getfield 29, 3) := by decide +kernel
theorem dX8_greatestNest_22 : decode cX8_greatestNest 22 = .ok (.invokestatic 50, 3) := by decide +kernel
theorem dX8_greatestNest_25 : decode cX8_greatestNest 25 = .ok (.istore_n 1, 1) := by decide +kernel
theorem dX8_greatestNest_26 : decode cX8_greatestNest 26 = .ok (.iinc 2 1, 3) := by decide +kernel
theorem dX8_greatestNest_29 : decode cX8_greatestNest 29 = .ok (.goto (-25), 3) := by decide +kernel
theorem dX8_greatestNest_32 : decode cX8_greatestNest 32 = .ok (.iload_n 1, 1) := by decide +kernel
theorem dX8_greatestNest_33 : decode cX8_greatestNest 33 = .ok (.ireturn, 1) := by decide +kernel
theorem dX8_howManyOld_0 : decode cX8_howManyOld 0 = .ok (.iconst 0, 1) := by decide +kernel
theorem dX8_howManyOld_1 : decode cX8_howManyOld 1 = .ok (.istore_n 2, 1) := by decide +kernel
theorem dX8_howManyOld_2 : decode cX8_howManyOld 2 = .ok (.iconst 0, 1) := by decide +kernel
theorem dX8_howManyOld_3 : decode cX8_howManyOld 3 = .ok (.istore_n 3, 1) := by decide +kernel
theorem dX8_howManyOld_4 : decode cX8_howManyOld 4 = .ok (.iload_n 3, 1) := by decide +kernel
theorem dX8_howManyOld_5 : decode cX8_howManyOld 5 = .ok (.aload_n 0, 1) := by decide +kernel
theorem dX8_howManyOld_6 : decode cX8_howManyOld 6 = .ok (.getfield 21, 3) := by decide +kernel
theorem dX8_howManyOld_9 : decode cX8_howManyOld 9 = .ok (.if_icmp .ge 25, 3) := by decide +kernel
theorem dX8_howManyOld_12 : decode cX8_howManyOld 12 = .ok (.aload_n 0, 1) := by decide +kernel
theorem dX8_howManyOld_13 : decode cX8_howManyOld 13 = .ok (.getfield 11, 3) := by decide +kernel
theorem dX8_howManyOld_16 : decode cX8_howManyOld 16 = .ok (.iload_n 3, 1) := by decide +kernel
theorem dX8_howManyOld_17 : decode cX8_howManyOld 17 = .ok (.aaload, 1) := by decide +kernel
theorem dX8_howManyOld_18 : decode cX8_howManyOld 18 = .ok (.aload_n 1, 1) := by decide +kernel
theorem dX8_howManyOld_19 : decode cX8_howManyOld 19 = .ok (.invokevirtual 56, 3) := by decide +kernel
theorem dX8_howManyOld_22 : decode cX8_howManyOld 22 = .ok (.ifCond .eq 6, 3) := by decide +kernel
theorem dX8_howManyOld_25 : decode cX8_howManyOld 25 = .ok (.iinc 2 1, 3) := by decide +kernel
theorem dX8_howManyOld_28 : decode cX8_howManyOld 28 = .ok (.iinc 3 1, 3) := by decide +kernel
theorem dX8_howManyOld_31 : decode cX8_howManyOld 31 = .ok (.goto (-27), 3) := by decide +kernel
theorem dX8_howManyOld_34 : decode cX8_howManyOld 34 = .ok (.iload_n 2, 1) := by decide +kernel
theorem dX8_howManyOld_35 : decode cX8_howManyOld 35 = .ok (.ireturn, 1) := by decide +kernel
theorem dX8_cellsRead_0 : decode cX8_cellsRead 0 = .ok (.iconst 0, 1) := by decide +kernel
theorem dX8_cellsRead_1 : decode cX8_cellsRead 1 = .ok (.istore_n 1, 1) := by decide +kernel
theorem dX8_cellsRead_2 : decode cX8_cellsRead 2 = .ok (.iconst 0, 1) := by decide +kernel
theorem dX8_cellsRead_3 : decode cX8_cellsRead 3 = .ok (.istore_n 2, 1) := by decide +kernel
theorem dX8_cellsRead_4 : decode cX8_cellsRead 4 = .ok (.iload_n 2, 1) := by decide +kernel
theorem dX8_cellsRead_5 : decode cX8_cellsRead 5 = .ok (.aload_n 0, 1) := by decide +kernel
theorem dX8_cellsRead_6 : decode cX8_cellsRead 6 = .ok (.getfield 21, 3) := by decide +kernel
theorem dX8_cellsRead_9 : decode cX8_cellsRead 9 = .ok (.if_icmp .ge 21, 3) := by decide +kernel
theorem dX8_cellsRead_12 : decode cX8_cellsRead 12 = .ok (.iload_n 1, 1) := by decide +kernel
theorem dX8_cellsRead_13 : decode cX8_cellsRead 13 = .ok (.aload_n 0, 1) := by decide +kernel
theorem dX8_cellsRead_14 : decode cX8_cellsRead 14 = .ok (.getfield 11, 3) := by decide +kernel
theorem dX8_cellsRead_17 : decode cX8_cellsRead 17 = .ok (.iload_n 2, 1) := by decide +kernel
theorem dX8_cellsRead_18 : decode cX8_cellsRead 18 = .ok (.aaload, 1) := by decide +kernel
theorem dX8_cellsRead_19 : decode cX8_cellsRead 19 = .ok (.getfield 60, 3) := by decide +kernel
theorem dX8_cellsRead_22 : decode cX8_cellsRead 22 = .ok (.ior, 1) := by decide +kernel
theorem dX8_cellsRead_23 : decode cX8_cellsRead 23 = .ok (.istore_n 1, 1) := by decide +kernel
theorem dX8_cellsRead_24 : decode cX8_cellsRead 24 = .ok (.iinc 2 1, 3) := by decide +kernel
theorem dX8_cellsRead_27 : decode cX8_cellsRead 27 = .ok (.goto (-23), 3) := by decide +kernel
theorem dX8_cellsRead_30 : decode cX8_cellsRead 30 = .ok (.iload_n 1, 1) := by decide +kernel
theorem dX8_cellsRead_31 : decode cX8_cellsRead 31 = .ok (.ireturn, 1) := by decide +kernel
theorem dX9_init_0 : decode cX9_init 0 = .ok (.aload_n 0, 1) := by decide +kernel
theorem dX9_init_1 : decode cX9_init 1 = .ok (.invokespecial 3, 3) := by decide +kernel
theorem dX9_init_4 : decode cX9_init 4 = .ok (.aload_n 0, 1) := by decide +kernel
theorem dX9_init_5 : decode cX9_init 5 = .ok (.sipush 160, 3) := by decide +kernel
theorem dX9_init_8 : decode cX9_init 8 = .ok (.newarray .int, 2) := by decide +kernel
theorem dX9_init_10 : decode cX9_init 10 = .ok (.putfield 9, 3) := by decide +kernel
theorem dX9_init_13 : decode cX9_init 13 = .ok (.aload_n 0, 1) := by decide +kernel
theorem dX9_init_14 : decode cX9_init 14 = .ok (.iconst (-1), 1) := by decide +kernel
theorem dX9_init_15 : decode cX9_init 15 = .ok (.putfield 13, 3) := by decide +kernel
theorem dX9_init_18 : decode cX9_init 18 = .ok (.aload_n 0, 1) := by decide +kernel
theorem dX9_init_19 : decode cX9_init 19 = .ok (.new 17, 3) := by decide +kernel
theorem dX9_init_22 : decode cX9_init 22 = .ok (.dup, 1) := by decide +kernel
theorem dX9_init_23 : decode cX9_init 23 = .ok (.invokespecial 19, 3) := by decide +kernel
theorem dX9_init_26 : decode cX9_init 26 = .ok (.putfield 20, 3) := by decide +kernel
theorem dX9_init_29 : decode cX9_init 29 = .ok (.aload_n 0, 1) := by decide +kernel
theorem dX9_init_30 : decode cX9_init 30 = .ok (.new 24, 3) := by decide +kernel
theorem dX9_init_33 : decode cX9_init 33 = .ok (.dup, 1) := by decide +kernel
theorem dX9_init_34 : decode cX9_init 34 = .ok (.invokespecial 26, 3) := by decide +kernel
theorem dX9_init_37 : decode cX9_init 37 = .ok (.putfield 27, 3) := by decide +kernel
theorem dX9_init_40 : decode cX9_init 40 = .ok (.aload_n 0, 1) := by decide +kernel
theorem dX9_init_41 : decode cX9_init 41 = .ok (.new 24, 3) := by decide +kernel
theorem dX9_init_44 : decode cX9_init 44 = .ok (.dup, 1) := by decide +kernel
theorem dX9_init_45 : decode cX9_init 45 = .ok (.invokespecial 26, 3) := by decide +kernel
theorem dX9_init_48 : decode cX9_init 48 = .ok (.putfield 31, 3) := by decide +kernel
theorem dX9_init_51 : decode cX9_init 51 = .ok (.aload_n 0, 1) := by decide +kernel
theorem dX9_init_52 : decode cX9_init 52 = .ok (.new 34, 3) := by decide +kernel
theorem dX9_init_55 : decode cX9_init 55 = .ok (.dup, 1) := by decide +kernel
theorem dX9_init_56 : decode cX9_init 56 = .ok (.invokespecial 36, 3) := by decide +kernel
theorem dX9_init_59 : decode cX9_init 59 = .ok (.putfield 37, 3) := by decide +kernel
theorem dX9_init_62 : decode cX9_init 62 = .ok (.aload_n 0, 1) := by decide +kernel
theorem dX9_init_63 : decode cX9_init 63 = .ok (.new 41, 3) := by decide +kernel
theorem dX9_init_66 : decode cX9_init 66 = .ok (.dup, 1) := by decide +kernel
theorem dX9_init_67 : decode cX9_init 67 = .ok (.invokespecial 43, 3) := by decide +kernel
theorem dX9_init_70 : decode cX9_init 70 = .ok (.putfield 44, 3) := by decide +kernel
theorem dX9_init_73 : decode cX9_init 73 = .ok (.aload_n 0, 1) := by decide +kernel
theorem dX9_init_74 : decode cX9_init 74 = .ok (.new 48, 3) := by decide +kernel
theorem dX9_init_77 : decode cX9_init 77 = .ok (.dup, 1) := by decide +kernel
theorem dX9_init_78 : decode cX9_init 78 = .ok (.invokespecial 50, 3) := by decide +kernel
end
section
theorem dX9_init_81 : decode cX9_init 81 = .ok (.putfield 51, 3) := by decide +kernel
theorem dX9_init_84 : decode cX9_init 84 = .ok (.aload_n 0, 1) := by decide +kernel
theorem dX9_init_85 : decode cX9_init 85 = .ok (.new 55, 3) := by decide +kernel
theorem dX9_init_88 : decode cX9_init 88 = .ok (.dup, 1) := by decide +kernel
theorem dX9_init_89 : decode cX9_init 89 = .ok (.invokespecial 57, 3) := by decide +kernel
theorem dX9_init_92 : decode cX9_init 92 = .ok (.putfield 58, 3) := by decide +kernel
theorem dX9_init_95 : decode cX9_init 95 = .ok (.aload_n 0, 1) := by decide +kernel
theorem dX9_init_96 : decode cX9_init 96 = .ok (.iconst 2, 1) := by decide +kernel
theorem dX9_init_97 : decode cX9_init 97 = .ok (.anewarray 34, 3) := by decide +kernel
theorem dX9_init_100 : decode cX9_init 100 = .ok (.putfield 62, 3) := by decide +kernel
theorem dX9_init_103 : decode cX9_init 103 = .ok (.new 66, 3) := by decide +kernel
theorem dX9_init_106 : decode cX9_init 106 = .ok (.dup, 1) := by decide +kernel
theorem dX9_init_107 : decode cX9_init 107 = .ok (.invokespecial 68, 3) := by decide +kernel
theorem dX9_init_110 : decode cX9_init 110 = .ok (.astore_n 1, 1) := by decide +kernel
theorem dX9_init_111 : decode cX9_init 111 = .ok (.aload_n 0, 1) := by decide +kernel
theorem dX9_init_112 : decode cX9_init 112 = .ok (.new 69, 3) := by decide +kernel
theorem dX9_init_115 : decode cX9_init 115 = .ok (.dup, 1) := by decide +kernel
theorem dX9_init_116 : decode cX9_init 116 = .ok (.aload_n 0, 1) := by decide +kernel
theorem dX9_init_117 : decode cX9_init 117 = .ok (.getfield 37, 3) := by decide +kernel
theorem dX9_init_120 : decode cX9_init 120 = .ok (.aload_n 1, 1) := by decide +kernel
theorem dX9_init_121 : decode cX9_init 121 = .ok (.aload_n 0, 1) := by decide +kernel
theorem dX9_init_122 : decode cX9_init 122 = .ok (.getfield 27, 3) := by decide +kernel
theorem dX9_init_125 : decode cX9_init 125 = .ok (.invokespecial 71, 3) := by decide +kernel
theorem dX9_init_128 : decode cX9_init 128 = .ok (.putfield 74, 3) := by decide +kernel
theorem dX9_init_131 : decode cX9_init 131 = .ok (.aload_n 0, 1) := by decide +kernel
theorem dX9_init_132 : decode cX9_init 132 = .ok (.new 69, 3) := by decide +kernel
theorem dX9_init_135 : decode cX9_init 135 = .ok (.dup, 1) := by decide +kernel
theorem dX9_init_136 : decode cX9_init 136 = .ok (.aload_n 0, 1) := by decide +kernel
theorem dX9_init_137 : decode cX9_init 137 = .ok (.getfield 37, 3) := by decide +kernel
theorem dX9_init_140 : decode cX9_init 140 = .ok (.aload_n 1, 1) := by decide +kernel
theorem dX9_init_141 : decode cX9_init 141 = .ok (.aload_n 0, 1) := by decide +kernel
theorem dX9_init_142 : decode cX9_init 142 = .ok (.getfield 27, 3) := by decide +kernel
theorem dX9_init_145 : decode cX9_init 145 = .ok (.invokespecial 71, 3) := by decide +kernel
theorem dX9_init_148 : decode cX9_init 148 = .ok (.putfield 78, 3) := by decide +kernel
theorem dX9_init_151 : decode cX9_init 151 = .ok (.aload_n 0, 1) := by decide +kernel
theorem dX9_init_152 : decode cX9_init 152 = .ok (.bipush 100, 2) := by decide +kernel
theorem dX9_init_154 : decode cX9_init 154 = .ok (.invokevirtual 81, 3) := by decide +kernel
theorem dX9_init_157 : decode cX9_init 157 = .ok (.pop, 1) := by decide +kernel
theorem dX9_init_158 : decode cX9_init 158 = .ok (.aload_n 0, 1) := by decide +kernel
theorem dX9_init_159 : decode cX9_init 159 = .ok (.bipush 48, 2) := by decide +kernel
theorem dX9_init_161 : decode cX9_init 161 = .ok (.invokevirtual 81, 3) := by decide +kernel
theorem dX9_init_164 : decode cX9_init 164 = .ok (.pop, 1) := by decide +kernel
theorem dX9_init_165 : decode cX9_init 165 = .ok (.aload_n 0, 1) := by decide +kernel
theorem dX9_init_166 : decode cX9_init 166 = .ok (.bipush 59, 2) := by decide +kernel
theorem dX9_init_168 : decode cX9_init 168 = .ok (.invokevirtual 81, 3) := by decide +kernel
theorem dX9_init_171 : decode cX9_init 171 = .ok (.pop, 1) := by decide +kernel
theorem dX9_init_172 : decode cX9_init 172 = .ok (.aload_n 0, 1) := by decide +kernel
theorem dX9_init_173 : decode cX9_init 173 = .ok (.invokevirtual 85, 3) := by decide +kernel
theorem dX9_init_176 : decode cX9_init 176 = .ok (.pop, 1) := by decide +kernel
theorem dX9_init_177 : decode cX9_init 177 = .ok (.return_, 1) := by decide +kernel
theorem dX9_feed_0 : decode cX9_feed 0 = .ok (.iload_n 1, 1) := by decide +kernel
theorem dX9_feed_1 : decode cX9_feed 1 = .ok (.ifCond .lt 10, 3) := by decide +kernel
theorem dX9_feed_4 : decode cX9_feed 4 = .ok (.iload_n 1, 1) := by decide +kernel
theorem dX9_feed_5 : decode cX9_feed 5 = .ok (.sipush 256, 3) := by decide +kernel
theorem dX9_feed_8 : decode cX9_feed 8 = .ok (.if_icmp .lt 6, 3) := by decide +kernel
theorem dX9_feed_11 : decode cX9_feed 11 = .ok (.ldc 89, 2) := by decide +kernel
theorem dX9_feed_13 : decode cX9_feed 13 = .ok (.ireturn, 1) := by decide +kernel
theorem dX9_feed_14 : decode cX9_feed 14 = .ok (.aload_n 0, 1) := by decide +kernel
theorem dX9_feed_15 : decode cX9_feed 15 = .ok (.iload_n 1, 1) := by decide +kernel
theorem dX9_feed_16 : decode cX9_feed 16 = .ok (.invokevirtual 81, 3) := by decide +kernel
theorem dX9_feed_19 : decode cX9_feed 19 = .ok (.ifCond .eq 10, 3) := by decide +kernel
theorem dX9_feed_22 : decode cX9_feed 22 = .ok (.aload_n 0, 1) := by decide +kernel
theorem dX9_feed_23 : decode cX9_feed 23 = .ok (.getfield 90, 3) := by decide +kernel
theorem dX9_feed_26 : decode cX9_feed 26 = .ok (.goto 5, 3) := by decide +kernel
theorem dX9_feed_29 : decode cX9_feed 29 = .ok (.ldc 93, 2) := by decide +kernel
theorem dX9_feed_31 : decode cX9_feed 31 = .ok (.ireturn, 1) := by decide +kernel
theorem dX9_functions_0 : decode cX9_functions 0 = .ok (.aload_n 0, 1) := by decide +kernel
theorem dX9_functions_1 : decode cX9_functions 1 = .ok (.invokevirtual 85, 3) := by decide +kernel
theorem dX9_functions_4 : decode cX9_functions 4 = .ok (.istore_n 1, 1) := by decide +kernel
theorem dX9_functions_5 : decode cX9_functions 5 = .ok (.iload_n 1, 1) := by decide +kernel
theorem dX9_functions_6 : decode cX9_functions 6 = .ok (.ifCond .ne 13, 3) := by decide +kernel
theorem dX9_functions_9 : decode cX9_functions 9 = .ok (.aload_n 0, 1) := by decide +kernel
theorem dX9_functions_10 : decode cX9_functions 10 = .ok (.getfield 27, 3) := by decide +kernel
theorem dX9_functions_13 : decode cX9_functions 13 = .ok (.getfield 94, 3) := by decide +kernel
theorem dX9_functions_16 : decode cX9_functions 16 = .ok (.goto 7, 3) := by decide +kernel
theorem dX9_functions_19 : decode cX9_functions 19 = .ok (.bipush (-10), 2) := by decide +kernel
theorem dX9_functions_21 : decode cX9_functions 21 = .ok (.iload_n 1, 1) := by decide +kernel
theorem dX9_functions_22 : decode cX9_functions 22 = .ok (.isub, 1) := by decide +kernel
theorem dX9_functions_23 : decode cX9_functions 23 = .ok (.ireturn, 1) := by decide +kernel
theorem dX9_fault_0 : decode cX9_fault 0 = .ok (.aload_n 0, 1) := by decide +kernel
theorem dX9_fault_1 : decode cX9_fault 1 = .ok (.getfield 13, 3) := by decide +kernel
theorem dX9_fault_4 : decode cX9_fault 4 = .ok (.ireturn, 1) := by decide +kernel
theorem dX9_told_0 : decode cX9_told 0 = .ok (.iload_n 1, 1) := by decide +kernel
theorem dX9_told_1 : decode cX9_told 1 = .ok (.tableswitch 248 0 17 #[87, 95, 100, 108, 116, 135, 148, 156, 164, 172, 180, 188, 203, 211, 219, 227, 235, 240], 87) := by decide +kernel
theorem dX9_told_88 : decode cX9_told 88 = .ok (.aload_n 0, 1) := by decide +kernel
theorem dX9_told_89 : decode cX9_told 89 = .ok (.getfield 27, 3) := by decide +kernel
theorem dX9_told_92 : decode cX9_told 92 = .ok (.getfield 94, 3) := by decide +kernel
theorem dX9_told_95 : decode cX9_told 95 = .ok (.ireturn, 1) := by decide +kernel
theorem dX9_told_96 : decode cX9_told 96 = .ok (.aload_n 0, 1) := by decide +kernel
theorem dX9_told_97 : decode cX9_told 97 = .ok (.getfield 90, 3) := by decide +kernel
theorem dX9_told_100 : decode cX9_told 100 = .ok (.ireturn, 1) := by decide +kernel
theorem dX9_told_101 : decode cX9_told 101 = .ok (.aload_n 0, 1) := by decide +kernel
theorem dX9_told_102 : decode cX9_told 102 = .ok (.getfield 44, 3) := by decide +kernel
theorem dX9_told_105 : decode cX9_told 105 = .ok (.invokevirtual 97, 3) := by decide +kernel
theorem dX9_told_108 : decode cX9_told 108 = .ok (.ireturn, 1) := by decide +kernel
theorem dX9_told_109 : decode cX9_told 109 = .ok (.aload_n 0, 1) := by decide +kernel
theorem dX9_told_110 : decode cX9_told 110 = .ok (.getfield 44, 3) := by decide +kernel
theorem dX9_told_113 : decode cX9_told 113 = .ok (.getfield 100, 3) := by decide +kernel
theorem dX9_told_116 : decode cX9_told 116 = .ok (.ireturn, 1) := by decide +kernel
theorem dX9_told_117 : decode cX9_told 117 = .ok (.aload_n 0, 1) := by decide +kernel
theorem dX9_told_118 : decode cX9_told 118 = .ok (.aload_n 0, 1) := by decide +kernel
theorem dX9_told_119 : decode cX9_told 119 = .ok (.getfield 37, 3) := by decide +kernel
theorem dX9_told_122 : decode cX9_told 122 = .ok (.getfield 103, 3) := by decide +kernel
theorem dX9_told_125 : decode cX9_told 125 = .ok (.aload_n 0, 1) := by decide +kernel
theorem dX9_told_126 : decode cX9_told 126 = .ok (.getfield 37, 3) := by decide +kernel
theorem dX9_told_129 : decode cX9_told 129 = .ok (.getfield 106, 3) := by decide +kernel
theorem dX9_told_132 : decode cX9_told 132 = .ok (.invokevirtual 109, 3) := by decide +kernel
theorem dX9_told_135 : decode cX9_told 135 = .ok (.ireturn, 1) := by decide +kernel
theorem dX9_told_136 : decode cX9_told 136 = .ok (.aload_n 0, 1) := by decide +kernel
theorem dX9_told_137 : decode cX9_told 137 = .ok (.invokevirtual 113, 3) := by decide +kernel
theorem dX9_told_140 : decode cX9_told 140 = .ok (.ifCond .eq 7, 3) := by decide +kernel
theorem dX9_told_143 : decode cX9_told 143 = .ok (.iconst 1, 1) := by decide +kernel
theorem dX9_told_144 : decode cX9_told 144 = .ok (.goto 4, 3) := by decide +kernel
theorem dX9_told_147 : decode cX9_told 147 = .ok (.iconst 0, 1) := by decide +kernel
theorem dX9_told_148 : decode cX9_told 148 = .ok (.ireturn, 1) := by decide +kernel
theorem dX9_told_149 : decode cX9_told 149 = .ok (.aload_n 0, 1) := by decide +kernel
theorem dX9_told_150 : decode cX9_told 150 = .ok (.getfield 74, 3) := by decide +kernel
theorem dX9_told_153 : decode cX9_told 153 = .ok (.getfield 117, 3) := by decide +kernel
theorem dX9_told_156 : decode cX9_told 156 = .ok (.ireturn, 1) := by decide +kernel
theorem dX9_told_157 : decode cX9_told 157 = .ok (.aload_n 0, 1) := by decide +kernel
theorem dX9_told_158 : decode cX9_told 158 = .ok (.getfield 74, 3) := by decide +kernel
theorem dX9_told_161 : decode cX9_told 161 = .ok (.getfield 120, 3) := by decide +kernel
theorem dX9_told_164 : decode cX9_told 164 = .ok (.ireturn, 1) := by decide +kernel
theorem dX9_told_165 : decode cX9_told 165 = .ok (.aload_n 0, 1) := by decide +kernel
theorem dX9_told_166 : decode cX9_told 166 = .ok (.getfield 74, 3) := by decide +kernel
theorem dX9_told_169 : decode cX9_told 169 = .ok (.getfield 123, 3) := by decide +kernel
theorem dX9_told_172 : decode cX9_told 172 = .ok (.ireturn, 1) := by decide +kernel
theorem dX9_told_173 : decode cX9_told 173 = .ok (.aload_n 0, 1) := by decide +kernel
theorem dX9_told_174 : decode cX9_told 174 = .ok (.getfield 74, 3) := by decide +kernel
theorem dX9_told_177 : decode cX9_told 177 = .ok (.getfield 126, 3) := by decide +kernel
theorem dX9_told_180 : decode cX9_told 180 = .ok (.ireturn, 1) := by decide +kernel
theorem dX9_told_181 : decode cX9_told 181 = .ok (.aload_n 0, 1) := by decide +kernel
theorem dX9_told_182 : decode cX9_told 182 = .ok (.getfield 44, 3) := by decide +kernel
theorem dX9_told_185 : decode cX9_told 185 = .ok (.invokevirtual 129, 3) := by decide +kernel
theorem dX9_told_188 : decode cX9_told 188 = .ok (.ireturn, 1) := by decide +kernel
theorem dX9_told_189 : decode cX9_told 189 = .ok (.aload_n 0, 1) := by decide +kernel
theorem dX9_told_190 : decode cX9_told 190 = .ok (.getfield 44, 3) := by decide +kernel
theorem dX9_told_193 : decode cX9_told 193 = .ok (.aload_n 0, 1) := by decide +kernel
theorem dX9_told_194 : decode cX9_told 194 = .ok (.getfield 37, 3) := by decide +kernel
theorem dX9_told_197 : decode cX9_told 197 = .ok (.getfield 132, 3) := by decide +kernel
theorem dX9_told_200 : decode cX9_told 200 = .ok (.invokevirtual 135, 3) := by decide +kernel
theorem dX9_told_203 : decode cX9_told 203 = .ok (.ireturn, 1) := by decide +kernel
theorem dX9_told_204 : decode cX9_told 204 = .ok (.aload_n 0, 1) := by decide +kernel
theorem dX9_told_205 : decode cX9_told 205 = .ok (.getfield 44, 3) := by decide +kernel
theorem dX9_told_208 : decode cX9_told 208 = .ok (.invokevirtual 139, 3) := by decide +kernel
theorem dX9_told_211 : decode cX9_told 211 = .ok (.ireturn, 1) := by decide +kernel
theorem dX9_told_212 : decode cX9_told 212 = .ok (.aload_n 0, 1) := by decide +kernel
theorem dX9_told_213 : decode cX9_told 213 = .ok (.getfield 37, 3) := by decide +kernel
theorem dX9_told_216 : decode cX9_told 216 = .ok (.getfield 103, 3) := by decide +kernel
theorem dX9_told_219 : decode cX9_told 219 = .ok (.ireturn, 1) := by decide +kernel
theorem dX9_told_220 : decode cX9_told 220 = .ok (.aload_n 0, 1) := by decide +kernel
theorem dX9_told_221 : decode cX9_told 221 = .ok (.getfield 37, 3) := by decide +kernel
theorem dX9_told_224 : decode cX9_told 224 = .ok (.getfield 106, 3) := by decide +kernel
theorem dX9_told_227 : decode cX9_told 227 = .ok (.ireturn, 1) := by decide +kernel
theorem dX9_told_228 : decode cX9_told 228 = .ok (.aload_n 0, 1) := by decide +kernel
theorem dX9_told_229 : decode cX9_told 229 = .ok (.getfield 58, 3) := by decide +kernel
theorem dX9_told_232 : decode cX9_told 232 = .ok (.getfield 142, 3) := by decide +kernel
theorem dX9_told_235 : decode cX9_told 235 = .ok (.ireturn, 1) := by decide +kernel
theorem dX9_told_236 : decode cX9_told 236 = .ok (.aload_n 0, 1) := by decide +kernel
theorem dX9_told_237 : decode cX9_told 237 = .ok (.invokevirtual 145, 3) := by decide +kernel
theorem dX9_told_240 : decode cX9_told 240 = .ok (.ireturn, 1) := by decide +kernel
theorem dX9_told_241 : decode cX9_told 241 = .ok (.aload_n 0, 1) := by decide +kernel
theorem dX9_told_242 : decode cX9_told 242 = .ok (.getfield 51, 3) := by decide +kernel
theorem dX9_told_245 : decode cX9_told 245 = .ok (.getfield 148, 3) := by decide +kernel
theorem dX9_told_248 : decode cX9_told 248 = .ok (.ireturn, 1) := by decide +kernel
theorem dX9_told_249 : decode cX9_told 249 = .ok (.ldc 89, 2) := by decide +kernel
theorem dX9_told_251 : decode cX9_told 251 = .ok (.ireturn, 1) := by decide +kernel
theorem dX9_cell_0 : decode cX9_cell 0 = .ok (.iload_n 1, 1) := by decide +kernel
theorem dX9_cell_1 : decode cX9_cell 1 = .ok (.invokestatic 151, 3) := by decide +kernel
theorem dX9_cell_4 : decode cX9_cell 4 = .ok (.ifCond .eq 15, 3) := by decide +kernel
theorem dX9_cell_7 : decode cX9_cell 7 = .ok (.aload_n 0, 1) := by decide +kernel
theorem dX9_cell_8 : decode cX9_cell 8 = .ok (.getfield 37, 3) := by decide +kernel
theorem dX9_cell_11 : decode cX9_cell 11 = .ok (.getfield 132, 3) := by decide +kernel
theorem dX9_cell_14 : decode cX9_cell 14 = .ok (.iload_n 1, 1) := by decide +kernel
theorem dX9_cell_15 : decode cX9_cell 15 = .ok (.iaload, 1) := by decide +kernel
theorem dX9_cell_16 : decode cX9_cell 16 = .ok (.goto 5, 3) := by decide +kernel
theorem dX9_cell_19 : decode cX9_cell 19 = .ok (.ldc 154, 2) := by decide +kernel
theorem dX9_cell_21 : decode cX9_cell 21 = .ok (.ireturn, 1) := by decide +kernel
theorem dX9_call_0 : decode cX9_call 0 = .ok (.aload_n 0, 1) := by decide +kernel
theorem dX9_call_1 : decode cX9_call 1 = .ok (.getfield 44, 3) := by decide +kernel
theorem dX9_call_4 : decode cX9_call 4 = .ok (.iload_n 1, 1) := by decide +kernel
theorem dX9_call_5 : decode cX9_call 5 = .ok (.invokevirtual 155, 3) := by decide +kernel
theorem dX9_call_8 : decode cX9_call 8 = .ok (.astore_n 3, 1) := by decide +kernel
theorem dX9_call_9 : decode cX9_call 9 = .ok (.aload_n 3, 1) := by decide +kernel
theorem dX9_call_10 : decode cX9_call 10 = .ok (.ifnonnull 6, 3) := by decide +kernel
theorem dX9_call_13 : decode cX9_call 13 = .ok (.ldc 154, 2) := by decide +kernel
theorem dX9_call_15 : decode cX9_call 15 = .ok (.ireturn, 1) := by decide +kernel
theorem dX9_call_16 : decode cX9_call 16 = .ok (.iload_n 2, 1) := by decide +kernel
theorem dX9_call_17 : decode cX9_call 17 = .ok (.tableswitch 129 0 10 #[59, 64, 69, 74, 79, 84, 89, 94, 99, 104, 109], 59) := by decide +kernel
theorem dX9_call_76 : decode cX9_call 76 = .ok (.aload_n 3, 1) := by decide +kernel
theorem dX9_call_77 : decode cX9_call 77 = .ok (.getfield 159, 3) := by decide +kernel
theorem dX9_call_80 : decode cX9_call 80 = .ok (.ireturn, 1) := by decide +kernel
theorem dX9_call_81 : decode cX9_call 81 = .ok (.aload_n 3, 1) := by decide +kernel
theorem dX9_call_82 : decode cX9_call 82 = .ok (.getfield 164, 3) := by decide +kernel
theorem dX9_call_85 : decode cX9_call 85 = .ok (.ireturn, 1) := by decide +kernel
theorem dX9_call_86 : decode cX9_call 86 = .ok (.aload_n 3, 1) := by decide +kernel
theorem dX9_call_87 : decode cX9_call 87 = .ok (.getfield 167, 3) := by decide +kernel
theorem dX9_call_90 : decode cX9_call 90 = .ok (.ireturn, 1) := by decide +kernel
theorem dX9_call_91 : decode cX9_call 91 = .ok (.aload_n 3, 1) := by decide +kernel
theorem dX9_call_92 : decode cX9_call 92 = .ok (.getfield 170, 3) := by decide +kernel
theorem dX9_call_95 : decode cX9_call 95 = .ok (.ireturn, 1) := by decide +kernel
theorem dX9_call_96 : decode cX9_call 96 = .ok (.aload_n 3, 1) := by decide +kernel
theorem dX9_call_97 : decode cX9_call 97 = .ok (.getfield 173, 3) := by decide +kernel
theorem dX9_call_100 : decode cX9_call 100 = .ok (.ireturn, 1) := by decide +kernel
theorem dX9_call_101 : decode cX9_call 101 = .ok (.aload_n 3, 1) := by decide +kernel
theorem dX9_call_102 : decode cX9_call 102 = .ok (.getfield 176, 3) := by decide +kernel
theorem dX9_call_105 : decode cX9_call 105 = .ok (.ireturn, 1) := by decide +kernel
theorem dX9_call_106 : decode cX9_call 106 = .ok (.aload_n 3, 1) := by decide +kernel
theorem dX9_call_107 : decode cX9_call 107 = .ok (.getfield 179, 3) := by decide +kernel
theorem dX9_call_110 : decode cX9_call 110 = .ok (.ireturn, 1) := by decide +kernel
theorem dX9_call_111 : decode cX9_call 111 = .ok (.aload_n 3, 1) := by decide +kernel
theorem dX9_call_112 : decode cX9_call 112 = .ok (.getfield 182, 3) := by decide +kernel
theorem dX9_call_115 : decode cX9_call 115 = .ok (.ireturn, 1) := by decide +kernel
theorem dX9_call_116 : decode cX9_call 116 = .ok (.aload_n 3, 1) := by decide +kernel
theorem dX9_call_117 : decode cX9_call 117 = .ok (.invokevirtual 185, 3) := by decide +kernel
theorem dX9_call_120 : decode cX9_call 120 = .ok (.ireturn, 1) := by decide +kernel
theorem dX9_call_121 : decode cX9_call 121 = .ok (.aload_n 3, 1) := by decide +kernel
theorem dX9_call_122 : decode cX9_call 122 = .ok (.getfield 188, 3) := by decide +kernel
theorem dX9_call_125 : decode cX9_call 125 = .ok (.ireturn, 1) := by decide +kernel
theorem dX9_call_126 : decode cX9_call 126 = .ok (.aload_n 3, 1) := by decide +kernel
theorem dX9_call_127 : decode cX9_call 127 = .ok (.aload_n 0, 1) := by decide +kernel
theorem dX9_call_128 : decode cX9_call 128 = .ok (.getfield 37, 3) := by decide +kernel
theorem dX9_call_131 : decode cX9_call 131 = .ok (.getfield 132, 3) := by decide +kernel
theorem dX9_call_134 : decode cX9_call 134 = .ok (.invokevirtual 191, 3) := by decide +kernel
theorem dX9_call_137 : decode cX9_call 137 = .ok (.ifCond .eq 7, 3) := by decide +kernel
theorem dX9_call_140 : decode cX9_call 140 = .ok (.iconst 1, 1) := by decide +kernel
theorem dX9_call_141 : decode cX9_call 141 = .ok (.goto 4, 3) := by decide +kernel
theorem dX9_call_144 : decode cX9_call 144 = .ok (.iconst 0, 1) := by decide +kernel
theorem dX9_call_145 : decode cX9_call 145 = .ok (.ireturn, 1) := by decide +kernel
theorem dX9_call_146 : decode cX9_call 146 = .ok (.ldc 89, 2) := by decide +kernel
theorem dX9_call_148 : decode cX9_call 148 = .ok (.ireturn, 1) := by decide +kernel
theorem dX9_find_0 : decode cX9_find 0 = .ok (.aload_n 0, 1) := by decide +kernel
theorem dX9_find_1 : decode cX9_find 1 = .ok (.getfield 44, 3) := by decide +kernel
theorem dX9_find_4 : decode cX9_find 4 = .ok (.iload_n 1, 1) := by decide +kernel
theorem dX9_find_5 : decode cX9_find 5 = .ok (.invokevirtual 195, 3) := by decide +kernel
theorem dX9_find_8 : decode cX9_find 8 = .ok (.ireturn, 1) := by decide +kernel
theorem dX9_set_0 : decode cX9_set 0 = .ok (.iload_n 1, 1) := by decide +kernel
theorem dX9_set_1 : decode cX9_set 1 = .ok (.invokestatic 151, 3) := by decide +kernel
theorem dX9_set_4 : decode cX9_set 4 = .ok (.ifCond .ne 6, 3) := by decide +kernel
theorem dX9_set_7 : decode cX9_set 7 = .ok (.ldc 154, 2) := by decide +kernel
theorem dX9_set_9 : decode cX9_set 9 = .ok (.ireturn, 1) := by decide +kernel
theorem dX9_set_10 : decode cX9_set 10 = .ok (.iload_n 2, 1) := by decide +kernel
theorem dX9_set_11 : decode cX9_set 11 = .ok (.invokestatic 199, 3) := by decide +kernel
theorem dX9_set_14 : decode cX9_set 14 = .ok (.ifCond .ne 6, 3) := by decide +kernel
theorem dX9_set_17 : decode cX9_set 17 = .ok (.ldc 89, 2) := by decide +kernel
theorem dX9_set_19 : decode cX9_set 19 = .ok (.ireturn, 1) := by decide +kernel
theorem dX9_set_20 : decode cX9_set 20 = .ok (.aload_n 0, 1) := by decide +kernel
theorem dX9_set_21 : decode cX9_set 21 = .ok (.iload_n 1, 1) := by decide +kernel
theorem dX9_set_22 : decode cX9_set 22 = .ok (.iload_n 2, 1) := by decide +kernel
theorem dX9_set_23 : decode cX9_set 23 = .ok (.invokevirtual 202, 3) := by decide +kernel
theorem dX9_set_26 : decode cX9_set 26 = .ok (.ireturn, 1) := by decide +kernel
theorem dX9_aim_0 : decode cX9_aim 0 = .ok (.aload_n 0, 1) := by decide +kernel
theorem dX9_aim_1 : decode cX9_aim 1 = .ok (.getfield 27, 3) := by decide +kernel
theorem dX9_aim_4 : decode cX9_aim 4 = .ok (.iload_n 1, 1) := by decide +kernel
theorem dX9_aim_5 : decode cX9_aim 5 = .ok (.invokevirtual 205, 3) := by decide +kernel
theorem dX9_aim_8 : decode cX9_aim 8 = .ok (.ifCond .ne 6, 3) := by decide +kernel
theorem dX9_aim_11 : decode cX9_aim 11 = .ok (.ldc 154, 2) := by decide +kernel
theorem dX9_aim_13 : decode cX9_aim 13 = .ok (.ireturn, 1) := by decide +kernel
theorem dX9_aim_14 : decode cX9_aim 14 = .ok (.iload_n 2, 1) := by decide +kernel
theorem dX9_aim_15 : decode cX9_aim 15 = .ok (.invokestatic 199, 3) := by decide +kernel
theorem dX9_aim_18 : decode cX9_aim 18 = .ok (.ifCond .ne 6, 3) := by decide +kernel
theorem dX9_aim_21 : decode cX9_aim 21 = .ok (.ldc 89, 2) := by decide +kernel
theorem dX9_aim_23 : decode cX9_aim 23 = .ok (.ireturn, 1) := by decide +kernel
theorem dX9_aim_24 : decode cX9_aim 24 = .ok (.iload_n 1, 1) := by decide +kernel
theorem dX9_aim_25 : decode cX9_aim 25 = .ok (.aload_n 0, 1) := by decide +kernel
theorem dX9_aim_26 : decode cX9_aim 26 = .ok (.getfield 37, 3) := by decide +kernel
theorem dX9_aim_29 : decode cX9_aim 29 = .ok (.getfield 103, 3) := by decide +kernel
theorem dX9_aim_32 : decode cX9_aim 32 = .ok (.if_icmp .ne 14, 3) := by decide +kernel
theorem dX9_aim_35 : decode cX9_aim 35 = .ok (.iload_n 2, 1) := by decide +kernel
theorem dX9_aim_36 : decode cX9_aim 36 = .ok (.aload_n 0, 1) := by decide +kernel
theorem dX9_aim_37 : decode cX9_aim 37 = .ok (.getfield 37, 3) := by decide +kernel
theorem dX9_aim_40 : decode cX9_aim 40 = .ok (.getfield 106, 3) := by decide +kernel
theorem dX9_aim_43 : decode cX9_aim 43 = .ok (.if_icmp .eq 7, 3) := by decide +kernel
theorem dX9_aim_46 : decode cX9_aim 46 = .ok (.iconst 1, 1) := by decide +kernel
theorem dX9_aim_47 : decode cX9_aim 47 = .ok (.goto 4, 3) := by decide +kernel
theorem dX9_aim_50 : decode cX9_aim 50 = .ok (.iconst 0, 1) := by decide +kernel
theorem dX9_aim_51 : decode cX9_aim 51 = .ok (.istore_n 3, 1) := by decide +kernel
theorem dX9_aim_52 : decode cX9_aim 52 = .ok (.aload_n 0, 1) := by decide +kernel
theorem dX9_aim_53 : decode cX9_aim 53 = .ok (.getfield 51, 3) := by decide +kernel
theorem dX9_aim_56 : decode cX9_aim 56 = .ok (.aload_n 0, 1) := by decide +kernel
theorem dX9_aim_57 : decode cX9_aim 57 = .ok (.getfield 37, 3) := by decide +kernel
theorem dX9_aim_60 : decode cX9_aim 60 = .ok (.getfield 103, 3) := by decide +kernel
theorem dX9_aim_63 : decode cX9_aim 63 = .ok (.aload_n 0, 1) := by decide +kernel
theorem dX9_aim_64 : decode cX9_aim 64 = .ok (.getfield 37, 3) := by decide +kernel
theorem dX9_aim_67 : decode cX9_aim 67 = .ok (.getfield 106, 3) := by decide +kernel
theorem dX9_aim_70 : decode cX9_aim 70 = .ok (.invokevirtual 208, 3) := by decide +kernel
theorem dX9_aim_73 : decode cX9_aim 73 = .ok (.aload_n 0, 1) := by decide +kernel
theorem dX9_aim_74 : decode cX9_aim 74 = .ok (.getfield 37, 3) := by decide +kernel
theorem dX9_aim_77 : decode cX9_aim 77 = .ok (.iload_n 1, 1) := by decide +kernel
theorem dX9_aim_78 : decode cX9_aim 78 = .ok (.putfield 103, 3) := by decide +kernel
theorem dX9_aim_81 : decode cX9_aim 81 = .ok (.aload_n 0, 1) := by decide +kernel
theorem dX9_aim_82 : decode cX9_aim 82 = .ok (.getfield 37, 3) := by decide +kernel
theorem dX9_aim_85 : decode cX9_aim 85 = .ok (.iload_n 2, 1) := by decide +kernel
theorem dX9_aim_86 : decode cX9_aim 86 = .ok (.putfield 106, 3) := by decide +kernel
theorem dX9_aim_89 : decode cX9_aim 89 = .ok (.iload_n 3, 1) := by decide +kernel
theorem dX9_aim_90 : decode cX9_aim 90 = .ok (.ifCond .eq 7, 3) := by decide +kernel
theorem dX9_aim_93 : decode cX9_aim 93 = .ok (.iconst 1, 1) := by decide +kernel
theorem dX9_aim_94 : decode cX9_aim 94 = .ok (.goto 4, 3) := by decide +kernel
theorem dX9_aim_97 : decode cX9_aim 97 = .ok (.iconst 0, 1) := by decide +kernel
theorem dX9_aim_98 : decode cX9_aim 98 = .ok (.ireturn, 1) := by decide +kernel
theorem dX9_bring_0 : decode cX9_bring 0 = .ok (.aload_n 0, 1) := by decide +kernel
theorem dX9_bring_1 : decode cX9_bring 1 = .ok (.getfield 44, 3) := by decide +kernel
theorem dX9_bring_4 : decode cX9_bring 4 = .ok (.aload_n 0, 1) := by decide +kernel
theorem dX9_bring_5 : decode cX9_bring 5 = .ok (.getfield 74, 3) := by decide +kernel
theorem dX9_bring_8 : decode cX9_bring 8 = .ok (.aload_n 0, 1) := by decide +kernel
theorem dX9_bring_9 : decode cX9_bring 9 = .ok (.getfield 44, 3) := by decide +kernel
theorem dX9_bring_12 : decode cX9_bring 12 = .ok (.getfield 212, 3) := by decide +kernel
theorem dX9_bring_15 : decode cX9_bring 15 = .ok (.invokevirtual 216, 3) := by decide +kernel
theorem dX9_bring_18 : decode cX9_bring 18 = .ok (.invokevirtual 220, 3) := by decide +kernel
theorem dX9_bring_21 : decode cX9_bring 21 = .ok (.aload_n 0, 1) := by decide +kernel
theorem dX9_bring_22 : decode cX9_bring 22 = .ok (.getfield 44, 3) := by decide +kernel
theorem dX9_bring_25 : decode cX9_bring 25 = .ok (.invokevirtual 97, 3) := by decide +kernel
theorem dX9_bring_28 : decode cX9_bring 28 = .ok (.ireturn, 1) := by decide +kernel
theorem dX9_drift_0 : decode cX9_drift 0 = .ok (.iload_n 1, 1) := by decide +kernel
theorem dX9_drift_1 : decode cX9_drift 1 = .ok (.iconst 1, 1) := by decide +kernel
theorem dX9_drift_2 : decode cX9_drift 2 = .ok (.if_icmp .lt 9, 3) := by decide +kernel
theorem dX9_drift_5 : decode cX9_drift 5 = .ok (.iload_n 1, 1) := by decide +kernel
theorem dX9_drift_6 : decode cX9_drift 6 = .ok (.bipush 12, 2) := by decide +kernel
theorem dX9_drift_8 : decode cX9_drift 8 = .ok (.if_icmp .le 6, 3) := by decide +kernel
theorem dX9_drift_11 : decode cX9_drift 11 = .ok (.ldc 89, 2) := by decide +kernel
theorem dX9_drift_13 : decode cX9_drift 13 = .ok (.ireturn, 1) := by decide +kernel
theorem dX9_drift_14 : decode cX9_drift 14 = .ok (.iconst 0, 1) := by decide +kernel
theorem dX9_drift_15 : decode cX9_drift 15 = .ok (.istore_n 2, 1) := by decide +kernel
theorem dX9_drift_16 : decode cX9_drift 16 = .ok (.iload_n 2, 1) := by decide +kernel
theorem dX9_drift_17 : decode cX9_drift 17 = .ok (.iload_n 1, 1) := by decide +kernel
theorem dX9_drift_18 : decode cX9_drift 18 = .ok (.if_icmp .ge 38, 3) := by decide +kernel
theorem dX9_drift_21 : decode cX9_drift 21 = .ok (.aload_n 0, 1) := by decide +kernel
theorem dX9_drift_22 : decode cX9_drift 22 = .ok (.getfield 37, 3) := by decide +kernel
theorem dX9_drift_25 : decode cX9_drift 25 = .ok (.bipush 8, 2) := by decide +kernel
theorem dX9_drift_27 : decode cX9_drift 27 = .ok (.invokevirtual 224, 3) := by decide +kernel
theorem dX9_drift_30 : decode cX9_drift 30 = .ok (.istore_n 3, 1) := by decide +kernel
theorem dX9_drift_31 : decode cX9_drift 31 = .ok (.aload_n 0, 1) := by decide +kernel
theorem dX9_drift_32 : decode cX9_drift 32 = .ok (.getfield 37, 3) := by decide +kernel
theorem dX9_drift_35 : decode cX9_drift 35 = .ok (.bipush 10, 2) := by decide +kernel
theorem dX9_drift_37 : decode cX9_drift 37 = .ok (.invokevirtual 224, 3) := by decide +kernel
theorem dX9_drift_40 : decode cX9_drift 40 = .ok (.istore 4, 2) := by decide +kernel
theorem dX9_drift_42 : decode cX9_drift 42 = .ok (.aload_n 0, 1) := by decide +kernel
theorem dX9_drift_43 : decode cX9_drift 43 = .ok (.iload_n 3, 1) := by decide +kernel
theorem dX9_drift_44 : decode cX9_drift 44 = .ok (.iload 4, 2) := by decide +kernel
theorem dX9_drift_46 : decode cX9_drift 46 = .ok (.invokevirtual 202, 3) := by decide +kernel
theorem dX9_drift_49 : decode cX9_drift 49 = .ok (.pop, 1) := by decide +kernel
theorem dX9_drift_50 : decode cX9_drift 50 = .ok (.iinc 2 1, 3) := by decide +kernel
theorem dX9_drift_53 : decode cX9_drift 53 = .ok (.goto (-37), 3) := by decide +kernel
theorem dX9_drift_56 : decode cX9_drift 56 = .ok (.aload_n 0, 1) := by decide +kernel
theorem dX9_drift_57 : decode cX9_drift 57 = .ok (.getfield 37, 3) := by decide +kernel
theorem dX9_drift_60 : decode cX9_drift 60 = .ok (.getfield 227, 3) := by decide +kernel
theorem dX9_drift_63 : decode cX9_drift 63 = .ok (.ireturn, 1) := by decide +kernel
theorem dX9_undo_0 : decode cX9_undo 0 = .ok (.iload_n 1, 1) := by decide +kernel
theorem dX9_undo_1 : decode cX9_undo 1 = .ok (.iconst 1, 1) := by decide +kernel
theorem dX9_undo_2 : decode cX9_undo 2 = .ok (.if_icmp .lt 9, 3) := by decide +kernel
theorem dX9_undo_5 : decode cX9_undo 5 = .ok (.iload_n 1, 1) := by decide +kernel
theorem dX9_undo_6 : decode cX9_undo 6 = .ok (.bipush 16, 2) := by decide +kernel
theorem dX9_undo_8 : decode cX9_undo 8 = .ok (.if_icmp .le 6, 3) := by decide +kernel
theorem dX9_undo_11 : decode cX9_undo 11 = .ok (.ldc 89, 2) := by decide +kernel
theorem dX9_undo_13 : decode cX9_undo 13 = .ok (.ireturn, 1) := by decide +kernel
theorem dX9_undo_14 : decode cX9_undo 14 = .ok (.iload_n 1, 1) := by decide +kernel
theorem dX9_undo_15 : decode cX9_undo 15 = .ok (.aload_n 0, 1) := by decide +kernel
theorem dX9_undo_16 : decode cX9_undo 16 = .ok (.getfield 51, 3) := by decide +kernel
theorem dX9_undo_19 : decode cX9_undo 19 = .ok (.getfield 148, 3) := by decide +kernel
theorem dX9_undo_22 : decode cX9_undo 22 = .ok (.if_icmp .le 6, 3) := by decide +kernel
theorem dX9_undo_25 : decode cX9_undo 25 = .ok (.ldc 230, 2) := by decide +kernel
theorem dX9_undo_27 : decode cX9_undo 27 = .ok (.ireturn, 1) := by decide +kernel
theorem dX9_undo_28 : decode cX9_undo 28 = .ok (.iconst 0, 1) := by decide +kernel
theorem dX9_undo_29 : decode cX9_undo 29 = .ok (.istore_n 2, 1) := by decide +kernel
theorem dX9_undo_30 : decode cX9_undo 30 = .ok (.iload_n 2, 1) := by decide +kernel
theorem dX9_undo_31 : decode cX9_undo 31 = .ok (.iload_n 1, 1) := by decide +kernel
theorem dX9_undo_32 : decode cX9_undo 32 = .ok (.if_icmp .ge 20, 3) := by decide +kernel
theorem dX9_undo_35 : decode cX9_undo 35 = .ok (.aload_n 0, 1) := by decide +kernel
theorem dX9_undo_36 : decode cX9_undo 36 = .ok (.getfield 51, 3) := by decide +kernel
theorem dX9_undo_39 : decode cX9_undo 39 = .ok (.aload_n 0, 1) := by decide +kernel
theorem dX9_undo_40 : decode cX9_undo 40 = .ok (.getfield 37, 3) := by decide +kernel
theorem dX9_undo_43 : decode cX9_undo 43 = .ok (.invokevirtual 231, 3) := by decide +kernel
theorem dX9_undo_46 : decode cX9_undo 46 = .ok (.iinc 2 1, 3) := by decide +kernel
theorem dX9_undo_49 : decode cX9_undo 49 = .ok (.goto (-19), 3) := by decide +kernel
theorem dX9_undo_52 : decode cX9_undo 52 = .ok (.aload_n 0, 1) := by decide +kernel
theorem dX9_undo_53 : decode cX9_undo 53 = .ok (.getfield 51, 3) := by decide +kernel
theorem dX9_undo_56 : decode cX9_undo 56 = .ok (.getfield 148, 3) := by decide +kernel
theorem dX9_undo_59 : decode cX9_undo 59 = .ok (.ireturn, 1) := by decide +kernel
theorem dX9_write_0 : decode cX9_write 0 = .ok (.aload_n 0, 1) := by decide +kernel
theorem dX9_write_1 : decode cX9_write 1 = .ok (.getfield 27, 3) := by decide +kernel
theorem dX9_write_4 : decode cX9_write 4 = .ok (.iload_n 1, 1) := by decide +kernel
theorem dX9_write_5 : decode cX9_write 5 = .ok (.invokevirtual 205, 3) := by decide +kernel
theorem dX9_write_8 : decode cX9_write 8 = .ok (.ifCond .ne 6, 3) := by decide +kernel
theorem dX9_write_11 : decode cX9_write 11 = .ok (.ldc 154, 2) := by decide +kernel
theorem dX9_write_13 : decode cX9_write 13 = .ok (.ireturn, 1) := by decide +kernel
theorem dX9_write_14 : decode cX9_write 14 = .ok (.iload_n 2, 1) := by decide +kernel
theorem dX9_write_15 : decode cX9_write 15 = .ok (.invokestatic 199, 3) := by decide +kernel
theorem dX9_write_18 : decode cX9_write 18 = .ok (.ifCond .ne 6, 3) := by decide +kernel
theorem dX9_write_21 : decode cX9_write 21 = .ok (.ldc 89, 2) := by decide +kernel
theorem dX9_write_23 : decode cX9_write 23 = .ok (.ireturn, 1) := by decide +kernel
theorem dX9_write_24 : decode cX9_write 24 = .ok (.aload_n 0, 1) := by decide +kernel
theorem dX9_write_25 : decode cX9_write 25 = .ok (.getfield 58, 3) := by decide +kernel
theorem dX9_write_28 : decode cX9_write 28 = .ok (.iload_n 1, 1) := by decide +kernel
theorem dX9_write_29 : decode cX9_write 29 = .ok (.iload_n 2, 1) := by decide +kernel
theorem dX9_write_30 : decode cX9_write 30 = .ok (.iload_n 3, 1) := by decide +kernel
theorem dX9_write_31 : decode cX9_write 31 = .ok (.invokevirtual 235, 3) := by decide +kernel
theorem dX9_write_34 : decode cX9_write 34 = .ok (.ifCond .eq 13, 3) := by decide +kernel
theorem dX9_write_37 : decode cX9_write 37 = .ok (.aload_n 0, 1) := by decide +kernel
theorem dX9_write_38 : decode cX9_write 38 = .ok (.getfield 58, 3) := by decide +kernel
theorem dX9_write_41 : decode cX9_write 41 = .ok (.getfield 142, 3) := by decide +kernel
theorem dX9_write_44 : decode cX9_write 44 = .ok (.goto 5, 3) := by decide +kernel
theorem dX9_write_47 : decode cX9_write 47 = .ok (.ldc 93, 2) := by decide +kernel
theorem dX9_write_49 : decode cX9_write 49 = .ok (.ireturn, 1) := by decide +kernel
theorem dX9_tear_0 : decode cX9_tear 0 = .ok (.aload_n 0, 1) := by decide +kernel
theorem dX9_tear_1 : decode cX9_tear 1 = .ok (.getfield 58, 3) := by decide +kernel
theorem dX9_tear_4 : decode cX9_tear 4 = .ok (.getfield 142, 3) := by decide +kernel
theorem dX9_tear_7 : decode cX9_tear 7 = .ok (.istore_n 1, 1) := by decide +kernel
theorem dX9_tear_8 : decode cX9_tear 8 = .ok (.aload_n 0, 1) := by decide +kernel
theorem dX9_tear_9 : decode cX9_tear 9 = .ok (.getfield 58, 3) := by decide +kernel
theorem dX9_tear_12 : decode cX9_tear 12 = .ok (.iconst 0, 1) := by decide +kernel
theorem dX9_tear_13 : decode cX9_tear 13 = .ok (.putfield 142, 3) := by decide +kernel
theorem dX9_tear_16 : decode cX9_tear 16 = .ok (.iload_n 1, 1) := by decide +kernel
theorem dX9_tear_17 : decode cX9_tear 17 = .ok (.ireturn, 1) := by decide +kernel
theorem dX9_seed_0 : decode cX9_seed 0 = .ok (.iload_n 1, 1) := by decide +kernel
theorem dX9_seed_1 : decode cX9_seed 1 = .ok (.ifCond .ge 6, 3) := by decide +kernel
theorem dX9_seed_4 : decode cX9_seed 4 = .ok (.ldc 89, 2) := by decide +kernel
theorem dX9_seed_6 : decode cX9_seed 6 = .ok (.ireturn, 1) := by decide +kernel
theorem dX9_seed_7 : decode cX9_seed 7 = .ok (.aload_n 0, 1) := by decide +kernel
theorem dX9_seed_8 : decode cX9_seed 8 = .ok (.getfield 37, 3) := by decide +kernel
theorem dX9_seed_11 : decode cX9_seed 11 = .ok (.getfield 227, 3) := by decide +kernel
theorem dX9_seed_14 : decode cX9_seed 14 = .ok (.istore_n 2, 1) := by decide +kernel
theorem dX9_seed_15 : decode cX9_seed 15 = .ok (.aload_n 0, 1) := by decide +kernel
theorem dX9_seed_16 : decode cX9_seed 16 = .ok (.getfield 37, 3) := by decide +kernel
theorem dX9_seed_19 : decode cX9_seed 19 = .ok (.iload_n 1, 1) := by decide +kernel
theorem dX9_seed_20 : decode cX9_seed 20 = .ok (.putfield 227, 3) := by decide +kernel
theorem dX9_seed_23 : decode cX9_seed 23 = .ok (.iload_n 2, 1) := by decide +kernel
theorem dX9_seed_24 : decode cX9_seed 24 = .ok (.ireturn, 1) := by decide +kernel
theorem dX9_keep_0 : decode cX9_keep 0 = .ok (.iload_n 1, 1) := by decide +kernel
theorem dX9_keep_1 : decode cX9_keep 1 = .ok (.invokestatic 239, 3) := by decide +kernel
theorem dX9_keep_4 : decode cX9_keep 4 = .ok (.ifCond .ne 6, 3) := by decide +kernel
theorem dX9_keep_7 : decode cX9_keep 7 = .ok (.ldc 154, 2) := by decide +kernel
theorem dX9_keep_9 : decode cX9_keep 9 = .ok (.ireturn, 1) := by decide +kernel
theorem dX9_keep_10 : decode cX9_keep 10 = .ok (.aload_n 0, 1) := by decide +kernel
theorem dX9_keep_11 : decode cX9_keep 11 = .ok (.getfield 62, 3) := by decide +kernel
theorem dX9_keep_14 : decode cX9_keep 14 = .ok (.iload_n 1, 1) := by decide +kernel
theorem dX9_keep_15 : decode cX9_keep 15 = .ok (.aaload, 1) := by decide +kernel
theorem dX9_keep_16 : decode cX9_keep 16 = .ok (.astore_n 2, 1) := by decide +kernel
theorem dX9_keep_17 : decode cX9_keep 17 = .ok (.aload_n 2, 1) := by decide +kernel
theorem dX9_keep_18 : decode cX9_keep 18 = .ok (.ifnonnull 18, 3) := by decide +kernel
theorem dX9_keep_21 : decode cX9_keep 21 = .ok (.new 34, 3) := by decide +kernel
theorem dX9_keep_24 : decode cX9_keep 24 = .ok (.dup, 1) := by decide +kernel
theorem dX9_keep_25 : decode cX9_keep 25 = .ok (.invokespecial 36, 3) := by decide +kernel
theorem dX9_keep_28 : decode cX9_keep 28 = .ok (.astore_n 2, 1) := by decide +kernel
theorem dX9_keep_29 : decode cX9_keep 29 = .ok (.aload_n 0, 1) := by decide +kernel
theorem dX9_keep_30 : decode cX9_keep 30 = .ok (.getfield 62, 3) := by decide +kernel
theorem dX9_keep_33 : decode cX9_keep 33 = .ok (.iload_n 1, 1) := by decide +kernel
theorem dX9_keep_34 : decode cX9_keep 34 = .ok (.aload_n 2, 1) := by decide +kernel
theorem dX9_keep_35 : decode cX9_keep 35 = .ok (.aastore, 1) := by decide +kernel
theorem dX9_keep_36 : decode cX9_keep 36 = .ok (.aload_n 2, 1) := by decide +kernel
theorem dX9_keep_37 : decode cX9_keep 37 = .ok (.aload_n 0, 1) := by decide +kernel
theorem dX9_keep_38 : decode cX9_keep 38 = .ok (.getfield 37, 3) := by decide +kernel
theorem dX9_keep_41 : decode cX9_keep 41 = .ok (.invokevirtual 242, 3) := by decide +kernel
theorem dX9_keep_44 : decode cX9_keep 44 = .ok (.aload_n 0, 1) := by decide +kernel
theorem dX9_keep_45 : decode cX9_keep 45 = .ok (.getfield 51, 3) := by decide +kernel
theorem dX9_keep_48 : decode cX9_keep 48 = .ok (.invokevirtual 245, 3) := by decide +kernel
theorem dX9_keep_51 : decode cX9_keep 51 = .ok (.iconst 1, 1) := by decide +kernel
theorem dX9_keep_52 : decode cX9_keep 52 = .ok (.ireturn, 1) := by decide +kernel
theorem dX9_goBack_0 : decode cX9_goBack 0 = .ok (.iload_n 1, 1) := by decide +kernel
theorem dX9_goBack_1 : decode cX9_goBack 1 = .ok (.invokestatic 239, 3) := by decide +kernel
theorem dX9_goBack_4 : decode cX9_goBack 4 = .ok (.ifCond .ne 6, 3) := by decide +kernel
theorem dX9_goBack_7 : decode cX9_goBack 7 = .ok (.ldc 154, 2) := by decide +kernel
theorem dX9_goBack_9 : decode cX9_goBack 9 = .ok (.ireturn, 1) := by decide +kernel
theorem dX9_goBack_10 : decode cX9_goBack 10 = .ok (.aload_n 0, 1) := by decide +kernel
theorem dX9_goBack_11 : decode cX9_goBack 11 = .ok (.getfield 62, 3) := by decide +kernel
theorem dX9_goBack_14 : decode cX9_goBack 14 = .ok (.iload_n 1, 1) := by decide +kernel
theorem dX9_goBack_15 : decode cX9_goBack 15 = .ok (.aaload, 1) := by decide +kernel
theorem dX9_goBack_16 : decode cX9_goBack 16 = .ok (.astore_n 2, 1) := by decide +kernel
theorem dX9_goBack_17 : decode cX9_goBack 17 = .ok (.aload_n 2, 1) := by decide +kernel
theorem dX9_goBack_18 : decode cX9_goBack 18 = .ok (.ifnull 17, 3) := by decide +kernel
theorem dX9_goBack_21 : decode cX9_goBack 21 = .ok (.aload_n 0, 1) := by decide +kernel
theorem dX9_goBack_22 : decode cX9_goBack 22 = .ok (.getfield 27, 3) := by decide +kernel
theorem dX9_goBack_25 : decode cX9_goBack 25 = .ok (.aload_n 2, 1) := by decide +kernel
theorem dX9_goBack_26 : decode cX9_goBack 26 = .ok (.getfield 103, 3) := by decide +kernel
theorem dX9_goBack_29 : decode cX9_goBack 29 = .ok (.invokevirtual 205, 3) := by decide +kernel
theorem dX9_goBack_32 : decode cX9_goBack 32 = .ok (.ifCond .ne 6, 3) := by decide +kernel
theorem dX9_goBack_35 : decode cX9_goBack 35 = .ok (.ldc 230, 2) := by decide +kernel
theorem dX9_goBack_37 : decode cX9_goBack 37 = .ok (.ireturn, 1) := by decide +kernel
theorem dX9_goBack_38 : decode cX9_goBack 38 = .ok (.aload_n 0, 1) := by decide +kernel
theorem dX9_goBack_39 : decode cX9_goBack 39 = .ok (.getfield 37, 3) := by decide +kernel
theorem dX9_goBack_42 : decode cX9_goBack 42 = .ok (.aload_n 2, 1) := by decide +kernel
theorem dX9_goBack_43 : decode cX9_goBack 43 = .ok (.invokevirtual 242, 3) := by decide +kernel
theorem dX9_goBack_46 : decode cX9_goBack 46 = .ok (.aload_n 0, 1) := by decide +kernel
theorem dX9_goBack_47 : decode cX9_goBack 47 = .ok (.getfield 51, 3) := by decide +kernel
theorem dX9_goBack_50 : decode cX9_goBack 50 = .ok (.invokevirtual 245, 3) := by decide +kernel
theorem dX9_goBack_53 : decode cX9_goBack 53 = .ok (.iconst 1, 1) := by decide +kernel
theorem dX9_goBack_54 : decode cX9_goBack 54 = .ok (.ireturn, 1) := by decide +kernel
theorem dX9_isCell_0 : decode cX9_isCell 0 = .ok (.iload_n 0, 1) := by decide +kernel
theorem dX9_isCell_1 : decode cX9_isCell 1 = .ok (.ifCond .lt 13, 3) := by decide +kernel
theorem dX9_isCell_4 : decode cX9_isCell 4 = .ok (.iload_n 0, 1) := by decide +kernel
theorem dX9_isCell_5 : decode cX9_isCell 5 = .ok (.bipush 8, 2) := by decide +kernel
theorem dX9_isCell_7 : decode cX9_isCell 7 = .ok (.if_icmp .ge 7, 3) := by decide +kernel
theorem dX9_isCell_10 : decode cX9_isCell 10 = .ok (.iconst 1, 1) := by decide +kernel
theorem dX9_isCell_11 : decode cX9_isCell 11 = .ok (.goto 4, 3) := by decide +kernel
theorem dX9_isCell_14 : decode cX9_isCell 14 = .ok (.iconst 0, 1) := by decide +kernel
theorem dX9_isCell_15 : decode cX9_isCell 15 = .ok (.ireturn, 1) := by decide +kernel
theorem dX9_isNumber_0 : decode cX9_isNumber 0 = .ok (.iload_n 0, 1) := by decide +kernel
theorem dX9_isNumber_1 : decode cX9_isNumber 1 = .ok (.ifCond .lt 14, 3) := by decide +kernel
theorem dX9_isNumber_4 : decode cX9_isNumber 4 = .ok (.iload_n 0, 1) := by decide +kernel
theorem dX9_isNumber_5 : decode cX9_isNumber 5 = .ok (.sipush 997, 3) := by decide +kernel
theorem dX9_isNumber_8 : decode cX9_isNumber 8 = .ok (.if_icmp .ge 7, 3) := by decide +kernel
theorem dX9_isNumber_11 : decode cX9_isNumber 11 = .ok (.iconst 1, 1) := by decide +kernel
theorem dX9_isNumber_12 : decode cX9_isNumber 12 = .ok (.goto 4, 3) := by decide +kernel
theorem dX9_isNumber_15 : decode cX9_isNumber 15 = .ok (.iconst 0, 1) := by decide +kernel
theorem dX9_isNumber_16 : decode cX9_isNumber 16 = .ok (.ireturn, 1) := by decide +kernel
theorem dX9_isImage_0 : decode cX9_isImage 0 = .ok (.iload_n 0, 1) := by decide +kernel
theorem dX9_isImage_1 : decode cX9_isImage 1 = .ok (.ifCond .lt 12, 3) := by decide +kernel
theorem dX9_isImage_4 : decode cX9_isImage 4 = .ok (.iload_n 0, 1) := by decide +kernel
theorem dX9_isImage_5 : decode cX9_isImage 5 = .ok (.iconst 2, 1) := by decide +kernel
theorem dX9_isImage_6 : decode cX9_isImage 6 = .ok (.if_icmp .ge 7, 3) := by decide +kernel
theorem dX9_isImage_9 : decode cX9_isImage 9 = .ok (.iconst 1, 1) := by decide +kernel
theorem dX9_isImage_10 : decode cX9_isImage 10 = .ok (.goto 4, 3) := by decide +kernel
theorem dX9_isImage_13 : decode cX9_isImage 13 = .ok (.iconst 0, 1) := by decide +kernel
theorem dX9_isImage_14 : decode cX9_isImage 14 = .ok (.ireturn, 1) := by decide +kernel
theorem dX9_addLetter_0 : decode cX9_addLetter 0 = .ok (.aload_n 0, 1) := by decide +kernel
theorem dX9_addLetter_1 : decode cX9_addLetter 1 = .ok (.getfield 90, 3) := by decide +kernel
theorem dX9_addLetter_4 : decode cX9_addLetter 4 = .ok (.sipush 160, 3) := by decide +kernel
theorem dX9_addLetter_7 : decode cX9_addLetter 7 = .ok (.if_icmp .lt 5, 3) := by decide +kernel
theorem dX9_addLetter_10 : decode cX9_addLetter 10 = .ok (.iconst 0, 1) := by decide +kernel
theorem dX9_addLetter_11 : decode cX9_addLetter 11 = .ok (.ireturn, 1) := by decide +kernel
theorem dX9_addLetter_12 : decode cX9_addLetter 12 = .ok (.aload_n 0, 1) := by decide +kernel
theorem dX9_addLetter_13 : decode cX9_addLetter 13 = .ok (.getfield 9, 3) := by decide +kernel
theorem dX9_addLetter_16 : decode cX9_addLetter 16 = .ok (.aload_n 0, 1) := by decide +kernel
theorem dX9_addLetter_17 : decode cX9_addLetter 17 = .ok (.getfield 90, 3) := by decide +kernel
theorem dX9_addLetter_20 : decode cX9_addLetter 20 = .ok (.iload_n 1, 1) := by decide +kernel
theorem dX9_addLetter_21 : decode cX9_addLetter 21 = .ok (.iastore, 1) := by decide +kernel
theorem dX9_addLetter_22 : decode cX9_addLetter 22 = .ok (.aload_n 0, 1) := by decide +kernel
theorem dX9_addLetter_23 : decode cX9_addLetter 23 = .ok (.dup, 1) := by decide +kernel
theorem dX9_addLetter_24 : decode cX9_addLetter 24 = .ok (.getfield 90, 3) := by decide +kernel
theorem dX9_addLetter_27 : decode cX9_addLetter 27 = .ok (.iconst 1, 1) := by decide +kernel
theorem dX9_addLetter_28 : decode cX9_addLetter 28 = .ok (.iadd, 1) := by decide +kernel
theorem dX9_addLetter_29 : decode cX9_addLetter 29 = .ok (.putfield 90, 3) := by decide +kernel
theorem dX9_addLetter_32 : decode cX9_addLetter 32 = .ok (.iconst 1, 1) := by decide +kernel
theorem dX9_addLetter_33 : decode cX9_addLetter 33 = .ok (.ireturn, 1) := by decide +kernel
theorem dX9_takeText_0 : decode cX9_takeText 0 = .ok (.aload_n 0, 1) := by decide +kernel
theorem dX9_takeText_1 : decode cX9_takeText 1 = .ok (.getfield 20, 3) := by decide +kernel
theorem dX9_takeText_4 : decode cX9_takeText 4 = .ok (.aload_n 0, 1) := by decide +kernel
theorem dX9_takeText_5 : decode cX9_takeText 5 = .ok (.getfield 31, 3) := by decide +kernel
theorem dX9_takeText_8 : decode cX9_takeText 8 = .ok (.aload_n 0, 1) := by decide +kernel
theorem dX9_takeText_9 : decode cX9_takeText 9 = .ok (.getfield 9, 3) := by decide +kernel
theorem dX9_takeText_12 : decode cX9_takeText 12 = .ok (.aload_n 0, 1) := by decide +kernel
theorem dX9_takeText_13 : decode cX9_takeText 13 = .ok (.getfield 90, 3) := by decide +kernel
theorem dX9_takeText_16 : decode cX9_takeText 16 = .ok (.invokevirtual 248, 3) := by decide +kernel
theorem dX9_takeText_19 : decode cX9_takeText 19 = .ok (.istore_n 1, 1) := by decide +kernel
theorem dX9_takeText_20 : decode cX9_takeText 20 = .ok (.aload_n 0, 1) := by decide +kernel
theorem dX9_takeText_21 : decode cX9_takeText 21 = .ok (.iconst 0, 1) := by decide +kernel
theorem dX9_takeText_22 : decode cX9_takeText 22 = .ok (.putfield 90, 3) := by decide +kernel
theorem dX9_takeText_25 : decode cX9_takeText 25 = .ok (.iload_n 1, 1) := by decide +kernel
theorem dX9_takeText_26 : decode cX9_takeText 26 = .ok (.ifCond .eq 16, 3) := by decide +kernel
theorem dX9_takeText_29 : decode cX9_takeText 29 = .ok (.aload_n 0, 1) := by decide +kernel
theorem dX9_takeText_30 : decode cX9_takeText 30 = .ok (.aload_n 0, 1) := by decide +kernel
theorem dX9_takeText_31 : decode cX9_takeText 31 = .ok (.getfield 20, 3) := by decide +kernel
theorem dX9_takeText_34 : decode cX9_takeText 34 = .ok (.getfield 252, 3) := by decide +kernel
theorem dX9_takeText_37 : decode cX9_takeText 37 = .ok (.putfield 13, 3) := by decide +kernel
theorem dX9_takeText_40 : decode cX9_takeText 40 = .ok (.iload_n 1, 1) := by decide +kernel
theorem dX9_takeText_41 : decode cX9_takeText 41 = .ok (.ireturn, 1) := by decide +kernel
theorem dX9_takeText_42 : decode cX9_takeText 42 = .ok (.aload_n 0, 1) := by decide +kernel
theorem dX9_takeText_43 : decode cX9_takeText 43 = .ok (.iconst (-1), 1) := by decide +kernel
theorem dX9_takeText_44 : decode cX9_takeText 44 = .ok (.putfield 13, 3) := by decide +kernel
theorem dX9_takeText_47 : decode cX9_takeText 47 = .ok (.aload_n 0, 1) := by decide +kernel
theorem dX9_takeText_48 : decode cX9_takeText 48 = .ok (.getfield 27, 3) := by decide +kernel
theorem dX9_takeText_51 : decode cX9_takeText 51 = .ok (.astore_n 2, 1) := by decide +kernel
theorem dX9_takeText_52 : decode cX9_takeText 52 = .ok (.aload_n 0, 1) := by decide +kernel
theorem dX9_takeText_53 : decode cX9_takeText 53 = .ok (.aload_n 0, 1) := by decide +kernel
theorem dX9_takeText_54 : decode cX9_takeText 54 = .ok (.getfield 31, 3) := by decide +kernel
theorem dX9_takeText_57 : decode cX9_takeText 57 = .ok (.putfield 27, 3) := by decide +kernel
theorem dX9_takeText_60 : decode cX9_takeText 60 = .ok (.aload_n 0, 1) := by decide +kernel
theorem dX9_takeText_61 : decode cX9_takeText 61 = .ok (.aload_n 2, 1) := by decide +kernel
theorem dX9_takeText_62 : decode cX9_takeText 62 = .ok (.putfield 31, 3) := by decide +kernel
theorem dX9_takeText_65 : decode cX9_takeText 65 = .ok (.aload_n 0, 1) := by decide +kernel
theorem dX9_takeText_66 : decode cX9_takeText 66 = .ok (.invokevirtual 255, 3) := by decide +kernel
theorem dX9_takeText_69 : decode cX9_takeText 69 = .ok (.iconst 0, 1) := by decide +kernel
theorem dX9_takeText_70 : decode cX9_takeText 70 = .ok (.ireturn, 1) := by decide +kernel
theorem dX9_startAnew_0 : decode cX9_startAnew 0 = .ok (.aload_n 0, 1) := by decide +kernel
theorem dX9_startAnew_1 : decode cX9_startAnew 1 = .ok (.getfield 37, 3) := by decide +kernel
theorem dX9_startAnew_4 : decode cX9_startAnew 4 = .ok (.iconst 0, 1) := by decide +kernel
theorem dX9_startAnew_5 : decode cX9_startAnew 5 = .ok (.putfield 103, 3) := by decide +kernel
theorem dX9_startAnew_8 : decode cX9_startAnew 8 = .ok (.aload_n 0, 1) := by decide +kernel
theorem dX9_startAnew_9 : decode cX9_startAnew 9 = .ok (.getfield 37, 3) := by decide +kernel
theorem dX9_startAnew_12 : decode cX9_startAnew 12 = .ok (.iconst 0, 1) := by decide +kernel
theorem dX9_startAnew_13 : decode cX9_startAnew 13 = .ok (.putfield 106, 3) := by decide +kernel
theorem dX9_startAnew_16 : decode cX9_startAnew 16 = .ok (.aload_n 0, 1) := by decide +kernel
theorem dX9_startAnew_17 : decode cX9_startAnew 17 = .ok (.getfield 51, 3) := by decide +kernel
theorem dX9_startAnew_20 : decode cX9_startAnew 20 = .ok (.invokevirtual 245, 3) := by decide +kernel
theorem dX9_startAnew_23 : decode cX9_startAnew 23 = .ok (.aload_n 0, 1) := by decide +kernel
theorem dX9_startAnew_24 : decode cX9_startAnew 24 = .ok (.getfield 78, 3) := by decide +kernel
theorem dX9_startAnew_27 : decode cX9_startAnew 27 = .ok (.aload_n 0, 1) := by decide +kernel
theorem dX9_startAnew_28 : decode cX9_startAnew 28 = .ok (.getfield 27, 3) := by decide +kernel
theorem dX9_startAnew_31 : decode cX9_startAnew 31 = .ok (.invokevirtual 258, 3) := by decide +kernel
theorem dX9_startAnew_34 : decode cX9_startAnew 34 = .ok (.aload_n 0, 1) := by decide +kernel
theorem dX9_startAnew_35 : decode cX9_startAnew 35 = .ok (.getfield 74, 3) := by decide +kernel
theorem dX9_startAnew_38 : decode cX9_startAnew 38 = .ok (.aload_n 0, 1) := by decide +kernel
theorem dX9_startAnew_39 : decode cX9_startAnew 39 = .ok (.getfield 27, 3) := by decide +kernel
theorem dX9_startAnew_42 : decode cX9_startAnew 42 = .ok (.invokevirtual 258, 3) := by decide +kernel
theorem dX9_startAnew_45 : decode cX9_startAnew 45 = .ok (.aload_n 0, 1) := by decide +kernel
theorem dX9_startAnew_46 : decode cX9_startAnew 46 = .ok (.getfield 74, 3) := by decide +kernel
theorem dX9_startAnew_49 : decode cX9_startAnew 49 = .ok (.aload_n 0, 1) := by decide +kernel
theorem dX9_startAnew_50 : decode cX9_startAnew 50 = .ok (.getfield 44, 3) := by decide +kernel
theorem dX9_startAnew_53 : decode cX9_startAnew 53 = .ok (.getfield 212, 3) := by decide +kernel
theorem dX9_startAnew_56 : decode cX9_startAnew 56 = .ok (.invokevirtual 262, 3) := by decide +kernel
theorem dX9_startAnew_59 : decode cX9_startAnew 59 = .ok (.aload_n 0, 1) := by decide +kernel
theorem dX9_startAnew_60 : decode cX9_startAnew 60 = .ok (.getfield 44, 3) := by decide +kernel
theorem dX9_startAnew_63 : decode cX9_startAnew 63 = .ok (.aload_n 0, 1) := by decide +kernel
theorem dX9_startAnew_64 : decode cX9_startAnew 64 = .ok (.getfield 74, 3) := by decide +kernel
theorem dX9_startAnew_67 : decode cX9_startAnew 67 = .ok (.invokevirtual 265, 3) := by decide +kernel
theorem dX9_startAnew_70 : decode cX9_startAnew 70 = .ok (.invokevirtual 220, 3) := by decide +kernel
theorem dX9_startAnew_73 : decode cX9_startAnew 73 = .ok (.return_, 1) := by decide +kernel
theorem dX9_changeCell_0 : decode cX9_changeCell 0 = .ok (.aload_n 0, 1) := by decide +kernel
theorem dX9_changeCell_1 : decode cX9_changeCell 1 = .ok (.getfield 37, 3) := by decide +kernel
theorem dX9_changeCell_4 : decode cX9_changeCell 4 = .ok (.getfield 132, 3) := by decide +kernel
theorem dX9_changeCell_7 : decode cX9_changeCell 7 = .ok (.iload_n 1, 1) := by decide +kernel
theorem dX9_changeCell_8 : decode cX9_changeCell 8 = .ok (.iaload, 1) := by decide +kernel
theorem dX9_changeCell_9 : decode cX9_changeCell 9 = .ok (.istore_n 3, 1) := by decide +kernel
theorem dX9_changeCell_10 : decode cX9_changeCell 10 = .ok (.aload_n 0, 1) := by decide +kernel
theorem dX9_changeCell_11 : decode cX9_changeCell 11 = .ok (.getfield 51, 3) := by decide +kernel
theorem dX9_changeCell_14 : decode cX9_changeCell 14 = .ok (.iload_n 1, 1) := by decide +kernel
theorem dX9_changeCell_15 : decode cX9_changeCell 15 = .ok (.iload_n 3, 1) := by decide +kernel
theorem dX9_changeCell_16 : decode cX9_changeCell 16 = .ok (.invokevirtual 269, 3) := by decide +kernel
theorem dX9_changeCell_19 : decode cX9_changeCell 19 = .ok (.aload_n 0, 1) := by decide +kernel
theorem dX9_changeCell_20 : decode cX9_changeCell 20 = .ok (.getfield 37, 3) := by decide +kernel
theorem dX9_changeCell_23 : decode cX9_changeCell 23 = .ok (.getfield 132, 3) := by decide +kernel
theorem dX9_changeCell_26 : decode cX9_changeCell 26 = .ok (.iload_n 1, 1) := by decide +kernel
theorem dX9_changeCell_27 : decode cX9_changeCell 27 = .ok (.iload_n 2, 1) := by decide +kernel
theorem dX9_changeCell_28 : decode cX9_changeCell 28 = .ok (.iastore, 1) := by decide +kernel
theorem dX9_changeCell_29 : decode cX9_changeCell 29 = .ok (.iload_n 3, 1) := by decide +kernel
theorem dX9_changeCell_30 : decode cX9_changeCell 30 = .ok (.ireturn, 1) := by decide +kernel
theorem dX9_tellingByItself_0 : decode cX9_tellingByItself 0 = .ok (.aload_n 0, 1) := by decide +kernel
theorem dX9_tellingByItself_1 : decode cX9_tellingByItself 1 = .ok (.getfield 78, 3) := by decide +kernel
theorem dX9_tellingByItself_4 : decode cX9_tellingByItself 4 = .ok (.iload_n 1, 1) := by decide +kernel
theorem dX9_tellingByItself_5 : decode cX9_tellingByItself 5 = .ok (.iload_n 2, 1) := by decide +kernel
theorem dX9_tellingByItself_6 : decode cX9_tellingByItself 6 = .ok (.invokevirtual 272, 3) := by decide +kernel
theorem dX9_tellingByItself_9 : decode cX9_tellingByItself 9 = .ok (.astore_n 3, 1) := by decide +kernel
theorem dX9_tellingByItself_10 : decode cX9_tellingByItself 10 = .ok (.aload_n 3, 1) := by decide +kernel
theorem dX9_tellingByItself_11 : decode cX9_tellingByItself 11 = .ok (.getfield 167, 3) := by decide +kernel
theorem dX9_tellingByItself_14 : decode cX9_tellingByItself 14 = .ok (.istore 4, 2) := by decide +kernel
theorem dX9_tellingByItself_16 : decode cX9_tellingByItself 16 = .ok (.aload_n 0, 1) := by decide +kernel
theorem dX9_tellingByItself_17 : decode cX9_tellingByItself 17 = .ok (.getfield 78, 3) := by decide +kernel
theorem dX9_tellingByItself_20 : decode cX9_tellingByItself 20 = .ok (.aload_n 3, 1) := by decide +kernel
theorem dX9_tellingByItself_21 : decode cX9_tellingByItself 21 = .ok (.invokevirtual 262, 3) := by decide +kernel
theorem dX9_tellingByItself_24 : decode cX9_tellingByItself 24 = .ok (.iload 4, 2) := by decide +kernel
theorem dX9_tellingByItself_26 : decode cX9_tellingByItself 26 = .ok (.ireturn, 1) := by decide +kernel
theorem dX9_isAlike_0 : decode cX9_isAlike 0 = .ok (.aload_n 0, 1) := by decide +kernel
theorem dX9_isAlike_1 : decode cX9_isAlike 1 = .ok (.getfield 78, 3) := by decide +kernel
theorem dX9_isAlike_4 : decode cX9_isAlike 4 = .ok (.aload_n 0, 1) := by decide +kernel
theorem dX9_isAlike_5 : decode cX9_isAlike 5 = .ok (.getfield 37, 3) := by decide +kernel
theorem dX9_isAlike_8 : decode cX9_isAlike 8 = .ok (.getfield 103, 3) := by decide +kernel
theorem dX9_isAlike_11 : decode cX9_isAlike 11 = .ok (.aload_n 0, 1) := by decide +kernel
theorem dX9_isAlike_12 : decode cX9_isAlike 12 = .ok (.getfield 37, 3) := by decide +kernel
theorem dX9_isAlike_15 : decode cX9_isAlike 15 = .ok (.getfield 106, 3) := by decide +kernel
theorem dX9_isAlike_18 : decode cX9_isAlike 18 = .ok (.invokevirtual 272, 3) := by decide +kernel
theorem dX9_isAlike_21 : decode cX9_isAlike 21 = .ok (.astore_n 1, 1) := by decide +kernel
theorem dX9_isAlike_22 : decode cX9_isAlike 22 = .ok (.aload_n 0, 1) := by decide +kernel
theorem dX9_isAlike_23 : decode cX9_isAlike 23 = .ok (.getfield 44, 3) := by decide +kernel
theorem dX9_isAlike_26 : decode cX9_isAlike 26 = .ok (.getfield 212, 3) := by decide +kernel
theorem dX9_isAlike_29 : decode cX9_isAlike 29 = .ok (.ifnull 21, 3) := by decide +kernel
theorem dX9_isAlike_32 : decode cX9_isAlike 32 = .ok (.aload_n 0, 1) := by decide +kernel
theorem dX9_isAlike_33 : decode cX9_isAlike 33 = .ok (.getfield 44, 3) := by decide +kernel
theorem dX9_isAlike_36 : decode cX9_isAlike 36 = .ok (.getfield 212, 3) := by decide +kernel
theorem dX9_isAlike_39 : decode cX9_isAlike 39 = .ok (.aload_n 1, 1) := by decide +kernel
theorem dX9_isAlike_40 : decode cX9_isAlike 40 = .ok (.invokevirtual 276, 3) := by decide +kernel
theorem dX9_isAlike_43 : decode cX9_isAlike 43 = .ok (.ifCond .eq 7, 3) := by decide +kernel
theorem dX9_isAlike_46 : decode cX9_isAlike 46 = .ok (.iconst 1, 1) := by decide +kernel
theorem dX9_isAlike_47 : decode cX9_isAlike 47 = .ok (.goto 4, 3) := by decide +kernel
theorem dX9_isAlike_50 : decode cX9_isAlike 50 = .ok (.iconst 0, 1) := by decide +kernel
theorem dX9_isAlike_51 : decode cX9_isAlike 51 = .ok (.istore_n 2, 1) := by decide +kernel
theorem dX9_isAlike_52 : decode cX9_isAlike 52 = .ok (.aload_n 0, 1) := by decide +kernel
theorem dX9_isAlike_53 : decode cX9_isAlike 53 = .ok (.getfield 78, 3) := by decide +kernel
theorem dX9_isAlike_56 : decode cX9_isAlike 56 = .ok (.aload_n 1, 1) := by decide +kernel
theorem dX9_isAlike_57 : decode cX9_isAlike 57 = .ok (.invokevirtual 262, 3) := by decide +kernel
theorem dX9_isAlike_60 : decode cX9_isAlike 60 = .ok (.iload_n 2, 1) := by decide +kernel
theorem dX9_isAlike_61 : decode cX9_isAlike 61 = .ok (.ireturn, 1) := by decide +kernel
theorem dX9_firstWrong_0 : decode cX9_firstWrong 0 = .ok (.iconst 0, 1) := by decide +kernel
theorem dX9_firstWrong_1 : decode cX9_firstWrong 1 = .ok (.istore_n 1, 1) := by decide +kernel
theorem dX9_firstWrong_2 : decode cX9_firstWrong 2 = .ok (.iload_n 1, 1) := by decide +kernel
theorem dX9_firstWrong_3 : decode cX9_firstWrong 3 = .ok (.aload_n 0, 1) := by decide +kernel
theorem dX9_firstWrong_4 : decode cX9_firstWrong 4 = .ok (.getfield 58, 3) := by decide +kernel
theorem dX9_firstWrong_7 : decode cX9_firstWrong 7 = .ok (.getfield 142, 3) := by decide +kernel
theorem dX9_firstWrong_10 : decode cX9_firstWrong 10 = .ok (.if_icmp .ge 61, 3) := by decide +kernel
theorem dX9_firstWrong_13 : decode cX9_firstWrong 13 = .ok (.aload_n 0, 1) := by decide +kernel
theorem dX9_firstWrong_14 : decode cX9_firstWrong 14 = .ok (.getfield 58, 3) := by decide +kernel
theorem dX9_firstWrong_17 : decode cX9_firstWrong 17 = .ok (.iload_n 1, 1) := by decide +kernel
theorem dX9_firstWrong_18 : decode cX9_firstWrong 18 = .ok (.invokevirtual 279, 3) := by decide +kernel
theorem dX9_firstWrong_21 : decode cX9_firstWrong 21 = .ok (.istore_n 2, 1) := by decide +kernel
theorem dX9_firstWrong_22 : decode cX9_firstWrong 22 = .ok (.aload_n 0, 1) := by decide +kernel
theorem dX9_firstWrong_23 : decode cX9_firstWrong 23 = .ok (.getfield 27, 3) := by decide +kernel
theorem dX9_firstWrong_26 : decode cX9_firstWrong 26 = .ok (.iload_n 2, 1) := by decide +kernel
theorem dX9_firstWrong_27 : decode cX9_firstWrong 27 = .ok (.invokevirtual 205, 3) := by decide +kernel
theorem dX9_firstWrong_30 : decode cX9_firstWrong 30 = .ok (.ifCond .eq 19, 3) := by decide +kernel
theorem dX9_firstWrong_33 : decode cX9_firstWrong 33 = .ok (.aload_n 0, 1) := by decide +kernel
theorem dX9_firstWrong_34 : decode cX9_firstWrong 34 = .ok (.iload_n 2, 1) := by decide +kernel
theorem dX9_firstWrong_35 : decode cX9_firstWrong 35 = .ok (.aload_n 0, 1) := by decide +kernel
theorem dX9_firstWrong_36 : decode cX9_firstWrong 36 = .ok (.getfield 58, 3) := by decide +kernel
theorem dX9_firstWrong_39 : decode cX9_firstWrong 39 = .ok (.iload_n 1, 1) := by decide +kernel
theorem dX9_firstWrong_40 : decode cX9_firstWrong 40 = .ok (.invokevirtual 282, 3) := by decide +kernel
theorem dX9_firstWrong_43 : decode cX9_firstWrong 43 = .ok (.invokevirtual 109, 3) := by decide +kernel
theorem dX9_firstWrong_46 : decode cX9_firstWrong 46 = .ok (.goto 4, 3) := by decide +kernel
theorem dX9_firstWrong_49 : decode cX9_firstWrong 49 = .ok (.iconst 0, 1) := by decide +kernel
theorem dX9_firstWrong_50 : decode cX9_firstWrong 50 = .ok (.istore_n 3, 1) := by decide +kernel
theorem dX9_firstWrong_51 : decode cX9_firstWrong 51 = .ok (.iload_n 3, 1) := by decide +kernel
theorem dX9_firstWrong_52 : decode cX9_firstWrong 52 = .ok (.aload_n 0, 1) := by decide +kernel
theorem dX9_firstWrong_53 : decode cX9_firstWrong 53 = .ok (.getfield 58, 3) := by decide +kernel
theorem dX9_firstWrong_56 : decode cX9_firstWrong 56 = .ok (.iload_n 1, 1) := by decide +kernel
theorem dX9_firstWrong_57 : decode cX9_firstWrong 57 = .ok (.invokevirtual 285, 3) := by decide +kernel
theorem dX9_firstWrong_60 : decode cX9_firstWrong 60 = .ok (.if_icmp .eq 5, 3) := by decide +kernel
theorem dX9_firstWrong_63 : decode cX9_firstWrong 63 = .ok (.iload_n 1, 1) := by decide +kernel
theorem dX9_firstWrong_64 : decode cX9_firstWrong 64 = .ok (.ireturn, 1) := by decide +kernel
theorem dX9_firstWrong_65 : decode cX9_firstWrong 65 = .ok (.iinc 1 1, 3) := by decide +kernel
theorem dX9_firstWrong_68 : decode cX9_firstWrong 68 = .ok (.goto (-66), 3) := by decide +kernel
theorem dX9_firstWrong_71 : decode cX9_firstWrong 71 = .ok (.iconst (-1), 1) := by decide +kernel
theorem dX9_firstWrong_72 : decode cX9_firstWrong 72 = .ok (.ireturn, 1) := by decide +kernel
theorem dX10_init_0 : decode cX10_init 0 = .ok (.aload_n 0, 1) := by decide +kernel
theorem dX10_init_1 : decode cX10_init 1 = .ok (.invokespecial 1, 3) := by decide +kernel
theorem dX10_init_4 : decode cX10_init 4 = .ok (.aload_n 0, 1) := by decide +kernel
theorem dX10_init_5 : decode cX10_init 5 = .ok (.sipush 190, 3) := by decide +kernel
theorem dX10_init_8 : decode cX10_init 8 = .ok (.newarray .int, 2) := by decide +kernel
theorem dX10_init_10 : decode cX10_init 10 = .ok (.putfield 7, 3) := by decide +kernel
theorem dX10_init_13 : decode cX10_init 13 = .ok (.aload_n 0, 1) := by decide +kernel
theorem dX10_init_14 : decode cX10_init 14 = .ok (.iconst 2, 1) := by decide +kernel
theorem dX10_init_15 : decode cX10_init 15 = .ok (.newarray .int, 2) := by decide +kernel
theorem dX10_init_17 : decode cX10_init 17 = .ok (.putfield 13, 3) := by decide +kernel
theorem dX10_init_20 : decode cX10_init 20 = .ok (.aload_n 0, 1) := by decide +kernel
theorem dX10_init_21 : decode cX10_init 21 = .ok (.sipush 160, 3) := by decide +kernel
theorem dX10_init_24 : decode cX10_init 24 = .ok (.newarray .int, 2) := by decide +kernel
theorem dX10_init_26 : decode cX10_init 26 = .ok (.putfield 16, 3) := by decide +kernel
theorem dX10_init_29 : decode cX10_init 29 = .ok (.aload_n 0, 1) := by decide +kernel
theorem dX10_init_30 : decode cX10_init 30 = .ok (.iconst (-1), 1) := by decide +kernel
theorem dX10_init_31 : decode cX10_init 31 = .ok (.putfield 19, 3) := by decide +kernel
theorem dX10_init_34 : decode cX10_init 34 = .ok (.aload_n 0, 1) := by decide +kernel
theorem dX10_init_35 : decode cX10_init 35 = .ok (.bipush 20, 2) := by decide +kernel
theorem dX10_init_37 : decode cX10_init 37 = .ok (.newarray .int, 2) := by decide +kernel
theorem dX10_init_39 : decode cX10_init 39 = .ok (.putfield 23, 3) := by decide +kernel
theorem dX10_init_42 : decode cX10_init 42 = .ok (.aload_n 0, 1) := by decide +kernel
theorem dX10_init_43 : decode cX10_init 43 = .ok (.bipush 20, 2) := by decide +kernel
theorem dX10_init_45 : decode cX10_init 45 = .ok (.newarray .int, 2) := by decide +kernel
theorem dX10_init_47 : decode cX10_init 47 = .ok (.putfield 26, 3) := by decide +kernel
theorem dX10_init_50 : decode cX10_init 50 = .ok (.aload_n 0, 1) := by decide +kernel
theorem dX10_init_51 : decode cX10_init 51 = .ok (.bipush 20, 2) := by decide +kernel
theorem dX10_init_53 : decode cX10_init 53 = .ok (.newarray .int, 2) := by decide +kernel
theorem dX10_init_55 : decode cX10_init 55 = .ok (.putfield 29, 3) := by decide +kernel
theorem dX10_init_58 : decode cX10_init 58 = .ok (.aload_n 0, 1) := by decide +kernel
theorem dX10_init_59 : decode cX10_init 59 = .ok (.sipush 160, 3) := by decide +kernel
theorem dX10_init_62 : decode cX10_init 62 = .ok (.newarray .int, 2) := by decide +kernel
theorem dX10_init_64 : decode cX10_init 64 = .ok (.putfield 32, 3) := by decide +kernel
theorem dX10_init_67 : decode cX10_init 67 = .ok (.aload_n 0, 1) := by decide +kernel
theorem dX10_init_68 : decode cX10_init 68 = .ok (.iconst 5, 1) := by decide +kernel
theorem dX10_init_69 : decode cX10_init 69 = .ok (.newarray .int, 2) := by decide +kernel
theorem dX10_init_71 : decode cX10_init 71 = .ok (.putfield 35, 3) := by decide +kernel
theorem dX10_init_74 : decode cX10_init 74 = .ok (.aload_n 0, 1) := by decide +kernel
theorem dX10_init_75 : decode cX10_init 75 = .ok (.sipush 364, 3) := by decide +kernel
theorem dX10_init_78 : decode cX10_init 78 = .ok (.newarray .int, 2) := by decide +kernel
theorem dX10_init_80 : decode cX10_init 80 = .ok (.putfield 38, 3) := by decide +kernel
theorem dX10_init_83 : decode cX10_init 83 = .ok (.aload_n 0, 1) := by decide +kernel
theorem dX10_init_84 : decode cX10_init 84 = .ok (.sipush 364, 3) := by decide +kernel
theorem dX10_init_87 : decode cX10_init 87 = .ok (.newarray .int, 2) := by decide +kernel
theorem dX10_init_89 : decode cX10_init 89 = .ok (.putfield 41, 3) := by decide +kernel
theorem dX10_init_92 : decode cX10_init 92 = .ok (.aload_n 0, 1) := by decide +kernel
theorem dX10_init_93 : decode cX10_init 93 = .ok (.sipush 364, 3) := by decide +kernel
theorem dX10_init_96 : decode cX10_init 96 = .ok (.newarray .int, 2) := by decide +kernel
theorem dX10_init_98 : decode cX10_init 98 = .ok (.putfield 44, 3) := by decide +kernel
theorem dX10_init_101 : decode cX10_init 101 = .ok (.aload_n 0, 1) := by decide +kernel
theorem dX10_init_102 : decode cX10_init 102 = .ok (.sipush 364, 3) := by decide +kernel
theorem dX10_init_105 : decode cX10_init 105 = .ok (.newarray .int, 2) := by decide +kernel
theorem dX10_init_107 : decode cX10_init 107 = .ok (.putfield 47, 3) := by decide +kernel
theorem dX10_init_110 : decode cX10_init 110 = .ok (.aload_n 0, 1) := by decide +kernel
theorem dX10_init_111 : decode cX10_init 111 = .ok (.sipush 364, 3) := by decide +kernel
theorem dX10_init_114 : decode cX10_init 114 = .ok (.newarray .int, 2) := by decide +kernel
theorem dX10_init_116 : decode cX10_init 116 = .ok (.putfield 50, 3) := by decide +kernel
theorem dX10_init_119 : decode cX10_init 119 = .ok (.aload_n 0, 1) := by decide +kernel
theorem dX10_init_120 : decode cX10_init 120 = .ok (.sipush 364, 3) := by decide +kernel
theorem dX10_init_123 : decode cX10_init 123 = .ok (.newarray .int, 2) := by decide +kernel
theorem dX10_init_125 : decode cX10_init 125 = .ok (.putfield 53, 3) := by decide +kernel
theorem dX10_init_128 : decode cX10_init 128 = .ok (.aload_n 0, 1) := by decide +kernel
theorem dX10_init_129 : decode cX10_init 129 = .ok (.sipush 364, 3) := by decide +kernel
theorem dX10_init_132 : decode cX10_init 132 = .ok (.newarray .int, 2) := by decide +kernel
theorem dX10_init_134 : decode cX10_init 134 = .ok (.putfield 56, 3) := by decide +kernel
theorem dX10_init_137 : decode cX10_init 137 = .ok (.aload_n 0, 1) := by decide +kernel
theorem dX10_init_138 : decode cX10_init 138 = .ok (.bipush 8, 2) := by decide +kernel
theorem dX10_init_140 : decode cX10_init 140 = .ok (.newarray .int, 2) := by decide +kernel
theorem dX10_init_142 : decode cX10_init 142 = .ok (.putfield 59, 3) := by decide +kernel
theorem dX10_init_145 : decode cX10_init 145 = .ok (.aload_n 0, 1) := by decide +kernel
theorem dX10_init_146 : decode cX10_init 146 = .ok (.sipush 364, 3) := by decide +kernel
theorem dX10_init_149 : decode cX10_init 149 = .ok (.newarray .int, 2) := by decide +kernel
theorem dX10_init_151 : decode cX10_init 151 = .ok (.putfield 62, 3) := by decide +kernel
theorem dX10_init_154 : decode cX10_init 154 = .ok (.aload_n 0, 1) := by decide +kernel
theorem dX10_init_155 : decode cX10_init 155 = .ok (.sipush 364, 3) := by decide +kernel
theorem dX10_init_158 : decode cX10_init 158 = .ok (.newarray .int, 2) := by decide +kernel
theorem dX10_init_160 : decode cX10_init 160 = .ok (.putfield 65, 3) := by decide +kernel
theorem dX10_init_163 : decode cX10_init 163 = .ok (.aload_n 0, 1) := by decide +kernel
theorem dX10_init_164 : decode cX10_init 164 = .ok (.sipush 364, 3) := by decide +kernel
theorem dX10_init_167 : decode cX10_init 167 = .ok (.newarray .int, 2) := by decide +kernel
theorem dX10_init_169 : decode cX10_init 169 = .ok (.putfield 68, 3) := by decide +kernel
theorem dX10_init_172 : decode cX10_init 172 = .ok (.aload_n 0, 1) := by decide +kernel
theorem dX10_init_173 : decode cX10_init 173 = .ok (.sipush 364, 3) := by decide +kernel
theorem dX10_init_176 : decode cX10_init 176 = .ok (.newarray .int, 2) := by decide +kernel
theorem dX10_init_178 : decode cX10_init 178 = .ok (.putfield 71, 3) := by decide +kernel
theorem dX10_init_181 : decode cX10_init 181 = .ok (.aload_n 0, 1) := by decide +kernel
theorem dX10_init_182 : decode cX10_init 182 = .ok (.sipush 364, 3) := by decide +kernel
theorem dX10_init_185 : decode cX10_init 185 = .ok (.newarray .int, 2) := by decide +kernel
theorem dX10_init_187 : decode cX10_init 187 = .ok (.putfield 74, 3) := by decide +kernel
theorem dX10_init_190 : decode cX10_init 190 = .ok (.aload_n 0, 1) := by decide +kernel
theorem dX10_init_191 : decode cX10_init 191 = .ok (.sipush 364, 3) := by decide +kernel
theorem dX10_init_194 : decode cX10_init 194 = .ok (.newarray .int, 2) := by decide +kernel
theorem dX10_init_196 : decode cX10_init 196 = .ok (.putfield 77, 3) := by decide +kernel
theorem dX10_init_199 : decode cX10_init 199 = .ok (.aload_n 0, 1) := by decide +kernel
theorem dX10_init_200 : decode cX10_init 200 = .ok (.sipush 364, 3) := by decide +kernel
theorem dX10_init_203 : decode cX10_init 203 = .ok (.newarray .int, 2) := by decide +kernel
theorem dX10_init_205 : decode cX10_init 205 = .ok (.putfield 80, 3) := by decide +kernel
theorem dX10_init_208 : decode cX10_init 208 = .ok (.aload_n 0, 1) := by decide +kernel
theorem dX10_init_209 : decode cX10_init 209 = .ok (.sipush 364, 3) := by decide +kernel
theorem dX10_init_212 : decode cX10_init 212 = .ok (.newarray .int, 2) := by decide +kernel
theorem dX10_init_214 : decode cX10_init 214 = .ok (.putfield 83, 3) := by decide +kernel
theorem dX10_init_217 : decode cX10_init 217 = .ok (.aload_n 0, 1) := by decide +kernel
theorem dX10_init_218 : decode cX10_init 218 = .ok (.sipush 1200, 3) := by decide +kernel
theorem dX10_init_221 : decode cX10_init 221 = .ok (.newarray .int, 2) := by decide +kernel
theorem dX10_init_223 : decode cX10_init 223 = .ok (.putfield 86, 3) := by decide +kernel
theorem dX10_init_226 : decode cX10_init 226 = .ok (.aload_n 0, 1) := by decide +kernel
theorem dX10_init_227 : decode cX10_init 227 = .ok (.sipush 1200, 3) := by decide +kernel
theorem dX10_init_230 : decode cX10_init 230 = .ok (.newarray .int, 2) := by decide +kernel
theorem dX10_init_232 : decode cX10_init 232 = .ok (.putfield 89, 3) := by decide +kernel
theorem dX10_init_235 : decode cX10_init 235 = .ok (.aload_n 0, 1) := by decide +kernel
theorem dX10_init_236 : decode cX10_init 236 = .ok (.sipush 1200, 3) := by decide +kernel
theorem dX10_init_239 : decode cX10_init 239 = .ok (.newarray .int, 2) := by decide +kernel
theorem dX10_init_241 : decode cX10_init 241 = .ok (.putfield 92, 3) := by decide +kernel
theorem dX10_init_244 : decode cX10_init 244 = .ok (.aload_n 0, 1) := by decide +kernel
theorem dX10_init_245 : decode cX10_init 245 = .ok (.getfield 32, 3) := by decide +kernel
theorem dX10_init_248 : decode cX10_init 248 = .ok (.iconst 0, 1) := by decide +kernel
theorem dX10_init_249 : decode cX10_init 249 = .ok (.bipush 48, 2) := by decide +kernel
theorem dX10_init_251 : decode cX10_init 251 = .ok (.iastore, 1) := by decide +kernel
theorem dX10_init_252 : decode cX10_init 252 = .ok (.aload_n 0, 1) := by decide +kernel
theorem dX10_init_253 : decode cX10_init 253 = .ok (.iconst 1, 1) := by decide +kernel
theorem dX10_init_254 : decode cX10_init 254 = .ok (.putfield 95, 3) := by decide +kernel
theorem dX10_init_257 : decode cX10_init 257 = .ok (.aload_n 0, 1) := by decide +kernel
theorem dX10_init_258 : decode cX10_init 258 = .ok (.invokevirtual 98, 3) := by decide +kernel
theorem dX10_init_261 : decode cX10_init 261 = .ok (.return_, 1) := by decide +kernel
theorem dX10_in_0 : decode cX10_in 0 = .ok (.lload_n 0, 1) := by decide +kernel
theorem dX10_in_1 : decode cX10_in 1 = .ok (.lload_n 2, 1) := by decide +kernel
theorem dX10_in_2 : decode cX10_in 2 = .ok (.lcmp, 1) := by decide +kernel
theorem dX10_in_3 : decode cX10_in 3 = .ok (.ifCond .lt 14, 3) := by decide +kernel
theorem dX10_in_6 : decode cX10_in 6 = .ok (.lload_n 0, 1) := by decide +kernel
theorem dX10_in_7 : decode cX10_in 7 = .ok (.lload 4, 2) := by decide +kernel
theorem dX10_in_9 : decode cX10_in 9 = .ok (.lcmp, 1) := by decide +kernel
theorem dX10_in_10 : decode cX10_in 10 = .ok (.ifCond .gt 7, 3) := by decide +kernel
theorem dX10_in_13 : decode cX10_in 13 = .ok (.iconst 1, 1) := by decide +kernel
theorem dX10_in_14 : decode cX10_in 14 = .ok (.goto 4, 3) := by decide +kernel
theorem dX10_in_17 : decode cX10_in 17 = .ok (.iconst 0, 1) := by decide +kernel
theorem dX10_in_18 : decode cX10_in 18 = .ok (.ireturn, 1) := by decide +kernel
theorem dX10_has_0 : decode cX10_has 0 = .ok (.iload_n 0, 1) := by decide +kernel
theorem dX10_has_1 : decode cX10_has 1 = .ok (.iload_n 1, 1) := by decide +kernel
theorem dX10_has_2 : decode cX10_has 2 = .ok (.ishr, 1) := by decide +kernel
theorem dX10_has_3 : decode cX10_has 3 = .ok (.iconst 1, 1) := by decide +kernel
theorem dX10_has_4 : decode cX10_has 4 = .ok (.iand, 1) := by decide +kernel
theorem dX10_has_5 : decode cX10_has 5 = .ok (.iconst 1, 1) := by decide +kernel
theorem dX10_has_6 : decode cX10_has 6 = .ok (.if_icmp .ne 7, 3) := by decide +kernel
theorem dX10_has_9 : decode cX10_has 9 = .ok (.iconst 1, 1) := by decide +kernel
theorem dX10_has_10 : decode cX10_has 10 = .ok (.goto 4, 3) := by decide +kernel
theorem dX10_has_13 : decode cX10_has 13 = .ok (.iconst 0, 1) := by decide +kernel
theorem dX10_has_14 : decode cX10_has 14 = .ok (.ireturn, 1) := by decide +kernel
theorem dX10_copyRow_0 : decode cX10_copyRow 0 = .ok (.iconst 0, 1) := by decide +kernel
theorem dX10_copyRow_1 : decode cX10_copyRow 1 = .ok (.istore_n 3, 1) := by decide +kernel
theorem dX10_copyRow_2 : decode cX10_copyRow 2 = .ok (.iload_n 3, 1) := by decide +kernel
theorem dX10_copyRow_3 : decode cX10_copyRow 3 = .ok (.bipush 10, 2) := by decide +kernel
theorem dX10_copyRow_5 : decode cX10_copyRow 5 = .ok (.if_icmp .ge 25, 3) := by decide +kernel
theorem dX10_copyRow_8 : decode cX10_copyRow 8 = .ok (.aload_n 0, 1) := by decide +kernel
theorem dX10_copyRow_9 : decode cX10_copyRow 9 = .ok (.getfield 7, 3) := by decide +kernel
theorem dX10_copyRow_12 : decode cX10_copyRow 12 = .ok (.iload_n 2, 1) := by decide +kernel
theorem dX10_copyRow_13 : decode cX10_copyRow 13 = .ok (.iload_n 3, 1) := by decide +kernel
theorem dX10_copyRow_14 : decode cX10_copyRow 14 = .ok (.iadd, 1) := by decide +kernel
theorem dX10_copyRow_15 : decode cX10_copyRow 15 = .ok (.aload_n 0, 1) := by decide +kernel
theorem dX10_copyRow_16 : decode cX10_copyRow 16 = .ok (.getfield 7, 3) := by decide +kernel
theorem dX10_copyRow_19 : decode cX10_copyRow 19 = .ok (.iload_n 1, 1) := by decide +kernel
theorem dX10_copyRow_20 : decode cX10_copyRow 20 = .ok (.iload_n 3, 1) := by decide +kernel
theorem dX10_copyRow_21 : decode cX10_copyRow 21 = .ok (.iadd, 1) := by decide +kernel
theorem dX10_copyRow_22 : decode cX10_copyRow 22 = .ok (.iaload, 1) := by decide +kernel
theorem dX10_copyRow_23 : decode cX10_copyRow 23 = .ok (.iastore, 1) := by decide +kernel
theorem dX10_copyRow_24 : decode cX10_copyRow 24 = .ok (.iinc 3 1, 3) := by decide +kernel
theorem dX10_copyRow_27 : decode cX10_copyRow 27 = .ok (.goto (-25), 3) := by decide +kernel
theorem dX10_copyRow_30 : decode cX10_copyRow 30 = .ok (.return_, 1) := by decide +kernel
theorem dX10_remember_0 : decode cX10_remember 0 = .ok (.bipush 16, 2) := by decide +kernel
theorem dX10_remember_2 : decode cX10_remember 2 = .ok (.istore_n 1, 1) := by decide +kernel
theorem dX10_remember_3 : decode cX10_remember 3 = .ok (.iload_n 1, 1) := by decide +kernel
theorem dX10_remember_4 : decode cX10_remember 4 = .ok (.ifCond .le 23, 3) := by decide +kernel
theorem dX10_remember_7 : decode cX10_remember 7 = .ok (.aload_n 0, 1) := by decide +kernel
theorem dX10_remember_8 : decode cX10_remember 8 = .ok (.bipush 10, 2) := by decide +kernel
theorem dX10_remember_10 : decode cX10_remember 10 = .ok (.iload_n 1, 1) := by decide +kernel
theorem dX10_remember_11 : decode cX10_remember 11 = .ok (.iconst 1, 1) := by decide +kernel
theorem dX10_remember_12 : decode cX10_remember 12 = .ok (.isub, 1) := by decide +kernel
theorem dX10_remember_13 : decode cX10_remember 13 = .ok (.imul, 1) := by decide +kernel
theorem dX10_remember_14 : decode cX10_remember 14 = .ok (.bipush 10, 2) := by decide +kernel
theorem dX10_remember_16 : decode cX10_remember 16 = .ok (.iload_n 1, 1) := by decide +kernel
theorem dX10_remember_17 : decode cX10_remember 17 = .ok (.imul, 1) := by decide +kernel
theorem dX10_remember_18 : decode cX10_remember 18 = .ok (.invokevirtual 101, 3) := by decide +kernel
theorem dX10_remember_21 : decode cX10_remember 21 = .ok (.iinc 1 (-1), 3) := by decide +kernel
theorem dX10_remember_24 : decode cX10_remember 24 = .ok (.goto (-21), 3) := by decide +kernel
theorem dX10_remember_27 : decode cX10_remember 27 = .ok (.aload_n 0, 1) := by decide +kernel
theorem dX10_remember_28 : decode cX10_remember 28 = .ok (.aload_n 0, 1) := by decide +kernel
theorem dX10_remember_29 : decode cX10_remember 29 = .ok (.getfield 105, 3) := by decide +kernel
theorem dX10_remember_32 : decode cX10_remember 32 = .ok (.bipush 16, 2) := by decide +kernel
theorem dX10_remember_34 : decode cX10_remember 34 = .ok (.if_icmp .ge 12, 3) := by decide +kernel
theorem dX10_remember_37 : decode cX10_remember 37 = .ok (.aload_n 0, 1) := by decide +kernel
theorem dX10_remember_38 : decode cX10_remember 38 = .ok (.getfield 105, 3) := by decide +kernel
theorem dX10_remember_41 : decode cX10_remember 41 = .ok (.iconst 1, 1) := by decide +kernel
theorem dX10_remember_42 : decode cX10_remember 42 = .ok (.iadd, 1) := by decide +kernel
theorem dX10_remember_43 : decode cX10_remember 43 = .ok (.goto 5, 3) := by decide +kernel
theorem dX10_remember_46 : decode cX10_remember 46 = .ok (.bipush 16, 2) := by decide +kernel
theorem dX10_remember_48 : decode cX10_remember 48 = .ok (.putfield 105, 3) := by decide +kernel
theorem dX10_remember_51 : decode cX10_remember 51 = .ok (.return_, 1) := by decide +kernel
theorem dX10_push_0 : decode cX10_push 0 = .ok (.aload_n 0, 1) := by decide +kernel
theorem dX10_push_1 : decode cX10_push 1 = .ok (.getfield 86, 3) := by decide +kernel
theorem dX10_push_4 : decode cX10_push 4 = .ok (.aload_n 0, 1) := by decide +kernel
theorem dX10_push_5 : decode cX10_push 5 = .ok (.getfield 108, 3) := by decide +kernel
theorem dX10_push_8 : decode cX10_push 8 = .ok (.iload_n 1, 1) := by decide +kernel
theorem dX10_push_9 : decode cX10_push 9 = .ok (.iastore, 1) := by decide +kernel
theorem dX10_push_10 : decode cX10_push 10 = .ok (.aload_n 0, 1) := by decide +kernel
theorem dX10_push_11 : decode cX10_push 11 = .ok (.getfield 89, 3) := by decide +kernel
theorem dX10_push_14 : decode cX10_push 14 = .ok (.aload_n 0, 1) := by decide +kernel
theorem dX10_push_15 : decode cX10_push 15 = .ok (.getfield 108, 3) := by decide +kernel
theorem dX10_push_18 : decode cX10_push 18 = .ok (.iconst 0, 1) := by decide +kernel
theorem dX10_push_19 : decode cX10_push 19 = .ok (.iastore, 1) := by decide +kernel
theorem dX10_push_20 : decode cX10_push 20 = .ok (.aload_n 0, 1) := by decide +kernel
theorem dX10_push_21 : decode cX10_push 21 = .ok (.getfield 92, 3) := by decide +kernel
theorem dX10_push_24 : decode cX10_push 24 = .ok (.aload_n 0, 1) := by decide +kernel
theorem dX10_push_25 : decode cX10_push 25 = .ok (.getfield 108, 3) := by decide +kernel
theorem dX10_push_28 : decode cX10_push 28 = .ok (.iload_n 2, 1) := by decide +kernel
theorem dX10_push_29 : decode cX10_push 29 = .ok (.iastore, 1) := by decide +kernel
theorem dX10_push_30 : decode cX10_push 30 = .ok (.aload_n 0, 1) := by decide +kernel
theorem dX10_push_31 : decode cX10_push 31 = .ok (.dup, 1) := by decide +kernel
theorem dX10_push_32 : decode cX10_push 32 = .ok (.getfield 108, 3) := by decide +kernel
theorem dX10_push_35 : decode cX10_push 35 = .ok (.iconst 1, 1) := by decide +kernel
theorem dX10_push_36 : decode cX10_push 36 = .ok (.iadd, 1) := by decide +kernel
theorem dX10_push_37 : decode cX10_push 37 = .ok (.putfield 108, 3) := by decide +kernel
theorem dX10_push_40 : decode cX10_push 40 = .ok (.return_, 1) := by decide +kernel
theorem dX10_wants_0 : decode cX10_wants 0 = .ok (.iload_n 0, 1) := by decide +kernel
theorem dX10_wants_1 : decode cX10_wants 1 = .ok (.bipush 43, 2) := by decide +kernel
theorem dX10_wants_3 : decode cX10_wants 3 = .ok (.if_icmp .eq 21, 3) := by decide +kernel
theorem dX10_wants_6 : decode cX10_wants 6 = .ok (.iload_n 0, 1) := by decide +kernel
theorem dX10_wants_7 : decode cX10_wants 7 = .ok (.bipush 45, 2) := by decide +kernel
theorem dX10_wants_9 : decode cX10_wants 9 = .ok (.if_icmp .eq 15, 3) := by decide +kernel
theorem dX10_wants_12 : decode cX10_wants 12 = .ok (.iload_n 0, 1) := by decide +kernel
theorem dX10_wants_13 : decode cX10_wants 13 = .ok (.bipush 42, 2) := by decide +kernel
theorem dX10_wants_15 : decode cX10_wants 15 = .ok (.if_icmp .eq 9, 3) := by decide +kernel
theorem dX10_wants_18 : decode cX10_wants 18 = .ok (.iload_n 0, 1) := by decide +kernel
theorem dX10_wants_19 : decode cX10_wants 19 = .ok (.bipush 60, 2) := by decide +kernel
theorem dX10_wants_21 : decode cX10_wants 21 = .ok (.if_icmp .ne 5, 3) := by decide +kernel
theorem dX10_wants_24 : decode cX10_wants 24 = .ok (.iconst 2, 1) := by decide +kernel
theorem dX10_wants_25 : decode cX10_wants 25 = .ok (.ireturn, 1) := by decide +kernel
theorem dX10_wants_26 : decode cX10_wants 26 = .ok (.iload_n 0, 1) := by decide +kernel
theorem dX10_wants_27 : decode cX10_wants 27 = .ok (.bipush 63, 2) := by decide +kernel
theorem dX10_wants_29 : decode cX10_wants 29 = .ok (.if_icmp .ne 7, 3) := by decide +kernel
theorem dX10_wants_32 : decode cX10_wants 32 = .ok (.iconst 3, 1) := by decide +kernel
theorem dX10_wants_33 : decode cX10_wants 33 = .ok (.goto 20, 3) := by decide +kernel
theorem dX10_wants_36 : decode cX10_wants 36 = .ok (.iload_n 0, 1) := by decide +kernel
theorem dX10_wants_37 : decode cX10_wants 37 = .ok (.bipush 120, 2) := by decide +kernel
theorem dX10_wants_39 : decode cX10_wants 39 = .ok (.if_icmp .eq 9, 3) := by decide +kernel
theorem dX10_wants_42 : decode cX10_wants 42 = .ok (.iload_n 0, 1) := by decide +kernel
theorem dX10_wants_43 : decode cX10_wants 43 = .ok (.bipush 102, 2) := by decide +kernel
theorem dX10_wants_45 : decode cX10_wants 45 = .ok (.if_icmp .ne 7, 3) := by decide +kernel
theorem dX10_wants_48 : decode cX10_wants 48 = .ok (.iconst 1, 1) := by decide +kernel
theorem dX10_wants_49 : decode cX10_wants 49 = .ok (.goto 4, 3) := by decide +kernel
theorem dX10_wants_52 : decode cX10_wants 52 = .ok (.iconst 0, 1) := by decide +kernel
theorem dX10_wants_53 : decode cX10_wants 53 = .ok (.ireturn, 1) := by decide +kernel
theorem dX10_skip_0 : decode cX10_skip 0 = .ok (.iconst 1, 1) := by decide +kernel
theorem dX10_skip_1 : decode cX10_skip 1 = .ok (.istore_n 1, 1) := by decide +kernel
theorem dX10_skip_2 : decode cX10_skip 2 = .ok (.iload_n 1, 1) := by decide +kernel
theorem dX10_skip_3 : decode cX10_skip 3 = .ok (.ifCond .le 45, 3) := by decide +kernel
theorem dX10_skip_6 : decode cX10_skip 6 = .ok (.aload_n 0, 1) := by decide +kernel
theorem dX10_skip_7 : decode cX10_skip 7 = .ok (.getfield 32, 3) := by decide +kernel
theorem dX10_skip_10 : decode cX10_skip 10 = .ok (.aload_n 0, 1) := by decide +kernel
theorem dX10_skip_11 : decode cX10_skip 11 = .ok (.getfield 111, 3) := by decide +kernel
theorem dX10_skip_14 : decode cX10_skip 14 = .ok (.iaload, 1) := by decide +kernel
theorem dX10_skip_15 : decode cX10_skip 15 = .ok (.istore_n 2, 1) := by decide +kernel
theorem dX10_skip_16 : decode cX10_skip 16 = .ok (.aload_n 0, 1) := by decide +kernel
theorem dX10_skip_17 : decode cX10_skip 17 = .ok (.dup, 1) := by decide +kernel
theorem dX10_skip_18 : decode cX10_skip 18 = .ok (.getfield 111, 3) := by decide +kernel
theorem dX10_skip_21 : decode cX10_skip 21 = .ok (.iload_n 2, 1) := by decide +kernel
theorem dX10_skip_22 : decode cX10_skip 22 = .ok (.bipush 102, 2) := by decide +kernel
theorem dX10_skip_24 : decode cX10_skip 24 = .ok (.if_icmp .ne 7, 3) := by decide +kernel
theorem dX10_skip_27 : decode cX10_skip 27 = .ok (.iconst 2, 1) := by decide +kernel
theorem dX10_skip_28 : decode cX10_skip 28 = .ok (.goto 4, 3) := by decide +kernel
theorem dX10_skip_31 : decode cX10_skip 31 = .ok (.iconst 1, 1) := by decide +kernel
theorem dX10_skip_32 : decode cX10_skip 32 = .ok (.iadd, 1) := by decide +kernel
theorem dX10_skip_33 : decode cX10_skip 33 = .ok (.putfield 111, 3) := by decide +kernel
theorem dX10_skip_36 : decode cX10_skip 36 = .ok (.iload_n 1, 1) := by decide +kernel
theorem dX10_skip_37 : decode cX10_skip 37 = .ok (.iload_n 2, 1) := by decide +kernel
theorem dX10_skip_38 : decode cX10_skip 38 = .ok (.invokestatic 114, 3) := by decide +kernel
theorem dX10_skip_41 : decode cX10_skip 41 = .ok (.iconst 1, 1) := by decide +kernel
theorem dX10_skip_42 : decode cX10_skip 42 = .ok (.isub, 1) := by decide +kernel
theorem dX10_skip_43 : decode cX10_skip 43 = .ok (.iadd, 1) := by decide +kernel
theorem dX10_skip_44 : decode cX10_skip 44 = .ok (.istore_n 1, 1) := by decide +kernel
theorem dX10_skip_45 : decode cX10_skip 45 = .ok (.goto (-43), 3) := by decide +kernel
theorem dX10_skip_48 : decode cX10_skip 48 = .ok (.return_, 1) := by decide +kernel
theorem dX10_begin_0 : decode cX10_begin 0 = .ok (.aload_n 0, 1) := by decide +kernel
theorem dX10_begin_1 : decode cX10_begin 1 = .ok (.getfield 118, 3) := by decide +kernel
theorem dX10_begin_4 : decode cX10_begin 4 = .ok (.ifCond .ne 7, 3) := by decide +kernel
theorem dX10_begin_7 : decode cX10_begin 7 = .ok (.iconst 0, 1) := by decide +kernel
theorem dX10_begin_8 : decode cX10_begin 8 = .ok (.goto 12, 3) := by decide +kernel
theorem dX10_begin_11 : decode cX10_begin 11 = .ok (.aload_n 0, 1) := by decide +kernel
theorem dX10_begin_12 : decode cX10_begin 12 = .ok (.getfield 71, 3) := by decide +kernel
theorem dX10_begin_15 : decode cX10_begin 15 = .ok (.aload_n 0, 1) := by decide +kernel
theorem dX10_begin_16 : decode cX10_begin 16 = .ok (.getfield 121, 3) := by decide +kernel
theorem dX10_begin_19 : decode cX10_begin 19 = .ok (.iaload, 1) := by decide +kernel
theorem dX10_begin_20 : decode cX10_begin 20 = .ok (.istore_n 3, 1) := by decide +kernel
theorem dX10_begin_21 : decode cX10_begin 21 = .ok (.aload_n 0, 1) := by decide +kernel
theorem dX10_begin_22 : decode cX10_begin 22 = .ok (.getfield 121, 3) := by decide +kernel
theorem dX10_begin_25 : decode cX10_begin 25 = .ok (.istore 4, 2) := by decide +kernel
theorem dX10_begin_27 : decode cX10_begin 27 = .ok (.aload_n 0, 1) := by decide +kernel
theorem dX10_begin_28 : decode cX10_begin 28 = .ok (.aload_n 0, 1) := by decide +kernel
theorem dX10_begin_29 : decode cX10_begin 29 = .ok (.getfield 118, 3) := by decide +kernel
theorem dX10_begin_32 : decode cX10_begin 32 = .ok (.putfield 121, 3) := by decide +kernel
theorem dX10_begin_35 : decode cX10_begin 35 = .ok (.aload_n 0, 1) := by decide +kernel
theorem dX10_begin_36 : decode cX10_begin 36 = .ok (.getfield 62, 3) := by decide +kernel
theorem dX10_begin_39 : decode cX10_begin 39 = .ok (.aload_n 0, 1) := by decide +kernel
theorem dX10_begin_40 : decode cX10_begin 40 = .ok (.getfield 121, 3) := by decide +kernel
theorem dX10_begin_43 : decode cX10_begin 43 = .ok (.iload_n 1, 1) := by decide +kernel
theorem dX10_begin_44 : decode cX10_begin 44 = .ok (.iastore, 1) := by decide +kernel
theorem dX10_begin_45 : decode cX10_begin 45 = .ok (.aload_n 0, 1) := by decide +kernel
theorem dX10_begin_46 : decode cX10_begin 46 = .ok (.getfield 65, 3) := by decide +kernel
theorem dX10_begin_49 : decode cX10_begin 49 = .ok (.aload_n 0, 1) := by decide +kernel
theorem dX10_begin_50 : decode cX10_begin 50 = .ok (.getfield 121, 3) := by decide +kernel
theorem dX10_begin_53 : decode cX10_begin 53 = .ok (.iload_n 2, 1) := by decide +kernel
theorem dX10_begin_54 : decode cX10_begin 54 = .ok (.iastore, 1) := by decide +kernel
theorem dX10_begin_55 : decode cX10_begin 55 = .ok (.aload_n 0, 1) := by decide +kernel
theorem dX10_begin_56 : decode cX10_begin 56 = .ok (.getfield 71, 3) := by decide +kernel
theorem dX10_begin_59 : decode cX10_begin 59 = .ok (.aload_n 0, 1) := by decide +kernel
theorem dX10_begin_60 : decode cX10_begin 60 = .ok (.getfield 121, 3) := by decide +kernel
theorem dX10_begin_63 : decode cX10_begin 63 = .ok (.iload_n 3, 1) := by decide +kernel
theorem dX10_begin_64 : decode cX10_begin 64 = .ok (.iconst 1, 1) := by decide +kernel
theorem dX10_begin_65 : decode cX10_begin 65 = .ok (.iadd, 1) := by decide +kernel
theorem dX10_begin_66 : decode cX10_begin 66 = .ok (.iastore, 1) := by decide +kernel
theorem dX10_begin_67 : decode cX10_begin 67 = .ok (.aload_n 0, 1) := by decide +kernel
theorem dX10_begin_68 : decode cX10_begin 68 = .ok (.getfield 74, 3) := by decide +kernel
theorem dX10_begin_71 : decode cX10_begin 71 = .ok (.aload_n 0, 1) := by decide +kernel
theorem dX10_begin_72 : decode cX10_begin 72 = .ok (.getfield 121, 3) := by decide +kernel
theorem dX10_begin_75 : decode cX10_begin 75 = .ok (.iconst 0, 1) := by decide +kernel
theorem dX10_begin_76 : decode cX10_begin 76 = .ok (.iastore, 1) := by decide +kernel
theorem dX10_begin_77 : decode cX10_begin 77 = .ok (.aload_n 0, 1) := by decide +kernel
theorem dX10_begin_78 : decode cX10_begin 78 = .ok (.dup, 1) := by decide +kernel
theorem dX10_begin_79 : decode cX10_begin 79 = .ok (.getfield 118, 3) := by decide +kernel
theorem dX10_begin_82 : decode cX10_begin 82 = .ok (.iconst 1, 1) := by decide +kernel
theorem dX10_begin_83 : decode cX10_begin 83 = .ok (.iadd, 1) := by decide +kernel
theorem dX10_begin_84 : decode cX10_begin 84 = .ok (.putfield 118, 3) := by decide +kernel
theorem dX10_begin_87 : decode cX10_begin 87 = .ok (.aload_n 0, 1) := by decide +kernel
theorem dX10_begin_88 : decode cX10_begin 88 = .ok (.bipush 67, 2) := by decide +kernel
theorem dX10_begin_90 : decode cX10_begin 90 = .ok (.iload 4, 2) := by decide +kernel
theorem dX10_begin_92 : decode cX10_begin 92 = .ok (.invokevirtual 124, 3) := by decide +kernel
theorem dX10_begin_95 : decode cX10_begin 95 = .ok (.aload_n 0, 1) := by decide +kernel
theorem dX10_begin_96 : decode cX10_begin 96 = .ok (.getfield 89, 3) := by decide +kernel
theorem dX10_begin_99 : decode cX10_begin 99 = .ok (.aload_n 0, 1) := by decide +kernel
theorem dX10_begin_100 : decode cX10_begin 100 = .ok (.getfield 108, 3) := by decide +kernel
theorem dX10_begin_103 : decode cX10_begin 103 = .ok (.iconst 1, 1) := by decide +kernel
theorem dX10_begin_104 : decode cX10_begin 104 = .ok (.isub, 1) := by decide +kernel
theorem dX10_begin_105 : decode cX10_begin 105 = .ok (.aload_n 0, 1) := by decide +kernel
theorem dX10_begin_106 : decode cX10_begin 106 = .ok (.getfield 111, 3) := by decide +kernel
theorem dX10_begin_109 : decode cX10_begin 109 = .ok (.iastore, 1) := by decide +kernel
theorem dX10_begin_110 : decode cX10_begin 110 = .ok (.aload_n 0, 1) := by decide +kernel
theorem dX10_begin_111 : decode cX10_begin 111 = .ok (.aload_n 0, 1) := by decide +kernel
theorem dX10_begin_112 : decode cX10_begin 112 = .ok (.getfield 35, 3) := by decide +kernel
theorem dX10_begin_115 : decode cX10_begin 115 = .ok (.iload_n 1, 1) := by decide +kernel
theorem dX10_begin_116 : decode cX10_begin 116 = .ok (.iaload, 1) := by decide +kernel
theorem dX10_begin_117 : decode cX10_begin 117 = .ok (.putfield 111, 3) := by decide +kernel
theorem dX10_begin_120 : decode cX10_begin 120 = .ok (.return_, 1) := by decide +kernel
theorem dX10_counted_0 : decode cX10_counted 0 = .ok (.iload_n 0, 1) := by decide +kernel
theorem dX10_counted_1 : decode cX10_counted 1 = .ok (.tableswitch 59 42 45 #[51, 31, 59, 39], 31) := by decide +kernel
theorem dX10_counted_32 : decode cX10_counted 32 = .ok (.iload_n 1, 1) := by decide +kernel
theorem dX10_counted_33 : decode cX10_counted 33 = .ok (.iload_n 2, 1) := by decide +kernel
theorem dX10_counted_34 : decode cX10_counted 34 = .ok (.iadd, 1) := by decide +kernel
theorem dX10_counted_35 : decode cX10_counted 35 = .ok (.sipush 997, 3) := by decide +kernel
theorem dX10_counted_38 : decode cX10_counted 38 = .ok (.irem, 1) := by decide +kernel
theorem dX10_counted_39 : decode cX10_counted 39 = .ok (.ireturn, 1) := by decide +kernel
theorem dX10_counted_40 : decode cX10_counted 40 = .ok (.iload_n 1, 1) := by decide +kernel
theorem dX10_counted_41 : decode cX10_counted 41 = .ok (.iload_n 2, 1) := by decide +kernel
theorem dX10_counted_42 : decode cX10_counted 42 = .ok (.isub, 1) := by decide +kernel
theorem dX10_counted_43 : decode cX10_counted 43 = .ok (.sipush 997, 3) := by decide +kernel
theorem dX10_counted_46 : decode cX10_counted 46 = .ok (.iadd, 1) := by decide +kernel
theorem dX10_counted_47 : decode cX10_counted 47 = .ok (.sipush 997, 3) := by decide +kernel
theorem dX10_counted_50 : decode cX10_counted 50 = .ok (.irem, 1) := by decide +kernel
theorem dX10_counted_51 : decode cX10_counted 51 = .ok (.ireturn, 1) := by decide +kernel
theorem dX10_counted_52 : decode cX10_counted 52 = .ok (.iload_n 1, 1) := by decide +kernel
theorem dX10_counted_53 : decode cX10_counted 53 = .ok (.iload_n 2, 1) := by decide +kernel
theorem dX10_counted_54 : decode cX10_counted 54 = .ok (.imul, 1) := by decide +kernel
theorem dX10_counted_55 : decode cX10_counted 55 = .ok (.sipush 997, 3) := by decide +kernel
theorem dX10_counted_58 : decode cX10_counted 58 = .ok (.irem, 1) := by decide +kernel
theorem dX10_counted_59 : decode cX10_counted 59 = .ok (.ireturn, 1) := by decide +kernel
theorem dX10_counted_60 : decode cX10_counted 60 = .ok (.iload_n 1, 1) := by decide +kernel
theorem dX10_counted_61 : decode cX10_counted 61 = .ok (.iload_n 2, 1) := by decide +kernel
theorem dX10_counted_62 : decode cX10_counted 62 = .ok (.if_icmp .ge 7, 3) := by decide +kernel
theorem dX10_counted_65 : decode cX10_counted 65 = .ok (.iconst 1, 1) := by decide +kernel
theorem dX10_counted_66 : decode cX10_counted 66 = .ok (.goto 4, 3) := by decide +kernel
theorem dX10_counted_69 : decode cX10_counted 69 = .ok (.iconst 0, 1) := by decide +kernel
theorem dX10_counted_70 : decode cX10_counted 70 = .ok (.ireturn, 1) := by decide +kernel
theorem dX10_open_0 : decode cX10_open 0 = .ok (.aload_n 0, 1) := by decide +kernel
theorem dX10_open_1 : decode cX10_open 1 = .ok (.getfield 32, 3) := by decide +kernel
theorem dX10_open_4 : decode cX10_open 4 = .ok (.aload_n 0, 1) := by decide +kernel
theorem dX10_open_5 : decode cX10_open 5 = .ok (.getfield 111, 3) := by decide +kernel
theorem dX10_open_8 : decode cX10_open 8 = .ok (.iaload, 1) := by decide +kernel
theorem dX10_open_9 : decode cX10_open 9 = .ok (.istore_n 1, 1) := by decide +kernel
theorem dX10_open_10 : decode cX10_open 10 = .ok (.aload_n 0, 1) := by decide +kernel
theorem dX10_open_11 : decode cX10_open 11 = .ok (.dup, 1) := by decide +kernel
theorem dX10_open_12 : decode cX10_open 12 = .ok (.getfield 111, 3) := by decide +kernel
theorem dX10_open_15 : decode cX10_open 15 = .ok (.iconst 1, 1) := by decide +kernel
theorem dX10_open_16 : decode cX10_open 16 = .ok (.iadd, 1) := by decide +kernel
theorem dX10_open_17 : decode cX10_open 17 = .ok (.putfield 111, 3) := by decide +kernel
theorem dX10_open_20 : decode cX10_open 20 = .ok (.iload_n 1, 1) := by decide +kernel
theorem dX10_open_21 : decode cX10_open 21 = .ok (.i2l, 1) := by decide +kernel
theorem dX10_open_22 : decode cX10_open 22 = .ok (.ldc2_w 127, 3) := by decide +kernel
theorem dX10_open_25 : decode cX10_open 25 = .ok (.ldc2_w 129, 3) := by decide +kernel
theorem dX10_open_28 : decode cX10_open 28 = .ok (.invokestatic 131, 3) := by decide +kernel
theorem dX10_open_31 : decode cX10_open 31 = .ok (.ifCond .eq 8, 3) := by decide +kernel
theorem dX10_open_34 : decode cX10_open 34 = .ok (.iload_n 1, 1) := by decide +kernel
theorem dX10_open_35 : decode cX10_open 35 = .ok (.bipush 48, 2) := by decide +kernel
theorem dX10_open_37 : decode cX10_open 37 = .ok (.isub, 1) := by decide +kernel
theorem dX10_open_38 : decode cX10_open 38 = .ok (.ireturn, 1) := by decide +kernel
theorem dX10_open_39 : decode cX10_open 39 = .ok (.iload_n 1, 1) := by decide +kernel
theorem dX10_open_40 : decode cX10_open 40 = .ok (.bipush 110, 2) := by decide +kernel
theorem dX10_open_42 : decode cX10_open 42 = .ok (.if_icmp .ne 13, 3) := by decide +kernel
theorem dX10_open_45 : decode cX10_open 45 = .ok (.aload_n 0, 1) := by decide +kernel
theorem dX10_open_46 : decode cX10_open 46 = .ok (.getfield 65, 3) := by decide +kernel
theorem dX10_open_49 : decode cX10_open 49 = .ok (.aload_n 0, 1) := by decide +kernel
theorem dX10_open_50 : decode cX10_open 50 = .ok (.getfield 121, 3) := by decide +kernel
theorem dX10_open_53 : decode cX10_open 53 = .ok (.iaload, 1) := by decide +kernel
theorem dX10_open_54 : decode cX10_open 54 = .ok (.ireturn, 1) := by decide +kernel
theorem dX10_open_55 : decode cX10_open 55 = .ok (.iload_n 1, 1) := by decide +kernel
theorem dX10_open_56 : decode cX10_open 56 = .ok (.bipush 102, 2) := by decide +kernel
theorem dX10_open_58 : decode cX10_open 58 = .ok (.if_icmp .ne 33, 3) := by decide +kernel
theorem dX10_open_61 : decode cX10_open 61 = .ok (.aload_n 0, 1) := by decide +kernel
theorem dX10_open_62 : decode cX10_open 62 = .ok (.iload_n 1, 1) := by decide +kernel
theorem dX10_open_63 : decode cX10_open 63 = .ok (.aload_n 0, 1) := by decide +kernel
theorem dX10_open_64 : decode cX10_open 64 = .ok (.getfield 32, 3) := by decide +kernel
theorem dX10_open_67 : decode cX10_open 67 = .ok (.aload_n 0, 1) := by decide +kernel
theorem dX10_open_68 : decode cX10_open 68 = .ok (.getfield 111, 3) := by decide +kernel
theorem dX10_open_71 : decode cX10_open 71 = .ok (.iaload, 1) := by decide +kernel
theorem dX10_open_72 : decode cX10_open 72 = .ok (.bipush 48, 2) := by decide +kernel
theorem dX10_open_74 : decode cX10_open 74 = .ok (.isub, 1) := by decide +kernel
theorem dX10_open_75 : decode cX10_open 75 = .ok (.invokevirtual 124, 3) := by decide +kernel
theorem dX10_open_78 : decode cX10_open 78 = .ok (.aload_n 0, 1) := by decide +kernel
theorem dX10_open_79 : decode cX10_open 79 = .ok (.dup, 1) := by decide +kernel
theorem dX10_open_80 : decode cX10_open 80 = .ok (.getfield 111, 3) := by decide +kernel
theorem dX10_open_83 : decode cX10_open 83 = .ok (.iconst 1, 1) := by decide +kernel
theorem dX10_open_84 : decode cX10_open 84 = .ok (.iadd, 1) := by decide +kernel
theorem dX10_open_85 : decode cX10_open 85 = .ok (.putfield 111, 3) := by decide +kernel
theorem dX10_open_88 : decode cX10_open 88 = .ok (.goto 9, 3) := by decide +kernel
theorem dX10_open_91 : decode cX10_open 91 = .ok (.aload_n 0, 1) := by decide +kernel
theorem dX10_open_92 : decode cX10_open 92 = .ok (.iload_n 1, 1) := by decide +kernel
theorem dX10_open_93 : decode cX10_open 93 = .ok (.iconst 0, 1) := by decide +kernel
theorem dX10_open_94 : decode cX10_open 94 = .ok (.invokevirtual 124, 3) := by decide +kernel
theorem dX10_open_97 : decode cX10_open 97 = .ok (.iconst (-1), 1) := by decide +kernel
theorem dX10_open_98 : decode cX10_open 98 = .ok (.ireturn, 1) := by decide +kernel
theorem dX10_called_0 : decode cX10_called 0 = .ok (.iload_n 1, 1) := by decide +kernel
theorem dX10_called_1 : decode cX10_called 1 = .ok (.aload_n 0, 1) := by decide +kernel
theorem dX10_called_2 : decode cX10_called 2 = .ok (.getfield 95, 3) := by decide +kernel
theorem dX10_called_5 : decode cX10_called 5 = .ok (.if_icmp .ge 17, 3) := by decide +kernel
theorem dX10_called_8 : decode cX10_called 8 = .ok (.aload_n 0, 1) := by decide +kernel
theorem dX10_called_9 : decode cX10_called 9 = .ok (.getfield 71, 3) := by decide +kernel
theorem dX10_called_12 : decode cX10_called 12 = .ok (.aload_n 0, 1) := by decide +kernel
theorem dX10_called_13 : decode cX10_called 13 = .ok (.getfield 121, 3) := by decide +kernel
theorem dX10_called_16 : decode cX10_called 16 = .ok (.iaload, 1) := by decide +kernel
theorem dX10_called_17 : decode cX10_called 17 = .ok (.bipush 6, 2) := by decide +kernel
theorem dX10_called_19 : decode cX10_called 19 = .ok (.if_icmp .ne 5, 3) := by decide +kernel
theorem dX10_called_22 : decode cX10_called 22 = .ok (.iconst 0, 1) := by decide +kernel
theorem dX10_called_23 : decode cX10_called 23 = .ok (.ireturn, 1) := by decide +kernel
theorem dX10_called_24 : decode cX10_called 24 = .ok (.aload_n 0, 1) := by decide +kernel
theorem dX10_called_25 : decode cX10_called 25 = .ok (.iload_n 1, 1) := by decide +kernel
theorem dX10_called_26 : decode cX10_called 26 = .ok (.iload_n 2, 1) := by decide +kernel
theorem dX10_called_27 : decode cX10_called 27 = .ok (.invokevirtual 135, 3) := by decide +kernel
theorem dX10_called_30 : decode cX10_called 30 = .ok (.iconst (-1), 1) := by decide +kernel
theorem dX10_called_31 : decode cX10_called 31 = .ok (.ireturn, 1) := by decide +kernel
theorem dX10_give_0 : decode cX10_give 0 = .ok (.aload_n 0, 1) := by decide +kernel
theorem dX10_give_1 : decode cX10_give 1 = .ok (.getfield 108, 3) := by decide +kernel
theorem dX10_give_4 : decode cX10_give 4 = .ok (.iconst 1, 1) := by decide +kernel
theorem dX10_give_5 : decode cX10_give 5 = .ok (.isub, 1) := by decide +kernel
theorem dX10_give_6 : decode cX10_give 6 = .ok (.istore_n 2, 1) := by decide +kernel
theorem dX10_give_7 : decode cX10_give 7 = .ok (.aload_n 0, 1) := by decide +kernel
theorem dX10_give_8 : decode cX10_give 8 = .ok (.getfield 86, 3) := by decide +kernel
theorem dX10_give_11 : decode cX10_give 11 = .ok (.iload_n 2, 1) := by decide +kernel
theorem dX10_give_12 : decode cX10_give 12 = .ok (.iaload, 1) := by decide +kernel
theorem dX10_give_13 : decode cX10_give 13 = .ok (.istore_n 3, 1) := by decide +kernel
theorem dX10_give_14 : decode cX10_give 14 = .ok (.iload_n 3, 1) := by decide +kernel
theorem dX10_give_15 : decode cX10_give 15 = .ok (.bipush 67, 2) := by decide +kernel
theorem dX10_give_17 : decode cX10_give 17 = .ok (.if_icmp .ne 45, 3) := by decide +kernel
theorem dX10_give_20 : decode cX10_give 20 = .ok (.aload_n 0, 1) := by decide +kernel
theorem dX10_give_21 : decode cX10_give 21 = .ok (.getfield 68, 3) := by decide +kernel
theorem dX10_give_24 : decode cX10_give 24 = .ok (.aload_n 0, 1) := by decide +kernel
theorem dX10_give_25 : decode cX10_give 25 = .ok (.getfield 121, 3) := by decide +kernel
theorem dX10_give_28 : decode cX10_give 28 = .ok (.iload_n 1, 1) := by decide +kernel
theorem dX10_give_29 : decode cX10_give 29 = .ok (.iastore, 1) := by decide +kernel
theorem dX10_give_30 : decode cX10_give 30 = .ok (.aload_n 0, 1) := by decide +kernel
theorem dX10_give_31 : decode cX10_give 31 = .ok (.aload_n 0, 1) := by decide +kernel
theorem dX10_give_32 : decode cX10_give 32 = .ok (.getfield 92, 3) := by decide +kernel
theorem dX10_give_35 : decode cX10_give 35 = .ok (.iload_n 2, 1) := by decide +kernel
theorem dX10_give_36 : decode cX10_give 36 = .ok (.iaload, 1) := by decide +kernel
theorem dX10_give_37 : decode cX10_give 37 = .ok (.putfield 121, 3) := by decide +kernel
theorem dX10_give_40 : decode cX10_give 40 = .ok (.aload_n 0, 1) := by decide +kernel
theorem dX10_give_41 : decode cX10_give 41 = .ok (.aload_n 0, 1) := by decide +kernel
theorem dX10_give_42 : decode cX10_give 42 = .ok (.getfield 89, 3) := by decide +kernel
theorem dX10_give_45 : decode cX10_give 45 = .ok (.iload_n 2, 1) := by decide +kernel
theorem dX10_give_46 : decode cX10_give 46 = .ok (.iaload, 1) := by decide +kernel
theorem dX10_give_47 : decode cX10_give 47 = .ok (.putfield 111, 3) := by decide +kernel
theorem dX10_give_50 : decode cX10_give 50 = .ok (.aload_n 0, 1) := by decide +kernel
theorem dX10_give_51 : decode cX10_give 51 = .ok (.dup, 1) := by decide +kernel
theorem dX10_give_52 : decode cX10_give 52 = .ok (.getfield 108, 3) := by decide +kernel
theorem dX10_give_55 : decode cX10_give 55 = .ok (.iconst 1, 1) := by decide +kernel
theorem dX10_give_56 : decode cX10_give 56 = .ok (.isub, 1) := by decide +kernel
theorem dX10_give_57 : decode cX10_give 57 = .ok (.putfield 108, 3) := by decide +kernel
theorem dX10_give_60 : decode cX10_give 60 = .ok (.iload_n 1, 1) := by decide +kernel
theorem dX10_give_61 : decode cX10_give 61 = .ok (.ireturn, 1) := by decide +kernel
theorem dX10_give_62 : decode cX10_give 62 = .ok (.iload_n 3, 1) := by decide +kernel
theorem dX10_give_63 : decode cX10_give 63 = .ok (.bipush 120, 2) := by decide +kernel
theorem dX10_give_65 : decode cX10_give 65 = .ok (.if_icmp .ne 41, 3) := by decide +kernel
theorem dX10_give_68 : decode cX10_give 68 = .ok (.aload_n 0, 1) := by decide +kernel
theorem dX10_give_69 : decode cX10_give 69 = .ok (.dup, 1) := by decide +kernel
theorem dX10_give_70 : decode cX10_give 70 = .ok (.getfield 108, 3) := by decide +kernel
theorem dX10_give_73 : decode cX10_give 73 = .ok (.iconst 1, 1) := by decide +kernel
theorem dX10_give_74 : decode cX10_give 74 = .ok (.isub, 1) := by decide +kernel
theorem dX10_give_75 : decode cX10_give 75 = .ok (.putfield 108, 3) := by decide +kernel
theorem dX10_give_78 : decode cX10_give 78 = .ok (.aload_n 0, 1) := by decide +kernel
theorem dX10_give_79 : decode cX10_give 79 = .ok (.getfield 74, 3) := by decide +kernel
theorem dX10_give_82 : decode cX10_give 82 = .ok (.aload_n 0, 1) := by decide +kernel
theorem dX10_give_83 : decode cX10_give 83 = .ok (.getfield 121, 3) := by decide +kernel
theorem dX10_give_86 : decode cX10_give 86 = .ok (.dup2, 1) := by decide +kernel
theorem dX10_give_87 : decode cX10_give 87 = .ok (.iaload, 1) := by decide +kernel
theorem dX10_give_88 : decode cX10_give 88 = .ok (.iconst 1, 1) := by decide +kernel
theorem dX10_give_89 : decode cX10_give 89 = .ok (.iload_n 1, 1) := by decide +kernel
theorem dX10_give_90 : decode cX10_give 90 = .ok (.bipush 8, 2) := by decide +kernel
theorem dX10_give_92 : decode cX10_give 92 = .ok (.irem, 1) := by decide +kernel
theorem dX10_give_93 : decode cX10_give 93 = .ok (.ishl, 1) := by decide +kernel
theorem dX10_give_94 : decode cX10_give 94 = .ok (.ior, 1) := by decide +kernel
theorem dX10_give_95 : decode cX10_give 95 = .ok (.iastore, 1) := by decide +kernel
theorem dX10_give_96 : decode cX10_give 96 = .ok (.aload_n 0, 1) := by decide +kernel
theorem dX10_give_97 : decode cX10_give 97 = .ok (.getfield 7, 3) := by decide +kernel
theorem dX10_give_100 : decode cX10_give 100 = .ok (.iload_n 1, 1) := by decide +kernel
theorem dX10_give_101 : decode cX10_give 101 = .ok (.bipush 8, 2) := by decide +kernel
theorem dX10_give_103 : decode cX10_give 103 = .ok (.irem, 1) := by decide +kernel
theorem dX10_give_104 : decode cX10_give 104 = .ok (.iaload, 1) := by decide +kernel
theorem dX10_give_105 : decode cX10_give 105 = .ok (.ireturn, 1) := by decide +kernel
theorem dX10_give_106 : decode cX10_give 106 = .ok (.iload_n 3, 1) := by decide +kernel
theorem dX10_give_107 : decode cX10_give 107 = .ok (.bipush 102, 2) := by decide +kernel
theorem dX10_give_109 : decode cX10_give 109 = .ok (.if_icmp .ne 25, 3) := by decide +kernel
theorem dX10_give_112 : decode cX10_give 112 = .ok (.aload_n 0, 1) := by decide +kernel
theorem dX10_give_113 : decode cX10_give 113 = .ok (.dup, 1) := by decide +kernel
theorem dX10_give_114 : decode cX10_give 114 = .ok (.getfield 108, 3) := by decide +kernel
theorem dX10_give_117 : decode cX10_give 117 = .ok (.iconst 1, 1) := by decide +kernel
theorem dX10_give_118 : decode cX10_give 118 = .ok (.isub, 1) := by decide +kernel
theorem dX10_give_119 : decode cX10_give 119 = .ok (.putfield 108, 3) := by decide +kernel
theorem dX10_give_122 : decode cX10_give 122 = .ok (.aload_n 0, 1) := by decide +kernel
theorem dX10_give_123 : decode cX10_give 123 = .ok (.aload_n 0, 1) := by decide +kernel
theorem dX10_give_124 : decode cX10_give 124 = .ok (.getfield 92, 3) := by decide +kernel
theorem dX10_give_127 : decode cX10_give 127 = .ok (.iload_n 2, 1) := by decide +kernel
theorem dX10_give_128 : decode cX10_give 128 = .ok (.iaload, 1) := by decide +kernel
theorem dX10_give_129 : decode cX10_give 129 = .ok (.iload_n 1, 1) := by decide +kernel
theorem dX10_give_130 : decode cX10_give 130 = .ok (.invokevirtual 138, 3) := by decide +kernel
theorem dX10_give_133 : decode cX10_give 133 = .ok (.ireturn, 1) := by decide +kernel
theorem dX10_give_134 : decode cX10_give 134 = .ok (.iload_n 3, 1) := by decide +kernel
theorem dX10_give_135 : decode cX10_give 135 = .ok (.bipush 63, 2) := by decide +kernel
theorem dX10_give_137 : decode cX10_give 137 = .ok (.if_icmp .ne 12, 3) := by decide +kernel
theorem dX10_give_140 : decode cX10_give 140 = .ok (.aload_n 0, 1) := by decide +kernel
theorem dX10_give_141 : decode cX10_give 141 = .ok (.iload_n 2, 1) := by decide +kernel
theorem dX10_give_142 : decode cX10_give 142 = .ok (.iload_n 1, 1) := by decide +kernel
theorem dX10_give_143 : decode cX10_give 143 = .ok (.invokevirtual 142, 3) := by decide +kernel
theorem dX10_give_146 : decode cX10_give 146 = .ok (.goto 9, 3) := by decide +kernel
theorem dX10_give_149 : decode cX10_give 149 = .ok (.aload_n 0, 1) := by decide +kernel
theorem dX10_give_150 : decode cX10_give 150 = .ok (.iload_n 2, 1) := by decide +kernel
theorem dX10_give_151 : decode cX10_give 151 = .ok (.iload_n 1, 1) := by decide +kernel
theorem dX10_give_152 : decode cX10_give 152 = .ok (.invokevirtual 145, 3) := by decide +kernel
theorem dX10_give_155 : decode cX10_give 155 = .ok (.ireturn, 1) := by decide +kernel
theorem dX10_giveTwo_0 : decode cX10_giveTwo 0 = .ok (.aload_n 0, 1) := by decide +kernel
theorem dX10_giveTwo_1 : decode cX10_giveTwo 1 = .ok (.getfield 89, 3) := by decide +kernel
theorem dX10_giveTwo_4 : decode cX10_giveTwo 4 = .ok (.iload_n 1, 1) := by decide +kernel
theorem dX10_giveTwo_5 : decode cX10_giveTwo 5 = .ok (.dup2, 1) := by decide +kernel
theorem dX10_giveTwo_6 : decode cX10_giveTwo 6 = .ok (.iaload, 1) := by decide +kernel
theorem dX10_giveTwo_7 : decode cX10_giveTwo 7 = .ok (.iconst 1, 1) := by decide +kernel
theorem dX10_giveTwo_8 : decode cX10_giveTwo 8 = .ok (.iadd, 1) := by decide +kernel
theorem dX10_giveTwo_9 : decode cX10_giveTwo 9 = .ok (.iastore, 1) := by decide +kernel
theorem dX10_giveTwo_10 : decode cX10_giveTwo 10 = .ok (.aload_n 0, 1) := by decide +kernel
theorem dX10_giveTwo_11 : decode cX10_giveTwo 11 = .ok (.getfield 89, 3) := by decide +kernel
theorem dX10_giveTwo_14 : decode cX10_giveTwo 14 = .ok (.iload_n 1, 1) := by decide +kernel
theorem dX10_giveTwo_15 : decode cX10_giveTwo 15 = .ok (.iaload, 1) := by decide +kernel
theorem dX10_giveTwo_16 : decode cX10_giveTwo 16 = .ok (.iconst 1, 1) := by decide +kernel
theorem dX10_giveTwo_17 : decode cX10_giveTwo 17 = .ok (.if_icmp .ne 12, 3) := by decide +kernel
theorem dX10_giveTwo_20 : decode cX10_giveTwo 20 = .ok (.aload_n 0, 1) := by decide +kernel
theorem dX10_giveTwo_21 : decode cX10_giveTwo 21 = .ok (.getfield 92, 3) := by decide +kernel
theorem dX10_giveTwo_24 : decode cX10_giveTwo 24 = .ok (.iload_n 1, 1) := by decide +kernel
theorem dX10_giveTwo_25 : decode cX10_giveTwo 25 = .ok (.iload_n 2, 1) := by decide +kernel
theorem dX10_giveTwo_26 : decode cX10_giveTwo 26 = .ok (.iastore, 1) := by decide +kernel
theorem dX10_giveTwo_27 : decode cX10_giveTwo 27 = .ok (.iconst (-1), 1) := by decide +kernel
theorem dX10_giveTwo_28 : decode cX10_giveTwo 28 = .ok (.ireturn, 1) := by decide +kernel
theorem dX10_giveTwo_29 : decode cX10_giveTwo 29 = .ok (.aload_n 0, 1) := by decide +kernel
theorem dX10_giveTwo_30 : decode cX10_giveTwo 30 = .ok (.dup, 1) := by decide +kernel
theorem dX10_giveTwo_31 : decode cX10_giveTwo 31 = .ok (.getfield 108, 3) := by decide +kernel
theorem dX10_giveTwo_34 : decode cX10_giveTwo 34 = .ok (.iconst 1, 1) := by decide +kernel
theorem dX10_giveTwo_35 : decode cX10_giveTwo 35 = .ok (.isub, 1) := by decide +kernel
theorem dX10_giveTwo_36 : decode cX10_giveTwo 36 = .ok (.putfield 108, 3) := by decide +kernel
theorem dX10_giveTwo_39 : decode cX10_giveTwo 39 = .ok (.aload_n 0, 1) := by decide +kernel
theorem dX10_giveTwo_40 : decode cX10_giveTwo 40 = .ok (.getfield 86, 3) := by decide +kernel
theorem dX10_giveTwo_43 : decode cX10_giveTwo 43 = .ok (.iload_n 1, 1) := by decide +kernel
theorem dX10_giveTwo_44 : decode cX10_giveTwo 44 = .ok (.iaload, 1) := by decide +kernel
theorem dX10_giveTwo_45 : decode cX10_giveTwo 45 = .ok (.aload_n 0, 1) := by decide +kernel
theorem dX10_giveTwo_46 : decode cX10_giveTwo 46 = .ok (.getfield 92, 3) := by decide +kernel
theorem dX10_giveTwo_49 : decode cX10_giveTwo 49 = .ok (.iload_n 1, 1) := by decide +kernel
theorem dX10_giveTwo_50 : decode cX10_giveTwo 50 = .ok (.iaload, 1) := by decide +kernel
theorem dX10_giveTwo_51 : decode cX10_giveTwo 51 = .ok (.iload_n 2, 1) := by decide +kernel
theorem dX10_giveTwo_52 : decode cX10_giveTwo 52 = .ok (.invokestatic 148, 3) := by decide +kernel
theorem dX10_giveTwo_55 : decode cX10_giveTwo 55 = .ok (.ireturn, 1) := by decide +kernel
theorem dX10_choose_0 : decode cX10_choose 0 = .ok (.aload_n 0, 1) := by decide +kernel
theorem dX10_choose_1 : decode cX10_choose 1 = .ok (.getfield 89, 3) := by decide +kernel
theorem dX10_choose_4 : decode cX10_choose 4 = .ok (.iload_n 1, 1) := by decide +kernel
theorem dX10_choose_5 : decode cX10_choose 5 = .ok (.iaload, 1) := by decide +kernel
theorem dX10_choose_6 : decode cX10_choose 6 = .ok (.ifCond .ne 28, 3) := by decide +kernel
theorem dX10_choose_9 : decode cX10_choose 9 = .ok (.iload_n 2, 1) := by decide +kernel
theorem dX10_choose_10 : decode cX10_choose 10 = .ok (.ifCond .ne 7, 3) := by decide +kernel
theorem dX10_choose_13 : decode cX10_choose 13 = .ok (.aload_n 0, 1) := by decide +kernel
theorem dX10_choose_14 : decode cX10_choose 14 = .ok (.invokevirtual 152, 3) := by decide +kernel
theorem dX10_choose_17 : decode cX10_choose 17 = .ok (.aload_n 0, 1) := by decide +kernel
theorem dX10_choose_18 : decode cX10_choose 18 = .ok (.getfield 89, 3) := by decide +kernel
theorem dX10_choose_21 : decode cX10_choose 21 = .ok (.iload_n 1, 1) := by decide +kernel
theorem dX10_choose_22 : decode cX10_choose 22 = .ok (.iload_n 2, 1) := by decide +kernel
theorem dX10_choose_23 : decode cX10_choose 23 = .ok (.ifCond .ne 7, 3) := by decide +kernel
theorem dX10_choose_26 : decode cX10_choose 26 = .ok (.iconst 2, 1) := by decide +kernel
theorem dX10_choose_27 : decode cX10_choose 27 = .ok (.goto 4, 3) := by decide +kernel
theorem dX10_choose_30 : decode cX10_choose 30 = .ok (.iconst 1, 1) := by decide +kernel
theorem dX10_choose_31 : decode cX10_choose 31 = .ok (.iastore, 1) := by decide +kernel
theorem dX10_choose_32 : decode cX10_choose 32 = .ok (.iconst (-1), 1) := by decide +kernel
theorem dX10_choose_33 : decode cX10_choose 33 = .ok (.ireturn, 1) := by decide +kernel
theorem dX10_choose_34 : decode cX10_choose 34 = .ok (.aload_n 0, 1) := by decide +kernel
theorem dX10_choose_35 : decode cX10_choose 35 = .ok (.getfield 89, 3) := by decide +kernel
theorem dX10_choose_38 : decode cX10_choose 38 = .ok (.iload_n 1, 1) := by decide +kernel
theorem dX10_choose_39 : decode cX10_choose 39 = .ok (.iaload, 1) := by decide +kernel
theorem dX10_choose_40 : decode cX10_choose 40 = .ok (.iconst 1, 1) := by decide +kernel
theorem dX10_choose_41 : decode cX10_choose 41 = .ok (.if_icmp .ne 7, 3) := by decide +kernel
theorem dX10_choose_44 : decode cX10_choose 44 = .ok (.aload_n 0, 1) := by decide +kernel
theorem dX10_choose_45 : decode cX10_choose 45 = .ok (.invokevirtual 152, 3) := by decide +kernel
theorem dX10_choose_48 : decode cX10_choose 48 = .ok (.aload_n 0, 1) := by decide +kernel
theorem dX10_choose_49 : decode cX10_choose 49 = .ok (.dup, 1) := by decide +kernel
theorem dX10_choose_50 : decode cX10_choose 50 = .ok (.getfield 108, 3) := by decide +kernel
theorem dX10_choose_53 : decode cX10_choose 53 = .ok (.iconst 1, 1) := by decide +kernel
theorem dX10_choose_54 : decode cX10_choose 54 = .ok (.isub, 1) := by decide +kernel
theorem dX10_choose_55 : decode cX10_choose 55 = .ok (.putfield 108, 3) := by decide +kernel
theorem dX10_choose_58 : decode cX10_choose 58 = .ok (.iload_n 2, 1) := by decide +kernel
theorem dX10_choose_59 : decode cX10_choose 59 = .ok (.ireturn, 1) := by decide +kernel
theorem dX10_layNew_0 : decode cX10_layNew 0 = .ok (.aload_n 0, 1) := by decide +kernel
theorem dX10_layNew_1 : decode cX10_layNew 1 = .ok (.iconst 0, 1) := by decide +kernel
theorem dX10_layNew_2 : decode cX10_layNew 2 = .ok (.putfield 118, 3) := by decide +kernel
theorem dX10_layNew_5 : decode cX10_layNew 5 = .ok (.iload_n 1, 1) := by decide +kernel
theorem dX10_layNew_6 : decode cX10_layNew 6 = .ok (.aload_n 0, 1) := by decide +kernel
theorem dX10_layNew_7 : decode cX10_layNew 7 = .ok (.getfield 95, 3) := by decide +kernel
theorem dX10_layNew_10 : decode cX10_layNew 10 = .ok (.if_icmp .lt 5, 3) := by decide +kernel
theorem dX10_layNew_13 : decode cX10_layNew 13 = .ok (.iconst 0, 1) := by decide +kernel
theorem dX10_layNew_14 : decode cX10_layNew 14 = .ok (.ireturn, 1) := by decide +kernel
theorem dX10_layNew_15 : decode cX10_layNew 15 = .ok (.aload_n 0, 1) := by decide +kernel
theorem dX10_layNew_16 : decode cX10_layNew 16 = .ok (.iconst 0, 1) := by decide +kernel
theorem dX10_layNew_17 : decode cX10_layNew 17 = .ok (.putfield 108, 3) := by decide +kernel
theorem dX10_layNew_20 : decode cX10_layNew 20 = .ok (.aload_n 0, 1) := by decide +kernel
theorem dX10_layNew_21 : decode cX10_layNew 21 = .ok (.iconst 0, 1) := by decide +kernel
theorem dX10_layNew_22 : decode cX10_layNew 22 = .ok (.putfield 121, 3) := by decide +kernel
theorem dX10_layNew_25 : decode cX10_layNew 25 = .ok (.aload_n 0, 1) := by decide +kernel
theorem dX10_layNew_26 : decode cX10_layNew 26 = .ok (.iconst 0, 1) := by decide +kernel
theorem dX10_layNew_27 : decode cX10_layNew 27 = .ok (.putfield 111, 3) := by decide +kernel
theorem dX10_layNew_30 : decode cX10_layNew 30 = .ok (.aload_n 0, 1) := by decide +kernel
theorem dX10_layNew_31 : decode cX10_layNew 31 = .ok (.iload_n 1, 1) := by decide +kernel
theorem dX10_layNew_32 : decode cX10_layNew 32 = .ok (.iload_n 2, 1) := by decide +kernel
theorem dX10_layNew_33 : decode cX10_layNew 33 = .ok (.invokevirtual 135, 3) := by decide +kernel
theorem dX10_layNew_36 : decode cX10_layNew 36 = .ok (.aload_n 0, 1) := by decide +kernel
theorem dX10_layNew_37 : decode cX10_layNew 37 = .ok (.getfield 108, 3) := by decide +kernel
theorem dX10_layNew_40 : decode cX10_layNew 40 = .ok (.ifCond .le 31, 3) := by decide +kernel
theorem dX10_layNew_43 : decode cX10_layNew 43 = .ok (.aload_n 0, 1) := by decide +kernel
theorem dX10_layNew_44 : decode cX10_layNew 44 = .ok (.invokevirtual 155, 3) := by decide +kernel
theorem dX10_layNew_47 : decode cX10_layNew 47 = .ok (.istore_n 3, 1) := by decide +kernel
theorem dX10_layNew_48 : decode cX10_layNew 48 = .ok (.iload_n 3, 1) := by decide +kernel
theorem dX10_layNew_49 : decode cX10_layNew 49 = .ok (.ifCond .lt 19, 3) := by decide +kernel
theorem dX10_layNew_52 : decode cX10_layNew 52 = .ok (.aload_n 0, 1) := by decide +kernel
theorem dX10_layNew_53 : decode cX10_layNew 53 = .ok (.getfield 108, 3) := by decide +kernel
theorem dX10_layNew_56 : decode cX10_layNew 56 = .ok (.ifCond .le 12, 3) := by decide +kernel
theorem dX10_layNew_59 : decode cX10_layNew 59 = .ok (.aload_n 0, 1) := by decide +kernel
theorem dX10_layNew_60 : decode cX10_layNew 60 = .ok (.iload_n 3, 1) := by decide +kernel
theorem dX10_layNew_61 : decode cX10_layNew 61 = .ok (.invokevirtual 159, 3) := by decide +kernel
theorem dX10_layNew_64 : decode cX10_layNew 64 = .ok (.istore_n 3, 1) := by decide +kernel
theorem dX10_layNew_65 : decode cX10_layNew 65 = .ok (.goto (-17), 3) := by decide +kernel
theorem dX10_layNew_68 : decode cX10_layNew 68 = .ok (.goto (-32), 3) := by decide +kernel
theorem dX10_layNew_71 : decode cX10_layNew 71 = .ok (.aload_n 0, 1) := by decide +kernel
theorem dX10_layNew_72 : decode cX10_layNew 72 = .ok (.getfield 68, 3) := by decide +kernel
theorem dX10_layNew_75 : decode cX10_layNew 75 = .ok (.iconst 0, 1) := by decide +kernel
theorem dX10_layNew_76 : decode cX10_layNew 76 = .ok (.iaload, 1) := by decide +kernel
theorem dX10_layNew_77 : decode cX10_layNew 77 = .ok (.ireturn, 1) := by decide +kernel
theorem dX10_layNow_0 : decode cX10_layNow 0 = .ok (.aload_n 0, 1) := by decide +kernel
theorem dX10_layNow_1 : decode cX10_layNow 1 = .ok (.aload_n 0, 1) := by decide +kernel
theorem dX10_layNow_2 : decode cX10_layNow 2 = .ok (.getfield 7, 3) := by decide +kernel
theorem dX10_layNow_5 : decode cX10_layNow 5 = .ok (.bipush 8, 2) := by decide +kernel
theorem dX10_layNow_7 : decode cX10_layNow 7 = .ok (.iaload, 1) := by decide +kernel
theorem dX10_layNow_8 : decode cX10_layNow 8 = .ok (.aload_n 0, 1) := by decide +kernel
theorem dX10_layNow_9 : decode cX10_layNow 9 = .ok (.getfield 7, 3) := by decide +kernel
theorem dX10_layNow_12 : decode cX10_layNow 12 = .ok (.bipush 9, 2) := by decide +kernel
theorem dX10_layNow_14 : decode cX10_layNow 14 = .ok (.iaload, 1) := by decide +kernel
theorem dX10_layNow_15 : decode cX10_layNow 15 = .ok (.invokevirtual 162, 3) := by decide +kernel
theorem dX10_layNow_18 : decode cX10_layNow 18 = .ok (.ireturn, 1) := by decide +kernel
theorem dX10_endOf_0 : decode cX10_endOf 0 = .ok (.iload_n 2, 1) := by decide +kernel
theorem dX10_endOf_1 : decode cX10_endOf 1 = .ok (.iconst 1, 1) := by decide +kernel
theorem dX10_endOf_2 : decode cX10_endOf 2 = .ok (.iadd, 1) := by decide +kernel
theorem dX10_endOf_3 : decode cX10_endOf 3 = .ok (.istore_n 3, 1) := by decide +kernel
theorem dX10_endOf_4 : decode cX10_endOf 4 = .ok (.iload_n 3, 1) := by decide +kernel
theorem dX10_endOf_5 : decode cX10_endOf 5 = .ok (.iload_n 1, 1) := by decide +kernel
theorem dX10_endOf_6 : decode cX10_endOf 6 = .ok (.if_icmp .ge 18, 3) := by decide +kernel
theorem dX10_endOf_9 : decode cX10_endOf 9 = .ok (.aload_n 0, 1) := by decide +kernel
theorem dX10_endOf_10 : decode cX10_endOf 10 = .ok (.iload_n 3, 1) := by decide +kernel
theorem dX10_endOf_11 : decode cX10_endOf 11 = .ok (.iaload, 1) := by decide +kernel
theorem dX10_endOf_12 : decode cX10_endOf 12 = .ok (.aload_n 0, 1) := by decide +kernel
theorem dX10_endOf_13 : decode cX10_endOf 13 = .ok (.iload_n 2, 1) := by decide +kernel
theorem dX10_endOf_14 : decode cX10_endOf 14 = .ok (.iaload, 1) := by decide +kernel
theorem dX10_endOf_15 : decode cX10_endOf 15 = .ok (.if_icmp .le 9, 3) := by decide +kernel
theorem dX10_endOf_18 : decode cX10_endOf 18 = .ok (.iinc 3 1, 3) := by decide +kernel
theorem dX10_endOf_21 : decode cX10_endOf 21 = .ok (.goto (-17), 3) := by decide +kernel
theorem dX10_endOf_24 : decode cX10_endOf 24 = .ok (.iload_n 3, 1) := by decide +kernel
theorem dX10_endOf_25 : decode cX10_endOf 25 = .ok (.ireturn, 1) := by decide +kernel
theorem dX10_isOld_0 : decode cX10_isOld 0 = .ok (.iconst 0, 1) := by decide +kernel
theorem dX10_isOld_1 : decode cX10_isOld 1 = .ok (.istore_n 2, 1) := by decide +kernel
theorem dX10_isOld_2 : decode cX10_isOld 2 = .ok (.iconst 0, 1) := by decide +kernel
theorem dX10_isOld_3 : decode cX10_isOld 3 = .ok (.istore_n 3, 1) := by decide +kernel
theorem dX10_isOld_4 : decode cX10_isOld 4 = .ok (.iload_n 3, 1) := by decide +kernel
theorem dX10_isOld_5 : decode cX10_isOld 5 = .ok (.bipush 8, 2) := by decide +kernel
theorem dX10_isOld_7 : decode cX10_isOld 7 = .ok (.if_icmp .ge 47, 3) := by decide +kernel
theorem dX10_isOld_10 : decode cX10_isOld 10 = .ok (.iload_n 2, 1) := by decide +kernel
theorem dX10_isOld_11 : decode cX10_isOld 11 = .ok (.ifCond .ne 31, 3) := by decide +kernel
theorem dX10_isOld_14 : decode cX10_isOld 14 = .ok (.aload_n 0, 1) := by decide +kernel
theorem dX10_isOld_15 : decode cX10_isOld 15 = .ok (.getfield 50, 3) := by decide +kernel
theorem dX10_isOld_18 : decode cX10_isOld 18 = .ok (.iload_n 1, 1) := by decide +kernel
theorem dX10_isOld_19 : decode cX10_isOld 19 = .ok (.iaload, 1) := by decide +kernel
theorem dX10_isOld_20 : decode cX10_isOld 20 = .ok (.iload_n 3, 1) := by decide +kernel
theorem dX10_isOld_21 : decode cX10_isOld 21 = .ok (.invokestatic 165, 3) := by decide +kernel
theorem dX10_isOld_24 : decode cX10_isOld 24 = .ok (.ifCond .eq 22, 3) := by decide +kernel
theorem dX10_isOld_27 : decode cX10_isOld 27 = .ok (.aload_n 0, 1) := by decide +kernel
theorem dX10_isOld_28 : decode cX10_isOld 28 = .ok (.getfield 59, 3) := by decide +kernel
theorem dX10_isOld_31 : decode cX10_isOld 31 = .ok (.iload_n 3, 1) := by decide +kernel
theorem dX10_isOld_32 : decode cX10_isOld 32 = .ok (.iaload, 1) := by decide +kernel
theorem dX10_isOld_33 : decode cX10_isOld 33 = .ok (.aload_n 0, 1) := by decide +kernel
theorem dX10_isOld_34 : decode cX10_isOld 34 = .ok (.getfield 7, 3) := by decide +kernel
theorem dX10_isOld_37 : decode cX10_isOld 37 = .ok (.iload_n 3, 1) := by decide +kernel
theorem dX10_isOld_38 : decode cX10_isOld 38 = .ok (.iaload, 1) := by decide +kernel
theorem dX10_isOld_39 : decode cX10_isOld 39 = .ok (.if_icmp .eq 7, 3) := by decide +kernel
theorem dX10_isOld_42 : decode cX10_isOld 42 = .ok (.iconst 1, 1) := by decide +kernel
theorem dX10_isOld_43 : decode cX10_isOld 43 = .ok (.goto 4, 3) := by decide +kernel
theorem dX10_isOld_46 : decode cX10_isOld 46 = .ok (.iconst 0, 1) := by decide +kernel
theorem dX10_isOld_47 : decode cX10_isOld 47 = .ok (.istore_n 2, 1) := by decide +kernel
theorem dX10_isOld_48 : decode cX10_isOld 48 = .ok (.iinc 3 1, 3) := by decide +kernel
theorem dX10_isOld_51 : decode cX10_isOld 51 = .ok (.goto (-47), 3) := by decide +kernel
theorem dX10_isOld_54 : decode cX10_isOld 54 = .ok (.iload_n 2, 1) := by decide +kernel
theorem dX10_isOld_55 : decode cX10_isOld 55 = .ok (.ireturn, 1) := by decide +kernel
theorem dX10_isDoneAnew_0 : decode cX10_isDoneAnew 0 = .ok (.aload_n 0, 1) := by decide +kernel
theorem dX10_isDoneAnew_1 : decode cX10_isDoneAnew 1 = .ok (.iload_n 1, 1) := by decide +kernel
theorem dX10_isDoneAnew_2 : decode cX10_isDoneAnew 2 = .ok (.invokevirtual 169, 3) := by decide +kernel
theorem dX10_isDoneAnew_5 : decode cX10_isDoneAnew 5 = .ok (.ifCond .eq 5, 3) := by decide +kernel
theorem dX10_isDoneAnew_8 : decode cX10_isDoneAnew 8 = .ok (.iconst 1, 1) := by decide +kernel
theorem dX10_isDoneAnew_9 : decode cX10_isDoneAnew 9 = .ok (.ireturn, 1) := by decide +kernel
theorem dX10_isDoneAnew_10 : decode cX10_isDoneAnew 10 = .ok (.aload_n 0, 1) := by decide +kernel
theorem dX10_isDoneAnew_11 : decode cX10_isDoneAnew 11 = .ok (.getfield 47, 3) := by decide +kernel
theorem dX10_isDoneAnew_14 : decode cX10_isDoneAnew 14 = .ok (.aload_n 0, 1) := by decide +kernel
theorem dX10_isDoneAnew_15 : decode cX10_isDoneAnew 15 = .ok (.getfield 173, 3) := by decide +kernel
theorem dX10_isDoneAnew_18 : decode cX10_isDoneAnew 18 = .ok (.iload_n 1, 1) := by decide +kernel
theorem dX10_isDoneAnew_19 : decode cX10_isDoneAnew 19 = .ok (.invokestatic 176, 3) := by decide +kernel
theorem dX10_isDoneAnew_22 : decode cX10_isDoneAnew 22 = .ok (.istore_n 3, 1) := by decide +kernel
theorem dX10_isDoneAnew_23 : decode cX10_isDoneAnew 23 = .ok (.aload_n 0, 1) := by decide +kernel
theorem dX10_isDoneAnew_24 : decode cX10_isDoneAnew 24 = .ok (.getfield 71, 3) := by decide +kernel
theorem dX10_isDoneAnew_27 : decode cX10_isDoneAnew 27 = .ok (.aload_n 0, 1) := by decide +kernel
theorem dX10_isDoneAnew_28 : decode cX10_isDoneAnew 28 = .ok (.getfield 118, 3) := by decide +kernel
theorem dX10_isDoneAnew_31 : decode cX10_isDoneAnew 31 = .ok (.iload_n 2, 1) := by decide +kernel
theorem dX10_isDoneAnew_32 : decode cX10_isDoneAnew 32 = .ok (.invokestatic 176, 3) := by decide +kernel
theorem dX10_isDoneAnew_35 : decode cX10_isDoneAnew 35 = .ok (.istore 4, 2) := by decide +kernel
theorem dX10_isDoneAnew_37 : decode cX10_isDoneAnew 37 = .ok (.iload_n 1, 1) := by decide +kernel
theorem dX10_isDoneAnew_38 : decode cX10_isDoneAnew 38 = .ok (.iconst 1, 1) := by decide +kernel
theorem dX10_isDoneAnew_39 : decode cX10_isDoneAnew 39 = .ok (.iadd, 1) := by decide +kernel
theorem dX10_isDoneAnew_40 : decode cX10_isDoneAnew 40 = .ok (.istore 5, 2) := by decide +kernel
theorem dX10_isDoneAnew_42 : decode cX10_isDoneAnew 42 = .ok (.iload_n 2, 1) := by decide +kernel
theorem dX10_isDoneAnew_43 : decode cX10_isDoneAnew 43 = .ok (.iconst 1, 1) := by decide +kernel
theorem dX10_isDoneAnew_44 : decode cX10_isDoneAnew 44 = .ok (.iadd, 1) := by decide +kernel
theorem dX10_isDoneAnew_45 : decode cX10_isDoneAnew 45 = .ok (.istore 6, 2) := by decide +kernel
theorem dX10_isDoneAnew_47 : decode cX10_isDoneAnew 47 = .ok (.iload 5, 2) := by decide +kernel
theorem dX10_isDoneAnew_49 : decode cX10_isDoneAnew 49 = .ok (.iload_n 3, 1) := by decide +kernel
theorem dX10_isDoneAnew_50 : decode cX10_isDoneAnew 50 = .ok (.if_icmp .ge 62, 3) := by decide +kernel
theorem dX10_isDoneAnew_53 : decode cX10_isDoneAnew 53 = .ok (.iload 6, 2) := by decide +kernel
theorem dX10_isDoneAnew_55 : decode cX10_isDoneAnew 55 = .ok (.iload 4, 2) := by decide +kernel
theorem dX10_isDoneAnew_57 : decode cX10_isDoneAnew 57 = .ok (.if_icmp .ge 55, 3) := by decide +kernel
theorem dX10_isDoneAnew_60 : decode cX10_isDoneAnew 60 = .ok (.aload_n 0, 1) := by decide +kernel
theorem dX10_isDoneAnew_61 : decode cX10_isDoneAnew 61 = .ok (.getfield 44, 3) := by decide +kernel
theorem dX10_isDoneAnew_64 : decode cX10_isDoneAnew 64 = .ok (.iload 5, 2) := by decide +kernel
theorem dX10_isDoneAnew_66 : decode cX10_isDoneAnew 66 = .ok (.iaload, 1) := by decide +kernel
theorem dX10_isDoneAnew_67 : decode cX10_isDoneAnew 67 = .ok (.aload_n 0, 1) := by decide +kernel
theorem dX10_isDoneAnew_68 : decode cX10_isDoneAnew 68 = .ok (.getfield 68, 3) := by decide +kernel
theorem dX10_isDoneAnew_71 : decode cX10_isDoneAnew 71 = .ok (.iload 6, 2) := by decide +kernel
theorem dX10_isDoneAnew_73 : decode cX10_isDoneAnew 73 = .ok (.iaload, 1) := by decide +kernel
theorem dX10_isDoneAnew_74 : decode cX10_isDoneAnew 74 = .ok (.if_icmp .eq 5, 3) := by decide +kernel
theorem dX10_isDoneAnew_77 : decode cX10_isDoneAnew 77 = .ok (.iconst 1, 1) := by decide +kernel
theorem dX10_isDoneAnew_78 : decode cX10_isDoneAnew 78 = .ok (.ireturn, 1) := by decide +kernel
theorem dX10_isDoneAnew_79 : decode cX10_isDoneAnew 79 = .ok (.aload_n 0, 1) := by decide +kernel
theorem dX10_isDoneAnew_80 : decode cX10_isDoneAnew 80 = .ok (.getfield 47, 3) := by decide +kernel
theorem dX10_isDoneAnew_83 : decode cX10_isDoneAnew 83 = .ok (.aload_n 0, 1) := by decide +kernel
theorem dX10_isDoneAnew_84 : decode cX10_isDoneAnew 84 = .ok (.getfield 173, 3) := by decide +kernel
theorem dX10_isDoneAnew_87 : decode cX10_isDoneAnew 87 = .ok (.iload 5, 2) := by decide +kernel
theorem dX10_isDoneAnew_89 : decode cX10_isDoneAnew 89 = .ok (.invokestatic 176, 3) := by decide +kernel
theorem dX10_isDoneAnew_92 : decode cX10_isDoneAnew 92 = .ok (.istore 5, 2) := by decide +kernel
theorem dX10_isDoneAnew_94 : decode cX10_isDoneAnew 94 = .ok (.aload_n 0, 1) := by decide +kernel
theorem dX10_isDoneAnew_95 : decode cX10_isDoneAnew 95 = .ok (.getfield 71, 3) := by decide +kernel
theorem dX10_isDoneAnew_98 : decode cX10_isDoneAnew 98 = .ok (.aload_n 0, 1) := by decide +kernel
theorem dX10_isDoneAnew_99 : decode cX10_isDoneAnew 99 = .ok (.getfield 118, 3) := by decide +kernel
theorem dX10_isDoneAnew_102 : decode cX10_isDoneAnew 102 = .ok (.iload 6, 2) := by decide +kernel
theorem dX10_isDoneAnew_104 : decode cX10_isDoneAnew 104 = .ok (.invokestatic 176, 3) := by decide +kernel
theorem dX10_isDoneAnew_107 : decode cX10_isDoneAnew 107 = .ok (.istore 6, 2) := by decide +kernel
theorem dX10_isDoneAnew_109 : decode cX10_isDoneAnew 109 = .ok (.goto (-62), 3) := by decide +kernel
theorem dX10_isDoneAnew_112 : decode cX10_isDoneAnew 112 = .ok (.iconst 0, 1) := by decide +kernel
theorem dX10_isDoneAnew_113 : decode cX10_isDoneAnew 113 = .ok (.ireturn, 1) := by decide +kernel
theorem dX10_matchParts_0 : decode cX10_matchParts 0 = .ok (.aload_n 0, 1) := by decide +kernel
theorem dX10_matchParts_1 : decode cX10_matchParts 1 = .ok (.getfield 47, 3) := by decide +kernel
theorem dX10_matchParts_4 : decode cX10_matchParts 4 = .ok (.aload_n 0, 1) := by decide +kernel
theorem dX10_matchParts_5 : decode cX10_matchParts 5 = .ok (.getfield 173, 3) := by decide +kernel
theorem dX10_matchParts_8 : decode cX10_matchParts 8 = .ok (.iload_n 1, 1) := by decide +kernel
theorem dX10_matchParts_9 : decode cX10_matchParts 9 = .ok (.invokestatic 176, 3) := by decide +kernel
theorem dX10_matchParts_12 : decode cX10_matchParts 12 = .ok (.istore_n 3, 1) := by decide +kernel
theorem dX10_matchParts_13 : decode cX10_matchParts 13 = .ok (.aload_n 0, 1) := by decide +kernel
theorem dX10_matchParts_14 : decode cX10_matchParts 14 = .ok (.getfield 71, 3) := by decide +kernel
theorem dX10_matchParts_17 : decode cX10_matchParts 17 = .ok (.aload_n 0, 1) := by decide +kernel
theorem dX10_matchParts_18 : decode cX10_matchParts 18 = .ok (.getfield 118, 3) := by decide +kernel
theorem dX10_matchParts_21 : decode cX10_matchParts 21 = .ok (.iload_n 2, 1) := by decide +kernel
theorem dX10_matchParts_22 : decode cX10_matchParts 22 = .ok (.invokestatic 176, 3) := by decide +kernel
theorem dX10_matchParts_25 : decode cX10_matchParts 25 = .ok (.istore 4, 2) := by decide +kernel
theorem dX10_matchParts_27 : decode cX10_matchParts 27 = .ok (.iload_n 1, 1) := by decide +kernel
theorem dX10_matchParts_28 : decode cX10_matchParts 28 = .ok (.iconst 1, 1) := by decide +kernel
theorem dX10_matchParts_29 : decode cX10_matchParts 29 = .ok (.iadd, 1) := by decide +kernel
theorem dX10_matchParts_30 : decode cX10_matchParts 30 = .ok (.istore 5, 2) := by decide +kernel
theorem dX10_matchParts_32 : decode cX10_matchParts 32 = .ok (.iload_n 2, 1) := by decide +kernel
theorem dX10_matchParts_33 : decode cX10_matchParts 33 = .ok (.iconst 1, 1) := by decide +kernel
theorem dX10_matchParts_34 : decode cX10_matchParts 34 = .ok (.iadd, 1) := by decide +kernel
theorem dX10_matchParts_35 : decode cX10_matchParts 35 = .ok (.istore 6, 2) := by decide +kernel
theorem dX10_matchParts_37 : decode cX10_matchParts 37 = .ok (.iload 6, 2) := by decide +kernel
theorem dX10_matchParts_39 : decode cX10_matchParts 39 = .ok (.iload 4, 2) := by decide +kernel
theorem dX10_matchParts_41 : decode cX10_matchParts 41 = .ok (.if_icmp .ge 113, 3) := by decide +kernel
theorem dX10_matchParts_44 : decode cX10_matchParts 44 = .ok (.iload 5, 2) := by decide +kernel
theorem dX10_matchParts_46 : decode cX10_matchParts 46 = .ok (.istore 7, 2) := by decide +kernel
theorem dX10_matchParts_48 : decode cX10_matchParts 48 = .ok (.iload 7, 2) := by decide +kernel
theorem dX10_matchParts_50 : decode cX10_matchParts 50 = .ok (.iload_n 3, 1) := by decide +kernel
theorem dX10_matchParts_51 : decode cX10_matchParts 51 = .ok (.if_icmp .ge 55, 3) := by decide +kernel
theorem dX10_matchParts_54 : decode cX10_matchParts 54 = .ok (.aload_n 0, 1) := by decide +kernel
theorem dX10_matchParts_55 : decode cX10_matchParts 55 = .ok (.getfield 38, 3) := by decide +kernel
theorem dX10_matchParts_58 : decode cX10_matchParts 58 = .ok (.iload 7, 2) := by decide +kernel
theorem dX10_matchParts_60 : decode cX10_matchParts 60 = .ok (.iaload, 1) := by decide +kernel
theorem dX10_matchParts_61 : decode cX10_matchParts 61 = .ok (.aload_n 0, 1) := by decide +kernel
theorem dX10_matchParts_62 : decode cX10_matchParts 62 = .ok (.getfield 62, 3) := by decide +kernel
theorem dX10_matchParts_65 : decode cX10_matchParts 65 = .ok (.iload 6, 2) := by decide +kernel
theorem dX10_matchParts_67 : decode cX10_matchParts 67 = .ok (.iaload, 1) := by decide +kernel
theorem dX10_matchParts_68 : decode cX10_matchParts 68 = .ok (.if_icmp .ne 20, 3) := by decide +kernel
theorem dX10_matchParts_71 : decode cX10_matchParts 71 = .ok (.aload_n 0, 1) := by decide +kernel
theorem dX10_matchParts_72 : decode cX10_matchParts 72 = .ok (.getfield 41, 3) := by decide +kernel
theorem dX10_matchParts_75 : decode cX10_matchParts 75 = .ok (.iload 7, 2) := by decide +kernel
theorem dX10_matchParts_77 : decode cX10_matchParts 77 = .ok (.iaload, 1) := by decide +kernel
theorem dX10_matchParts_78 : decode cX10_matchParts 78 = .ok (.aload_n 0, 1) := by decide +kernel
theorem dX10_matchParts_79 : decode cX10_matchParts 79 = .ok (.getfield 65, 3) := by decide +kernel
theorem dX10_matchParts_82 : decode cX10_matchParts 82 = .ok (.iload 6, 2) := by decide +kernel
theorem dX10_matchParts_84 : decode cX10_matchParts 84 = .ok (.iaload, 1) := by decide +kernel
theorem dX10_matchParts_85 : decode cX10_matchParts 85 = .ok (.if_icmp .eq 21, 3) := by decide +kernel
theorem dX10_matchParts_88 : decode cX10_matchParts 88 = .ok (.aload_n 0, 1) := by decide +kernel
theorem dX10_matchParts_89 : decode cX10_matchParts 89 = .ok (.getfield 47, 3) := by decide +kernel
theorem dX10_matchParts_92 : decode cX10_matchParts 92 = .ok (.aload_n 0, 1) := by decide +kernel
theorem dX10_matchParts_93 : decode cX10_matchParts 93 = .ok (.getfield 173, 3) := by decide +kernel
theorem dX10_matchParts_96 : decode cX10_matchParts 96 = .ok (.iload 7, 2) := by decide +kernel
theorem dX10_matchParts_98 : decode cX10_matchParts 98 = .ok (.invokestatic 176, 3) := by decide +kernel
theorem dX10_matchParts_101 : decode cX10_matchParts 101 = .ok (.istore 7, 2) := by decide +kernel
theorem dX10_matchParts_103 : decode cX10_matchParts 103 = .ok (.goto (-55), 3) := by decide +kernel
theorem dX10_matchParts_106 : decode cX10_matchParts 106 = .ok (.iload 7, 2) := by decide +kernel
theorem dX10_matchParts_108 : decode cX10_matchParts 108 = .ok (.iload_n 3, 1) := by decide +kernel
theorem dX10_matchParts_109 : decode cX10_matchParts 109 = .ok (.if_icmp .ge 27, 3) := by decide +kernel
theorem dX10_matchParts_112 : decode cX10_matchParts 112 = .ok (.aload_n 0, 1) := by decide +kernel
theorem dX10_matchParts_113 : decode cX10_matchParts 113 = .ok (.getfield 77, 3) := by decide +kernel
theorem dX10_matchParts_116 : decode cX10_matchParts 116 = .ok (.iload 6, 2) := by decide +kernel
theorem dX10_matchParts_118 : decode cX10_matchParts 118 = .ok (.iload 7, 2) := by decide +kernel
theorem dX10_matchParts_120 : decode cX10_matchParts 120 = .ok (.iastore, 1) := by decide +kernel
theorem dX10_matchParts_121 : decode cX10_matchParts 121 = .ok (.aload_n 0, 1) := by decide +kernel
theorem dX10_matchParts_122 : decode cX10_matchParts 122 = .ok (.getfield 47, 3) := by decide +kernel
theorem dX10_matchParts_125 : decode cX10_matchParts 125 = .ok (.aload_n 0, 1) := by decide +kernel
theorem dX10_matchParts_126 : decode cX10_matchParts 126 = .ok (.getfield 173, 3) := by decide +kernel
theorem dX10_matchParts_129 : decode cX10_matchParts 129 = .ok (.iload 7, 2) := by decide +kernel
theorem dX10_matchParts_131 : decode cX10_matchParts 131 = .ok (.invokestatic 176, 3) := by decide +kernel
theorem dX10_matchParts_134 : decode cX10_matchParts 134 = .ok (.istore 5, 2) := by decide +kernel
theorem dX10_matchParts_136 : decode cX10_matchParts 136 = .ok (.aload_n 0, 1) := by decide +kernel
theorem dX10_matchParts_137 : decode cX10_matchParts 137 = .ok (.getfield 71, 3) := by decide +kernel
theorem dX10_matchParts_140 : decode cX10_matchParts 140 = .ok (.aload_n 0, 1) := by decide +kernel
theorem dX10_matchParts_141 : decode cX10_matchParts 141 = .ok (.getfield 118, 3) := by decide +kernel
theorem dX10_matchParts_144 : decode cX10_matchParts 144 = .ok (.iload 6, 2) := by decide +kernel
theorem dX10_matchParts_146 : decode cX10_matchParts 146 = .ok (.invokestatic 176, 3) := by decide +kernel
theorem dX10_matchParts_149 : decode cX10_matchParts 149 = .ok (.istore 6, 2) := by decide +kernel
theorem dX10_matchParts_151 : decode cX10_matchParts 151 = .ok (.goto (-114), 3) := by decide +kernel
theorem dX10_matchParts_154 : decode cX10_matchParts 154 = .ok (.return_, 1) := by decide +kernel
theorem dX10_matchAll_0 : decode cX10_matchAll 0 = .ok (.iconst 0, 1) := by decide +kernel
theorem dX10_matchAll_1 : decode cX10_matchAll 1 = .ok (.istore_n 2, 1) := by decide +kernel
theorem dX10_matchAll_2 : decode cX10_matchAll 2 = .ok (.iload_n 2, 1) := by decide +kernel
theorem dX10_matchAll_3 : decode cX10_matchAll 3 = .ok (.aload_n 0, 1) := by decide +kernel
theorem dX10_matchAll_4 : decode cX10_matchAll 4 = .ok (.getfield 118, 3) := by decide +kernel
theorem dX10_matchAll_7 : decode cX10_matchAll 7 = .ok (.if_icmp .ge 16, 3) := by decide +kernel
theorem dX10_matchAll_10 : decode cX10_matchAll 10 = .ok (.aload_n 0, 1) := by decide +kernel
theorem dX10_matchAll_11 : decode cX10_matchAll 11 = .ok (.getfield 77, 3) := by decide +kernel
theorem dX10_matchAll_14 : decode cX10_matchAll 14 = .ok (.iload_n 2, 1) := by decide +kernel
theorem dX10_matchAll_15 : decode cX10_matchAll 15 = .ok (.iconst (-1), 1) := by decide +kernel
theorem dX10_matchAll_16 : decode cX10_matchAll 16 = .ok (.iastore, 1) := by decide +kernel
theorem dX10_matchAll_17 : decode cX10_matchAll 17 = .ok (.iinc 2 1, 3) := by decide +kernel
theorem dX10_matchAll_20 : decode cX10_matchAll 20 = .ok (.goto (-18), 3) := by decide +kernel
theorem dX10_matchAll_23 : decode cX10_matchAll 23 = .ok (.aload_n 0, 1) := by decide +kernel
theorem dX10_matchAll_24 : decode cX10_matchAll 24 = .ok (.getfield 77, 3) := by decide +kernel
theorem dX10_matchAll_27 : decode cX10_matchAll 27 = .ok (.iconst 0, 1) := by decide +kernel
theorem dX10_matchAll_28 : decode cX10_matchAll 28 = .ok (.iload_n 1, 1) := by decide +kernel
theorem dX10_matchAll_29 : decode cX10_matchAll 29 = .ok (.ifCond .eq 7, 3) := by decide +kernel
theorem dX10_matchAll_32 : decode cX10_matchAll 32 = .ok (.iconst 0, 1) := by decide +kernel
theorem dX10_matchAll_33 : decode cX10_matchAll 33 = .ok (.goto 4, 3) := by decide +kernel
theorem dX10_matchAll_36 : decode cX10_matchAll 36 = .ok (.iconst (-1), 1) := by decide +kernel
theorem dX10_matchAll_37 : decode cX10_matchAll 37 = .ok (.iastore, 1) := by decide +kernel
theorem dX10_matchAll_38 : decode cX10_matchAll 38 = .ok (.aload_n 0, 1) := by decide +kernel
theorem dX10_matchAll_39 : decode cX10_matchAll 39 = .ok (.iconst 0, 1) := by decide +kernel
theorem dX10_matchAll_40 : decode cX10_matchAll 40 = .ok (.putfield 180, 3) := by decide +kernel
theorem dX10_matchAll_43 : decode cX10_matchAll 43 = .ok (.aload_n 0, 1) := by decide +kernel
theorem dX10_matchAll_44 : decode cX10_matchAll 44 = .ok (.iconst 0, 1) := by decide +kernel
theorem dX10_matchAll_45 : decode cX10_matchAll 45 = .ok (.putfield 183, 3) := by decide +kernel
theorem dX10_matchAll_48 : decode cX10_matchAll 48 = .ok (.iconst 0, 1) := by decide +kernel
theorem dX10_matchAll_49 : decode cX10_matchAll 49 = .ok (.istore_n 2, 1) := by decide +kernel
theorem dX10_matchAll_50 : decode cX10_matchAll 50 = .ok (.iload_n 2, 1) := by decide +kernel
theorem dX10_matchAll_51 : decode cX10_matchAll 51 = .ok (.aload_n 0, 1) := by decide +kernel
theorem dX10_matchAll_52 : decode cX10_matchAll 52 = .ok (.getfield 118, 3) := by decide +kernel
theorem dX10_matchAll_55 : decode cX10_matchAll 55 = .ok (.if_icmp .ge 129, 3) := by decide +kernel
theorem dX10_matchAll_58 : decode cX10_matchAll 58 = .ok (.aload_n 0, 1) := by decide +kernel
theorem dX10_matchAll_59 : decode cX10_matchAll 59 = .ok (.getfield 77, 3) := by decide +kernel
theorem dX10_matchAll_62 : decode cX10_matchAll 62 = .ok (.iload_n 2, 1) := by decide +kernel
theorem dX10_matchAll_63 : decode cX10_matchAll 63 = .ok (.iaload, 1) := by decide +kernel
theorem dX10_matchAll_64 : decode cX10_matchAll 64 = .ok (.istore_n 3, 1) := by decide +kernel
theorem dX10_matchAll_65 : decode cX10_matchAll 65 = .ok (.iload_n 3, 1) := by decide +kernel
theorem dX10_matchAll_66 : decode cX10_matchAll 66 = .ok (.iconst (-1), 1) := by decide +kernel
theorem dX10_matchAll_67 : decode cX10_matchAll 67 = .ok (.if_icmp .ne 43, 3) := by decide +kernel
theorem dX10_matchAll_70 : decode cX10_matchAll 70 = .ok (.aload_n 0, 1) := by decide +kernel
theorem dX10_matchAll_71 : decode cX10_matchAll 71 = .ok (.getfield 80, 3) := by decide +kernel
theorem dX10_matchAll_74 : decode cX10_matchAll 74 = .ok (.iload_n 2, 1) := by decide +kernel
theorem dX10_matchAll_75 : decode cX10_matchAll 75 = .ok (.aload_n 0, 1) := by decide +kernel
theorem dX10_matchAll_76 : decode cX10_matchAll 76 = .ok (.getfield 186, 3) := by decide +kernel
theorem dX10_matchAll_79 : decode cX10_matchAll 79 = .ok (.iastore, 1) := by decide +kernel
theorem dX10_matchAll_80 : decode cX10_matchAll 80 = .ok (.aload_n 0, 1) := by decide +kernel
theorem dX10_matchAll_81 : decode cX10_matchAll 81 = .ok (.getfield 83, 3) := by decide +kernel
theorem dX10_matchAll_84 : decode cX10_matchAll 84 = .ok (.iload_n 2, 1) := by decide +kernel
theorem dX10_matchAll_85 : decode cX10_matchAll 85 = .ok (.iconst 1, 1) := by decide +kernel
theorem dX10_matchAll_86 : decode cX10_matchAll 86 = .ok (.iastore, 1) := by decide +kernel
theorem dX10_matchAll_87 : decode cX10_matchAll 87 = .ok (.aload_n 0, 1) := by decide +kernel
theorem dX10_matchAll_88 : decode cX10_matchAll 88 = .ok (.dup, 1) := by decide +kernel
theorem dX10_matchAll_89 : decode cX10_matchAll 89 = .ok (.getfield 186, 3) := by decide +kernel
theorem dX10_matchAll_92 : decode cX10_matchAll 92 = .ok (.iconst 1, 1) := by decide +kernel
theorem dX10_matchAll_93 : decode cX10_matchAll 93 = .ok (.iadd, 1) := by decide +kernel
theorem dX10_matchAll_94 : decode cX10_matchAll 94 = .ok (.putfield 186, 3) := by decide +kernel
theorem dX10_matchAll_97 : decode cX10_matchAll 97 = .ok (.aload_n 0, 1) := by decide +kernel
theorem dX10_matchAll_98 : decode cX10_matchAll 98 = .ok (.dup, 1) := by decide +kernel
theorem dX10_matchAll_99 : decode cX10_matchAll 99 = .ok (.getfield 180, 3) := by decide +kernel
theorem dX10_matchAll_102 : decode cX10_matchAll 102 = .ok (.iconst 1, 1) := by decide +kernel
theorem dX10_matchAll_103 : decode cX10_matchAll 103 = .ok (.iadd, 1) := by decide +kernel
theorem dX10_matchAll_104 : decode cX10_matchAll 104 = .ok (.putfield 180, 3) := by decide +kernel
theorem dX10_matchAll_107 : decode cX10_matchAll 107 = .ok (.goto 71, 3) := by decide +kernel
theorem dX10_matchAll_110 : decode cX10_matchAll 110 = .ok (.aload_n 0, 1) := by decide +kernel
theorem dX10_matchAll_111 : decode cX10_matchAll 111 = .ok (.iload_n 3, 1) := by decide +kernel
theorem dX10_matchAll_112 : decode cX10_matchAll 112 = .ok (.iload_n 2, 1) := by decide +kernel
theorem dX10_matchAll_113 : decode cX10_matchAll 113 = .ok (.invokevirtual 189, 3) := by decide +kernel
theorem dX10_matchAll_116 : decode cX10_matchAll 116 = .ok (.istore 4, 2) := by decide +kernel
theorem dX10_matchAll_118 : decode cX10_matchAll 118 = .ok (.aload_n 0, 1) := by decide +kernel
theorem dX10_matchAll_119 : decode cX10_matchAll 119 = .ok (.getfield 80, 3) := by decide +kernel
theorem dX10_matchAll_122 : decode cX10_matchAll 122 = .ok (.iload_n 2, 1) := by decide +kernel
theorem dX10_matchAll_123 : decode cX10_matchAll 123 = .ok (.aload_n 0, 1) := by decide +kernel
theorem dX10_matchAll_124 : decode cX10_matchAll 124 = .ok (.getfield 53, 3) := by decide +kernel
theorem dX10_matchAll_127 : decode cX10_matchAll 127 = .ok (.iload_n 3, 1) := by decide +kernel
theorem dX10_matchAll_128 : decode cX10_matchAll 128 = .ok (.iaload, 1) := by decide +kernel
theorem dX10_matchAll_129 : decode cX10_matchAll 129 = .ok (.iastore, 1) := by decide +kernel
theorem dX10_matchAll_130 : decode cX10_matchAll 130 = .ok (.aload_n 0, 1) := by decide +kernel
theorem dX10_matchAll_131 : decode cX10_matchAll 131 = .ok (.getfield 83, 3) := by decide +kernel
theorem dX10_matchAll_134 : decode cX10_matchAll 134 = .ok (.iload_n 2, 1) := by decide +kernel
theorem dX10_matchAll_135 : decode cX10_matchAll 135 = .ok (.aload_n 0, 1) := by decide +kernel
theorem dX10_matchAll_136 : decode cX10_matchAll 136 = .ok (.getfield 56, 3) := by decide +kernel
theorem dX10_matchAll_139 : decode cX10_matchAll 139 = .ok (.iload_n 3, 1) := by decide +kernel
theorem dX10_matchAll_140 : decode cX10_matchAll 140 = .ok (.iaload, 1) := by decide +kernel
theorem dX10_matchAll_141 : decode cX10_matchAll 141 = .ok (.iload 4, 2) := by decide +kernel
theorem dX10_matchAll_143 : decode cX10_matchAll 143 = .ok (.ifCond .eq 7, 3) := by decide +kernel
theorem dX10_matchAll_146 : decode cX10_matchAll 146 = .ok (.iconst 1, 1) := by decide +kernel
theorem dX10_matchAll_147 : decode cX10_matchAll 147 = .ok (.goto 4, 3) := by decide +kernel
theorem dX10_matchAll_150 : decode cX10_matchAll 150 = .ok (.iconst 0, 1) := by decide +kernel
theorem dX10_matchAll_151 : decode cX10_matchAll 151 = .ok (.iadd, 1) := by decide +kernel
theorem dX10_matchAll_152 : decode cX10_matchAll 152 = .ok (.iastore, 1) := by decide +kernel
theorem dX10_matchAll_153 : decode cX10_matchAll 153 = .ok (.aload_n 0, 1) := by decide +kernel
theorem dX10_matchAll_154 : decode cX10_matchAll 154 = .ok (.dup, 1) := by decide +kernel
theorem dX10_matchAll_155 : decode cX10_matchAll 155 = .ok (.getfield 183, 3) := by decide +kernel
theorem dX10_matchAll_158 : decode cX10_matchAll 158 = .ok (.iload 4, 2) := by decide +kernel
theorem dX10_matchAll_160 : decode cX10_matchAll 160 = .ok (.ifCond .eq 7, 3) := by decide +kernel
theorem dX10_matchAll_163 : decode cX10_matchAll 163 = .ok (.iconst 1, 1) := by decide +kernel
theorem dX10_matchAll_164 : decode cX10_matchAll 164 = .ok (.goto 4, 3) := by decide +kernel
theorem dX10_matchAll_167 : decode cX10_matchAll 167 = .ok (.iconst 0, 1) := by decide +kernel
theorem dX10_matchAll_168 : decode cX10_matchAll 168 = .ok (.iadd, 1) := by decide +kernel
theorem dX10_matchAll_169 : decode cX10_matchAll 169 = .ok (.putfield 183, 3) := by decide +kernel
theorem dX10_matchAll_172 : decode cX10_matchAll 172 = .ok (.aload_n 0, 1) := by decide +kernel
theorem dX10_matchAll_173 : decode cX10_matchAll 173 = .ok (.iload_n 3, 1) := by decide +kernel
theorem dX10_matchAll_174 : decode cX10_matchAll 174 = .ok (.iload_n 2, 1) := by decide +kernel
theorem dX10_matchAll_175 : decode cX10_matchAll 175 = .ok (.invokevirtual 192, 3) := by decide +kernel
theorem dX10_matchAll_178 : decode cX10_matchAll 178 = .ok (.iinc 2 1, 3) := by decide +kernel
theorem dX10_matchAll_181 : decode cX10_matchAll 181 = .ok (.goto (-131), 3) := by decide +kernel
theorem dX10_matchAll_184 : decode cX10_matchAll 184 = .ok (.aload_n 0, 1) := by decide +kernel
theorem dX10_matchAll_185 : decode cX10_matchAll 185 = .ok (.aload_n 0, 1) := by decide +kernel
theorem dX10_matchAll_186 : decode cX10_matchAll 186 = .ok (.getfield 173, 3) := by decide +kernel
theorem dX10_matchAll_189 : decode cX10_matchAll 189 = .ok (.aload_n 0, 1) := by decide +kernel
theorem dX10_matchAll_190 : decode cX10_matchAll 190 = .ok (.getfield 118, 3) := by decide +kernel
theorem dX10_matchAll_193 : decode cX10_matchAll 193 = .ok (.aload_n 0, 1) := by decide +kernel
theorem dX10_matchAll_194 : decode cX10_matchAll 194 = .ok (.getfield 180, 3) := by decide +kernel
end
section
theorem dX10_matchAll_197 : decode cX10_matchAll 197 = .ok (.isub, 1) := by decide +kernel
theorem dX10_matchAll_198 : decode cX10_matchAll 198 = .ok (.isub, 1) := by decide +kernel
theorem dX10_matchAll_199 : decode cX10_matchAll 199 = .ok (.putfield 195, 3) := by decide +kernel
theorem dX10_matchAll_202 : decode cX10_matchAll 202 = .ok (.return_, 1) := by decide +kernel
theorem dX10_takeOver_0 : decode cX10_takeOver 0 = .ok (.aload_n 0, 1) := by decide +kernel
theorem dX10_takeOver_1 : decode cX10_takeOver 1 = .ok (.aload_n 0, 1) := by decide +kernel
theorem dX10_takeOver_2 : decode cX10_takeOver 2 = .ok (.getfield 118, 3) := by decide +kernel
theorem dX10_takeOver_5 : decode cX10_takeOver 5 = .ok (.putfield 173, 3) := by decide +kernel
theorem dX10_takeOver_8 : decode cX10_takeOver 8 = .ok (.iconst 0, 1) := by decide +kernel
theorem dX10_takeOver_9 : decode cX10_takeOver 9 = .ok (.istore_n 1, 1) := by decide +kernel
theorem dX10_takeOver_10 : decode cX10_takeOver 10 = .ok (.iload_n 1, 1) := by decide +kernel
theorem dX10_takeOver_11 : decode cX10_takeOver 11 = .ok (.aload_n 0, 1) := by decide +kernel
theorem dX10_takeOver_12 : decode cX10_takeOver 12 = .ok (.getfield 173, 3) := by decide +kernel
theorem dX10_takeOver_15 : decode cX10_takeOver 15 = .ok (.if_icmp .ge 93, 3) := by decide +kernel
theorem dX10_takeOver_18 : decode cX10_takeOver 18 = .ok (.aload_n 0, 1) := by decide +kernel
theorem dX10_takeOver_19 : decode cX10_takeOver 19 = .ok (.getfield 38, 3) := by decide +kernel
theorem dX10_takeOver_22 : decode cX10_takeOver 22 = .ok (.iload_n 1, 1) := by decide +kernel
theorem dX10_takeOver_23 : decode cX10_takeOver 23 = .ok (.aload_n 0, 1) := by decide +kernel
theorem dX10_takeOver_24 : decode cX10_takeOver 24 = .ok (.getfield 62, 3) := by decide +kernel
theorem dX10_takeOver_27 : decode cX10_takeOver 27 = .ok (.iload_n 1, 1) := by decide +kernel
theorem dX10_takeOver_28 : decode cX10_takeOver 28 = .ok (.iaload, 1) := by decide +kernel
theorem dX10_takeOver_29 : decode cX10_takeOver 29 = .ok (.iastore, 1) := by decide +kernel
theorem dX10_takeOver_30 : decode cX10_takeOver 30 = .ok (.aload_n 0, 1) := by decide +kernel
theorem dX10_takeOver_31 : decode cX10_takeOver 31 = .ok (.getfield 41, 3) := by decide +kernel
theorem dX10_takeOver_34 : decode cX10_takeOver 34 = .ok (.iload_n 1, 1) := by decide +kernel
theorem dX10_takeOver_35 : decode cX10_takeOver 35 = .ok (.aload_n 0, 1) := by decide +kernel
theorem dX10_takeOver_36 : decode cX10_takeOver 36 = .ok (.getfield 65, 3) := by decide +kernel
theorem dX10_takeOver_39 : decode cX10_takeOver 39 = .ok (.iload_n 1, 1) := by decide +kernel
theorem dX10_takeOver_40 : decode cX10_takeOver 40 = .ok (.iaload, 1) := by decide +kernel
theorem dX10_takeOver_41 : decode cX10_takeOver 41 = .ok (.iastore, 1) := by decide +kernel
theorem dX10_takeOver_42 : decode cX10_takeOver 42 = .ok (.aload_n 0, 1) := by decide +kernel
theorem dX10_takeOver_43 : decode cX10_takeOver 43 = .ok (.getfield 44, 3) := by decide +kernel
theorem dX10_takeOver_46 : decode cX10_takeOver 46 = .ok (.iload_n 1, 1) := by decide +kernel
theorem dX10_takeOver_47 : decode cX10_takeOver 47 = .ok (.aload_n 0, 1) := by decide +kernel
theorem dX10_takeOver_48 : decode cX10_takeOver 48 = .ok (.getfield 68, 3) := by decide +kernel
theorem dX10_takeOver_51 : decode cX10_takeOver 51 = .ok (.iload_n 1, 1) := by decide +kernel
theorem dX10_takeOver_52 : decode cX10_takeOver 52 = .ok (.iaload, 1) := by decide +kernel
theorem dX10_takeOver_53 : decode cX10_takeOver 53 = .ok (.iastore, 1) := by decide +kernel
theorem dX10_takeOver_54 : decode cX10_takeOver 54 = .ok (.aload_n 0, 1) := by decide +kernel
theorem dX10_takeOver_55 : decode cX10_takeOver 55 = .ok (.getfield 47, 3) := by decide +kernel
theorem dX10_takeOver_58 : decode cX10_takeOver 58 = .ok (.iload_n 1, 1) := by decide +kernel
theorem dX10_takeOver_59 : decode cX10_takeOver 59 = .ok (.aload_n 0, 1) := by decide +kernel
theorem dX10_takeOver_60 : decode cX10_takeOver 60 = .ok (.getfield 71, 3) := by decide +kernel
theorem dX10_takeOver_63 : decode cX10_takeOver 63 = .ok (.iload_n 1, 1) := by decide +kernel
theorem dX10_takeOver_64 : decode cX10_takeOver 64 = .ok (.iaload, 1) := by decide +kernel
theorem dX10_takeOver_65 : decode cX10_takeOver 65 = .ok (.iastore, 1) := by decide +kernel
theorem dX10_takeOver_66 : decode cX10_takeOver 66 = .ok (.aload_n 0, 1) := by decide +kernel
theorem dX10_takeOver_67 : decode cX10_takeOver 67 = .ok (.getfield 50, 3) := by decide +kernel
theorem dX10_takeOver_70 : decode cX10_takeOver 70 = .ok (.iload_n 1, 1) := by decide +kernel
theorem dX10_takeOver_71 : decode cX10_takeOver 71 = .ok (.aload_n 0, 1) := by decide +kernel
theorem dX10_takeOver_72 : decode cX10_takeOver 72 = .ok (.getfield 74, 3) := by decide +kernel
theorem dX10_takeOver_75 : decode cX10_takeOver 75 = .ok (.iload_n 1, 1) := by decide +kernel
theorem dX10_takeOver_76 : decode cX10_takeOver 76 = .ok (.iaload, 1) := by decide +kernel
theorem dX10_takeOver_77 : decode cX10_takeOver 77 = .ok (.iastore, 1) := by decide +kernel
theorem dX10_takeOver_78 : decode cX10_takeOver 78 = .ok (.aload_n 0, 1) := by decide +kernel
theorem dX10_takeOver_79 : decode cX10_takeOver 79 = .ok (.getfield 53, 3) := by decide +kernel
theorem dX10_takeOver_82 : decode cX10_takeOver 82 = .ok (.iload_n 1, 1) := by decide +kernel
theorem dX10_takeOver_83 : decode cX10_takeOver 83 = .ok (.aload_n 0, 1) := by decide +kernel
theorem dX10_takeOver_84 : decode cX10_takeOver 84 = .ok (.getfield 80, 3) := by decide +kernel
theorem dX10_takeOver_87 : decode cX10_takeOver 87 = .ok (.iload_n 1, 1) := by decide +kernel
theorem dX10_takeOver_88 : decode cX10_takeOver 88 = .ok (.iaload, 1) := by decide +kernel
theorem dX10_takeOver_89 : decode cX10_takeOver 89 = .ok (.iastore, 1) := by decide +kernel
theorem dX10_takeOver_90 : decode cX10_takeOver 90 = .ok (.aload_n 0, 1) := by decide +kernel
theorem dX10_takeOver_91 : decode cX10_takeOver 91 = .ok (.getfield 56, 3) := by decide +kernel
theorem dX10_takeOver_94 : decode cX10_takeOver 94 = .ok (.iload_n 1, 1) := by decide +kernel
theorem dX10_takeOver_95 : decode cX10_takeOver 95 = .ok (.aload_n 0, 1) := by decide +kernel
theorem dX10_takeOver_96 : decode cX10_takeOver 96 = .ok (.getfield 83, 3) := by decide +kernel
theorem dX10_takeOver_99 : decode cX10_takeOver 99 = .ok (.iload_n 1, 1) := by decide +kernel
theorem dX10_takeOver_100 : decode cX10_takeOver 100 = .ok (.iaload, 1) := by decide +kernel
theorem dX10_takeOver_101 : decode cX10_takeOver 101 = .ok (.iastore, 1) := by decide +kernel
theorem dX10_takeOver_102 : decode cX10_takeOver 102 = .ok (.iinc 1 1, 3) := by decide +kernel
theorem dX10_takeOver_105 : decode cX10_takeOver 105 = .ok (.goto (-95), 3) := by decide +kernel
theorem dX10_takeOver_108 : decode cX10_takeOver 108 = .ok (.iconst 0, 1) := by decide +kernel
theorem dX10_takeOver_109 : decode cX10_takeOver 109 = .ok (.istore_n 1, 1) := by decide +kernel
theorem dX10_takeOver_110 : decode cX10_takeOver 110 = .ok (.iload_n 1, 1) := by decide +kernel
theorem dX10_takeOver_111 : decode cX10_takeOver 111 = .ok (.bipush 8, 2) := by decide +kernel
theorem dX10_takeOver_113 : decode cX10_takeOver 113 = .ok (.if_icmp .ge 21, 3) := by decide +kernel
theorem dX10_takeOver_116 : decode cX10_takeOver 116 = .ok (.aload_n 0, 1) := by decide +kernel
theorem dX10_takeOver_117 : decode cX10_takeOver 117 = .ok (.getfield 59, 3) := by decide +kernel
theorem dX10_takeOver_120 : decode cX10_takeOver 120 = .ok (.iload_n 1, 1) := by decide +kernel
theorem dX10_takeOver_121 : decode cX10_takeOver 121 = .ok (.aload_n 0, 1) := by decide +kernel
theorem dX10_takeOver_122 : decode cX10_takeOver 122 = .ok (.getfield 7, 3) := by decide +kernel
theorem dX10_takeOver_125 : decode cX10_takeOver 125 = .ok (.iload_n 1, 1) := by decide +kernel
theorem dX10_takeOver_126 : decode cX10_takeOver 126 = .ok (.iaload, 1) := by decide +kernel
theorem dX10_takeOver_127 : decode cX10_takeOver 127 = .ok (.iastore, 1) := by decide +kernel
theorem dX10_takeOver_128 : decode cX10_takeOver 128 = .ok (.iinc 1 1, 3) := by decide +kernel
theorem dX10_takeOver_131 : decode cX10_takeOver 131 = .ok (.goto (-21), 3) := by decide +kernel
theorem dX10_takeOver_134 : decode cX10_takeOver 134 = .ok (.return_, 1) := by decide +kernel
theorem dX10_layFirst_0 : decode cX10_layFirst 0 = .ok (.aload_n 0, 1) := by decide +kernel
theorem dX10_layFirst_1 : decode cX10_layFirst 1 = .ok (.getfield 7, 3) := by decide +kernel
theorem dX10_layFirst_4 : decode cX10_layFirst 4 = .ok (.bipush 8, 2) := by decide +kernel
theorem dX10_layFirst_6 : decode cX10_layFirst 6 = .ok (.iconst 0, 1) := by decide +kernel
theorem dX10_layFirst_7 : decode cX10_layFirst 7 = .ok (.iastore, 1) := by decide +kernel
theorem dX10_layFirst_8 : decode cX10_layFirst 8 = .ok (.aload_n 0, 1) := by decide +kernel
theorem dX10_layFirst_9 : decode cX10_layFirst 9 = .ok (.getfield 7, 3) := by decide +kernel
theorem dX10_layFirst_12 : decode cX10_layFirst 12 = .ok (.bipush 9, 2) := by decide +kernel
theorem dX10_layFirst_14 : decode cX10_layFirst 14 = .ok (.iconst 0, 1) := by decide +kernel
theorem dX10_layFirst_15 : decode cX10_layFirst 15 = .ok (.iastore, 1) := by decide +kernel
theorem dX10_layFirst_16 : decode cX10_layFirst 16 = .ok (.aload_n 0, 1) := by decide +kernel
theorem dX10_layFirst_17 : decode cX10_layFirst 17 = .ok (.iconst 0, 1) := by decide +kernel
theorem dX10_layFirst_18 : decode cX10_layFirst 18 = .ok (.putfield 105, 3) := by decide +kernel
theorem dX10_layFirst_21 : decode cX10_layFirst 21 = .ok (.aload_n 0, 1) := by decide +kernel
theorem dX10_layFirst_22 : decode cX10_layFirst 22 = .ok (.iconst 0, 1) := by decide +kernel
theorem dX10_layFirst_23 : decode cX10_layFirst 23 = .ok (.putfield 186, 3) := by decide +kernel
theorem dX10_layFirst_26 : decode cX10_layFirst 26 = .ok (.aload_n 0, 1) := by decide +kernel
theorem dX10_layFirst_27 : decode cX10_layFirst 27 = .ok (.iconst 0, 1) := by decide +kernel
theorem dX10_layFirst_28 : decode cX10_layFirst 28 = .ok (.putfield 173, 3) := by decide +kernel
theorem dX10_layFirst_31 : decode cX10_layFirst 31 = .ok (.aload_n 0, 1) := by decide +kernel
theorem dX10_layFirst_32 : decode cX10_layFirst 32 = .ok (.invokevirtual 198, 3) := by decide +kernel
theorem dX10_layFirst_35 : decode cX10_layFirst 35 = .ok (.istore_n 1, 1) := by decide +kernel
theorem dX10_layFirst_36 : decode cX10_layFirst 36 = .ok (.aload_n 0, 1) := by decide +kernel
theorem dX10_layFirst_37 : decode cX10_layFirst 37 = .ok (.iconst 0, 1) := by decide +kernel
theorem dX10_layFirst_38 : decode cX10_layFirst 38 = .ok (.invokevirtual 201, 3) := by decide +kernel
theorem dX10_layFirst_41 : decode cX10_layFirst 41 = .ok (.aload_n 0, 1) := by decide +kernel
theorem dX10_layFirst_42 : decode cX10_layFirst 42 = .ok (.invokevirtual 205, 3) := by decide +kernel
theorem dX10_layFirst_45 : decode cX10_layFirst 45 = .ok (.aload_n 0, 1) := by decide +kernel
theorem dX10_layFirst_46 : decode cX10_layFirst 46 = .ok (.iload_n 1, 1) := by decide +kernel
theorem dX10_layFirst_47 : decode cX10_layFirst 47 = .ok (.ifCond .ge 7, 3) := by decide +kernel
theorem dX10_layFirst_50 : decode cX10_layFirst 50 = .ok (.iconst (-1), 1) := by decide +kernel
theorem dX10_layFirst_51 : decode cX10_layFirst 51 = .ok (.goto 4, 3) := by decide +kernel
theorem dX10_layFirst_54 : decode cX10_layFirst 54 = .ok (.iconst 0, 1) := by decide +kernel
theorem dX10_layFirst_55 : decode cX10_layFirst 55 = .ok (.putfield 180, 3) := by decide +kernel
theorem dX10_layFirst_58 : decode cX10_layFirst 58 = .ok (.aload_n 0, 1) := by decide +kernel
theorem dX10_layFirst_59 : decode cX10_layFirst 59 = .ok (.iconst 0, 1) := by decide +kernel
theorem dX10_layFirst_60 : decode cX10_layFirst 60 = .ok (.putfield 183, 3) := by decide +kernel
theorem dX10_layFirst_63 : decode cX10_layFirst 63 = .ok (.aload_n 0, 1) := by decide +kernel
theorem dX10_layFirst_64 : decode cX10_layFirst 64 = .ok (.iconst 0, 1) := by decide +kernel
theorem dX10_layFirst_65 : decode cX10_layFirst 65 = .ok (.putfield 195, 3) := by decide +kernel
theorem dX10_layFirst_68 : decode cX10_layFirst 68 = .ok (.return_, 1) := by decide +kernel
theorem dX10_isAlike_0 : decode cX10_isAlike 0 = .ok (.aload_n 0, 1) := by decide +kernel
theorem dX10_isAlike_1 : decode cX10_isAlike 1 = .ok (.invokevirtual 198, 3) := by decide +kernel
theorem dX10_isAlike_4 : decode cX10_isAlike 4 = .ok (.istore_n 1, 1) := by decide +kernel
theorem dX10_isAlike_5 : decode cX10_isAlike 5 = .ok (.iload_n 1, 1) := by decide +kernel
theorem dX10_isAlike_6 : decode cX10_isAlike 6 = .ok (.aload_n 0, 1) := by decide +kernel
theorem dX10_isAlike_7 : decode cX10_isAlike 7 = .ok (.getfield 44, 3) := by decide +kernel
theorem dX10_isAlike_10 : decode cX10_isAlike 10 = .ok (.iconst 0, 1) := by decide +kernel
theorem dX10_isAlike_11 : decode cX10_isAlike 11 = .ok (.iaload, 1) := by decide +kernel
theorem dX10_isAlike_12 : decode cX10_isAlike 12 = .ok (.if_icmp .ne 18, 3) := by decide +kernel
theorem dX10_isAlike_15 : decode cX10_isAlike 15 = .ok (.aload_n 0, 1) := by decide +kernel
theorem dX10_isAlike_16 : decode cX10_isAlike 16 = .ok (.getfield 118, 3) := by decide +kernel
theorem dX10_isAlike_19 : decode cX10_isAlike 19 = .ok (.aload_n 0, 1) := by decide +kernel
theorem dX10_isAlike_20 : decode cX10_isAlike 20 = .ok (.getfield 173, 3) := by decide +kernel
theorem dX10_isAlike_23 : decode cX10_isAlike 23 = .ok (.if_icmp .ne 7, 3) := by decide +kernel
theorem dX10_isAlike_26 : decode cX10_isAlike 26 = .ok (.iconst 1, 1) := by decide +kernel
theorem dX10_isAlike_27 : decode cX10_isAlike 27 = .ok (.goto 4, 3) := by decide +kernel
theorem dX10_isAlike_30 : decode cX10_isAlike 30 = .ok (.iconst 0, 1) := by decide +kernel
theorem dX10_isAlike_31 : decode cX10_isAlike 31 = .ok (.istore_n 2, 1) := by decide +kernel
theorem dX10_isAlike_32 : decode cX10_isAlike 32 = .ok (.iconst 0, 1) := by decide +kernel
theorem dX10_isAlike_33 : decode cX10_isAlike 33 = .ok (.istore_n 3, 1) := by decide +kernel
theorem dX10_isAlike_34 : decode cX10_isAlike 34 = .ok (.iload_n 3, 1) := by decide +kernel
theorem dX10_isAlike_35 : decode cX10_isAlike 35 = .ok (.aload_n 0, 1) := by decide +kernel
theorem dX10_isAlike_36 : decode cX10_isAlike 36 = .ok (.getfield 173, 3) := by decide +kernel
theorem dX10_isAlike_39 : decode cX10_isAlike 39 = .ok (.if_icmp .ge 79, 3) := by decide +kernel
theorem dX10_isAlike_42 : decode cX10_isAlike 42 = .ok (.iload_n 2, 1) := by decide +kernel
theorem dX10_isAlike_43 : decode cX10_isAlike 43 = .ok (.ifCond .eq 75, 3) := by decide +kernel
theorem dX10_isAlike_46 : decode cX10_isAlike 46 = .ok (.aload_n 0, 1) := by decide +kernel
theorem dX10_isAlike_47 : decode cX10_isAlike 47 = .ok (.getfield 38, 3) := by decide +kernel
theorem dX10_isAlike_50 : decode cX10_isAlike 50 = .ok (.iload_n 3, 1) := by decide +kernel
theorem dX10_isAlike_51 : decode cX10_isAlike 51 = .ok (.iaload, 1) := by decide +kernel
theorem dX10_isAlike_52 : decode cX10_isAlike 52 = .ok (.aload_n 0, 1) := by decide +kernel
theorem dX10_isAlike_53 : decode cX10_isAlike 53 = .ok (.getfield 62, 3) := by decide +kernel
theorem dX10_isAlike_56 : decode cX10_isAlike 56 = .ok (.iload_n 3, 1) := by decide +kernel
theorem dX10_isAlike_57 : decode cX10_isAlike 57 = .ok (.iaload, 1) := by decide +kernel
theorem dX10_isAlike_58 : decode cX10_isAlike 58 = .ok (.if_icmp .ne 52, 3) := by decide +kernel
theorem dX10_isAlike_61 : decode cX10_isAlike 61 = .ok (.aload_n 0, 1) := by decide +kernel
theorem dX10_isAlike_62 : decode cX10_isAlike 62 = .ok (.getfield 41, 3) := by decide +kernel
theorem dX10_isAlike_65 : decode cX10_isAlike 65 = .ok (.iload_n 3, 1) := by decide +kernel
theorem dX10_isAlike_66 : decode cX10_isAlike 66 = .ok (.iaload, 1) := by decide +kernel
theorem dX10_isAlike_67 : decode cX10_isAlike 67 = .ok (.aload_n 0, 1) := by decide +kernel
theorem dX10_isAlike_68 : decode cX10_isAlike 68 = .ok (.getfield 65, 3) := by decide +kernel
theorem dX10_isAlike_71 : decode cX10_isAlike 71 = .ok (.iload_n 3, 1) := by decide +kernel
theorem dX10_isAlike_72 : decode cX10_isAlike 72 = .ok (.iaload, 1) := by decide +kernel
theorem dX10_isAlike_73 : decode cX10_isAlike 73 = .ok (.if_icmp .ne 37, 3) := by decide +kernel
theorem dX10_isAlike_76 : decode cX10_isAlike 76 = .ok (.aload_n 0, 1) := by decide +kernel
theorem dX10_isAlike_77 : decode cX10_isAlike 77 = .ok (.getfield 44, 3) := by decide +kernel
theorem dX10_isAlike_80 : decode cX10_isAlike 80 = .ok (.iload_n 3, 1) := by decide +kernel
theorem dX10_isAlike_81 : decode cX10_isAlike 81 = .ok (.iaload, 1) := by decide +kernel
theorem dX10_isAlike_82 : decode cX10_isAlike 82 = .ok (.aload_n 0, 1) := by decide +kernel
theorem dX10_isAlike_83 : decode cX10_isAlike 83 = .ok (.getfield 68, 3) := by decide +kernel
theorem dX10_isAlike_86 : decode cX10_isAlike 86 = .ok (.iload_n 3, 1) := by decide +kernel
theorem dX10_isAlike_87 : decode cX10_isAlike 87 = .ok (.iaload, 1) := by decide +kernel
theorem dX10_isAlike_88 : decode cX10_isAlike 88 = .ok (.if_icmp .ne 22, 3) := by decide +kernel
theorem dX10_isAlike_91 : decode cX10_isAlike 91 = .ok (.aload_n 0, 1) := by decide +kernel
theorem dX10_isAlike_92 : decode cX10_isAlike 92 = .ok (.getfield 47, 3) := by decide +kernel
theorem dX10_isAlike_95 : decode cX10_isAlike 95 = .ok (.iload_n 3, 1) := by decide +kernel
theorem dX10_isAlike_96 : decode cX10_isAlike 96 = .ok (.iaload, 1) := by decide +kernel
theorem dX10_isAlike_97 : decode cX10_isAlike 97 = .ok (.aload_n 0, 1) := by decide +kernel
theorem dX10_isAlike_98 : decode cX10_isAlike 98 = .ok (.getfield 71, 3) := by decide +kernel
theorem dX10_isAlike_101 : decode cX10_isAlike 101 = .ok (.iload_n 3, 1) := by decide +kernel
theorem dX10_isAlike_102 : decode cX10_isAlike 102 = .ok (.iaload, 1) := by decide +kernel
theorem dX10_isAlike_103 : decode cX10_isAlike 103 = .ok (.if_icmp .ne 7, 3) := by decide +kernel
theorem dX10_isAlike_106 : decode cX10_isAlike 106 = .ok (.iconst 1, 1) := by decide +kernel
theorem dX10_isAlike_107 : decode cX10_isAlike 107 = .ok (.goto 4, 3) := by decide +kernel
theorem dX10_isAlike_110 : decode cX10_isAlike 110 = .ok (.iconst 0, 1) := by decide +kernel
theorem dX10_isAlike_111 : decode cX10_isAlike 111 = .ok (.istore_n 2, 1) := by decide +kernel
theorem dX10_isAlike_112 : decode cX10_isAlike 112 = .ok (.iinc 3 1, 3) := by decide +kernel
theorem dX10_isAlike_115 : decode cX10_isAlike 115 = .ok (.goto (-81), 3) := by decide +kernel
theorem dX10_isAlike_118 : decode cX10_isAlike 118 = .ok (.iload_n 2, 1) := by decide +kernel
theorem dX10_isAlike_119 : decode cX10_isAlike 119 = .ok (.ireturn, 1) := by decide +kernel
theorem dX10_isTerm_0 : decode cX10_isTerm 0 = .ok (.iload_n 0, 1) := by decide +kernel
theorem dX10_isTerm_1 : decode cX10_isTerm 1 = .ok (.i2l, 1) := by decide +kernel
theorem dX10_isTerm_2 : decode cX10_isTerm 2 = .ok (.ldc2_w 127, 3) := by decide +kernel
theorem dX10_isTerm_5 : decode cX10_isTerm 5 = .ok (.ldc2_w 129, 3) := by decide +kernel
theorem dX10_isTerm_8 : decode cX10_isTerm 8 = .ok (.invokestatic 131, 3) := by decide +kernel
theorem dX10_isTerm_11 : decode cX10_isTerm 11 = .ok (.ifCond .ne 16, 3) := by decide +kernel
theorem dX10_isTerm_14 : decode cX10_isTerm 14 = .ok (.iload_n 0, 1) := by decide +kernel
theorem dX10_isTerm_15 : decode cX10_isTerm 15 = .ok (.bipush 110, 2) := by decide +kernel
theorem dX10_isTerm_17 : decode cX10_isTerm 17 = .ok (.if_icmp .eq 10, 3) := by decide +kernel
theorem dX10_isTerm_20 : decode cX10_isTerm 20 = .ok (.iload_n 0, 1) := by decide +kernel
theorem dX10_isTerm_21 : decode cX10_isTerm 21 = .ok (.invokestatic 114, 3) := by decide +kernel
theorem dX10_isTerm_24 : decode cX10_isTerm 24 = .ok (.ifCond .le 7, 3) := by decide +kernel
theorem dX10_isTerm_27 : decode cX10_isTerm 27 = .ok (.iconst 1, 1) := by decide +kernel
theorem dX10_isTerm_28 : decode cX10_isTerm 28 = .ok (.goto 4, 3) := by decide +kernel
theorem dX10_isTerm_31 : decode cX10_isTerm 31 = .ok (.iconst 0, 1) := by decide +kernel
theorem dX10_isTerm_32 : decode cX10_isTerm 32 = .ok (.ireturn, 1) := by decide +kernel
theorem dX10_faultOf_0 : decode cX10_faultOf 0 = .ok (.aload_n 0, 1) := by decide +kernel
theorem dX10_faultOf_1 : decode cX10_faultOf 1 = .ok (.getfield 208, 3) := by decide +kernel
theorem dX10_faultOf_4 : decode cX10_faultOf 4 = .ok (.ifCond .eq 33, 3) := by decide +kernel
theorem dX10_faultOf_7 : decode cX10_faultOf 7 = .ok (.iload_n 1, 1) := by decide +kernel
theorem dX10_faultOf_8 : decode cX10_faultOf 8 = .ok (.i2l, 1) := by decide +kernel
theorem dX10_faultOf_9 : decode cX10_faultOf 9 = .ok (.ldc2_w 127, 3) := by decide +kernel
theorem dX10_faultOf_12 : decode cX10_faultOf 12 = .ok (.ldc2_w 129, 3) := by decide +kernel
theorem dX10_faultOf_15 : decode cX10_faultOf 15 = .ok (.invokestatic 131, 3) := by decide +kernel
theorem dX10_faultOf_18 : decode cX10_faultOf 18 = .ok (.ifCond .ne 7, 3) := by decide +kernel
theorem dX10_faultOf_21 : decode cX10_faultOf 21 = .ok (.iconst 1, 1) := by decide +kernel
theorem dX10_faultOf_22 : decode cX10_faultOf 22 = .ok (.goto 14, 3) := by decide +kernel
theorem dX10_faultOf_25 : decode cX10_faultOf 25 = .ok (.iload_n 1, 1) := by decide +kernel
theorem dX10_faultOf_26 : decode cX10_faultOf 26 = .ok (.bipush 52, 2) := by decide +kernel
theorem dX10_faultOf_28 : decode cX10_faultOf 28 = .ok (.if_icmp .le 7, 3) := by decide +kernel
theorem dX10_faultOf_31 : decode cX10_faultOf 31 = .ok (.iconst 2, 1) := by decide +kernel
theorem dX10_faultOf_32 : decode cX10_faultOf 32 = .ok (.goto 4, 3) := by decide +kernel
theorem dX10_faultOf_35 : decode cX10_faultOf 35 = .ok (.iconst 0, 1) := by decide +kernel
theorem dX10_faultOf_36 : decode cX10_faultOf 36 = .ok (.ireturn, 1) := by decide +kernel
theorem dX10_faultOf_37 : decode cX10_faultOf 37 = .ok (.aload_n 0, 1) := by decide +kernel
theorem dX10_faultOf_38 : decode cX10_faultOf 38 = .ok (.getfield 212, 3) := by decide +kernel
theorem dX10_faultOf_41 : decode cX10_faultOf 41 = .ok (.ifCond .ne 27, 3) := by decide +kernel
theorem dX10_faultOf_44 : decode cX10_faultOf 44 = .ok (.iload_n 1, 1) := by decide +kernel
theorem dX10_faultOf_45 : decode cX10_faultOf 45 = .ok (.bipush 100, 2) := by decide +kernel
theorem dX10_faultOf_47 : decode cX10_faultOf 47 = .ok (.if_icmp .eq 7, 3) := by decide +kernel
theorem dX10_faultOf_50 : decode cX10_faultOf 50 = .ok (.iconst 1, 1) := by decide +kernel
theorem dX10_faultOf_51 : decode cX10_faultOf 51 = .ok (.goto 16, 3) := by decide +kernel
theorem dX10_faultOf_54 : decode cX10_faultOf 54 = .ok (.aload_n 0, 1) := by decide +kernel
theorem dX10_faultOf_55 : decode cX10_faultOf 55 = .ok (.getfield 215, 3) := by decide +kernel
theorem dX10_faultOf_58 : decode cX10_faultOf 58 = .ok (.iconst 5, 1) := by decide +kernel
theorem dX10_faultOf_59 : decode cX10_faultOf 59 = .ok (.if_icmp .ne 7, 3) := by decide +kernel
theorem dX10_faultOf_62 : decode cX10_faultOf 62 = .ok (.iconst 3, 1) := by decide +kernel
theorem dX10_faultOf_63 : decode cX10_faultOf 63 = .ok (.goto 4, 3) := by decide +kernel
theorem dX10_faultOf_66 : decode cX10_faultOf 66 = .ok (.iconst 0, 1) := by decide +kernel
theorem dX10_faultOf_67 : decode cX10_faultOf 67 = .ok (.ireturn, 1) := by decide +kernel
theorem dX10_faultOf_68 : decode cX10_faultOf 68 = .ok (.aload_n 0, 1) := by decide +kernel
theorem dX10_faultOf_69 : decode cX10_faultOf 69 = .ok (.getfield 218, 3) := by decide +kernel
theorem dX10_faultOf_72 : decode cX10_faultOf 72 = .ok (.ifCond .ne 15, 3) := by decide +kernel
theorem dX10_faultOf_75 : decode cX10_faultOf 75 = .ok (.iload_n 1, 1) := by decide +kernel
theorem dX10_faultOf_76 : decode cX10_faultOf 76 = .ok (.bipush 59, 2) := by decide +kernel
theorem dX10_faultOf_78 : decode cX10_faultOf 78 = .ok (.if_icmp .ne 7, 3) := by decide +kernel
theorem dX10_faultOf_81 : decode cX10_faultOf 81 = .ok (.iconst 0, 1) := by decide +kernel
theorem dX10_faultOf_82 : decode cX10_faultOf 82 = .ok (.goto 4, 3) := by decide +kernel
theorem dX10_faultOf_85 : decode cX10_faultOf 85 = .ok (.iconst 1, 1) := by decide +kernel
theorem dX10_faultOf_86 : decode cX10_faultOf 86 = .ok (.ireturn, 1) := by decide +kernel
theorem dX10_faultOf_87 : decode cX10_faultOf 87 = .ok (.iload_n 1, 1) := by decide +kernel
theorem dX10_faultOf_88 : decode cX10_faultOf 88 = .ok (.invokestatic 221, 3) := by decide +kernel
theorem dX10_faultOf_91 : decode cX10_faultOf 91 = .ok (.ifCond .ne 7, 3) := by decide +kernel
theorem dX10_faultOf_94 : decode cX10_faultOf 94 = .ok (.iconst 1, 1) := by decide +kernel
theorem dX10_faultOf_95 : decode cX10_faultOf 95 = .ok (.goto 22, 3) := by decide +kernel
theorem dX10_faultOf_98 : decode cX10_faultOf 98 = .ok (.iload_n 1, 1) := by decide +kernel
theorem dX10_faultOf_99 : decode cX10_faultOf 99 = .ok (.bipush 102, 2) := by decide +kernel
theorem dX10_faultOf_101 : decode cX10_faultOf 101 = .ok (.if_icmp .ne 15, 3) := by decide +kernel
theorem dX10_faultOf_104 : decode cX10_faultOf 104 = .ok (.aload_n 0, 1) := by decide +kernel
theorem dX10_faultOf_105 : decode cX10_faultOf 105 = .ok (.getfield 224, 3) := by decide +kernel
theorem dX10_faultOf_108 : decode cX10_faultOf 108 = .ok (.iconst 3, 1) := by decide +kernel
theorem dX10_faultOf_109 : decode cX10_faultOf 109 = .ok (.if_icmp .ne 7, 3) := by decide +kernel
theorem dX10_faultOf_112 : decode cX10_faultOf 112 = .ok (.iconst 4, 1) := by decide +kernel
theorem dX10_faultOf_113 : decode cX10_faultOf 113 = .ok (.goto 4, 3) := by decide +kernel
theorem dX10_faultOf_116 : decode cX10_faultOf 116 = .ok (.iconst 0, 1) := by decide +kernel
theorem dX10_faultOf_117 : decode cX10_faultOf 117 = .ok (.ireturn, 1) := by decide +kernel
theorem dX10_goOn_0 : decode cX10_goOn 0 = .ok (.aload_n 0, 1) := by decide +kernel
theorem dX10_goOn_1 : decode cX10_goOn 1 = .ok (.getfield 208, 3) := by decide +kernel
theorem dX10_goOn_4 : decode cX10_goOn 4 = .ok (.ifCond .eq 11, 3) := by decide +kernel
theorem dX10_goOn_7 : decode cX10_goOn 7 = .ok (.aload_n 0, 1) := by decide +kernel
theorem dX10_goOn_8 : decode cX10_goOn 8 = .ok (.iconst 0, 1) := by decide +kernel
theorem dX10_goOn_9 : decode cX10_goOn 9 = .ok (.putfield 208, 3) := by decide +kernel
theorem dX10_goOn_12 : decode cX10_goOn 12 = .ok (.goto 103, 3) := by decide +kernel
theorem dX10_goOn_15 : decode cX10_goOn 15 = .ok (.aload_n 0, 1) := by decide +kernel
theorem dX10_goOn_16 : decode cX10_goOn 16 = .ok (.getfield 212, 3) := by decide +kernel
theorem dX10_goOn_19 : decode cX10_goOn 19 = .ok (.ifCond .ne 21, 3) := by decide +kernel
theorem dX10_goOn_22 : decode cX10_goOn 22 = .ok (.aload_n 0, 1) := by decide +kernel
theorem dX10_goOn_23 : decode cX10_goOn 23 = .ok (.iconst 1, 1) := by decide +kernel
theorem dX10_goOn_24 : decode cX10_goOn 24 = .ok (.putfield 212, 3) := by decide +kernel
theorem dX10_goOn_27 : decode cX10_goOn 27 = .ok (.aload_n 0, 1) := by decide +kernel
theorem dX10_goOn_28 : decode cX10_goOn 28 = .ok (.iconst 1, 1) := by decide +kernel
theorem dX10_goOn_29 : decode cX10_goOn 29 = .ok (.putfield 218, 3) := by decide +kernel
theorem dX10_goOn_32 : decode cX10_goOn 32 = .ok (.aload_n 0, 1) := by decide +kernel
theorem dX10_goOn_33 : decode cX10_goOn 33 = .ok (.iconst 0, 1) := by decide +kernel
theorem dX10_goOn_34 : decode cX10_goOn 34 = .ok (.putfield 224, 3) := by decide +kernel
theorem dX10_goOn_37 : decode cX10_goOn 37 = .ok (.goto 78, 3) := by decide +kernel
theorem dX10_goOn_40 : decode cX10_goOn 40 = .ok (.aload_n 0, 1) := by decide +kernel
theorem dX10_goOn_41 : decode cX10_goOn 41 = .ok (.getfield 218, 3) := by decide +kernel
theorem dX10_goOn_44 : decode cX10_goOn 44 = .ok (.ifCond .ne 21, 3) := by decide +kernel
theorem dX10_goOn_47 : decode cX10_goOn 47 = .ok (.aload_n 0, 1) := by decide +kernel
theorem dX10_goOn_48 : decode cX10_goOn 48 = .ok (.iconst 0, 1) := by decide +kernel
theorem dX10_goOn_49 : decode cX10_goOn 49 = .ok (.putfield 212, 3) := by decide +kernel
theorem dX10_goOn_52 : decode cX10_goOn 52 = .ok (.aload_n 0, 1) := by decide +kernel
theorem dX10_goOn_53 : decode cX10_goOn 53 = .ok (.dup, 1) := by decide +kernel
theorem dX10_goOn_54 : decode cX10_goOn 54 = .ok (.getfield 215, 3) := by decide +kernel
theorem dX10_goOn_57 : decode cX10_goOn 57 = .ok (.iconst 1, 1) := by decide +kernel
theorem dX10_goOn_58 : decode cX10_goOn 58 = .ok (.iadd, 1) := by decide +kernel
theorem dX10_goOn_59 : decode cX10_goOn 59 = .ok (.putfield 215, 3) := by decide +kernel
theorem dX10_goOn_62 : decode cX10_goOn 62 = .ok (.goto 53, 3) := by decide +kernel
theorem dX10_goOn_65 : decode cX10_goOn 65 = .ok (.aload_n 0, 1) := by decide +kernel
theorem dX10_goOn_66 : decode cX10_goOn 66 = .ok (.dup, 1) := by decide +kernel
theorem dX10_goOn_67 : decode cX10_goOn 67 = .ok (.getfield 218, 3) := by decide +kernel
theorem dX10_goOn_70 : decode cX10_goOn 70 = .ok (.iload_n 1, 1) := by decide +kernel
theorem dX10_goOn_71 : decode cX10_goOn 71 = .ok (.invokestatic 114, 3) := by decide +kernel
theorem dX10_goOn_74 : decode cX10_goOn 74 = .ok (.iconst 1, 1) := by decide +kernel
theorem dX10_goOn_75 : decode cX10_goOn 75 = .ok (.isub, 1) := by decide +kernel
theorem dX10_goOn_76 : decode cX10_goOn 76 = .ok (.iadd, 1) := by decide +kernel
theorem dX10_goOn_77 : decode cX10_goOn 77 = .ok (.putfield 218, 3) := by decide +kernel
theorem dX10_goOn_80 : decode cX10_goOn 80 = .ok (.aload_n 0, 1) := by decide +kernel
theorem dX10_goOn_81 : decode cX10_goOn 81 = .ok (.iload_n 1, 1) := by decide +kernel
theorem dX10_goOn_82 : decode cX10_goOn 82 = .ok (.bipush 102, 2) := by decide +kernel
theorem dX10_goOn_84 : decode cX10_goOn 84 = .ok (.if_icmp .ne 7, 3) := by decide +kernel
theorem dX10_goOn_87 : decode cX10_goOn 87 = .ok (.iconst 1, 1) := by decide +kernel
theorem dX10_goOn_88 : decode cX10_goOn 88 = .ok (.goto 4, 3) := by decide +kernel
theorem dX10_goOn_91 : decode cX10_goOn 91 = .ok (.iconst 0, 1) := by decide +kernel
theorem dX10_goOn_92 : decode cX10_goOn 92 = .ok (.putfield 208, 3) := by decide +kernel
theorem dX10_goOn_95 : decode cX10_goOn 95 = .ok (.aload_n 0, 1) := by decide +kernel
theorem dX10_goOn_96 : decode cX10_goOn 96 = .ok (.dup, 1) := by decide +kernel
theorem dX10_goOn_97 : decode cX10_goOn 97 = .ok (.getfield 224, 3) := by decide +kernel
theorem dX10_goOn_100 : decode cX10_goOn 100 = .ok (.iload_n 1, 1) := by decide +kernel
theorem dX10_goOn_101 : decode cX10_goOn 101 = .ok (.bipush 102, 2) := by decide +kernel
theorem dX10_goOn_103 : decode cX10_goOn 103 = .ok (.if_icmp .ne 7, 3) := by decide +kernel
theorem dX10_goOn_106 : decode cX10_goOn 106 = .ok (.iconst 1, 1) := by decide +kernel
theorem dX10_goOn_107 : decode cX10_goOn 107 = .ok (.goto 4, 3) := by decide +kernel
theorem dX10_goOn_110 : decode cX10_goOn 110 = .ok (.iconst 0, 1) := by decide +kernel
theorem dX10_goOn_111 : decode cX10_goOn 111 = .ok (.iadd, 1) := by decide +kernel
theorem dX10_goOn_112 : decode cX10_goOn 112 = .ok (.putfield 224, 3) := by decide +kernel
theorem dX10_goOn_115 : decode cX10_goOn 115 = .ok (.return_, 1) := by decide +kernel
theorem dX10_readText_0 : decode cX10_readText 0 = .ok (.aload_n 0, 1) := by decide +kernel
theorem dX10_readText_1 : decode cX10_readText 1 = .ok (.iconst 0, 1) := by decide +kernel
theorem dX10_readText_2 : decode cX10_readText 2 = .ok (.putfield 218, 3) := by decide +kernel
theorem dX10_readText_5 : decode cX10_readText 5 = .ok (.aload_n 0, 1) := by decide +kernel
theorem dX10_readText_6 : decode cX10_readText 6 = .ok (.iconst 0, 1) := by decide +kernel
theorem dX10_readText_7 : decode cX10_readText 7 = .ok (.putfield 208, 3) := by decide +kernel
theorem dX10_readText_10 : decode cX10_readText 10 = .ok (.aload_n 0, 1) := by decide +kernel
theorem dX10_readText_11 : decode cX10_readText 11 = .ok (.iconst 0, 1) := by decide +kernel
theorem dX10_readText_12 : decode cX10_readText 12 = .ok (.putfield 212, 3) := by decide +kernel
theorem dX10_readText_15 : decode cX10_readText 15 = .ok (.aload_n 0, 1) := by decide +kernel
theorem dX10_readText_16 : decode cX10_readText 16 = .ok (.iconst 0, 1) := by decide +kernel
theorem dX10_readText_17 : decode cX10_readText 17 = .ok (.putfield 215, 3) := by decide +kernel
theorem dX10_readText_20 : decode cX10_readText 20 = .ok (.iconst 0, 1) := by decide +kernel
theorem dX10_readText_21 : decode cX10_readText 21 = .ok (.istore_n 1, 1) := by decide +kernel
theorem dX10_readText_22 : decode cX10_readText 22 = .ok (.iload_n 1, 1) := by decide +kernel
theorem dX10_readText_23 : decode cX10_readText 23 = .ok (.aload_n 0, 1) := by decide +kernel
theorem dX10_readText_24 : decode cX10_readText 24 = .ok (.getfield 227, 3) := by decide +kernel
theorem dX10_readText_27 : decode cX10_readText 27 = .ok (.if_icmp .ge 52, 3) := by decide +kernel
theorem dX10_readText_30 : decode cX10_readText 30 = .ok (.aload_n 0, 1) := by decide +kernel
theorem dX10_readText_31 : decode cX10_readText 31 = .ok (.getfield 16, 3) := by decide +kernel
theorem dX10_readText_34 : decode cX10_readText 34 = .ok (.iload_n 1, 1) := by decide +kernel
theorem dX10_readText_35 : decode cX10_readText 35 = .ok (.iaload, 1) := by decide +kernel
theorem dX10_readText_36 : decode cX10_readText 36 = .ok (.bipush 32, 2) := by decide +kernel
theorem dX10_readText_38 : decode cX10_readText 38 = .ok (.if_icmp .eq 35, 3) := by decide +kernel
theorem dX10_readText_41 : decode cX10_readText 41 = .ok (.aload_n 0, 1) := by decide +kernel
theorem dX10_readText_42 : decode cX10_readText 42 = .ok (.aload_n 0, 1) := by decide +kernel
theorem dX10_readText_43 : decode cX10_readText 43 = .ok (.getfield 16, 3) := by decide +kernel
theorem dX10_readText_46 : decode cX10_readText 46 = .ok (.iload_n 1, 1) := by decide +kernel
theorem dX10_readText_47 : decode cX10_readText 47 = .ok (.iaload, 1) := by decide +kernel
theorem dX10_readText_48 : decode cX10_readText 48 = .ok (.invokevirtual 230, 3) := by decide +kernel
theorem dX10_readText_51 : decode cX10_readText 51 = .ok (.istore_n 2, 1) := by decide +kernel
theorem dX10_readText_52 : decode cX10_readText 52 = .ok (.iload_n 2, 1) := by decide +kernel
theorem dX10_readText_53 : decode cX10_readText 53 = .ok (.ifCond .le 10, 3) := by decide +kernel
theorem dX10_readText_56 : decode cX10_readText 56 = .ok (.aload_n 0, 1) := by decide +kernel
theorem dX10_readText_57 : decode cX10_readText 57 = .ok (.iload_n 1, 1) := by decide +kernel
theorem dX10_readText_58 : decode cX10_readText 58 = .ok (.putfield 19, 3) := by decide +kernel
theorem dX10_readText_61 : decode cX10_readText 61 = .ok (.iload_n 2, 1) := by decide +kernel
theorem dX10_readText_62 : decode cX10_readText 62 = .ok (.ireturn, 1) := by decide +kernel
theorem dX10_readText_63 : decode cX10_readText 63 = .ok (.aload_n 0, 1) := by decide +kernel
theorem dX10_readText_64 : decode cX10_readText 64 = .ok (.aload_n 0, 1) := by decide +kernel
theorem dX10_readText_65 : decode cX10_readText 65 = .ok (.getfield 16, 3) := by decide +kernel
theorem dX10_readText_68 : decode cX10_readText 68 = .ok (.iload_n 1, 1) := by decide +kernel
theorem dX10_readText_69 : decode cX10_readText 69 = .ok (.iaload, 1) := by decide +kernel
theorem dX10_readText_70 : decode cX10_readText 70 = .ok (.invokevirtual 233, 3) := by decide +kernel
theorem dX10_readText_73 : decode cX10_readText 73 = .ok (.iinc 1 1, 3) := by decide +kernel
theorem dX10_readText_76 : decode cX10_readText 76 = .ok (.goto (-54), 3) := by decide +kernel
theorem dX10_readText_79 : decode cX10_readText 79 = .ok (.aload_n 0, 1) := by decide +kernel
theorem dX10_readText_80 : decode cX10_readText 80 = .ok (.getfield 212, 3) := by decide +kernel
theorem dX10_readText_83 : decode cX10_readText 83 = .ok (.ifCond .ne 14, 3) := by decide +kernel
theorem dX10_readText_86 : decode cX10_readText 86 = .ok (.aload_n 0, 1) := by decide +kernel
theorem dX10_readText_87 : decode cX10_readText 87 = .ok (.getfield 215, 3) := by decide +kernel
theorem dX10_readText_90 : decode cX10_readText 90 = .ok (.ifCond .le 7, 3) := by decide +kernel
theorem dX10_readText_93 : decode cX10_readText 93 = .ok (.iconst 1, 1) := by decide +kernel
theorem dX10_readText_94 : decode cX10_readText 94 = .ok (.goto 4, 3) := by decide +kernel
theorem dX10_readText_97 : decode cX10_readText 97 = .ok (.iconst 0, 1) := by decide +kernel
theorem dX10_readText_98 : decode cX10_readText 98 = .ok (.istore_n 1, 1) := by decide +kernel
theorem dX10_readText_99 : decode cX10_readText 99 = .ok (.aload_n 0, 1) := by decide +kernel
theorem dX10_readText_100 : decode cX10_readText 100 = .ok (.iload_n 1, 1) := by decide +kernel
theorem dX10_readText_101 : decode cX10_readText 101 = .ok (.ifCond .eq 7, 3) := by decide +kernel
theorem dX10_readText_104 : decode cX10_readText 104 = .ok (.iconst (-1), 1) := by decide +kernel
theorem dX10_readText_105 : decode cX10_readText 105 = .ok (.goto 7, 3) := by decide +kernel
theorem dX10_readText_108 : decode cX10_readText 108 = .ok (.aload_n 0, 1) := by decide +kernel
theorem dX10_readText_109 : decode cX10_readText 109 = .ok (.getfield 227, 3) := by decide +kernel
theorem dX10_readText_112 : decode cX10_readText 112 = .ok (.putfield 19, 3) := by decide +kernel
theorem dX10_readText_115 : decode cX10_readText 115 = .ok (.iload_n 1, 1) := by decide +kernel
theorem dX10_readText_116 : decode cX10_readText 116 = .ok (.ifCond .eq 7, 3) := by decide +kernel
theorem dX10_readText_119 : decode cX10_readText 119 = .ok (.iconst 0, 1) := by decide +kernel
theorem dX10_readText_120 : decode cX10_readText 120 = .ok (.goto 4, 3) := by decide +kernel
theorem dX10_readText_123 : decode cX10_readText 123 = .ok (.iconst 1, 1) := by decide +kernel
theorem dX10_readText_124 : decode cX10_readText 124 = .ok (.ireturn, 1) := by decide +kernel
theorem dX10_layCode_0 : decode cX10_layCode 0 = .ok (.iconst 0, 1) := by decide +kernel
theorem dX10_layCode_1 : decode cX10_layCode 1 = .ok (.istore_n 1, 1) := by decide +kernel
theorem dX10_layCode_2 : decode cX10_layCode 2 = .ok (.iconst 0, 1) := by decide +kernel
theorem dX10_layCode_3 : decode cX10_layCode 3 = .ok (.istore_n 2, 1) := by decide +kernel
theorem dX10_layCode_4 : decode cX10_layCode 4 = .ok (.iconst 0, 1) := by decide +kernel
theorem dX10_layCode_5 : decode cX10_layCode 5 = .ok (.istore_n 3, 1) := by decide +kernel
theorem dX10_layCode_6 : decode cX10_layCode 6 = .ok (.iload_n 3, 1) := by decide +kernel
theorem dX10_layCode_7 : decode cX10_layCode 7 = .ok (.aload_n 0, 1) := by decide +kernel
theorem dX10_layCode_8 : decode cX10_layCode 8 = .ok (.getfield 227, 3) := by decide +kernel
theorem dX10_layCode_11 : decode cX10_layCode 11 = .ok (.if_icmp .ge 56, 3) := by decide +kernel
theorem dX10_layCode_14 : decode cX10_layCode 14 = .ok (.aload_n 0, 1) := by decide +kernel
theorem dX10_layCode_15 : decode cX10_layCode 15 = .ok (.getfield 16, 3) := by decide +kernel
theorem dX10_layCode_18 : decode cX10_layCode 18 = .ok (.iload_n 3, 1) := by decide +kernel
theorem dX10_layCode_19 : decode cX10_layCode 19 = .ok (.iaload, 1) := by decide +kernel
theorem dX10_layCode_20 : decode cX10_layCode 20 = .ok (.bipush 32, 2) := by decide +kernel
theorem dX10_layCode_22 : decode cX10_layCode 22 = .ok (.if_icmp .eq 39, 3) := by decide +kernel
theorem dX10_layCode_25 : decode cX10_layCode 25 = .ok (.aload_n 0, 1) := by decide +kernel
theorem dX10_layCode_26 : decode cX10_layCode 26 = .ok (.getfield 32, 3) := by decide +kernel
theorem dX10_layCode_29 : decode cX10_layCode 29 = .ok (.iload_n 1, 1) := by decide +kernel
theorem dX10_layCode_30 : decode cX10_layCode 30 = .ok (.aload_n 0, 1) := by decide +kernel
theorem dX10_layCode_31 : decode cX10_layCode 31 = .ok (.getfield 16, 3) := by decide +kernel
theorem dX10_layCode_34 : decode cX10_layCode 34 = .ok (.iload_n 3, 1) := by decide +kernel
theorem dX10_layCode_35 : decode cX10_layCode 35 = .ok (.iaload, 1) := by decide +kernel
theorem dX10_layCode_36 : decode cX10_layCode 36 = .ok (.iastore, 1) := by decide +kernel
theorem dX10_layCode_37 : decode cX10_layCode 37 = .ok (.iinc 1 1, 3) := by decide +kernel
theorem dX10_layCode_40 : decode cX10_layCode 40 = .ok (.aload_n 0, 1) := by decide +kernel
theorem dX10_layCode_41 : decode cX10_layCode 41 = .ok (.getfield 16, 3) := by decide +kernel
theorem dX10_layCode_44 : decode cX10_layCode 44 = .ok (.iload_n 3, 1) := by decide +kernel
theorem dX10_layCode_45 : decode cX10_layCode 45 = .ok (.iaload, 1) := by decide +kernel
theorem dX10_layCode_46 : decode cX10_layCode 46 = .ok (.bipush 100, 2) := by decide +kernel
theorem dX10_layCode_48 : decode cX10_layCode 48 = .ok (.if_icmp .ne 13, 3) := by decide +kernel
theorem dX10_layCode_51 : decode cX10_layCode 51 = .ok (.aload_n 0, 1) := by decide +kernel
theorem dX10_layCode_52 : decode cX10_layCode 52 = .ok (.getfield 35, 3) := by decide +kernel
theorem dX10_layCode_55 : decode cX10_layCode 55 = .ok (.iload_n 2, 1) := by decide +kernel
theorem dX10_layCode_56 : decode cX10_layCode 56 = .ok (.iload_n 1, 1) := by decide +kernel
theorem dX10_layCode_57 : decode cX10_layCode 57 = .ok (.iastore, 1) := by decide +kernel
theorem dX10_layCode_58 : decode cX10_layCode 58 = .ok (.iinc 2 1, 3) := by decide +kernel
theorem dX10_layCode_61 : decode cX10_layCode 61 = .ok (.iinc 3 1, 3) := by decide +kernel
theorem dX10_layCode_64 : decode cX10_layCode 64 = .ok (.goto (-58), 3) := by decide +kernel
theorem dX10_layCode_67 : decode cX10_layCode 67 = .ok (.aload_n 0, 1) := by decide +kernel
theorem dX10_layCode_68 : decode cX10_layCode 68 = .ok (.iload_n 2, 1) := by decide +kernel
theorem dX10_layCode_69 : decode cX10_layCode 69 = .ok (.putfield 95, 3) := by decide +kernel
theorem dX10_layCode_72 : decode cX10_layCode 72 = .ok (.return_, 1) := by decide +kernel
theorem dX10_feed_0 : decode cX10_feed 0 = .ok (.iload_n 1, 1) := by decide +kernel
theorem dX10_feed_1 : decode cX10_feed 1 = .ok (.i2l, 1) := by decide +kernel
theorem dX10_feed_2 : decode cX10_feed 2 = .ok (.lconst 0, 1) := by decide +kernel
theorem dX10_feed_3 : decode cX10_feed 3 = .ok (.ldc2_w 237, 3) := by decide +kernel
theorem dX10_feed_6 : decode cX10_feed 6 = .ok (.invokestatic 131, 3) := by decide +kernel
theorem dX10_feed_9 : decode cX10_feed 9 = .ok (.ifCond .ne 6, 3) := by decide +kernel
theorem dX10_feed_12 : decode cX10_feed 12 = .ok (.ldc 239, 2) := by decide +kernel
theorem dX10_feed_14 : decode cX10_feed 14 = .ok (.ireturn, 1) := by decide +kernel
theorem dX10_feed_15 : decode cX10_feed 15 = .ok (.aload_n 0, 1) := by decide +kernel
theorem dX10_feed_16 : decode cX10_feed 16 = .ok (.getfield 227, 3) := by decide +kernel
theorem dX10_feed_19 : decode cX10_feed 19 = .ok (.sipush 160, 3) := by decide +kernel
theorem dX10_feed_22 : decode cX10_feed 22 = .ok (.if_icmp .ne 6, 3) := by decide +kernel
theorem dX10_feed_25 : decode cX10_feed 25 = .ok (.ldc 240, 2) := by decide +kernel
theorem dX10_feed_27 : decode cX10_feed 27 = .ok (.ireturn, 1) := by decide +kernel
theorem dX10_feed_28 : decode cX10_feed 28 = .ok (.aload_n 0, 1) := by decide +kernel
theorem dX10_feed_29 : decode cX10_feed 29 = .ok (.getfield 16, 3) := by decide +kernel
theorem dX10_feed_32 : decode cX10_feed 32 = .ok (.aload_n 0, 1) := by decide +kernel
theorem dX10_feed_33 : decode cX10_feed 33 = .ok (.getfield 227, 3) := by decide +kernel
theorem dX10_feed_36 : decode cX10_feed 36 = .ok (.iload_n 1, 1) := by decide +kernel
theorem dX10_feed_37 : decode cX10_feed 37 = .ok (.iastore, 1) := by decide +kernel
theorem dX10_feed_38 : decode cX10_feed 38 = .ok (.aload_n 0, 1) := by decide +kernel
theorem dX10_feed_39 : decode cX10_feed 39 = .ok (.dup, 1) := by decide +kernel
theorem dX10_feed_40 : decode cX10_feed 40 = .ok (.getfield 227, 3) := by decide +kernel
theorem dX10_feed_43 : decode cX10_feed 43 = .ok (.iconst 1, 1) := by decide +kernel
theorem dX10_feed_44 : decode cX10_feed 44 = .ok (.iadd, 1) := by decide +kernel
theorem dX10_feed_45 : decode cX10_feed 45 = .ok (.putfield 227, 3) := by decide +kernel
theorem dX10_feed_48 : decode cX10_feed 48 = .ok (.aload_n 0, 1) := by decide +kernel
theorem dX10_feed_49 : decode cX10_feed 49 = .ok (.getfield 227, 3) := by decide +kernel
theorem dX10_feed_52 : decode cX10_feed 52 = .ok (.ireturn, 1) := by decide +kernel
theorem dX10_functions_0 : decode cX10_functions 0 = .ok (.aload_n 0, 1) := by decide +kernel
theorem dX10_functions_1 : decode cX10_functions 1 = .ok (.invokevirtual 241, 3) := by decide +kernel
theorem dX10_functions_4 : decode cX10_functions 4 = .ok (.istore_n 1, 1) := by decide +kernel
theorem dX10_functions_5 : decode cX10_functions 5 = .ok (.iload_n 1, 1) := by decide +kernel
theorem dX10_functions_6 : decode cX10_functions 6 = .ok (.ifCond .ne 11, 3) := by decide +kernel
theorem dX10_functions_9 : decode cX10_functions 9 = .ok (.aload_n 0, 1) := by decide +kernel
theorem dX10_functions_10 : decode cX10_functions 10 = .ok (.invokevirtual 244, 3) := by decide +kernel
theorem dX10_functions_13 : decode cX10_functions 13 = .ok (.aload_n 0, 1) := by decide +kernel
theorem dX10_functions_14 : decode cX10_functions 14 = .ok (.invokevirtual 98, 3) := by decide +kernel
theorem dX10_functions_17 : decode cX10_functions 17 = .ok (.aload_n 0, 1) := by decide +kernel
theorem dX10_functions_18 : decode cX10_functions 18 = .ok (.iconst 0, 1) := by decide +kernel
theorem dX10_functions_19 : decode cX10_functions 19 = .ok (.putfield 227, 3) := by decide +kernel
theorem dX10_functions_22 : decode cX10_functions 22 = .ok (.iload_n 1, 1) := by decide +kernel
theorem dX10_functions_23 : decode cX10_functions 23 = .ok (.ifCond .le 10, 3) := by decide +kernel
theorem dX10_functions_26 : decode cX10_functions 26 = .ok (.bipush (-10), 2) := by decide +kernel
theorem dX10_functions_28 : decode cX10_functions 28 = .ok (.iload_n 1, 1) := by decide +kernel
theorem dX10_functions_29 : decode cX10_functions 29 = .ok (.isub, 1) := by decide +kernel
theorem dX10_functions_30 : decode cX10_functions 30 = .ok (.goto 7, 3) := by decide +kernel
theorem dX10_functions_33 : decode cX10_functions 33 = .ok (.aload_n 0, 1) := by decide +kernel
theorem dX10_functions_34 : decode cX10_functions 34 = .ok (.getfield 95, 3) := by decide +kernel
theorem dX10_functions_37 : decode cX10_functions 37 = .ok (.ireturn, 1) := by decide +kernel
theorem dX10_fault_0 : decode cX10_fault 0 = .ok (.aload_n 0, 1) := by decide +kernel
theorem dX10_fault_1 : decode cX10_fault 1 = .ok (.getfield 19, 3) := by decide +kernel
theorem dX10_fault_4 : decode cX10_fault 4 = .ok (.ireturn, 1) := by decide +kernel
theorem dX10_deepest_0 : decode cX10_deepest 0 = .ok (.iconst 0, 1) := by decide +kernel
theorem dX10_deepest_1 : decode cX10_deepest 1 = .ok (.istore_n 1, 1) := by decide +kernel
theorem dX10_deepest_2 : decode cX10_deepest 2 = .ok (.iconst 0, 1) := by decide +kernel
theorem dX10_deepest_3 : decode cX10_deepest 3 = .ok (.istore_n 2, 1) := by decide +kernel
theorem dX10_deepest_4 : decode cX10_deepest 4 = .ok (.iload_n 2, 1) := by decide +kernel
theorem dX10_deepest_5 : decode cX10_deepest 5 = .ok (.aload_n 0, 1) := by decide +kernel
theorem dX10_deepest_6 : decode cX10_deepest 6 = .ok (.getfield 173, 3) := by decide +kernel
theorem dX10_deepest_9 : decode cX10_deepest 9 = .ok (.if_icmp .ge 30, 3) := by decide +kernel
theorem dX10_deepest_12 : decode cX10_deepest 12 = .ok (.aload_n 0, 1) := by decide +kernel
theorem dX10_deepest_13 : decode cX10_deepest 13 = .ok (.getfield 47, 3) := by decide +kernel
theorem dX10_deepest_16 : decode cX10_deepest 16 = .ok (.iload_n 2, 1) := by decide +kernel
theorem dX10_deepest_17 : decode cX10_deepest 17 = .ok (.iaload, 1) := by decide +kernel
theorem dX10_deepest_18 : decode cX10_deepest 18 = .ok (.iload_n 1, 1) := by decide +kernel
theorem dX10_deepest_19 : decode cX10_deepest 19 = .ok (.if_icmp .le 12, 3) := by decide +kernel
theorem dX10_deepest_22 : decode cX10_deepest 22 = .ok (.aload_n 0, 1) := by decide +kernel
theorem dX10_deepest_23 : decode cX10_deepest 23 = .ok (.getfield 47, 3) := by decide +kernel
theorem dX10_deepest_26 : decode cX10_deepest 26 = .ok (.iload_n 2, 1) := by decide +kernel
theorem dX10_deepest_27 : decode cX10_deepest 27 = .ok (.iaload, 1) := by decide +kernel
theorem dX10_deepest_28 : decode cX10_deepest 28 = .ok (.goto 4, 3) := by decide +kernel
theorem dX10_deepest_31 : decode cX10_deepest 31 = .ok (.iload_n 1, 1) := by decide +kernel
theorem dX10_deepest_32 : decode cX10_deepest 32 = .ok (.istore_n 1, 1) := by decide +kernel
theorem dX10_deepest_33 : decode cX10_deepest 33 = .ok (.iinc 2 1, 3) := by decide +kernel
theorem dX10_deepest_36 : decode cX10_deepest 36 = .ok (.goto (-32), 3) := by decide +kernel
theorem dX10_deepest_39 : decode cX10_deepest 39 = .ok (.iload_n 1, 1) := by decide +kernel
theorem dX10_deepest_40 : decode cX10_deepest 40 = .ok (.ireturn, 1) := by decide +kernel
theorem dX10_oldMany_0 : decode cX10_oldMany 0 = .ok (.iconst 0, 1) := by decide +kernel
theorem dX10_oldMany_1 : decode cX10_oldMany 1 = .ok (.istore_n 1, 1) := by decide +kernel
theorem dX10_oldMany_2 : decode cX10_oldMany 2 = .ok (.iconst 0, 1) := by decide +kernel
theorem dX10_oldMany_3 : decode cX10_oldMany 3 = .ok (.istore_n 2, 1) := by decide +kernel
theorem dX10_oldMany_4 : decode cX10_oldMany 4 = .ok (.iload_n 2, 1) := by decide +kernel
theorem dX10_oldMany_5 : decode cX10_oldMany 5 = .ok (.aload_n 0, 1) := by decide +kernel
theorem dX10_oldMany_6 : decode cX10_oldMany 6 = .ok (.getfield 173, 3) := by decide +kernel
theorem dX10_oldMany_9 : decode cX10_oldMany 9 = .ok (.if_icmp .ge 25, 3) := by decide +kernel
theorem dX10_oldMany_12 : decode cX10_oldMany 12 = .ok (.iload_n 1, 1) := by decide +kernel
theorem dX10_oldMany_13 : decode cX10_oldMany 13 = .ok (.aload_n 0, 1) := by decide +kernel
theorem dX10_oldMany_14 : decode cX10_oldMany 14 = .ok (.iload_n 2, 1) := by decide +kernel
theorem dX10_oldMany_15 : decode cX10_oldMany 15 = .ok (.invokevirtual 169, 3) := by decide +kernel
theorem dX10_oldMany_18 : decode cX10_oldMany 18 = .ok (.ifCond .eq 7, 3) := by decide +kernel
theorem dX10_oldMany_21 : decode cX10_oldMany 21 = .ok (.iconst 1, 1) := by decide +kernel
theorem dX10_oldMany_22 : decode cX10_oldMany 22 = .ok (.goto 4, 3) := by decide +kernel
theorem dX10_oldMany_25 : decode cX10_oldMany 25 = .ok (.iconst 0, 1) := by decide +kernel
theorem dX10_oldMany_26 : decode cX10_oldMany 26 = .ok (.iadd, 1) := by decide +kernel
theorem dX10_oldMany_27 : decode cX10_oldMany 27 = .ok (.istore_n 1, 1) := by decide +kernel
theorem dX10_oldMany_28 : decode cX10_oldMany 28 = .ok (.iinc 2 1, 3) := by decide +kernel
theorem dX10_oldMany_31 : decode cX10_oldMany 31 = .ok (.goto (-27), 3) := by decide +kernel
theorem dX10_oldMany_34 : decode cX10_oldMany 34 = .ok (.iload_n 1, 1) := by decide +kernel
theorem dX10_oldMany_35 : decode cX10_oldMany 35 = .ok (.ireturn, 1) := by decide +kernel
theorem dX10_bears_0 : decode cX10_bears 0 = .ok (.iconst 0, 1) := by decide +kernel
theorem dX10_bears_1 : decode cX10_bears 1 = .ok (.istore_n 1, 1) := by decide +kernel
theorem dX10_bears_2 : decode cX10_bears 2 = .ok (.iconst 0, 1) := by decide +kernel
theorem dX10_bears_3 : decode cX10_bears 3 = .ok (.istore_n 2, 1) := by decide +kernel
theorem dX10_bears_4 : decode cX10_bears 4 = .ok (.iload_n 2, 1) := by decide +kernel
theorem dX10_bears_5 : decode cX10_bears 5 = .ok (.aload_n 0, 1) := by decide +kernel
theorem dX10_bears_6 : decode cX10_bears 6 = .ok (.getfield 173, 3) := by decide +kernel
theorem dX10_bears_9 : decode cX10_bears 9 = .ok (.if_icmp .ge 18, 3) := by decide +kernel
theorem dX10_bears_12 : decode cX10_bears 12 = .ok (.iload_n 1, 1) := by decide +kernel
theorem dX10_bears_13 : decode cX10_bears 13 = .ok (.aload_n 0, 1) := by decide +kernel
theorem dX10_bears_14 : decode cX10_bears 14 = .ok (.getfield 50, 3) := by decide +kernel
theorem dX10_bears_17 : decode cX10_bears 17 = .ok (.iload_n 2, 1) := by decide +kernel
theorem dX10_bears_18 : decode cX10_bears 18 = .ok (.iaload, 1) := by decide +kernel
theorem dX10_bears_19 : decode cX10_bears 19 = .ok (.ior, 1) := by decide +kernel
theorem dX10_bears_20 : decode cX10_bears 20 = .ok (.istore_n 1, 1) := by decide +kernel
theorem dX10_bears_21 : decode cX10_bears 21 = .ok (.iinc 2 1, 3) := by decide +kernel
theorem dX10_bears_24 : decode cX10_bears 24 = .ok (.goto (-20), 3) := by decide +kernel
theorem dX10_bears_27 : decode cX10_bears 27 = .ok (.iload_n 1, 1) := by decide +kernel
theorem dX10_bears_28 : decode cX10_bears 28 = .ok (.ireturn, 1) := by decide +kernel
theorem dX10_wrong_0 : decode cX10_wrong 0 = .ok (.iconst 0, 1) := by decide +kernel
theorem dX10_wrong_1 : decode cX10_wrong 1 = .ok (.istore_n 1, 1) := by decide +kernel
theorem dX10_wrong_2 : decode cX10_wrong 2 = .ok (.iload_n 1, 1) := by decide +kernel
theorem dX10_wrong_3 : decode cX10_wrong 3 = .ok (.aload_n 0, 1) := by decide +kernel
theorem dX10_wrong_4 : decode cX10_wrong 4 = .ok (.getfield 247, 3) := by decide +kernel
theorem dX10_wrong_7 : decode cX10_wrong 7 = .ok (.if_icmp .ge 36, 3) := by decide +kernel
theorem dX10_wrong_10 : decode cX10_wrong 10 = .ok (.aload_n 0, 1) := by decide +kernel
theorem dX10_wrong_11 : decode cX10_wrong 11 = .ok (.aload_n 0, 1) := by decide +kernel
theorem dX10_wrong_12 : decode cX10_wrong 12 = .ok (.getfield 23, 3) := by decide +kernel
theorem dX10_wrong_15 : decode cX10_wrong 15 = .ok (.iload_n 1, 1) := by decide +kernel
theorem dX10_wrong_16 : decode cX10_wrong 16 = .ok (.iaload, 1) := by decide +kernel
theorem dX10_wrong_17 : decode cX10_wrong 17 = .ok (.aload_n 0, 1) := by decide +kernel
theorem dX10_wrong_18 : decode cX10_wrong 18 = .ok (.getfield 26, 3) := by decide +kernel
theorem dX10_wrong_21 : decode cX10_wrong 21 = .ok (.iload_n 1, 1) := by decide +kernel
theorem dX10_wrong_22 : decode cX10_wrong 22 = .ok (.iaload, 1) := by decide +kernel
theorem dX10_wrong_23 : decode cX10_wrong 23 = .ok (.invokevirtual 162, 3) := by decide +kernel
theorem dX10_wrong_26 : decode cX10_wrong 26 = .ok (.aload_n 0, 1) := by decide +kernel
theorem dX10_wrong_27 : decode cX10_wrong 27 = .ok (.getfield 29, 3) := by decide +kernel
theorem dX10_wrong_30 : decode cX10_wrong 30 = .ok (.iload_n 1, 1) := by decide +kernel
theorem dX10_wrong_31 : decode cX10_wrong 31 = .ok (.iaload, 1) := by decide +kernel
theorem dX10_wrong_32 : decode cX10_wrong 32 = .ok (.if_icmp .eq 5, 3) := by decide +kernel
theorem dX10_wrong_35 : decode cX10_wrong 35 = .ok (.iload_n 1, 1) := by decide +kernel
theorem dX10_wrong_36 : decode cX10_wrong 36 = .ok (.ireturn, 1) := by decide +kernel
theorem dX10_wrong_37 : decode cX10_wrong 37 = .ok (.iinc 1 1, 3) := by decide +kernel
theorem dX10_wrong_40 : decode cX10_wrong 40 = .ok (.goto (-38), 3) := by decide +kernel
theorem dX10_wrong_43 : decode cX10_wrong 43 = .ok (.iconst (-1), 1) := by decide +kernel
theorem dX10_wrong_44 : decode cX10_wrong 44 = .ok (.ireturn, 1) := by decide +kernel
theorem dX10_toldMore_0 : decode cX10_toldMore 0 = .ok (.iload_n 1, 1) := by decide +kernel
theorem dX10_toldMore_1 : decode cX10_toldMore 1 = .ok (.tableswitch 102 9 17 #[51, 56, 61, 66, 71, 79, 87, 92, 97], 51) := by decide +kernel
theorem dX10_toldMore_52 : decode cX10_toldMore 52 = .ok (.aload_n 0, 1) := by decide +kernel
theorem dX10_toldMore_53 : decode cX10_toldMore 53 = .ok (.getfield 186, 3) := by decide +kernel
theorem dX10_toldMore_56 : decode cX10_toldMore 56 = .ok (.ireturn, 1) := by decide +kernel
theorem dX10_toldMore_57 : decode cX10_toldMore 57 = .ok (.aload_n 0, 1) := by decide +kernel
theorem dX10_toldMore_58 : decode cX10_toldMore 58 = .ok (.invokevirtual 250, 3) := by decide +kernel
theorem dX10_toldMore_61 : decode cX10_toldMore 61 = .ok (.ireturn, 1) := by decide +kernel
theorem dX10_toldMore_62 : decode cX10_toldMore 62 = .ok (.aload_n 0, 1) := by decide +kernel
theorem dX10_toldMore_63 : decode cX10_toldMore 63 = .ok (.invokevirtual 253, 3) := by decide +kernel
theorem dX10_toldMore_66 : decode cX10_toldMore 66 = .ok (.ireturn, 1) := by decide +kernel
theorem dX10_toldMore_67 : decode cX10_toldMore 67 = .ok (.aload_n 0, 1) := by decide +kernel
theorem dX10_toldMore_68 : decode cX10_toldMore 68 = .ok (.invokevirtual 256, 3) := by decide +kernel
theorem dX10_toldMore_71 : decode cX10_toldMore 71 = .ok (.ireturn, 1) := by decide +kernel
theorem dX10_toldMore_72 : decode cX10_toldMore 72 = .ok (.aload_n 0, 1) := by decide +kernel
theorem dX10_toldMore_73 : decode cX10_toldMore 73 = .ok (.getfield 7, 3) := by decide +kernel
theorem dX10_toldMore_76 : decode cX10_toldMore 76 = .ok (.bipush 8, 2) := by decide +kernel
theorem dX10_toldMore_78 : decode cX10_toldMore 78 = .ok (.iaload, 1) := by decide +kernel
theorem dX10_toldMore_79 : decode cX10_toldMore 79 = .ok (.ireturn, 1) := by decide +kernel
theorem dX10_toldMore_80 : decode cX10_toldMore 80 = .ok (.aload_n 0, 1) := by decide +kernel
theorem dX10_toldMore_81 : decode cX10_toldMore 81 = .ok (.getfield 7, 3) := by decide +kernel
theorem dX10_toldMore_84 : decode cX10_toldMore 84 = .ok (.bipush 9, 2) := by decide +kernel
theorem dX10_toldMore_86 : decode cX10_toldMore 86 = .ok (.iaload, 1) := by decide +kernel
theorem dX10_toldMore_87 : decode cX10_toldMore 87 = .ok (.ireturn, 1) := by decide +kernel
theorem dX10_toldMore_88 : decode cX10_toldMore 88 = .ok (.aload_n 0, 1) := by decide +kernel
theorem dX10_toldMore_89 : decode cX10_toldMore 89 = .ok (.getfield 247, 3) := by decide +kernel
theorem dX10_toldMore_92 : decode cX10_toldMore 92 = .ok (.ireturn, 1) := by decide +kernel
theorem dX10_toldMore_93 : decode cX10_toldMore 93 = .ok (.aload_n 0, 1) := by decide +kernel
theorem dX10_toldMore_94 : decode cX10_toldMore 94 = .ok (.invokevirtual 259, 3) := by decide +kernel
theorem dX10_toldMore_97 : decode cX10_toldMore 97 = .ok (.ireturn, 1) := by decide +kernel
theorem dX10_toldMore_98 : decode cX10_toldMore 98 = .ok (.aload_n 0, 1) := by decide +kernel
theorem dX10_toldMore_99 : decode cX10_toldMore 99 = .ok (.getfield 105, 3) := by decide +kernel
theorem dX10_toldMore_102 : decode cX10_toldMore 102 = .ok (.ireturn, 1) := by decide +kernel
theorem dX10_toldMore_103 : decode cX10_toldMore 103 = .ok (.ldc 239, 2) := by decide +kernel
theorem dX10_toldMore_105 : decode cX10_toldMore 105 = .ok (.ireturn, 1) := by decide +kernel
theorem dX10_told_0 : decode cX10_told 0 = .ok (.iload_n 1, 1) := by decide +kernel
theorem dX10_told_1 : decode cX10_told 1 = .ok (.tableswitch 106 0 8 #[51, 56, 61, 68, 73, 78, 91, 96, 101], 51) := by decide +kernel
theorem dX10_told_52 : decode cX10_told 52 = .ok (.aload_n 0, 1) := by decide +kernel
theorem dX10_told_53 : decode cX10_told 53 = .ok (.getfield 95, 3) := by decide +kernel
theorem dX10_told_56 : decode cX10_told 56 = .ok (.ireturn, 1) := by decide +kernel
theorem dX10_told_57 : decode cX10_told 57 = .ok (.aload_n 0, 1) := by decide +kernel
theorem dX10_told_58 : decode cX10_told 58 = .ok (.getfield 227, 3) := by decide +kernel
theorem dX10_told_61 : decode cX10_told 61 = .ok (.ireturn, 1) := by decide +kernel
theorem dX10_told_62 : decode cX10_told 62 = .ok (.aload_n 0, 1) := by decide +kernel
theorem dX10_told_63 : decode cX10_told 63 = .ok (.getfield 44, 3) := by decide +kernel
theorem dX10_told_66 : decode cX10_told 66 = .ok (.iconst 0, 1) := by decide +kernel
theorem dX10_told_67 : decode cX10_told 67 = .ok (.iaload, 1) := by decide +kernel
theorem dX10_told_68 : decode cX10_told 68 = .ok (.ireturn, 1) := by decide +kernel
theorem dX10_told_69 : decode cX10_told 69 = .ok (.aload_n 0, 1) := by decide +kernel
theorem dX10_told_70 : decode cX10_told 70 = .ok (.getfield 173, 3) := by decide +kernel
theorem dX10_told_73 : decode cX10_told 73 = .ok (.ireturn, 1) := by decide +kernel
theorem dX10_told_74 : decode cX10_told 74 = .ok (.aload_n 0, 1) := by decide +kernel
theorem dX10_told_75 : decode cX10_told 75 = .ok (.invokevirtual 198, 3) := by decide +kernel
theorem dX10_told_78 : decode cX10_told 78 = .ok (.ireturn, 1) := by decide +kernel
theorem dX10_told_79 : decode cX10_told 79 = .ok (.aload_n 0, 1) := by decide +kernel
theorem dX10_told_80 : decode cX10_told 80 = .ok (.invokevirtual 262, 3) := by decide +kernel
theorem dX10_told_83 : decode cX10_told 83 = .ok (.ifCond .eq 7, 3) := by decide +kernel
theorem dX10_told_86 : decode cX10_told 86 = .ok (.iconst 1, 1) := by decide +kernel
theorem dX10_told_87 : decode cX10_told 87 = .ok (.goto 4, 3) := by decide +kernel
theorem dX10_told_90 : decode cX10_told 90 = .ok (.iconst 0, 1) := by decide +kernel
theorem dX10_told_91 : decode cX10_told 91 = .ok (.ireturn, 1) := by decide +kernel
theorem dX10_told_92 : decode cX10_told 92 = .ok (.aload_n 0, 1) := by decide +kernel
theorem dX10_told_93 : decode cX10_told 93 = .ok (.getfield 180, 3) := by decide +kernel
theorem dX10_told_96 : decode cX10_told 96 = .ok (.ireturn, 1) := by decide +kernel
theorem dX10_told_97 : decode cX10_told 97 = .ok (.aload_n 0, 1) := by decide +kernel
theorem dX10_told_98 : decode cX10_told 98 = .ok (.getfield 183, 3) := by decide +kernel
theorem dX10_told_101 : decode cX10_told 101 = .ok (.ireturn, 1) := by decide +kernel
theorem dX10_told_102 : decode cX10_told 102 = .ok (.aload_n 0, 1) := by decide +kernel
theorem dX10_told_103 : decode cX10_told 103 = .ok (.getfield 195, 3) := by decide +kernel
theorem dX10_told_106 : decode cX10_told 106 = .ok (.ireturn, 1) := by decide +kernel
theorem dX10_told_107 : decode cX10_told 107 = .ok (.aload_n 0, 1) := by decide +kernel
theorem dX10_told_108 : decode cX10_told 108 = .ok (.iload_n 1, 1) := by decide +kernel
theorem dX10_told_109 : decode cX10_told 109 = .ok (.invokevirtual 266, 3) := by decide +kernel
theorem dX10_told_112 : decode cX10_told 112 = .ok (.ireturn, 1) := by decide +kernel
theorem dX10_cell_0 : decode cX10_cell 0 = .ok (.iload_n 1, 1) := by decide +kernel
theorem dX10_cell_1 : decode cX10_cell 1 = .ok (.i2l, 1) := by decide +kernel
theorem dX10_cell_2 : decode cX10_cell 2 = .ok (.lconst 0, 1) := by decide +kernel
theorem dX10_cell_3 : decode cX10_cell 3 = .ok (.ldc2_w 269, 3) := by decide +kernel
theorem dX10_cell_6 : decode cX10_cell 6 = .ok (.invokestatic 131, 3) := by decide +kernel
theorem dX10_cell_9 : decode cX10_cell 9 = .ok (.ifCond .eq 12, 3) := by decide +kernel
theorem dX10_cell_12 : decode cX10_cell 12 = .ok (.aload_n 0, 1) := by decide +kernel
theorem dX10_cell_13 : decode cX10_cell 13 = .ok (.getfield 7, 3) := by decide +kernel
theorem dX10_cell_16 : decode cX10_cell 16 = .ok (.iload_n 1, 1) := by decide +kernel
theorem dX10_cell_17 : decode cX10_cell 17 = .ok (.iaload, 1) := by decide +kernel
theorem dX10_cell_18 : decode cX10_cell 18 = .ok (.goto 6, 3) := by decide +kernel
theorem dX10_cell_21 : decode cX10_cell 21 = .ok (.ldc_w 271, 3) := by decide +kernel
theorem dX10_cell_24 : decode cX10_cell 24 = .ok (.ireturn, 1) := by decide +kernel
theorem dX10_makerOf_0 : decode cX10_makerOf 0 = .ok (.iconst (-1), 1) := by decide +kernel
theorem dX10_makerOf_1 : decode cX10_makerOf 1 = .ok (.istore_n 2, 1) := by decide +kernel
theorem dX10_makerOf_2 : decode cX10_makerOf 2 = .ok (.iconst 0, 1) := by decide +kernel
theorem dX10_makerOf_3 : decode cX10_makerOf 3 = .ok (.istore_n 3, 1) := by decide +kernel
theorem dX10_makerOf_4 : decode cX10_makerOf 4 = .ok (.iload_n 3, 1) := by decide +kernel
theorem dX10_makerOf_5 : decode cX10_makerOf 5 = .ok (.iload_n 1, 1) := by decide +kernel
theorem dX10_makerOf_6 : decode cX10_makerOf 6 = .ok (.if_icmp .ge 32, 3) := by decide +kernel
theorem dX10_makerOf_9 : decode cX10_makerOf 9 = .ok (.aload_n 0, 1) := by decide +kernel
theorem dX10_makerOf_10 : decode cX10_makerOf 10 = .ok (.getfield 47, 3) := by decide +kernel
theorem dX10_makerOf_13 : decode cX10_makerOf 13 = .ok (.iload_n 3, 1) := by decide +kernel
theorem dX10_makerOf_14 : decode cX10_makerOf 14 = .ok (.iaload, 1) := by decide +kernel
theorem dX10_makerOf_15 : decode cX10_makerOf 15 = .ok (.aload_n 0, 1) := by decide +kernel
theorem dX10_makerOf_16 : decode cX10_makerOf 16 = .ok (.getfield 47, 3) := by decide +kernel
theorem dX10_makerOf_19 : decode cX10_makerOf 19 = .ok (.iload_n 1, 1) := by decide +kernel
theorem dX10_makerOf_20 : decode cX10_makerOf 20 = .ok (.iaload, 1) := by decide +kernel
theorem dX10_makerOf_21 : decode cX10_makerOf 21 = .ok (.iconst 1, 1) := by decide +kernel
theorem dX10_makerOf_22 : decode cX10_makerOf 22 = .ok (.isub, 1) := by decide +kernel
theorem dX10_makerOf_23 : decode cX10_makerOf 23 = .ok (.if_icmp .ne 7, 3) := by decide +kernel
theorem dX10_makerOf_26 : decode cX10_makerOf 26 = .ok (.iload_n 3, 1) := by decide +kernel
theorem dX10_makerOf_27 : decode cX10_makerOf 27 = .ok (.goto 4, 3) := by decide +kernel
theorem dX10_makerOf_30 : decode cX10_makerOf 30 = .ok (.iload_n 2, 1) := by decide +kernel
theorem dX10_makerOf_31 : decode cX10_makerOf 31 = .ok (.istore_n 2, 1) := by decide +kernel
theorem dX10_makerOf_32 : decode cX10_makerOf 32 = .ok (.iinc 3 1, 3) := by decide +kernel
theorem dX10_makerOf_35 : decode cX10_makerOf 35 = .ok (.goto (-31), 3) := by decide +kernel
theorem dX10_makerOf_38 : decode cX10_makerOf 38 = .ok (.iload_n 2, 1) := by decide +kernel
theorem dX10_makerOf_39 : decode cX10_makerOf 39 = .ok (.ireturn, 1) := by decide +kernel
theorem dX10_partsOf_0 : decode cX10_partsOf 0 = .ok (.iconst 0, 1) := by decide +kernel
theorem dX10_partsOf_1 : decode cX10_partsOf 1 = .ok (.istore_n 2, 1) := by decide +kernel
theorem dX10_partsOf_2 : decode cX10_partsOf 2 = .ok (.iload_n 1, 1) := by decide +kernel
theorem dX10_partsOf_3 : decode cX10_partsOf 3 = .ok (.iconst 1, 1) := by decide +kernel
theorem dX10_partsOf_4 : decode cX10_partsOf 4 = .ok (.iadd, 1) := by decide +kernel
theorem dX10_partsOf_5 : decode cX10_partsOf 5 = .ok (.istore_n 3, 1) := by decide +kernel
theorem dX10_partsOf_6 : decode cX10_partsOf 6 = .ok (.iload_n 3, 1) := by decide +kernel
theorem dX10_partsOf_7 : decode cX10_partsOf 7 = .ok (.aload_n 0, 1) := by decide +kernel
theorem dX10_partsOf_8 : decode cX10_partsOf 8 = .ok (.getfield 47, 3) := by decide +kernel
theorem dX10_partsOf_11 : decode cX10_partsOf 11 = .ok (.aload_n 0, 1) := by decide +kernel
theorem dX10_partsOf_12 : decode cX10_partsOf 12 = .ok (.getfield 173, 3) := by decide +kernel
theorem dX10_partsOf_15 : decode cX10_partsOf 15 = .ok (.iload_n 1, 1) := by decide +kernel
theorem dX10_partsOf_16 : decode cX10_partsOf 16 = .ok (.invokestatic 176, 3) := by decide +kernel
theorem dX10_partsOf_19 : decode cX10_partsOf 19 = .ok (.if_icmp .ge 34, 3) := by decide +kernel
theorem dX10_partsOf_22 : decode cX10_partsOf 22 = .ok (.iload_n 2, 1) := by decide +kernel
theorem dX10_partsOf_23 : decode cX10_partsOf 23 = .ok (.aload_n 0, 1) := by decide +kernel
theorem dX10_partsOf_24 : decode cX10_partsOf 24 = .ok (.getfield 47, 3) := by decide +kernel
theorem dX10_partsOf_27 : decode cX10_partsOf 27 = .ok (.iload_n 3, 1) := by decide +kernel
theorem dX10_partsOf_28 : decode cX10_partsOf 28 = .ok (.iaload, 1) := by decide +kernel
theorem dX10_partsOf_29 : decode cX10_partsOf 29 = .ok (.aload_n 0, 1) := by decide +kernel
theorem dX10_partsOf_30 : decode cX10_partsOf 30 = .ok (.getfield 47, 3) := by decide +kernel
theorem dX10_partsOf_33 : decode cX10_partsOf 33 = .ok (.iload_n 1, 1) := by decide +kernel
theorem dX10_partsOf_34 : decode cX10_partsOf 34 = .ok (.iaload, 1) := by decide +kernel
theorem dX10_partsOf_35 : decode cX10_partsOf 35 = .ok (.iconst 1, 1) := by decide +kernel
theorem dX10_partsOf_36 : decode cX10_partsOf 36 = .ok (.iadd, 1) := by decide +kernel
theorem dX10_partsOf_37 : decode cX10_partsOf 37 = .ok (.if_icmp .ne 7, 3) := by decide +kernel
theorem dX10_partsOf_40 : decode cX10_partsOf 40 = .ok (.iconst 1, 1) := by decide +kernel
theorem dX10_partsOf_41 : decode cX10_partsOf 41 = .ok (.goto 4, 3) := by decide +kernel
theorem dX10_partsOf_44 : decode cX10_partsOf 44 = .ok (.iconst 0, 1) := by decide +kernel
theorem dX10_partsOf_45 : decode cX10_partsOf 45 = .ok (.iadd, 1) := by decide +kernel
theorem dX10_partsOf_46 : decode cX10_partsOf 46 = .ok (.istore_n 2, 1) := by decide +kernel
theorem dX10_partsOf_47 : decode cX10_partsOf 47 = .ok (.iinc 3 1, 3) := by decide +kernel
theorem dX10_partsOf_50 : decode cX10_partsOf 50 = .ok (.goto (-44), 3) := by decide +kernel
theorem dX10_partsOf_53 : decode cX10_partsOf 53 = .ok (.iload_n 2, 1) := by decide +kernel
theorem dX10_partsOf_54 : decode cX10_partsOf 54 = .ok (.ireturn, 1) := by decide +kernel
theorem dX10_call_0 : decode cX10_call 0 = .ok (.iload_n 1, 1) := by decide +kernel
theorem dX10_call_1 : decode cX10_call 1 = .ok (.i2l, 1) := by decide +kernel
theorem dX10_call_2 : decode cX10_call 2 = .ok (.lconst 0, 1) := by decide +kernel
theorem dX10_call_3 : decode cX10_call 3 = .ok (.aload_n 0, 1) := by decide +kernel
theorem dX10_call_4 : decode cX10_call 4 = .ok (.getfield 173, 3) := by decide +kernel
theorem dX10_call_7 : decode cX10_call 7 = .ok (.iconst 1, 1) := by decide +kernel
theorem dX10_call_8 : decode cX10_call 8 = .ok (.isub, 1) := by decide +kernel
theorem dX10_call_9 : decode cX10_call 9 = .ok (.i2l, 1) := by decide +kernel
theorem dX10_call_10 : decode cX10_call 10 = .ok (.invokestatic 131, 3) := by decide +kernel
theorem dX10_call_13 : decode cX10_call 13 = .ok (.ifCond .ne 7, 3) := by decide +kernel
theorem dX10_call_16 : decode cX10_call 16 = .ok (.ldc_w 271, 3) := by decide +kernel
theorem dX10_call_19 : decode cX10_call 19 = .ok (.ireturn, 1) := by decide +kernel
theorem dX10_call_20 : decode cX10_call 20 = .ok (.iload_n 2, 1) := by decide +kernel
theorem dX10_call_21 : decode cX10_call 21 = .ok (.tableswitch 149 0 10 #[59, 66, 73, 80, 87, 94, 100, 107, 114, 120, 135], 59) := by decide +kernel
theorem dX10_call_80 : decode cX10_call 80 = .ok (.aload_n 0, 1) := by decide +kernel
theorem dX10_call_81 : decode cX10_call 81 = .ok (.getfield 38, 3) := by decide +kernel
theorem dX10_call_84 : decode cX10_call 84 = .ok (.iload_n 1, 1) := by decide +kernel
theorem dX10_call_85 : decode cX10_call 85 = .ok (.iaload, 1) := by decide +kernel
theorem dX10_call_86 : decode cX10_call 86 = .ok (.ireturn, 1) := by decide +kernel
theorem dX10_call_87 : decode cX10_call 87 = .ok (.aload_n 0, 1) := by decide +kernel
theorem dX10_call_88 : decode cX10_call 88 = .ok (.getfield 41, 3) := by decide +kernel
theorem dX10_call_91 : decode cX10_call 91 = .ok (.iload_n 1, 1) := by decide +kernel
theorem dX10_call_92 : decode cX10_call 92 = .ok (.iaload, 1) := by decide +kernel
theorem dX10_call_93 : decode cX10_call 93 = .ok (.ireturn, 1) := by decide +kernel
theorem dX10_call_94 : decode cX10_call 94 = .ok (.aload_n 0, 1) := by decide +kernel
theorem dX10_call_95 : decode cX10_call 95 = .ok (.getfield 44, 3) := by decide +kernel
theorem dX10_call_98 : decode cX10_call 98 = .ok (.iload_n 1, 1) := by decide +kernel
theorem dX10_call_99 : decode cX10_call 99 = .ok (.iaload, 1) := by decide +kernel
theorem dX10_call_100 : decode cX10_call 100 = .ok (.ireturn, 1) := by decide +kernel
theorem dX10_call_101 : decode cX10_call 101 = .ok (.aload_n 0, 1) := by decide +kernel
theorem dX10_call_102 : decode cX10_call 102 = .ok (.getfield 53, 3) := by decide +kernel
theorem dX10_call_105 : decode cX10_call 105 = .ok (.iload_n 1, 1) := by decide +kernel
theorem dX10_call_106 : decode cX10_call 106 = .ok (.iaload, 1) := by decide +kernel
theorem dX10_call_107 : decode cX10_call 107 = .ok (.ireturn, 1) := by decide +kernel
theorem dX10_call_108 : decode cX10_call 108 = .ok (.aload_n 0, 1) := by decide +kernel
theorem dX10_call_109 : decode cX10_call 109 = .ok (.getfield 56, 3) := by decide +kernel
theorem dX10_call_112 : decode cX10_call 112 = .ok (.iload_n 1, 1) := by decide +kernel
theorem dX10_call_113 : decode cX10_call 113 = .ok (.iaload, 1) := by decide +kernel
theorem dX10_call_114 : decode cX10_call 114 = .ok (.ireturn, 1) := by decide +kernel
theorem dX10_call_115 : decode cX10_call 115 = .ok (.aload_n 0, 1) := by decide +kernel
theorem dX10_call_116 : decode cX10_call 116 = .ok (.iload_n 1, 1) := by decide +kernel
theorem dX10_call_117 : decode cX10_call 117 = .ok (.invokevirtual 272, 3) := by decide +kernel
theorem dX10_call_120 : decode cX10_call 120 = .ok (.ireturn, 1) := by decide +kernel
theorem dX10_call_121 : decode cX10_call 121 = .ok (.aload_n 0, 1) := by decide +kernel
theorem dX10_call_122 : decode cX10_call 122 = .ok (.getfield 47, 3) := by decide +kernel
theorem dX10_call_125 : decode cX10_call 125 = .ok (.iload_n 1, 1) := by decide +kernel
theorem dX10_call_126 : decode cX10_call 126 = .ok (.iaload, 1) := by decide +kernel
theorem dX10_call_127 : decode cX10_call 127 = .ok (.ireturn, 1) := by decide +kernel
theorem dX10_call_128 : decode cX10_call 128 = .ok (.aload_n 0, 1) := by decide +kernel
theorem dX10_call_129 : decode cX10_call 129 = .ok (.getfield 50, 3) := by decide +kernel
theorem dX10_call_132 : decode cX10_call 132 = .ok (.iload_n 1, 1) := by decide +kernel
theorem dX10_call_133 : decode cX10_call 133 = .ok (.iaload, 1) := by decide +kernel
theorem dX10_call_134 : decode cX10_call 134 = .ok (.ireturn, 1) := by decide +kernel
theorem dX10_call_135 : decode cX10_call 135 = .ok (.aload_n 0, 1) := by decide +kernel
theorem dX10_call_136 : decode cX10_call 136 = .ok (.iload_n 1, 1) := by decide +kernel
theorem dX10_call_137 : decode cX10_call 137 = .ok (.invokevirtual 275, 3) := by decide +kernel
theorem dX10_call_140 : decode cX10_call 140 = .ok (.ireturn, 1) := by decide +kernel
theorem dX10_call_141 : decode cX10_call 141 = .ok (.aload_n 0, 1) := by decide +kernel
theorem dX10_call_142 : decode cX10_call 142 = .ok (.getfield 47, 3) := by decide +kernel
theorem dX10_call_145 : decode cX10_call 145 = .ok (.aload_n 0, 1) := by decide +kernel
theorem dX10_call_146 : decode cX10_call 146 = .ok (.getfield 173, 3) := by decide +kernel
theorem dX10_call_149 : decode cX10_call 149 = .ok (.iload_n 1, 1) := by decide +kernel
theorem dX10_call_150 : decode cX10_call 150 = .ok (.invokestatic 176, 3) := by decide +kernel
theorem dX10_call_153 : decode cX10_call 153 = .ok (.iload_n 1, 1) := by decide +kernel
theorem dX10_call_154 : decode cX10_call 154 = .ok (.isub, 1) := by decide +kernel
theorem dX10_call_155 : decode cX10_call 155 = .ok (.ireturn, 1) := by decide +kernel
theorem dX10_call_156 : decode cX10_call 156 = .ok (.aload_n 0, 1) := by decide +kernel
theorem dX10_call_157 : decode cX10_call 157 = .ok (.iload_n 1, 1) := by decide +kernel
theorem dX10_call_158 : decode cX10_call 158 = .ok (.invokevirtual 169, 3) := by decide +kernel
theorem dX10_call_161 : decode cX10_call 161 = .ok (.ifCond .eq 7, 3) := by decide +kernel
theorem dX10_call_164 : decode cX10_call 164 = .ok (.iconst 1, 1) := by decide +kernel
theorem dX10_call_165 : decode cX10_call 165 = .ok (.goto 4, 3) := by decide +kernel
theorem dX10_call_168 : decode cX10_call 168 = .ok (.iconst 0, 1) := by decide +kernel
theorem dX10_call_169 : decode cX10_call 169 = .ok (.ireturn, 1) := by decide +kernel
theorem dX10_call_170 : decode cX10_call 170 = .ok (.ldc 239, 2) := by decide +kernel
theorem dX10_call_172 : decode cX10_call 172 = .ok (.ireturn, 1) := by decide +kernel
theorem dX10_find_0 : decode cX10_find 0 = .ok (.iconst (-1), 1) := by decide +kernel
theorem dX10_find_1 : decode cX10_find 1 = .ok (.istore_n 2, 1) := by decide +kernel
theorem dX10_find_2 : decode cX10_find 2 = .ok (.iconst 0, 1) := by decide +kernel
theorem dX10_find_3 : decode cX10_find 3 = .ok (.istore_n 3, 1) := by decide +kernel
theorem dX10_find_4 : decode cX10_find 4 = .ok (.iload_n 3, 1) := by decide +kernel
theorem dX10_find_5 : decode cX10_find 5 = .ok (.aload_n 0, 1) := by decide +kernel
theorem dX10_find_6 : decode cX10_find 6 = .ok (.getfield 173, 3) := by decide +kernel
theorem dX10_find_9 : decode cX10_find 9 = .ok (.if_icmp .ge 25, 3) := by decide +kernel
theorem dX10_find_12 : decode cX10_find 12 = .ok (.aload_n 0, 1) := by decide +kernel
theorem dX10_find_13 : decode cX10_find 13 = .ok (.getfield 53, 3) := by decide +kernel
theorem dX10_find_16 : decode cX10_find 16 = .ok (.iload_n 3, 1) := by decide +kernel
theorem dX10_find_17 : decode cX10_find 17 = .ok (.iaload, 1) := by decide +kernel
theorem dX10_find_18 : decode cX10_find 18 = .ok (.iload_n 1, 1) := by decide +kernel
theorem dX10_find_19 : decode cX10_find 19 = .ok (.if_icmp .ne 7, 3) := by decide +kernel
theorem dX10_find_22 : decode cX10_find 22 = .ok (.iload_n 3, 1) := by decide +kernel
theorem dX10_find_23 : decode cX10_find 23 = .ok (.goto 4, 3) := by decide +kernel
theorem dX10_find_26 : decode cX10_find 26 = .ok (.iload_n 2, 1) := by decide +kernel
theorem dX10_find_27 : decode cX10_find 27 = .ok (.istore_n 2, 1) := by decide +kernel
theorem dX10_find_28 : decode cX10_find 28 = .ok (.iinc 3 1, 3) := by decide +kernel
theorem dX10_find_31 : decode cX10_find 31 = .ok (.goto (-27), 3) := by decide +kernel
theorem dX10_find_34 : decode cX10_find 34 = .ok (.iload_n 2, 1) := by decide +kernel
theorem dX10_find_35 : decode cX10_find 35 = .ok (.ireturn, 1) := by decide +kernel
theorem dX10_set_0 : decode cX10_set 0 = .ok (.iload_n 1, 1) := by decide +kernel
theorem dX10_set_1 : decode cX10_set 1 = .ok (.i2l, 1) := by decide +kernel
theorem dX10_set_2 : decode cX10_set 2 = .ok (.lconst 0, 1) := by decide +kernel
theorem dX10_set_3 : decode cX10_set 3 = .ok (.ldc2_w 269, 3) := by decide +kernel
theorem dX10_set_6 : decode cX10_set 6 = .ok (.invokestatic 131, 3) := by decide +kernel
theorem dX10_set_9 : decode cX10_set 9 = .ok (.ifCond .ne 7, 3) := by decide +kernel
theorem dX10_set_12 : decode cX10_set 12 = .ok (.ldc_w 271, 3) := by decide +kernel
theorem dX10_set_15 : decode cX10_set 15 = .ok (.ireturn, 1) := by decide +kernel
theorem dX10_set_16 : decode cX10_set 16 = .ok (.iload_n 2, 1) := by decide +kernel
theorem dX10_set_17 : decode cX10_set 17 = .ok (.i2l, 1) := by decide +kernel
theorem dX10_set_18 : decode cX10_set 18 = .ok (.lconst 0, 1) := by decide +kernel
theorem dX10_set_19 : decode cX10_set 19 = .ok (.ldc2_w 278, 3) := by decide +kernel
theorem dX10_set_22 : decode cX10_set 22 = .ok (.invokestatic 131, 3) := by decide +kernel
theorem dX10_set_25 : decode cX10_set 25 = .ok (.ifCond .ne 6, 3) := by decide +kernel
theorem dX10_set_28 : decode cX10_set 28 = .ok (.ldc 239, 2) := by decide +kernel
theorem dX10_set_30 : decode cX10_set 30 = .ok (.ireturn, 1) := by decide +kernel
theorem dX10_set_31 : decode cX10_set 31 = .ok (.aload_n 0, 1) := by decide +kernel
theorem dX10_set_32 : decode cX10_set 32 = .ok (.invokevirtual 280, 3) := by decide +kernel
theorem dX10_set_35 : decode cX10_set 35 = .ok (.aload_n 0, 1) := by decide +kernel
theorem dX10_set_36 : decode cX10_set 36 = .ok (.getfield 7, 3) := by decide +kernel
theorem dX10_set_39 : decode cX10_set 39 = .ok (.iload_n 1, 1) := by decide +kernel
theorem dX10_set_40 : decode cX10_set 40 = .ok (.iaload, 1) := by decide +kernel
theorem dX10_set_41 : decode cX10_set 41 = .ok (.istore_n 3, 1) := by decide +kernel
theorem dX10_set_42 : decode cX10_set 42 = .ok (.aload_n 0, 1) := by decide +kernel
theorem dX10_set_43 : decode cX10_set 43 = .ok (.getfield 7, 3) := by decide +kernel
theorem dX10_set_46 : decode cX10_set 46 = .ok (.iload_n 1, 1) := by decide +kernel
theorem dX10_set_47 : decode cX10_set 47 = .ok (.iload_n 2, 1) := by decide +kernel
theorem dX10_set_48 : decode cX10_set 48 = .ok (.iastore, 1) := by decide +kernel
theorem dX10_set_49 : decode cX10_set 49 = .ok (.iload_n 3, 1) := by decide +kernel
theorem dX10_set_50 : decode cX10_set 50 = .ok (.ireturn, 1) := by decide +kernel
theorem dX10_aim_0 : decode cX10_aim 0 = .ok (.iload_n 1, 1) := by decide +kernel
theorem dX10_aim_1 : decode cX10_aim 1 = .ok (.i2l, 1) := by decide +kernel
theorem dX10_aim_2 : decode cX10_aim 2 = .ok (.lconst 0, 1) := by decide +kernel
theorem dX10_aim_3 : decode cX10_aim 3 = .ok (.aload_n 0, 1) := by decide +kernel
theorem dX10_aim_4 : decode cX10_aim 4 = .ok (.getfield 95, 3) := by decide +kernel
theorem dX10_aim_7 : decode cX10_aim 7 = .ok (.iconst 1, 1) := by decide +kernel
theorem dX10_aim_8 : decode cX10_aim 8 = .ok (.isub, 1) := by decide +kernel
theorem dX10_aim_9 : decode cX10_aim 9 = .ok (.i2l, 1) := by decide +kernel
theorem dX10_aim_10 : decode cX10_aim 10 = .ok (.invokestatic 131, 3) := by decide +kernel
theorem dX10_aim_13 : decode cX10_aim 13 = .ok (.ifCond .ne 7, 3) := by decide +kernel
theorem dX10_aim_16 : decode cX10_aim 16 = .ok (.ldc_w 271, 3) := by decide +kernel
theorem dX10_aim_19 : decode cX10_aim 19 = .ok (.ireturn, 1) := by decide +kernel
theorem dX10_aim_20 : decode cX10_aim 20 = .ok (.iload_n 2, 1) := by decide +kernel
theorem dX10_aim_21 : decode cX10_aim 21 = .ok (.i2l, 1) := by decide +kernel
theorem dX10_aim_22 : decode cX10_aim 22 = .ok (.lconst 0, 1) := by decide +kernel
theorem dX10_aim_23 : decode cX10_aim 23 = .ok (.ldc2_w 278, 3) := by decide +kernel
theorem dX10_aim_26 : decode cX10_aim 26 = .ok (.invokestatic 131, 3) := by decide +kernel
theorem dX10_aim_29 : decode cX10_aim 29 = .ok (.ifCond .ne 6, 3) := by decide +kernel
theorem dX10_aim_32 : decode cX10_aim 32 = .ok (.ldc 239, 2) := by decide +kernel
theorem dX10_aim_34 : decode cX10_aim 34 = .ok (.ireturn, 1) := by decide +kernel
theorem dX10_aim_35 : decode cX10_aim 35 = .ok (.aload_n 0, 1) := by decide +kernel
theorem dX10_aim_36 : decode cX10_aim 36 = .ok (.invokevirtual 280, 3) := by decide +kernel
theorem dX10_aim_39 : decode cX10_aim 39 = .ok (.aload_n 0, 1) := by decide +kernel
theorem dX10_aim_40 : decode cX10_aim 40 = .ok (.getfield 7, 3) := by decide +kernel
theorem dX10_aim_43 : decode cX10_aim 43 = .ok (.bipush 8, 2) := by decide +kernel
theorem dX10_aim_45 : decode cX10_aim 45 = .ok (.iaload, 1) := by decide +kernel
theorem dX10_aim_46 : decode cX10_aim 46 = .ok (.iload_n 1, 1) := by decide +kernel
theorem dX10_aim_47 : decode cX10_aim 47 = .ok (.if_icmp .ne 14, 3) := by decide +kernel
theorem dX10_aim_50 : decode cX10_aim 50 = .ok (.aload_n 0, 1) := by decide +kernel
theorem dX10_aim_51 : decode cX10_aim 51 = .ok (.getfield 7, 3) := by decide +kernel
theorem dX10_aim_54 : decode cX10_aim 54 = .ok (.bipush 9, 2) := by decide +kernel
theorem dX10_aim_56 : decode cX10_aim 56 = .ok (.iaload, 1) := by decide +kernel
theorem dX10_aim_57 : decode cX10_aim 57 = .ok (.iload_n 2, 1) := by decide +kernel
theorem dX10_aim_58 : decode cX10_aim 58 = .ok (.if_icmp .eq 7, 3) := by decide +kernel
theorem dX10_aim_61 : decode cX10_aim 61 = .ok (.iconst 1, 1) := by decide +kernel
theorem dX10_aim_62 : decode cX10_aim 62 = .ok (.goto 4, 3) := by decide +kernel
theorem dX10_aim_65 : decode cX10_aim 65 = .ok (.iconst 0, 1) := by decide +kernel
theorem dX10_aim_66 : decode cX10_aim 66 = .ok (.istore_n 3, 1) := by decide +kernel
theorem dX10_aim_67 : decode cX10_aim 67 = .ok (.aload_n 0, 1) := by decide +kernel
theorem dX10_aim_68 : decode cX10_aim 68 = .ok (.getfield 7, 3) := by decide +kernel
theorem dX10_aim_71 : decode cX10_aim 71 = .ok (.bipush 8, 2) := by decide +kernel
theorem dX10_aim_73 : decode cX10_aim 73 = .ok (.iload_n 1, 1) := by decide +kernel
theorem dX10_aim_74 : decode cX10_aim 74 = .ok (.iastore, 1) := by decide +kernel
theorem dX10_aim_75 : decode cX10_aim 75 = .ok (.aload_n 0, 1) := by decide +kernel
theorem dX10_aim_76 : decode cX10_aim 76 = .ok (.getfield 7, 3) := by decide +kernel
theorem dX10_aim_79 : decode cX10_aim 79 = .ok (.bipush 9, 2) := by decide +kernel
theorem dX10_aim_81 : decode cX10_aim 81 = .ok (.iload_n 2, 1) := by decide +kernel
theorem dX10_aim_82 : decode cX10_aim 82 = .ok (.iastore, 1) := by decide +kernel
theorem dX10_aim_83 : decode cX10_aim 83 = .ok (.iload_n 3, 1) := by decide +kernel
theorem dX10_aim_84 : decode cX10_aim 84 = .ok (.ifCond .eq 7, 3) := by decide +kernel
theorem dX10_aim_87 : decode cX10_aim 87 = .ok (.iconst 1, 1) := by decide +kernel
theorem dX10_aim_88 : decode cX10_aim 88 = .ok (.goto 4, 3) := by decide +kernel
theorem dX10_aim_91 : decode cX10_aim 91 = .ok (.iconst 0, 1) := by decide +kernel
theorem dX10_aim_92 : decode cX10_aim 92 = .ok (.ireturn, 1) := by decide +kernel
theorem dX10_bring_0 : decode cX10_bring 0 = .ok (.aload_n 0, 1) := by decide +kernel
theorem dX10_bring_1 : decode cX10_bring 1 = .ok (.invokevirtual 198, 3) := by decide +kernel
theorem dX10_bring_4 : decode cX10_bring 4 = .ok (.istore_n 1, 1) := by decide +kernel
theorem dX10_bring_5 : decode cX10_bring 5 = .ok (.aload_n 0, 1) := by decide +kernel
theorem dX10_bring_6 : decode cX10_bring 6 = .ok (.aload_n 0, 1) := by decide +kernel
theorem dX10_bring_7 : decode cX10_bring 7 = .ok (.getfield 38, 3) := by decide +kernel
theorem dX10_bring_10 : decode cX10_bring 10 = .ok (.iconst 0, 1) := by decide +kernel
theorem dX10_bring_11 : decode cX10_bring 11 = .ok (.iaload, 1) := by decide +kernel
theorem dX10_bring_12 : decode cX10_bring 12 = .ok (.aload_n 0, 1) := by decide +kernel
theorem dX10_bring_13 : decode cX10_bring 13 = .ok (.getfield 7, 3) := by decide +kernel
theorem dX10_bring_16 : decode cX10_bring 16 = .ok (.bipush 8, 2) := by decide +kernel
theorem dX10_bring_18 : decode cX10_bring 18 = .ok (.iaload, 1) := by decide +kernel
theorem dX10_bring_19 : decode cX10_bring 19 = .ok (.if_icmp .ne 23, 3) := by decide +kernel
theorem dX10_bring_22 : decode cX10_bring 22 = .ok (.aload_n 0, 1) := by decide +kernel
theorem dX10_bring_23 : decode cX10_bring 23 = .ok (.getfield 41, 3) := by decide +kernel
theorem dX10_bring_26 : decode cX10_bring 26 = .ok (.iconst 0, 1) := by decide +kernel
theorem dX10_bring_27 : decode cX10_bring 27 = .ok (.iaload, 1) := by decide +kernel
theorem dX10_bring_28 : decode cX10_bring 28 = .ok (.aload_n 0, 1) := by decide +kernel
theorem dX10_bring_29 : decode cX10_bring 29 = .ok (.getfield 7, 3) := by decide +kernel
theorem dX10_bring_32 : decode cX10_bring 32 = .ok (.bipush 9, 2) := by decide +kernel
theorem dX10_bring_34 : decode cX10_bring 34 = .ok (.iaload, 1) := by decide +kernel
theorem dX10_bring_35 : decode cX10_bring 35 = .ok (.if_icmp .ne 7, 3) := by decide +kernel
theorem dX10_bring_38 : decode cX10_bring 38 = .ok (.iconst 1, 1) := by decide +kernel
theorem dX10_bring_39 : decode cX10_bring 39 = .ok (.goto 4, 3) := by decide +kernel
theorem dX10_bring_42 : decode cX10_bring 42 = .ok (.iconst 0, 1) := by decide +kernel
theorem dX10_bring_43 : decode cX10_bring 43 = .ok (.invokevirtual 201, 3) := by decide +kernel
theorem dX10_bring_46 : decode cX10_bring 46 = .ok (.aload_n 0, 1) := by decide +kernel
theorem dX10_bring_47 : decode cX10_bring 47 = .ok (.invokevirtual 205, 3) := by decide +kernel
theorem dX10_bring_50 : decode cX10_bring 50 = .ok (.iload_n 1, 1) := by decide +kernel
theorem dX10_bring_51 : decode cX10_bring 51 = .ok (.ireturn, 1) := by decide +kernel
theorem dX10_draw_0 : decode cX10_draw 0 = .ok (.aload_n 0, 1) := by decide +kernel
theorem dX10_draw_1 : decode cX10_draw 1 = .ok (.aload_n 0, 1) := by decide +kernel
theorem dX10_draw_2 : decode cX10_draw 2 = .ok (.getfield 283, 3) := by decide +kernel
theorem dX10_draw_5 : decode cX10_draw 5 = .ok (.i2l, 1) := by decide +kernel
theorem dX10_draw_6 : decode cX10_draw 6 = .ok (.ldc2_w 286, 3) := by decide +kernel
theorem dX10_draw_9 : decode cX10_draw 9 = .ok (.lmul, 1) := by decide +kernel
theorem dX10_draw_10 : decode cX10_draw 10 = .ok (.ldc2_w 288, 3) := by decide +kernel
theorem dX10_draw_13 : decode cX10_draw 13 = .ok (.ladd, 1) := by decide +kernel
theorem dX10_draw_14 : decode cX10_draw 14 = .ok (.ldc2_w 290, 3) := by decide +kernel
theorem dX10_draw_17 : decode cX10_draw 17 = .ok (.lrem, 1) := by decide +kernel
theorem dX10_draw_18 : decode cX10_draw 18 = .ok (.l2i, 1) := by decide +kernel
theorem dX10_draw_19 : decode cX10_draw 19 = .ok (.putfield 283, 3) := by decide +kernel
theorem dX10_draw_22 : decode cX10_draw 22 = .ok (.aload_n 0, 1) := by decide +kernel
theorem dX10_draw_23 : decode cX10_draw 23 = .ok (.getfield 283, 3) := by decide +kernel
theorem dX10_draw_26 : decode cX10_draw 26 = .ok (.ldc_w 292, 3) := by decide +kernel
theorem dX10_draw_29 : decode cX10_draw 29 = .ok (.idiv, 1) := by decide +kernel
theorem dX10_draw_30 : decode cX10_draw 30 = .ok (.iload_n 1, 1) := by decide +kernel
theorem dX10_draw_31 : decode cX10_draw 31 = .ok (.irem, 1) := by decide +kernel
theorem dX10_draw_32 : decode cX10_draw 32 = .ok (.ireturn, 1) := by decide +kernel
theorem dX10_drift_0 : decode cX10_drift 0 = .ok (.iload_n 1, 1) := by decide +kernel
theorem dX10_drift_1 : decode cX10_drift 1 = .ok (.i2l, 1) := by decide +kernel
theorem dX10_drift_2 : decode cX10_drift 2 = .ok (.lconst 1, 1) := by decide +kernel
theorem dX10_drift_3 : decode cX10_drift 3 = .ok (.ldc2_w 293, 3) := by decide +kernel
theorem dX10_drift_6 : decode cX10_drift 6 = .ok (.invokestatic 131, 3) := by decide +kernel
theorem dX10_drift_9 : decode cX10_drift 9 = .ok (.ifCond .ne 6, 3) := by decide +kernel
theorem dX10_drift_12 : decode cX10_drift 12 = .ok (.ldc 239, 2) := by decide +kernel
theorem dX10_drift_14 : decode cX10_drift 14 = .ok (.ireturn, 1) := by decide +kernel
theorem dX10_drift_15 : decode cX10_drift 15 = .ok (.iconst 0, 1) := by decide +kernel
theorem dX10_drift_16 : decode cX10_drift 16 = .ok (.istore_n 2, 1) := by decide +kernel
theorem dX10_drift_17 : decode cX10_drift 17 = .ok (.iload_n 2, 1) := by decide +kernel
theorem dX10_drift_18 : decode cX10_drift 18 = .ok (.iload_n 1, 1) := by decide +kernel
theorem dX10_drift_19 : decode cX10_drift 19 = .ok (.if_icmp .ge 32, 3) := by decide +kernel
theorem dX10_drift_22 : decode cX10_drift 22 = .ok (.aload_n 0, 1) := by decide +kernel
theorem dX10_drift_23 : decode cX10_drift 23 = .ok (.invokevirtual 280, 3) := by decide +kernel
theorem dX10_drift_26 : decode cX10_drift 26 = .ok (.aload_n 0, 1) := by decide +kernel
theorem dX10_drift_27 : decode cX10_drift 27 = .ok (.bipush 8, 2) := by decide +kernel
theorem dX10_drift_29 : decode cX10_drift 29 = .ok (.invokevirtual 295, 3) := by decide +kernel
theorem dX10_drift_32 : decode cX10_drift 32 = .ok (.istore_n 3, 1) := by decide +kernel
theorem dX10_drift_33 : decode cX10_drift 33 = .ok (.aload_n 0, 1) := by decide +kernel
theorem dX10_drift_34 : decode cX10_drift 34 = .ok (.getfield 7, 3) := by decide +kernel
theorem dX10_drift_37 : decode cX10_drift 37 = .ok (.iload_n 3, 1) := by decide +kernel
theorem dX10_drift_38 : decode cX10_drift 38 = .ok (.aload_n 0, 1) := by decide +kernel
theorem dX10_drift_39 : decode cX10_drift 39 = .ok (.bipush 10, 2) := by decide +kernel
theorem dX10_drift_41 : decode cX10_drift 41 = .ok (.invokevirtual 295, 3) := by decide +kernel
theorem dX10_drift_44 : decode cX10_drift 44 = .ok (.iastore, 1) := by decide +kernel
theorem dX10_drift_45 : decode cX10_drift 45 = .ok (.iinc 2 1, 3) := by decide +kernel
theorem dX10_drift_48 : decode cX10_drift 48 = .ok (.goto (-31), 3) := by decide +kernel
theorem dX10_drift_51 : decode cX10_drift 51 = .ok (.aload_n 0, 1) := by decide +kernel
theorem dX10_drift_52 : decode cX10_drift 52 = .ok (.getfield 283, 3) := by decide +kernel
theorem dX10_drift_55 : decode cX10_drift 55 = .ok (.ireturn, 1) := by decide +kernel
theorem dX10_undo_0 : decode cX10_undo 0 = .ok (.iload_n 1, 1) := by decide +kernel
theorem dX10_undo_1 : decode cX10_undo 1 = .ok (.i2l, 1) := by decide +kernel
theorem dX10_undo_2 : decode cX10_undo 2 = .ok (.lconst 1, 1) := by decide +kernel
theorem dX10_undo_3 : decode cX10_undo 3 = .ok (.ldc2_w 298, 3) := by decide +kernel
theorem dX10_undo_6 : decode cX10_undo 6 = .ok (.invokestatic 131, 3) := by decide +kernel
theorem dX10_undo_9 : decode cX10_undo 9 = .ok (.ifCond .ne 6, 3) := by decide +kernel
theorem dX10_undo_12 : decode cX10_undo 12 = .ok (.ldc 239, 2) := by decide +kernel
theorem dX10_undo_14 : decode cX10_undo 14 = .ok (.ireturn, 1) := by decide +kernel
theorem dX10_undo_15 : decode cX10_undo 15 = .ok (.iload_n 1, 1) := by decide +kernel
theorem dX10_undo_16 : decode cX10_undo 16 = .ok (.aload_n 0, 1) := by decide +kernel
theorem dX10_undo_17 : decode cX10_undo 17 = .ok (.getfield 105, 3) := by decide +kernel
theorem dX10_undo_20 : decode cX10_undo 20 = .ok (.if_icmp .le 7, 3) := by decide +kernel
theorem dX10_undo_23 : decode cX10_undo 23 = .ok (.ldc_w 300, 3) := by decide +kernel
theorem dX10_undo_26 : decode cX10_undo 26 = .ok (.ireturn, 1) := by decide +kernel
theorem dX10_undo_27 : decode cX10_undo 27 = .ok (.iconst 0, 1) := by decide +kernel
theorem dX10_undo_28 : decode cX10_undo 28 = .ok (.istore_n 2, 1) := by decide +kernel
theorem dX10_undo_29 : decode cX10_undo 29 = .ok (.iload_n 2, 1) := by decide +kernel
theorem dX10_undo_30 : decode cX10_undo 30 = .ok (.iload_n 1, 1) := by decide +kernel
theorem dX10_undo_31 : decode cX10_undo 31 = .ok (.iadd, 1) := by decide +kernel
theorem dX10_undo_32 : decode cX10_undo 32 = .ok (.bipush 16, 2) := by decide +kernel
theorem dX10_undo_34 : decode cX10_undo 34 = .ok (.if_icmp .gt 23, 3) := by decide +kernel
theorem dX10_undo_37 : decode cX10_undo 37 = .ok (.aload_n 0, 1) := by decide +kernel
theorem dX10_undo_38 : decode cX10_undo 38 = .ok (.bipush 10, 2) := by decide +kernel
theorem dX10_undo_40 : decode cX10_undo 40 = .ok (.iload_n 2, 1) := by decide +kernel
theorem dX10_undo_41 : decode cX10_undo 41 = .ok (.iload_n 1, 1) := by decide +kernel
theorem dX10_undo_42 : decode cX10_undo 42 = .ok (.iadd, 1) := by decide +kernel
theorem dX10_undo_43 : decode cX10_undo 43 = .ok (.imul, 1) := by decide +kernel
theorem dX10_undo_44 : decode cX10_undo 44 = .ok (.bipush 10, 2) := by decide +kernel
theorem dX10_undo_46 : decode cX10_undo 46 = .ok (.iload_n 2, 1) := by decide +kernel
theorem dX10_undo_47 : decode cX10_undo 47 = .ok (.imul, 1) := by decide +kernel
theorem dX10_undo_48 : decode cX10_undo 48 = .ok (.invokevirtual 101, 3) := by decide +kernel
theorem dX10_undo_51 : decode cX10_undo 51 = .ok (.iinc 2 1, 3) := by decide +kernel
theorem dX10_undo_54 : decode cX10_undo 54 = .ok (.goto (-25), 3) := by decide +kernel
theorem dX10_undo_57 : decode cX10_undo 57 = .ok (.aload_n 0, 1) := by decide +kernel
theorem dX10_undo_58 : decode cX10_undo 58 = .ok (.dup, 1) := by decide +kernel
theorem dX10_undo_59 : decode cX10_undo 59 = .ok (.getfield 105, 3) := by decide +kernel
theorem dX10_undo_62 : decode cX10_undo 62 = .ok (.iload_n 1, 1) := by decide +kernel
theorem dX10_undo_63 : decode cX10_undo 63 = .ok (.isub, 1) := by decide +kernel
theorem dX10_undo_64 : decode cX10_undo 64 = .ok (.putfield 105, 3) := by decide +kernel
theorem dX10_undo_67 : decode cX10_undo 67 = .ok (.aload_n 0, 1) := by decide +kernel
theorem dX10_undo_68 : decode cX10_undo 68 = .ok (.getfield 105, 3) := by decide +kernel
theorem dX10_undo_71 : decode cX10_undo 71 = .ok (.ireturn, 1) := by decide +kernel
theorem dX10_write_0 : decode cX10_write 0 = .ok (.iload_n 1, 1) := by decide +kernel
theorem dX10_write_1 : decode cX10_write 1 = .ok (.i2l, 1) := by decide +kernel
theorem dX10_write_2 : decode cX10_write 2 = .ok (.lconst 0, 1) := by decide +kernel
theorem dX10_write_3 : decode cX10_write 3 = .ok (.aload_n 0, 1) := by decide +kernel
theorem dX10_write_4 : decode cX10_write 4 = .ok (.getfield 95, 3) := by decide +kernel
theorem dX10_write_7 : decode cX10_write 7 = .ok (.iconst 1, 1) := by decide +kernel
theorem dX10_write_8 : decode cX10_write 8 = .ok (.isub, 1) := by decide +kernel
theorem dX10_write_9 : decode cX10_write 9 = .ok (.i2l, 1) := by decide +kernel
theorem dX10_write_10 : decode cX10_write 10 = .ok (.invokestatic 131, 3) := by decide +kernel
theorem dX10_write_13 : decode cX10_write 13 = .ok (.ifCond .ne 7, 3) := by decide +kernel
theorem dX10_write_16 : decode cX10_write 16 = .ok (.ldc_w 271, 3) := by decide +kernel
theorem dX10_write_19 : decode cX10_write 19 = .ok (.ireturn, 1) := by decide +kernel
theorem dX10_write_20 : decode cX10_write 20 = .ok (.iload_n 2, 1) := by decide +kernel
theorem dX10_write_21 : decode cX10_write 21 = .ok (.i2l, 1) := by decide +kernel
theorem dX10_write_22 : decode cX10_write 22 = .ok (.lconst 0, 1) := by decide +kernel
theorem dX10_write_23 : decode cX10_write 23 = .ok (.ldc2_w 278, 3) := by decide +kernel
theorem dX10_write_26 : decode cX10_write 26 = .ok (.invokestatic 131, 3) := by decide +kernel
theorem dX10_write_29 : decode cX10_write 29 = .ok (.ifCond .ne 6, 3) := by decide +kernel
theorem dX10_write_32 : decode cX10_write 32 = .ok (.ldc 239, 2) := by decide +kernel
theorem dX10_write_34 : decode cX10_write 34 = .ok (.ireturn, 1) := by decide +kernel
theorem dX10_write_35 : decode cX10_write 35 = .ok (.aload_n 0, 1) := by decide +kernel
theorem dX10_write_36 : decode cX10_write 36 = .ok (.getfield 247, 3) := by decide +kernel
theorem dX10_write_39 : decode cX10_write 39 = .ok (.bipush 20, 2) := by decide +kernel
theorem dX10_write_41 : decode cX10_write 41 = .ok (.if_icmp .ne 6, 3) := by decide +kernel
theorem dX10_write_44 : decode cX10_write 44 = .ok (.ldc 240, 2) := by decide +kernel
theorem dX10_write_46 : decode cX10_write 46 = .ok (.ireturn, 1) := by decide +kernel
theorem dX10_write_47 : decode cX10_write 47 = .ok (.aload_n 0, 1) := by decide +kernel
theorem dX10_write_48 : decode cX10_write 48 = .ok (.getfield 23, 3) := by decide +kernel
theorem dX10_write_51 : decode cX10_write 51 = .ok (.aload_n 0, 1) := by decide +kernel
theorem dX10_write_52 : decode cX10_write 52 = .ok (.getfield 247, 3) := by decide +kernel
theorem dX10_write_55 : decode cX10_write 55 = .ok (.iload_n 1, 1) := by decide +kernel
theorem dX10_write_56 : decode cX10_write 56 = .ok (.iastore, 1) := by decide +kernel
theorem dX10_write_57 : decode cX10_write 57 = .ok (.aload_n 0, 1) := by decide +kernel
theorem dX10_write_58 : decode cX10_write 58 = .ok (.getfield 26, 3) := by decide +kernel
theorem dX10_write_61 : decode cX10_write 61 = .ok (.aload_n 0, 1) := by decide +kernel
theorem dX10_write_62 : decode cX10_write 62 = .ok (.getfield 247, 3) := by decide +kernel
theorem dX10_write_65 : decode cX10_write 65 = .ok (.iload_n 2, 1) := by decide +kernel
theorem dX10_write_66 : decode cX10_write 66 = .ok (.iastore, 1) := by decide +kernel
theorem dX10_write_67 : decode cX10_write 67 = .ok (.aload_n 0, 1) := by decide +kernel
theorem dX10_write_68 : decode cX10_write 68 = .ok (.getfield 29, 3) := by decide +kernel
theorem dX10_write_71 : decode cX10_write 71 = .ok (.aload_n 0, 1) := by decide +kernel
theorem dX10_write_72 : decode cX10_write 72 = .ok (.getfield 247, 3) := by decide +kernel
theorem dX10_write_75 : decode cX10_write 75 = .ok (.iload_n 3, 1) := by decide +kernel
theorem dX10_write_76 : decode cX10_write 76 = .ok (.iastore, 1) := by decide +kernel
theorem dX10_write_77 : decode cX10_write 77 = .ok (.aload_n 0, 1) := by decide +kernel
theorem dX10_write_78 : decode cX10_write 78 = .ok (.dup, 1) := by decide +kernel
theorem dX10_write_79 : decode cX10_write 79 = .ok (.getfield 247, 3) := by decide +kernel
theorem dX10_write_82 : decode cX10_write 82 = .ok (.iconst 1, 1) := by decide +kernel
theorem dX10_write_83 : decode cX10_write 83 = .ok (.iadd, 1) := by decide +kernel
theorem dX10_write_84 : decode cX10_write 84 = .ok (.putfield 247, 3) := by decide +kernel
theorem dX10_write_87 : decode cX10_write 87 = .ok (.aload_n 0, 1) := by decide +kernel
theorem dX10_write_88 : decode cX10_write 88 = .ok (.getfield 247, 3) := by decide +kernel
theorem dX10_write_91 : decode cX10_write 91 = .ok (.ireturn, 1) := by decide +kernel
theorem dX10_tear_0 : decode cX10_tear 0 = .ok (.aload_n 0, 1) := by decide +kernel
theorem dX10_tear_1 : decode cX10_tear 1 = .ok (.getfield 247, 3) := by decide +kernel
theorem dX10_tear_4 : decode cX10_tear 4 = .ok (.istore_n 1, 1) := by decide +kernel
theorem dX10_tear_5 : decode cX10_tear 5 = .ok (.aload_n 0, 1) := by decide +kernel
theorem dX10_tear_6 : decode cX10_tear 6 = .ok (.iconst 0, 1) := by decide +kernel
theorem dX10_tear_7 : decode cX10_tear 7 = .ok (.putfield 247, 3) := by decide +kernel
theorem dX10_tear_10 : decode cX10_tear 10 = .ok (.iload_n 1, 1) := by decide +kernel
theorem dX10_tear_11 : decode cX10_tear 11 = .ok (.ireturn, 1) := by decide +kernel
theorem dX10_seed_0 : decode cX10_seed 0 = .ok (.iload_n 1, 1) := by decide +kernel
theorem dX10_seed_1 : decode cX10_seed 1 = .ok (.ifCond .ge 6, 3) := by decide +kernel
theorem dX10_seed_4 : decode cX10_seed 4 = .ok (.ldc 239, 2) := by decide +kernel
theorem dX10_seed_6 : decode cX10_seed 6 = .ok (.ireturn, 1) := by decide +kernel
theorem dX10_seed_7 : decode cX10_seed 7 = .ok (.aload_n 0, 1) := by decide +kernel
theorem dX10_seed_8 : decode cX10_seed 8 = .ok (.getfield 283, 3) := by decide +kernel
theorem dX10_seed_11 : decode cX10_seed 11 = .ok (.istore_n 2, 1) := by decide +kernel
theorem dX10_seed_12 : decode cX10_seed 12 = .ok (.aload_n 0, 1) := by decide +kernel
theorem dX10_seed_13 : decode cX10_seed 13 = .ok (.iload_n 1, 1) := by decide +kernel
theorem dX10_seed_14 : decode cX10_seed 14 = .ok (.putfield 283, 3) := by decide +kernel
theorem dX10_seed_17 : decode cX10_seed 17 = .ok (.iload_n 2, 1) := by decide +kernel
theorem dX10_seed_18 : decode cX10_seed 18 = .ok (.ireturn, 1) := by decide +kernel
theorem dX10_keep_0 : decode cX10_keep 0 = .ok (.iload_n 1, 1) := by decide +kernel
theorem dX10_keep_1 : decode cX10_keep 1 = .ok (.i2l, 1) := by decide +kernel
theorem dX10_keep_2 : decode cX10_keep 2 = .ok (.lconst 0, 1) := by decide +kernel
theorem dX10_keep_3 : decode cX10_keep 3 = .ok (.lconst 1, 1) := by decide +kernel
theorem dX10_keep_4 : decode cX10_keep 4 = .ok (.invokestatic 131, 3) := by decide +kernel
theorem dX10_keep_7 : decode cX10_keep 7 = .ok (.ifCond .ne 7, 3) := by decide +kernel
theorem dX10_keep_10 : decode cX10_keep 10 = .ok (.ldc_w 271, 3) := by decide +kernel
theorem dX10_keep_13 : decode cX10_keep 13 = .ok (.ireturn, 1) := by decide +kernel
theorem dX10_keep_14 : decode cX10_keep 14 = .ok (.aload_n 0, 1) := by decide +kernel
theorem dX10_keep_15 : decode cX10_keep 15 = .ok (.iconst 0, 1) := by decide +kernel
theorem dX10_keep_16 : decode cX10_keep 16 = .ok (.sipush 170, 3) := by decide +kernel
theorem dX10_keep_19 : decode cX10_keep 19 = .ok (.bipush 10, 2) := by decide +kernel
theorem dX10_keep_21 : decode cX10_keep 21 = .ok (.iload_n 1, 1) := by decide +kernel
theorem dX10_keep_22 : decode cX10_keep 22 = .ok (.imul, 1) := by decide +kernel
theorem dX10_keep_23 : decode cX10_keep 23 = .ok (.iadd, 1) := by decide +kernel
theorem dX10_keep_24 : decode cX10_keep 24 = .ok (.invokevirtual 101, 3) := by decide +kernel
theorem dX10_keep_27 : decode cX10_keep 27 = .ok (.aload_n 0, 1) := by decide +kernel
theorem dX10_keep_28 : decode cX10_keep 28 = .ok (.getfield 13, 3) := by decide +kernel
theorem dX10_keep_31 : decode cX10_keep 31 = .ok (.iload_n 1, 1) := by decide +kernel
theorem dX10_keep_32 : decode cX10_keep 32 = .ok (.aload_n 0, 1) := by decide +kernel
theorem dX10_keep_33 : decode cX10_keep 33 = .ok (.getfield 283, 3) := by decide +kernel
theorem dX10_keep_36 : decode cX10_keep 36 = .ok (.iastore, 1) := by decide +kernel
theorem dX10_keep_37 : decode cX10_keep 37 = .ok (.aload_n 0, 1) := by decide +kernel
theorem dX10_keep_38 : decode cX10_keep 38 = .ok (.dup, 1) := by decide +kernel
theorem dX10_keep_39 : decode cX10_keep 39 = .ok (.getfield 301, 3) := by decide +kernel
theorem dX10_keep_42 : decode cX10_keep 42 = .ok (.iconst 1, 1) := by decide +kernel
theorem dX10_keep_43 : decode cX10_keep 43 = .ok (.iload_n 1, 1) := by decide +kernel
theorem dX10_keep_44 : decode cX10_keep 44 = .ok (.ishl, 1) := by decide +kernel
theorem dX10_keep_45 : decode cX10_keep 45 = .ok (.ior, 1) := by decide +kernel
theorem dX10_keep_46 : decode cX10_keep 46 = .ok (.putfield 301, 3) := by decide +kernel
theorem dX10_keep_49 : decode cX10_keep 49 = .ok (.aload_n 0, 1) := by decide +kernel
theorem dX10_keep_50 : decode cX10_keep 50 = .ok (.iconst 0, 1) := by decide +kernel
theorem dX10_keep_51 : decode cX10_keep 51 = .ok (.putfield 105, 3) := by decide +kernel
theorem dX10_keep_54 : decode cX10_keep 54 = .ok (.iconst 1, 1) := by decide +kernel
theorem dX10_keep_55 : decode cX10_keep 55 = .ok (.ireturn, 1) := by decide +kernel
theorem dX10_goBack_0 : decode cX10_goBack 0 = .ok (.iload_n 1, 1) := by decide +kernel
theorem dX10_goBack_1 : decode cX10_goBack 1 = .ok (.i2l, 1) := by decide +kernel
theorem dX10_goBack_2 : decode cX10_goBack 2 = .ok (.lconst 0, 1) := by decide +kernel
theorem dX10_goBack_3 : decode cX10_goBack 3 = .ok (.lconst 1, 1) := by decide +kernel
theorem dX10_goBack_4 : decode cX10_goBack 4 = .ok (.invokestatic 131, 3) := by decide +kernel
theorem dX10_goBack_7 : decode cX10_goBack 7 = .ok (.ifCond .ne 7, 3) := by decide +kernel
theorem dX10_goBack_10 : decode cX10_goBack 10 = .ok (.ldc_w 271, 3) := by decide +kernel
theorem dX10_goBack_13 : decode cX10_goBack 13 = .ok (.ireturn, 1) := by decide +kernel
theorem dX10_goBack_14 : decode cX10_goBack 14 = .ok (.aload_n 0, 1) := by decide +kernel
theorem dX10_goBack_15 : decode cX10_goBack 15 = .ok (.getfield 301, 3) := by decide +kernel
theorem dX10_goBack_18 : decode cX10_goBack 18 = .ok (.iload_n 1, 1) := by decide +kernel
theorem dX10_goBack_19 : decode cX10_goBack 19 = .ok (.invokestatic 165, 3) := by decide +kernel
theorem dX10_goBack_22 : decode cX10_goBack 22 = .ok (.ifCond .eq 26, 3) := by decide +kernel
theorem dX10_goBack_25 : decode cX10_goBack 25 = .ok (.aload_n 0, 1) := by decide +kernel
theorem dX10_goBack_26 : decode cX10_goBack 26 = .ok (.getfield 7, 3) := by decide +kernel
theorem dX10_goBack_29 : decode cX10_goBack 29 = .ok (.sipush 170, 3) := by decide +kernel
theorem dX10_goBack_32 : decode cX10_goBack 32 = .ok (.bipush 10, 2) := by decide +kernel
theorem dX10_goBack_34 : decode cX10_goBack 34 = .ok (.iload_n 1, 1) := by decide +kernel
theorem dX10_goBack_35 : decode cX10_goBack 35 = .ok (.imul, 1) := by decide +kernel
theorem dX10_goBack_36 : decode cX10_goBack 36 = .ok (.iadd, 1) := by decide +kernel
theorem dX10_goBack_37 : decode cX10_goBack 37 = .ok (.bipush 8, 2) := by decide +kernel
theorem dX10_goBack_39 : decode cX10_goBack 39 = .ok (.iadd, 1) := by decide +kernel
theorem dX10_goBack_40 : decode cX10_goBack 40 = .ok (.iaload, 1) := by decide +kernel
theorem dX10_goBack_41 : decode cX10_goBack 41 = .ok (.aload_n 0, 1) := by decide +kernel
theorem dX10_goBack_42 : decode cX10_goBack 42 = .ok (.getfield 95, 3) := by decide +kernel
theorem dX10_goBack_45 : decode cX10_goBack 45 = .ok (.if_icmp .lt 7, 3) := by decide +kernel
theorem dX10_goBack_48 : decode cX10_goBack 48 = .ok (.ldc_w 300, 3) := by decide +kernel
theorem dX10_goBack_51 : decode cX10_goBack 51 = .ok (.ireturn, 1) := by decide +kernel
theorem dX10_goBack_52 : decode cX10_goBack 52 = .ok (.aload_n 0, 1) := by decide +kernel
theorem dX10_goBack_53 : decode cX10_goBack 53 = .ok (.sipush 170, 3) := by decide +kernel
theorem dX10_goBack_56 : decode cX10_goBack 56 = .ok (.bipush 10, 2) := by decide +kernel
theorem dX10_goBack_58 : decode cX10_goBack 58 = .ok (.iload_n 1, 1) := by decide +kernel
theorem dX10_goBack_59 : decode cX10_goBack 59 = .ok (.imul, 1) := by decide +kernel
theorem dX10_goBack_60 : decode cX10_goBack 60 = .ok (.iadd, 1) := by decide +kernel
theorem dX10_goBack_61 : decode cX10_goBack 61 = .ok (.iconst 0, 1) := by decide +kernel
theorem dX10_goBack_62 : decode cX10_goBack 62 = .ok (.invokevirtual 101, 3) := by decide +kernel
theorem dX10_goBack_65 : decode cX10_goBack 65 = .ok (.aload_n 0, 1) := by decide +kernel
theorem dX10_goBack_66 : decode cX10_goBack 66 = .ok (.aload_n 0, 1) := by decide +kernel
theorem dX10_goBack_67 : decode cX10_goBack 67 = .ok (.getfield 13, 3) := by decide +kernel
theorem dX10_goBack_70 : decode cX10_goBack 70 = .ok (.iload_n 1, 1) := by decide +kernel
theorem dX10_goBack_71 : decode cX10_goBack 71 = .ok (.iaload, 1) := by decide +kernel
theorem dX10_goBack_72 : decode cX10_goBack 72 = .ok (.putfield 283, 3) := by decide +kernel
theorem dX10_goBack_75 : decode cX10_goBack 75 = .ok (.aload_n 0, 1) := by decide +kernel
theorem dX10_goBack_76 : decode cX10_goBack 76 = .ok (.iconst 0, 1) := by decide +kernel
theorem dX10_goBack_77 : decode cX10_goBack 77 = .ok (.putfield 105, 3) := by decide +kernel
theorem dX10_goBack_80 : decode cX10_goBack 80 = .ok (.iconst 1, 1) := by decide +kernel
theorem dX10_goBack_81 : decode cX10_goBack 81 = .ok (.ireturn, 1) := by decide +kernel
theorem dJ9_floorMod_7cf53_0 : decode cJ9_floorMod_7cf53 0 = .ok (.iload_n 0, 1) := by decide +kernel
theorem dJ9_floorMod_7cf53_1 : decode cJ9_floorMod_7cf53 1 = .ok (.iload_n 1, 1) := by decide +kernel
theorem dJ9_floorMod_7cf53_2 : decode cJ9_floorMod_7cf53 2 = .ok (.irem, 1) := by decide +kernel
theorem dJ9_floorMod_7cf53_3 : decode cJ9_floorMod_7cf53 3 = .ok (.istore_n 2, 1) := by decide +kernel
theorem dJ9_floorMod_7cf53_4 : decode cJ9_floorMod_7cf53 4 = .ok (.iload_n 0, 1) := by decide +kernel
theorem dJ9_floorMod_7cf53_5 : decode cJ9_floorMod_7cf53 5 = .ok (.iload_n 1, 1) := by decide +kernel
theorem dJ9_floorMod_7cf53_6 : decode cJ9_floorMod_7cf53 6 = .ok (.ixor, 1) := by decide +kernel
theorem dJ9_floorMod_7cf53_7 : decode cJ9_floorMod_7cf53 7 = .ok (.ifCond .ge 11, 3) := by decide +kernel
theorem dJ9_floorMod_7cf53_10 : decode cJ9_floorMod_7cf53 10 = .ok (.iload_n 2, 1) := by decide +kernel
theorem dJ9_floorMod_7cf53_11 : decode cJ9_floorMod_7cf53 11 = .ok (.ifCond .eq 7, 3) := by decide +kernel
theorem dJ9_floorMod_7cf53_14 : decode cJ9_floorMod_7cf53 14 = .ok (.iload_n 2, 1) := by decide +kernel
theorem dJ9_floorMod_7cf53_15 : decode cJ9_floorMod_7cf53 15 = .ok (.iload_n 1, 1) := by decide +kernel
theorem dJ9_floorMod_7cf53_16 : decode cJ9_floorMod_7cf53 16 = .ok (.iadd, 1) := by decide +kernel
theorem dJ9_floorMod_7cf53_17 : decode cJ9_floorMod_7cf53 17 = .ok (.ireturn, 1) := by decide +kernel
theorem dJ9_floorMod_7cf53_18 : decode cJ9_floorMod_7cf53 18 = .ok (.iload_n 2, 1) := by decide +kernel
theorem dJ9_floorMod_7cf53_19 : decode cJ9_floorMod_7cf53 19 = .ok (.ireturn, 1) := by decide +kernel
theorem dJ9_max_7cf53_0 : decode cJ9_max_7cf53 0 = .ok (.iload_n 0, 1) := by decide +kernel
theorem dJ9_max_7cf53_1 : decode cJ9_max_7cf53 1 = .ok (.iload_n 1, 1) := by decide +kernel
theorem dJ9_max_7cf53_2 : decode cJ9_max_7cf53 2 = .ok (.if_icmp .lt 7, 3) := by decide +kernel
theorem dJ9_max_7cf53_5 : decode cJ9_max_7cf53 5 = .ok (.iload_n 0, 1) := by decide +kernel
theorem dJ9_max_7cf53_6 : decode cJ9_max_7cf53 6 = .ok (.goto 4, 3) := by decide +kernel
theorem dJ9_max_7cf53_9 : decode cJ9_max_7cf53 9 = .ok (.iload_n 1, 1) := by decide +kernel
theorem dJ9_max_7cf53_10 : decode cJ9_max_7cf53 10 = .ok (.ireturn, 1) := by decide +kernel
theorem dJ9_min_7cf53_0 : decode cJ9_min_7cf53 0 = .ok (.iload_n 0, 1) := by decide +kernel
theorem dJ9_min_7cf53_1 : decode cJ9_min_7cf53 1 = .ok (.iload_n 1, 1) := by decide +kernel
theorem dJ9_min_7cf53_2 : decode cJ9_min_7cf53 2 = .ok (.if_icmp .gt 7, 3) := by decide +kernel
theorem dJ9_min_7cf53_5 : decode cJ9_min_7cf53 5 = .ok (.iload_n 0, 1) := by decide +kernel
theorem dJ9_min_7cf53_6 : decode cJ9_min_7cf53 6 = .ok (.goto 4, 3) := by decide +kernel
theorem dJ9_min_7cf53_9 : decode cJ9_min_7cf53 9 = .ok (.iload_n 1, 1) := by decide +kernel
theorem dJ9_min_7cf53_10 : decode cJ9_min_7cf53 10 = .ok (.ireturn, 1) := by decide +kernel
theorem dL_law_0 : decode cL_law 0 = .ok (.new 7, 3) := by decide +kernel
theorem dL_law_3 : decode cL_law 3 = .ok (.dup, 1) := by decide +kernel
theorem dL_law_4 : decode cL_law 4 = .ok (.invokespecial 9, 3) := by decide +kernel
theorem dL_law_7 : decode cL_law 7 = .ok (.astore_n 1, 1) := by decide +kernel
theorem dL_law_8 : decode cL_law 8 = .ok (.new 10, 3) := by decide +kernel
theorem dL_law_11 : decode cL_law 11 = .ok (.dup, 1) := by decide +kernel
theorem dL_law_12 : decode cL_law 12 = .ok (.invokespecial 12, 3) := by decide +kernel
theorem dL_law_15 : decode cL_law 15 = .ok (.astore_n 2, 1) := by decide +kernel
theorem dL_law_16 : decode cL_law 16 = .ok (.iconst 0, 1) := by decide +kernel
theorem dL_law_17 : decode cL_law 17 = .ok (.istore_n 3, 1) := by decide +kernel
theorem dL_law_18 : decode cL_law 18 = .ok (.iload_n 3, 1) := by decide +kernel
theorem dL_law_19 : decode cL_law 19 = .ok (.aload_n 0, 1) := by decide +kernel
theorem dL_law_20 : decode cL_law 20 = .ok (.arraylength, 1) := by decide +kernel
theorem dL_law_21 : decode cL_law 21 = .ok (.iconst 4, 1) := by decide +kernel
theorem dL_law_22 : decode cL_law 22 = .ok (.isub, 1) := by decide +kernel
theorem dL_law_23 : decode cL_law 23 = .ok (.if_icmp .gt 500, 3) := by decide +kernel
theorem dL_law_26 : decode cL_law 26 = .ok (.aload_n 0, 1) := by decide +kernel
theorem dL_law_27 : decode cL_law 27 = .ok (.iload_n 3, 1) := by decide +kernel
theorem dL_law_28 : decode cL_law 28 = .ok (.iaload, 1) := by decide +kernel
theorem dL_law_29 : decode cL_law 29 = .ok (.bipush 31, 2) := by decide +kernel
theorem dL_law_31 : decode cL_law 31 = .ok (.iand, 1) := by decide +kernel
theorem dL_law_32 : decode cL_law 32 = .ok (.tableswitch 485 0 16 #[84, 107, 120, 133, 156, 179, 212, 235, 268, 301, 314, 337, 360, 403, 416, 439, 462], 84) := by decide +kernel
theorem dL_law_116 : decode cL_law 116 = .ok (.aload_n 1, 1) := by decide +kernel
theorem dL_law_117 : decode cL_law 117 = .ok (.aload_n 0, 1) := by decide +kernel
theorem dL_law_118 : decode cL_law 118 = .ok (.iload_n 3, 1) := by decide +kernel
theorem dL_law_119 : decode cL_law 119 = .ok (.iconst 1, 1) := by decide +kernel
theorem dL_law_120 : decode cL_law 120 = .ok (.iadd, 1) := by decide +kernel
theorem dL_law_121 : decode cL_law 121 = .ok (.iaload, 1) := by decide +kernel
theorem dL_law_122 : decode cL_law 122 = .ok (.invokevirtual 13, 3) := by decide +kernel
theorem dL_law_125 : decode cL_law 125 = .ok (.aload_n 2, 1) := by decide +kernel
theorem dL_law_126 : decode cL_law 126 = .ok (.aload_n 0, 1) := by decide +kernel
theorem dL_law_127 : decode cL_law 127 = .ok (.iload_n 3, 1) := by decide +kernel
theorem dL_law_128 : decode cL_law 128 = .ok (.iconst 1, 1) := by decide +kernel
theorem dL_law_129 : decode cL_law 129 = .ok (.iadd, 1) := by decide +kernel
theorem dL_law_130 : decode cL_law 130 = .ok (.iaload, 1) := by decide +kernel
theorem dL_law_131 : decode cL_law 131 = .ok (.invokevirtual 17, 3) := by decide +kernel
theorem dL_law_134 : decode cL_law 134 = .ok (.if_icmp .eq 383, 3) := by decide +kernel
theorem dL_law_137 : decode cL_law 137 = .ok (.iconst 0, 1) := by decide +kernel
theorem dL_law_138 : decode cL_law 138 = .ok (.ireturn, 1) := by decide +kernel
theorem dL_law_139 : decode cL_law 139 = .ok (.aload_n 1, 1) := by decide +kernel
theorem dL_law_140 : decode cL_law 140 = .ok (.invokevirtual 18, 3) := by decide +kernel
theorem dL_law_143 : decode cL_law 143 = .ok (.aload_n 2, 1) := by decide +kernel
theorem dL_law_144 : decode cL_law 144 = .ok (.invokevirtual 22, 3) := by decide +kernel
theorem dL_law_147 : decode cL_law 147 = .ok (.if_icmp .eq 370, 3) := by decide +kernel
theorem dL_law_150 : decode cL_law 150 = .ok (.iconst 0, 1) := by decide +kernel
theorem dL_law_151 : decode cL_law 151 = .ok (.ireturn, 1) := by decide +kernel
theorem dL_law_152 : decode cL_law 152 = .ok (.aload_n 1, 1) := by decide +kernel
theorem dL_law_153 : decode cL_law 153 = .ok (.invokevirtual 23, 3) := by decide +kernel
theorem dL_law_156 : decode cL_law 156 = .ok (.aload_n 2, 1) := by decide +kernel
theorem dL_law_157 : decode cL_law 157 = .ok (.invokevirtual 26, 3) := by decide +kernel
theorem dL_law_160 : decode cL_law 160 = .ok (.if_icmp .eq 357, 3) := by decide +kernel
theorem dL_law_163 : decode cL_law 163 = .ok (.iconst 0, 1) := by decide +kernel
theorem dL_law_164 : decode cL_law 164 = .ok (.ireturn, 1) := by decide +kernel
theorem dL_law_165 : decode cL_law 165 = .ok (.aload_n 1, 1) := by decide +kernel
theorem dL_law_166 : decode cL_law 166 = .ok (.aload_n 0, 1) := by decide +kernel
theorem dL_law_167 : decode cL_law 167 = .ok (.iload_n 3, 1) := by decide +kernel
theorem dL_law_168 : decode cL_law 168 = .ok (.iconst 1, 1) := by decide +kernel
theorem dL_law_169 : decode cL_law 169 = .ok (.iadd, 1) := by decide +kernel
theorem dL_law_170 : decode cL_law 170 = .ok (.iaload, 1) := by decide +kernel
theorem dL_law_171 : decode cL_law 171 = .ok (.invokevirtual 27, 3) := by decide +kernel
theorem dL_law_174 : decode cL_law 174 = .ok (.aload_n 2, 1) := by decide +kernel
theorem dL_law_175 : decode cL_law 175 = .ok (.aload_n 0, 1) := by decide +kernel
theorem dL_law_176 : decode cL_law 176 = .ok (.iload_n 3, 1) := by decide +kernel
theorem dL_law_177 : decode cL_law 177 = .ok (.iconst 1, 1) := by decide +kernel
theorem dL_law_178 : decode cL_law 178 = .ok (.iadd, 1) := by decide +kernel
theorem dL_law_179 : decode cL_law 179 = .ok (.iaload, 1) := by decide +kernel
theorem dL_law_180 : decode cL_law 180 = .ok (.invokevirtual 30, 3) := by decide +kernel
theorem dL_law_183 : decode cL_law 183 = .ok (.if_icmp .eq 334, 3) := by decide +kernel
theorem dL_law_186 : decode cL_law 186 = .ok (.iconst 0, 1) := by decide +kernel
theorem dL_law_187 : decode cL_law 187 = .ok (.ireturn, 1) := by decide +kernel
theorem dL_law_188 : decode cL_law 188 = .ok (.aload_n 1, 1) := by decide +kernel
theorem dL_law_189 : decode cL_law 189 = .ok (.aload_n 0, 1) := by decide +kernel
theorem dL_law_190 : decode cL_law 190 = .ok (.iload_n 3, 1) := by decide +kernel
theorem dL_law_191 : decode cL_law 191 = .ok (.iconst 1, 1) := by decide +kernel
theorem dL_law_192 : decode cL_law 192 = .ok (.iadd, 1) := by decide +kernel
theorem dL_law_193 : decode cL_law 193 = .ok (.iaload, 1) := by decide +kernel
theorem dL_law_194 : decode cL_law 194 = .ok (.invokevirtual 31, 3) := by decide +kernel
theorem dL_law_197 : decode cL_law 197 = .ok (.aload_n 2, 1) := by decide +kernel
theorem dL_law_198 : decode cL_law 198 = .ok (.aload_n 0, 1) := by decide +kernel
theorem dL_law_199 : decode cL_law 199 = .ok (.iload_n 3, 1) := by decide +kernel
theorem dL_law_200 : decode cL_law 200 = .ok (.iconst 1, 1) := by decide +kernel
theorem dL_law_201 : decode cL_law 201 = .ok (.iadd, 1) := by decide +kernel
theorem dL_law_202 : decode cL_law 202 = .ok (.iaload, 1) := by decide +kernel
theorem dL_law_203 : decode cL_law 203 = .ok (.invokevirtual 34, 3) := by decide +kernel
theorem dL_law_206 : decode cL_law 206 = .ok (.if_icmp .eq 311, 3) := by decide +kernel
theorem dL_law_209 : decode cL_law 209 = .ok (.iconst 0, 1) := by decide +kernel
theorem dL_law_210 : decode cL_law 210 = .ok (.ireturn, 1) := by decide +kernel
theorem dL_law_211 : decode cL_law 211 = .ok (.aload_n 1, 1) := by decide +kernel
theorem dL_law_212 : decode cL_law 212 = .ok (.aload_n 0, 1) := by decide +kernel
theorem dL_law_213 : decode cL_law 213 = .ok (.iload_n 3, 1) := by decide +kernel
theorem dL_law_214 : decode cL_law 214 = .ok (.iconst 1, 1) := by decide +kernel
theorem dL_law_215 : decode cL_law 215 = .ok (.iadd, 1) := by decide +kernel
theorem dL_law_216 : decode cL_law 216 = .ok (.iaload, 1) := by decide +kernel
theorem dL_law_217 : decode cL_law 217 = .ok (.aload_n 0, 1) := by decide +kernel
theorem dL_law_218 : decode cL_law 218 = .ok (.iload_n 3, 1) := by decide +kernel
theorem dL_law_219 : decode cL_law 219 = .ok (.iconst 2, 1) := by decide +kernel
theorem dL_law_220 : decode cL_law 220 = .ok (.iadd, 1) := by decide +kernel
theorem dL_law_221 : decode cL_law 221 = .ok (.iaload, 1) := by decide +kernel
theorem dL_law_222 : decode cL_law 222 = .ok (.invokevirtual 35, 3) := by decide +kernel
theorem dL_law_225 : decode cL_law 225 = .ok (.aload_n 2, 1) := by decide +kernel
theorem dL_law_226 : decode cL_law 226 = .ok (.aload_n 0, 1) := by decide +kernel
theorem dL_law_227 : decode cL_law 227 = .ok (.iload_n 3, 1) := by decide +kernel
theorem dL_law_228 : decode cL_law 228 = .ok (.iconst 1, 1) := by decide +kernel
theorem dL_law_229 : decode cL_law 229 = .ok (.iadd, 1) := by decide +kernel
theorem dL_law_230 : decode cL_law 230 = .ok (.iaload, 1) := by decide +kernel
theorem dL_law_231 : decode cL_law 231 = .ok (.aload_n 0, 1) := by decide +kernel
theorem dL_law_232 : decode cL_law 232 = .ok (.iload_n 3, 1) := by decide +kernel
theorem dL_law_233 : decode cL_law 233 = .ok (.iconst 2, 1) := by decide +kernel
theorem dL_law_234 : decode cL_law 234 = .ok (.iadd, 1) := by decide +kernel
theorem dL_law_235 : decode cL_law 235 = .ok (.iaload, 1) := by decide +kernel
theorem dL_law_236 : decode cL_law 236 = .ok (.invokevirtual 39, 3) := by decide +kernel
theorem dL_law_239 : decode cL_law 239 = .ok (.if_icmp .eq 278, 3) := by decide +kernel
theorem dL_law_242 : decode cL_law 242 = .ok (.iconst 0, 1) := by decide +kernel
theorem dL_law_243 : decode cL_law 243 = .ok (.ireturn, 1) := by decide +kernel
theorem dL_law_244 : decode cL_law 244 = .ok (.aload_n 1, 1) := by decide +kernel
theorem dL_law_245 : decode cL_law 245 = .ok (.aload_n 0, 1) := by decide +kernel
theorem dL_law_246 : decode cL_law 246 = .ok (.iload_n 3, 1) := by decide +kernel
theorem dL_law_247 : decode cL_law 247 = .ok (.iconst 1, 1) := by decide +kernel
theorem dL_law_248 : decode cL_law 248 = .ok (.iadd, 1) := by decide +kernel
theorem dL_law_249 : decode cL_law 249 = .ok (.iaload, 1) := by decide +kernel
theorem dL_law_250 : decode cL_law 250 = .ok (.invokevirtual 40, 3) := by decide +kernel
theorem dL_law_253 : decode cL_law 253 = .ok (.aload_n 2, 1) := by decide +kernel
theorem dL_law_254 : decode cL_law 254 = .ok (.aload_n 0, 1) := by decide +kernel
theorem dL_law_255 : decode cL_law 255 = .ok (.iload_n 3, 1) := by decide +kernel
theorem dL_law_256 : decode cL_law 256 = .ok (.iconst 1, 1) := by decide +kernel
theorem dL_law_257 : decode cL_law 257 = .ok (.iadd, 1) := by decide +kernel
theorem dL_law_258 : decode cL_law 258 = .ok (.iaload, 1) := by decide +kernel
theorem dL_law_259 : decode cL_law 259 = .ok (.invokevirtual 43, 3) := by decide +kernel
theorem dL_law_262 : decode cL_law 262 = .ok (.if_icmp .eq 255, 3) := by decide +kernel
theorem dL_law_265 : decode cL_law 265 = .ok (.iconst 0, 1) := by decide +kernel
theorem dL_law_266 : decode cL_law 266 = .ok (.ireturn, 1) := by decide +kernel
theorem dL_law_267 : decode cL_law 267 = .ok (.aload_n 1, 1) := by decide +kernel
theorem dL_law_268 : decode cL_law 268 = .ok (.aload_n 0, 1) := by decide +kernel
theorem dL_law_269 : decode cL_law 269 = .ok (.iload_n 3, 1) := by decide +kernel
theorem dL_law_270 : decode cL_law 270 = .ok (.iconst 1, 1) := by decide +kernel
theorem dL_law_271 : decode cL_law 271 = .ok (.iadd, 1) := by decide +kernel
theorem dL_law_272 : decode cL_law 272 = .ok (.iaload, 1) := by decide +kernel
theorem dL_law_273 : decode cL_law 273 = .ok (.aload_n 0, 1) := by decide +kernel
theorem dL_law_274 : decode cL_law 274 = .ok (.iload_n 3, 1) := by decide +kernel
theorem dL_law_275 : decode cL_law 275 = .ok (.iconst 2, 1) := by decide +kernel
theorem dL_law_276 : decode cL_law 276 = .ok (.iadd, 1) := by decide +kernel
theorem dL_law_277 : decode cL_law 277 = .ok (.iaload, 1) := by decide +kernel
theorem dL_law_278 : decode cL_law 278 = .ok (.invokevirtual 44, 3) := by decide +kernel
theorem dL_law_281 : decode cL_law 281 = .ok (.aload_n 2, 1) := by decide +kernel
theorem dL_law_282 : decode cL_law 282 = .ok (.aload_n 0, 1) := by decide +kernel
theorem dL_law_283 : decode cL_law 283 = .ok (.iload_n 3, 1) := by decide +kernel
theorem dL_law_284 : decode cL_law 284 = .ok (.iconst 1, 1) := by decide +kernel
theorem dL_law_285 : decode cL_law 285 = .ok (.iadd, 1) := by decide +kernel
theorem dL_law_286 : decode cL_law 286 = .ok (.iaload, 1) := by decide +kernel
theorem dL_law_287 : decode cL_law 287 = .ok (.aload_n 0, 1) := by decide +kernel
theorem dL_law_288 : decode cL_law 288 = .ok (.iload_n 3, 1) := by decide +kernel
theorem dL_law_289 : decode cL_law 289 = .ok (.iconst 2, 1) := by decide +kernel
theorem dL_law_290 : decode cL_law 290 = .ok (.iadd, 1) := by decide +kernel
theorem dL_law_291 : decode cL_law 291 = .ok (.iaload, 1) := by decide +kernel
theorem dL_law_292 : decode cL_law 292 = .ok (.invokevirtual 47, 3) := by decide +kernel
theorem dL_law_295 : decode cL_law 295 = .ok (.if_icmp .eq 222, 3) := by decide +kernel
theorem dL_law_298 : decode cL_law 298 = .ok (.iconst 0, 1) := by decide +kernel
theorem dL_law_299 : decode cL_law 299 = .ok (.ireturn, 1) := by decide +kernel
theorem dL_law_300 : decode cL_law 300 = .ok (.aload_n 1, 1) := by decide +kernel
theorem dL_law_301 : decode cL_law 301 = .ok (.aload_n 0, 1) := by decide +kernel
theorem dL_law_302 : decode cL_law 302 = .ok (.iload_n 3, 1) := by decide +kernel
theorem dL_law_303 : decode cL_law 303 = .ok (.iconst 1, 1) := by decide +kernel
theorem dL_law_304 : decode cL_law 304 = .ok (.iadd, 1) := by decide +kernel
theorem dL_law_305 : decode cL_law 305 = .ok (.iaload, 1) := by decide +kernel
theorem dL_law_306 : decode cL_law 306 = .ok (.aload_n 0, 1) := by decide +kernel
theorem dL_law_307 : decode cL_law 307 = .ok (.iload_n 3, 1) := by decide +kernel
theorem dL_law_308 : decode cL_law 308 = .ok (.iconst 2, 1) := by decide +kernel
theorem dL_law_309 : decode cL_law 309 = .ok (.iadd, 1) := by decide +kernel
theorem dL_law_310 : decode cL_law 310 = .ok (.iaload, 1) := by decide +kernel
theorem dL_law_311 : decode cL_law 311 = .ok (.invokevirtual 48, 3) := by decide +kernel
theorem dL_law_314 : decode cL_law 314 = .ok (.aload_n 2, 1) := by decide +kernel
theorem dL_law_315 : decode cL_law 315 = .ok (.aload_n 0, 1) := by decide +kernel
theorem dL_law_316 : decode cL_law 316 = .ok (.iload_n 3, 1) := by decide +kernel
theorem dL_law_317 : decode cL_law 317 = .ok (.iconst 1, 1) := by decide +kernel
theorem dL_law_318 : decode cL_law 318 = .ok (.iadd, 1) := by decide +kernel
theorem dL_law_319 : decode cL_law 319 = .ok (.iaload, 1) := by decide +kernel
theorem dL_law_320 : decode cL_law 320 = .ok (.aload_n 0, 1) := by decide +kernel
theorem dL_law_321 : decode cL_law 321 = .ok (.iload_n 3, 1) := by decide +kernel
theorem dL_law_322 : decode cL_law 322 = .ok (.iconst 2, 1) := by decide +kernel
theorem dL_law_323 : decode cL_law 323 = .ok (.iadd, 1) := by decide +kernel
theorem dL_law_324 : decode cL_law 324 = .ok (.iaload, 1) := by decide +kernel
theorem dL_law_325 : decode cL_law 325 = .ok (.invokevirtual 51, 3) := by decide +kernel
theorem dL_law_328 : decode cL_law 328 = .ok (.if_icmp .eq 189, 3) := by decide +kernel
theorem dL_law_331 : decode cL_law 331 = .ok (.iconst 0, 1) := by decide +kernel
theorem dL_law_332 : decode cL_law 332 = .ok (.ireturn, 1) := by decide +kernel
theorem dL_law_333 : decode cL_law 333 = .ok (.aload_n 1, 1) := by decide +kernel
theorem dL_law_334 : decode cL_law 334 = .ok (.invokevirtual 52, 3) := by decide +kernel
theorem dL_law_337 : decode cL_law 337 = .ok (.aload_n 2, 1) := by decide +kernel
theorem dL_law_338 : decode cL_law 338 = .ok (.invokevirtual 55, 3) := by decide +kernel
theorem dL_law_341 : decode cL_law 341 = .ok (.if_icmp .eq 176, 3) := by decide +kernel
theorem dL_law_344 : decode cL_law 344 = .ok (.iconst 0, 1) := by decide +kernel
theorem dL_law_345 : decode cL_law 345 = .ok (.ireturn, 1) := by decide +kernel
theorem dL_law_346 : decode cL_law 346 = .ok (.aload_n 1, 1) := by decide +kernel
theorem dL_law_347 : decode cL_law 347 = .ok (.aload_n 0, 1) := by decide +kernel
theorem dL_law_348 : decode cL_law 348 = .ok (.iload_n 3, 1) := by decide +kernel
theorem dL_law_349 : decode cL_law 349 = .ok (.iconst 1, 1) := by decide +kernel
theorem dL_law_350 : decode cL_law 350 = .ok (.iadd, 1) := by decide +kernel
theorem dL_law_351 : decode cL_law 351 = .ok (.iaload, 1) := by decide +kernel
theorem dL_law_352 : decode cL_law 352 = .ok (.invokevirtual 56, 3) := by decide +kernel
theorem dL_law_355 : decode cL_law 355 = .ok (.aload_n 2, 1) := by decide +kernel
theorem dL_law_356 : decode cL_law 356 = .ok (.aload_n 0, 1) := by decide +kernel
theorem dL_law_357 : decode cL_law 357 = .ok (.iload_n 3, 1) := by decide +kernel
theorem dL_law_358 : decode cL_law 358 = .ok (.iconst 1, 1) := by decide +kernel
theorem dL_law_359 : decode cL_law 359 = .ok (.iadd, 1) := by decide +kernel
theorem dL_law_360 : decode cL_law 360 = .ok (.iaload, 1) := by decide +kernel
theorem dL_law_361 : decode cL_law 361 = .ok (.invokevirtual 59, 3) := by decide +kernel
theorem dL_law_364 : decode cL_law 364 = .ok (.if_icmp .eq 153, 3) := by decide +kernel
theorem dL_law_367 : decode cL_law 367 = .ok (.iconst 0, 1) := by decide +kernel
theorem dL_law_368 : decode cL_law 368 = .ok (.ireturn, 1) := by decide +kernel
theorem dL_law_369 : decode cL_law 369 = .ok (.aload_n 1, 1) := by decide +kernel
theorem dL_law_370 : decode cL_law 370 = .ok (.aload_n 0, 1) := by decide +kernel
theorem dL_law_371 : decode cL_law 371 = .ok (.iload_n 3, 1) := by decide +kernel
theorem dL_law_372 : decode cL_law 372 = .ok (.iconst 1, 1) := by decide +kernel
theorem dL_law_373 : decode cL_law 373 = .ok (.iadd, 1) := by decide +kernel
theorem dL_law_374 : decode cL_law 374 = .ok (.iaload, 1) := by decide +kernel
theorem dL_law_375 : decode cL_law 375 = .ok (.invokevirtual 60, 3) := by decide +kernel
theorem dL_law_378 : decode cL_law 378 = .ok (.aload_n 2, 1) := by decide +kernel
theorem dL_law_379 : decode cL_law 379 = .ok (.aload_n 0, 1) := by decide +kernel
theorem dL_law_380 : decode cL_law 380 = .ok (.iload_n 3, 1) := by decide +kernel
theorem dL_law_381 : decode cL_law 381 = .ok (.iconst 1, 1) := by decide +kernel
theorem dL_law_382 : decode cL_law 382 = .ok (.iadd, 1) := by decide +kernel
theorem dL_law_383 : decode cL_law 383 = .ok (.iaload, 1) := by decide +kernel
theorem dL_law_384 : decode cL_law 384 = .ok (.invokevirtual 63, 3) := by decide +kernel
theorem dL_law_387 : decode cL_law 387 = .ok (.if_icmp .eq 130, 3) := by decide +kernel
theorem dL_law_390 : decode cL_law 390 = .ok (.iconst 0, 1) := by decide +kernel
theorem dL_law_391 : decode cL_law 391 = .ok (.ireturn, 1) := by decide +kernel
theorem dL_law_392 : decode cL_law 392 = .ok (.aload_n 1, 1) := by decide +kernel
theorem dL_law_393 : decode cL_law 393 = .ok (.aload_n 0, 1) := by decide +kernel
theorem dL_law_394 : decode cL_law 394 = .ok (.iload_n 3, 1) := by decide +kernel
theorem dL_law_395 : decode cL_law 395 = .ok (.iconst 1, 1) := by decide +kernel
theorem dL_law_396 : decode cL_law 396 = .ok (.iadd, 1) := by decide +kernel
theorem dL_law_397 : decode cL_law 397 = .ok (.iaload, 1) := by decide +kernel
theorem dL_law_398 : decode cL_law 398 = .ok (.aload_n 0, 1) := by decide +kernel
theorem dL_law_399 : decode cL_law 399 = .ok (.iload_n 3, 1) := by decide +kernel
theorem dL_law_400 : decode cL_law 400 = .ok (.iconst 2, 1) := by decide +kernel
theorem dL_law_401 : decode cL_law 401 = .ok (.iadd, 1) := by decide +kernel
theorem dL_law_402 : decode cL_law 402 = .ok (.iaload, 1) := by decide +kernel
theorem dL_law_403 : decode cL_law 403 = .ok (.aload_n 0, 1) := by decide +kernel
theorem dL_law_404 : decode cL_law 404 = .ok (.iload_n 3, 1) := by decide +kernel
theorem dL_law_405 : decode cL_law 405 = .ok (.iconst 3, 1) := by decide +kernel
theorem dL_law_406 : decode cL_law 406 = .ok (.iadd, 1) := by decide +kernel
theorem dL_law_407 : decode cL_law 407 = .ok (.iaload, 1) := by decide +kernel
theorem dL_law_408 : decode cL_law 408 = .ok (.invokevirtual 64, 3) := by decide +kernel
theorem dL_law_411 : decode cL_law 411 = .ok (.aload_n 2, 1) := by decide +kernel
theorem dL_law_412 : decode cL_law 412 = .ok (.aload_n 0, 1) := by decide +kernel
theorem dL_law_413 : decode cL_law 413 = .ok (.iload_n 3, 1) := by decide +kernel
theorem dL_law_414 : decode cL_law 414 = .ok (.iconst 1, 1) := by decide +kernel
theorem dL_law_415 : decode cL_law 415 = .ok (.iadd, 1) := by decide +kernel
theorem dL_law_416 : decode cL_law 416 = .ok (.iaload, 1) := by decide +kernel
theorem dL_law_417 : decode cL_law 417 = .ok (.aload_n 0, 1) := by decide +kernel
theorem dL_law_418 : decode cL_law 418 = .ok (.iload_n 3, 1) := by decide +kernel
theorem dL_law_419 : decode cL_law 419 = .ok (.iconst 2, 1) := by decide +kernel
theorem dL_law_420 : decode cL_law 420 = .ok (.iadd, 1) := by decide +kernel
theorem dL_law_421 : decode cL_law 421 = .ok (.iaload, 1) := by decide +kernel
theorem dL_law_422 : decode cL_law 422 = .ok (.aload_n 0, 1) := by decide +kernel
theorem dL_law_423 : decode cL_law 423 = .ok (.iload_n 3, 1) := by decide +kernel
theorem dL_law_424 : decode cL_law 424 = .ok (.iconst 3, 1) := by decide +kernel
theorem dL_law_425 : decode cL_law 425 = .ok (.iadd, 1) := by decide +kernel
theorem dL_law_426 : decode cL_law 426 = .ok (.iaload, 1) := by decide +kernel
theorem dL_law_427 : decode cL_law 427 = .ok (.invokevirtual 68, 3) := by decide +kernel
theorem dL_law_430 : decode cL_law 430 = .ok (.if_icmp .eq 87, 3) := by decide +kernel
theorem dL_law_433 : decode cL_law 433 = .ok (.iconst 0, 1) := by decide +kernel
theorem dL_law_434 : decode cL_law 434 = .ok (.ireturn, 1) := by decide +kernel
theorem dL_law_435 : decode cL_law 435 = .ok (.aload_n 1, 1) := by decide +kernel
theorem dL_law_436 : decode cL_law 436 = .ok (.invokevirtual 69, 3) := by decide +kernel
theorem dL_law_439 : decode cL_law 439 = .ok (.aload_n 2, 1) := by decide +kernel
theorem dL_law_440 : decode cL_law 440 = .ok (.invokevirtual 72, 3) := by decide +kernel
theorem dL_law_443 : decode cL_law 443 = .ok (.if_icmp .eq 74, 3) := by decide +kernel
theorem dL_law_446 : decode cL_law 446 = .ok (.iconst 0, 1) := by decide +kernel
theorem dL_law_447 : decode cL_law 447 = .ok (.ireturn, 1) := by decide +kernel
theorem dL_law_448 : decode cL_law 448 = .ok (.aload_n 1, 1) := by decide +kernel
theorem dL_law_449 : decode cL_law 449 = .ok (.aload_n 0, 1) := by decide +kernel
theorem dL_law_450 : decode cL_law 450 = .ok (.iload_n 3, 1) := by decide +kernel
theorem dL_law_451 : decode cL_law 451 = .ok (.iconst 1, 1) := by decide +kernel
theorem dL_law_452 : decode cL_law 452 = .ok (.iadd, 1) := by decide +kernel
theorem dL_law_453 : decode cL_law 453 = .ok (.iaload, 1) := by decide +kernel
theorem dL_law_454 : decode cL_law 454 = .ok (.invokevirtual 73, 3) := by decide +kernel
theorem dL_law_457 : decode cL_law 457 = .ok (.aload_n 2, 1) := by decide +kernel
theorem dL_law_458 : decode cL_law 458 = .ok (.aload_n 0, 1) := by decide +kernel
theorem dL_law_459 : decode cL_law 459 = .ok (.iload_n 3, 1) := by decide +kernel
theorem dL_law_460 : decode cL_law 460 = .ok (.iconst 1, 1) := by decide +kernel
theorem dL_law_461 : decode cL_law 461 = .ok (.iadd, 1) := by decide +kernel
theorem dL_law_462 : decode cL_law 462 = .ok (.iaload, 1) := by decide +kernel
theorem dL_law_463 : decode cL_law 463 = .ok (.invokevirtual 76, 3) := by decide +kernel
theorem dL_law_466 : decode cL_law 466 = .ok (.if_icmp .eq 51, 3) := by decide +kernel
theorem dL_law_469 : decode cL_law 469 = .ok (.iconst 0, 1) := by decide +kernel
theorem dL_law_470 : decode cL_law 470 = .ok (.ireturn, 1) := by decide +kernel
theorem dL_law_471 : decode cL_law 471 = .ok (.aload_n 1, 1) := by decide +kernel
theorem dL_law_472 : decode cL_law 472 = .ok (.aload_n 0, 1) := by decide +kernel
theorem dL_law_473 : decode cL_law 473 = .ok (.iload_n 3, 1) := by decide +kernel
theorem dL_law_474 : decode cL_law 474 = .ok (.iconst 1, 1) := by decide +kernel
theorem dL_law_475 : decode cL_law 475 = .ok (.iadd, 1) := by decide +kernel
theorem dL_law_476 : decode cL_law 476 = .ok (.iaload, 1) := by decide +kernel
theorem dL_law_477 : decode cL_law 477 = .ok (.invokevirtual 77, 3) := by decide +kernel
theorem dL_law_480 : decode cL_law 480 = .ok (.aload_n 2, 1) := by decide +kernel
theorem dL_law_481 : decode cL_law 481 = .ok (.aload_n 0, 1) := by decide +kernel
theorem dL_law_482 : decode cL_law 482 = .ok (.iload_n 3, 1) := by decide +kernel
theorem dL_law_483 : decode cL_law 483 = .ok (.iconst 1, 1) := by decide +kernel
theorem dL_law_484 : decode cL_law 484 = .ok (.iadd, 1) := by decide +kernel
theorem dL_law_485 : decode cL_law 485 = .ok (.iaload, 1) := by decide +kernel
theorem dL_law_486 : decode cL_law 486 = .ok (.invokevirtual 80, 3) := by decide +kernel
theorem dL_law_489 : decode cL_law 489 = .ok (.if_icmp .eq 28, 3) := by decide +kernel
theorem dL_law_492 : decode cL_law 492 = .ok (.iconst 0, 1) := by decide +kernel
theorem dL_law_493 : decode cL_law 493 = .ok (.ireturn, 1) := by decide +kernel
theorem dL_law_494 : decode cL_law 494 = .ok (.aload_n 1, 1) := by decide +kernel
theorem dL_law_495 : decode cL_law 495 = .ok (.aload_n 0, 1) := by decide +kernel
theorem dL_law_496 : decode cL_law 496 = .ok (.iload_n 3, 1) := by decide +kernel
theorem dL_law_497 : decode cL_law 497 = .ok (.iconst 1, 1) := by decide +kernel
theorem dL_law_498 : decode cL_law 498 = .ok (.iadd, 1) := by decide +kernel
theorem dL_law_499 : decode cL_law 499 = .ok (.iaload, 1) := by decide +kernel
theorem dL_law_500 : decode cL_law 500 = .ok (.invokevirtual 81, 3) := by decide +kernel
theorem dL_law_503 : decode cL_law 503 = .ok (.aload_n 2, 1) := by decide +kernel
theorem dL_law_504 : decode cL_law 504 = .ok (.aload_n 0, 1) := by decide +kernel
theorem dL_law_505 : decode cL_law 505 = .ok (.iload_n 3, 1) := by decide +kernel
theorem dL_law_506 : decode cL_law 506 = .ok (.iconst 1, 1) := by decide +kernel
theorem dL_law_507 : decode cL_law 507 = .ok (.iadd, 1) := by decide +kernel
theorem dL_law_508 : decode cL_law 508 = .ok (.iaload, 1) := by decide +kernel
theorem dL_law_509 : decode cL_law 509 = .ok (.invokevirtual 84, 3) := by decide +kernel
theorem dL_law_512 : decode cL_law 512 = .ok (.if_icmp .eq 5, 3) := by decide +kernel
theorem dL_law_515 : decode cL_law 515 = .ok (.iconst 0, 1) := by decide +kernel
theorem dL_law_516 : decode cL_law 516 = .ok (.ireturn, 1) := by decide +kernel
theorem dL_law_517 : decode cL_law 517 = .ok (.iinc 3 4, 3) := by decide +kernel
theorem dL_law_520 : decode cL_law 520 = .ok (.goto (-502), 3) := by decide +kernel
theorem dL_law_523 : decode cL_law 523 = .ok (.iconst 1, 1) := by decide +kernel
theorem dL_law_524 : decode cL_law 524 = .ok (.ireturn, 1) := by decide +kernel
end
section
-- the tables as numbers: classes 0..10, 11 the law, 12 Math
def cn : Nat → String := fun c => match c with
  | 0 => RX0
  | 1 => RX1
  | 2 => RX2
  | 3 => RX3
  | 4 => RX4
  | 5 => RX5
  | 6 => RX6
  | 7 => RX7
  | 8 => RX8
  | 9 => RX9
  | 10 => RX10
  | 11 => RL
  | _ => RJ9
def cT : Nat → u_T := fun c => match c with
  | 0 => TX0
  | 1 => TX1
  | 2 => TX2
  | 3 => TX3
  | 4 => TX4
  | 5 => TX5
  | 6 => TX6
  | 7 => TX7
  | 8 => TX8
  | 9 => TX9
  | _ => TX10
def cN : Nat → Nat := fun c => match c with
  | 0 => 4
  | 1 => 15
  | 2 => 5
  | 3 => 10
  | 4 => 1
  | 5 => 5
  | 6 => 8
  | 7 => 4
  | 8 => 3
  | 9 => 13
  | _ => 48
def cY : Nat → Nat → FieldType := fun c => match c with
  | 0 => tyX0
  | 1 => tyX1
  | 2 => tyX2
  | 3 => tyX3
  | 4 => tyX4
  | 5 => tyX5
  | 6 => tyX6
  | 7 => tyX7
  | 8 => tyX8
  | 9 => tyX9
  | _ => tyX10
/-- a field that holds a reference -/
def isR (c k : Nat) : Bool := match cY c k with
  | .object _ => true
  | .array _ => true
  | _ => false
/-- a field that holds a boolean -/
def isZ (c k : Nat) : Bool := match cY c k with
  | .boolean => true
  | _ => false
def ftab : List (Nat × Nat × Nat × Int × Nat) := [(6, 9, 6, 0, 92), (6, 15, 6, 1, 93), (6, 18, 6, 2, 94), (6, 64, 6, 3, 95), (6, 30, 6, 4, 96), (6, 67, 6, 5, 97), (6, 21, 6, 6, 98), (6, 40, 6, 7, 99), (9, 252, 6, 7, 100), (5, 9, 5, 0, 125), (5, 15, 5, 1, 126), (5, 18, 5, 2, 127), (5, 21, 5, 3, 128), (5, 25, 5, 4, 129), (6, 47, 5, 4, 130), (9, 94, 5, 4, 131), (7, 9, 7, 0, 149), (9, 132, 7, 0, 150), (2, 50, 7, 0, 151), (3, 90, 7, 0, 152), (7, 21, 7, 1, 153), (3, 41, 7, 1, 154), (9, 103, 7, 1, 155), (2, 38, 7, 1, 156), (7, 25, 7, 2, 157), (3, 46, 7, 2, 158), (9, 106, 7, 2, 159), (2, 43, 7, 2, 160), (7, 28, 7, 3, 161), (9, 227, 7, 3, 162), (8, 11, 8, 0, 180), (8, 17, 8, 1, 181), (9, 212, 8, 1, 182), (8, 21, 8, 2, 183), (9, 100, 8, 2, 184), (2, 9, 2, 0, 198), (2, 15, 2, 1, 199), (2, 18, 2, 2, 200), (2, 25, 2, 3, 201), (2, 29, 2, 4, 202), (9, 148, 2, 4, 203), (0, 9, 0, 0, 221), (0, 15, 0, 1, 222), (0, 18, 0, 2, 223), (0, 21, 0, 3, 224), (9, 142, 0, 3, 225), (4, 7, 4, 0, 242), (3, 15, 3, 0, 252), (3, 19, 3, 1, 253), (3, 9, 3, 2, 254), (3, 191, 3, 3, 255), (3, 23, 3, 4, 256), (3, 38, 3, 5, 257), (3, 27, 3, 6, 258), (9, 126, 3, 6, 259), (9, 117, 3, 7, 260), (3, 65, 3, 7, 261), (9, 120, 3, 8, 262), (3, 68, 3, 8, 263), (9, 123, 3, 9, 264), (3, 71, 3, 9, 265), (1, 15, 1, 0, 408), (9, 159, 1, 0, 409), (3, 117, 1, 0, 410), (1, 19, 1, 1, 411), (9, 164, 1, 1, 412), (3, 151, 1, 1, 413), (1, 28, 1, 2, 414), (8, 47, 1, 2, 415), (9, 167, 1, 2, 416), (3, 108, 1, 2, 417), (1, 25, 1, 3, 418), (8, 44, 1, 3, 419), (9, 170, 1, 3, 420), (1, 31, 1, 4, 421), (9, 173, 1, 4, 422), (1, 22, 1, 5, 423), (8, 29, 1, 5, 424), (9, 179, 1, 5, 425), (3, 101, 1, 5, 426), (1, 41, 1, 6, 427), (9, 182, 1, 6, 428), (8, 60, 1, 6, 429), (1, 9, 1, 7, 430), (1, 34, 1, 8, 431), (4, 19, 1, 8, 432), (8, 35, 1, 8, 433), (3, 104, 1, 8, 434), (1, 47, 1, 9, 435), (4, 16, 1, 10, 436), (8, 38, 1, 10, 437), (1, 50, 1, 10, 438), (3, 111, 1, 10, 439), (4, 22, 1, 11, 440), (1, 44, 1, 11, 441), (3, 137, 1, 11, 442), (1, 38, 1, 12, 443), (3, 87, 1, 12, 444), (8, 32, 1, 13, 445), (9, 176, 1, 13, 446), (8, 41, 1, 14, 447), (9, 188, 1, 14, 448), (9, 9, 9, 0, 581), (9, 90, 9, 1, 582), (9, 13, 9, 2, 583), (9, 20, 9, 3, 584), (9, 27, 9, 4, 585), (9, 31, 9, 5, 586), (9, 37, 9, 6, 587), (9, 74, 9, 7, 588), (9, 78, 9, 8, 589), (9, 44, 9, 9, 590), (9, 51, 9, 10, 591), (9, 58, 9, 11, 592), (9, 62, 9, 12, 593), (10, 7, 10, 0, 908), (10, 105, 10, 1, 909), (10, 301, 10, 2, 910), (10, 283, 10, 3, 911), (10, 13, 10, 4, 912), (10, 16, 10, 5, 913), (10, 227, 10, 6, 914), (10, 19, 10, 7, 915), (10, 23, 10, 8, 916), (10, 26, 10, 9, 917), (10, 29, 10, 10, 918), (10, 247, 10, 11, 919), (10, 32, 10, 12, 920), (10, 35, 10, 13, 921), (10, 95, 10, 14, 922), (10, 38, 10, 15, 923), (10, 41, 10, 16, 924), (10, 44, 10, 17, 925), (10, 47, 10, 18, 926), (10, 50, 10, 19, 927), (10, 53, 10, 20, 928), (10, 56, 10, 21, 929), (10, 173, 10, 22, 930), (10, 59, 10, 23, 931), (10, 62, 10, 24, 932), (10, 65, 10, 25, 933), (10, 68, 10, 26, 934), (10, 71, 10, 27, 935), (10, 74, 10, 28, 936), (10, 118, 10, 29, 937), (10, 77, 10, 30, 938), (10, 80, 10, 31, 939), (10, 83, 10, 32, 940), (10, 186, 10, 33, 941), (10, 180, 10, 34, 942), (10, 183, 10, 35, 943), (10, 195, 10, 36, 944), (10, 86, 10, 37, 945), (10, 89, 10, 38, 946), (10, 92, 10, 39, 947), (10, 108, 10, 40, 948), (10, 111, 10, 41, 949), (10, 121, 10, 42, 950), (10, 218, 10, 43, 951), (10, 208, 10, 44, 952), (10, 224, 10, 45, 953), (10, 212, 10, 46, 954), (10, 215, 10, 47, 955)]
def fOk (e : Nat × Nat × Nat × Int × Nat) : Prop := lw_tbl[e.2.2.2.2]? = some (Cond.fieldLink (cn e.1) e.2.1 (cT e.2.2.1 e.2.2.2.1.toNat).1 (cT e.2.2.1 e.2.2.2.1.toNat).2.1 (cT e.2.2.1 e.2.2.2.1.toNat).2.2.1) ∧ e.2.2.1 < 11 ∧ 0 ≤ e.2.2.2.1 ∧ e.2.2.2.1.toNat < cN e.2.2.1
theorem ftab_ok : ∀ e ∈ ftab, fOk e := by unfold fOk; decide +kernel
def mtab : List (MethodName × ByteArray × Nat × Option FieldType × Nat × Nat × Nat) := [
  (yX0_init, cX0_init, 1, none, 0, 2, 0),
  (yX0_addEntry, cX0_addEntry, 4, some .boolean, 0, 0, 3),
  (yX0_has, cX0_has, 2, some .boolean, 0, 0, 1),
  (yX0_functionAt, cX0_functionAt, 2, some .int, 0, 0, 1),
  (yX0_argumentAt, cX0_argumentAt, 2, some .int, 0, 0, 1),
  (yX0_tellingAt, cX0_tellingAt, 2, some .int, 0, 0, 1),
  (yX1_init, cX1_init, 1, none, 1, 2, 0),
  (yX1_begin, cX1_begin, 5, none, 1, 0, 4),
  (yX1_beginDoing, cX1_beginDoing, 1, none, 1, 0, 0),
  (yX1_addPart, cX1_addPart, 2, none, 1, 0, 1),
  (yX1_firstSoFar, cX1_firstSoFar, 4, some (.object "TakenUpCalls$Call"), 1, 0, 2),
  (yX1_noteRead, cX1_noteRead, 3, none, 1, 0, 2),
  (yX1_isOf, cX1_isOf, 3, some .boolean, 1, 0, 2),
  (yX1_isOld, cX1_isOld, 4, some .boolean, 1, 0, 1),
  (yX1_howManyParts, cX1_howManyParts, 3, some .int, 1, 0, 0),
  (yX1_isAlike, cX1_isAlike, 2, some .boolean, 1, 0, 1),
  (yX1_areAlike, cX1_areAlike, 4, some .boolean, 1, 1, 2),
  (yX2_init, cX2_init, 1, none, 2, 2, 0),
  (yX2_noteCell, cX2_noteCell, 3, none, 2, 0, 2),
  (yX2_noteAim, cX2_noteAim, 3, none, 2, 0, 2),
  (yX2_note, cX2_note, 4, none, 2, 0, 3),
  (yX2_forget, cX2_forget, 1, none, 2, 0, 0),
  (yX2_takeBackLatest, cX2_takeBackLatest, 3, none, 2, 0, 1),
  (yX3_init, cX3_init, 4, none, 3, 2, 3),
  (yX3_takeProgram, cX3_takeProgram, 2, none, 3, 0, 1),
  (yX3_firstRoot, cX3_firstRoot, 2, some (.object "TakenUpCalls$Call"), 3, 0, 0),
  (yX3_madeByItself, cX3_madeByItself, 3, some (.object "TakenUpCalls$Call"), 3, 0, 2),
  (yX3_broughtRoot, cX3_broughtRoot, 2, some (.object "TakenUpCalls$Call"), 3, 0, 1),
  (yX3_letGoWithAll, cX3_letGoWithAll, 2, none, 3, 0, 1),
  (yX3_clearCounts, cX3_clearCounts, 1, none, 3, 0, 0),
  (yX3_make, cX3_make, 5, some (.object "TakenUpCalls$Call"), 3, 0, 3),
  (yX3_bringUp, cX3_bringUp, 2, none, 3, 0, 1),
  (yX3_isAnyPartOtherwise, cX3_isAnyPartOtherwise, 4, some .boolean, 3, 0, 1),
  (yX3_goThrough, cX3_goThrough, 5, none, 3, 0, 1),
  (yX3_takeStep, cX3_takeStep, 5, some .int, 3, 0, 3),
  (yX3_joinTwo, cX3_joinTwo, 4, none, 3, 0, 1),
  (yX3_readCell, cX3_readCell, 4, some .int, 3, 0, 2),
  (yX3_whatPartTells, cX3_whatPartTells, 5, some .int, 3, 0, 3),
  (yX3_takeUp, cX3_takeUp, 3, none, 3, 0, 2),
  (yX3_letGoChain, cX3_letGoChain, 5, none, 3, 0, 2),
  (yX3_letGo, cX3_letGo, 2, none, 3, 0, 1),
  (yX3_push, cX3_push, 2, none, 3, 0, 1),
  (yX3_pop, cX3_pop, 1, some .int, 3, 0, 0),
  (yX4_init, cX4_init, 1, none, 4, 2, 0),
  (yX4_take, cX4_take, 2, some (.object "TakenUpCalls$Call"), 4, 0, 0),
  (yX4_giveBack, cX4_giveBack, 2, none, 4, 0, 1),
  (yX5_init, cX5_init, 1, none, 5, 2, 0),
  (yX5_clear, cX5_clear, 1, none, 5, 0, 0),
  (yX5_beginFunction, cX5_beginFunction, 1, none, 5, 0, 0),
  (yX5_endFunction, cX5_endFunction, 1, none, 5, 0, 0),
  (yX5_addStep, cX5_addStep, 3, some .int, 5, 0, 2),
  (yX5_skipToHere, cX5_skipToHere, 2, none, 5, 0, 1),
  (yX5_tellsOf, cX5_tellsOf, 2, some .boolean, 5, 0, 1),
  (yX5_startOf, cX5_startOf, 2, some .int, 5, 0, 1),
  (yX5_stepAt, cX5_stepAt, 2, some .int, 5, 0, 1),
  (yX5_valueAt, cX5_valueAt, 2, some .int, 5, 0, 1),
  (yX6_init, cX6_init, 1, none, 6, 2, 0),
  (yX6_readInto, cX6_readInto, 6, some .int, 6, 0, 3),
  (yX6_readLetter, cX6_readLetter, 2, some .int, 6, 0, 1),
  (yX6_beginFunction, cX6_beginFunction, 2, some .int, 6, 0, 1),
  (yX6_endFunction, cX6_endFunction, 2, some .int, 6, 0, 1),
  (yX6_beginTerm, cX6_beginTerm, 2, some .int, 6, 0, 1),
  (yX6_beginCall, cX6_beginCall, 1, some .int, 6, 0, 0),
  (yX6_readCalledFunction, cX6_readCalledFunction, 2, some .int, 6, 0, 1),
  (yX6_openTerm, cX6_openTerm, 4, some .int, 6, 0, 3),
  (yX6_readLeaf, cX6_readLeaf, 4, some .int, 6, 0, 2),
  (yX6_placeSkips, cX6_placeSkips, 3, none, 6, 0, 1),
  (yX6_isFigure, cX6_isFigure, 1, some .boolean, 6, 1, 1),
  (yX7_init, cX7_init, 1, none, 7, 2, 0),
  (yX7_become, cX7_become, 2, none, 7, 0, 1),
  (yX7_draw, cX7_draw, 2, some .int, 7, 0, 1),
  (yX8_init, cX8_init, 1, none, 8, 2, 0),
  (yX8_list, cX8_list, 2, none, 8, 0, 1),
  (yX8_listAll, cX8_listAll, 5, none, 8, 0, 2),
  (yX8_numbered, cX8_numbered, 2, some (.object "TakenUpCalls$Call"), 8, 0, 1),
  (yX8_numberOfName, cX8_numberOfName, 3, some .int, 8, 0, 1),
  (yX8_rootTells, cX8_rootTells, 1, some .int, 8, 0, 0),
  (yX8_greatestNest, cX8_greatestNest, 3, some .int, 8, 0, 0),
  (yX8_howManyOld, cX8_howManyOld, 4, some .int, 8, 0, 1),
  (yX8_cellsRead, cX8_cellsRead, 3, some .int, 8, 0, 0),
  (yX9_init, cX9_init, 2, none, 9, 2, 0),
  (yX9_feed, cX9_feed, 2, some .int, 9, 0, 1),
  (yX9_functions, cX9_functions, 2, some .int, 9, 0, 0),
  (yX9_fault, cX9_fault, 1, some .int, 9, 0, 0),
  (yX9_told, cX9_told, 2, some .int, 9, 0, 1),
  (yX9_cell, cX9_cell, 2, some .int, 9, 0, 1),
  (yX9_call, cX9_call, 4, some .int, 9, 0, 2),
  (yX9_find, cX9_find, 2, some .int, 9, 0, 1),
  (yX9_set, cX9_set, 3, some .int, 9, 0, 2),
  (yX9_aim, cX9_aim, 4, some .int, 9, 0, 2),
  (yX9_bring, cX9_bring, 1, some .int, 9, 0, 0),
  (yX9_drift, cX9_drift, 5, some .int, 9, 0, 1),
  (yX9_undo, cX9_undo, 3, some .int, 9, 0, 1),
  (yX9_write, cX9_write, 4, some .int, 9, 0, 3),
  (yX9_tear, cX9_tear, 2, some .int, 9, 0, 0),
  (yX9_seed, cX9_seed, 3, some .int, 9, 0, 1),
  (yX9_keep, cX9_keep, 3, some .int, 9, 0, 1),
  (yX9_goBack, cX9_goBack, 3, some .int, 9, 0, 1),
  (yX9_isCell, cX9_isCell, 1, some .boolean, 9, 1, 1),
  (yX9_isNumber, cX9_isNumber, 1, some .boolean, 9, 1, 1),
  (yX9_isImage, cX9_isImage, 1, some .boolean, 9, 1, 1),
  (yX9_addLetter, cX9_addLetter, 2, some .boolean, 9, 0, 1),
  (yX9_takeText, cX9_takeText, 3, some .int, 9, 0, 0),
  (yX9_startAnew, cX9_startAnew, 1, none, 9, 0, 0),
  (yX9_changeCell, cX9_changeCell, 4, some .int, 9, 0, 2),
  (yX9_tellingByItself, cX9_tellingByItself, 5, some .int, 9, 0, 2),
  (yX9_isAlike, cX9_isAlike, 3, some .boolean, 9, 0, 0),
  (yX9_firstWrong, cX9_firstWrong, 4, some .int, 9, 0, 0),
  (yX10_init, cX10_init, 1, none, 10, 2, 0),
  (yX10_in, cX10_in, 6, some .boolean, 10, 1, 3),
  (yX10_has, cX10_has, 2, some .boolean, 10, 1, 2),
  (yX10_copyRow, cX10_copyRow, 4, none, 10, 0, 2),
  (yX10_remember, cX10_remember, 2, none, 10, 0, 0),
  (yX10_push, cX10_push, 3, none, 10, 0, 2),
  (yX10_wants, cX10_wants, 1, some .int, 10, 1, 1),
  (yX10_skip, cX10_skip, 3, none, 10, 0, 0),
  (yX10_begin, cX10_begin, 5, none, 10, 0, 2),
  (yX10_counted, cX10_counted, 3, some .int, 10, 1, 3),
  (yX10_open, cX10_open, 2, some .int, 10, 0, 0),
  (yX10_called, cX10_called, 3, some .int, 10, 0, 2),
  (yX10_give, cX10_give, 4, some .int, 10, 0, 1),
  (yX10_giveTwo, cX10_giveTwo, 3, some .int, 10, 0, 2),
  (yX10_choose, cX10_choose, 3, some .int, 10, 0, 2),
  (yX10_layNew, cX10_layNew, 4, some .int, 10, 0, 2),
  (yX10_layNow, cX10_layNow, 1, some .int, 10, 0, 0),
  (yX10_endOf, cX10_endOf, 4, some .int, 10, 1, 3),
  (yX10_isOld, cX10_isOld, 4, some .boolean, 10, 0, 1),
  (yX10_isDoneAnew, cX10_isDoneAnew, 7, some .boolean, 10, 0, 2),
  (yX10_matchParts, cX10_matchParts, 8, none, 10, 0, 2),
  (yX10_matchAll, cX10_matchAll, 5, none, 10, 0, 1),
  (yX10_takeOver, cX10_takeOver, 2, none, 10, 0, 0),
  (yX10_layFirst, cX10_layFirst, 2, none, 10, 0, 0),
  (yX10_isAlike, cX10_isAlike, 4, some .boolean, 10, 0, 0),
  (yX10_isTerm, cX10_isTerm, 1, some .boolean, 10, 1, 1),
  (yX10_faultOf, cX10_faultOf, 2, some .int, 10, 0, 1),
  (yX10_goOn, cX10_goOn, 2, none, 10, 0, 1),
  (yX10_readText, cX10_readText, 3, some .int, 10, 0, 0),
  (yX10_layCode, cX10_layCode, 4, none, 10, 0, 0),
  (yX10_feed, cX10_feed, 2, some .int, 10, 0, 1),
  (yX10_functions, cX10_functions, 2, some .int, 10, 0, 0),
  (yX10_fault, cX10_fault, 1, some .int, 10, 0, 0),
  (yX10_deepest, cX10_deepest, 3, some .int, 10, 0, 0),
  (yX10_oldMany, cX10_oldMany, 3, some .int, 10, 0, 0),
  (yX10_bears, cX10_bears, 3, some .int, 10, 0, 0),
  (yX10_wrong, cX10_wrong, 2, some .int, 10, 0, 0),
  (yX10_toldMore, cX10_toldMore, 2, some .int, 10, 0, 1),
  (yX10_told, cX10_told, 2, some .int, 10, 0, 1),
  (yX10_cell, cX10_cell, 2, some .int, 10, 0, 1),
  (yX10_makerOf, cX10_makerOf, 4, some .int, 10, 0, 1),
  (yX10_partsOf, cX10_partsOf, 4, some .int, 10, 0, 1),
  (yX10_call, cX10_call, 3, some .int, 10, 0, 2),
  (yX10_find, cX10_find, 4, some .int, 10, 0, 1),
  (yX10_set, cX10_set, 4, some .int, 10, 0, 2),
  (yX10_aim, cX10_aim, 4, some .int, 10, 0, 2),
  (yX10_bring, cX10_bring, 2, some .int, 10, 0, 0),
  (yX10_draw, cX10_draw, 2, some .int, 10, 0, 1),
  (yX10_drift, cX10_drift, 4, some .int, 10, 0, 1),
  (yX10_undo, cX10_undo, 3, some .int, 10, 0, 1),
  (yX10_write, cX10_write, 4, some .int, 10, 0, 3),
  (yX10_tear, cX10_tear, 2, some .int, 10, 0, 0),
  (yX10_seed, cX10_seed, 3, some .int, 10, 0, 1),
  (yX10_keep, cX10_keep, 2, some .int, 10, 0, 1),
  (yX10_goBack, cX10_goBack, 2, some .int, 10, 0, 1),
  (yJ9_floorMod_7cf53, cJ9_floorMod_7cf53, 3, some .int, 12, 1, 2),
  (yJ9_max_7cf53, cJ9_max_7cf53, 2, some .int, 12, 1, 2),
  (yJ9_min_7cf53, cJ9_min_7cf53, 2, some .int, 12, 1, 2),
  (yL_law, cL_law, 4, some .boolean, 11, 1, 1)]
theorem m_X0_init : mtab[0]? = some (yX0_init, cX0_init, 1, none, 0, 2, 0) := rfl
theorem m_X0_addEntry : mtab[1]? = some (yX0_addEntry, cX0_addEntry, 4, some .boolean, 0, 0, 3) := rfl
theorem m_X0_has : mtab[2]? = some (yX0_has, cX0_has, 2, some .boolean, 0, 0, 1) := rfl
theorem m_X0_functionAt : mtab[3]? = some (yX0_functionAt, cX0_functionAt, 2, some .int, 0, 0, 1) := rfl
theorem m_X0_argumentAt : mtab[4]? = some (yX0_argumentAt, cX0_argumentAt, 2, some .int, 0, 0, 1) := rfl
theorem m_X0_tellingAt : mtab[5]? = some (yX0_tellingAt, cX0_tellingAt, 2, some .int, 0, 0, 1) := rfl
theorem m_X1_init : mtab[6]? = some (yX1_init, cX1_init, 1, none, 1, 2, 0) := rfl
theorem m_X1_begin : mtab[7]? = some (yX1_begin, cX1_begin, 5, none, 1, 0, 4) := rfl
theorem m_X1_beginDoing : mtab[8]? = some (yX1_beginDoing, cX1_beginDoing, 1, none, 1, 0, 0) := rfl
theorem m_X1_addPart : mtab[9]? = some (yX1_addPart, cX1_addPart, 2, none, 1, 0, 1) := rfl
theorem m_X1_firstSoFar : mtab[10]? = some (yX1_firstSoFar, cX1_firstSoFar, 4, some (.object "TakenUpCalls$Call"), 1, 0, 2) := rfl
theorem m_X1_noteRead : mtab[11]? = some (yX1_noteRead, cX1_noteRead, 3, none, 1, 0, 2) := rfl
theorem m_X1_isOf : mtab[12]? = some (yX1_isOf, cX1_isOf, 3, some .boolean, 1, 0, 2) := rfl
theorem m_X1_isOld : mtab[13]? = some (yX1_isOld, cX1_isOld, 4, some .boolean, 1, 0, 1) := rfl
theorem m_X1_howManyParts : mtab[14]? = some (yX1_howManyParts, cX1_howManyParts, 3, some .int, 1, 0, 0) := rfl
theorem m_X1_isAlike : mtab[15]? = some (yX1_isAlike, cX1_isAlike, 2, some .boolean, 1, 0, 1) := rfl
theorem m_X1_areAlike : mtab[16]? = some (yX1_areAlike, cX1_areAlike, 4, some .boolean, 1, 1, 2) := rfl
theorem m_X2_init : mtab[17]? = some (yX2_init, cX2_init, 1, none, 2, 2, 0) := rfl
theorem m_X2_noteCell : mtab[18]? = some (yX2_noteCell, cX2_noteCell, 3, none, 2, 0, 2) := rfl
theorem m_X2_noteAim : mtab[19]? = some (yX2_noteAim, cX2_noteAim, 3, none, 2, 0, 2) := rfl
theorem m_X2_note : mtab[20]? = some (yX2_note, cX2_note, 4, none, 2, 0, 3) := rfl
theorem m_X2_forget : mtab[21]? = some (yX2_forget, cX2_forget, 1, none, 2, 0, 0) := rfl
theorem m_X2_takeBackLatest : mtab[22]? = some (yX2_takeBackLatest, cX2_takeBackLatest, 3, none, 2, 0, 1) := rfl
theorem m_X3_init : mtab[23]? = some (yX3_init, cX3_init, 4, none, 3, 2, 3) := rfl
theorem m_X3_takeProgram : mtab[24]? = some (yX3_takeProgram, cX3_takeProgram, 2, none, 3, 0, 1) := rfl
theorem m_X3_firstRoot : mtab[25]? = some (yX3_firstRoot, cX3_firstRoot, 2, some (.object "TakenUpCalls$Call"), 3, 0, 0) := rfl
theorem m_X3_madeByItself : mtab[26]? = some (yX3_madeByItself, cX3_madeByItself, 3, some (.object "TakenUpCalls$Call"), 3, 0, 2) := rfl
theorem m_X3_broughtRoot : mtab[27]? = some (yX3_broughtRoot, cX3_broughtRoot, 2, some (.object "TakenUpCalls$Call"), 3, 0, 1) := rfl
theorem m_X3_letGoWithAll : mtab[28]? = some (yX3_letGoWithAll, cX3_letGoWithAll, 2, none, 3, 0, 1) := rfl
theorem m_X3_clearCounts : mtab[29]? = some (yX3_clearCounts, cX3_clearCounts, 1, none, 3, 0, 0) := rfl
theorem m_X3_make : mtab[30]? = some (yX3_make, cX3_make, 5, some (.object "TakenUpCalls$Call"), 3, 0, 3) := rfl
theorem m_X3_bringUp : mtab[31]? = some (yX3_bringUp, cX3_bringUp, 2, none, 3, 0, 1) := rfl
theorem m_X3_isAnyPartOtherwise : mtab[32]? = some (yX3_isAnyPartOtherwise, cX3_isAnyPartOtherwise, 4, some .boolean, 3, 0, 1) := rfl
theorem m_X3_goThrough : mtab[33]? = some (yX3_goThrough, cX3_goThrough, 5, none, 3, 0, 1) := rfl
theorem m_X3_takeStep : mtab[34]? = some (yX3_takeStep, cX3_takeStep, 5, some .int, 3, 0, 3) := rfl
theorem m_X3_joinTwo : mtab[35]? = some (yX3_joinTwo, cX3_joinTwo, 4, none, 3, 0, 1) := rfl
theorem m_X3_readCell : mtab[36]? = some (yX3_readCell, cX3_readCell, 4, some .int, 3, 0, 2) := rfl
theorem m_X3_whatPartTells : mtab[37]? = some (yX3_whatPartTells, cX3_whatPartTells, 5, some .int, 3, 0, 3) := rfl
theorem m_X3_takeUp : mtab[38]? = some (yX3_takeUp, cX3_takeUp, 3, none, 3, 0, 2) := rfl
theorem m_X3_letGoChain : mtab[39]? = some (yX3_letGoChain, cX3_letGoChain, 5, none, 3, 0, 2) := rfl
theorem m_X3_letGo : mtab[40]? = some (yX3_letGo, cX3_letGo, 2, none, 3, 0, 1) := rfl
theorem m_X3_push : mtab[41]? = some (yX3_push, cX3_push, 2, none, 3, 0, 1) := rfl
theorem m_X3_pop : mtab[42]? = some (yX3_pop, cX3_pop, 1, some .int, 3, 0, 0) := rfl
theorem m_X4_init : mtab[43]? = some (yX4_init, cX4_init, 1, none, 4, 2, 0) := rfl
theorem m_X4_take : mtab[44]? = some (yX4_take, cX4_take, 2, some (.object "TakenUpCalls$Call"), 4, 0, 0) := rfl
theorem m_X4_giveBack : mtab[45]? = some (yX4_giveBack, cX4_giveBack, 2, none, 4, 0, 1) := rfl
theorem m_X5_init : mtab[46]? = some (yX5_init, cX5_init, 1, none, 5, 2, 0) := rfl
theorem m_X5_clear : mtab[47]? = some (yX5_clear, cX5_clear, 1, none, 5, 0, 0) := rfl
theorem m_X5_beginFunction : mtab[48]? = some (yX5_beginFunction, cX5_beginFunction, 1, none, 5, 0, 0) := rfl
theorem m_X5_endFunction : mtab[49]? = some (yX5_endFunction, cX5_endFunction, 1, none, 5, 0, 0) := rfl
theorem m_X5_addStep : mtab[50]? = some (yX5_addStep, cX5_addStep, 3, some .int, 5, 0, 2) := rfl
theorem m_X5_skipToHere : mtab[51]? = some (yX5_skipToHere, cX5_skipToHere, 2, none, 5, 0, 1) := rfl
theorem m_X5_tellsOf : mtab[52]? = some (yX5_tellsOf, cX5_tellsOf, 2, some .boolean, 5, 0, 1) := rfl
theorem m_X5_startOf : mtab[53]? = some (yX5_startOf, cX5_startOf, 2, some .int, 5, 0, 1) := rfl
theorem m_X5_stepAt : mtab[54]? = some (yX5_stepAt, cX5_stepAt, 2, some .int, 5, 0, 1) := rfl
theorem m_X5_valueAt : mtab[55]? = some (yX5_valueAt, cX5_valueAt, 2, some .int, 5, 0, 1) := rfl
theorem m_X6_init : mtab[56]? = some (yX6_init, cX6_init, 1, none, 6, 2, 0) := rfl
theorem m_X6_readInto : mtab[57]? = some (yX6_readInto, cX6_readInto, 6, some .int, 6, 0, 3) := rfl
theorem m_X6_readLetter : mtab[58]? = some (yX6_readLetter, cX6_readLetter, 2, some .int, 6, 0, 1) := rfl
theorem m_X6_beginFunction : mtab[59]? = some (yX6_beginFunction, cX6_beginFunction, 2, some .int, 6, 0, 1) := rfl
theorem m_X6_endFunction : mtab[60]? = some (yX6_endFunction, cX6_endFunction, 2, some .int, 6, 0, 1) := rfl
theorem m_X6_beginTerm : mtab[61]? = some (yX6_beginTerm, cX6_beginTerm, 2, some .int, 6, 0, 1) := rfl
theorem m_X6_beginCall : mtab[62]? = some (yX6_beginCall, cX6_beginCall, 1, some .int, 6, 0, 0) := rfl
theorem m_X6_readCalledFunction : mtab[63]? = some (yX6_readCalledFunction, cX6_readCalledFunction, 2, some .int, 6, 0, 1) := rfl
theorem m_X6_openTerm : mtab[64]? = some (yX6_openTerm, cX6_openTerm, 4, some .int, 6, 0, 3) := rfl
theorem m_X6_readLeaf : mtab[65]? = some (yX6_readLeaf, cX6_readLeaf, 4, some .int, 6, 0, 2) := rfl
theorem m_X6_placeSkips : mtab[66]? = some (yX6_placeSkips, cX6_placeSkips, 3, none, 6, 0, 1) := rfl
theorem m_X6_isFigure : mtab[67]? = some (yX6_isFigure, cX6_isFigure, 1, some .boolean, 6, 1, 1) := rfl
theorem m_X7_init : mtab[68]? = some (yX7_init, cX7_init, 1, none, 7, 2, 0) := rfl
theorem m_X7_become : mtab[69]? = some (yX7_become, cX7_become, 2, none, 7, 0, 1) := rfl
theorem m_X7_draw : mtab[70]? = some (yX7_draw, cX7_draw, 2, some .int, 7, 0, 1) := rfl
theorem m_X8_init : mtab[71]? = some (yX8_init, cX8_init, 1, none, 8, 2, 0) := rfl
theorem m_X8_list : mtab[72]? = some (yX8_list, cX8_list, 2, none, 8, 0, 1) := rfl
theorem m_X8_listAll : mtab[73]? = some (yX8_listAll, cX8_listAll, 5, none, 8, 0, 2) := rfl
theorem m_X8_numbered : mtab[74]? = some (yX8_numbered, cX8_numbered, 2, some (.object "TakenUpCalls$Call"), 8, 0, 1) := rfl
theorem m_X8_numberOfName : mtab[75]? = some (yX8_numberOfName, cX8_numberOfName, 3, some .int, 8, 0, 1) := rfl
theorem m_X8_rootTells : mtab[76]? = some (yX8_rootTells, cX8_rootTells, 1, some .int, 8, 0, 0) := rfl
theorem m_X8_greatestNest : mtab[77]? = some (yX8_greatestNest, cX8_greatestNest, 3, some .int, 8, 0, 0) := rfl
theorem m_X8_howManyOld : mtab[78]? = some (yX8_howManyOld, cX8_howManyOld, 4, some .int, 8, 0, 1) := rfl
theorem m_X8_cellsRead : mtab[79]? = some (yX8_cellsRead, cX8_cellsRead, 3, some .int, 8, 0, 0) := rfl
theorem m_X9_init : mtab[80]? = some (yX9_init, cX9_init, 2, none, 9, 2, 0) := rfl
theorem m_X9_feed : mtab[81]? = some (yX9_feed, cX9_feed, 2, some .int, 9, 0, 1) := rfl
theorem m_X9_functions : mtab[82]? = some (yX9_functions, cX9_functions, 2, some .int, 9, 0, 0) := rfl
theorem m_X9_fault : mtab[83]? = some (yX9_fault, cX9_fault, 1, some .int, 9, 0, 0) := rfl
theorem m_X9_told : mtab[84]? = some (yX9_told, cX9_told, 2, some .int, 9, 0, 1) := rfl
theorem m_X9_cell : mtab[85]? = some (yX9_cell, cX9_cell, 2, some .int, 9, 0, 1) := rfl
theorem m_X9_call : mtab[86]? = some (yX9_call, cX9_call, 4, some .int, 9, 0, 2) := rfl
theorem m_X9_find : mtab[87]? = some (yX9_find, cX9_find, 2, some .int, 9, 0, 1) := rfl
theorem m_X9_set : mtab[88]? = some (yX9_set, cX9_set, 3, some .int, 9, 0, 2) := rfl
theorem m_X9_aim : mtab[89]? = some (yX9_aim, cX9_aim, 4, some .int, 9, 0, 2) := rfl
theorem m_X9_bring : mtab[90]? = some (yX9_bring, cX9_bring, 1, some .int, 9, 0, 0) := rfl
theorem m_X9_drift : mtab[91]? = some (yX9_drift, cX9_drift, 5, some .int, 9, 0, 1) := rfl
theorem m_X9_undo : mtab[92]? = some (yX9_undo, cX9_undo, 3, some .int, 9, 0, 1) := rfl
theorem m_X9_write : mtab[93]? = some (yX9_write, cX9_write, 4, some .int, 9, 0, 3) := rfl
theorem m_X9_tear : mtab[94]? = some (yX9_tear, cX9_tear, 2, some .int, 9, 0, 0) := rfl
theorem m_X9_seed : mtab[95]? = some (yX9_seed, cX9_seed, 3, some .int, 9, 0, 1) := rfl
theorem m_X9_keep : mtab[96]? = some (yX9_keep, cX9_keep, 3, some .int, 9, 0, 1) := rfl
theorem m_X9_goBack : mtab[97]? = some (yX9_goBack, cX9_goBack, 3, some .int, 9, 0, 1) := rfl
theorem m_X9_isCell : mtab[98]? = some (yX9_isCell, cX9_isCell, 1, some .boolean, 9, 1, 1) := rfl
theorem m_X9_isNumber : mtab[99]? = some (yX9_isNumber, cX9_isNumber, 1, some .boolean, 9, 1, 1) := rfl
theorem m_X9_isImage : mtab[100]? = some (yX9_isImage, cX9_isImage, 1, some .boolean, 9, 1, 1) := rfl
theorem m_X9_addLetter : mtab[101]? = some (yX9_addLetter, cX9_addLetter, 2, some .boolean, 9, 0, 1) := rfl
theorem m_X9_takeText : mtab[102]? = some (yX9_takeText, cX9_takeText, 3, some .int, 9, 0, 0) := rfl
theorem m_X9_startAnew : mtab[103]? = some (yX9_startAnew, cX9_startAnew, 1, none, 9, 0, 0) := rfl
theorem m_X9_changeCell : mtab[104]? = some (yX9_changeCell, cX9_changeCell, 4, some .int, 9, 0, 2) := rfl
theorem m_X9_tellingByItself : mtab[105]? = some (yX9_tellingByItself, cX9_tellingByItself, 5, some .int, 9, 0, 2) := rfl
theorem m_X9_isAlike : mtab[106]? = some (yX9_isAlike, cX9_isAlike, 3, some .boolean, 9, 0, 0) := rfl
theorem m_X9_firstWrong : mtab[107]? = some (yX9_firstWrong, cX9_firstWrong, 4, some .int, 9, 0, 0) := rfl
theorem m_X10_init : mtab[108]? = some (yX10_init, cX10_init, 1, none, 10, 2, 0) := rfl
theorem m_X10_in : mtab[109]? = some (yX10_in, cX10_in, 6, some .boolean, 10, 1, 3) := rfl
theorem m_X10_has : mtab[110]? = some (yX10_has, cX10_has, 2, some .boolean, 10, 1, 2) := rfl
theorem m_X10_copyRow : mtab[111]? = some (yX10_copyRow, cX10_copyRow, 4, none, 10, 0, 2) := rfl
theorem m_X10_remember : mtab[112]? = some (yX10_remember, cX10_remember, 2, none, 10, 0, 0) := rfl
theorem m_X10_push : mtab[113]? = some (yX10_push, cX10_push, 3, none, 10, 0, 2) := rfl
theorem m_X10_wants : mtab[114]? = some (yX10_wants, cX10_wants, 1, some .int, 10, 1, 1) := rfl
theorem m_X10_skip : mtab[115]? = some (yX10_skip, cX10_skip, 3, none, 10, 0, 0) := rfl
theorem m_X10_begin : mtab[116]? = some (yX10_begin, cX10_begin, 5, none, 10, 0, 2) := rfl
theorem m_X10_counted : mtab[117]? = some (yX10_counted, cX10_counted, 3, some .int, 10, 1, 3) := rfl
theorem m_X10_open : mtab[118]? = some (yX10_open, cX10_open, 2, some .int, 10, 0, 0) := rfl
theorem m_X10_called : mtab[119]? = some (yX10_called, cX10_called, 3, some .int, 10, 0, 2) := rfl
theorem m_X10_give : mtab[120]? = some (yX10_give, cX10_give, 4, some .int, 10, 0, 1) := rfl
theorem m_X10_giveTwo : mtab[121]? = some (yX10_giveTwo, cX10_giveTwo, 3, some .int, 10, 0, 2) := rfl
theorem m_X10_choose : mtab[122]? = some (yX10_choose, cX10_choose, 3, some .int, 10, 0, 2) := rfl
theorem m_X10_layNew : mtab[123]? = some (yX10_layNew, cX10_layNew, 4, some .int, 10, 0, 2) := rfl
theorem m_X10_layNow : mtab[124]? = some (yX10_layNow, cX10_layNow, 1, some .int, 10, 0, 0) := rfl
theorem m_X10_endOf : mtab[125]? = some (yX10_endOf, cX10_endOf, 4, some .int, 10, 1, 3) := rfl
theorem m_X10_isOld : mtab[126]? = some (yX10_isOld, cX10_isOld, 4, some .boolean, 10, 0, 1) := rfl
theorem m_X10_isDoneAnew : mtab[127]? = some (yX10_isDoneAnew, cX10_isDoneAnew, 7, some .boolean, 10, 0, 2) := rfl
theorem m_X10_matchParts : mtab[128]? = some (yX10_matchParts, cX10_matchParts, 8, none, 10, 0, 2) := rfl
theorem m_X10_matchAll : mtab[129]? = some (yX10_matchAll, cX10_matchAll, 5, none, 10, 0, 1) := rfl
theorem m_X10_takeOver : mtab[130]? = some (yX10_takeOver, cX10_takeOver, 2, none, 10, 0, 0) := rfl
theorem m_X10_layFirst : mtab[131]? = some (yX10_layFirst, cX10_layFirst, 2, none, 10, 0, 0) := rfl
theorem m_X10_isAlike : mtab[132]? = some (yX10_isAlike, cX10_isAlike, 4, some .boolean, 10, 0, 0) := rfl
theorem m_X10_isTerm : mtab[133]? = some (yX10_isTerm, cX10_isTerm, 1, some .boolean, 10, 1, 1) := rfl
theorem m_X10_faultOf : mtab[134]? = some (yX10_faultOf, cX10_faultOf, 2, some .int, 10, 0, 1) := rfl
theorem m_X10_goOn : mtab[135]? = some (yX10_goOn, cX10_goOn, 2, none, 10, 0, 1) := rfl
theorem m_X10_readText : mtab[136]? = some (yX10_readText, cX10_readText, 3, some .int, 10, 0, 0) := rfl
theorem m_X10_layCode : mtab[137]? = some (yX10_layCode, cX10_layCode, 4, none, 10, 0, 0) := rfl
theorem m_X10_feed : mtab[138]? = some (yX10_feed, cX10_feed, 2, some .int, 10, 0, 1) := rfl
theorem m_X10_functions : mtab[139]? = some (yX10_functions, cX10_functions, 2, some .int, 10, 0, 0) := rfl
theorem m_X10_fault : mtab[140]? = some (yX10_fault, cX10_fault, 1, some .int, 10, 0, 0) := rfl
theorem m_X10_deepest : mtab[141]? = some (yX10_deepest, cX10_deepest, 3, some .int, 10, 0, 0) := rfl
theorem m_X10_oldMany : mtab[142]? = some (yX10_oldMany, cX10_oldMany, 3, some .int, 10, 0, 0) := rfl
theorem m_X10_bears : mtab[143]? = some (yX10_bears, cX10_bears, 3, some .int, 10, 0, 0) := rfl
theorem m_X10_wrong : mtab[144]? = some (yX10_wrong, cX10_wrong, 2, some .int, 10, 0, 0) := rfl
theorem m_X10_toldMore : mtab[145]? = some (yX10_toldMore, cX10_toldMore, 2, some .int, 10, 0, 1) := rfl
theorem m_X10_told : mtab[146]? = some (yX10_told, cX10_told, 2, some .int, 10, 0, 1) := rfl
theorem m_X10_cell : mtab[147]? = some (yX10_cell, cX10_cell, 2, some .int, 10, 0, 1) := rfl
theorem m_X10_makerOf : mtab[148]? = some (yX10_makerOf, cX10_makerOf, 4, some .int, 10, 0, 1) := rfl
theorem m_X10_partsOf : mtab[149]? = some (yX10_partsOf, cX10_partsOf, 4, some .int, 10, 0, 1) := rfl
theorem m_X10_call : mtab[150]? = some (yX10_call, cX10_call, 3, some .int, 10, 0, 2) := rfl
theorem m_X10_find : mtab[151]? = some (yX10_find, cX10_find, 4, some .int, 10, 0, 1) := rfl
theorem m_X10_set : mtab[152]? = some (yX10_set, cX10_set, 4, some .int, 10, 0, 2) := rfl
theorem m_X10_aim : mtab[153]? = some (yX10_aim, cX10_aim, 4, some .int, 10, 0, 2) := rfl
theorem m_X10_bring : mtab[154]? = some (yX10_bring, cX10_bring, 2, some .int, 10, 0, 0) := rfl
theorem m_X10_draw : mtab[155]? = some (yX10_draw, cX10_draw, 2, some .int, 10, 0, 1) := rfl
theorem m_X10_drift : mtab[156]? = some (yX10_drift, cX10_drift, 4, some .int, 10, 0, 1) := rfl
theorem m_X10_undo : mtab[157]? = some (yX10_undo, cX10_undo, 3, some .int, 10, 0, 1) := rfl
theorem m_X10_write : mtab[158]? = some (yX10_write, cX10_write, 4, some .int, 10, 0, 3) := rfl
theorem m_X10_tear : mtab[159]? = some (yX10_tear, cX10_tear, 2, some .int, 10, 0, 0) := rfl
theorem m_X10_seed : mtab[160]? = some (yX10_seed, cX10_seed, 3, some .int, 10, 0, 1) := rfl
theorem m_X10_keep : mtab[161]? = some (yX10_keep, cX10_keep, 2, some .int, 10, 0, 1) := rfl
theorem m_X10_goBack : mtab[162]? = some (yX10_goBack, cX10_goBack, 2, some .int, 10, 0, 1) := rfl
theorem m_J9_floorMod_7cf53 : mtab[163]? = some (yJ9_floorMod_7cf53, cJ9_floorMod_7cf53, 3, some .int, 12, 1, 2) := rfl
theorem m_J9_max_7cf53 : mtab[164]? = some (yJ9_max_7cf53, cJ9_max_7cf53, 2, some .int, 12, 1, 2) := rfl
theorem m_J9_min_7cf53 : mtab[165]? = some (yJ9_min_7cf53, cJ9_min_7cf53, 2, some .int, 12, 1, 2) := rfl
theorem m_L_law : mtab[166]? = some (yL_law, cL_law, 4, some .boolean, 11, 1, 1) := rfl
/-- where the tables speak of each method: its code, instance or static, selects, its class initialised (the law itself has none) -/
def mpl : List (Nat × Nat × Nat × Nat) := [(219, 218, 0, 71), (794, 792, 793, 71), (689, 688, 30, 71), (685, 683, 684, 71), (694, 692, 693, 71), (698, 696, 697, 71), (406, 405, 0, 75), (483, 481, 482, 75), (491, 489, 490, 75), (564, 562, 563, 75), (539, 537, 538, 75), (530, 528, 529, 75), (543, 541, 542, 75), (555, 553, 554, 75), (718, 716, 717, 75), (658, 656, 657, 75), (661, 660, 0, 75), (196, 195, 0, 70), (742, 740, 741, 70), (755, 753, 754, 70), (746, 745, 32, 70), (369, 367, 368, 70), (785, 783, 784, 70), (250, 249, 0, 73), (373, 371, 372, 73), (393, 391, 392, 73), (650, 648, 649, 73), (763, 761, 762, 73), (377, 375, 376, 73), (572, 571, 25, 73), (397, 396, 14, 73), (551, 550, 22, 73), (560, 559, 23, 73), (487, 486, 15, 73), (507, 506, 16, 73), (568, 567, 24, 73), (523, 522, 19, 73), (534, 533, 20, 73), (547, 546, 21, 73), (385, 384, 13, 73), (381, 380, 12, 73), (515, 514, 17, 73), (519, 518, 18, 73), (240, 239, 0, 72), (401, 399, 400, 72), (389, 387, 388, 72), (123, 122, 0, 67), (302, 300, 301, 67), (317, 315, 316, 67), (360, 358, 359, 67), (332, 330, 331, 67), (340, 338, 339, 67), (499, 497, 498, 67), (495, 493, 494, 67), (503, 501, 502, 67), (511, 509, 510, 67), (90, 89, 0, 66), (298, 296, 297, 66), (309, 308, 2, 66), (313, 312, 3, 66), (356, 355, 10, 66), (321, 320, 4, 66), (348, 347, 8, 66), (352, 351, 9, 66), (344, 343, 7, 66), (328, 327, 5, 66), (336, 335, 6, 66), (324, 323, 0, 66), (147, 146, 0, 68), (813, 811, 812, 68), (773, 771, 772, 68), (176, 175, 0, 69), (576, 574, 575, 69), (580, 579, 26, 69), (714, 712, 713, 69), (727, 725, 726, 69), (642, 640, 641, 69), (665, 663, 664, 69), (672, 670, 671, 69), (677, 675, 676, 69), (82, 81, 0, 65), (624, 622, 623, 65), (630, 628, 629, 65), (634, 632, 633, 65), (638, 636, 637, 65), (702, 700, 701, 65), (710, 708, 709, 65), (723, 721, 722, 65), (731, 729, 730, 65), (751, 749, 750, 65), (759, 757, 758, 65), (769, 767, 768, 65), (780, 778, 779, 65), (790, 788, 789, 65), (798, 796, 797, 65), (802, 800, 801, 65), (806, 804, 805, 65), (820, 818, 819, 65), (705, 704, 0, 65), (734, 733, 0, 65), (809, 808, 0, 65), (290, 289, 0, 65), (294, 293, 1, 65), (365, 364, 11, 65), (738, 737, 31, 65), (646, 645, 27, 65), (654, 653, 28, 65), (681, 680, 29, 65), (825, 824, 0, 76), (855, 854, 0, 76), (896, 895, 0, 76), (1149, 1148, 62, 76), (1145, 1144, 61, 76), (846, 845, 37, 76), (874, 873, 0, 76), (871, 870, 42, 76), (842, 841, 36, 76), (881, 880, 0, 76), (850, 849, 38, 76), (863, 862, 40, 76), (859, 858, 39, 76), (878, 877, 43, 76), (867, 866, 41, 76), (838, 837, 35, 76), (834, 833, 34, 76), (899, 898, 0, 76), (893, 892, 46, 76), (889, 888, 45, 76), (903, 902, 47, 76), (885, 884, 44, 76), (907, 906, 48, 76), (830, 829, 33, 76), (1094, 1093, 53, 76), (1074, 1073, 0, 76), (1071, 1070, 50, 76), (1078, 1077, 51, 76), (1067, 1066, 49, 76), (1082, 1081, 52, 76), (1056, 1054, 1055, 76), (1063, 1061, 1062, 76), (1086, 1084, 1085, 76), (1102, 1101, 55, 76), (1106, 1105, 56, 76), (1110, 1109, 57, 76), (1114, 1113, 58, 76), (1098, 1097, 54, 76), (1090, 1088, 1089, 76), (1118, 1116, 1117, 76), (1128, 1127, 59, 76), (1132, 1131, 60, 76), (1124, 1122, 1123, 76), (1136, 1134, 1135, 76), (1140, 1138, 1139, 76), (1153, 1151, 1152, 76), (1157, 1155, 1156, 76), (1166, 1165, 63, 76), (1161, 1159, 1160, 76), (1174, 1172, 1173, 76), (1180, 1178, 1179, 76), (1184, 1182, 1183, 76), (1188, 1186, 1187, 76), (1192, 1190, 1191, 76), (1196, 1194, 1195, 76), (526, 525, 0, 74), (668, 667, 0, 74), (305, 304, 0, 74), (0, 0, 0, 64)]
def mOk (q : (MethodName × ByteArray × Nat × Option FieldType × Nat × Nat × Nat) × (Nat × Nat × Nat × Nat)) : Prop := match q with
  | ((y, cc, nL, ret, own, kind, na), (p1, p2, p3, p4)) => own = 11 ∨ (lw_tbl[p1]? = some (Cond.code y cc nL ret) ∧ (lw_tbl[p2]? = some (if kind = 1 then Cond.static y else Cond.instanceMethod y)) ∧ (kind = 0 → lw_tbl[p3]? = some (Cond.selects y.cls y y)) ∧ lw_tbl[p4]? = some (Cond.initialized y.cls) ∧ y.cls = cn own ∧ plainFor y = true ∧ y.cls ≠ "java/lang/invoke/MethodHandle" ∧ y.cls ≠ "java/lang/invoke/VarHandle" ∧ (parseMethodDescriptor y.desc).map (fun d => d.parameters.length) = some na ∧ nL ≤ 16 ∧ (kind = 2 → y.name = "<init>" ∧ ret = none))
theorem mtab_ok_1 : ∀ q ∈ ((mtab.zip mpl).drop 0).take 12, mOk q := by unfold mOk; decide +kernel
theorem mtab_ok_2 : ∀ q ∈ ((mtab.zip mpl).drop 12).take 12, mOk q := by unfold mOk; decide +kernel
theorem mtab_ok_3 : ∀ q ∈ ((mtab.zip mpl).drop 24).take 12, mOk q := by unfold mOk; decide +kernel
theorem mtab_ok_4 : ∀ q ∈ ((mtab.zip mpl).drop 36).take 12, mOk q := by unfold mOk; decide +kernel
theorem mtab_ok_5 : ∀ q ∈ ((mtab.zip mpl).drop 48).take 12, mOk q := by unfold mOk; decide +kernel
theorem mtab_ok_6 : ∀ q ∈ ((mtab.zip mpl).drop 60).take 12, mOk q := by unfold mOk; decide +kernel
theorem mtab_ok_7 : ∀ q ∈ ((mtab.zip mpl).drop 72).take 12, mOk q := by unfold mOk; decide +kernel
theorem mtab_ok_8 : ∀ q ∈ ((mtab.zip mpl).drop 84).take 12, mOk q := by unfold mOk; decide +kernel
theorem mtab_ok_9 : ∀ q ∈ ((mtab.zip mpl).drop 96).take 12, mOk q := by unfold mOk; decide +kernel
theorem mtab_ok_10 : ∀ q ∈ ((mtab.zip mpl).drop 108).take 12, mOk q := by unfold mOk; decide +kernel
theorem mtab_ok_11 : ∀ q ∈ ((mtab.zip mpl).drop 120).take 12, mOk q := by unfold mOk; decide +kernel
theorem mtab_ok_12 : ∀ q ∈ ((mtab.zip mpl).drop 132).take 12, mOk q := by unfold mOk; decide +kernel
theorem mtab_ok_13 : ∀ q ∈ ((mtab.zip mpl).drop 144).take 12, mOk q := by unfold mOk; decide +kernel
theorem mtab_ok_14 : ∀ q ∈ ((mtab.zip mpl).drop 156).take 12, mOk q := by unfold mOk; decide +kernel
theorem mtab_len : (mtab.zip mpl).length = 167 := by decide +kernel
theorem mtab_len2 : mtab.length = 167 := by decide +kernel
theorem mpl_len2 : mpl.length = 167 := by decide +kernel
theorem all_by_12 {α : Type} {P : α → Prop} {L : List α} {n : Nat} (hn : L.length ≤ 12 * n) (h : ∀ j, j < n → ∀ q ∈ (L.drop (12 * j)).take 12, P q) : ∀ q ∈ L, P q := by
  intro q hq
  obtain ⟨i, hi⟩ := List.getElem?_of_mem hq
  have hl := (List.getElem?_eq_some_iff.mp hi).1
  refine h (i / 12) (by omega) q (List.mem_of_getElem? (i := i % 12) ?_)
  rw [List.getElem?_take, if_pos (by omega), List.getElem?_drop, show 12 * (i / 12) + i % 12 = i from by omega]
  exact hi
theorem mtab_ok : ∀ q ∈ mtab.zip mpl, mOk q := by
  refine all_by_12 (n := 14) (by rw [mtab_len]; decide) ?_
  intro j hj
  match j, hj with
  | 0, _ => exact mtab_ok_1
  | 1, _ => exact mtab_ok_2
  | 2, _ => exact mtab_ok_3
  | 3, _ => exact mtab_ok_4
  | 4, _ => exact mtab_ok_5
  | 5, _ => exact mtab_ok_6
  | 6, _ => exact mtab_ok_7
  | 7, _ => exact mtab_ok_8
  | 8, _ => exact mtab_ok_9
  | 9, _ => exact mtab_ok_10
  | 10, _ => exact mtab_ok_11
  | 11, _ => exact mtab_ok_12
  | 12, _ => exact mtab_ok_13
  | 13, _ => exact mtab_ok_14
  | (n + 14), h => exact absurd h (by omega)
def ltab : List (Nat × Nat × Nat × Nat × Nat) := [(11, 9, 80, 0, 80), (9, 3, 900, 0, 83), (9, 19, 56, 1, 88), (6, 3, 900, 0, 91), (9, 26, 46, 1, 121), (5, 3, 900, 0, 124), (9, 36, 68, 1, 145), (7, 3, 900, 0, 148), (9, 43, 71, 1, 174), (8, 3, 900, 0, 177), (9, 50, 17, 1, 194), (2, 3, 900, 0, 197), (9, 57, 0, 1, 217), (0, 3, 900, 0, 220), (9, 68, 43, 1, 238), (4, 1, 900, 0, 241), (9, 71, 23, 0, 248), (3, 3, 900, 0, 251), (9, 81, 101, 0, 287), (9, 85, 102, 0, 291), (9, 248, 57, 0, 295), (6, 25, 47, 0, 299), (6, 34, 165, 0, 303), (6, 43, 58, 0, 306), (6, 50, 59, 0, 310), (6, 62, 48, 0, 314), (6, 53, 61, 0, 318), (6, 72, 67, 0, 322), (6, 76, 65, 0, 325), (6, 87, 50, 0, 329), (6, 90, 66, 0, 333), (6, 94, 51, 0, 337), (6, 79, 64, 0, 341), (6, 83, 62, 0, 345), (6, 56, 63, 0, 349), (6, 59, 60, 0, 353), (6, 70, 49, 0, 357), (5, 28, 50, 0, 361), (9, 255, 103, 0, 362), (9, 245, 21, 0, 366), (9, 258, 24, 0, 370), (9, 262, 28, 0, 374), (3, 62, 40, 0, 378), (3, 140, 39, 0, 382), (3, 188, 45, 0, 386), (9, 265, 25, 0, 390), (3, 31, 30, 0, 394), (3, 74, 44, 0, 398), (4, 15, 6, 1, 404), (1, 3, 900, 0, 407), (3, 80, 7, 0, 480), (3, 84, 33, 0, 484), (3, 114, 8, 0, 488), (3, 120, 53, 0, 492), (5, 32, 52, 0, 496), (3, 126, 54, 0, 500), (3, 129, 34, 0, 504), (3, 144, 55, 0, 508), (3, 147, 41, 0, 512), (3, 133, 42, 0, 516), (3, 154, 36, 0, 520), (3, 164, 163, 0, 524), (3, 170, 11, 0, 527), (3, 158, 37, 0, 531), (3, 174, 52, 0, 535), (3, 178, 10, 0, 536), (1, 53, 12, 0, 540), (3, 182, 38, 0, 544), (3, 55, 31, 0, 548), (3, 93, 13, 0, 552), (1, 57, 165, 0, 556), (3, 97, 32, 0, 557), (3, 185, 9, 0, 561), (3, 161, 35, 0, 565), (3, 35, 29, 0, 569), (9, 220, 72, 0, 573), (8, 25, 73, 0, 577), (11, 13, 81, 0, 621), (11, 18, 82, 0, 627), (11, 23, 83, 0, 631), (11, 27, 84, 0, 635), (9, 97, 76, 0, 639), (9, 109, 105, 0, 643), (9, 272, 26, 0, 647), (9, 113, 106, 0, 651), (9, 276, 15, 0, 655), (1, 63, 16, 0, 659), (9, 129, 77, 0, 662), (8, 50, 164, 0, 666), (9, 135, 78, 0, 669), (8, 56, 13, 0, 673), (9, 139, 79, 0, 674), (9, 145, 107, 0, 678), (9, 279, 3, 0, 682), (0, 25, 2, 0, 686), (9, 205, 52, 0, 690), (9, 282, 4, 0, 691), (9, 285, 5, 0, 695), (11, 31, 85, 0, 699), (9, 151, 98, 0, 703), (11, 35, 86, 0, 707), (9, 155, 74, 0, 711), (9, 185, 14, 0, 715), (9, 191, 13, 0, 719), (11, 40, 87, 0, 720), (9, 195, 75, 0, 724), (11, 44, 88, 0, 728), (9, 199, 99, 0, 732), (9, 202, 104, 0, 735), (9, 269, 18, 0, 739), (2, 21, 20, 0, 743), (2, 32, 165, 0, 747), (11, 48, 89, 0, 748), (9, 208, 19, 0, 752), (11, 52, 90, 0, 756), (9, 216, 27, 0, 760), (3, 49, 12, 0, 764), (3, 59, 28, 0, 765), (11, 56, 91, 0, 766), (9, 224, 70, 0, 770), (11, 60, 92, 0, 777), (9, 231, 22, 0, 782), (2, 46, 98, 1, 786), (11, 64, 93, 0, 787), (9, 235, 1, 0, 791), (11, 69, 94, 0, 795), (11, 73, 95, 0, 799), (11, 77, 96, 0, 803), (9, 239, 100, 0, 807), (9, 242, 69, 0, 810), (7, 15, 901, 0, 814), (11, 81, 97, 0, 817), (11, 12, 108, 0, 823), (10, 1, 900, 0, 826), (10, 98, 131, 0, 827), (10, 198, 124, 0, 831), (10, 162, 123, 0, 835), (10, 135, 116, 0, 839), (10, 124, 113, 0, 843), (10, 155, 118, 0, 847), (10, 131, 109, 0, 853), (10, 159, 120, 0, 856), (10, 138, 119, 0, 860), (10, 142, 122, 0, 864), (10, 152, 115, 0, 868), (10, 114, 114, 0, 872), (10, 145, 121, 0, 875), (10, 148, 117, 0, 879), (10, 201, 129, 0, 882), (10, 189, 127, 0, 886), (10, 169, 126, 0, 890), (10, 165, 110, 0, 894), (10, 176, 125, 0, 897), (10, 192, 128, 0, 900), (10, 205, 130, 0, 904), (11, 17, 138, 0, 1053), (11, 22, 139, 0, 1060), (10, 241, 136, 0, 1064), (10, 230, 134, 0, 1068), (10, 221, 133, 0, 1072), (10, 233, 135, 0, 1075), (10, 244, 137, 0, 1079), (11, 26, 140, 0, 1083), (11, 30, 146, 0, 1087), (10, 262, 132, 0, 1091), (10, 266, 145, 0, 1095), (10, 250, 141, 0, 1099), (10, 253, 142, 0, 1103), (10, 256, 143, 0, 1107), (10, 259, 144, 0, 1111), (11, 34, 147, 0, 1115), (11, 39, 150, 0, 1121), (10, 272, 148, 0, 1125), (10, 275, 149, 0, 1129), (11, 43, 151, 0, 1133), (11, 47, 152, 0, 1137), (10, 280, 112, 0, 1142), (10, 101, 111, 0, 1146), (11, 51, 153, 0, 1150), (11, 55, 154, 0, 1154), (11, 59, 156, 0, 1158), (10, 295, 155, 0, 1163), (11, 63, 157, 0, 1171), (11, 68, 158, 0, 1177), (11, 72, 159, 0, 1181), (11, 76, 160, 0, 1185), (11, 80, 161, 0, 1189), (11, 84, 162, 0, 1193)]
def myn (mid : Nat) : MethodName := if mid = 900 then Lib.objectInit else if mid = 901 then arraycopyName else (mtab.getD mid (yX0_init, cX0_init, 0, none, 0, 0, 0)).1
def lOk (e : Nat × Nat × Nat × Nat × Nat) : Prop := lw_tbl[e.2.2.2.2]? = some (if e.2.2.2.1 = 1 then Cond.methodLinkNest (cn e.1) e.2.1 (myn e.2.2.1) "TakenUpCalls" else Cond.methodLink (cn e.1) e.2.1 (myn e.2.2.1))
theorem ltab_ok_1 : ∀ e ∈ (ltab.drop 0).take 12, lOk e := by unfold lOk; decide +kernel
theorem ltab_ok_2 : ∀ e ∈ (ltab.drop 12).take 12, lOk e := by unfold lOk; decide +kernel
theorem ltab_ok_3 : ∀ e ∈ (ltab.drop 24).take 12, lOk e := by unfold lOk; decide +kernel
theorem ltab_ok_4 : ∀ e ∈ (ltab.drop 36).take 12, lOk e := by unfold lOk; decide +kernel
theorem ltab_ok_5 : ∀ e ∈ (ltab.drop 48).take 12, lOk e := by unfold lOk; decide +kernel
theorem ltab_ok_6 : ∀ e ∈ (ltab.drop 60).take 12, lOk e := by unfold lOk; decide +kernel
theorem ltab_ok_7 : ∀ e ∈ (ltab.drop 72).take 12, lOk e := by unfold lOk; decide +kernel
theorem ltab_ok_8 : ∀ e ∈ (ltab.drop 84).take 12, lOk e := by unfold lOk; decide +kernel
theorem ltab_ok_9 : ∀ e ∈ (ltab.drop 96).take 12, lOk e := by unfold lOk; decide +kernel
theorem ltab_ok_10 : ∀ e ∈ (ltab.drop 108).take 12, lOk e := by unfold lOk; decide +kernel
theorem ltab_ok_11 : ∀ e ∈ (ltab.drop 120).take 12, lOk e := by unfold lOk; decide +kernel
theorem ltab_ok_12 : ∀ e ∈ (ltab.drop 132).take 12, lOk e := by unfold lOk; decide +kernel
theorem ltab_ok_13 : ∀ e ∈ (ltab.drop 144).take 12, lOk e := by unfold lOk; decide +kernel
theorem ltab_ok_14 : ∀ e ∈ (ltab.drop 156).take 12, lOk e := by unfold lOk; decide +kernel
theorem ltab_ok_15 : ∀ e ∈ (ltab.drop 168).take 12, lOk e := by unfold lOk; decide +kernel
theorem ltab_ok_16 : ∀ e ∈ (ltab.drop 180).take 12, lOk e := by unfold lOk; decide +kernel
theorem ltab_ok : ∀ e ∈ ltab, lOk e := by
  refine all_by_12 (n := 16) (by decide +kernel) ?_
  intro j hj
  match j, hj with
  | 0, _ => exact ltab_ok_1
  | 1, _ => exact ltab_ok_2
  | 2, _ => exact ltab_ok_3
  | 3, _ => exact ltab_ok_4
  | 4, _ => exact ltab_ok_5
  | 5, _ => exact ltab_ok_6
  | 6, _ => exact ltab_ok_7
  | 7, _ => exact ltab_ok_8
  | 8, _ => exact ltab_ok_9
  | 9, _ => exact ltab_ok_10
  | 10, _ => exact ltab_ok_11
  | 11, _ => exact ltab_ok_12
  | 12, _ => exact ltab_ok_13
  | 13, _ => exact ltab_ok_14
  | 14, _ => exact ltab_ok_15
  | 15, _ => exact ltab_ok_16
  | (n + 16), h => exact absurd h (by omega)
def ntab : List (Nat × Nat × Nat × Nat) := [(11, 7, 9, 78), (9, 17, 6, 86), (9, 24, 5, 119), (9, 34, 7, 143), (9, 41, 8, 172), (8, 9, 1, 178), (9, 48, 2, 192), (9, 55, 0, 215), (9, 66, 4, 236), (9, 69, 3, 246), (4, 13, 1, 402), (11, 10, 10, 821)]
def nOk (e : Nat × Nat × Nat × Nat) : Prop := lw_tbl[e.2.2.2]? = some (Cond.classLink (cn e.1) e.2.1 (cn e.2.2.1)) ∧ e.2.2.1 < 11
theorem ntab_ok : ∀ e ∈ ntab, nOk e := by unfold nOk; decide +kernel
def ktab : List (Nat × Nat × Int × Nat) := [(9, 89, -1000000002, 625), (9, 93, -1000000004, 626), (9, 154, -1000000001, 706), (7, 31, 1103515245, 774), (7, 32, 2147483647, 775), (7, 33, 65536, 776), (9, 230, -1000000003, 781), (10, 239, -1000000002, 1058), (10, 240, -1000000004, 1059), (10, 271, -1000000001, 1120), (10, 292, 65536, 1170), (10, 300, -1000000003, 1176)]
def kOk (e : Nat × Nat × Int × Nat) : Prop := lw_tbl[e.2.2.2]? = some (Cond.constant (cn e.1) e.2.1 (Int32.ofInt e.2.2.1)) ∧ -2147483648 ≤ e.2.2.1 ∧ e.2.2.1 < 2147483648
theorem ktab_ok : ∀ e ∈ ktab, kOk e := by unfold kOk; decide +kernel
def jtab : List (Nat × Nat × Int × Nat) := [(10, 127, 48, 851), (10, 129, 57, 852), (10, 237, 255, 1057), (10, 269, 7, 1119), (10, 278, 996, 1141), (10, 293, 12, 1162), (10, 286, 1103515245, 1167), (10, 288, 12345, 1168), (10, 290, 2147483648, 1169), (10, 298, 16, 1175)]
def jOk (e : Nat × Nat × Int × Nat) : Prop := lw_tbl[e.2.2.2]? = some (Cond.constantLong (cn e.1) e.2.1 (Int64.ofInt e.2.2.1)) ∧ -9223372036854775808 ≤ e.2.2.1 ∧ e.2.2.1 < 9223372036854775808
theorem jtab_ok : ∀ e ∈ jtab, jOk e := by unfold jOk; decide +kernel
theorem lay0 : ∀ k, k < 4 → lw_tbl[([226, 228, 230, 232] : List Nat).getD k 0]? = some (u_lay RX0 TX0 k) := by decide +kernel
theorem iwX0 : ∀ w ∈ u_ws RX0 TX0 4, w ∈ lw_tbl := by
  intro w h
  obtain ⟨k, hk, rfl⟩ := List.mem_map.mp h
  exact List.mem_of_getElem? (lay0 k (List.mem_range.mp hk))
theorem lay1 : ∀ k, k < 15 → lw_tbl[([449, 451, 453, 455, 457, 459, 461, 463, 465, 467, 469, 471, 473, 475, 477] : List Nat).getD k 0]? = some (u_lay RX1 TX1 k) := by decide +kernel
theorem iwX1 : ∀ w ∈ u_ws RX1 TX1 15, w ∈ lw_tbl := by
  intro w h
  obtain ⟨k, hk, rfl⟩ := List.mem_map.mp h
  exact List.mem_of_getElem? (lay1 k (List.mem_range.mp hk))
theorem lay2 : ∀ k, k < 5 → lw_tbl[([204, 206, 208, 210, 212] : List Nat).getD k 0]? = some (u_lay RX2 TX2 k) := by decide +kernel
theorem iwX2 : ∀ w ∈ u_ws RX2 TX2 5, w ∈ lw_tbl := by
  intro w h
  obtain ⟨k, hk, rfl⟩ := List.mem_map.mp h
  exact List.mem_of_getElem? (lay2 k (List.mem_range.mp hk))
theorem lay3 : ∀ k, k < 10 → lw_tbl[([266, 268, 270, 272, 274, 276, 278, 280, 282, 284] : List Nat).getD k 0]? = some (u_lay RX3 TX3 k) := by decide +kernel
theorem iwX3 : ∀ w ∈ u_ws RX3 TX3 10, w ∈ lw_tbl := by
  intro w h
  obtain ⟨k, hk, rfl⟩ := List.mem_map.mp h
  exact List.mem_of_getElem? (lay3 k (List.mem_range.mp hk))
theorem lay4 : ∀ k, k < 1 → lw_tbl[([243] : List Nat).getD k 0]? = some (u_lay RX4 TX4 k) := by decide +kernel
theorem iwX4 : ∀ w ∈ u_ws RX4 TX4 1, w ∈ lw_tbl := by
  intro w h
  obtain ⟨k, hk, rfl⟩ := List.mem_map.mp h
  exact List.mem_of_getElem? (lay4 k (List.mem_range.mp hk))
theorem lay5 : ∀ k, k < 5 → lw_tbl[([132, 134, 136, 138, 140] : List Nat).getD k 0]? = some (u_lay RX5 TX5 k) := by decide +kernel
theorem iwX5 : ∀ w ∈ u_ws RX5 TX5 5, w ∈ lw_tbl := by
  intro w h
  obtain ⟨k, hk, rfl⟩ := List.mem_map.mp h
  exact List.mem_of_getElem? (lay5 k (List.mem_range.mp hk))
theorem lay6 : ∀ k, k < 8 → lw_tbl[([101, 103, 105, 107, 109, 111, 113, 115] : List Nat).getD k 0]? = some (u_lay RX6 TX6 k) := by decide +kernel
theorem iwX6 : ∀ w ∈ u_ws RX6 TX6 8, w ∈ lw_tbl := by
  intro w h
  obtain ⟨k, hk, rfl⟩ := List.mem_map.mp h
  exact List.mem_of_getElem? (lay6 k (List.mem_range.mp hk))
theorem lay7 : ∀ k, k < 4 → lw_tbl[([163, 165, 167, 169] : List Nat).getD k 0]? = some (u_lay RX7 TX7 k) := by decide +kernel
theorem iwX7 : ∀ w ∈ u_ws RX7 TX7 4, w ∈ lw_tbl := by
  intro w h
  obtain ⟨k, hk, rfl⟩ := List.mem_map.mp h
  exact List.mem_of_getElem? (lay7 k (List.mem_range.mp hk))
theorem lay8 : ∀ k, k < 3 → lw_tbl[([185, 187, 189] : List Nat).getD k 0]? = some (u_lay RX8 TX8 k) := by decide +kernel
theorem iwX8 : ∀ w ∈ u_ws RX8 TX8 3, w ∈ lw_tbl := by
  intro w h
  obtain ⟨k, hk, rfl⟩ := List.mem_map.mp h
  exact List.mem_of_getElem? (lay8 k (List.mem_range.mp hk))
theorem lay9 : ∀ k, k < 13 → lw_tbl[([594, 596, 598, 600, 602, 604, 606, 608, 610, 612, 614, 616, 618] : List Nat).getD k 0]? = some (u_lay RX9 TX9 k) := by decide +kernel
theorem iwX9 : ∀ w ∈ u_ws RX9 TX9 13, w ∈ lw_tbl := by
  intro w h
  obtain ⟨k, hk, rfl⟩ := List.mem_map.mp h
  exact List.mem_of_getElem? (lay9 k (List.mem_range.mp hk))
theorem lay10 : ∀ k, k < 48 → lw_tbl[([956, 958, 960, 962, 964, 966, 968, 970, 972, 974, 976, 978, 980, 982, 984, 986, 988, 990, 992, 994, 996, 998, 1000, 1002, 1004, 1006, 1008, 1010, 1012, 1014, 1016, 1018, 1020, 1022, 1024, 1026, 1028, 1030, 1032, 1034, 1036, 1038, 1040, 1042, 1044, 1046, 1048, 1050] : List Nat).getD k 0]? = some (u_lay RX10 TX10 k) := by decide +kernel
theorem iwX10 : ∀ w ∈ u_ws RX10 TX10 48, w ∈ lw_tbl := by
  intro w h
  obtain ⟨k, hk, rfl⟩ := List.mem_map.mp h
  exact List.mem_of_getElem? (lay10 k (List.mem_range.mp hk))
theorem insts : ∀ c, c < 11 → lw_tbl[([216, 403, 193, 247, 237, 120, 87, 144, 173, 79, 822] : List Nat).getD c 0]? = some (Cond.instantiable (cn c) (cN c)) := by decide +kernel
theorem inits : ∀ c, c < 11 → lw_tbl[([71, 75, 70, 73, 72, 67, 66, 68, 69, 65, 76] : List Nat).getD c 0]? = some (Cond.initialized (cn c)) := by decide +kernel
theorem w_ac : Cond.arrayClass .int ∈ lw_tbl := List.mem_of_getElem? (i := 118) (by decide +kernel)
theorem w_aoC : Cond.arrayOver (.object RX1) ∈ lw_tbl := List.mem_of_getElem? (i := 179) (by decide +kernel)
theorem w_aoS : Cond.arrayOver (.object RX7) ∈ lw_tbl := List.mem_of_getElem? (i := 235) (by decide +kernel)
theorem w_nat : Cond.native arraycopyName ∈ lw_tbl := List.mem_of_getElem? (i := 816) (by decide +kernel)
theorem w_sta : Cond.static arraycopyName ∈ lw_tbl := List.mem_of_getElem? (i := 815) (by decide +kernel)
theorem w_isy : Cond.initialized "java/lang/System" ∈ lw_tbl := List.mem_of_getElem? (i := 77) (by decide +kernel)
theorem w_oi : Cond.instanceMethod Lib.objectInit ∈ lw_tbl := List.mem_of_getElem? (i := 84) (by decide +kernel)
theorem w_oc : Cond.code Lib.objectInit ⟨#[0xb1]⟩ 1 none ∈ lw_tbl := List.mem_of_getElem? (i := 85) (by decide +kernel)
def gtbl : List Cond := lw_tbl.filter goodWord
end
section
/-! THE ABSTRACT MACHINE: whole numbers in place of Int32, a memory by address and place, relative addresses (0 the script, i + 1 the i-th cell made) -/
/-- a value: an int, a long, a reference (null: none) -/
abbrev V : Type := Int ⊕ Int ⊕ Option Nat
/-- a memory: kinds (0..10 objects by class, 20 int[], 21 Call[], 22 Scene[], 30 the script, 31 nothing yet), lengths, ints, references, cells made, slots made -/
abbrev Hp : Type := (Nat → Nat) × (Nat → Int) × (Nat → Int → Int) × (Nat → Int → Option Nat) × Nat × Nat
def tg (G : Hp) (a : Nat) : Nat := G.1 a
def ln (G : Hp) (a : Nat) : Int := G.2.1 a
def iv (G : Hp) (a : Nat) (k : Int) : Int := G.2.2.1 a k
def rv (G : Hp) (a : Nat) (k : Int) : Option Nat := G.2.2.2.1 a k
def sz (G : Hp) : Nat := G.2.2.2.2.1
def sl (G : Hp) : Nat := G.2.2.2.2.2
def si (G : Hp) (a : Nat) (k v : Int) : Hp := (G.1, G.2.1, fun b j => if b = a ∧ j = k then v else G.2.2.1 b j, G.2.2.2)
def sr (G : Hp) (a : Nat) (k : Int) (r : Option Nat) : Hp := (G.1, G.2.1, G.2.2.1, fun b j => if b = a ∧ j = k then r else G.2.2.2.1 b j, G.2.2.2.2)
def nw (G : Hp) (t : Nat) (n : Int) (w : Nat) : Hp := (fun b => if b = sz G + 1 then t else G.1 b, fun b => if b = sz G + 1 then n else G.2.1 b, fun b j => if b = sz G + 1 then 0 else G.2.2.1 b j, fun b j => if b = sz G + 1 then none else G.2.2.2.1 b j, sz G + 1, sl G + w)
def cp (G : Hp) (a : Nat) (sp : Int) (b : Nat) (dp n : Int) : Hp := (G.1, G.2.1, fun c j => if c = b ∧ dp ≤ j ∧ j < dp + n then G.2.2.1 a (sp + (j - dp)) else G.2.2.1 c j, G.2.2.2)
abbrev Ls : Type := List (Option V)
abbrev Ot : Type := (Nat × Ls × List V × Hp) ⊕ (Nat × List V × Nat × List V) ⊕ Option V
def wr (x : Int) : Int := Int.bmod x 4294967296
def wl (x : Int) : Int := Int.bmod x 18446744073709551616
def i32 (x : Int) : Prop := -2147483648 ≤ x ∧ x < 2147483648
def i64 (x : Int) : Prop := -9223372036854775808 ≤ x ∧ x < 9223372036854775808
def cmpI : ClassFile.Cond → Int → Int → Bool
  | .eq, x, y => decide (x = y)
  | .ne, x, y => decide (¬ x = y)
  | .lt, x, y => decide (x < y)
  | .ge, x, y => decide (y ≤ x)
  | .gt, x, y => decide (y < x)
  | .le, x, y => decide (x ≤ y)
def fres (own idx : Nat) : Option (Nat × Int) := (ftab.find? (fun e => e.1 == own && e.2.1 == idx)).map (fun e => (e.2.2.1, e.2.2.2.1))
def lres (own idx : Nat) : Option (Nat × Nat) := (ltab.find? (fun e => e.1 == own && e.2.1 == idx)).map (fun e => (e.2.2.1, e.2.2.2.1))
def nres (own idx : Nat) : Option Nat := (ntab.find? (fun e => e.1 == own && e.2.1 == idx)).map (fun e => e.2.2.1)
def kres (own idx : Nat) : Option Int := (ktab.find? (fun e => e.1 == own && e.2.1 == idx)).map (fun e => e.2.2.1)
def jres (own idx : Nat) : Option Int := (jtab.find? (fun e => e.1 == own && e.2.1 == idx)).map (fun e => e.2.2.1)
def vcat (v : V) : Nat := match v with
  | .inr (.inl _) => 2
  | _ => 1
def cats (st : List V) : Nat := (st.map vcat).sum
def isL (v : Option V) : Bool := match v with
  | some (.inr (.inl _)) => true
  | _ => false
def noL (ls : Ls) : Bool := ls.all (fun v => !isL v)
def nxt (q : Nat) (ls : Ls) (st : List V) (G : Hp) : Option Ot := some (.inl (q, ls, st, G))
def gto (pc : Nat) (off : Int) (ls : Ls) (st : List V) (G : Hp) : Option Ot := if 0 ≤ (pc : Int) + off then nxt ((pc : Int) + off).toNat ls st G else none
def ldv (ls : Ls) (k : Nat) (t : Nat) (q : Nat) (st : List V) (G : Hp) : Option Ot := match ls[k]? with
  | some (some v) => (match v, t with
    | .inl x, 0 => nxt q ls (.inl x :: st) G
    | .inr (.inl x), 1 => nxt q ls (.inr (.inl x) :: st) G
    | .inr (.inr x), 2 => nxt q ls (.inr (.inr x) :: st) G
    | _, _ => none)
  | _ => none
def stv (ls : Ls) (k : Nat) (t : Nat) (q : Nat) (st : List V) (G : Hp) : Option Ot := match st with
  | v :: st => (match v, t with
    | .inl x, 0 => if k < ls.length ∧ noL ls = true then nxt q (ls.set k (some (.inl x))) st G else none
    | .inr (.inr x), 2 => if k < ls.length ∧ noL ls = true then nxt q (ls.set k (some (.inr (.inr x)))) st G else none
    | _, _ => none)
  | _ => none
def un1 (q : Nat) (ls : Ls) (st : List V) (G : Hp) (f : Int → Option V) : Option Ot := match st with
  | .inl x :: st => (match f x with
    | some v => nxt q ls (v :: st) G
    | none => none)
  | _ => none
def bi2 (q : Nat) (ls : Ls) (st : List V) (G : Hp) (f : Int → Int → Option Int) : Option Ot := match st with
  | .inl y :: .inl x :: st => (match f x y with
    | some v => nxt q ls (.inl v :: st) G
    | none => none)
  | _ => none
def bl2 (q : Nat) (ls : Ls) (st : List V) (G : Hp) (f : Int → Int → Option V) : Option Ot := match st with
  | .inr (.inl y) :: .inr (.inl x) :: st => (match f x y with
    | some v => nxt q ls (v :: st) G
    | none => none)
  | _ => none
def pushI (v lo hi : Int) (q : Nat) (ls : Ls) (st : List V) (G : Hp) : Option Ot := if lo ≤ v ∧ v ≤ hi then nxt q ls (.inl v :: st) G else none
def getF (own idx q : Nat) (ls : Ls) (st : List V) (G : Hp) : Option Ot := match fres own idx, st with
  | some (c, k), .inr (.inr (some a)) :: st => if tg G a = c then (if isR c k.toNat = true then nxt q ls (.inr (.inr (rv G a k)) :: st) G else nxt q ls (.inl (iv G a k) :: st) G) else none
  | _, _ => none
def putF (own : Nat) (ini : Bool) (idx q : Nat) (ls : Ls) (st : List V) (G : Hp) : Option Ot := match fres own idx, st with
  | some (c, k), v :: .inr (.inr (some a)) :: st => if tg G a = c ∧ ((cT c k.toNat).2.2.2 = true → ini = true ∧ c = own) then (match v with
    | .inl x => if isR c k.toNat = false ∧ (isZ c k.toNat = true → x = 0 ∨ x = 1) then nxt q ls st (si G a k x) else none
    | .inr (.inr r) => if isR c k.toNat = true then nxt q ls st (sr G a k r) else none
    | _ => none) else none
  | _, _ => none
def iald (q : Nat) (ls : Ls) (st : List V) (G : Hp) : Option Ot := match st with
  | .inl i :: .inr (.inr (some a)) :: st => if (tg G a = 20 ∨ tg G a = 30) ∧ 0 ≤ i ∧ i < ln G a then nxt q ls (.inl (iv G a i) :: st) G else none
  | _ => none
def aald (q : Nat) (ls : Ls) (st : List V) (G : Hp) : Option Ot := match st with
  | .inl i :: .inr (.inr (some a)) :: st => if (tg G a = 21 ∨ tg G a = 22) ∧ 0 ≤ i ∧ i < ln G a then nxt q ls (.inr (.inr (rv G a i)) :: st) G else none
  | _ => none
def iast (q : Nat) (ls : Ls) (st : List V) (G : Hp) : Option Ot := match st with
  | .inl x :: .inl i :: .inr (.inr (some a)) :: st => if tg G a = 20 ∧ 0 ≤ i ∧ i < ln G a then nxt q ls st (si G a i x) else none
  | _ => none
def aast (q : Nat) (ls : Ls) (st : List V) (G : Hp) : Option Ot := match st with
  | .inr (.inr (some x)) :: .inl i :: .inr (.inr (some a)) :: st => if ((tg G a = 21 ∧ tg G x = 1) ∨ (tg G a = 22 ∧ tg G x = 7)) ∧ 0 ≤ i ∧ i < ln G a then nxt q ls st (sr G a i (some x)) else none
  | _ => none
def alen (q : Nat) (ls : Ls) (st : List V) (G : Hp) : Option Ot := match st with
  | .inr (.inr (some a)) :: st => if tg G a = 20 ∨ tg G a = 30 then nxt q ls (.inl (ln G a) :: st) G else none
  | _ => none
def newA (t : Nat) (q : Nat) (ls : Ls) (st : List V) (G : Hp) : Option Ot := match st with
  | .inl n :: st => if 0 ≤ n ∧ n ≤ 100000 then nxt q ls (.inr (.inr (some (sz G + 1))) :: st) (nw G t n n.toNat) else none
  | _ => none
def newO (own idx q : Nat) (ls : Ls) (st : List V) (G : Hp) : Option Ot := match nres own idx with
  | some c => nxt q ls (.inr (.inr (some (sz G + 1))) :: st) (nw G c 0 (cN c))
  | none => none
def invV (own idx q : Nat) (st : List V) (G : Hp) : Option Ot := match lres own idx with
  | some (mid, 0) => (match mtab[mid]? with
    | some (_, _, _, _, c, 0, na) => (match st.drop na with
      | .inr (.inr (some a)) :: rest => if tg G a = c ∧ cats rest ≤ 8 then some (.inr (.inl (mid, .inr (.inr (some a)) :: (st.take na).reverse, q, rest))) else none
      | _ => none)
    | _ => none)
  | _ => none
def invS (own idx q : Nat) (ls : Ls) (st : List V) (G : Hp) : Option Ot := match lres own idx with
  | some (901, _) => (match st with
    | .inl n :: .inl dp :: .inr (.inr (some b)) :: .inl sp :: .inr (.inr (some a)) :: rest => if tg G a = 20 ∧ tg G b = 20 ∧ 0 ≤ sp ∧ 0 ≤ dp ∧ 0 ≤ n ∧ sp + n ≤ ln G a ∧ dp + n ≤ ln G b ∧ cats rest ≤ 8 then nxt q ls rest (cp G a sp b dp n) else none
    | _ => none)
  | some (mid, _) => (match mtab[mid]? with
    | some (_, _, _, _, _, 1, na) => if na ≤ st.length ∧ cats (st.drop na) ≤ 8 then some (.inr (.inl (mid, (st.take na).reverse, q, st.drop na))) else none
    | _ => none)
  | _ => none
def invI (own idx q : Nat) (ls : Ls) (st : List V) (G : Hp) : Option Ot := match lres own idx with
  | some (900, _) => (match st with
    | .inr (.inr (some _)) :: rest => if cats rest ≤ 8 then nxt q ls rest G else none
    | _ => none)
  | some (mid, _) => (match mtab[mid]? with
    | some (_, _, _, _, _, 2, na) => (match st.drop na with
      | .inr (.inr (some a)) :: rest => if cats rest ≤ 8 then some (.inr (.inl (mid, .inr (.inr (some a)) :: (st.take na).reverse, q, rest))) else none
      | _ => none)
    | _ => none)
  | _ => none
/-- one instruction -/
def stp (ret : Option FieldType) (own : Nat) (ini : Bool) (i : Instr) (pc q : Nat) (ls : Ls) (st : List V) (G : Hp) : Option Ot := match i with
  | .aload_n k => ldv ls k.val 2 q st G
  | .aload k => ldv ls k 2 q st G
  | .iload_n k => ldv ls k.val 0 q st G
  | .iload k => ldv ls k 0 q st G
  | .lload_n k => ldv ls k.val 1 q st G
  | .lload k => ldv ls k 1 q st G
  | .istore_n k => stv ls k.val 0 q st G
  | .istore k => stv ls k 0 q st G
  | .astore_n k => stv ls k.val 2 q st G
  | .astore k => stv ls k 2 q st G
  | .iinc k n => (match ls[k]? with
    | some (some (.inl x)) => if noL ls = true then nxt q (ls.set k (some (.inl (wr (x + n))))) st G else none
    | _ => none)
  | .iconst n => pushI n (-1) 5 q ls st G
  | .bipush n => pushI n (-128) 127 q ls st G
  | .sipush n => pushI n (-32768) 32767 q ls st G
  | .lconst n => nxt q ls (.inr (.inl (n.val : Int)) :: st) G
  | .ldc k => (match kres own k with
    | some v => nxt q ls (.inl v :: st) G
    | none => none)
  | .ldc_w k => (match kres own k with
    | some v => nxt q ls (.inl v :: st) G
    | none => none)
  | .ldc2_w k => (match jres own k with
    | some v => nxt q ls (.inr (.inl v) :: st) G
    | none => none)
  | .aconst_null => nxt q ls (.inr (.inr none) :: st) G
  | .iadd => bi2 q ls st G (fun x y => some (wr (x + y)))
  | .isub => bi2 q ls st G (fun x y => some (wr (x - y)))
  | .imul => bi2 q ls st G (fun x y => some (wr (x * y)))
  | .idiv => bi2 q ls st G (fun x y => if y = 0 then none else some (wr (x.tdiv y)))
  | .irem => bi2 q ls st G (fun x y => if y = 0 then none else some (x.tmod y))
  | .iand => bi2 q ls st G (fun x y => some (Int32.ofInt x &&& Int32.ofInt y).toInt)
  | .ior => bi2 q ls st G (fun x y => some (Int32.ofInt x ||| Int32.ofInt y).toInt)
  | .ixor => bi2 q ls st G (fun x y => some (Int32.ofInt x ^^^ Int32.ofInt y).toInt)
  | .ishl => bi2 q ls st G (fun x y => some (Int32.ofInt x <<< (Int32.ofInt y &&& 31)).toInt)
  | .ishr => bi2 q ls st G (fun x y => some (Int32.ofInt x >>> (Int32.ofInt y &&& 31)).toInt)
  | .i2l => un1 q ls st G (fun x => some (.inr (.inl x)))
  | .l2i => (match st with
    | .inr (.inl x) :: st => nxt q ls (.inl (wr x) :: st) G
    | _ => none)
  | .ladd => bl2 q ls st G (fun x y => some (.inr (.inl (wl (x + y)))))
  | .lmul => bl2 q ls st G (fun x y => some (.inr (.inl (wl (x * y)))))
  | .lrem => bl2 q ls st G (fun x y => if y = 0 then none else some (.inr (.inl (x.tmod y))))
  | .lcmp => bl2 q ls st G (fun x y => some (.inl (if x < y then -1 else if x = y then 0 else 1)))
  | .dup => (match st with
    | v :: st => if vcat v = 1 then nxt q ls (v :: v :: st) G else none
    | _ => none)
  | .dup2 => (match st with
    | v :: w :: st => if vcat v = 1 ∧ vcat w = 1 then nxt q ls (v :: w :: v :: w :: st) G else none
    | _ => none)
  | .pop => (match st with
    | v :: st => if vcat v = 1 then nxt q ls st G else none
    | _ => none)
  | .goto off => gto pc off ls st G
  | .ifCond c off => (match st with
    | .inl x :: st => if 0 ≤ (pc : Int) + off then (if cmpI c x 0 = true then gto pc off ls st G else nxt q ls st G) else none
    | _ => none)
  | .if_icmp c off => (match st with
    | .inl y :: .inl x :: st => if 0 ≤ (pc : Int) + off then (if cmpI c x y = true then gto pc off ls st G else nxt q ls st G) else none
    | _ => none)
  | .ifnull off => (match st with
    | .inr (.inr none) :: st => gto pc off ls st G
    | .inr (.inr (some _)) :: st => nxt q ls st G
    | _ => none)
  | .ifnonnull off => (match st with
    | .inr (.inr none) :: st => nxt q ls st G
    | .inr (.inr (some _)) :: st => gto pc off ls st G
    | _ => none)
  | .if_acmp .eq off => (match st with
    | .inr (.inr y) :: .inr (.inr x) :: st => if 0 ≤ (pc : Int) + off then (if x = y then gto pc off ls st G else nxt q ls st G) else none
    | _ => none)
  | .if_acmp .ne off => (match st with
    | .inr (.inr y) :: .inr (.inr x) :: st => if 0 ≤ (pc : Int) + off then (if ¬ x = y then gto pc off ls st G else nxt q ls st G) else none
    | _ => none)
  | .tableswitch df lo hi offs => (match st with
    | .inl x :: st => if x < lo ∨ hi < x then gto pc df ls st G else (match offs[(x - lo).toNat]? with
      | some off => gto pc off ls st G
      | none => none)
    | _ => none)
  | .lookupswitch df ps => (match st with
    | .inl x :: st => if (ps.toList.zip (ps.toList.drop 1)).all (fun (a, next) => a.1 < next.1) = true then gto pc (Op.lookupswitch.offset ps.toList df x) ls st G else none
    | _ => none)
  | .getfield k => getF own k q ls st G
  | .putfield k => putF own ini k q ls st G
  | .iaload => iald q ls st G
  | .iastore => iast q ls st G
  | .aaload => aald q ls st G
  | .aastore => aast q ls st G
  | .arraylength => alen q ls st G
  | .newarray .int => newA 20 q ls st G
  | .anewarray k => (match nres own k with
    | some 1 => newA 21 q ls st G
    | some 7 => newA 22 q ls st G
    | _ => none)
  | .new k => newO own k q ls st G
  | .invokevirtual k => invV own k q st G
  | .invokestatic k => invS own k q ls st G
  | .invokespecial k => invI own k q ls st G
  | .ireturn => (match st, ret with
    | [.inl x], some .int => some (.inr (.inr (some (.inl x))))
    | [.inl x], some .boolean => if x = 0 ∨ x = 1 then some (.inr (.inr (some (.inl x)))) else none
    | _, _ => none)
  | .areturn => (match st, ret with
    | [.inr (.inr r)], some (.object _) => some (.inr (.inr (some (.inr (.inr r)))))
    | _, _ => none)
  | .return_ => (match st, ret with
    | [], none => some (.inr (.inr none))
    | _, _ => none)
  | _ => none
/-- how long an instruction is in the code -/
def lenOk (i : Instr) (len : Nat) : Bool := match i with
  | .aload _ | .iload _ | .lload _ | .istore _ | .astore _ | .bipush _ | .ldc _ | .newarray _ => len == 2
  | .iinc .. | .sipush _ | .ldc_w _ | .ldc2_w _ | .goto _ | .ifCond .. | .if_icmp .. | .ifnull _ | .ifnonnull _ | .if_acmp .. | .getfield _ | .putfield _ | .anewarray _ | .new _ | .invokevirtual _ | .invokestatic _ | .invokespecial _ => len == 3
  | .tableswitch .. | .lookupswitch .. => true
  | _ => len == 1
/-- a run of one method's code: n steps, calls by C -/
def runR (C : Nat → List V → Hp → Option V → Hp → Prop) (ret : Option FieldType) (own : Nat) (ini : Bool) (cc : ByteArray) : Nat → Nat → Ls → List V → Hp → Option V → Hp → Prop
  | 0, _, _, _, _, _, _ => False
  | n + 1, pc, ls, st, G, r, G' => match decode cc pc with
    | .ok (i, len) => lenOk i len = true ∧ (match stp ret own ini i pc (pc + len) ls st G with
      | some (.inl (q, ls', st', G1)) => runR C ret own ini cc n q ls' st' G1 r G'
      | some (.inr (.inl (mid, as, q, rest))) => ∃ r1 G1, C mid as G r1 G1 ∧ runR C ret own ini cc n q ls (r1.toList ++ rest) G1 r G'
      | some (.inr (.inr v)) => r = v ∧ G' = G
      | none => False)
    | .error _ => False
def sl1 (v : V) : Ls := match v with
  | .inr (.inl x) => [some (.inr (.inl x)), none]
  | w => [some w]
def entr (as : List V) (nL : Nat) : Ls := as.flatMap sl1 ++ List.replicate (nL - (as.flatMap sl1).length) none
/-- a call, at most d deep -/
def Cal : Nat → Nat → List V → Hp → Option V → Hp → Prop
  | 0, _, _, _, _, _ => False
  | d + 1, mid, as, G, r, G' => match mtab[mid]? with
    | some (_, cc, nL, ret, own, kind, _) => (as.flatMap sl1).length ≤ nL ∧ ∃ n, runR (Cal d) ret own (kind == 2) cc n 0 (entr as nL) [] G r G'
    | none => False
def CX (d mid : Nat) (as : List V) (G : Hp) (Q : Option V → Hp → Prop) : Prop := ∃ r G', Cal d mid as G r G' ∧ Q r G'
def Ex (d : Nat) (ret : Option FieldType) (own : Nat) (ini : Bool) (cc : ByteArray) (pc : Nat) (ls : Ls) (st : List V) (G : Hp) (Q : Option V → Hp → Prop) : Prop := ∃ n r G', runR (Cal d) ret own ini cc n pc ls st G r G' ∧ Q r G'
end
section
/-! RULES of the abstract machine: goal first, one instruction each -/
section XR
variable {d : Nat} {ret : Option FieldType} {own : Nat} {ini : Bool} {cc : ByteArray} {pc q t n : Nat} {ls : Ls} {st : List V} {G : Hp} {Q : Option V → Hp → Prop}
theorem Ex.nx {i : Instr} {len : Nat} {ls' : Ls} {st' : List V} {G1 : Hp} (hd : decode cc pc = .ok (i, len)) (hn : lenOk i len = true) (hs : stp ret own ini i pc (pc + len) ls st G = some (.inl (q, ls', st', G1))) (h : Ex d ret own ini cc q ls' st' G1 Q) : Ex d ret own ini cc pc ls st G Q := by
  obtain ⟨n, r, G', h1, h2⟩ := h
  exact ⟨n + 1, r, G', by simp only [runR, hd, hs]; exact ⟨hn, h1⟩, h2⟩
theorem Ex.cl {i : Instr} {len mid : Nat} {as rest : List V} {R : Option V → Hp → Prop} (hd : decode cc pc = .ok (i, len)) (hn : lenOk i len = true) (hs : stp ret own ini i pc (pc + len) ls st G = some (.inr (.inl (mid, as, q, rest)))) (hc : CX d mid as G R) (h : ∀ r1 G1, R r1 G1 → Ex d ret own ini cc q ls (r1.toList ++ rest) G1 Q) : Ex d ret own ini cc pc ls st G Q := by
  obtain ⟨r1, G1, hC, hR⟩ := hc
  obtain ⟨n, r, G', h1, h2⟩ := h r1 G1 hR
  exact ⟨n + 1, r, G', by simp only [runR, hd, hs]; exact ⟨hn, r1, G1, hC, h1⟩, h2⟩
theorem Ex.rt {i : Instr} {len : Nat} {v : Option V} (hd : decode cc pc = .ok (i, len)) (hn : lenOk i len = true) (hs : stp ret own ini i pc (pc + len) ls st G = some (.inr (.inr v))) (h : Q v G) : Ex d ret own ini cc pc ls st G Q :=
  ⟨1, v, G, by simp [runR, hd, hs, hn], h⟩
theorem Ex.stk {st' : List V} (e : st = st') (h : Ex d ret own ini cc pc ls st' G Q) : Ex d ret own ini cc pc ls st G Q := e ▸ h
theorem Ex.lcl {ls' : Ls} (e : ls = ls') (h : Ex d ret own ini cc pc ls' st G Q) : Ex d ret own ini cc pc ls st G Q := e ▸ h
theorem Ex.mem {G' : Hp} (e : G = G') (h : Ex d ret own ini cc pc ls st G' Q) : Ex d ret own ini cc pc ls st G Q := e ▸ h
theorem Ex.mono {Q' : Option V → Hp → Prop} (h : Ex d ret own ini cc pc ls st G Q') (k : ∀ r G', Q' r G' → Q r G') : Ex d ret own ini cc pc ls st G Q := by
  obtain ⟨n, r, G', h1, h2⟩ := h
  exact ⟨n, r, G', h1, k _ _ h2⟩
theorem CX.mono {mid : Nat} {as : List V} {Q' : Option V → Hp → Prop} (h : CX d mid as G Q') (k : ∀ r G', Q' r G' → Q r G') : CX d mid as G Q := by
  obtain ⟨r, G', h1, h2⟩ := h
  exact ⟨r, G', h1, k _ _ h2⟩
theorem CX.of {mid nL kind na : Nat} {as : List V} {y : MethodName} (hm : mtab[mid]? = some (y, cc, nL, ret, own, kind, na)) (hna : (as.flatMap sl1).length ≤ nL) (h : Ex d ret own (kind == 2) cc 0 (entr as nL) [] G Q) : CX (d + 1) mid as G Q := by
  obtain ⟨n, r, G', h1, h2⟩ := h
  exact ⟨r, G', by simp only [Cal, hm]; exact ⟨hna, n, h1⟩, h2⟩
theorem runR_mono {C C' : Nat → List V → Hp → Option V → Hp → Prop} (hC : ∀ m a G r G', C m a G r G' → C' m a G r G') : ∀ (n pc : Nat) (ls : Ls) (st : List V) (G : Hp) (r : Option V) (G' : Hp), runR C ret own ini cc n pc ls st G r G' → runR C' ret own ini cc n pc ls st G r G' := by
  intro n
  induction n with
  | zero => intro pc ls st G r G' h; exact h
  | succ n ih =>
    intro pc ls st G r G' h
    simp only [runR] at h ⊢
    cases hd : decode cc pc with
    | error e => rw [hd] at h; exact h
    | ok x =>
      obtain ⟨i, len⟩ := x
      rw [hd] at h
      dsimp only at h ⊢
      refine ⟨h.1, ?_⟩
      replace h := h.2
      cases hs : stp ret own ini i pc (pc + len) ls st G with
      | none => rw [hs] at h; exact h
      | some o =>
        rw [hs] at h
        rcases o with ⟨q, ls', st', G1⟩ | ⟨mid, as, q, rest⟩ | v
        · exact ih _ _ _ _ _ _ h
        · obtain ⟨r1, G1, h1, h2⟩ := h
          exact ⟨r1, G1, hC _ _ _ _ _ h1, ih _ _ _ _ _ _ h2⟩
        · exact h
theorem Cal_succ : ∀ (d mid : Nat) (as : List V) (G : Hp) (r : Option V) (G' : Hp), Cal d mid as G r G' → Cal (d + 1) mid as G r G' := by
  intro d
  induction d with
  | zero => intro mid as G r G' h; exact h.elim
  | succ d ih =>
    intro mid as G r G' h
    simp only [Cal] at h
    simp only [Cal]
    cases hm : mtab[mid]? with
    | none => rw [hm] at h; exact h
    | some x =>
      obtain ⟨y, cc, nL, ret, own, kind, na⟩ := x
      rw [hm] at h
      obtain ⟨h0, n, h1⟩ := h
      refine ⟨h0, n, runR_mono ?_ _ _ _ _ _ _ _ h1⟩
      intro m a G r G' h2
      exact ih m a G r G' h2
theorem Cal_le {d d' : Nat} (hl : d ≤ d') {mid : Nat} {as : List V} {G : Hp} {r : Option V} {G' : Hp} (h : Cal d mid as G r G') : Cal d' mid as G r G' := by
  induction hl with
  | refl => exact h
  | step _ ih => exact Cal_succ _ _ _ _ _ _ ih
theorem CX.up {d' mid : Nat} {as : List V} (hl : d ≤ d') (h : CX d mid as G Q) : CX d' mid as G Q := by
  obtain ⟨r, G', h1, h2⟩ := h
  exact ⟨r, G', Cal_le hl h1, h2⟩

theorem x_aload_n {k : Fin 4} {r : Option Nat} (hd : decode cc pc = .ok (.aload_n k, 1)) (hq : pc + 1 = q) (hl : ls[k.val]? = some (some (.inr (.inr r)))) (h : Ex d ret own ini cc q ls (.inr (.inr r) :: st) G Q) : Ex d ret own ini cc pc ls (st) G Q := Ex.nx hd (by rfl) (by subst hq; simp [stp, ldv, hl, nxt]) h
theorem x_aload {k : Nat} {r : Option Nat} (hd : decode cc pc = .ok (.aload k, 2)) (hq : pc + 2 = q) (hl : ls[k]? = some (some (.inr (.inr r)))) (h : Ex d ret own ini cc q ls (.inr (.inr r) :: st) G Q) : Ex d ret own ini cc pc ls (st) G Q := Ex.nx hd (by rfl) (by subst hq; simp [stp, ldv, hl, nxt]) h
theorem x_iload_n {k : Fin 4} {x : Int} (hd : decode cc pc = .ok (.iload_n k, 1)) (hq : pc + 1 = q) (hl : ls[k.val]? = some (some (.inl x))) (h : Ex d ret own ini cc q ls (.inl x :: st) G Q) : Ex d ret own ini cc pc ls (st) G Q := Ex.nx hd (by rfl) (by subst hq; simp [stp, ldv, hl, nxt]) h
theorem x_iload {k : Nat} {x : Int} (hd : decode cc pc = .ok (.iload k, 2)) (hq : pc + 2 = q) (hl : ls[k]? = some (some (.inl x))) (h : Ex d ret own ini cc q ls (.inl x :: st) G Q) : Ex d ret own ini cc pc ls (st) G Q := Ex.nx hd (by rfl) (by subst hq; simp [stp, ldv, hl, nxt]) h
theorem x_lload_n {k : Fin 4} {x : Int} (hd : decode cc pc = .ok (.lload_n k, 1)) (hq : pc + 1 = q) (hl : ls[k.val]? = some (some (.inr (.inl x)))) (h : Ex d ret own ini cc q ls (.inr (.inl x) :: st) G Q) : Ex d ret own ini cc pc ls (st) G Q := Ex.nx hd (by rfl) (by subst hq; simp [stp, ldv, hl, nxt]) h
theorem x_lload {k : Nat} {x : Int} (hd : decode cc pc = .ok (.lload k, 2)) (hq : pc + 2 = q) (hl : ls[k]? = some (some (.inr (.inl x)))) (h : Ex d ret own ini cc q ls (.inr (.inl x) :: st) G Q) : Ex d ret own ini cc pc ls (st) G Q := Ex.nx hd (by rfl) (by subst hq; simp [stp, ldv, hl, nxt]) h
theorem x_istore_n {k : Fin 4} {x : Int} {ls' : Ls} (hd : decode cc pc = .ok (.istore_n k, 1)) (hq : pc + 1 = q) (hk : k.val < ls.length) (hn : noL ls = true) (hl : ls.set k.val (some (.inl x)) = ls') (h : Ex d ret own ini cc q ls' (st) G Q) : Ex d ret own ini cc pc ls (.inl x :: st) G Q := Ex.nx hd (by rfl) (by subst hq; simp [stp, stv, hk, hn, hl, nxt]) h
theorem x_istore {k : Nat} {x : Int} {ls' : Ls} (hd : decode cc pc = .ok (.istore k, 2)) (hq : pc + 2 = q) (hk : k < ls.length) (hn : noL ls = true) (hl : ls.set k (some (.inl x)) = ls') (h : Ex d ret own ini cc q ls' (st) G Q) : Ex d ret own ini cc pc ls (.inl x :: st) G Q := Ex.nx hd (by rfl) (by subst hq; simp [stp, stv, hk, hn, hl, nxt]) h
theorem x_astore_n {k : Fin 4} {r : Option Nat} {ls' : Ls} (hd : decode cc pc = .ok (.astore_n k, 1)) (hq : pc + 1 = q) (hk : k.val < ls.length) (hn : noL ls = true) (hl : ls.set k.val (some (.inr (.inr r))) = ls') (h : Ex d ret own ini cc q ls' (st) G Q) : Ex d ret own ini cc pc ls (.inr (.inr r) :: st) G Q := Ex.nx hd (by rfl) (by subst hq; simp [stp, stv, hk, hn, hl, nxt]) h
theorem x_astore {k : Nat} {r : Option Nat} {ls' : Ls} (hd : decode cc pc = .ok (.astore k, 2)) (hq : pc + 2 = q) (hk : k < ls.length) (hn : noL ls = true) (hl : ls.set k (some (.inr (.inr r))) = ls') (h : Ex d ret own ini cc q ls' (st) G Q) : Ex d ret own ini cc pc ls (.inr (.inr r) :: st) G Q := Ex.nx hd (by rfl) (by subst hq; simp [stp, stv, hk, hn, hl, nxt]) h
theorem x_iinc {k : Nat} {c x : Int} {ls' : Ls} (hd : decode cc pc = .ok (.iinc k c, 3)) (hq : pc + 3 = q) (hx : ls[k]? = some (some (.inl x))) (hn : noL ls = true) (hl : ls.set k (some (.inl (wr (x + c)))) = ls') (h : Ex d ret own ini cc q ls' (st) G Q) : Ex d ret own ini cc pc ls (st) G Q := Ex.nx hd (by rfl) (by subst hq; simp [stp, hx, hn, hl, nxt]) h
theorem x_iconst {c : Int} (hd : decode cc pc = .ok (.iconst c, 1)) (hq : pc + 1 = q) (hc : -1 ≤ c ∧ c ≤ 5) (h : Ex d ret own ini cc q ls (.inl c :: st) G Q) : Ex d ret own ini cc pc ls (st) G Q := Ex.nx hd (by rfl) (by subst hq; simp [stp, pushI, hc.1, hc.2, nxt]) h
theorem x_bipush {c : Int} (hd : decode cc pc = .ok (.bipush c, 2)) (hq : pc + 2 = q) (hc : -128 ≤ c ∧ c ≤ 127) (h : Ex d ret own ini cc q ls (.inl c :: st) G Q) : Ex d ret own ini cc pc ls (st) G Q := Ex.nx hd (by rfl) (by subst hq; simp [stp, pushI, hc.1, hc.2, nxt]) h
theorem x_sipush {c : Int} (hd : decode cc pc = .ok (.sipush c, 3)) (hq : pc + 3 = q) (hc : -32768 ≤ c ∧ c ≤ 32767) (h : Ex d ret own ini cc q ls (.inl c :: st) G Q) : Ex d ret own ini cc pc ls (st) G Q := Ex.nx hd (by rfl) (by subst hq; simp [stp, pushI, hc.1, hc.2, nxt]) h
theorem x_lconst {c : Fin 2} {x : Int} (hd : decode cc pc = .ok (.lconst c, 1)) (hq : pc + 1 = q) (hc : (c.val : Int) = x) (h : Ex d ret own ini cc q ls (.inr (.inl x) :: st) G Q) : Ex d ret own ini cc pc ls (st) G Q := Ex.nx hd (by rfl) (by subst hq; simp [stp, hc, nxt]) h
theorem x_ldc {k : Nat} {x : Int} (hd : decode cc pc = .ok (.ldc k, 2)) (hq : pc + 2 = q) (hk : kres own k = some x) (h : Ex d ret own ini cc q ls (.inl x :: st) G Q) : Ex d ret own ini cc pc ls (st) G Q := Ex.nx hd (by rfl) (by subst hq; simp [stp, hk, nxt]) h
theorem x_ldc_w {k : Nat} {x : Int} (hd : decode cc pc = .ok (.ldc_w k, 3)) (hq : pc + 3 = q) (hk : kres own k = some x) (h : Ex d ret own ini cc q ls (.inl x :: st) G Q) : Ex d ret own ini cc pc ls (st) G Q := Ex.nx hd (by rfl) (by subst hq; simp [stp, hk, nxt]) h
theorem x_ldc2_w {k : Nat} {x : Int} (hd : decode cc pc = .ok (.ldc2_w k, 3)) (hq : pc + 3 = q) (hk : jres own k = some x) (h : Ex d ret own ini cc q ls (.inr (.inl x) :: st) G Q) : Ex d ret own ini cc pc ls (st) G Q := Ex.nx hd (by rfl) (by subst hq; simp [stp, hk, nxt]) h
theorem x_aconst_null  (hd : decode cc pc = .ok (.aconst_null, 1)) (hq : pc + 1 = q)  (h : Ex d ret own ini cc q ls (.inr (.inr none) :: st) G Q) : Ex d ret own ini cc pc ls (st) G Q := Ex.nx hd (by rfl) (by subst hq; simp [stp, nxt]) h
theorem x_iadd {x y z : Int} (hd : decode cc pc = .ok (.iadd, 1)) (hq : pc + 1 = q) (hz : wr (x + y) = z) (h : Ex d ret own ini cc q ls (.inl z :: st) G Q) : Ex d ret own ini cc pc ls (.inl y :: .inl x :: st) G Q := Ex.nx hd (by rfl) (by subst hq; subst hz; simp [stp, bi2, nxt]) h
theorem x_isub {x y z : Int} (hd : decode cc pc = .ok (.isub, 1)) (hq : pc + 1 = q) (hz : wr (x - y) = z) (h : Ex d ret own ini cc q ls (.inl z :: st) G Q) : Ex d ret own ini cc pc ls (.inl y :: .inl x :: st) G Q := Ex.nx hd (by rfl) (by subst hq; subst hz; simp [stp, bi2, nxt]) h
theorem x_imul {x y z : Int} (hd : decode cc pc = .ok (.imul, 1)) (hq : pc + 1 = q) (hz : wr (x * y) = z) (h : Ex d ret own ini cc q ls (.inl z :: st) G Q) : Ex d ret own ini cc pc ls (.inl y :: .inl x :: st) G Q := Ex.nx hd (by rfl) (by subst hq; subst hz; simp [stp, bi2, nxt]) h
theorem x_iand {x y z : Int} (hd : decode cc pc = .ok (.iand, 1)) (hq : pc + 1 = q) (hz : (Int32.ofInt x &&& Int32.ofInt y).toInt = z) (h : Ex d ret own ini cc q ls (.inl z :: st) G Q) : Ex d ret own ini cc pc ls (.inl y :: .inl x :: st) G Q := Ex.nx hd (by rfl) (by subst hq; subst hz; simp [stp, bi2, nxt]) h
theorem x_ior {x y z : Int} (hd : decode cc pc = .ok (.ior, 1)) (hq : pc + 1 = q) (hz : (Int32.ofInt x ||| Int32.ofInt y).toInt = z) (h : Ex d ret own ini cc q ls (.inl z :: st) G Q) : Ex d ret own ini cc pc ls (.inl y :: .inl x :: st) G Q := Ex.nx hd (by rfl) (by subst hq; subst hz; simp [stp, bi2, nxt]) h
theorem x_ixor {x y z : Int} (hd : decode cc pc = .ok (.ixor, 1)) (hq : pc + 1 = q) (hz : (Int32.ofInt x ^^^ Int32.ofInt y).toInt = z) (h : Ex d ret own ini cc q ls (.inl z :: st) G Q) : Ex d ret own ini cc pc ls (.inl y :: .inl x :: st) G Q := Ex.nx hd (by rfl) (by subst hq; subst hz; simp [stp, bi2, nxt]) h
theorem x_ishl {x y z : Int} (hd : decode cc pc = .ok (.ishl, 1)) (hq : pc + 1 = q) (hz : (Int32.ofInt x <<< (Int32.ofInt y &&& 31)).toInt = z) (h : Ex d ret own ini cc q ls (.inl z :: st) G Q) : Ex d ret own ini cc pc ls (.inl y :: .inl x :: st) G Q := Ex.nx hd (by rfl) (by subst hq; subst hz; simp [stp, bi2, nxt]) h
theorem x_ishr {x y z : Int} (hd : decode cc pc = .ok (.ishr, 1)) (hq : pc + 1 = q) (hz : (Int32.ofInt x >>> (Int32.ofInt y &&& 31)).toInt = z) (h : Ex d ret own ini cc q ls (.inl z :: st) G Q) : Ex d ret own ini cc pc ls (.inl y :: .inl x :: st) G Q := Ex.nx hd (by rfl) (by subst hq; subst hz; simp [stp, bi2, nxt]) h
theorem x_idiv {x y z : Int} (hd : decode cc pc = .ok (.idiv, 1)) (hq : pc + 1 = q) (hy : ¬ y = 0) (hz : wr (x.tdiv y) = z) (h : Ex d ret own ini cc q ls (.inl z :: st) G Q) : Ex d ret own ini cc pc ls (.inl y :: .inl x :: st) G Q := Ex.nx hd (by rfl) (by subst hq; subst hz; simp [stp, bi2, nxt, hy]) h
theorem x_irem {x y z : Int} (hd : decode cc pc = .ok (.irem, 1)) (hq : pc + 1 = q) (hy : ¬ y = 0) (hz : x.tmod y = z) (h : Ex d ret own ini cc q ls (.inl z :: st) G Q) : Ex d ret own ini cc pc ls (.inl y :: .inl x :: st) G Q := Ex.nx hd (by rfl) (by subst hq; subst hz; simp [stp, bi2, nxt, hy]) h
theorem x_i2l {x : Int} (hd : decode cc pc = .ok (.i2l, 1)) (hq : pc + 1 = q)  (h : Ex d ret own ini cc q ls (.inr (.inl x) :: st) G Q) : Ex d ret own ini cc pc ls (.inl x :: st) G Q := Ex.nx hd (by rfl) (by subst hq; simp [stp, un1, nxt]) h
theorem x_l2i {x z : Int} (hd : decode cc pc = .ok (.l2i, 1)) (hq : pc + 1 = q) (hz : wr x = z) (h : Ex d ret own ini cc q ls (.inl z :: st) G Q) : Ex d ret own ini cc pc ls (.inr (.inl x) :: st) G Q := Ex.nx hd (by rfl) (by subst hq; subst hz; simp [stp, nxt]) h
theorem x_ladd {x y z : Int} (hd : decode cc pc = .ok (.ladd, 1)) (hq : pc + 1 = q) (hz : wl (x + y) = z) (h : Ex d ret own ini cc q ls (.inr (.inl z) :: st) G Q) : Ex d ret own ini cc pc ls (.inr (.inl y) :: .inr (.inl x) :: st) G Q := Ex.nx hd (by rfl) (by subst hq; subst hz; simp [stp, bl2, nxt]) h
theorem x_lmul {x y z : Int} (hd : decode cc pc = .ok (.lmul, 1)) (hq : pc + 1 = q) (hz : wl (x * y) = z) (h : Ex d ret own ini cc q ls (.inr (.inl z) :: st) G Q) : Ex d ret own ini cc pc ls (.inr (.inl y) :: .inr (.inl x) :: st) G Q := Ex.nx hd (by rfl) (by subst hq; subst hz; simp [stp, bl2, nxt]) h
theorem x_lrem {x y z : Int} (hd : decode cc pc = .ok (.lrem, 1)) (hq : pc + 1 = q) (hy : ¬ y = 0) (hz : x.tmod y = z) (h : Ex d ret own ini cc q ls (.inr (.inl z) :: st) G Q) : Ex d ret own ini cc pc ls (.inr (.inl y) :: .inr (.inl x) :: st) G Q := Ex.nx hd (by rfl) (by subst hq; subst hz; simp [stp, bl2, nxt, hy]) h
theorem x_lcmp {x y z : Int} (hd : decode cc pc = .ok (.lcmp, 1)) (hq : pc + 1 = q) (hz : (if x < y then (-1 : Int) else if x = y then 0 else 1) = z) (h : Ex d ret own ini cc q ls (.inl z :: st) G Q) : Ex d ret own ini cc pc ls (.inr (.inl y) :: .inr (.inl x) :: st) G Q := Ex.nx hd (by rfl) (by subst hq; subst hz; simp [stp, bl2, nxt]) h
theorem x_dup {v : V} (hd : decode cc pc = .ok (.dup, 1)) (hq : pc + 1 = q) (hv : vcat v = 1) (h : Ex d ret own ini cc q ls (v :: v :: st) G Q) : Ex d ret own ini cc pc ls (v :: st) G Q := Ex.nx hd (by rfl) (by subst hq; simp [stp, hv, nxt]) h
theorem x_dup2 {v w : V} (hd : decode cc pc = .ok (.dup2, 1)) (hq : pc + 1 = q) (hv : vcat v = 1) (hw : vcat w = 1) (h : Ex d ret own ini cc q ls (v :: w :: v :: w :: st) G Q) : Ex d ret own ini cc pc ls (v :: w :: st) G Q := Ex.nx hd (by rfl) (by subst hq; simp [stp, hv, hw, nxt]) h
theorem x_pop {v : V} (hd : decode cc pc = .ok (.pop, 1)) (hq : pc + 1 = q) (hv : vcat v = 1) (h : Ex d ret own ini cc q ls (st) G Q) : Ex d ret own ini cc pc ls (v :: st) G Q := Ex.nx hd (by rfl) (by subst hq; simp [stp, hv, nxt]) h
theorem gto_at {off : Int} (ht : (pc : Int) + off = (t : Int)) : gto pc off ls st G = some (.inl (t, ls, st, G)) := by
  have h0 : 0 ≤ (pc : Int) + off := by omega
  have h1 : ((pc : Int) + off).toNat = t := by omega
  simp [gto, h0, h1, nxt]
theorem x_goto {off : Int} (hd : decode cc pc = .ok (.goto off, 3)) (ht : (pc : Int) + off = (t : Int)) (h : Ex d ret own ini cc t ls st G Q) : Ex d ret own ini cc pc ls st G Q := Ex.nx hd (by rfl) (by simp only [stp]; exact gto_at ht) h
theorem x_icmp_eq {off x y : Int} (hd : decode cc pc = .ok (.if_icmp .eq off, 3)) (hq : pc + 3 = q) (ht : (pc : Int) + off = (t : Int)) (h1 : x = y → Ex d ret own ini cc t ls st G Q) (h2 : ¬ x = y → Ex d ret own ini cc q ls st G Q) : Ex d ret own ini cc pc ls (.inl y :: .inl x :: st) G Q := by
  have h0 : 0 ≤ (pc : Int) + off := by omega
  by_cases hc : x = y
  · exact Ex.nx hd (by rfl) (by simp only [stp, cmpI, decide_eq_true hc, if_pos h0, if_true]; exact gto_at ht) (h1 hc)
  · exact Ex.nx hd (by rfl) (by subst hq; simp only [stp, cmpI, decide_eq_false hc, if_pos h0]; rfl) (h2 (by omega))
theorem x_if_eq {off x : Int} (hd : decode cc pc = .ok (.ifCond .eq off, 3)) (hq : pc + 3 = q) (ht : (pc : Int) + off = (t : Int)) (h1 : x = 0 → Ex d ret own ini cc t ls st G Q) (h2 : ¬ x = 0 → Ex d ret own ini cc q ls st G Q) : Ex d ret own ini cc pc ls (.inl x :: st) G Q := by
  have h0 : 0 ≤ (pc : Int) + off := by omega
  by_cases hc : x = 0
  · exact Ex.nx hd (by rfl) (by simp only [stp, cmpI, decide_eq_true hc, if_pos h0, if_true]; exact gto_at ht) (h1 hc)
  · exact Ex.nx hd (by rfl) (by subst hq; simp only [stp, cmpI, decide_eq_false hc, if_pos h0]; rfl) (h2 (by omega))
theorem x_icmp_ne {off x y : Int} (hd : decode cc pc = .ok (.if_icmp .ne off, 3)) (hq : pc + 3 = q) (ht : (pc : Int) + off = (t : Int)) (h1 : ¬ x = y → Ex d ret own ini cc t ls st G Q) (h2 : x = y → Ex d ret own ini cc q ls st G Q) : Ex d ret own ini cc pc ls (.inl y :: .inl x :: st) G Q := by
  have h0 : 0 ≤ (pc : Int) + off := by omega
  by_cases hc : ¬ x = y
  · exact Ex.nx hd (by rfl) (by simp only [stp, cmpI, decide_eq_true hc, if_pos h0, if_true]; exact gto_at ht) (h1 hc)
  · exact Ex.nx hd (by rfl) (by subst hq; simp only [stp, cmpI, decide_eq_false hc, if_pos h0]; rfl) (h2 (by omega))
theorem x_if_ne {off x : Int} (hd : decode cc pc = .ok (.ifCond .ne off, 3)) (hq : pc + 3 = q) (ht : (pc : Int) + off = (t : Int)) (h1 : ¬ x = 0 → Ex d ret own ini cc t ls st G Q) (h2 : x = 0 → Ex d ret own ini cc q ls st G Q) : Ex d ret own ini cc pc ls (.inl x :: st) G Q := by
  have h0 : 0 ≤ (pc : Int) + off := by omega
  by_cases hc : ¬ x = 0
  · exact Ex.nx hd (by rfl) (by simp only [stp, cmpI, decide_eq_true hc, if_pos h0, if_true]; exact gto_at ht) (h1 hc)
  · exact Ex.nx hd (by rfl) (by subst hq; simp only [stp, cmpI, decide_eq_false hc, if_pos h0]; rfl) (h2 (by omega))
theorem x_icmp_lt {off x y : Int} (hd : decode cc pc = .ok (.if_icmp .lt off, 3)) (hq : pc + 3 = q) (ht : (pc : Int) + off = (t : Int)) (h1 : x < y → Ex d ret own ini cc t ls st G Q) (h2 : y ≤ x → Ex d ret own ini cc q ls st G Q) : Ex d ret own ini cc pc ls (.inl y :: .inl x :: st) G Q := by
  have h0 : 0 ≤ (pc : Int) + off := by omega
  by_cases hc : x < y
  · exact Ex.nx hd (by rfl) (by simp only [stp, cmpI, decide_eq_true hc, if_pos h0, if_true]; exact gto_at ht) (h1 hc)
  · exact Ex.nx hd (by rfl) (by subst hq; simp only [stp, cmpI, decide_eq_false hc, if_pos h0]; rfl) (h2 (by omega))
theorem x_if_lt {off x : Int} (hd : decode cc pc = .ok (.ifCond .lt off, 3)) (hq : pc + 3 = q) (ht : (pc : Int) + off = (t : Int)) (h1 : x < 0 → Ex d ret own ini cc t ls st G Q) (h2 : 0 ≤ x → Ex d ret own ini cc q ls st G Q) : Ex d ret own ini cc pc ls (.inl x :: st) G Q := by
  have h0 : 0 ≤ (pc : Int) + off := by omega
  by_cases hc : x < 0
  · exact Ex.nx hd (by rfl) (by simp only [stp, cmpI, decide_eq_true hc, if_pos h0, if_true]; exact gto_at ht) (h1 hc)
  · exact Ex.nx hd (by rfl) (by subst hq; simp only [stp, cmpI, decide_eq_false hc, if_pos h0]; rfl) (h2 (by omega))
theorem x_icmp_ge {off x y : Int} (hd : decode cc pc = .ok (.if_icmp .ge off, 3)) (hq : pc + 3 = q) (ht : (pc : Int) + off = (t : Int)) (h1 : y ≤ x → Ex d ret own ini cc t ls st G Q) (h2 : x < y → Ex d ret own ini cc q ls st G Q) : Ex d ret own ini cc pc ls (.inl y :: .inl x :: st) G Q := by
  have h0 : 0 ≤ (pc : Int) + off := by omega
  by_cases hc : y ≤ x
  · exact Ex.nx hd (by rfl) (by simp only [stp, cmpI, decide_eq_true hc, if_pos h0, if_true]; exact gto_at ht) (h1 hc)
  · exact Ex.nx hd (by rfl) (by subst hq; simp only [stp, cmpI, decide_eq_false hc, if_pos h0]; rfl) (h2 (by omega))
theorem x_if_ge {off x : Int} (hd : decode cc pc = .ok (.ifCond .ge off, 3)) (hq : pc + 3 = q) (ht : (pc : Int) + off = (t : Int)) (h1 : 0 ≤ x → Ex d ret own ini cc t ls st G Q) (h2 : x < 0 → Ex d ret own ini cc q ls st G Q) : Ex d ret own ini cc pc ls (.inl x :: st) G Q := by
  have h0 : 0 ≤ (pc : Int) + off := by omega
  by_cases hc : 0 ≤ x
  · exact Ex.nx hd (by rfl) (by simp only [stp, cmpI, decide_eq_true hc, if_pos h0, if_true]; exact gto_at ht) (h1 hc)
  · exact Ex.nx hd (by rfl) (by subst hq; simp only [stp, cmpI, decide_eq_false hc, if_pos h0]; rfl) (h2 (by omega))
theorem x_icmp_gt {off x y : Int} (hd : decode cc pc = .ok (.if_icmp .gt off, 3)) (hq : pc + 3 = q) (ht : (pc : Int) + off = (t : Int)) (h1 : y < x → Ex d ret own ini cc t ls st G Q) (h2 : x ≤ y → Ex d ret own ini cc q ls st G Q) : Ex d ret own ini cc pc ls (.inl y :: .inl x :: st) G Q := by
  have h0 : 0 ≤ (pc : Int) + off := by omega
  by_cases hc : y < x
  · exact Ex.nx hd (by rfl) (by simp only [stp, cmpI, decide_eq_true hc, if_pos h0, if_true]; exact gto_at ht) (h1 hc)
  · exact Ex.nx hd (by rfl) (by subst hq; simp only [stp, cmpI, decide_eq_false hc, if_pos h0]; rfl) (h2 (by omega))
theorem x_if_gt {off x : Int} (hd : decode cc pc = .ok (.ifCond .gt off, 3)) (hq : pc + 3 = q) (ht : (pc : Int) + off = (t : Int)) (h1 : 0 < x → Ex d ret own ini cc t ls st G Q) (h2 : x ≤ 0 → Ex d ret own ini cc q ls st G Q) : Ex d ret own ini cc pc ls (.inl x :: st) G Q := by
  have h0 : 0 ≤ (pc : Int) + off := by omega
  by_cases hc : 0 < x
  · exact Ex.nx hd (by rfl) (by simp only [stp, cmpI, decide_eq_true hc, if_pos h0, if_true]; exact gto_at ht) (h1 hc)
  · exact Ex.nx hd (by rfl) (by subst hq; simp only [stp, cmpI, decide_eq_false hc, if_pos h0]; rfl) (h2 (by omega))
theorem x_icmp_le {off x y : Int} (hd : decode cc pc = .ok (.if_icmp .le off, 3)) (hq : pc + 3 = q) (ht : (pc : Int) + off = (t : Int)) (h1 : x ≤ y → Ex d ret own ini cc t ls st G Q) (h2 : y < x → Ex d ret own ini cc q ls st G Q) : Ex d ret own ini cc pc ls (.inl y :: .inl x :: st) G Q := by
  have h0 : 0 ≤ (pc : Int) + off := by omega
  by_cases hc : x ≤ y
  · exact Ex.nx hd (by rfl) (by simp only [stp, cmpI, decide_eq_true hc, if_pos h0, if_true]; exact gto_at ht) (h1 hc)
  · exact Ex.nx hd (by rfl) (by subst hq; simp only [stp, cmpI, decide_eq_false hc, if_pos h0]; rfl) (h2 (by omega))
theorem x_if_le {off x : Int} (hd : decode cc pc = .ok (.ifCond .le off, 3)) (hq : pc + 3 = q) (ht : (pc : Int) + off = (t : Int)) (h1 : x ≤ 0 → Ex d ret own ini cc t ls st G Q) (h2 : 0 < x → Ex d ret own ini cc q ls st G Q) : Ex d ret own ini cc pc ls (.inl x :: st) G Q := by
  have h0 : 0 ≤ (pc : Int) + off := by omega
  by_cases hc : x ≤ 0
  · exact Ex.nx hd (by rfl) (by simp only [stp, cmpI, decide_eq_true hc, if_pos h0, if_true]; exact gto_at ht) (h1 hc)
  · exact Ex.nx hd (by rfl) (by subst hq; simp only [stp, cmpI, decide_eq_false hc, if_pos h0]; rfl) (h2 (by omega))
theorem x_ifnull {off : Int} {r : Option Nat} (hd : decode cc pc = .ok (.ifnull off, 3)) (hq : pc + 3 = q) (ht : (pc : Int) + off = (t : Int)) (h1 : r = none → Ex d ret own ini cc t ls st G Q) (h2 : ∀ a, r = some a → Ex d ret own ini cc q ls st G Q) : Ex d ret own ini cc pc ls (.inr (.inr r) :: st) G Q := by
  cases r with
  | none => exact Ex.nx hd (by rfl) (by simp only [stp]; exact gto_at ht) (h1 rfl)
  | some a => exact Ex.nx hd (by rfl) (by subst hq; simp [stp, nxt]) (h2 a rfl)
theorem x_ifnonnull {off : Int} {r : Option Nat} (hd : decode cc pc = .ok (.ifnonnull off, 3)) (hq : pc + 3 = q) (ht : (pc : Int) + off = (t : Int)) (h1 : ∀ a, r = some a → Ex d ret own ini cc t ls st G Q) (h2 : r = none → Ex d ret own ini cc q ls st G Q) : Ex d ret own ini cc pc ls (.inr (.inr r) :: st) G Q := by
  cases r with
  | none => exact Ex.nx hd (by rfl) (by subst hq; simp [stp, nxt]) (h2 rfl)
  | some a => exact Ex.nx hd (by rfl) (by simp only [stp]; exact gto_at ht) (h1 a rfl)
theorem x_acmp_eq {off : Int} {x y : Option Nat} (hd : decode cc pc = .ok (.if_acmp .eq off, 3)) (hq : pc + 3 = q) (ht : (pc : Int) + off = (t : Int)) (h1 : x = y → Ex d ret own ini cc t ls st G Q) (h2 : ¬ x = y → Ex d ret own ini cc q ls st G Q) : Ex d ret own ini cc pc ls (.inr (.inr y) :: .inr (.inr x) :: st) G Q := by
  have h0 : 0 ≤ (pc : Int) + off := by omega
  by_cases hc : x = y
  · exact Ex.nx hd (by rfl) (by simp only [stp, if_pos h0, hc, if_true]; exact gto_at ht) (h1 hc)
  · exact Ex.nx hd (by rfl) (by subst hq; simp only [stp, if_pos h0, hc, if_false]; rfl) (h2 hc)
theorem x_acmp_ne {off : Int} {x y : Option Nat} (hd : decode cc pc = .ok (.if_acmp .ne off, 3)) (hq : pc + 3 = q) (ht : (pc : Int) + off = (t : Int)) (h1 : ¬ x = y → Ex d ret own ini cc t ls st G Q) (h2 : x = y → Ex d ret own ini cc q ls st G Q) : Ex d ret own ini cc pc ls (.inr (.inr y) :: .inr (.inr x) :: st) G Q := by
  have h0 : 0 ≤ (pc : Int) + off := by omega
  by_cases hc : x = y
  · exact Ex.nx hd (by rfl) (by subst hq; simp only [stp, if_pos h0, hc, not_true_eq_false, if_false]; rfl) (h2 hc)
  · exact Ex.nx hd (by rfl) (by simp only [stp, if_pos h0, hc, not_false_eq_true, if_true]; exact gto_at ht) (h1 hc)
theorem x_tableIn {df lo hi off x : Int} {offs : Array Int} (hd : decode cc pc = .ok (.tableswitch df lo hi offs, n)) (h1 : lo ≤ x) (h2 : x ≤ hi) (ho : offs[(x - lo).toNat]? = some off) (ht : (pc : Int) + off = (t : Int)) (h : Ex d ret own ini cc t ls st G Q) : Ex d ret own ini cc pc ls (.inl x :: st) G Q := Ex.nx hd (by rfl) (by
  have hc : ¬ (x < lo ∨ hi < x) := by omega
  simp only [stp, hc, if_false, ho]; exact gto_at ht) h
theorem x_tableOut {df lo hi x : Int} {offs : Array Int} (hd : decode cc pc = .ok (.tableswitch df lo hi offs, n)) (h1 : x < lo ∨ hi < x) (ht : (pc : Int) + df = (t : Int)) (h : Ex d ret own ini cc t ls st G Q) : Ex d ret own ini cc pc ls (.inl x :: st) G Q := Ex.nx hd (by rfl) (by
  simp only [stp, h1, if_true]; exact gto_at ht) h
theorem x_lookup {df off x : Int} {ps : Array (Int × Int)} (hd : decode cc pc = .ok (.lookupswitch df ps, n)) (hp : (ps.toList.zip (ps.toList.drop 1)).all (fun (a, next) => a.1 < next.1) = true) (ho : Op.lookupswitch.offset ps.toList df x = off) (ht : (pc : Int) + off = (t : Int)) (h : Ex d ret own ini cc t ls st G Q) : Ex d ret own ini cc pc ls (.inl x :: st) G Q := Ex.nx hd (by rfl) (by
  simp only [stp, hp, if_true, ho]; exact gto_at ht) h
theorem x_getI {idx c a : Nat} {k : Int} (hd : decode cc pc = .ok (.getfield idx, 3)) (hq : pc + 3 = q) (hf : fres own idx = some (c, k)) (hr : isR c k.toNat = false) (ht : tg G a = c) (h : Ex d ret own ini cc q ls (.inl (iv G a k) :: st) G Q) : Ex d ret own ini cc pc ls (.inr (.inr (some a)) :: st) G Q := Ex.nx hd (by rfl) (by subst hq; simp [stp, getF, hf, hr, ht, nxt]) h
theorem x_getR {idx c a : Nat} {k : Int} (hd : decode cc pc = .ok (.getfield idx, 3)) (hq : pc + 3 = q) (hf : fres own idx = some (c, k)) (hr : isR c k.toNat = true) (ht : tg G a = c) (h : Ex d ret own ini cc q ls (.inr (.inr (rv G a k)) :: st) G Q) : Ex d ret own ini cc pc ls (.inr (.inr (some a)) :: st) G Q := Ex.nx hd (by rfl) (by subst hq; simp [stp, getF, hf, hr, ht, nxt]) h
theorem x_putI {idx c a : Nat} {k x : Int} (hd : decode cc pc = .ok (.putfield idx, 3)) (hq : pc + 3 = q) (hf : fres own idx = some (c, k)) (hr : isR c k.toNat = false) (hz : isZ c k.toNat = true → x = 0 ∨ x = 1) (hfi : (cT c k.toNat).2.2.2 = true → ini = true ∧ c = own) (ht : tg G a = c) (h : Ex d ret own ini cc q ls (st) (si G a k x) Q) : Ex d ret own ini cc pc ls (.inl x :: .inr (.inr (some a)) :: st) G Q := Ex.nx hd (by rfl) (by subst hq; simp only [stp, putF, hf]; rw [if_pos ⟨ht, hfi⟩]; rw [if_pos ⟨hr, hz⟩]; rfl) h
theorem x_putR {idx c a : Nat} {k : Int} {r : Option Nat} (hd : decode cc pc = .ok (.putfield idx, 3)) (hq : pc + 3 = q) (hf : fres own idx = some (c, k)) (hr : isR c k.toNat = true) (hfi : (cT c k.toNat).2.2.2 = true → ini = true ∧ c = own) (ht : tg G a = c) (h : Ex d ret own ini cc q ls (st) (sr G a k r) Q) : Ex d ret own ini cc pc ls (.inr (.inr r) :: .inr (.inr (some a)) :: st) G Q := Ex.nx hd (by rfl) (by subst hq; simp only [stp, putF, hf]; rw [if_pos ⟨ht, hfi⟩]; rw [if_pos hr]; rfl) h
theorem x_iaload {i : Int} {a : Nat} (hd : decode cc pc = .ok (.iaload, 1)) (hq : pc + 1 = q) (ht : tg G a = 20 ∨ tg G a = 30) (h0 : 0 ≤ i) (h1 : i < ln G a) (h : Ex d ret own ini cc q ls (.inl (iv G a i) :: st) G Q) : Ex d ret own ini cc pc ls (.inl i :: .inr (.inr (some a)) :: st) G Q := Ex.nx hd (by rfl) (by subst hq; simp only [stp, iald]; rw [if_pos ⟨ht, h0, h1⟩]; rfl) h
theorem x_aaload {i : Int} {a : Nat} (hd : decode cc pc = .ok (.aaload, 1)) (hq : pc + 1 = q) (ht : tg G a = 21 ∨ tg G a = 22) (h0 : 0 ≤ i) (h1 : i < ln G a) (h : Ex d ret own ini cc q ls (.inr (.inr (rv G a i)) :: st) G Q) : Ex d ret own ini cc pc ls (.inl i :: .inr (.inr (some a)) :: st) G Q := Ex.nx hd (by rfl) (by subst hq; simp only [stp, aald]; rw [if_pos ⟨ht, h0, h1⟩]; rfl) h
theorem x_iastore {i x : Int} {a : Nat} (hd : decode cc pc = .ok (.iastore, 1)) (hq : pc + 1 = q) (ht : tg G a = 20) (h0 : 0 ≤ i) (h1 : i < ln G a) (h : Ex d ret own ini cc q ls (st) (si G a i x) Q) : Ex d ret own ini cc pc ls (.inl x :: .inl i :: .inr (.inr (some a)) :: st) G Q := Ex.nx hd (by rfl) (by subst hq; simp only [stp, iast]; rw [if_pos ⟨ht, h0, h1⟩]; rfl) h
theorem x_aastore {i : Int} {a x : Nat} (hd : decode cc pc = .ok (.aastore, 1)) (hq : pc + 1 = q) (ht : (tg G a = 21 ∧ tg G x = 1) ∨ (tg G a = 22 ∧ tg G x = 7)) (h0 : 0 ≤ i) (h1 : i < ln G a) (h : Ex d ret own ini cc q ls (st) (sr G a i (some x)) Q) : Ex d ret own ini cc pc ls (.inr (.inr (some x)) :: .inl i :: .inr (.inr (some a)) :: st) G Q := Ex.nx hd (by rfl) (by subst hq; simp only [stp, aast]; rw [if_pos ⟨ht, h0, h1⟩]; rfl) h
theorem x_arraylength {a : Nat} (hd : decode cc pc = .ok (.arraylength, 1)) (hq : pc + 1 = q) (ht : tg G a = 20 ∨ tg G a = 30) (h : Ex d ret own ini cc q ls (.inl (ln G a) :: st) G Q) : Ex d ret own ini cc pc ls (.inr (.inr (some a)) :: st) G Q := Ex.nx hd (by rfl) (by subst hq; simp only [stp, alen]; rw [if_pos ht]; rfl) h
theorem x_newarray {x : Int} (hd : decode cc pc = .ok (.newarray .int, 2)) (hq : pc + 2 = q) (h0 : 0 ≤ x ∧ x ≤ 100000) (h : Ex d ret own ini cc q ls (.inr (.inr (some (sz G + 1))) :: st) (nw G 20 x x.toNat) Q) : Ex d ret own ini cc pc ls (.inl x :: st) G Q := Ex.nx hd (by rfl) (by subst hq; simp only [stp, newA]; rw [if_pos h0]; rfl) h
theorem x_anewC {x : Int} {k : Nat} (hd : decode cc pc = .ok (.anewarray k, 3)) (hq : pc + 3 = q) (hk : nres own k = some 1) (h0 : 0 ≤ x ∧ x ≤ 100000) (h : Ex d ret own ini cc q ls (.inr (.inr (some (sz G + 1))) :: st) (nw G 21 x x.toNat) Q) : Ex d ret own ini cc pc ls (.inl x :: st) G Q := Ex.nx hd (by rfl) (by subst hq; simp only [stp, hk, newA]; rw [if_pos h0]; rfl) h
theorem x_anewS {x : Int} {k : Nat} (hd : decode cc pc = .ok (.anewarray k, 3)) (hq : pc + 3 = q) (hk : nres own k = some 7) (h0 : 0 ≤ x ∧ x ≤ 100000) (h : Ex d ret own ini cc q ls (.inr (.inr (some (sz G + 1))) :: st) (nw G 22 x x.toNat) Q) : Ex d ret own ini cc pc ls (.inl x :: st) G Q := Ex.nx hd (by rfl) (by subst hq; simp only [stp, hk, newA]; rw [if_pos h0]; rfl) h
theorem x_new {k c : Nat} (hd : decode cc pc = .ok (.new k, 3)) (hq : pc + 3 = q) (hk : nres own k = some c) (h : Ex d ret own ini cc q ls (.inr (.inr (some (sz G + 1))) :: st) (nw G c 0 (cN c)) Q) : Ex d ret own ini cc pc ls (st) G Q := Ex.nx hd (by rfl) (by subst hq; simp only [stp, newO, hk]; rfl) h
theorem x_invV {idx mid c na nL a : Nat} {y : MethodName} {cc' : ByteArray} {ret' : Option FieldType} {as rest : List V} {R : Option V → Hp → Prop} (hd : decode cc pc = .ok (.invokevirtual idx, 3)) (hq : pc + 3 = q) (hl : lres own idx = some (mid, 0)) (hm : mtab[mid]? = some (y, cc', nL, ret', c, 0, na)) (hst : st.drop na = .inr (.inr (some a)) :: rest) (has : .inr (.inr (some a)) :: (st.take na).reverse = as) (ht : tg G a = c) (hc : cats rest ≤ 8) (hC : CX d mid as G R) (h : ∀ r1 G1, R r1 G1 → Ex d ret own ini cc q ls (r1.toList ++ rest) G1 Q) : Ex d ret own ini cc pc ls st G Q := Ex.cl hd (by rfl) (by subst hq; simp only [stp, invV, hl, hm, hst]; rw [if_pos ⟨ht, hc⟩, has]) hC h
theorem x_invS {idx mid z c na nL : Nat} {y : MethodName} {cc' : ByteArray} {ret' : Option FieldType} {as rest : List V} {R : Option V → Hp → Prop} (hd : decode cc pc = .ok (.invokestatic idx, 3)) (hq : pc + 3 = q) (hl : lres own idx = some (mid, z)) (hm : mtab[mid]? = some (y, cc', nL, ret', c, 1, na)) (hst : st.drop na = rest) (has : (st.take na).reverse = as) (hna : na ≤ st.length) (hc : cats rest ≤ 8) (hC : CX d mid as G R) (h : ∀ r1 G1, R r1 G1 → Ex d ret own ini cc q ls (r1.toList ++ rest) G1 Q) : Ex d ret own ini cc pc ls st G Q := Ex.cl hd (by rfl) (by
  subst hq
  have hlt : mid < mtab.length := (List.getElem?_eq_some_iff.mp hm).1
  rw [mtab_len2] at hlt
  simp only [stp, invS, hl]
  split
  · rename_i e; cases e; omega
  · rename_i mid2 z2 _ e; cases e; simp only [hm]; rw [if_pos ⟨hna, by rw [hst]; exact hc⟩, has, hst]
  · rename_i e; exact absurd rfl (e mid z)) hC h
theorem x_invI {idx mid z c na nL a : Nat} {y : MethodName} {cc' : ByteArray} {ret' : Option FieldType} {as rest : List V} {R : Option V → Hp → Prop} (hd : decode cc pc = .ok (.invokespecial idx, 3)) (hq : pc + 3 = q) (hl : lres own idx = some (mid, z)) (hm : mtab[mid]? = some (y, cc', nL, ret', c, 2, na)) (hst : st.drop na = .inr (.inr (some a)) :: rest) (has : .inr (.inr (some a)) :: (st.take na).reverse = as) (hc : cats rest ≤ 8) (hC : CX d mid as G R) (h : ∀ r1 G1, R r1 G1 → Ex d ret own ini cc q ls (r1.toList ++ rest) G1 Q) : Ex d ret own ini cc pc ls st G Q := Ex.cl hd (by rfl) (by
  subst hq
  have hlt : mid < mtab.length := (List.getElem?_eq_some_iff.mp hm).1
  rw [mtab_len2] at hlt
  simp only [stp, invI, hl]
  split
  · rename_i e; cases e; omega
  · rename_i mid2 z2 _ e; cases e; simp only [hm, hst]; rw [if_pos hc, has]
  · rename_i e; exact absurd rfl (e mid z)) hC h
theorem x_objI {idx z a : Nat} (hd : decode cc pc = .ok (.invokespecial idx, 3)) (hq : pc + 3 = q) (hl : lres own idx = some (900, z)) (hc : cats st ≤ 8) (h : Ex d ret own ini cc q ls st G Q) : Ex d ret own ini cc pc ls (.inr (.inr (some a)) :: st) G Q := Ex.nx hd (by rfl) (by subst hq; simp only [stp, invI, hl]; rw [if_pos hc]; rfl) h
theorem x_copy {idx z a b : Nat} {sp dp m : Int} (hd : decode cc pc = .ok (.invokestatic idx, 3)) (hq : pc + 3 = q) (hl : lres own idx = some (901, z)) (h1 : tg G a = 20) (h2 : tg G b = 20) (h3 : 0 ≤ sp) (h4 : 0 ≤ dp) (h5 : 0 ≤ m) (h6 : sp + m ≤ ln G a) (h7 : dp + m ≤ ln G b) (hc : cats st ≤ 8) (h : Ex d ret own ini cc q ls st (cp G a sp b dp m) Q) : Ex d ret own ini cc pc ls (.inl m :: .inl dp :: .inr (.inr (some b)) :: .inl sp :: .inr (.inr (some a)) :: st) G Q := Ex.nx hd (by rfl) (by subst hq; simp only [stp, invS, hl]; rw [if_pos ⟨h1, h2, h3, h4, h5, h6, h7, hc⟩]; rfl) h
theorem x_iret {x : Int} (hd : decode cc pc = .ok (.ireturn, 1)) (hr : ret = some .int) (h : Q (some (.inl x)) G) : Ex d ret own ini cc pc ls [.inl x] G Q := Ex.rt hd (by rfl) (by subst hr; simp [stp]) h
theorem x_zret {x : Int} (hd : decode cc pc = .ok (.ireturn, 1)) (hr : ret = some .boolean) (hx : x = 0 ∨ x = 1) (h : Q (some (.inl x)) G) : Ex d ret own ini cc pc ls [.inl x] G Q := Ex.rt hd (by rfl) (by subst hr; simp [stp, hx]) h
theorem x_aret {C : String} {r : Option Nat} (hd : decode cc pc = .ok (.areturn, 1)) (hr : ret = some (.object C)) (h : Q (some (.inr (.inr r))) G) : Ex d ret own ini cc pc ls [.inr (.inr r)] G Q := Ex.rt hd (by rfl) (by subst hr; simp [stp]) h
theorem x_vret (hd : decode cc pc = .ok (.return_, 1)) (hr : ret = none) (h : Q none G) : Ex d ret own ini cc pc ls [] G Q := Ex.rt hd (by rfl) (by subst hr; simp [stp]) h
end XR
section MEM
variable (G : Hp) (a b : Nat) (j k v : Int) (r : Option Nat) (t w : Nat) (n : Int)
theorem iv_si : iv (si G a k v) b j = if b = a ∧ j = k then v else iv G b j := rfl
theorem iv_sr : iv (sr G a k r) b j = iv G b j := rfl
theorem rv_si : rv (si G a k v) b j = rv G b j := rfl
theorem rv_sr : rv (sr G a k r) b j = if b = a ∧ j = k then r else rv G b j := rfl
theorem tg_si : tg (si G a k v) b = tg G b := rfl
theorem tg_sr : tg (sr G a k r) b = tg G b := rfl
theorem ln_si : ln (si G a k v) b = ln G b := rfl
theorem ln_sr : ln (sr G a k r) b = ln G b := rfl
theorem sz_si : sz (si G a k v) = sz G := rfl
theorem sz_sr : sz (sr G a k r) = sz G := rfl
theorem sl_si : sl (si G a k v) = sl G := rfl
theorem sl_sr : sl (sr G a k r) = sl G := rfl
theorem tg_nw : tg (nw G t n w) b = if b = sz G + 1 then t else tg G b := rfl
theorem ln_nw : ln (nw G t n w) b = if b = sz G + 1 then n else ln G b := rfl
theorem iv_nw : iv (nw G t n w) b j = if b = sz G + 1 then 0 else iv G b j := rfl
theorem rv_nw : rv (nw G t n w) b j = if b = sz G + 1 then none else rv G b j := rfl
theorem sz_nw : sz (nw G t n w) = sz G + 1 := rfl
theorem sl_nw : sl (nw G t n w) = sl G + w := rfl
theorem iv_cp (sp dp m : Int) (c : Nat) : iv (cp G a sp b dp m) c j = if c = b ∧ dp ≤ j ∧ j < dp + m then iv G a (sp + (j - dp)) else iv G c j := rfl
theorem rv_cp (sp dp m : Int) (c : Nat) : rv (cp G a sp b dp m) c j = rv G c j := rfl
theorem tg_cp (sp dp m : Int) (c : Nat) : tg (cp G a sp b dp m) c = tg G c := rfl
theorem ln_cp (sp dp m : Int) (c : Nat) : ln (cp G a sp b dp m) c = ln G c := rfl
theorem sz_cp (sp dp m : Int) : sz (cp G a sp b dp m) = sz G := rfl
theorem sl_cp (sp dp m : Int) : sl (cp G a sp b dp m) = sl G := rfl
end MEM
theorem wr_id {x : Int} (h : -2147483648 ≤ x ∧ x < 2147483648) : wr x = x := by
  unfold wr; rw [Int.bmod_def]; split <;> omega
theorem wl_id {x : Int} (h : -9223372036854775808 ≤ x ∧ x < 9223372036854775808) : wl x = x := by
  unfold wl; rw [Int.bmod_def]; split <;> omega
theorem wr_i32 (x : Int) : i32 (wr x) := by
  unfold i32 wr; rw [Int.bmod_def]; split <;> omega

theorem f_6_9 : fres 6 9 = some (6, 0) := by decide +kernel
theorem f_6_15 : fres 6 15 = some (6, 1) := by decide +kernel
theorem f_6_18 : fres 6 18 = some (6, 2) := by decide +kernel
theorem f_6_64 : fres 6 64 = some (6, 3) := by decide +kernel
theorem f_6_30 : fres 6 30 = some (6, 4) := by decide +kernel
theorem f_6_67 : fres 6 67 = some (6, 5) := by decide +kernel
theorem f_6_21 : fres 6 21 = some (6, 6) := by decide +kernel
theorem f_6_40 : fres 6 40 = some (6, 7) := by decide +kernel
theorem f_9_252 : fres 9 252 = some (6, 7) := by decide +kernel
theorem f_5_9 : fres 5 9 = some (5, 0) := by decide +kernel
theorem f_5_15 : fres 5 15 = some (5, 1) := by decide +kernel
theorem f_5_18 : fres 5 18 = some (5, 2) := by decide +kernel
theorem f_5_21 : fres 5 21 = some (5, 3) := by decide +kernel
theorem f_5_25 : fres 5 25 = some (5, 4) := by decide +kernel
theorem f_6_47 : fres 6 47 = some (5, 4) := by decide +kernel
theorem f_9_94 : fres 9 94 = some (5, 4) := by decide +kernel
theorem f_7_9 : fres 7 9 = some (7, 0) := by decide +kernel
theorem f_9_132 : fres 9 132 = some (7, 0) := by decide +kernel
theorem f_2_50 : fres 2 50 = some (7, 0) := by decide +kernel
theorem f_3_90 : fres 3 90 = some (7, 0) := by decide +kernel
theorem f_7_21 : fres 7 21 = some (7, 1) := by decide +kernel
theorem f_3_41 : fres 3 41 = some (7, 1) := by decide +kernel
theorem f_9_103 : fres 9 103 = some (7, 1) := by decide +kernel
theorem f_2_38 : fres 2 38 = some (7, 1) := by decide +kernel
theorem f_7_25 : fres 7 25 = some (7, 2) := by decide +kernel
theorem f_3_46 : fres 3 46 = some (7, 2) := by decide +kernel
theorem f_9_106 : fres 9 106 = some (7, 2) := by decide +kernel
theorem f_2_43 : fres 2 43 = some (7, 2) := by decide +kernel
theorem f_7_28 : fres 7 28 = some (7, 3) := by decide +kernel
theorem f_9_227 : fres 9 227 = some (7, 3) := by decide +kernel
theorem f_8_11 : fres 8 11 = some (8, 0) := by decide +kernel
theorem f_8_17 : fres 8 17 = some (8, 1) := by decide +kernel
theorem f_9_212 : fres 9 212 = some (8, 1) := by decide +kernel
theorem f_8_21 : fres 8 21 = some (8, 2) := by decide +kernel
theorem f_9_100 : fres 9 100 = some (8, 2) := by decide +kernel
theorem f_2_9 : fres 2 9 = some (2, 0) := by decide +kernel
theorem f_2_15 : fres 2 15 = some (2, 1) := by decide +kernel
theorem f_2_18 : fres 2 18 = some (2, 2) := by decide +kernel
theorem f_2_25 : fres 2 25 = some (2, 3) := by decide +kernel
theorem f_2_29 : fres 2 29 = some (2, 4) := by decide +kernel
theorem f_9_148 : fres 9 148 = some (2, 4) := by decide +kernel
theorem f_0_9 : fres 0 9 = some (0, 0) := by decide +kernel
theorem f_0_15 : fres 0 15 = some (0, 1) := by decide +kernel
theorem f_0_18 : fres 0 18 = some (0, 2) := by decide +kernel
theorem f_0_21 : fres 0 21 = some (0, 3) := by decide +kernel
theorem f_9_142 : fres 9 142 = some (0, 3) := by decide +kernel
theorem f_4_7 : fres 4 7 = some (4, 0) := by decide +kernel
theorem f_3_15 : fres 3 15 = some (3, 0) := by decide +kernel
theorem f_3_19 : fres 3 19 = some (3, 1) := by decide +kernel
theorem f_3_9 : fres 3 9 = some (3, 2) := by decide +kernel
theorem f_3_191 : fres 3 191 = some (3, 3) := by decide +kernel
theorem f_3_23 : fres 3 23 = some (3, 4) := by decide +kernel
theorem f_3_38 : fres 3 38 = some (3, 5) := by decide +kernel
theorem f_3_27 : fres 3 27 = some (3, 6) := by decide +kernel
theorem f_9_126 : fres 9 126 = some (3, 6) := by decide +kernel
theorem f_9_117 : fres 9 117 = some (3, 7) := by decide +kernel
theorem f_3_65 : fres 3 65 = some (3, 7) := by decide +kernel
theorem f_9_120 : fres 9 120 = some (3, 8) := by decide +kernel
theorem f_3_68 : fres 3 68 = some (3, 8) := by decide +kernel
theorem f_9_123 : fres 9 123 = some (3, 9) := by decide +kernel
theorem f_3_71 : fres 3 71 = some (3, 9) := by decide +kernel
theorem f_1_15 : fres 1 15 = some (1, 0) := by decide +kernel
theorem f_9_159 : fres 9 159 = some (1, 0) := by decide +kernel
theorem f_3_117 : fres 3 117 = some (1, 0) := by decide +kernel
theorem f_1_19 : fres 1 19 = some (1, 1) := by decide +kernel
theorem f_9_164 : fres 9 164 = some (1, 1) := by decide +kernel
theorem f_3_151 : fres 3 151 = some (1, 1) := by decide +kernel
theorem f_1_28 : fres 1 28 = some (1, 2) := by decide +kernel
theorem f_8_47 : fres 8 47 = some (1, 2) := by decide +kernel
theorem f_9_167 : fres 9 167 = some (1, 2) := by decide +kernel
theorem f_3_108 : fres 3 108 = some (1, 2) := by decide +kernel
theorem f_1_25 : fres 1 25 = some (1, 3) := by decide +kernel
theorem f_8_44 : fres 8 44 = some (1, 3) := by decide +kernel
theorem f_9_170 : fres 9 170 = some (1, 3) := by decide +kernel
theorem f_1_31 : fres 1 31 = some (1, 4) := by decide +kernel
theorem f_9_173 : fres 9 173 = some (1, 4) := by decide +kernel
theorem f_1_22 : fres 1 22 = some (1, 5) := by decide +kernel
theorem f_8_29 : fres 8 29 = some (1, 5) := by decide +kernel
theorem f_9_179 : fres 9 179 = some (1, 5) := by decide +kernel
theorem f_3_101 : fres 3 101 = some (1, 5) := by decide +kernel
theorem f_1_41 : fres 1 41 = some (1, 6) := by decide +kernel
theorem f_9_182 : fres 9 182 = some (1, 6) := by decide +kernel
theorem f_8_60 : fres 8 60 = some (1, 6) := by decide +kernel
theorem f_1_9 : fres 1 9 = some (1, 7) := by decide +kernel
theorem f_1_34 : fres 1 34 = some (1, 8) := by decide +kernel
theorem f_4_19 : fres 4 19 = some (1, 8) := by decide +kernel
theorem f_8_35 : fres 8 35 = some (1, 8) := by decide +kernel
theorem f_3_104 : fres 3 104 = some (1, 8) := by decide +kernel
theorem f_1_47 : fres 1 47 = some (1, 9) := by decide +kernel
theorem f_4_16 : fres 4 16 = some (1, 10) := by decide +kernel
theorem f_8_38 : fres 8 38 = some (1, 10) := by decide +kernel
theorem f_1_50 : fres 1 50 = some (1, 10) := by decide +kernel
theorem f_3_111 : fres 3 111 = some (1, 10) := by decide +kernel
theorem f_4_22 : fres 4 22 = some (1, 11) := by decide +kernel
theorem f_1_44 : fres 1 44 = some (1, 11) := by decide +kernel
theorem f_3_137 : fres 3 137 = some (1, 11) := by decide +kernel
theorem f_1_38 : fres 1 38 = some (1, 12) := by decide +kernel
theorem f_3_87 : fres 3 87 = some (1, 12) := by decide +kernel
theorem f_8_32 : fres 8 32 = some (1, 13) := by decide +kernel
theorem f_9_176 : fres 9 176 = some (1, 13) := by decide +kernel
theorem f_8_41 : fres 8 41 = some (1, 14) := by decide +kernel
theorem f_9_188 : fres 9 188 = some (1, 14) := by decide +kernel
theorem f_9_9 : fres 9 9 = some (9, 0) := by decide +kernel
theorem f_9_90 : fres 9 90 = some (9, 1) := by decide +kernel
theorem f_9_13 : fres 9 13 = some (9, 2) := by decide +kernel
theorem f_9_20 : fres 9 20 = some (9, 3) := by decide +kernel
theorem f_9_27 : fres 9 27 = some (9, 4) := by decide +kernel
theorem f_9_31 : fres 9 31 = some (9, 5) := by decide +kernel
theorem f_9_37 : fres 9 37 = some (9, 6) := by decide +kernel
theorem f_9_74 : fres 9 74 = some (9, 7) := by decide +kernel
theorem f_9_78 : fres 9 78 = some (9, 8) := by decide +kernel
theorem f_9_44 : fres 9 44 = some (9, 9) := by decide +kernel
theorem f_9_51 : fres 9 51 = some (9, 10) := by decide +kernel
theorem f_9_58 : fres 9 58 = some (9, 11) := by decide +kernel
theorem f_9_62 : fres 9 62 = some (9, 12) := by decide +kernel
theorem f_10_7 : fres 10 7 = some (10, 0) := by decide +kernel
theorem f_10_105 : fres 10 105 = some (10, 1) := by decide +kernel
theorem f_10_301 : fres 10 301 = some (10, 2) := by decide +kernel
theorem f_10_283 : fres 10 283 = some (10, 3) := by decide +kernel
theorem f_10_13 : fres 10 13 = some (10, 4) := by decide +kernel
theorem f_10_16 : fres 10 16 = some (10, 5) := by decide +kernel
theorem f_10_227 : fres 10 227 = some (10, 6) := by decide +kernel
theorem f_10_19 : fres 10 19 = some (10, 7) := by decide +kernel
theorem f_10_23 : fres 10 23 = some (10, 8) := by decide +kernel
theorem f_10_26 : fres 10 26 = some (10, 9) := by decide +kernel
theorem f_10_29 : fres 10 29 = some (10, 10) := by decide +kernel
theorem f_10_247 : fres 10 247 = some (10, 11) := by decide +kernel
theorem f_10_32 : fres 10 32 = some (10, 12) := by decide +kernel
theorem f_10_35 : fres 10 35 = some (10, 13) := by decide +kernel
theorem f_10_95 : fres 10 95 = some (10, 14) := by decide +kernel
theorem f_10_38 : fres 10 38 = some (10, 15) := by decide +kernel
theorem f_10_41 : fres 10 41 = some (10, 16) := by decide +kernel
theorem f_10_44 : fres 10 44 = some (10, 17) := by decide +kernel
theorem f_10_47 : fres 10 47 = some (10, 18) := by decide +kernel
theorem f_10_50 : fres 10 50 = some (10, 19) := by decide +kernel
theorem f_10_53 : fres 10 53 = some (10, 20) := by decide +kernel
theorem f_10_56 : fres 10 56 = some (10, 21) := by decide +kernel
theorem f_10_173 : fres 10 173 = some (10, 22) := by decide +kernel
theorem f_10_59 : fres 10 59 = some (10, 23) := by decide +kernel
theorem f_10_62 : fres 10 62 = some (10, 24) := by decide +kernel
theorem f_10_65 : fres 10 65 = some (10, 25) := by decide +kernel
theorem f_10_68 : fres 10 68 = some (10, 26) := by decide +kernel
theorem f_10_71 : fres 10 71 = some (10, 27) := by decide +kernel
theorem f_10_74 : fres 10 74 = some (10, 28) := by decide +kernel
theorem f_10_118 : fres 10 118 = some (10, 29) := by decide +kernel
theorem f_10_77 : fres 10 77 = some (10, 30) := by decide +kernel
theorem f_10_80 : fres 10 80 = some (10, 31) := by decide +kernel
theorem f_10_83 : fres 10 83 = some (10, 32) := by decide +kernel
theorem f_10_186 : fres 10 186 = some (10, 33) := by decide +kernel
theorem f_10_180 : fres 10 180 = some (10, 34) := by decide +kernel
theorem f_10_183 : fres 10 183 = some (10, 35) := by decide +kernel
theorem f_10_195 : fres 10 195 = some (10, 36) := by decide +kernel
theorem f_10_86 : fres 10 86 = some (10, 37) := by decide +kernel
theorem f_10_89 : fres 10 89 = some (10, 38) := by decide +kernel
theorem f_10_92 : fres 10 92 = some (10, 39) := by decide +kernel
theorem f_10_108 : fres 10 108 = some (10, 40) := by decide +kernel
theorem f_10_111 : fres 10 111 = some (10, 41) := by decide +kernel
theorem f_10_121 : fres 10 121 = some (10, 42) := by decide +kernel
theorem f_10_218 : fres 10 218 = some (10, 43) := by decide +kernel
theorem f_10_208 : fres 10 208 = some (10, 44) := by decide +kernel
theorem f_10_224 : fres 10 224 = some (10, 45) := by decide +kernel
theorem f_10_212 : fres 10 212 = some (10, 46) := by decide +kernel
theorem f_10_215 : fres 10 215 = some (10, 47) := by decide +kernel
theorem l_11_9 : lres 11 9 = some (80, 0) := by decide +kernel
theorem l_9_3 : lres 9 3 = some (900, 0) := by decide +kernel
theorem l_9_19 : lres 9 19 = some (56, 1) := by decide +kernel
theorem l_6_3 : lres 6 3 = some (900, 0) := by decide +kernel
theorem l_9_26 : lres 9 26 = some (46, 1) := by decide +kernel
theorem l_5_3 : lres 5 3 = some (900, 0) := by decide +kernel
theorem l_9_36 : lres 9 36 = some (68, 1) := by decide +kernel
theorem l_7_3 : lres 7 3 = some (900, 0) := by decide +kernel
theorem l_9_43 : lres 9 43 = some (71, 1) := by decide +kernel
theorem l_8_3 : lres 8 3 = some (900, 0) := by decide +kernel
theorem l_9_50 : lres 9 50 = some (17, 1) := by decide +kernel
theorem l_2_3 : lres 2 3 = some (900, 0) := by decide +kernel
theorem l_9_57 : lres 9 57 = some (0, 1) := by decide +kernel
theorem l_0_3 : lres 0 3 = some (900, 0) := by decide +kernel
theorem l_9_68 : lres 9 68 = some (43, 1) := by decide +kernel
theorem l_4_1 : lres 4 1 = some (900, 0) := by decide +kernel
theorem l_9_71 : lres 9 71 = some (23, 0) := by decide +kernel
theorem l_3_3 : lres 3 3 = some (900, 0) := by decide +kernel
theorem l_9_81 : lres 9 81 = some (101, 0) := by decide +kernel
theorem l_9_85 : lres 9 85 = some (102, 0) := by decide +kernel
theorem l_9_248 : lres 9 248 = some (57, 0) := by decide +kernel
theorem l_6_25 : lres 6 25 = some (47, 0) := by decide +kernel
theorem l_6_34 : lres 6 34 = some (165, 0) := by decide +kernel
theorem l_6_43 : lres 6 43 = some (58, 0) := by decide +kernel
theorem l_6_50 : lres 6 50 = some (59, 0) := by decide +kernel
theorem l_6_62 : lres 6 62 = some (48, 0) := by decide +kernel
theorem l_6_53 : lres 6 53 = some (61, 0) := by decide +kernel
theorem l_6_72 : lres 6 72 = some (67, 0) := by decide +kernel
theorem l_6_76 : lres 6 76 = some (65, 0) := by decide +kernel
theorem l_6_87 : lres 6 87 = some (50, 0) := by decide +kernel
theorem l_6_90 : lres 6 90 = some (66, 0) := by decide +kernel
theorem l_6_94 : lres 6 94 = some (51, 0) := by decide +kernel
theorem l_6_79 : lres 6 79 = some (64, 0) := by decide +kernel
theorem l_6_83 : lres 6 83 = some (62, 0) := by decide +kernel
theorem l_6_56 : lres 6 56 = some (63, 0) := by decide +kernel
theorem l_6_59 : lres 6 59 = some (60, 0) := by decide +kernel
theorem l_6_70 : lres 6 70 = some (49, 0) := by decide +kernel
theorem l_5_28 : lres 5 28 = some (50, 0) := by decide +kernel
theorem l_9_255 : lres 9 255 = some (103, 0) := by decide +kernel
theorem l_9_245 : lres 9 245 = some (21, 0) := by decide +kernel
theorem l_9_258 : lres 9 258 = some (24, 0) := by decide +kernel
theorem l_9_262 : lres 9 262 = some (28, 0) := by decide +kernel
theorem l_3_62 : lres 3 62 = some (40, 0) := by decide +kernel
theorem l_3_140 : lres 3 140 = some (39, 0) := by decide +kernel
theorem l_3_188 : lres 3 188 = some (45, 0) := by decide +kernel
theorem l_9_265 : lres 9 265 = some (25, 0) := by decide +kernel
theorem l_3_31 : lres 3 31 = some (30, 0) := by decide +kernel
theorem l_3_74 : lres 3 74 = some (44, 0) := by decide +kernel
theorem l_4_15 : lres 4 15 = some (6, 1) := by decide +kernel
theorem l_1_3 : lres 1 3 = some (900, 0) := by decide +kernel
theorem l_3_80 : lres 3 80 = some (7, 0) := by decide +kernel
theorem l_3_84 : lres 3 84 = some (33, 0) := by decide +kernel
theorem l_3_114 : lres 3 114 = some (8, 0) := by decide +kernel
theorem l_3_120 : lres 3 120 = some (53, 0) := by decide +kernel
theorem l_5_32 : lres 5 32 = some (52, 0) := by decide +kernel
theorem l_3_126 : lres 3 126 = some (54, 0) := by decide +kernel
theorem l_3_129 : lres 3 129 = some (34, 0) := by decide +kernel
theorem l_3_144 : lres 3 144 = some (55, 0) := by decide +kernel
theorem l_3_147 : lres 3 147 = some (41, 0) := by decide +kernel
theorem l_3_133 : lres 3 133 = some (42, 0) := by decide +kernel
theorem l_3_154 : lres 3 154 = some (36, 0) := by decide +kernel
theorem l_3_164 : lres 3 164 = some (163, 0) := by decide +kernel
theorem l_3_170 : lres 3 170 = some (11, 0) := by decide +kernel
theorem l_3_158 : lres 3 158 = some (37, 0) := by decide +kernel
theorem l_3_174 : lres 3 174 = some (52, 0) := by decide +kernel
theorem l_3_178 : lres 3 178 = some (10, 0) := by decide +kernel
theorem l_1_53 : lres 1 53 = some (12, 0) := by decide +kernel
theorem l_3_182 : lres 3 182 = some (38, 0) := by decide +kernel
theorem l_3_55 : lres 3 55 = some (31, 0) := by decide +kernel
theorem l_3_93 : lres 3 93 = some (13, 0) := by decide +kernel
theorem l_1_57 : lres 1 57 = some (165, 0) := by decide +kernel
theorem l_3_97 : lres 3 97 = some (32, 0) := by decide +kernel
theorem l_3_185 : lres 3 185 = some (9, 0) := by decide +kernel
theorem l_3_161 : lres 3 161 = some (35, 0) := by decide +kernel
theorem l_3_35 : lres 3 35 = some (29, 0) := by decide +kernel
theorem l_9_220 : lres 9 220 = some (72, 0) := by decide +kernel
theorem l_8_25 : lres 8 25 = some (73, 0) := by decide +kernel
theorem l_11_13 : lres 11 13 = some (81, 0) := by decide +kernel
theorem l_11_18 : lres 11 18 = some (82, 0) := by decide +kernel
theorem l_11_23 : lres 11 23 = some (83, 0) := by decide +kernel
theorem l_11_27 : lres 11 27 = some (84, 0) := by decide +kernel
theorem l_9_97 : lres 9 97 = some (76, 0) := by decide +kernel
theorem l_9_109 : lres 9 109 = some (105, 0) := by decide +kernel
theorem l_9_272 : lres 9 272 = some (26, 0) := by decide +kernel
theorem l_9_113 : lres 9 113 = some (106, 0) := by decide +kernel
theorem l_9_276 : lres 9 276 = some (15, 0) := by decide +kernel
theorem l_1_63 : lres 1 63 = some (16, 0) := by decide +kernel
theorem l_9_129 : lres 9 129 = some (77, 0) := by decide +kernel
theorem l_8_50 : lres 8 50 = some (164, 0) := by decide +kernel
theorem l_9_135 : lres 9 135 = some (78, 0) := by decide +kernel
theorem l_8_56 : lres 8 56 = some (13, 0) := by decide +kernel
theorem l_9_139 : lres 9 139 = some (79, 0) := by decide +kernel
theorem l_9_145 : lres 9 145 = some (107, 0) := by decide +kernel
theorem l_9_279 : lres 9 279 = some (3, 0) := by decide +kernel
theorem l_0_25 : lres 0 25 = some (2, 0) := by decide +kernel
theorem l_9_205 : lres 9 205 = some (52, 0) := by decide +kernel
theorem l_9_282 : lres 9 282 = some (4, 0) := by decide +kernel
theorem l_9_285 : lres 9 285 = some (5, 0) := by decide +kernel
theorem l_11_31 : lres 11 31 = some (85, 0) := by decide +kernel
theorem l_9_151 : lres 9 151 = some (98, 0) := by decide +kernel
theorem l_11_35 : lres 11 35 = some (86, 0) := by decide +kernel
theorem l_9_155 : lres 9 155 = some (74, 0) := by decide +kernel
theorem l_9_185 : lres 9 185 = some (14, 0) := by decide +kernel
theorem l_9_191 : lres 9 191 = some (13, 0) := by decide +kernel
theorem l_11_40 : lres 11 40 = some (87, 0) := by decide +kernel
theorem l_9_195 : lres 9 195 = some (75, 0) := by decide +kernel
theorem l_11_44 : lres 11 44 = some (88, 0) := by decide +kernel
theorem l_9_199 : lres 9 199 = some (99, 0) := by decide +kernel
theorem l_9_202 : lres 9 202 = some (104, 0) := by decide +kernel
theorem l_9_269 : lres 9 269 = some (18, 0) := by decide +kernel
theorem l_2_21 : lres 2 21 = some (20, 0) := by decide +kernel
theorem l_2_32 : lres 2 32 = some (165, 0) := by decide +kernel
theorem l_11_48 : lres 11 48 = some (89, 0) := by decide +kernel
theorem l_9_208 : lres 9 208 = some (19, 0) := by decide +kernel
theorem l_11_52 : lres 11 52 = some (90, 0) := by decide +kernel
theorem l_9_216 : lres 9 216 = some (27, 0) := by decide +kernel
theorem l_3_49 : lres 3 49 = some (12, 0) := by decide +kernel
theorem l_3_59 : lres 3 59 = some (28, 0) := by decide +kernel
theorem l_11_56 : lres 11 56 = some (91, 0) := by decide +kernel
theorem l_9_224 : lres 9 224 = some (70, 0) := by decide +kernel
theorem l_11_60 : lres 11 60 = some (92, 0) := by decide +kernel
theorem l_9_231 : lres 9 231 = some (22, 0) := by decide +kernel
theorem l_2_46 : lres 2 46 = some (98, 1) := by decide +kernel
theorem l_11_64 : lres 11 64 = some (93, 0) := by decide +kernel
theorem l_9_235 : lres 9 235 = some (1, 0) := by decide +kernel
theorem l_11_69 : lres 11 69 = some (94, 0) := by decide +kernel
theorem l_11_73 : lres 11 73 = some (95, 0) := by decide +kernel
theorem l_11_77 : lres 11 77 = some (96, 0) := by decide +kernel
theorem l_9_239 : lres 9 239 = some (100, 0) := by decide +kernel
theorem l_9_242 : lres 9 242 = some (69, 0) := by decide +kernel
theorem l_7_15 : lres 7 15 = some (901, 0) := by decide +kernel
theorem l_11_81 : lres 11 81 = some (97, 0) := by decide +kernel
theorem l_11_12 : lres 11 12 = some (108, 0) := by decide +kernel
theorem l_10_1 : lres 10 1 = some (900, 0) := by decide +kernel
theorem l_10_98 : lres 10 98 = some (131, 0) := by decide +kernel
theorem l_10_198 : lres 10 198 = some (124, 0) := by decide +kernel
theorem l_10_162 : lres 10 162 = some (123, 0) := by decide +kernel
theorem l_10_135 : lres 10 135 = some (116, 0) := by decide +kernel
theorem l_10_124 : lres 10 124 = some (113, 0) := by decide +kernel
theorem l_10_155 : lres 10 155 = some (118, 0) := by decide +kernel
theorem l_10_131 : lres 10 131 = some (109, 0) := by decide +kernel
theorem l_10_159 : lres 10 159 = some (120, 0) := by decide +kernel
theorem l_10_138 : lres 10 138 = some (119, 0) := by decide +kernel
theorem l_10_142 : lres 10 142 = some (122, 0) := by decide +kernel
theorem l_10_152 : lres 10 152 = some (115, 0) := by decide +kernel
theorem l_10_114 : lres 10 114 = some (114, 0) := by decide +kernel
theorem l_10_145 : lres 10 145 = some (121, 0) := by decide +kernel
theorem l_10_148 : lres 10 148 = some (117, 0) := by decide +kernel
theorem l_10_201 : lres 10 201 = some (129, 0) := by decide +kernel
theorem l_10_189 : lres 10 189 = some (127, 0) := by decide +kernel
theorem l_10_169 : lres 10 169 = some (126, 0) := by decide +kernel
theorem l_10_165 : lres 10 165 = some (110, 0) := by decide +kernel
theorem l_10_176 : lres 10 176 = some (125, 0) := by decide +kernel
theorem l_10_192 : lres 10 192 = some (128, 0) := by decide +kernel
theorem l_10_205 : lres 10 205 = some (130, 0) := by decide +kernel
theorem l_11_17 : lres 11 17 = some (138, 0) := by decide +kernel
theorem l_11_22 : lres 11 22 = some (139, 0) := by decide +kernel
theorem l_10_241 : lres 10 241 = some (136, 0) := by decide +kernel
theorem l_10_230 : lres 10 230 = some (134, 0) := by decide +kernel
theorem l_10_221 : lres 10 221 = some (133, 0) := by decide +kernel
theorem l_10_233 : lres 10 233 = some (135, 0) := by decide +kernel
theorem l_10_244 : lres 10 244 = some (137, 0) := by decide +kernel
theorem l_11_26 : lres 11 26 = some (140, 0) := by decide +kernel
theorem l_11_30 : lres 11 30 = some (146, 0) := by decide +kernel
theorem l_10_262 : lres 10 262 = some (132, 0) := by decide +kernel
theorem l_10_266 : lres 10 266 = some (145, 0) := by decide +kernel
theorem l_10_250 : lres 10 250 = some (141, 0) := by decide +kernel
theorem l_10_253 : lres 10 253 = some (142, 0) := by decide +kernel
theorem l_10_256 : lres 10 256 = some (143, 0) := by decide +kernel
theorem l_10_259 : lres 10 259 = some (144, 0) := by decide +kernel
theorem l_11_34 : lres 11 34 = some (147, 0) := by decide +kernel
theorem l_11_39 : lres 11 39 = some (150, 0) := by decide +kernel
theorem l_10_272 : lres 10 272 = some (148, 0) := by decide +kernel
theorem l_10_275 : lres 10 275 = some (149, 0) := by decide +kernel
theorem l_11_43 : lres 11 43 = some (151, 0) := by decide +kernel
theorem l_11_47 : lres 11 47 = some (152, 0) := by decide +kernel
theorem l_10_280 : lres 10 280 = some (112, 0) := by decide +kernel
theorem l_10_101 : lres 10 101 = some (111, 0) := by decide +kernel
theorem l_11_51 : lres 11 51 = some (153, 0) := by decide +kernel
theorem l_11_55 : lres 11 55 = some (154, 0) := by decide +kernel
theorem l_11_59 : lres 11 59 = some (156, 0) := by decide +kernel
theorem l_10_295 : lres 10 295 = some (155, 0) := by decide +kernel
theorem l_11_63 : lres 11 63 = some (157, 0) := by decide +kernel
theorem l_11_68 : lres 11 68 = some (158, 0) := by decide +kernel
theorem l_11_72 : lres 11 72 = some (159, 0) := by decide +kernel
theorem l_11_76 : lres 11 76 = some (160, 0) := by decide +kernel
theorem l_11_80 : lres 11 80 = some (161, 0) := by decide +kernel
theorem l_11_84 : lres 11 84 = some (162, 0) := by decide +kernel
theorem n_11_7 : nres 11 7 = some 9 := by decide +kernel
theorem n_9_17 : nres 9 17 = some 6 := by decide +kernel
theorem n_9_24 : nres 9 24 = some 5 := by decide +kernel
theorem n_9_34 : nres 9 34 = some 7 := by decide +kernel
theorem n_9_41 : nres 9 41 = some 8 := by decide +kernel
theorem n_8_9 : nres 8 9 = some 1 := by decide +kernel
theorem n_9_48 : nres 9 48 = some 2 := by decide +kernel
theorem n_9_55 : nres 9 55 = some 0 := by decide +kernel
theorem n_9_66 : nres 9 66 = some 4 := by decide +kernel
theorem n_9_69 : nres 9 69 = some 3 := by decide +kernel
theorem n_4_13 : nres 4 13 = some 1 := by decide +kernel
theorem n_11_10 : nres 11 10 = some 10 := by decide +kernel
theorem k_9_89 : kres 9 89 = some (-1000000002) := by decide +kernel
theorem k_9_93 : kres 9 93 = some (-1000000004) := by decide +kernel
theorem k_9_154 : kres 9 154 = some (-1000000001) := by decide +kernel
theorem k_7_31 : kres 7 31 = some (1103515245) := by decide +kernel
theorem k_7_32 : kres 7 32 = some (2147483647) := by decide +kernel
theorem k_7_33 : kres 7 33 = some (65536) := by decide +kernel
theorem k_9_230 : kres 9 230 = some (-1000000003) := by decide +kernel
theorem k_10_239 : kres 10 239 = some (-1000000002) := by decide +kernel
theorem k_10_240 : kres 10 240 = some (-1000000004) := by decide +kernel
theorem k_10_271 : kres 10 271 = some (-1000000001) := by decide +kernel
theorem k_10_292 : kres 10 292 = some (65536) := by decide +kernel
theorem k_10_300 : kres 10 300 = some (-1000000003) := by decide +kernel
theorem j_10_127 : jres 10 127 = some (48) := by decide +kernel
theorem j_10_129 : jres 10 129 = some (57) := by decide +kernel
theorem j_10_237 : jres 10 237 = some (255) := by decide +kernel
theorem j_10_269 : jres 10 269 = some (7) := by decide +kernel
theorem j_10_278 : jres 10 278 = some (996) := by decide +kernel
theorem j_10_293 : jres 10 293 = some (12) := by decide +kernel
theorem j_10_286 : jres 10 286 = some (1103515245) := by decide +kernel
theorem j_10_288 : jres 10 288 = some (12345) := by decide +kernel
theorem j_10_290 : jres 10 290 = some (2147483648) := by decide +kernel
theorem j_10_298 : jres 10 298 = some (16) := by decide +kernel
end
section
/-! Numbers: Int32 and Int64 against whole numbers -/
theorem ci_wr (z : Int) : Int32.ofInt (wr z) = Int32.ofInt z := by
  apply Int32.toInt_inj.mp
  simp only [Int32.toInt_ofInt, wr]
  show (z.bmod 4294967296).bmod 4294967296 = z.bmod 4294967296
  rw [Int.bmod_bmod]
theorem cl_wl (z : Int) : Int64.ofInt (wl z) = Int64.ofInt z := by
  apply Int64.toInt_inj.mp
  simp only [Int64.toInt_ofInt, wl]
  show (z.bmod 18446744073709551616).bmod 18446744073709551616 = z.bmod 18446744073709551616
  rw [Int.bmod_bmod]
theorem ci_to {x : Int} (h : i32 x) : (Int32.ofInt x).toInt = x := Int32.toInt_ofInt_of_le (by have := h.1; omega) (by have := h.2; omega)
theorem cl_to {x : Int} (h : i64 x) : (Int64.ofInt x).toInt = x := Int64.toInt_ofInt_of_le (by have := h.1; omega) (by have := h.2; omega)
theorem to_i32 (z : Int32) : i32 z.toInt := ⟨by have := z.le_toInt; omega, by have := z.toInt_lt; omega⟩
theorem wl_i64 (x : Int) : i64 (wl x) := by
  unfold i64 wl; rw [Int.bmod_def]; split <;> omega
theorem ci_lt {x y : Int} (hx : i32 x) (hy : i32 y) : Int32.ofInt x < Int32.ofInt y ↔ x < y := by rw [Int32.lt_iff_toInt_lt, ci_to hx, ci_to hy]
theorem ci_le {x y : Int} (hx : i32 x) (hy : i32 y) : Int32.ofInt x ≤ Int32.ofInt y ↔ x ≤ y := by rw [Int32.le_iff_toInt_le, ci_to hx, ci_to hy]
theorem ci_eq {x y : Int} (hx : i32 x) (hy : i32 y) : Int32.ofInt x = Int32.ofInt y ↔ x = y := by rw [← Int32.toInt_inj, ci_to hx, ci_to hy]
theorem cl_lt {x y : Int} (hx : i64 x) (hy : i64 y) : Int64.ofInt x < Int64.ofInt y ↔ x < y := by rw [Int64.lt_iff_toInt_lt, cl_to hx, cl_to hy]
theorem cl_eq {x y : Int} (hx : i64 x) (hy : i64 y) : Int64.ofInt x = Int64.ofInt y ↔ x = y := by rw [← Int64.toInt_inj, cl_to hx, cl_to hy]
theorem i32_0 : i32 0 := by unfold i32; omega
theorem ci_0 : Int32.ofInt 0 = 0 := by decide
theorem ci_div {x y : Int} (hx : i32 x) (hy : i32 y) : Int32.ofInt x / Int32.ofInt y = Int32.ofInt (wr (x.tdiv y)) := by
  rw [ci_wr]
  apply Int32.toInt_inj.mp
  rw [Int32.toInt_div, ci_to hx, ci_to hy, Int32.toInt_ofInt]
theorem ci_rem {x y : Int} (hx : i32 x) (hy : i32 y) : Int32.ofInt x - Int32.ofInt x / Int32.ofInt y * Int32.ofInt y = Int32.ofInt (x.tmod y) := by
  rw [ci_div hx hy, ci_wr, ← Int32.ofInt_mul, ← Int32.ofInt_sub]
  congr 1
  have := Int.mul_tdiv_add_tmod x y
  rw [Int.mul_comm] at this
  omega
theorem emod_le_self {x : Int} (h : 0 ≤ x) (m : Nat) : x % (m : Int) ≤ x := by
  obtain ⟨n, rfl⟩ := Int.eq_ofNat_of_zero_le h
  rw [← Int.natCast_emod]
  have := Nat.mod_le n m
  omega
theorem tmod_lt {x y : Int} {M : Int} (hx : -M ≤ x ∧ x < M) : -M ≤ x.tmod y ∧ x.tmod y < M := by
  rcases Int.le_total 0 x with h | h
  · have h1 := Int.tmod_nonneg y h
    have h2 : x.tmod y ≤ x := by
      rcases Int.natAbs_eq y with e | e
      · rw [e, Int.tmod_eq_emod_of_nonneg h]; exact emod_le_self h _
      · rw [e, Int.tmod_neg, Int.tmod_eq_emod_of_nonneg h]; exact emod_le_self h _
    omega
  · have h1 : 0 ≤ (-x).tmod y := Int.tmod_nonneg y (by omega)
    have h2 : (-x).tmod y ≤ -x := by
      rcases Int.natAbs_eq y with e | e
      · rw [e, Int.tmod_eq_emod_of_nonneg (by omega)]; exact emod_le_self (by omega) _
      · rw [e, Int.tmod_neg, Int.tmod_eq_emod_of_nonneg (by omega)]; exact emod_le_self (by omega) _
    rw [Int.neg_tmod] at h1 h2
    omega
theorem cl_rem {x y : Int} (hx : i64 x) (hy : i64 y) : Int64.ofInt x - Int64.ofInt x / Int64.ofInt y * Int64.ofInt y = Int64.ofInt (x.tmod y) := by
  have hd : Int64.ofInt x / Int64.ofInt y = Int64.ofInt (x.tdiv y) := by
    apply Int64.toInt_inj.mp
    rw [Int64.toInt_div, cl_to hx, cl_to hy, Int64.toInt_ofInt]
  rw [hd, ← Int64.ofInt_mul, ← Int64.ofInt_sub]
  congr 1
  have := Int.mul_tdiv_add_tmod x y
  rw [Int.mul_comm] at this
  omega
theorem ci_i2l {x : Int} (h : i32 x) : (Int32.ofInt x).toInt64 = Int64.ofInt x := by
  apply Int64.toInt_inj.mp
  have h64 : i64 x := ⟨by have := h.1; omega, by have := h.2; omega⟩
  rw [Int32.toInt_toInt64, ci_to h, cl_to h64]
theorem cl_l2i {x : Int} (h : i64 x) : (Int64.ofInt x).toInt32 = Int32.ofInt (wr x) := by
  apply Int32.toInt_inj.mp
  rw [Int64.toInt_toInt32, cl_to h, ci_wr, Int32.toInt_ofInt]
theorem ci_b {n : Int} (h : -128 ≤ n ∧ n ≤ 127) : (Int8.ofInt n).toInt32 = Int32.ofInt n := by
  apply Int32.toInt_inj.mp
  rw [Int8.toInt_toInt32, Int8.toInt_ofInt_of_le (by omega) (by omega), ci_to ⟨by omega, by omega⟩]
theorem ci_s {n : Int} (h : -32768 ≤ n ∧ n ≤ 32767) : (Int16.ofInt n).toInt32 = Int32.ofInt n := by
  apply Int32.toInt_inj.mp
  rw [Int16.toInt_toInt32, Int16.toInt_ofInt_of_le (by omega) (by omega), ci_to ⟨by omega, by omega⟩]
theorem ci_nat {x : Int} (h : 0 ≤ x ∧ x < 2147483648) : (Int32.ofInt x).toNatClampNeg = x.toNat := by
  rw [Int32.toNatClampNeg_ofInt_of_le (by omega) (by omega)]
theorem ci_in {i n : Int} (h0 : 0 ≤ i) (h1 : i < n) (hn : n ≤ 100000) : vp_in (Int32.ofInt i) n.toNat := by
  unfold vp_in
  rw [ci_nat ⟨h0, by omega⟩]
  have : ¬ Int32.ofInt i < 0 := by rw [← ci_0, ci_lt ⟨by omega, by omega⟩ i32_0]; omega
  rintro (h | h)
  · exact this h
  · omega
theorem ci_len {n : Int} (h : 0 ≤ n) : Int32.ofNat n.toNat = Int32.ofInt n := by
  rw [← Int32.ofInt_eq_ofNat]; congr 1; omega
theorem ci_neg {n : Int} (h : 0 ≤ n ∧ n < 2147483648) : ¬ Int32.ofInt n < 0 := by rw [← ci_0, ci_lt ⟨by omega, by omega⟩ i32_0]; omega
theorem cl_cmp {x y : Int} (hx : i64 x) (hy : i64 y) : lg_cmp (Int64.ofInt x) (Int64.ofInt y) = Int32.ofInt (if x < y then -1 else if x = y then 0 else 1) := by
  unfold lg_cmp
  split <;> split <;> (try split) <;> simp_all [cl_lt hx hy, cl_eq hx hy, cl_lt hy hx] <;> first | rfl | omega
theorem lc_nat (n : Fin 2) : Int64.ofNat (n : Nat) = Int64.ofInt ((n : Nat) : Int) := Int64.ofInt_eq_ofNat.symm
end
section
/-! The machine's heap as a picture of the abstract memory. E: where the cells begin, the script's cell; the class numbers of the arrays; classes and slots -/
abbrev Ev : Type := (Nat × Nat) × (ClassId × ClassId × ClassId) × (Nat → ClassId) × (Nat → Nat → Nat)
def adr (E : Ev) (a : Nat) : Nat := if a = 0 then E.1.2 else E.1.1 + (a - 1)
def vv (E : Ev) (v : V) : Value := match v with
  | .inl x => .int (Int32.ofInt x)
  | .inr (.inl x) => .long (Int64.ofInt x)
  | .inr (.inr r) => va_rf (r.map (adr E))
def fv (E : Ev) (G : Hp) (c a k : Nat) : Value := if isR c k = true then va_rf ((rv G a (k : Int)).map (adr E)) else .int (Int32.ofInt (iv G a (k : Int)))
def fls (E : Ev) (G : Hp) (c a : Nat) : List Value := (List.range (cN c)).map (fv E G c a)
def ent (E : Ev) (G : Hp) (a : Nat) : va_E :=
  if tg G a = 20 then .inl (E.2.1.1, (ln G a).toNat, .inl (fun k => Int32.ofInt (iv G a (k : Int))))
  else if tg G a = 21 then .inl (E.2.1.2.1, (ln G a).toNat, .inr (.inr (.inr (.inr (fun k => (rv G a (k : Int)).map (adr E))))))
  else if tg G a = 22 then .inl (E.2.1.2.2, (ln G a).toNat, .inr (.inr (.inr (.inr (fun k => (rv G a (k : Int)).map (adr E))))))
  else .inr (tg G a, fls E G (tg G a) a)
abbrev Dv (E : Ev) : va_G := E.2.2
def rep (E : Ev) (G : Hp) (H : Heap) : Prop := H.size = E.1.1 + sz G ∧ ∀ a, 1 ≤ a → a ≤ sz G → va_at (Dv E) vwCl (E.1.1 + (a - 1), ent E G a) H
def gwf (L : Nat) (xs : Nat → Int32) (G : Hp) : Prop := (∀ a, sz G < a → tg G a = 31) ∧ tg G 0 = 30 ∧ (∀ a, tg G a = 30 → a = 0) ∧ ln G 0 = (L : Int) ∧ (∀ j : Nat, j < L → iv G 0 (j : Int) = (xs j).toInt) ∧ (∀ a k, i32 (iv G a k)) ∧ ∀ a, 0 ≤ ln G a ∧ ln G a ≤ 100000
theorem adr_pos (E : Ev) {a : Nat} (h : 1 ≤ a) : adr E a = E.1.1 + (a - 1) := by unfold adr; rw [if_neg (by omega)]
theorem adr_new (E : Ev) (G : Hp) : adr E (sz G + 1) = E.1.1 + sz G := by rw [adr_pos E (by omega)]; omega
theorem rep_at {E : Ev} {G : Hp} {H : Heap} (h : rep E G H) {a : Nat} (h1 : 1 ≤ a) (h2 : a ≤ sz G) : va_P (Dv E) vwCl [(adr E a, ent E G a)] H := by
  intro k q hk
  cases k with
  | zero => cases hk; rw [adr_pos E h1]; exact h.2 a h1 h2
  | succ k => simp at hk
theorem rep_upd {E : Ev} {G G' : Hp} {H H' : Heap} (h : rep E G H) {a : Nat} (h1 : 1 ≤ a) (hs : sz G' = sz G) (he : ∀ b, b ≠ a → ent E G' b = ent E G b) (ha : va_at (Dv E) vwCl (adr E a, ent E G' a) H') (hz : H'.size = H.size) (oq : ∀ q : Nat, q ≠ adr E a → H'[q]? = H[q]?) : rep E G' H' := by
  rw [adr_pos E h1] at ha oq
  refine ⟨by rw [hz, hs]; exact h.1, fun b hb1 hb2 => ?_⟩
  by_cases hb : b = a
  · subst hb; exact ha
  · rw [he b hb]
    refine (h.2 b hb1 (by rw [← hs]; exact hb2)).kept (oq _ ?_)
    show E.1.1 + (b - 1) ≠ _
    omega
theorem rep_new {E : Ev} {G G' : Hp} {H H' : Heap} (h : rep E G H) (hs : sz G' = sz G + 1) (he : ∀ b, b ≤ sz G → ent E G' b = ent E G b) (ha : va_at (Dv E) vwCl (E.1.1 + sz G, ent E G' (sz G + 1)) H') (hz : H'.size = H.size + 1) (oq : ∀ q : Nat, q < H.size → H'[q]? = H[q]?) : rep E G' H' := by
  refine ⟨by rw [hz, hs, h.1]; omega, fun b hb1 hb2 => ?_⟩
  by_cases hb : b = sz G + 1
  · subst hb
    rw [show E.1.1 + (sz G + 1 - 1) = E.1.1 + sz G from by omega]
    exact ha
  · rw [he b (by omega)]
    refine (h.2 b hb1 (by omega)).kept (oq _ ?_)
    show E.1.1 + (b - 1) < _
    rw [h.1]; omega
theorem ent_obj {E : Ev} {G : Hp} {a c : Nat} (h : tg G a = c) (hc : c < 11) : ent E G a = .inr (c, fls E G c a) := by
  unfold ent
  rw [if_neg (by omega), if_neg (by omega), if_neg (by omega), h]
theorem ent_int {E : Ev} {G : Hp} {a : Nat} (h : tg G a = 20) : ent E G a = .inl (E.2.1.1, (ln G a).toNat, .inl (fun k => Int32.ofInt (iv G a (k : Int)))) := by
  unfold ent; rw [if_pos h]
theorem ent_call {E : Ev} {G : Hp} {a : Nat} (h : tg G a = 21) : ent E G a = .inl (E.2.1.2.1, (ln G a).toNat, .inr (.inr (.inr (.inr (fun k => (rv G a (k : Int)).map (adr E)))))) := by
  unfold ent; rw [if_neg (by omega), if_pos h]
theorem ent_scene {E : Ev} {G : Hp} {a : Nat} (h : tg G a = 22) : ent E G a = .inl (E.2.1.2.2, (ln G a).toNat, .inr (.inr (.inr (.inr (fun k => (rv G a (k : Int)).map (adr E)))))) := by
  unfold ent; rw [if_neg (by omega), if_neg (by omega), if_pos h]
theorem ent_same {E : Ev} {G G' : Hp} {a : Nat} (h1 : tg G' a = tg G a) (h2 : ln G' a = ln G a) (h3 : ∀ k, iv G' a k = iv G a k) (h4 : ∀ k, rv G' a k = rv G a k) : ent E G' a = ent E G a := by
  unfold ent fls fv
  simp only [h1, h2, h3, h4]
theorem fls_at {E : Ev} {G : Hp} {c a k : Nat} (hk : k < cN c) : (fls E G c a)[k]? = some (fv E G c a k) := by
  unfold fls
  rw [List.getElem?_map, List.getElem?_range hk]
  rfl
theorem fls_len (E : Ev) (G : Hp) (c a : Nat) : (fls E G c a).length = cN c := by simp [fls]
theorem fls_V {E : Ev} {G : Hp} {c a k : Nat} (hk : k < cN c) : vp_V (fls E G c a) k = fv E G c a k := by
  unfold vp_V
  rw [List.getD_eq_getElem?_getD, fls_at hk]
  rfl
theorem cl_at {c : Nat} (hc : c < 11) : vwCl[c]? = some (cn c, cT c, cN c) := by
  match c, hc with
  | 0, _ => rfl
  | 1, _ => rfl
  | 2, _ => rfl
  | 3, _ => rfl
  | 4, _ => rfl
  | 5, _ => rfl
  | 6, _ => rfl
  | 7, _ => rfl
  | 8, _ => rfl
  | 9, _ => rfl
  | 10, _ => rfl
  | (n + 11), h => exact absurd h (by omega)
theorem ws_in {c : Nat} (hc : c < 11) : ∀ w ∈ u_ws (cn c) (cT c) (cN c), w ∈ lw_tbl := by
  match c, hc with
  | 0, _ => exact iwX0
  | 1, _ => exact iwX1
  | 2, _ => exact iwX2
  | 3, _ => exact iwX3
  | 4, _ => exact iwX4
  | 5, _ => exact iwX5
  | 6, _ => exact iwX6
  | 7, _ => exact iwX7
  | 8, _ => exact iwX8
  | 9, _ => exact iwX9
  | 10, _ => exact iwX10
  | (n + 11), h => exact absurd h (by omega)
theorem nm_ok {c : Nat} (hc : c < 11) : ∀ a, a < cN c → ∀ b, b < cN c → a ≠ b → (cT c a).2.1 ≠ (cT c b).2.1 := by
  match c, hc with
  | 0, _ => exact nmX0
  | 1, _ => exact nmX1
  | 2, _ => exact nmX2
  | 3, _ => exact nmX3
  | 4, _ => exact nmX4
  | 5, _ => exact nmX5
  | 6, _ => exact nmX6
  | 7, _ => exact nmX7
  | 8, _ => exact nmX8
  | 9, _ => exact nmX9
  | 10, _ => exact nmX10
  | (n + 11), h => exact absurd h (by omega)
theorem ty_ok {c : Nat} (hc : c < 11) : ∀ k, k < cN c → parseFieldDescriptor (cT c k).2.2.1 = some (cY c k) := by
  match c, hc with
  | 0, _ => exact tyX0_ok
  | 1, _ => exact tyX1_ok
  | 2, _ => exact tyX2_ok
  | 3, _ => exact tyX3_ok
  | 4, _ => exact tyX4_ok
  | 5, _ => exact tyX5_ok
  | 6, _ => exact tyX6_ok
  | 7, _ => exact tyX7_ok
  | 8, _ => exact tyX8_ok
  | 9, _ => exact tyX9_ok
  | 10, _ => exact tyX10_ok
  | (n + 11), h => exact absurd h (by omega)
theorem own_ok : ∀ c, c < 11 → ∀ k, k < cN c → (cT c k).1 = cn c := by decide +kernel
theorem cY_kinds : ∀ c, c < 11 → ∀ k, k < cN c → cY c k = .int ∨ cY c k = .boolean ∨ (∃ C, cY c k = .object C) ∨ ∃ t, cY c k = .array t := by
  intro c hc k hk
  have h : (match cY c k with | .int => true | .boolean => true | .object _ => true | .array _ => true | _ => false) = true := by
    revert k; revert c; decide +kernel
  cases hy : cY c k <;> simp_all
theorem lay_good (C : String) (T : u_T) (k : Nat) : goodWord (u_lay C T k) = true := by
  unfold u_lay; split <;> rfl
theorem in_g {w : Cond} (h : w ∈ lw_tbl) (hg : goodWord w = true) : w ∈ gtbl := List.mem_filter.mpr ⟨h, hg⟩
theorem ws_ing {c : Nat} (hc : c < 11) : ∀ w ∈ u_ws (cn c) (cT c) (cN c), w ∈ gtbl := by
  intro w h
  refine in_g (ws_in hc w h) ?_
  obtain ⟨k, -, rfl⟩ := List.mem_map.mp h
  exact lay_good _ _ _
theorem g_inst {c : Nat} (hc : c < 11) : Cond.instantiable (cn c) (cN c) ∈ gtbl := in_g (List.mem_of_getElem? (insts c hc)) rfl
theorem g_init {c : Nat} (hc : c < 11) : Cond.initialized (cn c) ∈ gtbl := in_g (List.mem_of_getElem? (inits c hc)) rfl
/-- links out of the tables -/
theorem find_mem {α : Type} {l : List α} {p : α → Bool} {x : α} (h : l.find? p = some x) : x ∈ l ∧ p x = true := ⟨List.mem_of_find?_eq_some h, List.find?_some h⟩
theorem g_field {own idx c : Nat} {k : Int} (h : fres own idx = some (c, k)) : Cond.fieldLink (cn own) idx (cT c k.toNat).1 (cT c k.toNat).2.1 (cT c k.toNat).2.2.1 ∈ gtbl ∧ c < 11 ∧ 0 ≤ k ∧ k.toNat < cN c := by
  unfold fres at h
  cases hf : ftab.find? (fun e => e.1 == own && e.2.1 == idx) with
  | none => rw [hf] at h; cases h
  | some e =>
    rw [hf] at h
    obtain ⟨h1, h2⟩ := find_mem hf
    simp only [Bool.and_eq_true, beq_iff_eq] at h2
    have h3 := ftab_ok e h1
    obtain ⟨o, i, c', k', p⟩ := e
    simp only [Option.map_some, Option.some.injEq, Prod.mk.injEq] at h
    obtain ⟨rfl, rfl⟩ := h
    obtain ⟨rfl, rfl⟩ := h2
    exact ⟨in_g (List.mem_of_getElem? h3.1) rfl, h3.2⟩
theorem g_link {own idx mid z : Nat} (h : lres own idx = some (mid, z)) : (if z = 1 then Cond.methodLinkNest (cn own) idx (myn mid) "TakenUpCalls" else Cond.methodLink (cn own) idx (myn mid)) ∈ lw_tbl ∧ ∃ p, (own, idx, mid, z, p) ∈ ltab := by
  unfold lres at h
  cases hf : ltab.find? (fun e => e.1 == own && e.2.1 == idx) with
  | none => rw [hf] at h; cases h
  | some e =>
    rw [hf] at h
    obtain ⟨h1, h2⟩ := find_mem hf
    simp only [Bool.and_eq_true, beq_iff_eq] at h2
    have h3 := ltab_ok e h1
    obtain ⟨o, i, c', k', p⟩ := e
    simp only [Option.map_some, Option.some.injEq, Prod.mk.injEq] at h
    obtain ⟨rfl, rfl⟩ := h
    obtain ⟨rfl, rfl⟩ := h2
    exact ⟨List.mem_of_getElem? h3, p, h1⟩
theorem g_new {own idx c : Nat} (h : nres own idx = some c) : Cond.classLink (cn own) idx (cn c) ∈ gtbl ∧ c < 11 := by
  unfold nres at h
  cases hf : ntab.find? (fun e => e.1 == own && e.2.1 == idx) with
  | none => rw [hf] at h; cases h
  | some e =>
    rw [hf] at h
    obtain ⟨h1, h2⟩ := find_mem hf
    simp only [Bool.and_eq_true, beq_iff_eq] at h2
    have h3 := ntab_ok e h1
    obtain ⟨o, i, c', p⟩ := e
    simp only [Option.map_some, Option.some.injEq] at h
    subst h
    obtain ⟨rfl, rfl⟩ := h2
    exact ⟨in_g (List.mem_of_getElem? h3.1) rfl, h3.2⟩
theorem g_const {own idx : Nat} {v : Int} (h : kres own idx = some v) : Cond.constant (cn own) idx (Int32.ofInt v) ∈ gtbl ∧ i32 v := by
  unfold kres at h
  cases hf : ktab.find? (fun e => e.1 == own && e.2.1 == idx) with
  | none => rw [hf] at h; cases h
  | some e =>
    rw [hf] at h
    obtain ⟨h1, h2⟩ := find_mem hf
    simp only [Bool.and_eq_true, beq_iff_eq] at h2
    have h3 := ktab_ok e h1
    obtain ⟨o, i, c', p⟩ := e
    simp only [Option.map_some, Option.some.injEq] at h
    subst h
    obtain ⟨rfl, rfl⟩ := h2
    exact ⟨in_g (List.mem_of_getElem? h3.1) rfl, h3.2⟩
theorem g_constL {own idx : Nat} {v : Int} (h : jres own idx = some v) : Cond.constantLong (cn own) idx (Int64.ofInt v) ∈ gtbl ∧ i64 v := by
  unfold jres at h
  cases hf : jtab.find? (fun e => e.1 == own && e.2.1 == idx) with
  | none => rw [hf] at h; cases h
  | some e =>
    rw [hf] at h
    obtain ⟨h1, h2⟩ := find_mem hf
    simp only [Bool.and_eq_true, beq_iff_eq] at h2
    have h3 := jtab_ok e h1
    obtain ⟨o, i, c', p⟩ := e
    simp only [Option.map_some, Option.some.injEq] at h
    subst h
    obtain ⟨rfl, rfl⟩ := h2
    exact ⟨in_g (List.mem_of_getElem? h3.1) rfl, h3.2⟩
theorem m_ok {mid nL own kind na : Nat} {y : MethodName} {cc : ByteArray} {ret : Option FieldType} (h : mtab[mid]? = some (y, cc, nL, ret, own, kind, na)) : own = 11 ∨ (Cond.code y cc nL ret ∈ gtbl ∧ (if kind = 1 then Cond.static y else Cond.instanceMethod y) ∈ gtbl ∧ (kind = 0 → Cond.selects y.cls y y ∈ gtbl) ∧ Cond.initialized y.cls ∈ gtbl ∧ y.cls = cn own ∧ plainFor y = true ∧ y.cls ≠ "java/lang/invoke/MethodHandle" ∧ y.cls ≠ "java/lang/invoke/VarHandle" ∧ (parseMethodDescriptor y.desc).map (fun d => d.parameters.length) = some na ∧ nL ≤ 16 ∧ (kind = 2 → y.name = "<init>" ∧ ret = none)) := by
  have hl := (List.getElem?_eq_some_iff.mp h).1
  rw [mtab_len2] at hl
  obtain ⟨p, hp⟩ : ∃ p, mpl[mid]? = some p := ⟨_, List.getElem?_eq_getElem (by rw [mpl_len2]; exact hl)⟩
  have hz : (mtab.zip mpl)[mid]? = some ((y, cc, nL, ret, own, kind, na), p) := by rw [List.getElem?_zip_eq_some]; exact ⟨h, hp⟩
  have h1 := mtab_ok _ (List.mem_of_getElem? hz)
  obtain ⟨p1, p2, p3, p4⟩ := p
  rcases h1 with h1 | ⟨h1, h2, h3, h4, h5⟩
  · exact Or.inl h1
  · refine Or.inr ⟨in_g (List.mem_of_getElem? h1) rfl, in_g (List.mem_of_getElem? h2) (by split <;> rfl), fun e => in_g (List.mem_of_getElem? (h3 e)) rfl, in_g (List.mem_of_getElem? h4) rfl, h5⟩
theorem myn_of {mid nL own kind na : Nat} {y : MethodName} {cc : ByteArray} {ret : Option FieldType} (h : mtab[mid]? = some (y, cc, nL, ret, own, kind, na)) : myn mid = y := by
  have hl := (List.getElem?_eq_some_iff.mp h).1
  rw [mtab_len2] at hl
  unfold myn
  rw [if_neg (by omega), if_neg (by omega), List.getD_eq_getElem?_getD, h]
  rfl
end
section
/-! SOUNDNESS, first part: what a step of the abstract machine says; memories stay well formed; locals -/
def vok (v : V) : Prop := match v with
  | .inl x => i32 x
  | .inr (.inl x) => i64 x
  | _ => True
theorem ldv_spec {ls : Ls} {k t q : Nat} {st : List V} {G : Hp} {o : Ot} (h : ldv ls k t q st G = some o) : ∃ v, ls[k]? = some (some v) ∧ o = .inl (q, ls, v :: st, G) ∧ ((t = 0 ∧ ∃ x, v = .inl x) ∨ (t = 1 ∧ ∃ x, v = .inr (.inl x)) ∨ (t = 2 ∧ ∃ r, v = .inr (.inr r))) := by
  unfold ldv at h
  split at h
  · rename_i v hv
    split at h
    · cases h; exact ⟨_, hv, rfl, Or.inl ⟨rfl, _, rfl⟩⟩
    · cases h; exact ⟨_, hv, rfl, Or.inr (Or.inl ⟨rfl, _, rfl⟩)⟩
    · cases h; exact ⟨_, hv, rfl, Or.inr (Or.inr ⟨rfl, _, rfl⟩)⟩
    · cases h
  · cases h
theorem stv_spec {ls : Ls} {k t q : Nat} {st : List V} {G : Hp} {o : Ot} (h : stv ls k t q st G = some o) : ∃ v st', st = v :: st' ∧ k < ls.length ∧ noL ls = true ∧ o = .inl (q, ls.set k (some v), st', G) ∧ ((t = 0 ∧ ∃ x, v = .inl x) ∨ (t = 2 ∧ ∃ r, v = .inr (.inr r))) := by
  unfold stv at h
  split at h
  · split at h
    · split at h
      · rename_i hc; cases h; exact ⟨_, _, rfl, hc.1, hc.2, rfl, Or.inl ⟨rfl, _, rfl⟩⟩
      · cases h
    · split at h
      · rename_i hc; cases h; exact ⟨_, _, rfl, hc.1, hc.2, rfl, Or.inr ⟨rfl, _, rfl⟩⟩
      · cases h
    · cases h
  · cases h
theorem bi2_spec {q : Nat} {ls : Ls} {st : List V} {G : Hp} {f : Int → Int → Option Int} {o : Ot} (h : bi2 q ls st G f = some o) : ∃ x y v st', st = .inl y :: .inl x :: st' ∧ f x y = some v ∧ o = .inl (q, ls, .inl v :: st', G) := by
  unfold bi2 at h
  split at h
  · split at h
    · rename_i hf; cases h; exact ⟨_, _, _, _, rfl, hf, rfl⟩
    · cases h
  · cases h
theorem bl2_spec {q : Nat} {ls : Ls} {st : List V} {G : Hp} {f : Int → Int → Option V} {o : Ot} (h : bl2 q ls st G f = some o) : ∃ x y v st', st = .inr (.inl y) :: .inr (.inl x) :: st' ∧ f x y = some v ∧ o = .inl (q, ls, v :: st', G) := by
  unfold bl2 at h
  split at h
  · split at h
    · rename_i hf; cases h; exact ⟨_, _, _, _, rfl, hf, rfl⟩
    · cases h
  · cases h
theorem gto_spec {pc : Nat} {off : Int} {ls : Ls} {st : List V} {G : Hp} {o : Ot} (h : gto pc off ls st G = some o) : ∃ t : Nat, (pc : Int) + off = (t : Int) ∧ o = .inl (t, ls, st, G) := by
  unfold gto at h
  split at h
  · rename_i hc; cases h; exact ⟨_, by omega, rfl⟩
  · cases h
/-- memories stay well formed -/
theorem gwf_si {L : Nat} {xs : Nat → Int32} {G : Hp} (h : gwf L xs G) {a : Nat} {k v : Int} (ha : a ≠ 0) (hv : i32 v) : gwf L xs (si G a k v) := by
  obtain ⟨h1, h2, h3, h4, h5, h6, h7⟩ := h
  refine ⟨h1, h2, h3, h4, fun j hj => ?_, fun b j => ?_, h7⟩
  · rw [iv_si, if_neg (fun h => ha h.1.symm)]; exact h5 j hj
  · rw [iv_si]; split
    · exact hv
    · exact h6 b j
theorem gwf_sr {L : Nat} {xs : Nat → Int32} {G : Hp} (h : gwf L xs G) {a : Nat} {k : Int} {r : Option Nat} : gwf L xs (sr G a k r) := h
theorem gwf_nw {L : Nat} {xs : Nat → Int32} {G : Hp} (h : gwf L xs G) {t w : Nat} {n : Int} (ht : t ≠ 30) (hn : 0 ≤ n ∧ n ≤ 100000) : gwf L xs (nw G t n w) := by
  obtain ⟨h1, h2, h3, h4, h5, h6, h7⟩ := h
  refine ⟨fun a ha => ?_, ?_, fun a ha => ?_, ?_, fun j hj => ?_, fun b j => ?_, fun a => ?_⟩
  · rw [sz_nw] at ha; rw [tg_nw, if_neg (by omega)]; exact h1 a (by omega)
  · rw [tg_nw, if_neg (by omega)]; exact h2
  · rw [tg_nw] at ha; split at ha
    · exact absurd ha ht
    · exact h3 a ha
  · rw [ln_nw, if_neg (by omega)]; exact h4
  · rw [iv_nw, if_neg (by omega)]; exact h5 j hj
  · rw [iv_nw]; split
    · exact i32_0
    · exact h6 b j
  · rw [ln_nw]; split
    · exact hn
    · exact h7 a
theorem gwf_cp {L : Nat} {xs : Nat → Int32} {G : Hp} (h : gwf L xs G) {a b : Nat} {sp dp n : Int} (hb : b ≠ 0) : gwf L xs (cp G a sp b dp n) := by
  obtain ⟨h1, h2, h3, h4, h5, h6, h7⟩ := h
  refine ⟨h1, h2, h3, h4, fun j hj => ?_, fun c j => ?_, h7⟩
  · rw [iv_cp, if_neg (fun h => hb h.1.symm)]; exact h5 j hj
  · rw [iv_cp]; split
    · exact h6 _ _
    · exact h6 c j
theorem gwf_lt {L : Nat} {xs : Nat → Int32} {G : Hp} (h : gwf L xs G) {a c : Nat} (ht : tg G a = c) (hc : c < 30) : 1 ≤ a ∧ a ≤ sz G := by
  obtain ⟨h1, h2, -⟩ := h
  refine ⟨?_, ?_⟩
  · rcases Nat.eq_zero_or_pos a with e | e
    · subst e; omega
    · exact e
  · rcases Nat.lt_or_ge (sz G) a with e | e
    · have := h1 a e; omega
    · exact e
/-- locals -/
def encl (E : Ev) (ls : Ls) : List (Nat × Value) := (List.range ls.length).filterMap (fun k => match ls[k]? with
  | some (some v) => some (k, vv E v)
  | _ => none)
theorem encl_mem {E : Ev} {ls : Ls} {q : Nat × Value} : q ∈ encl E ls ↔ ∃ v, ls[q.1]? = some (some v) ∧ q.2 = vv E v := by
  unfold encl
  rw [List.mem_filterMap]
  constructor
  · rintro ⟨k, hk, h⟩
    split at h
    · rename_i v hv; cases h; exact ⟨v, hv, rfl⟩
    · cases h
  · rintro ⟨v, hv, e⟩
    refine ⟨q.1, List.mem_range.mpr (List.getElem?_eq_some_iff.mp hv).1, ?_⟩
    rw [hv]
    obtain ⟨a, b⟩ := q
    simp only at e
    subst e
    rfl
def lsOk (E : Ev) (arr : Array Slot) (nL : Nat) (ls : Ls) : Prop := lv_has arr nL (encl E ls) ∧ ls.length = nL
theorem lsOk_at {E : Ev} {arr : Array Slot} {nL : Nat} {ls : Ls} (h : lsOk E arr nL ls) {k : Nat} {v : V} (hv : ls[k]? = some (some v)) : arr[k]? = some (.val (vv E v)) := h.1.2.2 (k, vv E v) (encl_mem.mpr ⟨v, hv, rfl⟩)
theorem vv_cat (E : Ev) (v : V) : (vv E v).category = vcat v := by
  rcases v with x | x | r
  · rfl
  · rfl
  · cases r <;> rfl
theorem noL_at {ls : Ls} (h : noL ls = true) {k : Nat} {v : V} (hv : ls[k]? = some (some v)) : vcat v = 1 := by
  have h1 := List.all_eq_true.mp h (some v) (List.mem_of_getElem? hv)
  rcases v with x | x | r
  · rfl
  · simp [isL] at h1
  · rfl
theorem lsOk_set {E : Ev} {arr' : Array Slot} {nL : Nat} {ls : Ls} {k : Nat} {v : V} (hn : noL ls = true) (hl : ls.length = nL) (h : lv_has arr' nL ((k, vv E v) :: (encl E ls).filter (fun q => !(q.1 == k) && !(q.1 + 1 == k && q.2.category == 2)))) : lsOk E arr' nL (ls.set k (some v)) := by
  refine ⟨⟨h.1, h.2.1, fun q hq => ?_⟩, by rw [List.length_set]; exact hl⟩
  obtain ⟨w, hw, e⟩ := encl_mem.mp hq
  by_cases hk : q.1 = k
  · have hlt : k < ls.length := by
      have := (List.getElem?_eq_some_iff.mp hw).1
      rw [List.length_set] at this; omega
    rw [hk, List.getElem?_set_self hlt] at hw
    cases hw
    obtain ⟨a, b⟩ := q
    simp only at hk e
    subst hk; subst e
    exact h.2.2 _ List.mem_cons_self
  · rw [List.getElem?_set_ne (Ne.symm hk)] at hw
    refine h.2.2 q (List.mem_cons_of_mem _ (List.mem_filter.mpr ⟨encl_mem.mpr ⟨w, hw, e⟩, ?_⟩))
    have hc : (q.2.category == 2) = false := by rw [e, vv_cat, noL_at hn hw]; rfl
    simp [hk, hc]
theorem vok_set {ls : Ls} {k : Nat} {v : V} (hl : ∀ (j : Nat) (w : V), ls[j]? = some (some w) → vok w) (hv : vok v) : ∀ (j : Nat) (w : V), (ls.set k (some v))[j]? = some (some w) → vok w := by
  intro j w h
  by_cases hk : j = k
  · have hlt : k < ls.length := by
      have := (List.getElem?_eq_some_iff.mp h).1
      rw [List.length_set] at this; omega
    rw [hk, List.getElem?_set_self hlt] at h
    cases h; exact hv
  · rw [List.getElem?_set_ne (Ne.symm hk)] at h
    exact hl j w h
theorem lsOk_entr {E : Ev} {nL : Nat} {as : List V} (h : (lg_sl (as.map (vv E))).length ≤ nL) : lsOk E ((lg_sl (as.map (vv E)) ++ List.replicate (nL - (lg_sl (as.map (vv E))).length) Slot.unset).toArray) nL (entr as nL) := by
  have e := lv_entry (as.map (vv E)) h
  have hlen : ∀ as : List V, (as.flatMap sl1).length = (lg_sl (as.map (vv E))).length := by
    intro as
    induction as with
    | nil => rfl
    | cons v t ih =>
      rcases v with x | x | r
      · simp only [List.flatMap_cons, List.length_append, List.map_cons, lg_sl, ih, sl1]; rfl
      · simp only [List.flatMap_cons, List.length_append, List.map_cons, lg_sl, ih, sl1]; rfl
      · cases r <;> (simp only [List.flatMap_cons, List.length_append, List.map_cons, lg_sl, ih, sl1]; rfl)
  have key : ∀ (as : List V) (i : Nat) (k : Nat) (v : V), (as.flatMap sl1)[k]? = some (some v) → (i + k, vv E v) ∈ lv_args i (as.map (vv E)) := by
    intro as
    induction as with
    | nil => intro i k v hk; simp at hk
    | cons a t ih =>
      intro i k v hk
      rw [List.map_cons, lv_args]
      rcases a with x | x | r
      · cases k with
        | zero => simp [sl1] at hk; subst hk; exact List.mem_cons_self
        | succ k =>
          have := ih (i + 1) k v (by simpa [sl1] using hk)
          rw [show i + 1 + k = i + (k + 1) by omega] at this
          exact List.mem_cons_of_mem _ this
      · cases k with
        | zero => simp [sl1] at hk; subst hk; exact List.mem_cons_self
        | succ k =>
          cases k with
          | zero => simp [sl1] at hk
          | succ k =>
            have := ih (i + 2) k v (by simpa [sl1] using hk)
            rw [show i + 2 + k = i + (k + 1 + 1) by omega] at this
            exact List.mem_cons_of_mem _ this
      · have h1 : (vv E (.inr (.inr r))).category = 1 := vv_cat E _
        cases k with
        | zero => simp [sl1] at hk; subst hk; exact List.mem_cons_self
        | succ k =>
          have := ih (i + 1) k v (by simpa [sl1] using hk)
          rw [show i + 1 + k = i + (k + 1) by omega] at this
          rw [if_neg (by rw [h1]; decide)]
          exact List.mem_cons_of_mem _ this
  refine ⟨⟨e.1, e.2.1, fun q hq => ?_⟩, ?_⟩
  · obtain ⟨v, hv, e2⟩ := encl_mem.mp hq
    refine e.2.2 q ?_
    unfold entr at hv
    rcases Nat.lt_or_ge q.1 (as.flatMap sl1).length with hlt | hge
    · rw [List.getElem?_append_left hlt] at hv
      have := key as 0 q.1 v hv
      obtain ⟨a, b⟩ := q
      simp only at e2
      subst e2
      simpa using this
    · rw [List.getElem?_append_right hge, List.getElem?_replicate] at hv
      split at hv <;> simp at hv
  · unfold entr
    rw [List.length_append, List.length_replicate, hlen]
    omega
theorem vok_entr {nL : Nat} {as : List V} (h : ∀ v ∈ as, vok v) : ∀ (k : Nat) (v : V), (entr as nL)[k]? = some (some v) → vok v := by
  intro k v hk
  have hm := List.mem_of_getElem? hk
  unfold entr at hm
  rcases List.mem_append.mp hm with h1 | h1
  · obtain ⟨a, ha, hb⟩ := List.mem_flatMap.mp h1
    rcases a with x | x | r
    · simp [sl1] at hb; subst hb; exact h _ ha
    · simp [sl1] at hb; subst hb; exact h _ ha
    · simp [sl1] at hb; subst hb; exact h _ ha
  · have := (List.mem_replicate.mp h1).2
    cases this
end
section
/-! SOUNDNESS, second part: memory instructions of the machine against the abstract memory -/
abbrev tysv (E : Ev) : List (ClassId × FieldType) := [(E.2.1.1, .int), (E.2.1.2.1, .object RX1), (E.2.1.2.2, .object RX7)]
abbrev Av (E : Ev) : Nat → Prop := fun q => E.1.1 ≤ q
/-- what is known while a method runs (s: the state at its entry) -/
def Ctx (E : Ev) (L : Nat) (xs : Nat → Int32) (p : Program) (s : State) (m : MethodId) (args : Array Value) (meth : Method) (c : Code) (cc : ByteArray) (own nL : Nat) (ini : Bool) : Prop :=
  p.tables.exec = Jvm.exec ∧ c.code = cc ∧ c.maxLocals = nL ∧ s.vm.findClass (cn own) = some m.cls ∧ (∀ w ∈ gtbl, w.before args s = true) ∧ va_K (Dv E) vwCl (tysv E) s ∧ (va_X E.1.2 L xs s s.heap ∧ E.1.2 < E.1.1 ∧ E.1.1 ≤ s.heap.size) ∧
  ((∀ e ∈ ltab, e.2.2.2.1 = 1 → va_Nw (.methodLinkNest (cn e.1) e.2.1 (myn e.2.2.1) "TakenUpCalls") s) ∧ va_AO RX1 s ∧ va_AO RX7 s) ∧ (ini = true → meth.name = "<init>")
section SD
variable {p : Program} {l : Launch} {e : Env} {R : Room} {s : State} {m : MethodId} {args : Array Value} {below : List Frame} {meth : Method} {c : Code} {H : Heap} {locs : List Loc} {cells slots : Nat} {Q : State → Prop}
variable {E : Ev} {L : Nat} {xs : Nat → Int32} {cc : ByteArray} {own nL : Nat} {ini : Bool} {pc : Nat} {arr : Array Slot} {rest : List Value} {G : Hp}
theorem va_Sput (hS : va_S (Av E) s.heap H locs) {a k : Nat} {H' : Heap} (h1 : 1 ≤ a) (z : H'.size = H.size) (oq : ∀ q : Nat, q ≠ adr E a → H'[q]? = H[q]?) : va_S (Av E) s.heap H' (locs ++ [⟨adr E a, k⟩]) :=
  hS.put z oq (by rw [adr_pos E h1]; exact Nat.le_add_right _ _)
theorem sd_get (hx : Ctx E L xs p s m args meth c cc own nL ini) (hg : gwf L xs G) (hr : rep E G H) {a c0 idx : Nat} {k : Int} (hf : fres own idx = some (c0, k)) (ht : tg G a = c0) (hdg : decode cc pc = .ok (.getfield idx, 3))
    (kk : W p l e R s m args below meth c H locs cells slots Q (F0 m (pc + 3) arr (fv E G c0 a k.toNat :: rest))) : W p l e R s m args below meth c H locs cells slots Q (F0 m pc arr (.ref (adr E a) :: rest)) := by
  obtain ⟨hexec, hb, -, hown, hts, hK, -⟩ := hx
  obtain ⟨hl, hc, -, hk⟩ := g_field hf
  obtain ⟨h1, h2⟩ := gwf_lt hg ht (by omega)
  have hP := rep_at hr h1 h2
  rw [ent_obj ht hc] at hP
  exact va_get hexec hb hts (ws_ing hc) hown hK hP 0 rfl (cl_at hc) k.toNat hk (hts _ hl) (fun _ h => h) (fls_at hk) hdg kk
theorem sd_put (hx : Ctx E L xs p s m args meth c cc own nL ini) (hg : gwf L xs G) (hr : rep E G H) (hS : va_S (Av E) s.heap H locs) {a c0 idx : Nat} {k : Int} (hf : fres own idx = some (c0, k)) (ht : tg G a = c0) (hfi : (cT c0 k.toNat).2.2.2 = true → ini = true ∧ c0 = own) {v : Value} (hn : narrow (cY c0 k.toNat) v = v) (hfit : fits (cY c0 k.toNat) v = true)
    {G' : Hp} (hsz : sz G' = sz G) (he : ∀ b, b ≠ a → ent E G' b = ent E G b) (hea : ent E G' a = .inr (c0, (fls E G c0 a).set k.toNat v)) (hdg : decode cc pc = .ok (.putfield idx, 3))
    (kk : ∀ H' locs', rep E G' H' → va_S (Av E) s.heap H' locs' → W p l e R s m args below meth c H' locs' cells slots Q (F0 m (pc + 3) arr rest)) : W p l e R s m args below meth c H locs cells slots Q (F0 m pc arr (v :: .ref (adr E a) :: rest)) := by
  obtain ⟨hexec, hb, -, hown, hts, hK, -, -, hini⟩ := hx
  obtain ⟨hl, hc, -, hk⟩ := g_field hf
  obtain ⟨h1, h2⟩ := gwf_lt hg ht (by omega)
  have hP := rep_at hr h1 h2
  rw [ent_obj ht hc] at hP
  have hap := va_apart (own := cn own) hts (ws_ing hc) (cY c0) (ty_ok hc) (nm_ok hc) hK (cl_at hc)
  obtain ⟨r, hr1, cell, q1, q2, q3, q4⟩ := hP 0 _ rfl
  have hre : r = (cn c0, cT c0, cN c0) := Option.some.inj (hr1.symm.trans (cl_at hc))
  subst hre
  obtain ⟨hSl, hfc, kC, hkC, hkind⟩ := hK.1 c0 _ (cl_at hc)
  obtain ⟨cf, kf, fi, f, hi, hsl⟩ := hSl k.toNat hk
  have hst := (u_facts hfc hkC (u_lays hts (ws_ing hc) hk) hi).1
  have hdesc := ty_ok hc k.toNat hk
  have fin : ∀ H' : Heap, H'[adr E a]? = some (cell.setSlot f.slot v) → H'.size = H.size → (∀ q, q ≠ adr E a → H'[q]? = H[q]?) → W p l e R s m args below meth c H' (locs ++ [⟨adr E a, f.slot⟩]) cells slots Q (F0 m (pc + 3) arr rest) := by
    intro H' e1 e2 e3
    rw [hsl] at e1
    refine kk H' _ (rep_upd hr h1 hsz he ?_ e2 e3) (va_Sput hS h1 e2 e3)
    rw [hea]
    exact ⟨_, cl_at hc, t_OB.to (V := updV (vp_V (fls E G c0 a)) k.toNat v) ⟨_, e1, q2, q3, t_set q4 hap hk v⟩ (fun j _ => vp_updV_set (by rw [fls_len]; exact hk) v j)⟩
  have hlay := hts _ (ws_ing hc _ (u_in_lay hk))
  unfold u_lay at hlay
  by_cases hfin : (cT c0 k.toNat).2.2.2 = true
  · rw [if_pos hfin] at hlay
    obtain ⟨hi1, hi2⟩ := hfi hfin
    have hcf : m.cls = cf := by
      obtain ⟨_, _, c', _, _, _, -, -, hf', -, -, -, hown2, -⟩ := Cond.laysFinal_spec hlay
      have e1 : c' = cf := by have := hi.symm.trans hf'; simp at this; exact this.1.symm
      rw [own_ok c0 hc _ hk, hi2] at hown2
      rw [← e1]; exact Option.some.inj (hown.symm.trans hown2)
    exact W.putFinK hexec hb hown (hts _ hl) hi hst hcf (hini hi1) (by rw [q2]; exact u_fits hfc hkC hkind (Or.inr hlay) hi hdesc hn hfit) q1 q3 (by rw [hsl]; exact k2_hasslot (q4 k.toNat hk)) rfl rfl hdg fin
  · rw [if_neg hfin] at hlay
    exact W.putK hexec hb (f := f) ⟨hown, hts _ hl, ⟨_, _, _, hi⟩, hst⟩ (by rw [q2]; exact u_store hfc hkC hkind hlay hi hdesc hn hfit) q1 q3 (by rw [hsl]; exact k2_hasslot (q4 k.toNat hk)) rfl rfl hdg fin
theorem sd_iald (hx : Ctx E L xs p s m args meth c cc own nL ini) (hg : gwf L xs G) (hr : rep E G H) (hS : va_S (Av E) s.heap H locs) {a : Nat} {i : Int} (ht : tg G a = 20 ∨ tg G a = 30) (h0 : 0 ≤ i) (h1 : i < ln G a) (hdg : decode cc pc = .ok (.iaload, 1))
    (kk : W p l e R s m args below meth c H locs cells slots Q (F0 m (pc + 1) arr (.int (Int32.ofInt (iv G a i)) :: rest))) : W p l e R s m args below meth c H locs cells slots Q (F0 m pc arr (.int (Int32.ofInt i) :: .ref (adr E a) :: rest)) := by
  obtain ⟨hexec, hb, -, hown, hts, hK, ⟨hX, hbB, hBs⟩, -⟩ := hx
  have hln := (hg.2.2.2.2.2.2 a).2
  have hin : vp_in (Int32.ofInt i) (ln G a).toNat := ci_in h0 h1 hln
  have hnat : (Int32.ofInt i).toNatClampNeg = i.toNat := ci_nat ⟨h0, by omega⟩
  rcases ht with ht | ht
  · obtain ⟨g1, g2⟩ := gwf_lt hg ht (by omega)
    have hP := rep_at hr g1 g2
    rw [ent_int ht] at hP
    refine va_iald hexec hb hK hP 0 0 rfl rfl hin hdg ?_
    rw [hnat, show ((i.toNat : Nat) : Int) = i from by omega]
    exact kk
  · have ha := hg.2.2.1 a ht
    subst ha
    have hL : ln G 0 = (L : Int) := hg.2.2.2.1
    rw [hL] at hin
    refine va_sld (A := Av E) (b := E.1.2) hexec hb hX (by omega) (by unfold Av; omega) hS hin hdg ?_
    have hv := hg.2.2.2.2.1 i.toNat (by omega)
    rw [show ((i.toNat : Nat) : Int) = i from by omega] at hv
    rw [hnat, ← Int32.ofInt_toInt (xs i.toNat), ← hv]
    exact kk
theorem sd_alen (hx : Ctx E L xs p s m args meth c cc own nL ini) (hg : gwf L xs G) (hr : rep E G H) (hS : va_S (Av E) s.heap H locs) {a : Nat} (ht : tg G a = 20 ∨ tg G a = 30) (hdg : decode cc pc = .ok (.arraylength, 1))
    (kk : W p l e R s m args below meth c H locs cells slots Q (F0 m (pc + 1) arr (.int (Int32.ofInt (ln G a)) :: rest))) : W p l e R s m args below meth c H locs cells slots Q (F0 m pc arr (.ref (adr E a) :: rest)) := by
  obtain ⟨hexec, hb, -, hown, hts, hK, ⟨hX, hbB, hBs⟩, -⟩ := hx
  rcases ht with ht | ht
  · obtain ⟨g1, g2⟩ := gwf_lt hg ht (by omega)
    have hP := rep_at hr g1 g2
    rw [ent_int ht] at hP
    exact va_alen hexec hb hK hP 0 0 rfl rfl (ci_len (hg.2.2.2.2.2.2 a).1) hdg kk
  · have ha := hg.2.2.1 a ht
    subst ha
    refine va_slen (A := Av E) (b := E.1.2) hexec hb hX (by omega) (by unfold Av; omega) hS hdg ?_
    rw [← Int32.ofInt_eq_ofNat, ← hg.2.2.2.1]
    exact kk
theorem sd_aald (hx : Ctx E L xs p s m args meth c cc own nL ini) (hg : gwf L xs G) (hr : rep E G H) {a : Nat} {i : Int} (ht : tg G a = 21 ∨ tg G a = 22) (h0 : 0 ≤ i) (h1 : i < ln G a) (hdg : decode cc pc = .ok (.aaload, 1))
    (kk : W p l e R s m args below meth c H locs cells slots Q (F0 m (pc + 1) arr (va_rf ((rv G a i).map (adr E)) :: rest))) : W p l e R s m args below meth c H locs cells slots Q (F0 m pc arr (.int (Int32.ofInt i) :: .ref (adr E a) :: rest)) := by
  obtain ⟨hexec, hb, -, hown, hts, hK, -⟩ := hx
  have hln := (hg.2.2.2.2.2.2 a).2
  have hin : vp_in (Int32.ofInt i) (ln G a).toNat := ci_in h0 h1 hln
  have hnat : (Int32.ofInt i).toNatClampNeg = i.toNat := ci_nat ⟨h0, by omega⟩
  rcases ht with ht | ht
  · obtain ⟨g1, g2⟩ := gwf_lt hg ht (by omega)
    have hP := rep_at hr g1 g2
    rw [ent_call ht] at hP
    refine va_aldq hexec hb hK hP 0 1 rfl rfl hin hdg ?_
    rw [hnat, show ((i.toNat : Nat) : Int) = i from by omega]
    exact kk
  · obtain ⟨g1, g2⟩ := gwf_lt hg ht (by omega)
    have hP := rep_at hr g1 g2
    rw [ent_scene ht] at hP
    refine va_aldq hexec hb hK hP 0 2 rfl rfl hin hdg ?_
    rw [hnat, show ((i.toNat : Nat) : Int) = i from by omega]
    exact kk
theorem ent_si_ne (E : Ev) (G : Hp) {a b : Nat} (h : b ≠ a) (k v : Int) : ent E (si G a k v) b = ent E G b := ent_same rfl rfl (fun j => by rw [iv_si, if_neg (fun q => h q.1)]) (fun _ => rfl)
theorem ent_sr_ne (E : Ev) (G : Hp) {a b : Nat} (h : b ≠ a) (k : Int) (r : Option Nat) : ent E (sr G a k r) b = ent E G b := ent_same rfl rfl (fun _ => rfl) (fun j => by rw [rv_sr, if_neg (fun q => h q.1)])
theorem ent_cp_ne (E : Ev) (G : Hp) {a b d : Nat} (h : d ≠ b) (sp dp n : Int) : ent E (cp G a sp b dp n) d = ent E G d := ent_same rfl rfl (fun j => by rw [iv_cp, if_neg (fun q => h q.1)]) (fun _ => rfl)
theorem fls_si (E : Ev) (G : Hp) {c0 a : Nat} {k x : Int} (h0 : 0 ≤ k) (hk : k.toNat < cN c0) (hr : isR c0 k.toNat = false) : fls E (si G a k x) c0 a = (fls E G c0 a).set k.toNat (.int (Int32.ofInt x)) := by
  apply List.ext_getElem?
  intro j
  by_cases hj : j < cN c0
  · rw [fls_at hj]
    by_cases hjk : j = k.toNat
    · subst hjk
      rw [List.getElem?_set_self (by rw [fls_len]; exact hj)]
      unfold fv
      rw [if_neg (by rw [hr]; decide), iv_si, if_pos ⟨rfl, by omega⟩]
    · rw [List.getElem?_set_ne (Ne.symm hjk), fls_at hj]
      have hne : ¬ (j : Int) = k := fun q => hjk (by omega)
      unfold fv
      simp [iv_si, rv_si, hne]
  · rw [List.getElem?_eq_none (by rw [fls_len]; omega), List.getElem?_eq_none (by rw [List.length_set, fls_len]; omega)]
theorem fls_sr (E : Ev) (G : Hp) {c0 a : Nat} {k : Int} {r : Option Nat} (h0 : 0 ≤ k) (hk : k.toNat < cN c0) (hr : isR c0 k.toNat = true) : fls E (sr G a k r) c0 a = (fls E G c0 a).set k.toNat (va_rf (r.map (adr E))) := by
  apply List.ext_getElem?
  intro j
  by_cases hj : j < cN c0
  · rw [fls_at hj]
    by_cases hjk : j = k.toNat
    · subst hjk
      rw [List.getElem?_set_self (by rw [fls_len]; exact hj)]
      unfold fv
      rw [if_pos hr, rv_sr, if_pos ⟨rfl, by omega⟩]
    · rw [List.getElem?_set_ne (Ne.symm hjk), fls_at hj]
      have hne : ¬ (j : Int) = k := fun q => hjk (by omega)
      unfold fv
      simp [iv_sr, rv_sr, hne]
  · rw [List.getElem?_eq_none (by rw [fls_len]; omega), List.getElem?_eq_none (by rw [List.length_set, fls_len]; omega)]
theorem sd_iast (hx : Ctx E L xs p s m args meth c cc own nL ini) (hg : gwf L xs G) (hr : rep E G H) (hS : va_S (Av E) s.heap H locs) {a : Nat} {i x : Int} (ht : tg G a = 20) (h0 : 0 ≤ i) (h1 : i < ln G a) (hdg : decode cc pc = .ok (.iastore, 1))
    (kk : ∀ H' locs', rep E (si G a i x) H' → va_S (Av E) s.heap H' locs' → W p l e R s m args below meth c H' locs' cells slots Q (F0 m (pc + 1) arr rest)) : W p l e R s m args below meth c H locs cells slots Q (F0 m pc arr (.int (Int32.ofInt x) :: .int (Int32.ofInt i) :: .ref (adr E a) :: rest)) := by
  obtain ⟨hexec, hb, -, hown, hts, hK, -⟩ := hx
  have hln := (hg.2.2.2.2.2.2 a).2
  have hin : vp_in (Int32.ofInt i) (ln G a).toNat := ci_in h0 h1 hln
  have hnat : (Int32.ofInt i).toNatClampNeg = i.toNat := ci_nat ⟨h0, by omega⟩
  obtain ⟨g1, g2⟩ := gwf_lt hg ht (by omega)
  have hP := rep_at hr g1 g2
  rw [ent_int ht] at hP
  refine W.iast hexec hb (hP 0 _ rfl) ((hK.2 0 _ rfl).1 (ln G a).toNat (fun j => .int (Int32.ofInt (iv G a (j : Int))))) (fun q => by cases q) (by show ¬ (_ ∨ (arrV _ _ _).slots.size ≤ _); rw [arrV_size]; exact hin) rfl rfl hdg fun H' e1 e2 e3 => ?_
  refine kk H' _ (rep_upd hr g1 rfl (fun b hb => ent_si_ne E G hb _ _) ?_ e2 e3) (va_Sput hS g1 e2 e3)
  rw [ent_int (show tg (si G a i x) a = 20 from ht)]
  show H'[adr E a]? = some (vp_cell _ _)
  rw [e1, vp_cell_i, vp_cell_i, arrV_store]
  congr 2
  funext j
  unfold updV
  rw [hnat, iv_si]
  by_cases hj : j = i.toNat
  · rw [if_pos hj, if_pos ⟨rfl, by omega⟩]
  · rw [if_neg hj, if_neg (fun q => hj (by omega))]
theorem sd_aast (hx : Ctx E L xs p s m args meth c cc own nL ini) (hg : gwf L xs G) (hr : rep E G H) (hS : va_S (Av E) s.heap H locs) {a x : Nat} {i : Int} (ht : (tg G a = 21 ∧ tg G x = 1) ∨ (tg G a = 22 ∧ tg G x = 7)) (h0 : 0 ≤ i) (h1 : i < ln G a) (hdg : decode cc pc = .ok (.aastore, 1))
    (kk : ∀ H' locs', rep E (sr G a i (some x)) H' → va_S (Av E) s.heap H' locs' → W p l e R s m args below meth c H' locs' cells slots Q (F0 m (pc + 1) arr rest)) : W p l e R s m args below meth c H locs cells slots Q (F0 m pc arr (.ref (adr E x) :: .int (Int32.ofInt i) :: .ref (adr E a) :: rest)) := by
  obtain ⟨hexec, hb, -, hown, hts, hK, -⟩ := hx
  have hln := (hg.2.2.2.2.2.2 a).2
  have hnat : (Int32.ofInt i).toNatClampNeg = i.toNat := ci_nat ⟨h0, by omega⟩
  have hneg : ¬ Int32.ofInt i < 0 := ci_neg ⟨h0, by omega⟩
  have go : ∀ (cA c1 : Nat) (t0 : Nat) (C : ClassId), tg G a < 30 → tg G x = c1 → c1 < 11 → (tysv E)[t0]? = some (C, .object (cn c1)) → ent E G a = .inl (C, (ln G a).toNat, .inr (.inr (.inr (.inr (fun k => (rv G a (k : Int)).map (adr E)))))) → ent E (sr G a i (some x)) a = .inl (C, (ln G a).toNat, .inr (.inr (.inr (.inr (fun k => (rv (sr G a i (some x)) a (k : Int)).map (adr E)))))) → W p l e R s m args below meth c H locs cells slots Q (F0 m pc arr (.ref (adr E x) :: .int (Int32.ofInt i) :: .ref (adr E a) :: rest)) := by
    intro _ c1 t0 C hta htx hc1 hty hea hea'
    obtain ⟨g1, g2⟩ := gwf_lt hg rfl hta
    have hP := rep_at hr g1 g2
    rw [hea] at hP
    obtain ⟨x1, x2⟩ := gwf_lt hg htx (by omega)
    have hPx := rep_at hr x1 x2
    rw [ent_obj htx hc1] at hPx
    obtain ⟨r', hr', cellV, v1, v2, v3, -⟩ := hPx 0 _ rfl
    have hcls := (hK.1 c1 _ (cl_at hc1)).2
    obtain ⟨kA, comp, k1, k2, k3, -⟩ := (hK.2 t0 _ hty).2
    have hcomp : comp = (Dv E).1 c1 := Option.some.inj (k3.symm.trans hcls.1)
    subst hcomp
    obtain ⟨kC, hkC, -⟩ := hcls.2
    have hlt : i.toNat < (ln G a).toNat := by omega
    refine W.aast hexec hb (hP 0 _ rfl) (fun q h => by cases h) (fun h => by cases h) k1 k2 rfl hkC ⟨hneg, by show _ < (arrV _ _ _).slots.size; rw [arrV_size, hnat]; exact hlt⟩ v1 (fun q h => by rw [v3] at h; cases h) (by rw [v2]; exact hkC) (by rw [v2]; exact va_assign hcls) rfl rfl hdg fun H' e1 e2 e3 => ?_
    refine kk H' _ (rep_upd hr g1 rfl (fun b hb => ent_sr_ne E G hb _ _) ?_ e2 e3) (va_Sput hS g1 e2 e3)
    rw [hea']
    show H'[adr E a]? = some (vp_cell _ _)
    rw [e1, vp_cell_q, vp_cell_q, arrV_store]
    congr 2
    funext j
    unfold updV
    rw [hnat, rv_sr]
    by_cases hj : j = i.toNat
    · rw [if_pos hj, if_pos ⟨rfl, by omega⟩]; rfl
    · rw [if_neg hj, if_neg (fun q => hj (by omega))]
  rcases ht with ⟨h2, h3⟩ | ⟨h2, h3⟩
  · exact go 0 1 1 E.2.1.2.1 (by omega) h3 (by omega) rfl (ent_call h2) (ent_call (G := sr G a i (some x)) h2)
  · exact go 0 7 2 E.2.1.2.2 (by omega) h3 (by omega) rfl (ent_scene h2) (ent_scene (G := sr G a i (some x)) h2)
theorem ent_nw_old (E : Ev) (G : Hp) {b : Nat} (h : b ≤ sz G) (t w : Nat) (n : Int) : ent E (nw G t n w) b = ent E G b := ent_same (by rw [tg_nw, if_neg (by omega)]) (by rw [ln_nw, if_neg (by omega)]) (fun j => by rw [iv_nw, if_neg (by omega)]) (fun j => by rw [rv_nw, if_neg (by omega)])
theorem va_Snew (hS : va_S (Av E) s.heap H locs) {H' : Heap} (z : H'.size = H.size + 1) (oq : ∀ q : Nat, q < H.size → H'[q]? = H[q]?) : va_S (Av E) s.heap H' locs :=
  ⟨Nat.le_trans hS.1 (by omega), fun q h1 h2 => (oq q (Nat.lt_of_lt_of_le h1 hS.1)).trans (hS.2.1 q h1 h2), hS.2.2⟩
theorem sd_newarr (hx : Ctx E L xs p s m args meth c cc own nL ini) (hr : rep E G H) (hS : va_S (Av E) s.heap H locs) {n : Int} (h0 : 0 ≤ n ∧ n ≤ 100000) (hcells : cells + 1 ≤ R.cells) (hslots : slots + n.toNat ≤ R.slots) (hdg : decode cc pc = .ok (.newarray .int, 2))
    (kk : ∀ H', rep E (nw G 20 n n.toNat) H' → va_S (Av E) s.heap H' locs → W p l e R s m args below meth c H' locs (cells + 1) (slots + n.toNat) Q (F0 m (pc + 2) arr (.ref (adr E (sz G + 1)) :: rest))) : W p l e R s m args below meth c H locs cells slots Q (F0 m pc arr (.int (Int32.ofInt n) :: rest)) := by
  obtain ⟨hexec, hb, -, hown, hts, hK, -⟩ := hx
  have hnat : (Int32.ofInt n).toNatClampNeg = n.toNat := ci_nat ⟨h0.1, by omega⟩
  refine va_newaK (atype := .int) hexec hb (hts _ (in_g w_ac rfl)) rfl hdg rfl (ci_neg ⟨h0.1, by omega⟩) hnat (by show n.toNat * 4 ≤ _; omega) hcells hslots hr.1 fun H' cA e1 z o1 hAr hNm => ?_
  have hcA : cA = E.2.1.1 := by
    have h2 : s.vm.findClass ("[" ++ FieldType.int.toString) = some E.2.1.1 := (hK.2 0 _ rfl).2
    exact Option.some.inj (hNm.symm.trans h2)
  subst hcA
  rw [← hr.1] at z o1
  rw [← adr_new E G]
  refine kk H' (rep_new hr rfl (fun b hb => ent_nw_old E G hb _ _ _) ?_ z o1) (va_Snew hS z o1)
  rw [ent_int (by rw [tg_nw, if_pos rfl])]
  show H'[E.1.1 + sz G]? = some (vp_cell _ _)
  rw [e1, vp_cell_i]
  have hl : ln (nw G 20 n n.toNat) (sz G + 1) = n := by rw [ln_nw, if_pos rfl]
  rw [hl]
  congr 2
  funext j
  rw [iv_nw, if_pos rfl]
  rfl
theorem sd_anew (hx : Ctx E L xs p s m args meth c cc own nL ini) (hr : rep E G H) (hS : va_S (Av E) s.heap H locs) {n : Int} {k c1 t : Nat} (hk : nres own k = some c1) (hct : (c1 = 1 ∧ t = 21) ∨ (c1 = 7 ∧ t = 22)) (h0 : 0 ≤ n ∧ n ≤ 100000) (hcells : cells + 1 ≤ R.cells) (hslots : slots + n.toNat ≤ R.slots) (hdg : decode cc pc = .ok (.anewarray k, 3))
    (kk : ∀ H', rep E (nw G t n n.toNat) H' → va_S (Av E) s.heap H' locs → W p l e R s m args below meth c H' locs (cells + 1) (slots + n.toNat) Q (F0 m (pc + 3) arr (.ref (adr E (sz G + 1)) :: rest))) : W p l e R s m args below meth c H locs cells slots Q (F0 m pc arr (.int (Int32.ofInt n) :: rest)) := by
  obtain ⟨hexec, hb, -, hown, hts, hK, -, ⟨-, hAO1, hAO7⟩, -⟩ := hx
  have hnat : (Int32.ofInt n).toNatClampNeg = n.toNat := ci_nat ⟨h0.1, by omega⟩
  obtain ⟨hl, hc⟩ := g_new hk
  have hao : va_AO (cn c1) s := by rcases hct with ⟨rfl, -⟩ | ⟨rfl, -⟩ <;> assumption
  refine W.anew hexec hb hown (hts _ hl) (va_AO.use hao) rfl hdg rfl (ci_neg ⟨h0.1, by omega⟩) (by rw [hnat]; omega) hcells (by rw [hnat]; exact hslots) fun cA kA comp f1 f2 f3 f4 => ?_
  rw [hnat, hr.1]
  generalize hH' : H.push ({ cls := cA, slots := Array.replicate n.toNat .null, vm := .none } : Cell) = H'
  have z : H'.size = H.size + 1 := by rw [← hH', Array.size_push]
  have e1 : H'[H.size]? = some (arrV cA n.toNat (fun _ => .null)) := by rw [← hH', Array.getElem?_push_size, ← arrV_new]
  have o1 : ∀ q : Nat, q < H.size → H'[q]? = H[q]? := fun q hq => by rw [← hH', Array.getElem?_push, if_neg (Nat.ne_of_lt hq)]
  rw [← adr_new E G]
  refine kk H' (rep_new hr rfl (fun b hb => ent_nw_old E G hb _ _ _) ?_ z o1) (va_Snew hS z o1)
  have hl2 : ln (nw G t n n.toNat) (sz G + 1) = n := by rw [ln_nw, if_pos rfl]
  have hrv : (fun k : Nat => (rv (nw G t n n.toNat) (sz G + 1) (k : Int)).map (adr E)) = fun _ => none := by
    funext j; rw [rv_nw, if_pos rfl]; rfl
  rcases hct with ⟨rfl, rfl⟩ | ⟨rfl, rfl⟩
  · have hcA : cA = E.2.1.2.1 := by
      obtain ⟨_, _, -, -, -, h2⟩ := (hK.2 1 _ rfl).2
      exact Option.some.inj (f1.symm.trans h2)
    subst hcA
    rw [ent_call (by rw [tg_nw, if_pos rfl]), hl2, hrv]
    show H'[E.1.1 + sz G]? = some (vp_cell _ _)
    rw [← hr.1, e1, vp_cell_q]
    rfl
  · have hcA : cA = E.2.1.2.2 := by
      obtain ⟨_, _, -, -, -, h2⟩ := (hK.2 2 _ rfl).2
      exact Option.some.inj (f1.symm.trans h2)
    subst hcA
    rw [ent_scene (by rw [tg_nw, if_pos rfl]), hl2, hrv]
    show H'[E.1.1 + sz G]? = some (vp_cell _ _)
    rw [← hr.1, e1, vp_cell_q]
    rfl
theorem dflt_fv (E : Ev) (G : Hp) {c0 : Nat} (hc : c0 < 11) {w : Nat} {k : Nat} (hk : k < cN c0) : defaultValue (cY c0 k) = fv E (nw G c0 0 w) c0 (sz G + 1) k := by
  unfold fv
  rw [rv_nw, if_pos rfl, iv_nw, if_pos rfl]
  unfold isR
  rcases cY_kinds c0 hc k hk with h | h | ⟨C, h⟩ | ⟨t, h⟩ <;> rw [h] <;> rfl
theorem sd_new (hx : Ctx E L xs p s m args meth c cc own nL ini) (hr : rep E G H) (hS : va_S (Av E) s.heap H locs) {k c1 : Nat} (hk : nres own k = some c1) (hcells : cells + 1 ≤ R.cells) (hslots : slots + cN c1 ≤ R.slots) (hdg : decode cc pc = .ok (.new k, 3))
    (kk : ∀ H', rep E (nw G c1 0 (cN c1)) H' → va_S (Av E) s.heap H' locs → W p l e R s m args below meth c H' locs (cells + 1) (slots + cN c1) Q (F0 m (pc + 3) arr (.ref (adr E (sz G + 1)) :: rest))) : W p l e R s m args below meth c H locs cells slots Q (F0 m pc arr rest) := by
  obtain ⟨hexec, hb, -, hown, hts, hK, -⟩ := hx
  obtain ⟨hl, hc⟩ := g_new hk
  have hKn := hK.1 c1 _ (cl_at hc)
  refine W.newcK hexec hb hown (hts _ hl) (hts _ (g_inst hc)) (hts _ (g_init hc)) rfl hdg hcells hslots hKn.2.1 hr.1 fun H' kC hkC e1 z o1 => ?_
  rw [← hr.1] at z o1
  rw [← adr_new E G]
  refine kk H' (rep_new hr rfl (fun b hb => ent_nw_old E G hb _ _ _) ?_ z o1) (va_Snew hS z o1)
  rw [ent_obj (c := c1) (by rw [tg_nw, if_pos rfl]) hc]
  refine ⟨_, cl_at hc, t_OB.to (u_born (cY c1) hts (ws_ing hc) hKn hkC e1 (ty_ok hc)) (fun j hj => ?_)⟩
  rw [fls_V hj]
  exact dflt_fv E G hc hj
theorem sd_copy (hx : Ctx E L xs p s m args meth c cc own nL ini) (hg : gwf L xs G) (hr : rep E G H) (hS : va_S (Av E) s.heap H locs) (hsz : arr.size = nL) {idx z a b : Nat} {sp dp n : Int} (hl : lres own idx = some (901, z)) (hz : z = 0) (t1 : tg G a = 20) (t2 : tg G b = 20) (h1 : 0 ≤ sp) (h2 : 0 ≤ dp) (h3 : 0 ≤ n) (h4 : sp + n ≤ ln G a) (h5 : dp + n ≤ ln G b) (hframes : 1 ≤ R.frames) (hlocals : (rest.map fun v => v.category).sum + (nativeFrameWords "java/lang/System" "arraycopy" 5 + 11) ≤ R.locals) (hdg : decode cc pc = .ok (.invokestatic idx, 3))
    (kk : ∀ H' locs', rep E (cp G a sp b dp n) H' → va_S (Av E) s.heap H' locs' → W p l e R s m args below meth c H' locs' cells slots Q (F0 m (pc + 3) arr rest)) : W p l e R s m args below meth c H locs cells slots Q (F0 m pc arr (.int (Int32.ofInt n) :: .int (Int32.ofInt dp) :: .ref (adr E b) :: .int (Int32.ofInt sp) :: .ref (adr E a) :: rest)) := by
  obtain ⟨hexec, hb, hml, hown, hts, hK, -⟩ := hx
  have la := (hg.2.2.2.2.2.2 a).2
  have lb := (hg.2.2.2.2.2.2 b).2
  have hlink : (Cond.methodLink (cn own) idx arraycopyName).before args s = true := by
    have h := (g_link hl).1
    rw [hz] at h
    exact hts _ (in_g h rfl)
  obtain ⟨a1, a2⟩ := gwf_lt hg t1 (by omega)
  obtain ⟨b1, b2⟩ := gwf_lt hg t2 (by omega)
  have hPa := rep_at hr a1 a2
  rw [ent_int t1] at hPa
  have hPb := rep_at hr b1 b2
  rw [ent_int t2] at hPb
  have nsp : (Int32.ofInt sp).toNatClampNeg = sp.toNat := ci_nat ⟨h1, by omega⟩
  have ndp : (Int32.ofInt dp).toNatClampNeg = dp.toNat := ci_nat ⟨h2, by omega⟩
  have nn : (Int32.ofInt n).toNatClampNeg = n.toNat := ci_nat ⟨h3, by omega⟩
  have esp : (Int32.ofInt sp).toInt = sp := ci_to ⟨by omega, by omega⟩
  have edp : (Int32.ofInt dp).toInt = dp := ci_to ⟨by omega, by omega⟩
  have en : (Int32.ofInt n).toInt = n := ci_to ⟨by omega, by omega⟩
  intro T hT X
  have hc0 : H[adr E a]? = some (vp_cell E.2.1.1 ((ln G a).toNat, .inl (fun k => Int32.ofInt (iv G a (k : Int))))) := hPa 0 _ rfl
  have hc1 : H[adr E b]? = some (vp_cell E.2.1.1 ((ln G b).toNat, .inl (fun k => Int32.ofInt (iv G b (k : Int))))) := hPb 0 _ rfl
  obtain ⟨-, k0, hk0, cm0, hkk0⟩ := (hK.2 0 _ rfl).1 (ln G a).toNat (fun j => .int (Int32.ofInt (iv G a (j : Int))))
  obtain ⟨-, k1, hk1, cm1, hkk1⟩ := (hK.2 0 _ rfl).1 (ln G b).toNat (fun j => .int (Int32.ofInt (iv G b (j : Int))))
  obtain ⟨vm', X', step⟩ := X.arraycopy hexec hown hlink (hts _ (in_g w_nat rfl)) (hts _ (in_g w_sta rfl)) (hts _ (in_g w_isy rfl)) (src := adr E a) (dst := adr E b) (cs := vp_cell E.2.1.1 ((ln G a).toNat, .inl (fun k => Int32.ofInt (iv G a (k : Int))))) (cd := vp_cell E.2.1.1 ((ln G b).toNat, .inl (fun k => Int32.ofInt (iv G b (k : Int))))) (srcPos := Int32.ofInt sp) (destPos := Int32.ofInt dp) (n := Int32.ofInt n) (by rw [hT]; exact hc0) (by rw [hT]; exact hc1)
    (fun _ h => by cases h) (fun _ h => by cases h) (fun h => by cases h) (fun h => by cases h) hk0 hk1 hkk0 hkk1 (by simp [refKind]) (ci_neg ⟨h1, by omega⟩) (ci_neg ⟨h2, by omega⟩) (ci_neg ⟨h3, by omega⟩)
    (by rw [esp, en]; show ¬ _ > ((arrV _ _ _).slots.size : Int); rw [arrV_size]; omega)
    (by rw [edp, en]; show ¬ _ > ((arrV _ _ _).slots.size : Int); rw [arrV_size]; omega)
    (fun vm₁ _ i hi => by
      rw [nn] at hi
      have ee : (vp_cell E.2.1.1 ((ln G a).toNat, .inl (fun k => Int32.ofInt (iv G a (k : Int))))).slots.getD ((Int32.ofInt sp).toNatClampNeg + i) .null = .int (Int32.ofInt (iv G a ((sp.toNat + i : Nat) : Int))) := by
        show (arrV _ _ _).slots.getD _ _ = _
        rw [nsp, Array.getD_eq_getD_getElem?, arrV_read _ _ (by omega)]
        rfl
      refine ⟨?_, ?_⟩
      · rw [ee]; rfl
      · rw [ee]; exact trivial)
    (g := F0 m pc arr (.int (Int32.ofInt n) :: .int (Int32.ofInt dp) :: .ref (adr E b) :: .int (Int32.ofInt sp) :: .ref (adr E a) :: rest)) rfl (by show arr.size = _; rw [hml]; exact hsz) (rest := rest) rfl (by rw [hb]; exact hdg) hframes (by show 2 * 0 + _ + _ ≤ _; omega)
  have e1 : copied (vp_cell E.2.1.1 ((ln G a).toNat, .inl (fun k => Int32.ofInt (iv G a (k : Int))))) (vp_cell E.2.1.1 ((ln G b).toNat, .inl (fun k => Int32.ofInt (iv G b (k : Int))))) (Int32.ofInt sp) (Int32.ofInt dp) (Int32.ofInt n) = vp_cell E.2.1.1 ((ln G b).toNat, .inl (va_cpy (fun k => Int32.ofInt (iv G a (k : Int))) (fun k => Int32.ofInt (iv G b (k : Int))) sp.toNat dp.toNat n.toNat)) := by
    have h := va_copied (fun z => Value.int z) E.2.1.1 E.2.1.1 (n0 := (ln G a).toNat) (n1 := (ln G b).toNat) (sp := sp.toNat) (dp := dp.toNat) (n := n.toNat) (fun k => Int32.ofInt (iv G a (k : Int))) (fun k => Int32.ofInt (iv G b (k : Int))) (by omega)
    rw [← nsp, ← ndp, ← nn] at h ⊢
    exact h
  rw [e1] at X' step
  have hlt : adr E b < H.size := (Array.getElem?_eq_some_iff.mp hc1).1
  generalize hH' : H.setIfInBounds (adr E b) (vp_cell E.2.1.1 ((ln G b).toNat, .inl (va_cpy (fun k => Int32.ofInt (iv G a (k : Int))) (fun k => Int32.ofInt (iv G b (k : Int))) sp.toNat dp.toNat n.toNat))) = H'
  have hheap : ((T.setVm vm').setCell (adr E b) (vp_cell E.2.1.1 ((ln G b).toNat, .inl (va_cpy (fun k => Int32.ofInt (iv G a (k : Int))) (fun k => Int32.ofInt (iv G b (k : Int))) sp.toNat dp.toNat n.toNat)))).heap = H' := by rw [← hH', ← hT]; rfl
  have oq : ∀ q : Nat, q ≠ adr E b → H'[q]? = H[q]? := fun q hq => by rw [← hH']; simp [Array.getElem?_setIfInBounds, Ne.symm hq]
  have hat : H'[adr E b]? = some (vp_cell E.2.1.1 ((ln G b).toNat, .inl (va_cpy (fun k => Int32.ofInt (iv G a (k : Int))) (fun k => Int32.ofInt (iv G b (k : Int))) sp.toNat dp.toNat n.toNat))) := by rw [← hH']; simp [Array.getElem?_setIfInBounds, hlt]
  have zz : H'.size = H.size := by rw [← hH']; simp
  have hAb : Av E (adr E b) := by rw [adr_pos E b1]; exact Nat.le_add_right _ _
  obtain ⟨t, s1, s2⟩ := kk H' _ (rep_upd hr b1 rfl (fun d hd => ent_cp_ne E G hd _ _ _) (by
      rw [ent_int (show tg (cp G a sp b dp n) b = 20 from t2)]
      show H'[adr E b]? = some (vp_cell _ _)
      rw [hat]
      congr 3
      congr 1
      funext j
      unfold va_cpy
      rw [iv_cp]
      by_cases hj : dp.toNat ≤ j ∧ j < dp.toNat + n.toNat
      · rw [if_pos hj, if_pos ⟨rfl, by omega, by omega⟩]
        show Int32.ofInt (iv G a ((sp.toNat + (j - dp.toNat) : Nat) : Int)) = _
        rw [show ((sp.toNat + (j - dp.toNat) : Nat) : Int) = sp + ((j : Int) - dp) from by omega]
      · rw [if_neg hj, if_neg (fun q => hj ⟨by omega, by omega⟩)]) zz oq) ⟨by rw [zz]; exact hS.1, fun q g1 g2 => by
      rw [oq q (fun e => g2 (by rw [e]; exact hAb))]
      exact hS.2.1 q g1 g2, fun q hq => by
      rcases List.mem_append.mp hq with h | h
      · exact hS.2.2 q h
      · obtain ⟨y, -, hy⟩ := List.mem_map.mp h
        rw [← hy]
        exact hAb⟩ _ hheap X'
  exact ⟨t, step t s1, s2⟩
end SD
end
section
/-! SOUNDNESS, third part: one step of the abstract machine is a step of the machine -/
theorem copy_z : ∀ e ∈ ltab, e.2.2.1 = 901 → e.2.2.2.1 = 0 := by decide +kernel
theorem obj_z : ∀ e ∈ ltab, e.2.2.1 = 900 → e.2.2.2.1 = 0 := by decide +kernel
theorem cats_map (E : Ev) (st : List V) : ((st.map (vv E)).map fun v => v.category).sum = cats st := by
  unfold cats
  rw [List.map_map]
  congr 1
  exact List.map_congr_left (fun v _ => vv_cat E v)
theorem newA_spec {t q : Nat} {ls : Ls} {st : List V} {G : Hp} {o : Ot} (h : newA t q ls st G = some o) : ∃ n st2, st = .inl n :: st2 ∧ (0 ≤ n ∧ n ≤ 100000) ∧ o = .inl (q, ls, .inr (.inr (some (sz G + 1))) :: st2, nw G t n n.toNat) := by
  unfold newA at h
  split at h
  · split at h
    · rename_i hc; cases h; exact ⟨_, _, rfl, hc, rfl⟩
    · cases h
  · cases h
theorem adr_inj {E : Ev} (hb : E.1.2 < E.1.1) {x y : Nat} (h : adr E x = adr E y) : x = y := by
  unfold adr at h
  split at h <;> split at h <;> omega
theorem rf_inj {E : Ev} {L : Nat} {xs : Nat → Int32} {p : Program} {s : State} {m : MethodId} {args : Array Value} {meth : Method} {c : Code} {cc : ByteArray} {own nL : Nat} {ini : Bool} {G : Hp} (hx : Ctx E L xs p s m args meth c cc own nL ini) (_ : gwf L xs G) {x y : Option Nat} (h : x.map (adr E) = y.map (adr E)) : x = y := by
  have hb := hx.2.2.2.2.2.2.1.2.1
  cases x with
  | none => cases y with
    | none => rfl
    | some b => cases h
  | some a => cases y with
    | none => cases h
    | some b => rw [adr_inj hb (Option.some.inj h)]
section ST
variable {p : Program} {l : Launch} {e : Env} {R : Room} {s : State} {m : MethodId} {args : Array Value} {below : List Frame} {meth : Method} {c : Code} {H : Heap} {locs : List Loc} {cells slots : Nat} {Q : State → Prop}
variable {E : Ev} {L : Nat} {xs : Nat → Int32} {cc : ByteArray} {own nL : Nat} {ini : Bool} {pc : Nat} {arr : Array Slot} {rest : List Value} {G : Hp}
set_option maxHeartbeats 4000000 in
theorem snd_step (hx : Ctx E L xs p s m args meth c cc own nL ini) {i : Instr} {len : Nat} {ret : Option FieldType} (hd : decode cc pc = .ok (i, len)) (hlen : lenOk i len = true) {ls ls' : Ls} {st st' : List V} {G1 : Hp} {q : Nat} (hs : stp ret own ini i pc (pc + len) ls st G = some (.inl (q, ls', st', G1)))
    (hg : gwf L xs G) (hv : ∀ v ∈ st, vok v) (hl : ∀ (k : Nat) (v : V), ls[k]? = some (some v) → vok v) (ha : lsOk E arr nL ls) (hr : rep E G H) (hS : va_S (Av E) s.heap H locs) (hc1 : cells + (sz G1 - sz G) ≤ R.cells) (hc2 : slots + (sl G1 - sl G) ≤ R.slots) (hfr : 1 ≤ R.frames) (hlo : 64 ≤ R.locals)
    (kk : gwf L xs G1 → (∀ v ∈ st', vok v) → (∀ (k : Nat) (v : V), ls'[k]? = some (some v) → vok v) → sz G ≤ sz G1 → sl G ≤ sl G1 → ∀ (arr' : Array Slot) (H' : Heap) (locs' : List Loc), lsOk E arr' nL ls' → rep E G1 H' → va_S (Av E) s.heap H' locs' → W p l e R s m args below meth c H' locs' (cells + (sz G1 - sz G)) (slots + (sl G1 - sl G)) Q (F0 m q arr' (st'.map (vv E)))) : W p l e R s m args below meth c H locs cells slots Q (F0 m pc arr (st.map (vv E))) := by
  have hx' := hx
  obtain ⟨hexec, hb, hml, hown, hts, hK, -, -, -⟩ := hx'
  -- the heap stays
  have stay : ∀ (q' : Nat) (ls2 : Ls) (st2 : List V), (q, ls', st', G1) = (q', ls2, st2, G) → (∀ v ∈ st2, vok v) → (∀ (k : Nat) (v : V), ls2[k]? = some (some v) → vok v) → ∀ arr', lsOk E arr' nL ls2 → W p l e R s m args below meth c H locs cells slots Q (F0 m q' arr' (st2.map (vv E))) := by
    intro q' ls2 st2 he h1 h2 arr' h3
    cases he
    have := kk hg h1 h2 (Nat.le_refl _) (Nat.le_refl _) arr' H locs h3 hr hS
    simpa only [Nat.sub_self, Nat.add_zero] using this
  -- a memory of the same size
  have keep : ∀ (G2 : Hp) (q' : Nat) (st2 : List V), (q, ls', st', G1) = (q', ls, st2, G2) → sz G2 = sz G → sl G2 = sl G → gwf L xs G2 → (∀ v ∈ st2, vok v) → ∀ H' locs', rep E G2 H' → va_S (Av E) s.heap H' locs' → W p l e R s m args below meth c H' locs' cells slots Q (F0 m q' arr (st2.map (vv E))) := by
    intro G2 q' st2 he z1 z2 h1 h2 H' locs' h3 h4
    cases he
    have := kk h1 h2 hl (by omega) (by omega) arr H' locs' ha h3 h4
    rw [z1, z2] at this
    simpa only [Nat.sub_self, Nat.add_zero] using this
  -- one cell more
  have grow : ∀ (G2 : Hp) (q' : Nat) (st2 : List V) (w : Nat), (q, ls', st', G1) = (q', ls, st2, G2) → sz G2 = sz G + 1 → sl G2 = sl G + w → gwf L xs G2 → (∀ v ∈ st2, vok v) → ∀ H', rep E G2 H' → va_S (Av E) s.heap H' locs → W p l e R s m args below meth c H' locs (cells + 1) (slots + w) Q (F0 m q' arr (st2.map (vv E))) := by
    intro G2 q' st2 w he z1 z2 h1 h2 H' h3 h4
    cases he
    have := kk h1 h2 hl (by omega) (by omega) arr H' locs ha h3 h4
    rw [z1, z2, show sz G + 1 - sz G = 1 from by omega, show sl G + w - sl G = w from by omega] at this
    exact this
  have inj : ∀ {o : Ot}, some o = some (.inl (q, ls', st', G1)) → o = .inl (q, ls', st', G1) := fun h => Option.some.inj h
  have cons : ∀ {v : V} {t : List V}, vok v → (∀ w ∈ t, vok w) → ∀ w ∈ v :: t, vok w := by
    intro v t h1 h2 w hw
    rcases List.mem_cons.mp hw with rfl | hw
    · exact h1
    · exact h2 w hw
  cases i with
  | aload_n k =>
    obtain rfl : len = 1 := by simpa [lenOk] using hlen
    obtain ⟨v, hv1, ho, ht⟩ := ldv_spec (show ldv ls k.val 2 (pc + 1) st G = some (.inl (q, ls', st', G1)) from hs)
    have ho := Sum.inl.inj ho
    rcases ht with ⟨h, x, rfl⟩ | ⟨h, x, rfl⟩ | ⟨h, x, rfl⟩ <;> first | exact absurd h (by decide) | skip
    have hat := lsOk_at ha hv1
    have kw := stay _ _ _ ho (cons (hl _ _ hv1) hv) hl arr ha
    cases x with
    | none => exact lv_aload_nN hexec hb hd rfl hat kw
    | some a => exact lv_aload_n hexec hb hd rfl hat kw
  | aload k =>
    obtain rfl : len = 2 := by simpa [lenOk] using hlen
    obtain ⟨v, hv1, ho, ht⟩ := ldv_spec (show ldv ls k 2 (pc + 2) st G = some (.inl (q, ls', st', G1)) from hs)
    have ho := Sum.inl.inj ho
    rcases ht with ⟨h, x, rfl⟩ | ⟨h, x, rfl⟩ | ⟨h, x, rfl⟩ <;> first | exact absurd h (by decide) | skip
    have hat := lsOk_at ha hv1
    have kw := stay _ _ _ ho (cons (hl _ _ hv1) hv) hl arr ha
    cases x with
    | none => exact lv_aloadN hexec hb hd hat kw
    | some a => exact lv_aload hexec hb hd hat kw
  | iload_n k =>
    obtain rfl : len = 1 := by simpa [lenOk] using hlen
    obtain ⟨v, hv1, ho, ht⟩ := ldv_spec (show ldv ls k.val 0 (pc + 1) st G = some (.inl (q, ls', st', G1)) from hs)
    have ho := Sum.inl.inj ho
    rcases ht with ⟨h, x, rfl⟩ | ⟨h, x, rfl⟩ | ⟨h, x, rfl⟩ <;> first | exact absurd h (by decide) | skip
    have hat := lsOk_at ha hv1
    have kw := stay _ _ _ ho (cons (hl _ _ hv1) hv) hl arr ha
    exact lv_iload_n hexec hb hd rfl hat kw
  | iload k =>
    obtain rfl : len = 2 := by simpa [lenOk] using hlen
    obtain ⟨v, hv1, ho, ht⟩ := ldv_spec (show ldv ls k 0 (pc + 2) st G = some (.inl (q, ls', st', G1)) from hs)
    have ho := Sum.inl.inj ho
    rcases ht with ⟨h, x, rfl⟩ | ⟨h, x, rfl⟩ | ⟨h, x, rfl⟩ <;> first | exact absurd h (by decide) | skip
    have hat := lsOk_at ha hv1
    have kw := stay _ _ _ ho (cons (hl _ _ hv1) hv) hl arr ha
    exact lv_iload hexec hb hd hat kw
  | lload_n k =>
    obtain rfl : len = 1 := by simpa [lenOk] using hlen
    obtain ⟨v, hv1, ho, ht⟩ := ldv_spec (show ldv ls k.val 1 (pc + 1) st G = some (.inl (q, ls', st', G1)) from hs)
    have ho := Sum.inl.inj ho
    rcases ht with ⟨h, x, rfl⟩ | ⟨h, x, rfl⟩ | ⟨h, x, rfl⟩ <;> first | exact absurd h (by decide) | skip
    have hat := lsOk_at ha hv1
    have kw := stay _ _ _ ho (cons (hl _ _ hv1) hv) hl arr ha
    exact lv_lload_n hexec hb hd rfl hat kw
  | lload k =>
    obtain rfl : len = 2 := by simpa [lenOk] using hlen
    obtain ⟨v, hv1, ho, ht⟩ := ldv_spec (show ldv ls k 1 (pc + 2) st G = some (.inl (q, ls', st', G1)) from hs)
    have ho := Sum.inl.inj ho
    rcases ht with ⟨h, x, rfl⟩ | ⟨h, x, rfl⟩ | ⟨h, x, rfl⟩ <;> first | exact absurd h (by decide) | skip
    have hat := lsOk_at ha hv1
    have kw := stay _ _ _ ho (cons (hl _ _ hv1) hv) hl arr ha
    exact lv_lload hexec hb hd hat kw
  | istore_n k =>
    obtain rfl : len = 1 := by simpa [lenOk] using hlen
    obtain ⟨v, st2, rfl, hk, hn, ho, ht⟩ := stv_spec (show stv ls k.val 0 (pc + 1) st G = some (.inl (q, ls', st', G1)) from hs)
    have ho := Sum.inl.inj ho
    have hk2 : k.val < nL := by rw [← ha.2]; exact hk
    have hvv : vok v := hv v List.mem_cons_self
    have kw : ∀ arr', lv_has arr' nL ((k.val, vv E v) :: (encl E ls).filter (fun q => !(q.1 == k.val) && !(q.1 + 1 == k.val && q.2.category == 2))) → W p l e R s m args below meth c H locs cells slots Q (F0 m (pc + 1) arr' (st2.map (vv E))) := fun arr' h => stay _ _ _ ho (fun w hw => hv w (List.mem_cons_of_mem _ hw)) (vok_set hl hvv) arr' (lsOk_set hn ha.2 h)
    rcases ht with ⟨h, x, rfl⟩ | ⟨h, x, rfl⟩ <;> first | exact absurd h (by decide) | skip
    exact lv_istore_n hexec hb hd rfl ha.1 hk2 rfl kw
  | istore k =>
    obtain rfl : len = 2 := by simpa [lenOk] using hlen
    obtain ⟨v, st2, rfl, hk, hn, ho, ht⟩ := stv_spec (show stv ls k 0 (pc + 2) st G = some (.inl (q, ls', st', G1)) from hs)
    have ho := Sum.inl.inj ho
    have hk2 : k < nL := by rw [← ha.2]; exact hk
    have hvv : vok v := hv v List.mem_cons_self
    have kw : ∀ arr', lv_has arr' nL ((k, vv E v) :: (encl E ls).filter (fun q => !(q.1 == k) && !(q.1 + 1 == k && q.2.category == 2))) → W p l e R s m args below meth c H locs cells slots Q (F0 m (pc + 2) arr' (st2.map (vv E))) := fun arr' h => stay _ _ _ ho (fun w hw => hv w (List.mem_cons_of_mem _ hw)) (vok_set hl hvv) arr' (lsOk_set hn ha.2 h)
    rcases ht with ⟨h, x, rfl⟩ | ⟨h, x, rfl⟩ <;> first | exact absurd h (by decide) | skip
    exact lv_istore hexec hb hd ha.1 hk2 rfl kw
  | astore_n k =>
    obtain rfl : len = 1 := by simpa [lenOk] using hlen
    obtain ⟨v, st2, rfl, hk, hn, ho, ht⟩ := stv_spec (show stv ls k.val 2 (pc + 1) st G = some (.inl (q, ls', st', G1)) from hs)
    have ho := Sum.inl.inj ho
    have hk2 : k.val < nL := by rw [← ha.2]; exact hk
    have hvv : vok v := hv v List.mem_cons_self
    have kw : ∀ arr', lv_has arr' nL ((k.val, vv E v) :: (encl E ls).filter (fun q => !(q.1 == k.val) && !(q.1 + 1 == k.val && q.2.category == 2))) → W p l e R s m args below meth c H locs cells slots Q (F0 m (pc + 1) arr' (st2.map (vv E))) := fun arr' h => stay _ _ _ ho (fun w hw => hv w (List.mem_cons_of_mem _ hw)) (vok_set hl hvv) arr' (lsOk_set hn ha.2 h)
    rcases ht with ⟨h, x, rfl⟩ | ⟨h, x, rfl⟩ <;> first | exact absurd h (by decide) | skip
    cases x with
    | none => exact lv_astore_nN hexec hb hd rfl ha.1 hk2 rfl kw
    | some a => exact lv_astore_n hexec hb hd rfl ha.1 hk2 rfl kw
  | astore k =>
    obtain rfl : len = 2 := by simpa [lenOk] using hlen
    obtain ⟨v, st2, rfl, hk, hn, ho, ht⟩ := stv_spec (show stv ls k 2 (pc + 2) st G = some (.inl (q, ls', st', G1)) from hs)
    have ho := Sum.inl.inj ho
    have hk2 : k < nL := by rw [← ha.2]; exact hk
    have hvv : vok v := hv v List.mem_cons_self
    have kw : ∀ arr', lv_has arr' nL ((k, vv E v) :: (encl E ls).filter (fun q => !(q.1 == k) && !(q.1 + 1 == k && q.2.category == 2))) → W p l e R s m args below meth c H locs cells slots Q (F0 m (pc + 2) arr' (st2.map (vv E))) := fun arr' h => stay _ _ _ ho (fun w hw => hv w (List.mem_cons_of_mem _ hw)) (vok_set hl hvv) arr' (lsOk_set hn ha.2 h)
    rcases ht with ⟨h, x, rfl⟩ | ⟨h, x, rfl⟩ <;> first | exact absurd h (by decide) | skip
    cases x with
    | none => exact lv_astoreN hexec hb hd ha.1 hk2 rfl kw
    | some a => exact lv_astore hexec hb hd ha.1 hk2 rfl kw
  | iinc k n =>
    obtain rfl : len = 3 := by simpa [lenOk] using hlen
    simp only [stp] at hs
    split at hs
    · rename_i x hx1
      split at hs
      · rename_i hn
        have ho := Sum.inl.inj (inj hs).symm
        have hk : k < ls.length := (List.getElem?_eq_some_iff.mp hx1).1
        obtain ⟨j, hj⟩ := List.getElem?_of_mem (encl_mem (E := E) (q := (k, vv E (.inl x))).mpr ⟨_, hx1, rfl⟩)
        exact lv_iinc hexec hb hd ha.1 hj (v := Int32.ofInt (wr (x + n))) (by rw [ci_wr, Int32.ofInt_add]) (by rw [← ha.2]; exact hk) rfl (fun arr' h => stay _ _ _ ho hv (vok_set hl (wr_i32 _)) arr' (lsOk_set (v := .inl (wr (x + n))) hn ha.2 h))
      · cases hs
    · cases hs
  | iconst n =>
    obtain rfl : len = 1 := by simpa [lenOk] using hlen
    simp only [stp, pushI] at hs
    split at hs
    · rename_i hc
      have ho := Sum.inl.inj (inj hs).symm
      exact lv_iconst hexec hb hd rfl (stay _ _ _ ho (cons (v := .inl n) (show i32 n from ⟨by omega, by omega⟩) hv) hl arr ha)
    · cases hs
  | bipush n =>
    obtain rfl : len = 2 := by simpa [lenOk] using hlen
    simp only [stp, pushI] at hs
    split at hs
    · rename_i hc
      have ho := Sum.inl.inj (inj hs).symm
      exact lv_bipush hexec hb hd (ci_b hc) (stay _ _ _ ho (cons (v := .inl n) (show i32 n from ⟨by omega, by omega⟩) hv) hl arr ha)
    · cases hs
  | sipush n =>
    obtain rfl : len = 3 := by simpa [lenOk] using hlen
    simp only [stp, pushI] at hs
    split at hs
    · rename_i hc
      have ho := Sum.inl.inj (inj hs).symm
      exact lv_sipush hexec hb hd (ci_s hc) (stay _ _ _ ho (cons (v := .inl n) (show i32 n from ⟨by omega, by omega⟩) hv) hl arr ha)
    · cases hs
  | lconst n =>
    obtain rfl : len = 1 := by simpa [lenOk] using hlen
    have ho := Sum.inl.inj (inj (show some _ = _ from hs)).symm
    exact lv_lconst hexec hb hd (lc_nat n) (stay _ _ _ ho (cons (v := .inr (.inl (n.val : Int))) (show i64 _ from ⟨by omega, by omega⟩) hv) hl arr ha)
  | ldc k =>
    obtain rfl : len = 2 := by simpa [lenOk] using hlen
    simp only [stp] at hs
    split at hs
    · rename_i x hx1
      have ho := Sum.inl.inj (inj hs).symm
      obtain ⟨h1, h2⟩ := g_const hx1
      exact lv_ldc hexec hb hown (hts _ h1) hd (stay _ _ _ ho (cons (v := .inl x) h2 hv) hl arr ha)
    · cases hs
  | ldc_w k =>
    obtain rfl : len = 3 := by simpa [lenOk] using hlen
    simp only [stp] at hs
    split at hs
    · rename_i x hx1
      have ho := Sum.inl.inj (inj hs).symm
      obtain ⟨h1, h2⟩ := g_const hx1
      exact lv_ldcw hexec hb hown (hts _ h1) hd (stay _ _ _ ho (cons (v := .inl x) h2 hv) hl arr ha)
    · cases hs
  | ldc2_w k =>
    obtain rfl : len = 3 := by simpa [lenOk] using hlen
    simp only [stp] at hs
    split at hs
    · rename_i x hx1
      have ho := Sum.inl.inj (inj hs).symm
      obtain ⟨h1, h2⟩ := g_constL hx1
      exact lv_ldc2 hexec hb hown (hts _ h1) hd (stay _ _ _ ho (cons (v := .inr (.inl x)) h2 hv) hl arr ha)
    · cases hs
  | aconst_null =>
    obtain rfl : len = 1 := by simpa [lenOk] using hlen
    have ho := Sum.inl.inj (inj (show some _ = _ from hs)).symm
    exact lv_null hexec hb hd (stay _ _ _ ho (cons (v := .inr (.inr none)) trivial hv) hl arr ha)
  | iadd =>
    obtain rfl : len = 1 := by simpa [lenOk] using hlen
    simp only [stp] at hs
    obtain ⟨x, y, v, st2, rfl, hf, ho⟩ := bi2_spec hs
    have ho := Sum.inl.inj ho
    have hy : i32 y := hv _ List.mem_cons_self
    have hx2 : i32 x := hv _ (List.mem_cons_of_mem _ List.mem_cons_self)
    have hv2 : ∀ w ∈ st2, vok w := fun w hw => hv w (List.mem_cons_of_mem _ (List.mem_cons_of_mem _ hw))
    cases hf
    have kw := stay _ _ _ ho (cons (v := .inl (wr (x + y))) (wr_i32 _) hv2) hl arr ha
    refine lv_iadd hexec hb hd ?_
    have e1 : Int32.ofInt x + Int32.ofInt y = Int32.ofInt (wr (x + y)) := by rw [ci_wr, Int32.ofInt_add]
    rw [e1]; exact kw
  | isub =>
    obtain rfl : len = 1 := by simpa [lenOk] using hlen
    simp only [stp] at hs
    obtain ⟨x, y, v, st2, rfl, hf, ho⟩ := bi2_spec hs
    have ho := Sum.inl.inj ho
    have hy : i32 y := hv _ List.mem_cons_self
    have hx2 : i32 x := hv _ (List.mem_cons_of_mem _ List.mem_cons_self)
    have hv2 : ∀ w ∈ st2, vok w := fun w hw => hv w (List.mem_cons_of_mem _ (List.mem_cons_of_mem _ hw))
    cases hf
    have kw := stay _ _ _ ho (cons (v := .inl (wr (x - y))) (wr_i32 _) hv2) hl arr ha
    refine lv_isub hexec hb hd ?_
    have e1 : Int32.ofInt x - Int32.ofInt y = Int32.ofInt (wr (x - y)) := by rw [ci_wr, Int32.ofInt_sub]
    rw [e1]; exact kw
  | imul =>
    obtain rfl : len = 1 := by simpa [lenOk] using hlen
    simp only [stp] at hs
    obtain ⟨x, y, v, st2, rfl, hf, ho⟩ := bi2_spec hs
    have ho := Sum.inl.inj ho
    have hy : i32 y := hv _ List.mem_cons_self
    have hx2 : i32 x := hv _ (List.mem_cons_of_mem _ List.mem_cons_self)
    have hv2 : ∀ w ∈ st2, vok w := fun w hw => hv w (List.mem_cons_of_mem _ (List.mem_cons_of_mem _ hw))
    cases hf
    have kw := stay _ _ _ ho (cons (v := .inl (wr (x * y))) (wr_i32 _) hv2) hl arr ha
    refine lv_imul hexec hb hd ?_
    have e1 : Int32.ofInt x * Int32.ofInt y = Int32.ofInt (wr (x * y)) := by rw [ci_wr, Int32.ofInt_mul]
    rw [e1]; exact kw
  | iand =>
    obtain rfl : len = 1 := by simpa [lenOk] using hlen
    simp only [stp] at hs
    obtain ⟨x, y, v, st2, rfl, hf, ho⟩ := bi2_spec hs
    have ho := Sum.inl.inj ho
    have hy : i32 y := hv _ List.mem_cons_self
    have hx2 : i32 x := hv _ (List.mem_cons_of_mem _ List.mem_cons_self)
    have hv2 : ∀ w ∈ st2, vok w := fun w hw => hv w (List.mem_cons_of_mem _ (List.mem_cons_of_mem _ hw))
    cases hf
    have kw := stay _ _ _ ho (cons (v := .inl _) (to_i32 _) hv2) hl arr ha
    refine lv_iand hexec hb hd ?_
    rw [← Int32.ofInt_toInt (Int32.ofInt x &&& Int32.ofInt y)]; exact kw
  | ior =>
    obtain rfl : len = 1 := by simpa [lenOk] using hlen
    simp only [stp] at hs
    obtain ⟨x, y, v, st2, rfl, hf, ho⟩ := bi2_spec hs
    have ho := Sum.inl.inj ho
    have hy : i32 y := hv _ List.mem_cons_self
    have hx2 : i32 x := hv _ (List.mem_cons_of_mem _ List.mem_cons_self)
    have hv2 : ∀ w ∈ st2, vok w := fun w hw => hv w (List.mem_cons_of_mem _ (List.mem_cons_of_mem _ hw))
    cases hf
    have kw := stay _ _ _ ho (cons (v := .inl _) (to_i32 _) hv2) hl arr ha
    refine lv_ior hexec hb hd ?_
    rw [← Int32.ofInt_toInt (Int32.ofInt x ||| Int32.ofInt y)]; exact kw
  | ixor =>
    obtain rfl : len = 1 := by simpa [lenOk] using hlen
    simp only [stp] at hs
    obtain ⟨x, y, v, st2, rfl, hf, ho⟩ := bi2_spec hs
    have ho := Sum.inl.inj ho
    have hy : i32 y := hv _ List.mem_cons_self
    have hx2 : i32 x := hv _ (List.mem_cons_of_mem _ List.mem_cons_self)
    have hv2 : ∀ w ∈ st2, vok w := fun w hw => hv w (List.mem_cons_of_mem _ (List.mem_cons_of_mem _ hw))
    cases hf
    have kw := stay _ _ _ ho (cons (v := .inl _) (to_i32 _) hv2) hl arr ha
    refine lv_ixor hexec hb hd ?_
    rw [← Int32.ofInt_toInt (Int32.ofInt x ^^^ Int32.ofInt y)]; exact kw
  | ishl =>
    obtain rfl : len = 1 := by simpa [lenOk] using hlen
    simp only [stp] at hs
    obtain ⟨x, y, v, st2, rfl, hf, ho⟩ := bi2_spec hs
    have ho := Sum.inl.inj ho
    have hy : i32 y := hv _ List.mem_cons_self
    have hx2 : i32 x := hv _ (List.mem_cons_of_mem _ List.mem_cons_self)
    have hv2 : ∀ w ∈ st2, vok w := fun w hw => hv w (List.mem_cons_of_mem _ (List.mem_cons_of_mem _ hw))
    cases hf
    have kw := stay _ _ _ ho (cons (v := .inl _) (to_i32 _) hv2) hl arr ha
    refine lv_ishl hexec hb hd ?_
    rw [← Int32.ofInt_toInt (Int32.ofInt x <<< (Int32.ofInt y &&& 31))]; exact kw
  | ishr =>
    obtain rfl : len = 1 := by simpa [lenOk] using hlen
    simp only [stp] at hs
    obtain ⟨x, y, v, st2, rfl, hf, ho⟩ := bi2_spec hs
    have ho := Sum.inl.inj ho
    have hy : i32 y := hv _ List.mem_cons_self
    have hx2 : i32 x := hv _ (List.mem_cons_of_mem _ List.mem_cons_self)
    have hv2 : ∀ w ∈ st2, vok w := fun w hw => hv w (List.mem_cons_of_mem _ (List.mem_cons_of_mem _ hw))
    cases hf
    have kw := stay _ _ _ ho (cons (v := .inl _) (to_i32 _) hv2) hl arr ha
    refine lv_ishr hexec hb hd ?_
    rw [← Int32.ofInt_toInt (Int32.ofInt x >>> (Int32.ofInt y &&& 31))]; exact kw
  | idiv =>
    obtain rfl : len = 1 := by simpa [lenOk] using hlen
    simp only [stp] at hs
    obtain ⟨x, y, v, st2, rfl, hf, ho⟩ := bi2_spec hs
    have ho := Sum.inl.inj ho
    have hy : i32 y := hv _ List.mem_cons_self
    have hx2 : i32 x := hv _ (List.mem_cons_of_mem _ List.mem_cons_self)
    have hv2 : ∀ w ∈ st2, vok w := fun w hw => hv w (List.mem_cons_of_mem _ (List.mem_cons_of_mem _ hw))
    split at hf
    · cases hf
    · rename_i hy0
      cases hf
      have kw := stay _ _ _ ho (cons (v := .inl _) (wr_i32 _) hv2) hl arr ha
      refine lv_idiv hexec hb hd (fun h => hy0 ((ci_eq hy i32_0).mp (by rw [ci_0]; exact h))) ?_
      rw [ci_div hx2 hy]; exact kw
  | irem =>
    obtain rfl : len = 1 := by simpa [lenOk] using hlen
    simp only [stp] at hs
    obtain ⟨x, y, v, st2, rfl, hf, ho⟩ := bi2_spec hs
    have ho := Sum.inl.inj ho
    have hy : i32 y := hv _ List.mem_cons_self
    have hx2 : i32 x := hv _ (List.mem_cons_of_mem _ List.mem_cons_self)
    have hv2 : ∀ w ∈ st2, vok w := fun w hw => hv w (List.mem_cons_of_mem _ (List.mem_cons_of_mem _ hw))
    split at hf
    · cases hf
    · rename_i hy0
      cases hf
      have kw := stay _ _ _ ho (cons (v := .inl (x.tmod y)) (tmod_lt hx2) hv2) hl arr ha
      refine lv_irem hexec hb hd (fun h => hy0 ((ci_eq hy i32_0).mp (by rw [ci_0]; exact h))) ?_
      rw [ci_rem hx2 hy]; exact kw
  | i2l =>
    obtain rfl : len = 1 := by simpa [lenOk] using hlen
    simp only [stp, un1] at hs
    split at hs
    · rename_i x st2
      have ho := Sum.inl.inj (inj hs).symm
      have hx2 : i32 x := hv _ List.mem_cons_self
      exact lv_i2l hexec hb hd (ci_i2l hx2) (stay _ _ _ ho (cons (v := .inr (.inl x)) (show i64 x from ⟨by have := hx2.1; omega, by have := hx2.2; omega⟩) (fun w hw => hv w (List.mem_cons_of_mem _ hw))) hl arr ha)
    · cases hs
  | l2i =>
    obtain rfl : len = 1 := by simpa [lenOk] using hlen
    simp only [stp] at hs
    split at hs
    · rename_i x st2
      have ho := Sum.inl.inj (inj hs).symm
      have hx2 : i64 x := hv _ List.mem_cons_self
      exact lv_l2i hexec hb hd (cl_l2i hx2) (stay _ _ _ ho (cons (v := .inl (wr x)) (wr_i32 _) (fun w hw => hv w (List.mem_cons_of_mem _ hw))) hl arr ha)
    · cases hs
  | ladd =>
    obtain rfl : len = 1 := by simpa [lenOk] using hlen
    simp only [stp] at hs
    obtain ⟨x, y, v, st2, rfl, hf, ho⟩ := bl2_spec hs
    have ho := Sum.inl.inj ho
    have hy : i64 y := hv _ List.mem_cons_self
    have hx2 : i64 x := hv _ (List.mem_cons_of_mem _ List.mem_cons_self)
    have hv2 : ∀ w ∈ st2, vok w := fun w hw => hv w (List.mem_cons_of_mem _ (List.mem_cons_of_mem _ hw))
    cases hf
    have kw := stay _ _ _ ho (cons (v := .inr (.inl (wl (x + y)))) (wl_i64 _) hv2) hl arr ha
    refine lv_ladd hexec hb hd ?_
    have e1 : Int64.ofInt x + Int64.ofInt y = Int64.ofInt (wl (x + y)) := by rw [cl_wl, Int64.ofInt_add]
    rw [e1]; exact kw
  | lmul =>
    obtain rfl : len = 1 := by simpa [lenOk] using hlen
    simp only [stp] at hs
    obtain ⟨x, y, v, st2, rfl, hf, ho⟩ := bl2_spec hs
    have ho := Sum.inl.inj ho
    have hy : i64 y := hv _ List.mem_cons_self
    have hx2 : i64 x := hv _ (List.mem_cons_of_mem _ List.mem_cons_self)
    have hv2 : ∀ w ∈ st2, vok w := fun w hw => hv w (List.mem_cons_of_mem _ (List.mem_cons_of_mem _ hw))
    cases hf
    have kw := stay _ _ _ ho (cons (v := .inr (.inl (wl (x * y)))) (wl_i64 _) hv2) hl arr ha
    refine lv_lmul hexec hb hd ?_
    have e1 : Int64.ofInt x * Int64.ofInt y = Int64.ofInt (wl (x * y)) := by rw [cl_wl, Int64.ofInt_mul]
    rw [e1]; exact kw
  | lrem =>
    obtain rfl : len = 1 := by simpa [lenOk] using hlen
    simp only [stp] at hs
    obtain ⟨x, y, v, st2, rfl, hf, ho⟩ := bl2_spec hs
    have ho := Sum.inl.inj ho
    have hy : i64 y := hv _ List.mem_cons_self
    have hx2 : i64 x := hv _ (List.mem_cons_of_mem _ List.mem_cons_self)
    have hv2 : ∀ w ∈ st2, vok w := fun w hw => hv w (List.mem_cons_of_mem _ (List.mem_cons_of_mem _ hw))
    split at hf
    · cases hf
    · rename_i hy0
      cases hf
      have kw := stay _ _ _ ho (cons (v := .inr (.inl (x.tmod y))) (tmod_lt hx2) hv2) hl arr ha
      refine lv_lrem hexec hb hd (fun h => hy0 ((cl_eq hy ⟨by omega, by omega⟩).mp (by rw [h]; rfl))) ?_
      rw [cl_rem hx2 hy]; exact kw
  | lcmp =>
    obtain rfl : len = 1 := by simpa [lenOk] using hlen
    simp only [stp] at hs
    obtain ⟨x, y, v, st2, rfl, hf, ho⟩ := bl2_spec hs
    have ho := Sum.inl.inj ho
    have hy : i64 y := hv _ List.mem_cons_self
    have hx2 : i64 x := hv _ (List.mem_cons_of_mem _ List.mem_cons_self)
    have hv2 : ∀ w ∈ st2, vok w := fun w hw => hv w (List.mem_cons_of_mem _ (List.mem_cons_of_mem _ hw))
    cases hf
    have kw := stay _ _ _ ho (cons (v := .inl (if x < y then -1 else if x = y then 0 else 1)) (show i32 _ from by unfold i32; split <;> (try split) <;> omega) hv2) hl arr ha
    refine W.lcmp hexec hb hd ?_
    rw [cl_cmp hx2 hy]; exact kw
  | dup =>
    obtain rfl : len = 1 := by simpa [lenOk] using hlen
    simp only [stp] at hs
    split at hs
    · rename_i v st2
      split at hs
      · rename_i hc
        have ho := Sum.inl.inj (inj hs).symm
        exact lv_dup hexec hb hd (by rw [vv_cat]; exact hc) (stay _ _ _ ho (cons (hv _ List.mem_cons_self) hv) hl arr ha)
      · cases hs
    · cases hs
  | dup2 =>
    obtain rfl : len = 1 := by simpa [lenOk] using hlen
    simp only [stp] at hs
    split at hs
    · rename_i v w st2
      split at hs
      · rename_i hc
        have ho := Sum.inl.inj (inj hs).symm
        exact lv_dup2_11 hexec hb hd (by rw [vv_cat]; exact hc.1) (by rw [vv_cat]; exact hc.2) (stay _ _ _ ho (cons (hv _ List.mem_cons_self) (cons (hv _ (List.mem_cons_of_mem _ List.mem_cons_self)) hv)) hl arr ha)
      · cases hs
    · cases hs
  | pop =>
    obtain rfl : len = 1 := by simpa [lenOk] using hlen
    simp only [stp] at hs
    split at hs
    · rename_i v st2
      split at hs
      · rename_i hc
        have ho := Sum.inl.inj (inj hs).symm
        exact lv_pop hexec hb hd (by rw [vv_cat]; exact hc) (stay _ _ _ ho (fun w hw => hv w (List.mem_cons_of_mem _ hw)) hl arr ha)
      · cases hs
    · cases hs
  | goto off =>
    obtain rfl : len = 3 := by simpa [lenOk] using hlen
    obtain ⟨t, ht, ho⟩ := gto_spec (show gto pc off ls st G = some (.inl (q, ls', st', G1)) from hs)
    exact lv_goto hexec hb hd ht (stay _ _ _ (Sum.inl.inj ho) hv hl arr ha)
  | ifCond cd off =>
    obtain rfl : len = 3 := by simpa [lenOk] using hlen
    simp only [stp] at hs
    split at hs
    · rename_i x st2
      have hx2 : i32 x := hv _ List.mem_cons_self
      have hv2 : ∀ w ∈ st2, vok w := fun w hw => hv w (List.mem_cons_of_mem _ hw)
      have e0 : Int32.ofInt x = 0 ↔ x = 0 := by rw [← ci_0]; exact ci_eq hx2 i32_0
      have e1 : Int32.ofInt x < 0 ↔ x < 0 := by rw [← ci_0]; exact ci_lt hx2 i32_0
      have e2 : (0 : Int32) < Int32.ofInt x ↔ 0 < x := by rw [← ci_0]; exact ci_lt i32_0 hx2
      have e3 : (0 : Int32) ≤ Int32.ofInt x ↔ 0 ≤ x := by rw [← ci_0]; exact ci_le i32_0 hx2
      have e4 : Int32.ofInt x ≤ 0 ↔ x ≤ 0 := by rw [← ci_0]; exact ci_le hx2 i32_0
      split at hs
      case isFalse => cases hs
      rename_i h0
      have JJ : (pc : Int) + off = ((((pc : Int) + off).toNat : Nat) : Int) := by omega
      split at hs
      · rename_i hc
        obtain ⟨t, ht, ho⟩ := gto_spec hs
        have kw := stay _ _ _ (Sum.inl.inj ho) hv2 hl arr ha
        cases cd <;> simp only [cmpI, decide_eq_true_eq] at hc
        · exact lv_if_eq hexec hb hd ht (fun _ => kw) (fun h => absurd (e0.mpr hc) h)
        · exact lv_if_ne hexec hb hd ht (fun _ => kw) (fun h => by first | exact absurd (fun h2 => hc (e0.mp h2)) h | exact absurd h (fun h2 => hc (e0.mp h2)))
        · exact lv_if_lt hexec hb hd ht (fun _ => kw) (fun h => absurd (e1.mpr hc) h)
        · exact lv_if_ge hexec hb hd ht (fun _ => kw) (fun h => absurd (e3.mpr hc) h)
        · exact lv_if_gt hexec hb hd ht (fun _ => kw) (fun h => absurd (e2.mpr hc) h)
        · exact lv_if_le hexec hb hd ht (fun _ => kw) (fun h => absurd (e4.mpr hc) h)
      · rename_i hc
        have kw := stay _ _ _ (Sum.inl.inj (inj hs).symm) hv2 hl arr ha
        cases cd <;> simp only [cmpI, decide_eq_true_eq] at hc
        · exact lv_if_eq hexec hb hd JJ (fun h => absurd (e0.mp h) hc) (fun _ => kw)
        · exact lv_if_ne hexec hb hd JJ (fun h => absurd (fun h2 => h (e0.mpr h2)) hc) (fun _ => kw)
        · exact lv_if_lt hexec hb hd JJ (fun h => absurd (e1.mp h) hc) (fun _ => kw)
        · exact lv_if_ge hexec hb hd JJ (fun h => absurd (e3.mp h) hc) (fun _ => kw)
        · exact lv_if_gt hexec hb hd JJ (fun h => absurd (e2.mp h) hc) (fun _ => kw)
        · exact lv_if_le hexec hb hd JJ (fun h => absurd (e4.mp h) hc) (fun _ => kw)
    · cases hs
  | if_icmp cd off =>
    obtain rfl : len = 3 := by simpa [lenOk] using hlen
    simp only [stp] at hs
    split at hs
    · rename_i y x st2
      have hy2 : i32 y := hv _ List.mem_cons_self
      have hx2 : i32 x := hv _ (List.mem_cons_of_mem _ List.mem_cons_self)
      have hv2 : ∀ w ∈ st2, vok w := fun w hw => hv w (List.mem_cons_of_mem _ (List.mem_cons_of_mem _ hw))
      have e0 := ci_eq hx2 hy2
      have e1 := ci_lt hx2 hy2
      have e2 := ci_lt hy2 hx2
      have e3 := ci_le hy2 hx2
      have e4 := ci_le hx2 hy2
      split at hs
      case isFalse => cases hs
      rename_i h0
      have JJ : (pc : Int) + off = ((((pc : Int) + off).toNat : Nat) : Int) := by omega
      split at hs
      · rename_i hc
        obtain ⟨t, ht, ho⟩ := gto_spec hs
        have kw := stay _ _ _ (Sum.inl.inj ho) hv2 hl arr ha
        cases cd <;> simp only [cmpI, decide_eq_true_eq] at hc
        · exact lv_icmp_eq hexec hb hd ht (fun _ => kw) (fun h => absurd (e0.mpr hc) h)
        · exact lv_icmp_ne hexec hb hd ht (fun _ => kw) (fun h => absurd h (fun h2 => hc (e0.mp h2)))
        · exact lv_icmp_lt hexec hb hd ht (fun _ => kw) (fun h => absurd (e1.mpr hc) h)
        · exact lv_icmp_ge hexec hb hd ht (fun _ => kw) (fun h => absurd (e3.mpr hc) h)
        · exact lv_icmp_gt hexec hb hd ht (fun _ => kw) (fun h => absurd (e2.mpr hc) h)
        · exact lv_icmp_le hexec hb hd ht (fun _ => kw) (fun h => absurd (e4.mpr hc) h)
      · rename_i hc
        have kw := stay _ _ _ (Sum.inl.inj (inj hs).symm) hv2 hl arr ha
        cases cd <;> simp only [cmpI, decide_eq_true_eq] at hc
        · exact lv_icmp_eq hexec hb hd JJ (fun h => absurd (e0.mp h) hc) (fun _ => kw)
        · exact lv_icmp_ne hexec hb hd JJ (fun h => absurd (fun h2 => h (e0.mpr h2)) hc) (fun _ => kw)
        · exact lv_icmp_lt hexec hb hd JJ (fun h => absurd (e1.mp h) hc) (fun _ => kw)
        · exact lv_icmp_ge hexec hb hd JJ (fun h => absurd (e3.mp h) hc) (fun _ => kw)
        · exact lv_icmp_gt hexec hb hd JJ (fun h => absurd (e2.mp h) hc) (fun _ => kw)
        · exact lv_icmp_le hexec hb hd JJ (fun h => absurd (e4.mp h) hc) (fun _ => kw)
    · cases hs
  | ifnull off =>
    obtain rfl : len = 3 := by simpa [lenOk] using hlen
    simp only [stp] at hs
    split at hs
    · obtain ⟨t, ht, ho⟩ := gto_spec hs
      exact lv_ifnullN hexec hb hd ht (stay _ _ _ (Sum.inl.inj ho) (fun w hw => hv w (List.mem_cons_of_mem _ hw)) hl arr ha)
    · exact lv_ifnull hexec hb hd (stay _ _ _ (Sum.inl.inj (inj hs).symm) (fun w hw => hv w (List.mem_cons_of_mem _ hw)) hl arr ha)
    · cases hs
  | ifnonnull off =>
    obtain rfl : len = 3 := by simpa [lenOk] using hlen
    simp only [stp] at hs
    split at hs
    · exact lv_ifnonnullN hexec hb hd (stay _ _ _ (Sum.inl.inj (inj hs).symm) (fun w hw => hv w (List.mem_cons_of_mem _ hw)) hl arr ha)
    · obtain ⟨t, ht, ho⟩ := gto_spec hs
      exact lv_ifnonnull hexec hb hd ht (stay _ _ _ (Sum.inl.inj ho) (fun w hw => hv w (List.mem_cons_of_mem _ hw)) hl arr ha)
    · cases hs
  | if_acmp cd off =>
    obtain rfl : len = 3 := by simpa [lenOk] using hlen
    cases cd
    · simp only [stp] at hs
      split at hs
      · rename_i y x st2
        have hv2 : ∀ w ∈ st2, vok w := fun w hw => hv w (List.mem_cons_of_mem _ (List.mem_cons_of_mem _ hw))
        split at hs
        case isFalse => cases hs
        rename_i h0
        have JJ : (pc : Int) + off = ((((pc : Int) + off).toNat : Nat) : Int) := by omega
        split at hs
        · rename_i hc
          obtain ⟨t, ht, ho⟩ := gto_spec hs
          have kw := stay _ _ _ (Sum.inl.inj ho) hv2 hl arr ha
          exact lv_acmp_eq hexec hb hd ht (fun _ => kw) (fun h => absurd (by rw [hc]) h)
        · rename_i hc
          have kw := stay _ _ _ (Sum.inl.inj (inj hs).symm) hv2 hl arr ha
          exact lv_acmp_eq hexec hb hd JJ (fun h => absurd (rf_inj hx hg h) hc) (fun _ => kw)
      · cases hs
    · simp only [stp] at hs
      split at hs
      · rename_i y x st2
        have hv2 : ∀ w ∈ st2, vok w := fun w hw => hv w (List.mem_cons_of_mem _ (List.mem_cons_of_mem _ hw))
        split at hs
        case isFalse => cases hs
        rename_i h0
        have JJ : (pc : Int) + off = ((((pc : Int) + off).toNat : Nat) : Int) := by omega
        split at hs
        · rename_i hc
          obtain ⟨t, ht, ho⟩ := gto_spec hs
          have kw := stay _ _ _ (Sum.inl.inj ho) hv2 hl arr ha
          exact lv_acmp_ne hexec hb hd ht (fun _ => kw) (fun h => absurd (rf_inj hx hg h) hc)
        · rename_i hc
          have kw := stay _ _ _ (Sum.inl.inj (inj hs).symm) hv2 hl arr ha
          have hc : x = y := Classical.byContradiction hc
          exact lv_acmp_ne hexec hb hd JJ (fun h => absurd (by rw [hc]) h) (fun _ => kw)
      · cases hs
  | tableswitch df lo hi offs =>
    simp only [stp] at hs
    split at hs
    · rename_i x st2
      have hx2 : i32 x := hv _ List.mem_cons_self
      have hv2 : ∀ w ∈ st2, vok w := fun w hw => hv w (List.mem_cons_of_mem _ hw)
      have ex := ci_to hx2
      split at hs
      · rename_i hc
        obtain ⟨t, ht, ho⟩ := gto_spec hs
        exact lv_tableOut hexec hb hd (by rw [ex]; exact hc) ht (stay _ _ _ (Sum.inl.inj ho) hv2 hl arr ha)
      · rename_i hc
        split at hs
        · rename_i off hof
          obtain ⟨t, ht, ho⟩ := gto_spec hs
          exact lv_tableIn hexec hb hd (by rw [ex]; omega) (by rw [ex]; omega) (by rw [ex]; exact hof) ht (stay _ _ _ (Sum.inl.inj ho) hv2 hl arr ha)
        · cases hs
    · cases hs
  | lookupswitch df ps =>
    simp only [stp] at hs
    split at hs
    · rename_i x st2
      have hx2 : i32 x := hv _ List.mem_cons_self
      have hv2 : ∀ w ∈ st2, vok w := fun w hw => hv w (List.mem_cons_of_mem _ hw)
      have ex := ci_to hx2
      split at hs
      · rename_i hc
        obtain ⟨t, ht, ho⟩ := gto_spec hs
        exact lv_lookup hexec hb hd hc (by rw [ex]) ht (stay _ _ _ (Sum.inl.inj ho) hv2 hl arr ha)
      · cases hs
    · cases hs
  | getfield k =>
    obtain rfl : len = 3 := by simpa [lenOk] using hlen
    simp only [stp, getF] at hs
    split at hs
    · rename_i c0 k0 a st2 hf
      have hv2 : ∀ w ∈ st2, vok w := fun w hw => hv w (List.mem_cons_of_mem _ hw)
      have hk0 := (g_field hf).2.2.1
      split at hs
      · rename_i ht
        refine sd_get hx hg hr hf ht hd ?_
        unfold fv
        rw [show ((k0.toNat : Nat) : Int) = k0 from by omega]
        split at hs
        · rename_i hR
          rw [if_pos hR]
          exact stay _ _ _ (Sum.inl.inj (inj hs).symm) (cons (v := .inr (.inr (rv G a k0))) trivial hv2) hl arr ha
        · rename_i hR
          rw [if_neg hR]
          exact stay _ _ _ (Sum.inl.inj (inj hs).symm) (cons (v := .inl (iv G a k0)) (hg.2.2.2.2.2.1 a k0) hv2) hl arr ha
      · cases hs
    · cases hs
  | putfield k =>
    obtain rfl : len = 3 := by simpa [lenOk] using hlen
    simp only [stp, putF] at hs
    split at hs
    · rename_i c0 k0 v a st2 hf
      have hv2 : ∀ w ∈ st2, vok w := fun w hw => hv w (List.mem_cons_of_mem _ (List.mem_cons_of_mem _ hw))
      obtain ⟨-, hc0, hk0, hk1⟩ := g_field hf
      split at hs
      · rename_i ht
        obtain ⟨g1, g2⟩ := gwf_lt hg ht.1 (by omega)
        split at hs
        · rename_i x
          split at hs
          · rename_i hz
            have hnf : narrow (cY c0 k0.toNat) (.int (Int32.ofInt x)) = .int (Int32.ofInt x) ∧ fits (cY c0 k0.toNat) (.int (Int32.ofInt x)) = true := by
              rcases cY_kinds c0 hc0 k0.toNat hk1 with h | h | ⟨C, h⟩ | ⟨t, h⟩
              · rw [h]; exact ⟨rfl, rfl⟩
              · have hz2 := hz.2 (by unfold isZ; rw [h])
                rw [h]
                rcases hz2 with rfl | rfl <;> exact ⟨by decide, by decide⟩
              · have := hz.1; unfold isR at this; rw [h] at this; cases this
              · have := hz.1; unfold isR at this; rw [h] at this; cases this
            refine sd_put hx hg hr hS hf ht.1 ht.2 hnf.1 hnf.2 (G' := si G a k0 x) rfl (fun b hb => ent_si_ne E G hb _ _) ?_ hd ?_
            · rw [ent_obj (c := c0) (show tg (si G a k0 x) a = c0 from ht.1) hc0, fls_si E G hk0 hk1 hz.1]; rfl
            · exact keep _ _ _ (Sum.inl.inj (inj hs).symm) rfl rfl (gwf_si hg (by omega) (hv (.inl x) List.mem_cons_self)) hv2
          · cases hs
        · rename_i r
          split at hs
          · rename_i hz
            have hnf : narrow (cY c0 k0.toNat) (va_rf (r.map (adr E))) = va_rf (r.map (adr E)) ∧ fits (cY c0 k0.toNat) (va_rf (r.map (adr E))) = true := by
              unfold isR at hz
              rcases cY_kinds c0 hc0 k0.toNat hk1 with h | h | ⟨C, h⟩ | ⟨t, h⟩
              · rw [h] at hz; cases hz
              · rw [h] at hz; cases hz
              · rw [h]; cases r <;> exact ⟨rfl, rfl⟩
              · rw [h]; cases r <;> exact ⟨rfl, rfl⟩
            refine sd_put hx hg hr hS hf ht.1 ht.2 hnf.1 hnf.2 (G' := sr G a k0 r) rfl (fun b hb => ent_sr_ne E G hb _ _) ?_ hd ?_
            · rw [ent_obj (c := c0) (show tg (sr G a k0 r) a = c0 from ht.1) hc0, fls_sr E G hk0 hk1 hz]; rfl
            · exact keep _ _ _ (Sum.inl.inj (inj hs).symm) rfl rfl (gwf_sr hg) hv2
          · cases hs
        · cases hs
      · cases hs
    · cases hs
  | iaload =>
    obtain rfl : len = 1 := by simpa [lenOk] using hlen
    simp only [stp, iald] at hs
    split at hs
    · rename_i j a st2
      split at hs
      · rename_i hc
        exact sd_iald hx hg hr hS hc.1 hc.2.1 hc.2.2 hd (stay _ _ _ (Sum.inl.inj (inj hs).symm) (cons (v := .inl (iv G a j)) (hg.2.2.2.2.2.1 a j) (fun w hw => hv w (List.mem_cons_of_mem _ (List.mem_cons_of_mem _ hw)))) hl arr ha)
      · cases hs
    · cases hs
  | aaload =>
    obtain rfl : len = 1 := by simpa [lenOk] using hlen
    simp only [stp, aald] at hs
    split at hs
    · rename_i j a st2
      split at hs
      · rename_i hc
        exact sd_aald hx hg hr hc.1 hc.2.1 hc.2.2 hd (stay _ _ _ (Sum.inl.inj (inj hs).symm) (cons (v := .inr (.inr (rv G a j))) trivial (fun w hw => hv w (List.mem_cons_of_mem _ (List.mem_cons_of_mem _ hw)))) hl arr ha)
      · cases hs
    · cases hs
  | iastore =>
    obtain rfl : len = 1 := by simpa [lenOk] using hlen
    simp only [stp, iast] at hs
    split at hs
    · rename_i x j a st2
      split at hs
      · rename_i hc
        obtain ⟨g1, g2⟩ := gwf_lt hg hc.1 (by omega)
        exact sd_iast hx hg hr hS hc.1 hc.2.1 hc.2.2 hd (keep _ _ _ (Sum.inl.inj (inj hs).symm) rfl rfl (gwf_si hg (by omega) (hv (.inl x) List.mem_cons_self)) (fun w hw => hv w (List.mem_cons_of_mem _ (List.mem_cons_of_mem _ (List.mem_cons_of_mem _ hw)))))
      · cases hs
    · cases hs
  | aastore =>
    obtain rfl : len = 1 := by simpa [lenOk] using hlen
    simp only [stp, aast] at hs
    split at hs
    · rename_i x j a st2
      split at hs
      · rename_i hc
        exact sd_aast hx hg hr hS hc.1 hc.2.1 hc.2.2 hd (keep _ _ _ (Sum.inl.inj (inj hs).symm) rfl rfl (gwf_sr hg) (fun w hw => hv w (List.mem_cons_of_mem _ (List.mem_cons_of_mem _ (List.mem_cons_of_mem _ hw)))))
      · cases hs
    · cases hs
  | arraylength =>
    obtain rfl : len = 1 := by simpa [lenOk] using hlen
    simp only [stp, alen] at hs
    split at hs
    · rename_i a st2
      split at hs
      · rename_i hc
        have h7 := hg.2.2.2.2.2.2 a
        exact sd_alen hx hg hr hS hc hd (stay _ _ _ (Sum.inl.inj (inj hs).symm) (cons (v := .inl (ln G a)) (show i32 _ from ⟨by omega, by omega⟩) (fun w hw => hv w (List.mem_cons_of_mem _ hw))) hl arr ha)
      · cases hs
    · cases hs
  | newarray ty =>
    obtain rfl : len = 2 := by simpa [lenOk] using hlen
    cases ty with
    | int =>
      simp only [stp, newA] at hs
      split at hs
      · rename_i n st2
        split at hs
        · rename_i hc
          have ho := Sum.inl.inj (inj hs).symm
          have hz : G1 = nw G 20 n n.toNat := by cases ho; rfl
          rw [hz, sz_nw] at hc1
          rw [hz, sl_nw] at hc2
          exact sd_newarr hx hr hS hc (by omega) (by omega) hd (grow _ _ _ _ ho rfl rfl (gwf_nw hg (by decide) hc) (cons (v := .inr (.inr (some (sz G + 1)))) trivial (fun w hw => hv w (List.mem_cons_of_mem _ hw))))
        · cases hs
      · cases hs
    | _ => simp [stp] at hs
  | anewarray k =>
    obtain rfl : len = 3 := by simpa [lenOk] using hlen
    have go : ∀ (c1 t : Nat), nres own k = some c1 → ((c1 = 1 ∧ t = 21) ∨ (c1 = 7 ∧ t = 22)) → newA t (pc + 3) ls st G = some (.inl (q, ls', st', G1)) → W p l e R s m args below meth c H locs cells slots Q (F0 m pc arr (st.map (vv E))) := by
      intro c1 t hk hct hs
      obtain ⟨n, st2, rfl, hc, ho⟩ := newA_spec hs
      have ho := Sum.inl.inj ho
      have hz : G1 = nw G t n n.toNat := by cases ho; rfl
      rw [hz, sz_nw] at hc1
      rw [hz, sl_nw] at hc2
      exact sd_anew hx hr hS hk hct hc (by omega) (by omega) hd (grow _ _ _ _ ho rfl rfl (gwf_nw hg (by omega) hc) (cons (v := .inr (.inr (some (sz G + 1)))) trivial (fun w hw => hv w (List.mem_cons_of_mem _ hw))))
    simp only [stp] at hs
    split at hs
    · rename_i hk; exact go 1 21 hk (Or.inl ⟨rfl, rfl⟩) hs
    · rename_i hk; exact go 7 22 hk (Or.inr ⟨rfl, rfl⟩) hs
    · cases hs
  | new k =>
    obtain rfl : len = 3 := by simpa [lenOk] using hlen
    simp only [stp, newO] at hs
    split at hs
    · rename_i c1 hk
      have ho := Sum.inl.inj (inj hs).symm
      have hz : G1 = nw G c1 0 (cN c1) := by cases ho; rfl
      have hc11 := (g_new hk).2
      rw [hz, sz_nw] at hc1
      rw [hz, sl_nw] at hc2
      exact sd_new hx hr hS hk (by omega) (by omega) hd (grow _ _ _ _ ho rfl rfl (gwf_nw hg (by omega) ⟨by omega, by omega⟩) (cons (v := .inr (.inr (some (sz G + 1)))) trivial hv))
    · cases hs
  | invokestatic k =>
    obtain rfl : len = 3 := by simpa [lenOk] using hlen
    simp only [stp, invS] at hs
    split at hs
    · rename_i z hlk
      split at hs
      · rename_i n dp b sp a st2
        split at hs
        · rename_i hc
          have ho := Sum.inl.inj (inj hs).symm
          obtain ⟨b1, b2⟩ := gwf_lt hg hc.2.1 (by omega)
          obtain ⟨p0, hp0⟩ := (g_link hlk).2
          refine sd_copy hx hg hr hS ha.1.1 hlk (copy_z _ hp0 rfl) hc.1 hc.2.1 hc.2.2.1 hc.2.2.2.1 hc.2.2.2.2.1 hc.2.2.2.2.2.1 hc.2.2.2.2.2.2.1 hfr ?_ hd (keep _ _ _ ho rfl rfl (gwf_cp hg (by omega)) (fun w hw => hv w (List.mem_cons_of_mem _ (List.mem_cons_of_mem _ (List.mem_cons_of_mem _ (List.mem_cons_of_mem _ (List.mem_cons_of_mem _ hw)))))))
          have h8 := hc.2.2.2.2.2.2.2
          have h9 : nativeFrameWords "java/lang/System" "arraycopy" 5 = 7 := by decide
          show ((st2.map (vv E)).map fun v => v.category).sum + _ ≤ _
          rw [cats_map, h9]
          omega
        · cases hs
      · cases hs
    · split at hs
      · split at hs
        · cases hs
        · cases hs
      · cases hs
    · cases hs
  | invokespecial k =>
    obtain rfl : len = 3 := by simpa [lenOk] using hlen
    simp only [stp, invI] at hs
    split at hs
    · rename_i z hlk
      split at hs
      · rename_i a st2
        split at hs
        · rename_i hc
          have ho := Sum.inl.inj (inj hs).symm
          obtain ⟨p0, hp0⟩ := (g_link hlk).2
          have hz := obj_z _ hp0 rfl
          have h1 := (g_link hlk).1
          rw [if_neg (by rw [show z = 0 from hz]; decide)] at h1
          have hlink : (Cond.methodLink (cn own) k Lib.objectInit).before args s = true := hts _ (in_g h1 rfl)
          exact W.objInit hexec hb hown hlink (hts _ (in_g w_oi rfl)) (hts _ (in_g w_oc rfl)) rfl (by show arr.size = _; rw [hml]; exact ha.1.1) rfl hd hfr (by show 2 * 0 + ((st2.map (vv E)).map fun v => v.category).sum + 12 ≤ _; rw [cats_map]; omega) (stay _ _ _ ho (fun w hw => hv w (List.mem_cons_of_mem _ hw)) hl arr ha)
        · cases hs
      · cases hs
    · split at hs
      · split at hs
        · split at hs
          · cases hs
          · cases hs
        · cases hs
      · cases hs
    · cases hs
  | invokevirtual k =>
    simp only [stp, invV] at hs
    split at hs
    · split at hs
      · split at hs
        · split at hs
          · cases hs
          · cases hs
        · cases hs
      · cases hs
    · cases hs
  | ireturn =>
    simp only [stp] at hs
    split at hs
    · cases hs
    · split at hs
      · cases hs
      · cases hs
    · cases hs
  | areturn =>
    simp only [stp] at hs
    split at hs
    · cases hs
    · cases hs
  | return_ =>
    simp only [stp] at hs
    split at hs
    · cases hs
    · cases hs
  | _ => simp [stp] at hs
end ST
end
section
/-! SOUNDNESS, fourth part: runs and calls -/
theorem stp_mono {ret : Option FieldType} {own : Nat} {ini : Bool} {i : Instr} {pc q0 q : Nat} {ls ls' : Ls} {st st' : List V} {G G1 : Hp} (h : stp ret own ini i pc q0 ls st G = some (.inl (q, ls', st', G1))) : sz G ≤ sz G1 ∧ sl G ≤ sl G1 := by
  have same : ∀ {q2 : Nat} {l2 : Ls} {s2 : List V} {G2 : Hp}, G2 = G → (Sum.inl (q, ls', st', G1) : Ot) = .inl (q2, l2, s2, G2) → sz G ≤ sz G1 ∧ sl G ≤ sl G1 := by
    intro q2 l2 s2 G2 e h
    cases h
    rw [e]
    exact ⟨Nat.le_refl _, Nat.le_refl _⟩
  cases i with
  | aload_n k | aload k | iload_n k | iload k | lload_n k | lload k =>
    obtain ⟨v, -, ho, -⟩ := ldv_spec h
    exact same rfl ho
  | istore_n k | istore k | astore_n k | astore k =>
    obtain ⟨v, st2, -, -, -, ho, -⟩ := stv_spec h
    exact same rfl ho
  | iadd | isub | imul | idiv | irem | iand | ior | ixor | ishl | ishr =>
    simp only [stp] at h
    obtain ⟨x, y, v, st2, -, -, ho⟩ := bi2_spec h
    exact same rfl ho
  | ladd | lmul | lrem | lcmp =>
    simp only [stp] at h
    obtain ⟨x, y, v, st2, -, -, ho⟩ := bl2_spec h
    exact same rfl ho
  | goto off =>
    obtain ⟨t, -, ho⟩ := gto_spec h
    exact same rfl ho
  | newarray ty =>
    cases ty with
    | int =>
      obtain ⟨n, st2, -, -, ho⟩ := newA_spec h
      cases ho
      exact ⟨Nat.le_succ _, Nat.le_add_right _ _⟩
    | _ => simp [stp] at h
  | anewarray k =>
    simp only [stp] at h
    split at h
    · obtain ⟨n, st2, -, -, ho⟩ := newA_spec h
      cases ho
      exact ⟨Nat.le_succ _, Nat.le_add_right _ _⟩
    · obtain ⟨n, st2, -, -, ho⟩ := newA_spec h
      cases ho
      exact ⟨Nat.le_succ _, Nat.le_add_right _ _⟩
    · cases h
  | new k =>
    simp only [stp, newO] at h
    split at h
    · cases h; exact ⟨Nat.le_succ _, Nat.le_add_right _ _⟩
    · cases h
  | if_acmp cd off =>
    cases cd <;> (simp only [stp, gto, nxt] at h; repeat' split at h) <;> first | (cases h; done) | (cases h; exact ⟨Nat.le_refl _, Nat.le_refl _⟩)
  | iinc _ _ | iconst _ | bipush _ | sipush _ | lconst _ | ldc _ | ldc_w _ | ldc2_w _ | aconst_null | i2l | l2i | dup | dup2 | pop | ifCond _ _ | if_icmp _ _ | ifnull _ | ifnonnull _ | tableswitch _ _ _ _ | lookupswitch _ _ | getfield _ | putfield _ | iaload | iastore | aaload | aastore | arraylength | invokevirtual _ | invokestatic _ | invokespecial _ | ireturn | areturn | return_ =>
    simp only [stp, un1, pushI, getF, putF, iald, aald, iast, aast, alen, invV, invS, invI, gto, nxt] at h
    (repeat' split at h) <;> first | (cases h; done) | (cases h; exact ⟨Nat.le_refl _, Nat.le_refl _⟩)
  | _ => simp [stp] at h
theorem stp_call {ret : Option FieldType} {own : Nat} {ini : Bool} {i : Instr} {pc q0 q mid : Nat} {ls : Ls} {st as rest : List V} {G : Hp} (h : stp ret own ini i pc q0 ls st G = some (.inr (.inl (mid, as, q, rest)))) : (∃ k, i = .invokevirtual k ∧ invV own k q0 st G = some (.inr (.inl (mid, as, q, rest)))) ∨ (∃ k, i = .invokestatic k ∧ invS own k q0 ls st G = some (.inr (.inl (mid, as, q, rest)))) ∨ (∃ k, i = .invokespecial k ∧ invI own k q0 ls st G = some (.inr (.inl (mid, as, q, rest)))) := by
  cases i with
  | invokevirtual k => exact Or.inl ⟨k, rfl, h⟩
  | invokestatic k => exact Or.inr (Or.inl ⟨k, rfl, h⟩)
  | invokespecial k => exact Or.inr (Or.inr ⟨k, rfl, h⟩)
  | aload_n k | aload k | iload_n k | iload k | lload_n k | lload k =>
    obtain ⟨v, -, ho, -⟩ := ldv_spec h
    cases ho
  | istore_n k | istore k | astore_n k | astore k =>
    obtain ⟨v, st2, -, -, -, ho, -⟩ := stv_spec h
    cases ho
  | iadd | isub | imul | idiv | irem | iand | ior | ixor | ishl | ishr =>
    simp only [stp] at h
    obtain ⟨x, y, v, st2, -, -, ho⟩ := bi2_spec h
    cases ho
  | ladd | lmul | lrem | lcmp =>
    simp only [stp] at h
    obtain ⟨x, y, v, st2, -, -, ho⟩ := bl2_spec h
    cases ho
  | goto off =>
    obtain ⟨t, -, ho⟩ := gto_spec h
    cases ho
  | newarray ty =>
    cases ty with
    | int =>
      obtain ⟨n, st2, -, -, ho⟩ := newA_spec h
      cases ho
    | _ => simp [stp] at h
  | anewarray k =>
    simp only [stp] at h
    split at h
    · obtain ⟨n, st2, -, -, ho⟩ := newA_spec h
      cases ho
    · obtain ⟨n, st2, -, -, ho⟩ := newA_spec h
      cases ho
    · cases h
  | if_acmp cd off =>
    cases cd <;> (simp only [stp, gto, nxt] at h; repeat' split at h) <;> (cases h; done)
  | iinc _ _ | iconst _ | bipush _ | sipush _ | lconst _ | ldc _ | ldc_w _ | ldc2_w _ | aconst_null | i2l | l2i | dup | dup2 | pop | ifCond _ _ | if_icmp _ _ | ifnull _ | ifnonnull _ | tableswitch _ _ _ _ | lookupswitch _ _ | getfield _ | putfield _ | iaload | iastore | aaload | aastore | arraylength | new _ | ireturn | areturn | return_ =>
    simp only [stp, un1, pushI, getF, putF, iald, aald, iast, aast, alen, newO, gto, nxt] at h
    (repeat' split at h) <;> (cases h; done)
  | _ => simp [stp] at h
theorem stp_ret {ret : Option FieldType} {own : Nat} {ini : Bool} {i : Instr} {pc q0 : Nat} {ls : Ls} {st : List V} {G : Hp} {v : Option V} (h : stp ret own ini i pc q0 ls st G = some (.inr (.inr v))) : (∃ x, i = .ireturn ∧ st = [.inl x] ∧ v = some (.inl x) ∧ (ret = some .int ∨ (ret = some .boolean ∧ (x = 0 ∨ x = 1)))) ∨ (∃ r C, i = .areturn ∧ st = [.inr (.inr r)] ∧ v = some (.inr (.inr r)) ∧ ret = some (.object C)) ∨ (i = .return_ ∧ st = [] ∧ v = none ∧ ret = none) := by
  cases i with
  | ireturn =>
    simp only [stp] at h
    split at h
    · cases h; exact Or.inl ⟨_, rfl, rfl, rfl, Or.inl rfl⟩
    · split at h
      · rename_i hc; cases h; exact Or.inl ⟨_, rfl, rfl, rfl, Or.inr ⟨rfl, hc⟩⟩
      · cases h
    · cases h
  | areturn =>
    simp only [stp] at h
    split at h
    · cases h; exact Or.inr (Or.inl ⟨_, _, rfl, rfl, rfl, rfl⟩)
    · cases h
  | return_ =>
    simp only [stp] at h
    split at h
    · cases h; exact Or.inr (Or.inr ⟨rfl, rfl, rfl, rfl⟩)
    · cases h
  | aload_n k | aload k | iload_n k | iload k | lload_n k | lload k =>
    obtain ⟨v, -, ho, -⟩ := ldv_spec h
    cases ho
  | istore_n k | istore k | astore_n k | astore k =>
    obtain ⟨v, st2, -, -, -, ho, -⟩ := stv_spec h
    cases ho
  | iadd | isub | imul | idiv | irem | iand | ior | ixor | ishl | ishr =>
    simp only [stp] at h
    obtain ⟨x, y, v, st2, -, -, ho⟩ := bi2_spec h
    cases ho
  | ladd | lmul | lrem | lcmp =>
    simp only [stp] at h
    obtain ⟨x, y, v, st2, -, -, ho⟩ := bl2_spec h
    cases ho
  | goto off =>
    obtain ⟨t, -, ho⟩ := gto_spec h
    cases ho
  | newarray ty =>
    cases ty with
    | int =>
      obtain ⟨n, st2, -, -, ho⟩ := newA_spec h
      cases ho
    | _ => simp [stp] at h
  | anewarray k =>
    simp only [stp] at h
    split at h
    · obtain ⟨n, st2, -, -, ho⟩ := newA_spec h
      cases ho
    · obtain ⟨n, st2, -, -, ho⟩ := newA_spec h
      cases ho
    · cases h
  | if_acmp cd off =>
    cases cd <;> (simp only [stp, gto, nxt] at h; repeat' split at h) <;> (cases h; done)
  | iinc _ _ | iconst _ | bipush _ | sipush _ | lconst _ | ldc _ | ldc_w _ | ldc2_w _ | aconst_null | i2l | l2i | dup | dup2 | pop | ifCond _ _ | if_icmp _ _ | ifnull _ | ifnonnull _ | tableswitch _ _ _ _ | lookupswitch _ _ | getfield _ | putfield _ | iaload | iastore | aaload | aastore | arraylength | new _ | invokevirtual _ | invokestatic _ | invokespecial _ =>
    simp only [stp, un1, pushI, getF, putF, iald, aald, iast, aast, alen, newO, invV, invS, invI, gto, nxt] at h
    (repeat' split at h) <;> (cases h; done)
  | _ => simp [stp] at h
theorem runR_szmono {C : Nat → List V → Hp → Option V → Hp → Prop} (hC : ∀ mid as G r G', C mid as G r G' → sz G ≤ sz G' ∧ sl G ≤ sl G') {ret : Option FieldType} {own : Nat} {ini : Bool} {cc : ByteArray} : ∀ (n pc : Nat) (ls : Ls) (st : List V) (G : Hp) (r : Option V) (G' : Hp), runR C ret own ini cc n pc ls st G r G' → sz G ≤ sz G' ∧ sl G ≤ sl G' := by
  intro n
  induction n with
  | zero => intro pc ls st G r G' h; exact h.elim
  | succ n ih =>
    intro pc ls st G r G' h
    simp only [runR] at h
    cases hd : decode cc pc with
    | error e => rw [hd] at h; exact h.elim
    | ok x =>
      obtain ⟨i, len⟩ := x
      rw [hd] at h
      dsimp only at h
      replace h := h.2
      cases hs : stp ret own ini i pc (pc + len) ls st G with
      | none => rw [hs] at h; exact h.elim
      | some o =>
        rw [hs] at h
        rcases o with ⟨q, ls', st', G1⟩ | ⟨mid, as, q, rest⟩ | v
        · have h1 := stp_mono hs
          have h2 := ih _ _ _ _ _ _ h
          omega
        · obtain ⟨r1, G1, h1, h2⟩ := h
          have h1 := hC _ _ _ _ _ h1
          have h2 := ih _ _ _ _ _ _ h2
          omega
        · obtain ⟨-, rfl⟩ := h
          exact ⟨Nat.le_refl _, Nat.le_refl _⟩
theorem Cal_szmono : ∀ (d mid : Nat) (as : List V) (G : Hp) (r : Option V) (G' : Hp), Cal d mid as G r G' → sz G ≤ sz G' ∧ sl G ≤ sl G' := by
  intro d
  induction d with
  | zero => intro mid as G r G' h; exact h.elim
  | succ d ih =>
    intro mid as G r G' h
    simp only [Cal] at h
    cases hm : mtab[mid]? with
    | none => rw [hm] at h; exact h.elim
    | some x =>
      obtain ⟨y, cc, nL, ret, own, kind, na⟩ := x
      rw [hm] at h
      obtain ⟨-, n, h1⟩ := h
      exact runR_szmono ih _ _ _ _ _ _ _ h1
/-- the room of a call d deep -/
def rmm (d mc ms : Nat) : Room := { frames := d, cells := mc, slots := ms, locals := 64 * d }
/-- words that are no good words, carried by the world -/
def nests (U : State) : Prop := (∀ e ∈ ltab, e.2.2.2.1 = 1 → va_Nw (.methodLinkNest (cn e.1) e.2.1 (myn e.2.2.1) "TakenUpCalls") U) ∧ va_AO RX1 U ∧ va_AO RX7 U
def Pw (E : Ev) (L : Nat) (xs : Nat → Int32) (G : Hp) (U : State) : Prop := rep E G U.heap ∧ va_K (Dv E) vwCl (tysv E) U ∧ (va_X E.1.2 L xs U U.heap ∧ E.1.2 < E.1.1) ∧ nests U
def QA (E : Ev) (L : Nat) (xs : Nat → Int32) (r : Option V) (G' : Hp) : Array Value → State → Outcome → State → Prop := match r with
  | none => va_Qv (fun _ : Unit => True) (fun _ t => rep E G' t.heap ∧ gwf L xs G') (Av E)
  | some (.inl x) => va_Qi (fun z (_ : Unit) => z = Int32.ofInt x ∧ i32 x) (fun _ t => rep E G' t.heap ∧ gwf L xs G') (Av E)
  | some (.inr (.inr o)) => va_Qq (fun z (_ : Unit) => z = o.map (adr E)) (fun _ t => rep E G' t.heap ∧ gwf L xs G') (Av E)
  | some (.inr (.inl _)) => fun _ _ _ _ => False
abbrev wsM (y : MethodName) (cc : ByteArray) (nL : Nat) (ret : Option FieldType) : List Cond := Cond.code y cc nL ret :: gtbl
def MetA (l : Launch) (E : Ev) (L : Nat) (xs : Nat → Int32) (d mid : Nat) (as : List V) (G : Hp) (r : Option V) (G' : Hp) : Prop := ∀ (y : MethodName) (cc : ByteArray) (nL : Nat) (ret : Option FieldType) (own kind na : Nat), mtab[mid]? = some (y, cc, nL, ret, own, kind, na) → own ≠ 11 → Met l y (wsM y cc nL ret) (rmm d (sz G' - sz G) (sl G' - sl G)) (va_Pc (as.map (vv E)) (Pw E L xs G)) (QA E L xs r G') (sz G' - sz G) (sl G' - sl G) (Av E)
theorem Pw_blind (E : Ev) (L : Nat) (xs : Nat → Int32) (G : Hp) (av : List Value) : FrameBlind (va_Pc av (Pw E L xs G)) := by
  intro a U g mk h
  obtain ⟨h0, h1, h2, ⟨h3, h3'⟩, h4, h5, h6⟩ := h
  have al := Vm.Alike.refl U.vm
  exact ⟨h0, h1, va_K.moved (u := U) (U := U.calling g mk a) al h2, ⟨va_X.moved (u := U) (U := U.calling g mk a) al h3, h3'⟩, fun e he hz => va_Nw.same rfl (u := U) (U := U.calling g mk a) rfl (h4 e he hz), va_AO.moved (u := U) (U := U.calling g mk a) al h5, va_AO.moved (u := U) (U := U.calling g mk a) al h6⟩
theorem wsM_good {y : MethodName} {cc : ByteArray} {nL : Nat} {ret : Option FieldType} (h : Cond.code y cc nL ret ∈ gtbl) : GoodIn gtbl (wsM y cc nL ret) := by
  intro w hw
  have hm : w ∈ gtbl := by
    rcases List.mem_cons.mp hw with rfl | hw
    · exact h
    · exact hw
  exact ⟨hm, good_of_word (List.mem_filter.mp hm).2⟩
theorem Met.ofWF {l : Launch} {y : MethodName} {ws ws' : List Cond} {rm : Room} {Pc : Array Value → State → Prop} {Qc : Array Value → State → Outcome → State → Prop} {mc ms : Nat} {free : Addr → Prop} {cc : ByteArray} {maxL : Nat} {ret : Option FieldType}
    (hy : plainFor y = true) (hw : ws = Cond.code y cc maxL ret :: ws')
    (body : ∀ p e s m args below meth c s₁, BodyLoose p l y (headSpec ws rm) cc maxL ret e s m args below meth c s₁ → c.maxLocals = maxL → Pc args s →
      W p l e (headSpec ws rm).room s m args below meth c s.heap [] 0 0 (MQ below Qc args s mc ms free) (entryFrame m args maxL)) : Met l y ws rm Pc Qc mc ms free := by
  refine MetFree.of_bodySF (code := cc) (maxLocals := maxL) (ret := ret) hy ?_ ?_
  · intro args s m h hn
    obtain ⟨meth, c, h1, h2, h3, h4, h5, h6, -, -⟩ := Cond.code_spec hn (atoms_spec (ws := ws) h _ (by rw [hw]; exact List.mem_cons_self))
    exact ⟨meth, c, h1, h2, h3, h4, h5, h6⟩
  · intro p e s m args below meth c s₁ B hml hP _
    have hh0 : s₁.heap = s.heap := by rw [B.state]; rfl
    obtain ⟨t, a1, o, b1, b2, b3⟩ := body p e s m args below meth c s₁ B hml hP s₁ hh0 (Stand.of_body B)
    exact ⟨t, o, a1, b1, b2, ⟨b3.1, b3.2⟩⟩
theorem own_kinds : ∀ q ∈ mtab, q.2.2.2.2.2.1 = 0 → q.2.2.2.2.1 < 11 := by decide +kernel
theorem own_lt {mid nL own kind na : Nat} {y : MethodName} {cc : ByteArray} {ret : Option FieldType} (h : mtab[mid]? = some (y, cc, nL, ret, own, kind, na)) (hk : kind = 0) : own < 11 := own_kinds _ (List.mem_of_getElem? h) hk
theorem law_links : ∀ e ∈ ltab, e.2.2.1 ≠ 166 := by decide +kernel
theorem law_only : ∀ (mid : Nat) (q : MethodName × ByteArray × Nat × Option FieldType × Nat × Nat × Nat), mtab[mid]? = some q → q.2.2.2.2.1 = 11 → mid = 166 := by
  have h : ∀ mid, mid < 167 → ((mtab[mid]?).map (fun q => q.2.2.2.2.1)) = some 11 → mid = 166 := by decide +kernel
  intro mid q hq h11
  have hl := (List.getElem?_eq_some_iff.mp hq).1
  rw [mtab_len2] at hl
  exact h mid hl (by rw [hq]; exact congrArg some h11)
theorem call_link {ret : Option FieldType} {own : Nat} {ini : Bool} {i : Instr} {pc q0 q mid : Nat} {ls : Ls} {st as rest : List V} {G : Hp} (h : stp ret own ini i pc q0 ls st G = some (.inr (.inl (mid, as, q, rest)))) : ∃ k z, lres own k = some (mid, z) := by
  have hs0 := h
  clear h
  rcases stp_call hs0 with ⟨k, rfl, h⟩ | ⟨k, rfl, h⟩ | ⟨k, rfl, h⟩
  · unfold invV at h
    split at h
    · rename_i hl
      split at h
      · split at h
        · split at h
          · cases h; exact ⟨k, _, hl⟩
          · cases h
        · cases h
      · cases h
    · cases h
  · unfold invS at h
    split at h
    · split at h
      · split at h <;> cases h
      · cases h
    · rename_i hl
      split at h
      · split at h
        · cases h; exact ⟨k, _, hl⟩
        · cases h
      · cases h
    · cases h
  · unfold invI at h
    split at h
    · split at h
      · split at h <;> cases h
      · cases h
    · rename_i hl
      split at h
      · split at h
        · split at h
          · cases h; exact ⟨k, _, hl⟩
          · cases h
        · cases h
      · cases h
    · cases h
theorem call_law {ret : Option FieldType} {own : Nat} {ini : Bool} {i : Instr} {pc q0 q mid : Nat} {ls : Ls} {st as rest : List V} {G : Hp} (h : stp ret own ini i pc q0 ls st G = some (.inr (.inl (mid, as, q, rest)))) {y : MethodName} {cc' : ByteArray} {nL' : Nat} {ret' : Option FieldType} {own' kind na : Nat} (hm : mtab[mid]? = some (y, cc', nL', ret', own', kind, na)) (h11 : own' = 11) : False := by
  obtain ⟨k, z, hl⟩ := call_link h
  obtain ⟨-, p0, hp0⟩ := g_link hl
  exact law_links _ hp0 (law_only mid _ hm h11)
theorem call_args {ret : Option FieldType} {own : Nat} {ini : Bool} {i : Instr} {pc q0 q mid : Nat} {ls : Ls} {st as rest : List V} {G : Hp} (h : stp ret own ini i pc q0 ls st G = some (.inr (.inl (mid, as, q, rest)))) (hv : ∀ v ∈ st, vok v) : ∀ v ∈ as, vok v := by
  have tk : ∀ (n : Nat), ∀ v ∈ (st.take n).reverse, vok v := fun n v h => hv v (List.mem_of_mem_take (List.mem_reverse.mp h))
  have cn : ∀ (a : Nat) (n : Nat), ∀ v ∈ (Sum.inr (Sum.inr (some a)) : V) :: (st.take n).reverse, vok v := by
    intro a n v h
    rcases List.mem_cons.mp h with rfl | h
    · exact trivial
    · exact tk n v h
  have hs0 := h
  clear h
  rcases stp_call hs0 with ⟨k, rfl, h⟩ | ⟨k, rfl, h⟩ | ⟨k, rfl, h⟩
  · unfold invV at h
    split at h
    · split at h
      · split at h
        · split at h
          · cases h; exact cn _ _
          · cases h
        · cases h
      · cases h
    · cases h
  · unfold invS at h
    split at h
    · split at h
      · split at h <;> cases h
      · cases h
    · split at h
      · split at h
        · cases h; exact tk _
        · cases h
      · cases h
    · cases h
  · unfold invI at h
    split at h
    · split at h
      · split at h <;> cases h
      · cases h
    · split at h
      · split at h
        · split at h
          · cases h; exact cn _ _
          · cases h
        · cases h
      · cases h
    · cases h
theorem sl1_len (E : Ev) : ∀ as : List V, (as.flatMap sl1).length = (lg_sl (as.map (vv E))).length := by
  intro as
  induction as with
  | nil => rfl
  | cons v t ih =>
    rcases v with x | x | r
    · simp only [List.flatMap_cons, List.length_append, List.map_cons, lg_sl, ih, sl1]; rfl
    · simp only [List.flatMap_cons, List.length_append, List.map_cons, lg_sl, ih, sl1]; rfl
    · cases r <;> (simp only [List.flatMap_cons, List.length_append, List.map_cons, lg_sl, ih, sl1]; rfl)
end
section
/-! SOUNDNESS, fifth part: a call of the abstract machine is a call of the machine -/
section CS
variable {p : Program} {l : Launch} {e : Env} {R : Room} {s : State} {m : MethodId} {args : Array Value} {below : List Frame} {meth : Method} {c : Code} {H : Heap} {locs : List Loc} {cells slots : Nat} {Q : State → Prop}
variable {E : Ev} {L : Nat} {xs : Nat → Int32} {cc : ByteArray} {own nL : Nat} {ini : Bool} {pc : Nat} {arr : Array Slot} {G G1 : Hp} {d : Nat}
/-- behind a call, by what it answers -/
theorem snd_after {r1 : Option V} {rest : List V} {av : Array Value} {mc ms : Nat} {st0 : List Value} (hS : va_S (Av E) s.heap H locs)
    (hr : va_Run p l e R s m args below meth c H locs cells slots mc ms (F0 m pc arr st0) (rest.map (vv E)) (QA E L xs r1 G1 av) (Av E))
    (kk : gwf L xs G1 → (∀ v ∈ r1.toList, vok v) → ∀ H' locs', rep E G1 H' → va_S (Av E) s.heap H' locs' → W p l e R s m args below meth c H' locs' (cells + mc) (slots + ms) Q (F0 m (pc + 3) arr ((r1.toList ++ rest).map (vv E)))) : W p l e R s m args below meth c H locs cells slots Q (F0 m pc arr st0) := by
  rcases r1 with _ | x | x | o
  · refine va_callv (a := av) hr hS (fun _ _ h => h) (fun _ h => h) (fun u t H1 locs1 ht hvm hw hB hz1 hk1 hS1 => ?_)
    rw [ht] at hB
    exact kk hB.2 (fun v h => by cases h) H1 locs1 hB.1 hS1
  · refine va_calli (a := av) hr hS (fun _ _ h => h) (fun _ h => h) (fun z u t H1 locs1 ht hvm hw hB hz1 hk1 hS1 => ?_)
    rw [ht] at hB
    rw [hw.1]
    exact kk hB.2 (fun v h => by rw [List.mem_singleton.mp h]; exact hw.2) H1 locs1 hB.1 hS1
  · intro T hT X
    obtain ⟨v, st₀, t, T', L', h0, X', hL, e1, e2, hq, st⟩ := hr T hT X
    exact hq.elim
  · refine va_callq (a := av) hr hS (fun _ _ h => h) (fun _ h => h) (fun z u t H1 locs1 ht hvm hw hB hz1 hk1 hS1 => ?_)
    rw [ht] at hB
    rw [hw]
    exact kk hB.2 (fun v h => by rw [List.mem_singleton.mp h]; exact trivial) H1 locs1 hB.1 hS1
theorem pre_warm (hx : Ctx E L xs p s m args meth c cc own nL ini) (hr : rep E G H) (hS : va_S (Av E) s.heap H locs) (av : List Value) : ∀ U : State, U.heap = H → s.WarmedH U.vm → va_Pc av (Pw E L xs G) av.toArray U := by
  obtain ⟨-, -, -, -, -, hK, ⟨hX, hb, hB⟩, ⟨hN, hA1, hA7⟩, -⟩ := hx
  intro U hU hW
  refine ⟨rfl, by rw [hU]; exact hr, va_K.moved hW.alike hK, ⟨va_X.moved hW.alike (by rw [hU]; exact hX.kept (hS.2.1 _ (by omega) (by unfold Av; omega))), hb⟩, fun q hq hz => va_Nw.warmM hW (hN q hq hz), va_AO.moved hW.alike hA1, va_AO.moved hW.alike hA7⟩
theorem snd_call (hx : Ctx E L xs p s m args meth c cc own nL ini) (hRf : d + 1 ≤ R.frames) (hRl : 64 * (d + 1) ≤ R.locals) {i : Instr} {len : Nat} {ret : Option FieldType} (hd : decode cc pc = .ok (i, len)) (hlen : lenOk i len = true) {ls : Ls} {st as rest : List V} {q mid : Nat} (hs : stp ret own ini i pc (pc + len) ls st G = some (.inr (.inl (mid, as, q, rest))))
    (hg : gwf L xs G) (hv : ∀ v ∈ st, vok v) (ha : lsOk E arr nL ls) (hr : rep E G H) (hS : va_S (Av E) s.heap H locs) {r1 : Option V} (hM : MetA l E L xs d mid as G r1 G1) (hnl : ∀ (y : MethodName) (cc' : ByteArray) (nL' : Nat) (ret' : Option FieldType) (own' kind na : Nat), mtab[mid]? = some (y, cc', nL', ret', own', kind, na) → own' ≠ 11) (hc1 : cells + (sz G1 - sz G) ≤ R.cells) (hc2 : slots + (sl G1 - sl G) ≤ R.slots)
    (kk : gwf L xs G1 → (∀ v ∈ r1.toList ++ rest, vok v) → ∀ H' locs', rep E G1 H' → va_S (Av E) s.heap H' locs' → W p l e R s m args below meth c H' locs' (cells + (sz G1 - sz G)) (slots + (sl G1 - sl G)) Q (F0 m q arr ((r1.toList ++ rest).map (vv E)))) : W p l e R s m args below meth c H locs cells slots Q (F0 m pc arr (st.map (vv E))) := by
  have hx' := hx
  obtain ⟨hexec, hb, hml, hown, hts, hK, -, ⟨hN, -⟩, -⟩ := hx'
  have S : CallFix p m c cc nL s args gtbl (cn own) := ⟨hexec, hb, hml, hown, hts⟩
  have app : (∀ v ∈ r1.toList, vok v) → (∀ v ∈ rest, vok v) → ∀ v ∈ r1.toList ++ rest, vok v := by
    intro h1 h2 v hv
    rcases List.mem_append.mp hv with h | h
    · exact h1 v h
    · exact h2 v h
  have drp : ∀ {n : Nat} {t : List V}, st.drop n = t → ∀ v ∈ t, vok v := by
    intro n t h v hv2
    exact hv v (List.mem_of_mem_drop (by rw [h]; exact hv2))
  have hroom : ∀ {nL' : Nat}, nL' ≤ 16 → (rmm d (sz G1 - sz G) (sl G1 - sl G)).frames + 1 ≤ R.frames ∧ 8 + (nL' + 11) + (rmm d (sz G1 - sz G) (sl G1 - sl G)).locals ≤ R.locals := by
    intro nL' h
    show d + 1 ≤ R.frames ∧ 8 + (nL' + 11) + 64 * d ≤ R.locals
    omega
  have split : ∀ (n : Nat), (st.map (vv E)) = (((st.take n).reverse).map (vv E)).reverse ++ (st.drop n).map (vv E) := by
    intro n
    rw [← List.map_reverse, List.reverse_reverse, ← List.map_append, List.take_append_drop]
  rcases stp_call hs with ⟨k, rfl, h⟩ | ⟨k, rfl, h⟩ | ⟨k, rfl, h⟩
  · obtain rfl : len = 3 := by simpa [lenOk] using hlen
    unfold invV at h
    split at h
    · rename_i mid0 hl
      split at h
      · rename_i y cc' nL' ret' own' na hm
        split at h
        · rename_i a rest0 hdr
          split at h
          · rename_i hc
            cases h
            have hn11 := hnl _ _ _ _ _ _ _ hm
            obtain ⟨m1, m2, m3, m4, m5, m6, m7, m8, m9, m10, m11⟩ := (m_ok hm).resolve_left hn11
            have hMet := hM _ _ _ _ _ _ _ hm hn11
            have hlink := (g_link hl).1
            rw [if_neg (by decide), myn_of hm] at hlink
            have hlen2 : na ≤ st.length := by
              rcases Nat.lt_or_ge st.length na with h | h
              · rw [List.drop_eq_nil_of_le (by omega)] at hdr; cases hdr
              · exact h
            have hc11 : own' < 11 := own_lt hm rfl
            obtain ⟨g1, g2⟩ := gwf_lt hg hc.1 (by omega)
            have hP := rep_at hr g1 g2
            rw [ent_obj hc.1 hc11] at hP
            have hrecv := va_recv hK hP (cl_at hc11) (q0 := 0) rfl
            have run := va_runV (l := l) (e := e) (below := below) (meth := meth) (H := H) (locs := locs) (cells := cells) (slots := slots) (b := adr E a) (As := ((st.take na).reverse).map (vv E)) (rest := rest.map (vv E)) (g := F0 m pc arr (st.map (vv E))) S hMet ⟨callB_of na hts (wsM_good m1) rfl rfl rfl (hts _ m4) (hts _ (in_g hlink rfl)) ⟨m7, m8, m9⟩ (hroom m10), by rw [if_neg (by decide)] at m2; exact hts _ m2, hts _ (m3 rfl)⟩
              ⟨Pw_blind E L xs G _, by rw [m5]; exact hrecv, pre_warm hx hr hS _⟩ rfl (by simp; omega) ha.1.1 (by show st.map (vv E) = _; rw [split na, hdr]; rfl) (lv_room (by rw [cats_map]; exact hc.2)) hd ⟨hc1, hc2⟩
            exact snd_after hS run (fun h1 h2 => kk h1 (app h2 (fun v hv2 => drp hdr v (List.mem_cons_of_mem _ hv2))))
          · cases h
        · cases h
      · cases h
    · cases h
  · obtain rfl : len = 3 := by simpa [lenOk] using hlen
    unfold invS at h
    split at h
    · split at h
      · split at h <;> cases h
      · cases h
    · rename_i mid0 z _ hl
      split at h
      · rename_i y cc' nL' ret' own' na hm
        split at h
        · rename_i hc
          cases h
          have hn11 := hnl _ _ _ _ _ _ _ hm
          obtain ⟨m1, m2, m3, m4, m5, m6, m7, m8, m9, m10, m11⟩ := (m_ok hm).resolve_left hn11
          have hMet := hM _ _ _ _ _ _ _ hm hn11
          obtain ⟨hlink, p0, hp0⟩ := g_link hl
          rw [myn_of hm] at hlink
          rw [if_pos rfl] at m2
          by_cases hz : z = 1
          · have hnw := hN _ hp0 hz
            have run := va_runSN (l := l) (e := e) (below := below) (meth := meth) (H := H) (locs := locs) (cells := cells) (slots := slots) (As := ((st.take na).reverse).map (vv E)) (rest := (st.drop na).map (vv E)) (g := F0 m pc arr (st.map (vv E))) S hMet ⟨va_cnB (host := "TakenUpCalls") na hts (wsM_good m1) rfl rfl rfl (by have := hnw; dsimp only at this; rw [myn_of hm] at this; exact this) (hts _ m4) ⟨m7, m8, m9⟩ (hroom m10), hts _ m2, trivial⟩
              ⟨Pw_blind E L xs G _, pre_warm hx hr hS _⟩ rfl (by simp; omega) ha.1.1 (split na) (lv_room (by rw [cats_map]; exact hc.2)) hd ⟨hc1, hc2⟩
            exact snd_after hS run (fun h1 h2 => kk h1 (app h2 (drp rfl)))
          · rw [if_neg hz] at hlink
            have run := va_runS (l := l) (e := e) (below := below) (meth := meth) (H := H) (locs := locs) (cells := cells) (slots := slots) (As := ((st.take na).reverse).map (vv E)) (rest := (st.drop na).map (vv E)) (g := F0 m pc arr (st.map (vv E))) S hMet ⟨callB_of na hts (wsM_good m1) rfl rfl rfl (hts _ m4) (hts _ (in_g hlink rfl)) ⟨m7, m8, m9⟩ (hroom m10), hts _ m2⟩
              ⟨Pw_blind E L xs G _, pre_warm hx hr hS _⟩ rfl (by simp; omega) ha.1.1 (split na) (lv_room (by rw [cats_map]; exact hc.2)) hd ⟨hc1, hc2⟩
            exact snd_after hS run (fun h1 h2 => kk h1 (app h2 (drp rfl)))
        · cases h
      · cases h
    · cases h
  · obtain rfl : len = 3 := by simpa [lenOk] using hlen
    unfold invI at h
    split at h
    · split at h
      · split at h <;> cases h
      · cases h
    · rename_i mid0 z _ hl
      split at h
      · rename_i y cc' nL' ret' own' na hm
        split at h
        · rename_i a rest0 hdr
          split at h
          · rename_i hc
            cases h
            have hn11 := hnl _ _ _ _ _ _ _ hm
            obtain ⟨m1, m2, m3, m4, m5, m6, m7, m8, m9, m10, m11⟩ := (m_ok hm).resolve_left hn11
            have hMet := hM _ _ _ _ _ _ _ hm hn11
            obtain ⟨hin, hret⟩ := m11 rfl
            subst hret
            obtain ⟨hlink, p0, hp0⟩ := g_link hl
            rw [myn_of hm] at hlink
            rw [if_neg (by decide)] at m2
            have hlen2 : na ≤ st.length := by
              rcases Nat.lt_or_ge st.length na with h | h
              · rw [List.drop_eq_nil_of_le (by omega)] at hdr; cases hdr
              · exact h
            by_cases hz : z = 1
            · have hnw := hN _ hp0 hz
              have run := va_runIN (l := l) (e := e) (below := below) (meth := meth) (H := H) (locs := locs) (cells := cells) (slots := slots) (b := adr E a) (As := ((st.take na).reverse).map (vv E)) (rest := rest.map (vv E)) (g := F0 m pc arr (st.map (vv E))) S hMet ⟨va_cnB (host := "TakenUpCalls") na hts (wsM_good m1) rfl rfl rfl (by have := hnw; dsimp only at this; rw [myn_of hm] at this; exact this) (hts _ m4) ⟨m7, m8, m9⟩ (hroom m10), hin, hts _ m2⟩
                ⟨Pw_blind E L xs G _, pre_warm hx hr hS _⟩ rfl (by simp; omega) ha.1.1 (by show st.map (vv E) = _; rw [split na, hdr]; rfl) (lv_room (by rw [cats_map]; exact hc)) hd ⟨hc1, hc2⟩
              exact snd_after hS run (fun h1 h2 => kk h1 (app h2 (fun v hv2 => drp hdr v (List.mem_cons_of_mem _ hv2))))
            · rw [if_neg hz] at hlink
              have run := va_runI (l := l) (e := e) (below := below) (meth := meth) (H := H) (locs := locs) (cells := cells) (slots := slots) (b := adr E a) (As := ((st.take na).reverse).map (vv E)) (rest := rest.map (vv E)) (g := F0 m pc arr (st.map (vv E))) S hMet ⟨callB_of na hts (wsM_good m1) rfl rfl rfl (hts _ m4) (hts _ (in_g hlink rfl)) ⟨m7, m8, m9⟩ (hroom m10), hin, hts _ m2⟩
                ⟨Pw_blind E L xs G _, pre_warm hx hr hS _⟩ rfl (by simp; omega) ha.1.1 (by show st.map (vv E) = _; rw [split na, hdr]; rfl) (lv_room (by rw [cats_map]; exact hc)) hd ⟨hc1, hc2⟩
              exact snd_after hS run (fun h1 h2 => kk h1 (app h2 (fun v hv2 => drp hdr v (List.mem_cons_of_mem _ hv2))))
          · cases h
        · cases h
      · cases h
    · cases h
end CS
end
section
/-! SOUNDNESS, sixth part: a run of the abstract machine is a run of the machine; methods; the law -/
section RS
variable {p : Program} {l : Launch} {e : Env} {R : Room} {s : State} {m : MethodId} {args : Array Value} {below : List Frame} {meth : Method} {c : Code} {Q : State → Prop}
variable {E : Ev} {L : Nat} {xs : Nat → Int32} {cc : ByteArray} {own nL : Nat} {ini : Bool} {d : Nat} {ret : Option FieldType}
theorem snd_run (hx : Ctx E L xs p s m args meth c cc own nL ini) (hC : ∀ mid as G r G', Cal d mid as G r G' → gwf L xs G → (∀ v ∈ as, vok v) → MetA l E L xs d mid as G r G') (hRf : d + 1 ≤ R.frames) (hRl : 64 * (d + 1) ≤ R.locals) {rF : Option V} {GF : Hp} {k0 n0 : Nat} (hRc : sz GF - k0 ≤ R.cells) (hRs : sl GF - n0 ≤ R.slots)
    (hI : ∀ (x : Int) (pc : Nat) (arr : Array Slot) (H : Heap) (locs : List Loc), rF = some (.inl x) → i32 x → decode cc pc = .ok (.ireturn, 1) → (ret = some .int ∨ (ret = some .boolean ∧ (x = 0 ∨ x = 1))) → gwf L xs GF → rep E GF H → va_S (Av E) s.heap H locs → W p l e R s m args below meth c H locs (sz GF - k0) (sl GF - n0) Q (F0 m pc arr [.int (Int32.ofInt x)]))
    (hA : ∀ (r : Option Nat) (C : String) (pc : Nat) (arr : Array Slot) (H : Heap) (locs : List Loc), rF = some (.inr (.inr r)) → decode cc pc = .ok (.areturn, 1) → ret = some (.object C) → gwf L xs GF → rep E GF H → va_S (Av E) s.heap H locs → W p l e R s m args below meth c H locs (sz GF - k0) (sl GF - n0) Q (F0 m pc arr [va_rf (r.map (adr E))]))
    (hV : ∀ (pc : Nat) (arr : Array Slot) (H : Heap) (locs : List Loc), rF = none → decode cc pc = .ok (.return_, 1) → ret = none → gwf L xs GF → rep E GF H → va_S (Av E) s.heap H locs → W p l e R s m args below meth c H locs (sz GF - k0) (sl GF - n0) Q (F0 m pc arr [])) :
    ∀ (n pc : Nat) (ls : Ls) (st : List V) (G : Hp), runR (Cal d) ret own ini cc n pc ls st G rF GF → gwf L xs G → (∀ v ∈ st, vok v) → (∀ (k : Nat) (v : V), ls[k]? = some (some v) → vok v) → k0 ≤ sz G → n0 ≤ sl G → ∀ (arr : Array Slot) (H : Heap) (locs : List Loc), lsOk E arr nL ls → rep E G H → va_S (Av E) s.heap H locs → W p l e R s m args below meth c H locs (sz G - k0) (sl G - n0) Q (F0 m pc arr (st.map (vv E))) := by
  intro n
  induction n with
  | zero => intro pc ls st G h; exact h.elim
  | succ n ih =>
    intro pc ls st G h hg hv hl hk hn arr H locs ha hr hS
    simp only [runR] at h
    cases hd : decode cc pc with
    | error e => rw [hd] at h; exact h.elim
    | ok x =>
      obtain ⟨i, len⟩ := x
      rw [hd] at h
      dsimp only at h
      obtain ⟨hlen, h⟩ := h
      cases hs : stp ret own ini i pc (pc + len) ls st G with
      | none => rw [hs] at h; exact h.elim
      | some o =>
        rw [hs] at h
        rcases o with ⟨q, ls', st', G1⟩ | ⟨mid, as, q, rest⟩ | v
        · have h1 := stp_mono hs
          have h2 := runR_szmono (Cal_szmono d) _ _ _ _ _ _ _ h
          refine snd_step hx hd hlen hs hg hv hl ha hr hS (by omega) (by omega) (by omega) (by omega) ?_
          intro g1 g2 g3 g4 g5 arr' H' locs' g6 g7 g8
          have := ih q ls' st' G1 h g1 g2 g3 (by omega) (by omega) arr' H' locs' g6 g7 g8
          rw [show sz G - k0 + (sz G1 - sz G) = sz G1 - k0 from by omega, show sl G - n0 + (sl G1 - sl G) = sl G1 - n0 from by omega]
          exact this
        · obtain ⟨r1, G1, h1, h2⟩ := h
          have m1 := Cal_szmono _ _ _ _ _ _ h1
          have m2 := runR_szmono (Cal_szmono d) _ _ _ _ _ _ _ h2
          have has : ∀ v ∈ as, vok v := call_args hs hv
          refine snd_call hx hRf hRl hd hlen hs hg hv ha hr hS (hC _ _ _ _ _ h1 hg has) ?_ (by omega) (by omega) ?_
          · intro y cc' nL' ret' own' kind na hm h11
            exact call_law hs hm h11
          · intro g1 g2 H' locs' g7 g8
            have := ih q ls (r1.toList ++ rest) G1 h2 g1 g2 hl (by omega) (by omega) arr H' locs' ha g7 g8
            rw [show sz G - k0 + (sz G1 - sz G) = sz G1 - k0 from by omega, show sl G - n0 + (sl G1 - sl G) = sl G1 - n0 from by omega]
            exact this
        · obtain ⟨rfl, rfl⟩ := h
          rcases stp_ret hs with ⟨x, rfl, rfl, hv1, hrt⟩ | ⟨r, C, rfl, rfl, hv1, hrt⟩ | ⟨rfl, rfl, hv1, hrt⟩
          · obtain rfl : len = 1 := by simpa [lenOk] using hlen
            exact hI x pc arr H locs hv1 (hv _ List.mem_cons_self) hd hrt hg hr hS
          · obtain rfl : len = 1 := by simpa [lenOk] using hlen
            exact hA r C pc arr H locs hv1 hd hrt hg hr hS
          · obtain rfl : len = 1 := by simpa [lenOk] using hlen
            exact hV pc arr H locs hv1 hd hrt hg hr hS
end RS
theorem snd_met (l : Launch) (E : Ev) (L : Nat) (xs : Nat → Int32) : ∀ (d mid : Nat) (as : List V) (G : Hp) (r : Option V) (G' : Hp), Cal d mid as G r G' → gwf L xs G → (∀ v ∈ as, vok v) → MetA l E L xs d mid as G r G' := by
  intro d
  induction d with
  | zero => intro mid as G r G' h; exact h.elim
  | succ d ih =>
    intro mid as G r G' h hg has y cc nL ret own kind na hm h11
    simp only [Cal, hm] at h
    obtain ⟨hal, n, hrun⟩ := h
    obtain ⟨m1, m2, m3, m4, m5, m6, m7, m8, m9, m10, m11⟩ := (m_ok hm).resolve_left h11
    refine Met.ofWF (cc := cc) (maxL := nL) (ret := ret) m6 rfl ?_
    intro p e s m args below meth c s₁ B hml hv
    obtain ⟨rfl, hr, hK, ⟨hX, hb⟩, hN⟩ := hv
    have hts0 := atoms_spec (ws := wsM y cc nL ret) B.pre
    have hts : ∀ w ∈ gtbl, w.before (as.map (vv E)).toArray s = true := fun w hw => hts0 w (List.mem_cons_of_mem _ hw)
    have hown : s.vm.findClass (cn own) = some m.cls := by rw [← m5]; exact findClass_of_methodNamed B.named
    have hlocks := B.notSynchronized
    have hB : E.1.1 ≤ s.heap.size := by rw [hr.1]; exact Nat.le_add_right _ _
    have hini : (kind == 2) = true → meth.name = "<init>" := by
      intro hk
      have hk : kind = 2 := by simpa using hk
      rw [(name_of_methodNamed B.named B.method).1]
      exact (m11 hk).1
    have hx : Ctx E L xs p s m (as.map (vv E)).toArray meth c cc own nL (kind == 2) := ⟨B.exec, B.bytes, hml, hown, hts, hK, ⟨hX, hb, hB⟩, hN, hini⟩
    have hmono := runR_szmono (Cal_szmono d) _ _ _ _ _ _ _ hrun
    rw [lg_entry_eq]
    have hS : va_S (Av E) s.heap s.heap [] := va_S.rf
    have hlen : (lg_sl (as.map (vv E))).length ≤ nL := by rw [← sl1_len]; exact hal
    have W0 := snd_run (l := l) (e := e) (below := below) (R := (headSpec (wsM y cc nL ret) (rmm (d + 1) (sz G' - sz G) (sl G' - sl G))).room) (Q := MQ below (QA E L xs r G') (as.map (vv E)).toArray s (sz G' - sz G) (sl G' - sl G) (Av E)) hx ih (Nat.le_refl _) (Nat.le_refl _) (rF := r) (GF := G') (k0 := sz G) (n0 := sl G) (Nat.le_refl _) (Nat.le_refl _)
      (by
        intro x pc arr H locs hrx hix hd hrt hg' hr' hS'
        subst hrx
        rcases hrt with hrt | ⟨hrt, hx01⟩
        · exact W.iret B.exec B.bytes (by rw [B.returns]; exact hrt) (fun t ht hW => ⟨⟨Int32.ofInt x, (), rfl, ⟨rfl, hix⟩, by rw [ht]; exact hr', hg'⟩, hS'.F ht⟩) hS'.2.2 hd
        · exact W.zret (ty := .boolean) B.exec B.bytes (by rw [B.returns]; exact hrt) (by rcases hx01 with rfl | rfl <;> decide) (fun t ht hW => ⟨⟨Int32.ofInt x, (), rfl, ⟨rfl, hix⟩, by rw [ht]; exact hr', hg'⟩, hS'.F ht⟩) hS'.2.2 hd)
      (by
        intro o C pc arr H locs hrx hd hrt hg' hr' hS'
        subst hrx
        exact W.aret (rt := .object C) B.exec B.bytes (by rw [B.returns]; exact hrt) (Or.inl ⟨_, rfl⟩) (by cases o with
          | none => exact Or.inl rfl
          | some a => exact Or.inr ⟨_, rfl⟩) (fun t ht hW => ⟨⟨o.map (adr E), (), rfl, rfl, by rw [ht]; exact hr', hg'⟩, hS'.F ht⟩) hS'.2.2 hd)
      (by
        intro pc arr H locs hrx hd hrt hg' hr' hS'
        subst hrx
        exact W.vret B.exec B.bytes (by rw [B.returns]; exact hrt) (fun t ht hW => ⟨⟨(), rfl, trivial, by rw [ht]; exact hr', hg'⟩, hS'.F ht⟩) hS'.2.2 hd)
      n 0 (entr as nL) [] G hrun hg (fun v h => by cases h) (vok_entr has) (Nat.le_refl _) (Nat.le_refl _) _ s.heap [] (lsOk_entr hlen) hr hS
    rw [Nat.sub_self, Nat.sub_self] at W0
    exact W0
end
section
/-! THE CLAIM OUT OF ONE WALK OF THE LAW'S BODY. Your part is whole_start (and what it stands on); all else here is the same for every law, but numbers. -/
def R_law : String := "TakenUpCallsLaw"
def lw_P (b : Addr) (xs : List Int32) (args : Array Value) (s : State) : Prop := args = #[.ref b] ∧ s.IntsAt b xs ∧ xs.length ≤ 2048 ∧ (Jvm.Cond.and given_1 narrow_1).before args s = true
def lw_Q (_ : Array Value) (s : State) (o : Outcome) (t : State) : Prop := o = .returned (some (.int 1)) ∧ Framed s o t [] 600000 7302250
def lw_Z (below : List Frame) (a : Array Value) (s : State) : State → Prop := fun t => ∃ o, t.status = .running ∧ Ended t below o ∧ lw_Q a s o t
/-- the law's own end, with 1 on the stack, nothing written that was there before, its room as the claim has it -/
theorem lw_ret {p : Program} {l : Launch} {e : Env} {s : State} {m : MethodId} {below : List Frame} {meth : Method} {c : Code} {b : Nat} (hx : p.tables.exec = Jvm.exec) (hb : c.code = code) (hr : meth.sig.returnType = ret) (hlocks : meth.locks = false) {pc : Nat} {H : Heap} {ls : Array Slot} (hdg : decode code pc = .ok (.ireturn, 1)) : W p l e room_1 s m #[Value.ref b] below meth c H [] 600000 7302250 (lw_Z below #[Value.ref b] s) (F0 m pc ls [.int 1]) := by
  intro T hT X
  obtain ⟨fs, hret, hrun, hended, hW, hframe⟩ := X.leave (v := some (.int 1)) (hlocks := hlocks) (fun h => by rw [hr] at h; cases h)
  have hmeth' : T.vm.method? m = some meth := X.method'
  refine ⟨T.setFrames fs, ?_, .returned (some (.int 1)), hrun, hended, rfl, ⟨_, rfl⟩, hW, hframe⟩
  jvm_step X.here [X.here.top, hx, hb, hdg, hmeth', hr, ret, narrow_b1]
  (try refine ⟨rfl, ?_⟩); (try refine ⟨rfl, ?_⟩)
  first | (intro acts; rw [hret _ acts rfl rfl rfl]) | rw [hret _ _ rfl rfl rfl]
  exact Steps.refl _
/-- what holds at the law's entry: the machine, the code, the tables' words (any of lw_tbl by 'hts w (by decide +kernel)'), the script of L ints xs at the cell b, what the Statement gives of the start (any of its parts by flat_of_before) -/
def lw_At (p : Program) (s : State) (m : MethodId) (meth : Method) (c : Code) (b L : Nat) (xs : Nat → Int32) : Prop :=
  p.tables.exec = Jvm.exec ∧ c.code = code ∧ meth.sig.returnType = ret ∧ c.maxLocals = 4 ∧ s.vm.findClass R_law = some m.cls ∧ (∀ w ∈ lw_tbl, w.before #[Value.ref b] s = true) ∧ va_X b L xs s s.heap ∧ b < s.heap.size ∧ meth.locks = false ∧ (Jvm.Cond.and given_1 narrow_1).before #[Value.ref b] s = true
/-- the memory at the law's entry: the script alone -/
def G0 (L : Nat) (xs : Nat → Int32) : Hp := (fun a => if a = 0 then 30 else 31, fun a => if a = 0 then (L : Int) else 0, fun a k => if a = 0 ∧ 0 ≤ k ∧ k < (L : Int) then (xs k.toNat).toInt else 0, fun _ _ => none, 0, 0)
theorem gwf_G0 {L : Nat} (hL : L ≤ 2048) (xs : Nat → Int32) : gwf L xs (G0 L xs) := by
  refine ⟨fun a ha => ?_, rfl, fun a ha => ?_, rfl, fun j hj => ?_, fun a k => ?_, fun a => ?_⟩
  · have h0 : sz (G0 L xs) = 0 := rfl
    show (if a = 0 then 30 else 31) = 31
    rw [if_neg (by omega)]
  · have : (if a = 0 then 30 else 31) = 30 := ha
    split at this
    · assumption
    · omega
  · show (if (0 : Nat) = 0 ∧ (0 : Int) ≤ (j : Int) ∧ (j : Int) < (L : Int) then (xs (j : Int).toNat).toInt else 0) = _
    rw [if_pos ⟨rfl, by omega, by omega⟩]
    rfl
  · show i32 (if a = 0 ∧ 0 ≤ k ∧ k < (L : Int) then (xs k.toNat).toInt else 0)
    split
    · exact to_i32 _
    · exact i32_0
  · show 0 ≤ (if a = 0 then (L : Int) else 0) ∧ (if a = 0 then (L : Int) else 0) ≤ 100000
    split <;> omega
/-- what is left to show: in the abstract machine the law answers 1, in the room -/
def AMgoal : Prop := ∀ (L : Nat) (xs : Nat → Int32), L ≤ 2048 → ∃ n G', runR (Cal 1000) (some .boolean) 11 false cL_law n 0 (entr [.inr (.inr (some 0))] 4) [] (G0 L xs) (some (.inl 1)) G' ∧ sz G' ≤ 600000 ∧ sl G' ≤ 7302250
theorem kn_all {s : State} {args : Array Value} (hts : ∀ w ∈ gtbl, w.before args s = true) : ∃ (dC : Nat → ClassId) (dI : Nat → Nat → Nat), ∀ (c : Nat) (q : vw_C), vwCl[c]? = some q → u_Kn s q.1 q.2.1 q.2.2 (dC c) (dI c) := by
  have h : ∀ c, ∃ (cC : ClassId) (iS : Nat → Nat), c < 11 → u_Kn s (cn c) (cT c) (cN c) cC iS := by
    intro c
    by_cases hc : c < 11
    · obtain ⟨cC, iS, h⟩ := u_known hts (ws_ing hc) (hts _ (g_inst hc))
      exact ⟨cC, iS, fun _ => h⟩
    · exact ⟨0, fun _ => 0, fun h => absurd h hc⟩
  refine ⟨fun c => Classical.choose (h c), fun c => Classical.choose (Classical.choose_spec (h c)), fun c q hq => ?_⟩
  have hc : c < 11 := (List.getElem?_eq_some_iff.mp hq).1
  rw [cl_at hc] at hq
  cases hq
  exact Classical.choose_spec (Classical.choose_spec (h c)) hc
theorem arr_over {s : State} {args : Array Value} {C : String} (h : (Cond.arrayOver (.object C)).before args s = true) : ∃ cA : ClassId, ArrOfT s cA (.object C) ∧ va_RA s cA (.object C) := by
  obtain ⟨comp, c, k, h1, h2, h3, h4, h5⟩ := Cond.arrayOver_spec h
  exact ⟨c, fun n z => ⟨(fun k h => by cases h), k, h3, comp, h4⟩, k, comp, h3, h4, h1, h5⟩
theorem whole_of_am (H0 : AMgoal) {p : Program} {e : Env} {s : State} {m : MethodId} {below : List Frame} {meth : Method} {c : Code} (l : Launch) {b L : Nat} {xs : Nat → Int32} (hL : L ≤ 2048) (C0 : lw_At p s m meth c b L xs) : W p l e room_1 s m #[Value.ref b] below meth c s.heap [] 0 0 (lw_Z below #[Value.ref b] s) (entryFrame m ([Value.ref b] : List Value).toArray 4) := by
  obtain ⟨hx, hb, hr, hml, hown, hts0, hX, hbl, hlocks, hgv⟩ := C0
  have hts : ∀ w ∈ gtbl, w.before #[Value.ref b] s = true := fun w hw => hts0 w (List.mem_filter.mp hw).1
  obtain ⟨dC, dI, hKn⟩ := kn_all hts
  obtain ⟨cI, kI, compI, i1, i2, i3⟩ := Cond.arrayClass_spec (hts0 _ w_ac)
  obtain ⟨cC, c1, c2⟩ := arr_over (hts0 _ w_aoC)
  obtain ⟨cS, s1, s2⟩ := arr_over (hts0 _ w_aoS)
  obtain ⟨n, G', hrun, hz1, hz2⟩ := H0 L xs hL
  have hK : va_K (dC, dI) vwCl [(cI, .int), (cC, .object RX1), (cS, .object RX7)] s := by
    refine ⟨hKn, fun k q hq => ?_⟩
    match k, hq with
    | 0, hq => cases hq; exact ⟨fun n z => ⟨(fun k h => by cases h), kI, i2, compI, i3⟩, i1⟩
    | 1, hq => cases hq; exact ⟨c1, c2⟩
    | 2, hq => cases hq; exact ⟨s1, s2⟩
    | (k + 3), hq => simp at hq
  have hC : Ctx ((s.heap.size, b), (cI, cC, cS), dC, dI) L xs p s m #[Value.ref b] meth c cL_law 11 4 false := by
    refine ⟨hx, hb, hml, hown, hts, hK, ⟨hX, hbl, Nat.le_refl _⟩, ⟨fun q hq hz => ?_, va_AO.of (hts0 _ w_aoC), va_AO.of (hts0 _ w_aoS)⟩, fun h => by cases h⟩
    have h := ltab_ok q hq
    unfold lOk at h
    rw [if_pos hz] at h
    exact va_Nw.of rfl (hts0 _ (List.mem_of_getElem? h))
  rw [lg_entry_eq]
  have hrep : rep ((s.heap.size, b), (cI, cC, cS), dC, dI) (G0 L xs) s.heap := ⟨rfl, fun a h1 h2 => by have : sz (G0 L xs) = 0 := rfl; omega⟩
  have W0 := snd_run (l := l) (e := e) (below := below) (R := room_1) (Q := lw_Z below #[Value.ref b] s) (d := 1000) hC (snd_met l _ L xs 1000) (by decide) (by decide) (ret := some .boolean) (rF := some (.inl 1)) (GF := G') (k0 := 0) (n0 := 0) (by show sz G' - 0 ≤ 600000; omega) (by show sl G' - 0 ≤ 7302250; omega)
    (by
      intro x pc arr H locs hrx hix hd hrt hg' hr' hS'
      cases hrx
      refine va_forget (fun q hq => hS'.2.2 q hq) ?_
      refine W.widen (k := 600000) (n := 7302250) (by omega) (by omega) ?_
      exact lw_ret hx hb hr hlocks hd)
    (by intro o C pc arr H locs hrx; cases hrx)
    (by intro pc arr H locs hrx; cases hrx)
    n 0 _ [] (G0 L xs) hrun (gwf_G0 hL xs) (fun v h => by cases h) (vok_entr (fun v h => by rw [List.mem_singleton.mp h]; exact trivial)) (Nat.zero_le _) (Nat.zero_le _) _ s.heap [] (lsOk_entr (E := ((s.heap.size, b), (cI, cC, cS), dC, dI)) (by rw [← sl1_len]; decide)) hrep va_S.rf
  exact W0
end
section
/-! The fixed cells: the class has 1..32 (33, 34 its first Call and what that held), the model 35..62 -/
def fcT : List (Nat × Nat × Int) := [(1, 9, 0), (2, 20, 160), (3, 6, 0), (4, 20, 160), (5, 20, 160), (6, 20, 160), (7, 5, 0), (8, 20, 320), (9, 20, 320), (10, 20, 5), (11, 5, 0), (12, 20, 320), (13, 20, 320), (14, 20, 5), (15, 7, 0), (16, 20, 8), (17, 8, 0), (18, 21, 364), (19, 2, 0), (20, 20, 16), (21, 20, 16), (22, 20, 16), (23, 0, 0), (24, 20, 20), (25, 20, 20), (26, 20, 20), (27, 22, 2), (28, 4, 0), (29, 3, 0), (30, 20, 960), (31, 3, 0), (32, 20, 960)]
def fcR : List (Nat × Int × Nat) := [(1, 0, 2), (1, 3, 3), (1, 6, 15), (1, 7, 29), (1, 8, 31), (1, 9, 17), (1, 10, 19), (1, 11, 23), (1, 12, 27), (3, 0, 4), (3, 1, 5), (3, 2, 6), (7, 0, 8), (7, 1, 9), (7, 2, 10), (11, 0, 12), (11, 1, 13), (11, 2, 14), (15, 0, 16), (17, 0, 18), (19, 0, 20), (19, 1, 21), (19, 2, 22), (23, 0, 24), (23, 1, 25), (23, 2, 26), (29, 0, 15), (29, 1, 28), (29, 2, 30), (31, 0, 15), (31, 1, 28), (31, 2, 32)]
def fmT : List (Nat × Nat × Int) := [(35, 10, 0), (36, 20, 190), (37, 20, 2), (38, 20, 160), (39, 20, 20), (40, 20, 20), (41, 20, 20), (42, 20, 160), (43, 20, 5), (44, 20, 364), (45, 20, 364), (46, 20, 364), (47, 20, 364), (48, 20, 364), (49, 20, 364), (50, 20, 364), (51, 20, 8), (52, 20, 364), (53, 20, 364), (54, 20, 364), (55, 20, 364), (56, 20, 364), (57, 20, 364), (58, 20, 364), (59, 20, 364), (60, 20, 1200), (61, 20, 1200), (62, 20, 1200)]
def fmR : List (Nat × Int × Nat) := [(35, 0, 36), (35, 4, 37), (35, 5, 38), (35, 8, 39), (35, 9, 40), (35, 10, 41), (35, 12, 42), (35, 13, 43), (35, 15, 44), (35, 16, 45), (35, 17, 46), (35, 18, 47), (35, 19, 48), (35, 20, 49), (35, 21, 50), (35, 23, 51), (35, 24, 52), (35, 25, 53), (35, 26, 54), (35, 27, 55), (35, 28, 56), (35, 30, 57), (35, 31, 58), (35, 32, 59), (35, 37, 60), (35, 38, 61), (35, 39, 62)]
def FX (ts : List (Nat × Nat × Int)) (rs : List (Nat × Int × Nat)) (G : Hp) : Prop := (∀ e ∈ ts, tg G e.1 = e.2.1 ∧ ln G e.1 = e.2.2) ∧ ∀ e ∈ rs, rv G e.1 e.2.1 = some e.2.2
def FC (G : Hp) : Prop := FX fcT fcR G
def FM (G : Hp) : Prop := FX fmT fmR G
theorem ft1 {G : Hp} (h : FC G) : tg G 1 = 9 := (h.1 (1, 9, 0) (by decide)).1
theorem ft2 {G : Hp} (h : FC G) : tg G 2 = 20 := (h.1 (2, 20, 160) (by decide)).1
theorem fl2 {G : Hp} (h : FC G) : ln G 2 = 160 := (h.1 (2, 20, 160) (by decide)).2
theorem ft3 {G : Hp} (h : FC G) : tg G 3 = 6 := (h.1 (3, 6, 0) (by decide)).1
theorem ft4 {G : Hp} (h : FC G) : tg G 4 = 20 := (h.1 (4, 20, 160) (by decide)).1
theorem fl4 {G : Hp} (h : FC G) : ln G 4 = 160 := (h.1 (4, 20, 160) (by decide)).2
theorem ft5 {G : Hp} (h : FC G) : tg G 5 = 20 := (h.1 (5, 20, 160) (by decide)).1
theorem fl5 {G : Hp} (h : FC G) : ln G 5 = 160 := (h.1 (5, 20, 160) (by decide)).2
theorem ft6 {G : Hp} (h : FC G) : tg G 6 = 20 := (h.1 (6, 20, 160) (by decide)).1
theorem fl6 {G : Hp} (h : FC G) : ln G 6 = 160 := (h.1 (6, 20, 160) (by decide)).2
theorem ft7 {G : Hp} (h : FC G) : tg G 7 = 5 := (h.1 (7, 5, 0) (by decide)).1
theorem ft8 {G : Hp} (h : FC G) : tg G 8 = 20 := (h.1 (8, 20, 320) (by decide)).1
theorem fl8 {G : Hp} (h : FC G) : ln G 8 = 320 := (h.1 (8, 20, 320) (by decide)).2
theorem ft9 {G : Hp} (h : FC G) : tg G 9 = 20 := (h.1 (9, 20, 320) (by decide)).1
theorem fl9 {G : Hp} (h : FC G) : ln G 9 = 320 := (h.1 (9, 20, 320) (by decide)).2
theorem ft10 {G : Hp} (h : FC G) : tg G 10 = 20 := (h.1 (10, 20, 5) (by decide)).1
theorem fl10 {G : Hp} (h : FC G) : ln G 10 = 5 := (h.1 (10, 20, 5) (by decide)).2
theorem ft11 {G : Hp} (h : FC G) : tg G 11 = 5 := (h.1 (11, 5, 0) (by decide)).1
theorem ft12 {G : Hp} (h : FC G) : tg G 12 = 20 := (h.1 (12, 20, 320) (by decide)).1
theorem fl12 {G : Hp} (h : FC G) : ln G 12 = 320 := (h.1 (12, 20, 320) (by decide)).2
theorem ft13 {G : Hp} (h : FC G) : tg G 13 = 20 := (h.1 (13, 20, 320) (by decide)).1
theorem fl13 {G : Hp} (h : FC G) : ln G 13 = 320 := (h.1 (13, 20, 320) (by decide)).2
theorem ft14 {G : Hp} (h : FC G) : tg G 14 = 20 := (h.1 (14, 20, 5) (by decide)).1
theorem fl14 {G : Hp} (h : FC G) : ln G 14 = 5 := (h.1 (14, 20, 5) (by decide)).2
theorem ft15 {G : Hp} (h : FC G) : tg G 15 = 7 := (h.1 (15, 7, 0) (by decide)).1
theorem ft16 {G : Hp} (h : FC G) : tg G 16 = 20 := (h.1 (16, 20, 8) (by decide)).1
theorem fl16 {G : Hp} (h : FC G) : ln G 16 = 8 := (h.1 (16, 20, 8) (by decide)).2
theorem ft17 {G : Hp} (h : FC G) : tg G 17 = 8 := (h.1 (17, 8, 0) (by decide)).1
theorem ft18 {G : Hp} (h : FC G) : tg G 18 = 21 := (h.1 (18, 21, 364) (by decide)).1
theorem fl18 {G : Hp} (h : FC G) : ln G 18 = 364 := (h.1 (18, 21, 364) (by decide)).2
theorem ft19 {G : Hp} (h : FC G) : tg G 19 = 2 := (h.1 (19, 2, 0) (by decide)).1
theorem ft20 {G : Hp} (h : FC G) : tg G 20 = 20 := (h.1 (20, 20, 16) (by decide)).1
theorem fl20 {G : Hp} (h : FC G) : ln G 20 = 16 := (h.1 (20, 20, 16) (by decide)).2
theorem ft21 {G : Hp} (h : FC G) : tg G 21 = 20 := (h.1 (21, 20, 16) (by decide)).1
theorem fl21 {G : Hp} (h : FC G) : ln G 21 = 16 := (h.1 (21, 20, 16) (by decide)).2
theorem ft22 {G : Hp} (h : FC G) : tg G 22 = 20 := (h.1 (22, 20, 16) (by decide)).1
theorem fl22 {G : Hp} (h : FC G) : ln G 22 = 16 := (h.1 (22, 20, 16) (by decide)).2
theorem ft23 {G : Hp} (h : FC G) : tg G 23 = 0 := (h.1 (23, 0, 0) (by decide)).1
theorem ft24 {G : Hp} (h : FC G) : tg G 24 = 20 := (h.1 (24, 20, 20) (by decide)).1
theorem fl24 {G : Hp} (h : FC G) : ln G 24 = 20 := (h.1 (24, 20, 20) (by decide)).2
theorem ft25 {G : Hp} (h : FC G) : tg G 25 = 20 := (h.1 (25, 20, 20) (by decide)).1
theorem fl25 {G : Hp} (h : FC G) : ln G 25 = 20 := (h.1 (25, 20, 20) (by decide)).2
theorem ft26 {G : Hp} (h : FC G) : tg G 26 = 20 := (h.1 (26, 20, 20) (by decide)).1
theorem fl26 {G : Hp} (h : FC G) : ln G 26 = 20 := (h.1 (26, 20, 20) (by decide)).2
theorem ft27 {G : Hp} (h : FC G) : tg G 27 = 22 := (h.1 (27, 22, 2) (by decide)).1
theorem fl27 {G : Hp} (h : FC G) : ln G 27 = 2 := (h.1 (27, 22, 2) (by decide)).2
theorem ft28 {G : Hp} (h : FC G) : tg G 28 = 4 := (h.1 (28, 4, 0) (by decide)).1
theorem ft29 {G : Hp} (h : FC G) : tg G 29 = 3 := (h.1 (29, 3, 0) (by decide)).1
theorem ft30 {G : Hp} (h : FC G) : tg G 30 = 20 := (h.1 (30, 20, 960) (by decide)).1
theorem fl30 {G : Hp} (h : FC G) : ln G 30 = 960 := (h.1 (30, 20, 960) (by decide)).2
theorem ft31 {G : Hp} (h : FC G) : tg G 31 = 3 := (h.1 (31, 3, 0) (by decide)).1
theorem ft32 {G : Hp} (h : FC G) : tg G 32 = 20 := (h.1 (32, 20, 960) (by decide)).1
theorem fl32 {G : Hp} (h : FC G) : ln G 32 = 960 := (h.1 (32, 20, 960) (by decide)).2
theorem fr1_0 {G : Hp} (h : FC G) : rv G 1 0 = some 2 := h.2 (1, 0, 2) (by decide)
theorem fr1_3 {G : Hp} (h : FC G) : rv G 1 3 = some 3 := h.2 (1, 3, 3) (by decide)
theorem fr1_6 {G : Hp} (h : FC G) : rv G 1 6 = some 15 := h.2 (1, 6, 15) (by decide)
theorem fr1_7 {G : Hp} (h : FC G) : rv G 1 7 = some 29 := h.2 (1, 7, 29) (by decide)
theorem fr1_8 {G : Hp} (h : FC G) : rv G 1 8 = some 31 := h.2 (1, 8, 31) (by decide)
theorem fr1_9 {G : Hp} (h : FC G) : rv G 1 9 = some 17 := h.2 (1, 9, 17) (by decide)
theorem fr1_10 {G : Hp} (h : FC G) : rv G 1 10 = some 19 := h.2 (1, 10, 19) (by decide)
theorem fr1_11 {G : Hp} (h : FC G) : rv G 1 11 = some 23 := h.2 (1, 11, 23) (by decide)
theorem fr1_12 {G : Hp} (h : FC G) : rv G 1 12 = some 27 := h.2 (1, 12, 27) (by decide)
theorem fr3_0 {G : Hp} (h : FC G) : rv G 3 0 = some 4 := h.2 (3, 0, 4) (by decide)
theorem fr3_1 {G : Hp} (h : FC G) : rv G 3 1 = some 5 := h.2 (3, 1, 5) (by decide)
theorem fr3_2 {G : Hp} (h : FC G) : rv G 3 2 = some 6 := h.2 (3, 2, 6) (by decide)
theorem fr7_0 {G : Hp} (h : FC G) : rv G 7 0 = some 8 := h.2 (7, 0, 8) (by decide)
theorem fr7_1 {G : Hp} (h : FC G) : rv G 7 1 = some 9 := h.2 (7, 1, 9) (by decide)
theorem fr7_2 {G : Hp} (h : FC G) : rv G 7 2 = some 10 := h.2 (7, 2, 10) (by decide)
theorem fr11_0 {G : Hp} (h : FC G) : rv G 11 0 = some 12 := h.2 (11, 0, 12) (by decide)
theorem fr11_1 {G : Hp} (h : FC G) : rv G 11 1 = some 13 := h.2 (11, 1, 13) (by decide)
theorem fr11_2 {G : Hp} (h : FC G) : rv G 11 2 = some 14 := h.2 (11, 2, 14) (by decide)
theorem fr15_0 {G : Hp} (h : FC G) : rv G 15 0 = some 16 := h.2 (15, 0, 16) (by decide)
theorem fr17_0 {G : Hp} (h : FC G) : rv G 17 0 = some 18 := h.2 (17, 0, 18) (by decide)
theorem fr19_0 {G : Hp} (h : FC G) : rv G 19 0 = some 20 := h.2 (19, 0, 20) (by decide)
theorem fr19_1 {G : Hp} (h : FC G) : rv G 19 1 = some 21 := h.2 (19, 1, 21) (by decide)
theorem fr19_2 {G : Hp} (h : FC G) : rv G 19 2 = some 22 := h.2 (19, 2, 22) (by decide)
theorem fr23_0 {G : Hp} (h : FC G) : rv G 23 0 = some 24 := h.2 (23, 0, 24) (by decide)
theorem fr23_1 {G : Hp} (h : FC G) : rv G 23 1 = some 25 := h.2 (23, 1, 25) (by decide)
theorem fr23_2 {G : Hp} (h : FC G) : rv G 23 2 = some 26 := h.2 (23, 2, 26) (by decide)
theorem fr29_0 {G : Hp} (h : FC G) : rv G 29 0 = some 15 := h.2 (29, 0, 15) (by decide)
theorem fr29_1 {G : Hp} (h : FC G) : rv G 29 1 = some 28 := h.2 (29, 1, 28) (by decide)
theorem fr29_2 {G : Hp} (h : FC G) : rv G 29 2 = some 30 := h.2 (29, 2, 30) (by decide)
theorem fr31_0 {G : Hp} (h : FC G) : rv G 31 0 = some 15 := h.2 (31, 0, 15) (by decide)
theorem fr31_1 {G : Hp} (h : FC G) : rv G 31 1 = some 28 := h.2 (31, 1, 28) (by decide)
theorem fr31_2 {G : Hp} (h : FC G) : rv G 31 2 = some 32 := h.2 (31, 2, 32) (by decide)
theorem ft35 {G : Hp} (h : FM G) : tg G 35 = 10 := (h.1 (35, 10, 0) (by decide)).1
theorem ft36 {G : Hp} (h : FM G) : tg G 36 = 20 := (h.1 (36, 20, 190) (by decide)).1
theorem fl36 {G : Hp} (h : FM G) : ln G 36 = 190 := (h.1 (36, 20, 190) (by decide)).2
theorem ft37 {G : Hp} (h : FM G) : tg G 37 = 20 := (h.1 (37, 20, 2) (by decide)).1
theorem fl37 {G : Hp} (h : FM G) : ln G 37 = 2 := (h.1 (37, 20, 2) (by decide)).2
theorem ft38 {G : Hp} (h : FM G) : tg G 38 = 20 := (h.1 (38, 20, 160) (by decide)).1
theorem fl38 {G : Hp} (h : FM G) : ln G 38 = 160 := (h.1 (38, 20, 160) (by decide)).2
theorem ft39 {G : Hp} (h : FM G) : tg G 39 = 20 := (h.1 (39, 20, 20) (by decide)).1
theorem fl39 {G : Hp} (h : FM G) : ln G 39 = 20 := (h.1 (39, 20, 20) (by decide)).2
theorem ft40 {G : Hp} (h : FM G) : tg G 40 = 20 := (h.1 (40, 20, 20) (by decide)).1
theorem fl40 {G : Hp} (h : FM G) : ln G 40 = 20 := (h.1 (40, 20, 20) (by decide)).2
theorem ft41 {G : Hp} (h : FM G) : tg G 41 = 20 := (h.1 (41, 20, 20) (by decide)).1
theorem fl41 {G : Hp} (h : FM G) : ln G 41 = 20 := (h.1 (41, 20, 20) (by decide)).2
theorem ft42 {G : Hp} (h : FM G) : tg G 42 = 20 := (h.1 (42, 20, 160) (by decide)).1
theorem fl42 {G : Hp} (h : FM G) : ln G 42 = 160 := (h.1 (42, 20, 160) (by decide)).2
theorem ft43 {G : Hp} (h : FM G) : tg G 43 = 20 := (h.1 (43, 20, 5) (by decide)).1
theorem fl43 {G : Hp} (h : FM G) : ln G 43 = 5 := (h.1 (43, 20, 5) (by decide)).2
theorem ft44 {G : Hp} (h : FM G) : tg G 44 = 20 := (h.1 (44, 20, 364) (by decide)).1
theorem fl44 {G : Hp} (h : FM G) : ln G 44 = 364 := (h.1 (44, 20, 364) (by decide)).2
theorem ft45 {G : Hp} (h : FM G) : tg G 45 = 20 := (h.1 (45, 20, 364) (by decide)).1
theorem fl45 {G : Hp} (h : FM G) : ln G 45 = 364 := (h.1 (45, 20, 364) (by decide)).2
theorem ft46 {G : Hp} (h : FM G) : tg G 46 = 20 := (h.1 (46, 20, 364) (by decide)).1
theorem fl46 {G : Hp} (h : FM G) : ln G 46 = 364 := (h.1 (46, 20, 364) (by decide)).2
theorem ft47 {G : Hp} (h : FM G) : tg G 47 = 20 := (h.1 (47, 20, 364) (by decide)).1
theorem fl47 {G : Hp} (h : FM G) : ln G 47 = 364 := (h.1 (47, 20, 364) (by decide)).2
theorem ft48 {G : Hp} (h : FM G) : tg G 48 = 20 := (h.1 (48, 20, 364) (by decide)).1
theorem fl48 {G : Hp} (h : FM G) : ln G 48 = 364 := (h.1 (48, 20, 364) (by decide)).2
theorem ft49 {G : Hp} (h : FM G) : tg G 49 = 20 := (h.1 (49, 20, 364) (by decide)).1
theorem fl49 {G : Hp} (h : FM G) : ln G 49 = 364 := (h.1 (49, 20, 364) (by decide)).2
theorem ft50 {G : Hp} (h : FM G) : tg G 50 = 20 := (h.1 (50, 20, 364) (by decide)).1
theorem fl50 {G : Hp} (h : FM G) : ln G 50 = 364 := (h.1 (50, 20, 364) (by decide)).2
theorem ft51 {G : Hp} (h : FM G) : tg G 51 = 20 := (h.1 (51, 20, 8) (by decide)).1
theorem fl51 {G : Hp} (h : FM G) : ln G 51 = 8 := (h.1 (51, 20, 8) (by decide)).2
theorem ft52 {G : Hp} (h : FM G) : tg G 52 = 20 := (h.1 (52, 20, 364) (by decide)).1
theorem fl52 {G : Hp} (h : FM G) : ln G 52 = 364 := (h.1 (52, 20, 364) (by decide)).2
theorem ft53 {G : Hp} (h : FM G) : tg G 53 = 20 := (h.1 (53, 20, 364) (by decide)).1
theorem fl53 {G : Hp} (h : FM G) : ln G 53 = 364 := (h.1 (53, 20, 364) (by decide)).2
theorem ft54 {G : Hp} (h : FM G) : tg G 54 = 20 := (h.1 (54, 20, 364) (by decide)).1
theorem fl54 {G : Hp} (h : FM G) : ln G 54 = 364 := (h.1 (54, 20, 364) (by decide)).2
theorem ft55 {G : Hp} (h : FM G) : tg G 55 = 20 := (h.1 (55, 20, 364) (by decide)).1
theorem fl55 {G : Hp} (h : FM G) : ln G 55 = 364 := (h.1 (55, 20, 364) (by decide)).2
theorem ft56 {G : Hp} (h : FM G) : tg G 56 = 20 := (h.1 (56, 20, 364) (by decide)).1
theorem fl56 {G : Hp} (h : FM G) : ln G 56 = 364 := (h.1 (56, 20, 364) (by decide)).2
theorem ft57 {G : Hp} (h : FM G) : tg G 57 = 20 := (h.1 (57, 20, 364) (by decide)).1
theorem fl57 {G : Hp} (h : FM G) : ln G 57 = 364 := (h.1 (57, 20, 364) (by decide)).2
theorem ft58 {G : Hp} (h : FM G) : tg G 58 = 20 := (h.1 (58, 20, 364) (by decide)).1
theorem fl58 {G : Hp} (h : FM G) : ln G 58 = 364 := (h.1 (58, 20, 364) (by decide)).2
theorem ft59 {G : Hp} (h : FM G) : tg G 59 = 20 := (h.1 (59, 20, 364) (by decide)).1
theorem fl59 {G : Hp} (h : FM G) : ln G 59 = 364 := (h.1 (59, 20, 364) (by decide)).2
theorem ft60 {G : Hp} (h : FM G) : tg G 60 = 20 := (h.1 (60, 20, 1200) (by decide)).1
theorem fl60 {G : Hp} (h : FM G) : ln G 60 = 1200 := (h.1 (60, 20, 1200) (by decide)).2
theorem ft61 {G : Hp} (h : FM G) : tg G 61 = 20 := (h.1 (61, 20, 1200) (by decide)).1
theorem fl61 {G : Hp} (h : FM G) : ln G 61 = 1200 := (h.1 (61, 20, 1200) (by decide)).2
theorem ft62 {G : Hp} (h : FM G) : tg G 62 = 20 := (h.1 (62, 20, 1200) (by decide)).1
theorem fl62 {G : Hp} (h : FM G) : ln G 62 = 1200 := (h.1 (62, 20, 1200) (by decide)).2
theorem fr35_0 {G : Hp} (h : FM G) : rv G 35 0 = some 36 := h.2 (35, 0, 36) (by decide)
theorem fr35_4 {G : Hp} (h : FM G) : rv G 35 4 = some 37 := h.2 (35, 4, 37) (by decide)
theorem fr35_5 {G : Hp} (h : FM G) : rv G 35 5 = some 38 := h.2 (35, 5, 38) (by decide)
theorem fr35_8 {G : Hp} (h : FM G) : rv G 35 8 = some 39 := h.2 (35, 8, 39) (by decide)
theorem fr35_9 {G : Hp} (h : FM G) : rv G 35 9 = some 40 := h.2 (35, 9, 40) (by decide)
theorem fr35_10 {G : Hp} (h : FM G) : rv G 35 10 = some 41 := h.2 (35, 10, 41) (by decide)
theorem fr35_12 {G : Hp} (h : FM G) : rv G 35 12 = some 42 := h.2 (35, 12, 42) (by decide)
theorem fr35_13 {G : Hp} (h : FM G) : rv G 35 13 = some 43 := h.2 (35, 13, 43) (by decide)
theorem fr35_15 {G : Hp} (h : FM G) : rv G 35 15 = some 44 := h.2 (35, 15, 44) (by decide)
theorem fr35_16 {G : Hp} (h : FM G) : rv G 35 16 = some 45 := h.2 (35, 16, 45) (by decide)
theorem fr35_17 {G : Hp} (h : FM G) : rv G 35 17 = some 46 := h.2 (35, 17, 46) (by decide)
theorem fr35_18 {G : Hp} (h : FM G) : rv G 35 18 = some 47 := h.2 (35, 18, 47) (by decide)
theorem fr35_19 {G : Hp} (h : FM G) : rv G 35 19 = some 48 := h.2 (35, 19, 48) (by decide)
theorem fr35_20 {G : Hp} (h : FM G) : rv G 35 20 = some 49 := h.2 (35, 20, 49) (by decide)
theorem fr35_21 {G : Hp} (h : FM G) : rv G 35 21 = some 50 := h.2 (35, 21, 50) (by decide)
theorem fr35_23 {G : Hp} (h : FM G) : rv G 35 23 = some 51 := h.2 (35, 23, 51) (by decide)
theorem fr35_24 {G : Hp} (h : FM G) : rv G 35 24 = some 52 := h.2 (35, 24, 52) (by decide)
theorem fr35_25 {G : Hp} (h : FM G) : rv G 35 25 = some 53 := h.2 (35, 25, 53) (by decide)
theorem fr35_26 {G : Hp} (h : FM G) : rv G 35 26 = some 54 := h.2 (35, 26, 54) (by decide)
theorem fr35_27 {G : Hp} (h : FM G) : rv G 35 27 = some 55 := h.2 (35, 27, 55) (by decide)
theorem fr35_28 {G : Hp} (h : FM G) : rv G 35 28 = some 56 := h.2 (35, 28, 56) (by decide)
theorem fr35_30 {G : Hp} (h : FM G) : rv G 35 30 = some 57 := h.2 (35, 30, 57) (by decide)
theorem fr35_31 {G : Hp} (h : FM G) : rv G 35 31 = some 58 := h.2 (35, 31, 58) (by decide)
theorem fr35_32 {G : Hp} (h : FM G) : rv G 35 32 = some 59 := h.2 (35, 32, 59) (by decide)
theorem fr35_37 {G : Hp} (h : FM G) : rv G 35 37 = some 60 := h.2 (35, 37, 60) (by decide)
theorem fr35_38 {G : Hp} (h : FM G) : rv G 35 38 = some 61 := h.2 (35, 38, 61) (by decide)
theorem fr35_39 {G : Hp} (h : FM G) : rv G 35 39 = some 62 := h.2 (35, 39, 62) (by decide)
theorem FX_si {ts : List (Nat × Nat × Int)} {rs : List (Nat × Int × Nat)} {G : Hp} (h : FX ts rs G) (a : Nat) (k v : Int) : FX ts rs (si G a k v) := h
theorem FX_sr {ts : List (Nat × Nat × Int)} {rs : List (Nat × Int × Nat)} {G : Hp} (h : FX ts rs G) {a : Nat} {k : Int} (r : Option Nat) (hn : ∀ e ∈ rs, ¬ (e.1 = a ∧ e.2.1 = k)) : FX ts rs (sr G a k r) := ⟨h.1, fun e he => by rw [rv_sr, if_neg (hn e he)]; exact h.2 e he⟩
theorem FX_nw {ts : List (Nat × Nat × Int)} {rs : List (Nat × Int × Nat)} {G : Hp} (h : FX ts rs G) (t w : Nat) (n : Int) (h1 : ∀ e ∈ ts, e.1 ≠ sz G + 1) (h2 : ∀ e ∈ rs, e.1 ≠ sz G + 1) : FX ts rs (nw G t n w) :=
  ⟨fun e he => by rw [tg_nw, ln_nw, if_neg (h1 e he), if_neg (h1 e he)]; exact h.1 e he, fun e he => by rw [rv_nw, if_neg (h2 e he)]; exact h.2 e he⟩
theorem FX_cp {ts : List (Nat × Nat × Int)} {rs : List (Nat × Int × Nat)} {G : Hp} (h : FX ts rs G) (a b : Nat) (sp dp n : Int) : FX ts rs (cp G a sp b dp n) := h
/-- two memories that are the same on some cells -/
def Sm (P : Nat → Prop) (G G' : Hp) : Prop := ∀ a, P a → tg G' a = tg G a ∧ ln G' a = ln G a ∧ (∀ k, iv G' a k = iv G a k) ∧ ∀ k, rv G' a k = rv G a k
theorem Sm.rf {P : Nat → Prop} {G : Hp} : Sm P G G := fun _ _ => ⟨rfl, rfl, fun _ => rfl, fun _ => rfl⟩
theorem Sm.trans {P : Nat → Prop} {G G1 G2 : Hp} (h1 : Sm P G G1) (h2 : Sm P G1 G2) : Sm P G G2 := fun a ha => ⟨(h2 a ha).1.trans (h1 a ha).1, (h2 a ha).2.1.trans (h1 a ha).2.1, fun k => ((h2 a ha).2.2.1 k).trans ((h1 a ha).2.2.1 k), fun k => ((h2 a ha).2.2.2 k).trans ((h1 a ha).2.2.2 k)⟩
theorem Sm.mono {P P' : Nat → Prop} {G G' : Hp} (h : Sm P G G') (hp : ∀ a, P' a → P a) : Sm P' G G' := fun a ha => h a (hp a ha)
theorem Sm.si {P : Nat → Prop} {G G' : Hp} (h : Sm P G G') {a : Nat} (k v : Int) (ha : ¬ P a) : Sm P G (si G' a k v) := fun b hb => ⟨(h b hb).1, (h b hb).2.1, fun j => by rw [iv_si, if_neg (by rintro ⟨rfl, -⟩; exact ha hb)]; exact (h b hb).2.2.1 j, (h b hb).2.2.2⟩
theorem Sm.sr {P : Nat → Prop} {G G' : Hp} (h : Sm P G G') {a : Nat} (k : Int) (r : Option Nat) (ha : ¬ P a) : Sm P G (sr G' a k r) := fun b hb => ⟨(h b hb).1, (h b hb).2.1, (h b hb).2.2.1, fun j => by rw [rv_sr, if_neg (by rintro ⟨rfl, -⟩; exact ha hb)]; exact (h b hb).2.2.2 j⟩
theorem Sm.nw {P : Nat → Prop} {G G' : Hp} (h : Sm P G G') (t w : Nat) (n : Int) (ha : ¬ P (sz G' + 1)) : Sm P G (nw G' t n w) := fun b hb => by
  have hn : b ≠ sz G' + 1 := fun q => ha (q ▸ hb)
  refine ⟨?_, ?_, fun j => ?_, fun j => ?_⟩
  · rw [tg_nw, if_neg hn]; exact (h b hb).1
  · rw [ln_nw, if_neg hn]; exact (h b hb).2.1
  · rw [iv_nw, if_neg hn]; exact (h b hb).2.2.1 j
  · rw [rv_nw, if_neg hn]; exact (h b hb).2.2.2 j
theorem Sm.cp {P : Nat → Prop} {G G' : Hp} (h : Sm P G G') (a : Nat) {b : Nat} (sp dp n : Int) (hb : ¬ P b) : Sm P G (cp G' a sp b dp n) := fun c hc => ⟨(h c hc).1, (h c hc).2.1, fun j => by rw [iv_cp, if_neg (by rintro ⟨rfl, -⟩; exact hb hc)]; exact (h c hc).2.2.1 j, (h c hc).2.2.2⟩
theorem FX_Sm {ts : List (Nat × Nat × Int)} {rs : List (Nat × Int × Nat)} {P : Nat → Prop} {G G' : Hp} (h : FX ts rs G) (hs : Sm P G G') (h1 : ∀ e ∈ ts, P e.1) (h2 : ∀ e ∈ rs, P e.1) : FX ts rs G' :=
  ⟨fun e he => by rw [(hs _ (h1 e he)).1, (hs _ (h1 e he)).2.1]; exact h.1 e he, fun e he => by rw [(hs _ (h2 e he)).2.2.2]; exact h.2 e he⟩
/-- the class's cells, the model's cells -/
def isM (a : Nat) : Prop := 35 ≤ a ∧ a ≤ 62
def isC (a : Nat) : Prop := a ≤ 34 ∨ 63 ≤ a
theorem FM_Sm {G G' : Hp} (h : FM G) (hs : Sm isM G G') : FM G' := FX_Sm h hs (by unfold isM; decide) (by unfold isM; decide)
theorem FC_Sm {G G' : Hp} (h : FC G) (hs : Sm isC G G') : FC G' := FX_Sm h hs (by unfold isC; decide) (by unfold isC; decide)
end
section
/-! WHAT IS SO: the document's words as pure functions. Signs: 43 + 45 - 42 * 60 < 63 ? 110 n 120 x 102 f 48..57 figures -/
def isBin (c : Int) : Prop := c = 43 ∨ c = 45 ∨ c = 42 ∨ c = 60
def opv (c a b : Int) : Int := if c = 43 then (a + b) % 997 else if c = 45 then (a - b + 997) % 997 else if c = 42 then a * b % 997 else if a < b then 1 else 0
def bit (i : Int) : Int := (Int32.ofInt 1 <<< (Int32.ofInt i &&& 31)).toInt
def bor (m b : Int) : Int := (Int32.ofInt m ||| Int32.ofInt b).toInt
def rb (m i : Int) : Int := (Int32.ofInt (Int32.ofInt m >>> (Int32.ofInt i &&& 31)).toInt &&& Int32.ofInt 1).toInt
/-- where the term at a ends -/
def tend (cd : Int → Int) : Nat → Int → Int
  | 0, a => a
  | n + 1, a => if cd a = 120 then tend cd n (a + 1) else if cd a = 102 then tend cd n (a + 2) else if cd a = 43 ∨ cd a = 45 ∨ cd a = 42 ∨ cd a = 60 then tend cd n (tend cd n (a + 1)) else if cd a = 63 then tend cd n (tend cd n (tend cd n (a + 1))) else a + 1
/-- what the term at a tells: rd reads a cell, cl calls, x the argument, s what is carried along -/
def ev {σ : Type} (cd : Int → Int) (rd : Int → σ → Int × σ) (cl : Int → Int → σ → Int × σ) (x : Int) : Nat → Int → σ → Int × σ
  | 0, _, s => (0, s)
  | n + 1, a, s => if cd a = 110 then (x, s) else if cd a = 120 then rd (ev cd rd cl x n (a + 1) s).1 (ev cd rd cl x n (a + 1) s).2 else if cd a = 102 then cl (cd (a + 1) - 48) (ev cd rd cl x n (a + 2) s).1 (ev cd rd cl x n (a + 2) s).2
    else if cd a = 43 ∨ cd a = 45 ∨ cd a = 42 ∨ cd a = 60 then (opv (cd a) (ev cd rd cl x n (a + 1) s).1 (ev cd rd cl x n (tend cd n (a + 1)) (ev cd rd cl x n (a + 1) s).2).1, (ev cd rd cl x n (tend cd n (a + 1)) (ev cd rd cl x n (a + 1) s).2).2)
    else if cd a = 63 then (if (ev cd rd cl x n (a + 1) s).1 = 0 then ev cd rd cl x n (tend cd n (tend cd n (a + 1))) (ev cd rd cl x n (a + 1) s).2 else ev cd rd cl x n (tend cd n (a + 1)) (ev cd rd cl x n (a + 1) s).2)
    else (cd a - 48, s)
/-- a call: address, function, argument, what it tells, what it read, name, doings -/
abbrev Nd : Type := Nat × Int × Int × Int × Int × Int × Int
def nAd (n : Nd) : Nat := n.1
def nF (n : Nd) : Int := n.2.1
def nX (n : Nd) : Int := n.2.2.1
def nV (n : Nd) : Int := n.2.2.2.1
def nM (n : Nd) : Int := n.2.2.2.2.1
def nN (n : Nd) : Int := n.2.2.2.2.2.1
def nD (n : Nd) : Int := n.2.2.2.2.2.2
/-- a call with its parts, at most d levels -/
def Tr : Nat → Type
  | 0 => Empty
  | d + 1 => Nd × List (Tr d)
def rt : (d : Nat) → Tr d → Nd
  | 0, t => t.elim
  | _ + 1, t => t.1
def pts : (d : Nat) → Tr (d + 1) → List (Tr d) := fun _ t => t.2
def mkN (d : Nat) (n : Nd) (ps : List (Tr d)) : Tr (d + 1) := (n, ps)
def tsz : (d : Nat) → Tr d → Nat
  | 0, t => t.elim
  | d + 1, t => 1 + (t.2.map (tsz d)).sum
def tszL (d : Nat) (l : List (Tr d)) : Nat := (l.map (tsz d)).sum
/-- all calls in order, each with its nest -/
def flat : (d : Nat) → Int → Tr d → List (Nd × Int)
  | 0, _, t => t.elim
  | d + 1, n, t => (t.1, n) :: t.2.flatMap (flat d (n + 1))
def rdc {α : Type} (c : Int → Int) (v : Int) (s : Int × α) : Int × Int × α := (c (v % 8), bor s.1 (bit (v % 8)), s.2)
/-- a program: the code, where bodies begin, how many functions -/
abbrev Pg : Type := (Int → Int) × (Int → Int) × Int
/-- what a call would be, made now with cells c; d levels may follow -/
def fr (P : Pg) (c : Int → Int) : (d : Nat) → Int → Int → Tr (d + 1)
  | 0, f, x =>
    let r := ev P.1 (rdc c) (fun _ _ s => (0, s)) x 160 (P.2.1 f) ((0, []) : Int × List (Tr 0))
    mkN 0 (0, f, x, r.1, r.2.1, 0, 0) r.2.2
  | d + 1, f, x =>
    let r := ev P.1 (rdc c) (fun k y s => if k < P.2.2 then (nV (rt (d + 1) (fr P c d k y)), s.1, s.2 ++ [fr P c d k y]) else (0, s)) x 160 (P.2.1 f) ((0, []) : Int × List (Tr (d + 1)))
    mkN (d + 1) (0, f, x, r.1, r.2.1, 0, 0) r.2.2
/-- counts: made ever, made, done anew, gone -/
abbrev Kt : Type := Int × Int × Int × Int
/-- MADE, with names -/
def mkT (P : Pg) (c : Int → Int) : (d : Nat) → Int → Int → Kt → Tr (d + 1) × Kt
  | 0, f, x, κ =>
    let r := ev P.1 (rdc c) (fun _ _ s => (0, s)) x 160 (P.2.1 f) ((0, [], κ.1 + 1, κ.2.1 + 1, κ.2.2) : Int × List (Tr 0) × Kt)
    (mkN 0 (0, f, x, r.1, r.2.1, κ.1, 1) r.2.2.1, r.2.2.2)
  | d + 1, f, x, κ =>
    let r := ev P.1 (rdc c) (fun k y s => if k < P.2.2 then (nV (rt (d + 1) (mkT P c d k y s.2.2).1), s.1, s.2.1 ++ [(mkT P c d k y s.2.2).1], (mkT P c d k y s.2.2).2) else (0, s)) x 160 (P.2.1 f) ((0, [], κ.1 + 1, κ.2.1 + 1, κ.2.2) : Int × List (Tr (d + 1)) × Kt)
    (mkN (d + 1) (0, f, x, r.1, r.2.1, κ.1, 1) r.2.2.1, r.2.2.2)
/-- of what is left, the first of a function and argument: what is passed over, it, the rest -/
def fnd {d : Nat} (f x : Int) : List (Bool × Tr d) → Option (List (Bool × Tr d) × (Bool × Tr d) × List (Bool × Tr d))
  | [] => none
  | t :: l => if nF (rt d t.2) = f ∧ nX (rt d t.2) = x then some ([], t, l) else (fnd f x l).map (fun q => (t :: q.1, q.2))
def gon {d : Nat} (l : List (Bool × Tr d)) (κ : Kt) : Kt := (κ.1, κ.2.1, κ.2.2.1, κ.2.2.2 + ((l.map (fun t => tsz d t.2)).sum : Nat))
def isOldN (h c : Int → Int) (m : Int) : Bool := ([0, 1, 2, 3, 4, 5, 6, 7] : List Int).any (fun i => decide (rb m i ≠ 0) && decide (h i ≠ c i))
/-- parts BROUGHT, the first one first, until one tells otherwise: those brought, those left, whether one did -/
def brL {d : Nat} (br : Tr d → Kt → Tr d × Kt) : List (Tr d) → Kt → List (Tr d) × List (Tr d) × Bool × Kt
  | [], κ => ([], [], false, κ)
  | t :: l, κ => if nV (rt d (br t κ).1) = nV (rt d t) then ((br t κ).1 :: (brL br l (br t κ).2).1, (brL br l (br t κ).2).2) else ([(br t κ).1], l, true, (br t κ).2)
/-- a part that is called while a call is done anew -/
def anC {d : Nat} (P : Pg) (br : Tr (d + 1) → Kt → Tr (d + 1) × Kt) (mk : Int → Int → Kt → Tr (d + 1) × Kt) (k y : Int) (s : Int × List (Tr (d + 1)) × List (Bool × Tr (d + 1)) × Kt) : Int × Int × List (Tr (d + 1)) × List (Bool × Tr (d + 1)) × Kt :=
  if k < P.2.2 then (match fnd k y s.2.2.1 with
    | some q => (match q.2.1.1 with
      | true => (nV (rt (d + 1) q.2.1.2), s.1, s.2.1 ++ [q.2.1.2], q.2.2, gon q.1 s.2.2.2)
      | false => (nV (rt (d + 1) (br q.2.1.2 (gon q.1 s.2.2.2)).1), s.1, s.2.1 ++ [(br q.2.1.2 (gon q.1 s.2.2.2)).1], q.2.2, (br q.2.1.2 (gon q.1 s.2.2.2)).2))
    | none => (nV (rt (d + 1) (mk k y s.2.2.2).1), s.1, s.2.1 ++ [(mk k y s.2.2.2).1], s.2.2.1, (mk k y s.2.2.2).2)) else (0, s)
/-- DONE ANEW: the call n with its parts so far -/
def anT {d : Nat} (P : Pg) (c : Int → Int) (cl : Int → Int → Int × List (Tr d) × List (Bool × Tr d) × Kt → Int × Int × List (Tr d) × List (Bool × Tr d) × Kt) (n : Nd) (rem : List (Bool × Tr d)) (κ : Kt) : Tr (d + 1) × Kt :=
  let r := ev P.1 (rdc c) cl (nX n) 160 (P.2.1 (nF n)) ((0, [], rem, κ.1, κ.2.1, κ.2.2.1 + 1, κ.2.2.2) : Int × List (Tr d) × List (Bool × Tr d) × Kt)
  (mkN d (nAd n, nF n, nX n, r.1, r.2.1, nN n, nD n + 1) r.2.2.1, gon r.2.2.2.1 r.2.2.2.2)

/-- BROUGHT: h the cells as they were when last brought, c as they are -/
def brT (P : Pg) (h c : Int → Int) : (d : Nat) → Tr (d + 1) → Kt → Tr (d + 1) × Kt
  | 0, t, κ => if isOldN h c (nM t.1) = true then anT P c (fun _ _ s => (0, s)) t.1 (t.2.map (fun p => (false, p))) κ else (t, κ)
  | d + 1, t, κ => if isOldN h c (nM t.1) = true then anT P c (anC P (brT P h c d) (mkT P c d)) t.1 (t.2.map (fun p => (false, p))) κ
    else (match brL (brT P h c d) t.2 κ with
      | (bs, rs, true, κ') => anT P c (anC P (brT P h c d) (mkT P c d)) t.1 (bs.map (fun p => (true, p)) ++ rs.map (fun p => (false, p))) κ'
      | (bs, _, false, κ') => (mkN (d + 1) t.1 bs, κ'))
end
section
/-! THE MODEL, leaves -/
theorem x_lcmp2 {d : Nat} {ret : Option FieldType} {own : Nat} {ini : Bool} {cc : ByteArray} {pc q : Nat} {ls : Ls} {st : List V} {G : Hp} {Q : Option V → Hp → Prop} {x y : Int} (hd : decode cc pc = .ok (.lcmp, 1)) (hq : pc + 1 = q) (h : ∀ z : Int, (z < 0 ↔ x < y) → (0 < z ↔ y < x) → Ex d ret own ini cc q ls (.inl z :: st) G Q) : Ex d ret own ini cc pc ls (.inr (.inl y) :: .inr (.inl x) :: st) G Q := by
  refine x_lcmp hd hq rfl (h _ ?_ ?_)
  · split
    · omega
    · split <;> omega
  · split
    · omega
    · split <;> omega
theorem rb01 (m i : Int) : rb m i = 0 ∨ rb m i = 1 := by
  have h : ∀ z : Int32, (z &&& Int32.ofInt 1).toInt = 0 ∨ (z &&& Int32.ofInt 1).toInt = 1 := by
    intro z
    have h1 : z.toBitVec &&& 1#32 = 0#32 ∨ z.toBitVec &&& 1#32 = 1#32 := by
      have h2 : (z.toBitVec &&& 1#32).toNat = z.toBitVec.toNat % 2 := by
        rw [BitVec.toNat_and]; exact Nat.and_one_is_mod _
      rcases Nat.mod_two_eq_zero_or_one z.toBitVec.toNat with h3 | h3
      · left; apply BitVec.eq_of_toNat_eq; rw [h2, h3]; rfl
      · right; apply BitVec.eq_of_toNat_eq; rw [h2, h3]; rfl
    rcases h1 with h1 | h1
    · left
      show (z &&& Int32.ofInt 1).toBitVec.toInt = 0
      rw [show (z &&& Int32.ofInt 1).toBitVec = z.toBitVec &&& 1#32 from rfl, h1]; rfl
    · right
      show (z &&& Int32.ofInt 1).toBitVec.toInt = 1
      rw [show (z &&& Int32.ofInt 1).toBitVec = z.toBitVec &&& 1#32 from rfl, h1]; rfl
  exact h _
def wnt (c : Int) : Int := if c = 43 ∨ c = 45 ∨ c = 42 ∨ c = 60 then 2 else if c = 63 then 3 else if c = 120 ∨ c = 102 then 1 else 0
theorem c_in (d : Nat) {G : Hp} {v lo hi : Int} : CX (d + 1) 109 [.inr (.inl v), .inr (.inl lo), .inr (.inl hi)] G (fun r G1 => G1 = G ∧ ∃ z, r = some (.inl z) ∧ (z = 0 ∨ z = 1) ∧ (z = 1 ↔ lo ≤ v ∧ v ≤ hi)) := by
  refine CX.of (d := d + 0) m_X10_in (Nat.le_of_ble_eq_true rfl) ?_
  refine Ex.lcl (ls' := [some (.inr (.inl v)), none, some (.inr (.inl lo)), none, some (.inr (.inl hi)), none]) rfl ?_
  refine x_lload_n (q := 1) dX10_in_0 rfl rfl ?_
  refine x_lload_n (q := 2) dX10_in_1 rfl rfl ?_
  refine x_lcmp2 (q := 3) dX10_in_2 rfl (fun z2 z2a z2b => ?_)
  refine x_if_lt (q := 6) (t := 17) dX10_in_3 rfl (by decide) (fun h3 => ?_) (fun h3 => ?_)
  · refine x_iconst (q := 18) dX10_in_17 rfl (by decide) ?_
    refine x_zret dX10_in_18 rfl (by decide) ?_
    exact ⟨rfl, 0, rfl, by omega, by omega⟩
  · refine x_lload_n (q := 7) dX10_in_6 rfl rfl ?_
    refine x_lload (q := 9) dX10_in_7 rfl rfl ?_
    refine x_lcmp2 (q := 10) dX10_in_9 rfl (fun z9 z9a z9b => ?_)
    refine x_if_gt (q := 13) (t := 17) dX10_in_10 rfl (by decide) (fun h10 => ?_) (fun h10 => ?_)
    · refine x_iconst (q := 18) dX10_in_17 rfl (by decide) ?_
      refine x_zret dX10_in_18 rfl (by decide) ?_
      exact ⟨rfl, 0, rfl, by omega, by omega⟩
    · refine x_iconst (q := 14) dX10_in_13 rfl (by decide) ?_
      refine x_goto (t := 18) dX10_in_14 (by decide) ?_
      refine x_zret dX10_in_18 rfl (by decide) ?_
      exact ⟨rfl, 1, rfl, by omega, by omega⟩
theorem c_has (d : Nat) {G : Hp} {s k : Int} : CX (d + 1) 110 [.inl s, .inl k] G (fun r G1 => G1 = G ∧ ∃ z, r = some (.inl z) ∧ (z = 0 ∨ z = 1) ∧ (z = 1 ↔ rb s k = 1)) := by
  refine CX.of (d := d + 0) m_X10_has (Nat.le_of_ble_eq_true rfl) ?_
  refine Ex.lcl (ls' := [some (.inl s), some (.inl k)]) rfl ?_
  refine x_iload_n (q := 1) dX10_has_0 rfl rfl ?_
  refine x_iload_n (q := 2) dX10_has_1 rfl rfl ?_
  refine x_ishr (q := 3) (z := (Int32.ofInt s >>> (Int32.ofInt k &&& 31)).toInt) dX10_has_2 rfl rfl ?_
  refine x_iconst (q := 4) dX10_has_3 rfl (by decide) ?_
  refine x_iand (q := 5) (z := rb s k) dX10_has_4 rfl rfl ?_
  refine x_iconst (q := 6) dX10_has_5 rfl (by decide) ?_
  refine x_icmp_ne (q := 9) (t := 13) dX10_has_6 rfl (by decide) (fun h6 => ?_) (fun h6 => ?_)
  · refine x_iconst (q := 14) dX10_has_13 rfl (by decide) ?_
    refine x_zret dX10_has_14 rfl (by decide) ?_
    exact ⟨rfl, 0, rfl, by omega, by omega⟩
  · refine x_iconst (q := 10) dX10_has_9 rfl (by decide) ?_
    refine x_goto (t := 14) dX10_has_10 (by decide) ?_
    refine x_zret dX10_has_14 rfl (by decide) ?_
    exact ⟨rfl, 1, rfl, by omega, by omega⟩
theorem c_wants (d : Nat) {G : Hp} {c : Int} : CX (d + 1) 114 [.inl c] G (fun r G1 => G1 = G ∧ r = some (.inl (wnt c))) := by
  refine CX.of (d := d + 0) m_X10_wants (Nat.le_of_ble_eq_true rfl) ?_
  refine Ex.lcl (ls' := [some (.inl c)]) rfl ?_
  refine x_iload_n (q := 1) dX10_wants_0 rfl rfl ?_
  refine x_bipush (q := 3) dX10_wants_1 rfl (by decide) ?_
  refine x_icmp_eq (q := 6) (t := 24) dX10_wants_3 rfl (by decide) (fun h3 => ?_) (fun h3 => ?_)
  · refine x_iconst (q := 25) dX10_wants_24 rfl (by decide) ?_
    refine x_iret dX10_wants_25 rfl ?_
    refine ⟨rfl, ?_⟩
    congr 2
    unfold wnt
    (repeat' split) <;> omega
  · refine x_iload_n (q := 7) dX10_wants_6 rfl rfl ?_
    refine x_bipush (q := 9) dX10_wants_7 rfl (by decide) ?_
    refine x_icmp_eq (q := 12) (t := 24) dX10_wants_9 rfl (by decide) (fun h9 => ?_) (fun h9 => ?_)
    · refine x_iconst (q := 25) dX10_wants_24 rfl (by decide) ?_
      refine x_iret dX10_wants_25 rfl ?_
      refine ⟨rfl, ?_⟩
      congr 2
      unfold wnt
      (repeat' split) <;> omega
    · refine x_iload_n (q := 13) dX10_wants_12 rfl rfl ?_
      refine x_bipush (q := 15) dX10_wants_13 rfl (by decide) ?_
      refine x_icmp_eq (q := 18) (t := 24) dX10_wants_15 rfl (by decide) (fun h15 => ?_) (fun h15 => ?_)
      · refine x_iconst (q := 25) dX10_wants_24 rfl (by decide) ?_
        refine x_iret dX10_wants_25 rfl ?_
        refine ⟨rfl, ?_⟩
        congr 2
        unfold wnt
        (repeat' split) <;> omega
      · refine x_iload_n (q := 19) dX10_wants_18 rfl rfl ?_
        refine x_bipush (q := 21) dX10_wants_19 rfl (by decide) ?_
        refine x_icmp_ne (q := 24) (t := 26) dX10_wants_21 rfl (by decide) (fun h21 => ?_) (fun h21 => ?_)
        · refine x_iload_n (q := 27) dX10_wants_26 rfl rfl ?_
          refine x_bipush (q := 29) dX10_wants_27 rfl (by decide) ?_
          refine x_icmp_ne (q := 32) (t := 36) dX10_wants_29 rfl (by decide) (fun h29 => ?_) (fun h29 => ?_)
          · refine x_iload_n (q := 37) dX10_wants_36 rfl rfl ?_
            refine x_bipush (q := 39) dX10_wants_37 rfl (by decide) ?_
            refine x_icmp_eq (q := 42) (t := 48) dX10_wants_39 rfl (by decide) (fun h39 => ?_) (fun h39 => ?_)
            · refine x_iconst (q := 49) dX10_wants_48 rfl (by decide) ?_
              refine x_goto (t := 53) dX10_wants_49 (by decide) ?_
              refine x_iret dX10_wants_53 rfl ?_
              refine ⟨rfl, ?_⟩
              congr 2
              unfold wnt
              (repeat' split) <;> omega
            · refine x_iload_n (q := 43) dX10_wants_42 rfl rfl ?_
              refine x_bipush (q := 45) dX10_wants_43 rfl (by decide) ?_
              refine x_icmp_ne (q := 48) (t := 52) dX10_wants_45 rfl (by decide) (fun h45 => ?_) (fun h45 => ?_)
              · refine x_iconst (q := 53) dX10_wants_52 rfl (by decide) ?_
                refine x_iret dX10_wants_53 rfl ?_
                refine ⟨rfl, ?_⟩
                congr 2
                unfold wnt
                (repeat' split) <;> omega
              · refine x_iconst (q := 49) dX10_wants_48 rfl (by decide) ?_
                refine x_goto (t := 53) dX10_wants_49 (by decide) ?_
                refine x_iret dX10_wants_53 rfl ?_
                refine ⟨rfl, ?_⟩
                congr 2
                unfold wnt
                (repeat' split) <;> omega
          · refine x_iconst (q := 33) dX10_wants_32 rfl (by decide) ?_
            refine x_goto (t := 53) dX10_wants_33 (by decide) ?_
            refine x_iret dX10_wants_53 rfl ?_
            refine ⟨rfl, ?_⟩
            congr 2
            unfold wnt
            (repeat' split) <;> omega
        · refine x_iconst (q := 25) dX10_wants_24 rfl (by decide) ?_
          refine x_iret dX10_wants_25 rfl ?_
          refine ⟨rfl, ?_⟩
          congr 2
          unfold wnt
          (repeat' split) <;> omega
theorem c_counted (d : Nat) {G : Hp} {c x y : Int} (hc : c = 43 ∨ c = 45 ∨ c = 42 ∨ c = 60) (hx : 0 ≤ x ∧ x ≤ 996) (hy : 0 ≤ y ∧ y ≤ 996) : CX (d + 1) 117 [.inl c, .inl x, .inl y] G (fun r G1 => G1 = G ∧ r = some (.inl (opv c x y))) := by
  refine CX.of (d := d + 0) m_X10_counted (Nat.le_of_ble_eq_true rfl) ?_
  refine Ex.lcl (ls' := [some (.inl c), some (.inl x), some (.inl y)]) rfl ?_
  refine x_iload_n (q := 1) dX10_counted_0 rfl rfl ?_
  rcases Decidable.em (c < 42 ∨ 45 < c) with hs1 | hs1
  · refine x_tableOut (t := 60) dX10_counted_1 hs1 (by decide) ?_
    refine x_iload_n (q := 61) dX10_counted_60 rfl rfl ?_
    refine x_iload_n (q := 62) dX10_counted_61 rfl rfl ?_
    refine x_icmp_ge (q := 65) (t := 69) dX10_counted_62 rfl (by decide) (fun h62 => ?_) (fun h62 => ?_)
    · refine x_iconst (q := 70) dX10_counted_69 rfl (by decide) ?_
      refine x_iret dX10_counted_70 rfl ?_
      refine ⟨rfl, ?_⟩
      congr 2
      unfold opv
      (repeat' split) <;> first | rfl | omega
    · refine x_iconst (q := 66) dX10_counted_65 rfl (by decide) ?_
      refine x_goto (t := 70) dX10_counted_66 (by decide) ?_
      refine x_iret dX10_counted_70 rfl ?_
      refine ⟨rfl, ?_⟩
      congr 2
      unfold opv
      (repeat' split) <;> first | rfl | omega
  obtain hs1 | hs1 | hs1 | hs1 : c = 42 ∨ c = 43 ∨ c = 44 ∨ c = 45 := by omega
  · refine x_tableIn (t := 52) (off := 51) dX10_counted_1 (by omega) (by omega) (by rw [hs1]; rfl) (by decide) ?_
    refine x_iload_n (q := 53) dX10_counted_52 rfl rfl ?_
    refine x_iload_n (q := 54) dX10_counted_53 rfl rfl ?_
    refine x_imul (q := 55) (z := x * y) dX10_counted_54 rfl (wr_id ⟨by have := Int.mul_nonneg hx.1 hy.1; omega, by have := Int.mul_le_mul hx.2 hy.2 hy.1 (by omega : (0 : Int) ≤ 996); omega⟩) ?_
    refine x_sipush (q := 58) dX10_counted_55 rfl (by decide) ?_
    refine x_irem (q := 59) (z := (x * y) % 997) dX10_counted_58 rfl (by omega) (Int.tmod_eq_emod_of_nonneg (by first | omega | exact Int.mul_nonneg (by omega) (by omega))) ?_
    refine x_iret dX10_counted_59 rfl ?_
    refine ⟨rfl, ?_⟩
    congr 2
    unfold opv
    (repeat' split) <;> first | rfl | omega
  · refine x_tableIn (t := 32) (off := 31) dX10_counted_1 (by omega) (by omega) (by rw [hs1]; rfl) (by decide) ?_
    refine x_iload_n (q := 33) dX10_counted_32 rfl rfl ?_
    refine x_iload_n (q := 34) dX10_counted_33 rfl rfl ?_
    refine x_iadd (q := 35) (z := x + y) dX10_counted_34 rfl (wr_id ⟨by omega, by omega⟩) ?_
    refine x_sipush (q := 38) dX10_counted_35 rfl (by decide) ?_
    refine x_irem (q := 39) (z := (x + y) % 997) dX10_counted_38 rfl (by omega) (Int.tmod_eq_emod_of_nonneg (by first | omega | exact Int.mul_nonneg (by omega) (by omega))) ?_
    refine x_iret dX10_counted_39 rfl ?_
    refine ⟨rfl, ?_⟩
    congr 2
    unfold opv
    (repeat' split) <;> first | rfl | omega
  · refine x_tableIn (t := 60) (off := 59) dX10_counted_1 (by omega) (by omega) (by rw [hs1]; rfl) (by decide) ?_
    refine x_iload_n (q := 61) dX10_counted_60 rfl rfl ?_
    refine x_iload_n (q := 62) dX10_counted_61 rfl rfl ?_
    refine x_icmp_ge (q := 65) (t := 69) dX10_counted_62 rfl (by decide) (fun h62 => ?_) (fun h62 => ?_)
    · refine x_iconst (q := 70) dX10_counted_69 rfl (by decide) ?_
      refine x_iret dX10_counted_70 rfl ?_
      refine ⟨rfl, ?_⟩
      congr 2
      unfold opv
      (repeat' split) <;> first | rfl | omega
    · refine x_iconst (q := 66) dX10_counted_65 rfl (by decide) ?_
      refine x_goto (t := 70) dX10_counted_66 (by decide) ?_
      refine x_iret dX10_counted_70 rfl ?_
      refine ⟨rfl, ?_⟩
      congr 2
      unfold opv
      (repeat' split) <;> first | rfl | omega
  · refine x_tableIn (t := 40) (off := 39) dX10_counted_1 (by omega) (by omega) (by rw [hs1]; rfl) (by decide) ?_
    refine x_iload_n (q := 41) dX10_counted_40 rfl rfl ?_
    refine x_iload_n (q := 42) dX10_counted_41 rfl rfl ?_
    refine x_isub (q := 43) (z := x - y) dX10_counted_42 rfl (wr_id ⟨by omega, by omega⟩) ?_
    refine x_sipush (q := 46) dX10_counted_43 rfl (by decide) ?_
    refine x_iadd (q := 47) (z := (x - y) + 997) dX10_counted_46 rfl (wr_id ⟨by omega, by omega⟩) ?_
    refine x_sipush (q := 50) dX10_counted_47 rfl (by decide) ?_
    refine x_irem (q := 51) (z := ((x - y) + 997) % 997) dX10_counted_50 rfl (by omega) (Int.tmod_eq_emod_of_nonneg (by first | omega | exact Int.mul_nonneg (by omega) (by omega))) ?_
    refine x_iret dX10_counted_51 rfl ?_
    refine ⟨rfl, ?_⟩
    congr 2
    unfold opv
    (repeat' split) <;> first | rfl | omega
theorem c_push (d : Nat) {G : Hp} (hF : FM G) {w a b : Int} (hw : iv G 35 40 = w) (h0 : 0 ≤ w) (h1 : w < 1200) : CX (d + 1) 113 [.inr (.inr (some 35)), .inl a, .inl b] G (fun r G1 => r = none ∧ G1 = si (si (si (si G 60 w a) 61 w 0) 62 w b) 35 40 (w + 1)) := by
  refine CX.of (d := d + 0) m_X10_push (Nat.le_of_ble_eq_true rfl) ?_
  refine Ex.lcl (ls' := [some (.inr (.inr (some 35))), some (.inl a), some (.inl b)]) rfl ?_
  refine x_aload_n (q := 1) dX10_push_0 rfl rfl ?_
  refine x_getR (q := 4) dX10_push_1 rfl f_10_86 rfl (ft35 hF) ?_
  refine Ex.stk (st' := [.inr (.inr (some 60))]) (by rw [fr35_37 hF]) ?_
  refine x_aload_n (q := 5) dX10_push_4 rfl rfl ?_
  refine x_getI (q := 8) dX10_push_5 rfl f_10_108 rfl (ft35 hF) ?_
  refine Ex.stk (st' := [.inl w, .inr (.inr (some 60))]) (by rw [show iv G 35 40 = w from hw]) ?_
  refine x_iload_n (q := 9) dX10_push_8 rfl rfl ?_
  refine x_iastore (q := 10) dX10_push_9 rfl (ft60 hF) (by omega) (by rw [fl60 hF]; omega) ?_
  have hF := FX_si hF 60 w a
  refine x_aload_n (q := 11) dX10_push_10 rfl rfl ?_
  refine x_getR (q := 14) dX10_push_11 rfl f_10_89 rfl (ft35 hF) ?_
  refine Ex.stk (st' := [.inr (.inr (some 61))]) (by rw [fr35_38 hF]) ?_
  refine x_aload_n (q := 15) dX10_push_14 rfl rfl ?_
  refine x_getI (q := 18) dX10_push_15 rfl f_10_108 rfl (ft35 hF) ?_
  refine Ex.stk (st' := [.inl w, .inr (.inr (some 61))]) (by rw [show iv (si G 60 w a) 35 40 = w from (by simp [iv_si, iv_sr, iv_nw, hw])]) ?_
  refine x_iconst (q := 19) dX10_push_18 rfl (by decide) ?_
  refine x_iastore (q := 20) dX10_push_19 rfl (ft61 hF) (by omega) (by rw [fl61 hF]; omega) ?_
  have hF := FX_si hF 61 w 0
  refine x_aload_n (q := 21) dX10_push_20 rfl rfl ?_
  refine x_getR (q := 24) dX10_push_21 rfl f_10_92 rfl (ft35 hF) ?_
  refine Ex.stk (st' := [.inr (.inr (some 62))]) (by rw [fr35_39 hF]) ?_
  refine x_aload_n (q := 25) dX10_push_24 rfl rfl ?_
  refine x_getI (q := 28) dX10_push_25 rfl f_10_108 rfl (ft35 hF) ?_
  refine Ex.stk (st' := [.inl w, .inr (.inr (some 62))]) (by rw [show iv (si (si G 60 w a) 61 w 0) 35 40 = w from (by simp [iv_si, iv_sr, iv_nw, hw])]) ?_
  refine x_iload_n (q := 29) dX10_push_28 rfl rfl ?_
  refine x_iastore (q := 30) dX10_push_29 rfl (ft62 hF) (by omega) (by rw [fl62 hF]; omega) ?_
  have hF := FX_si hF 62 w b
  refine x_aload_n (q := 31) dX10_push_30 rfl rfl ?_
  refine x_dup (q := 32) dX10_push_31 rfl rfl ?_
  refine x_getI (q := 35) dX10_push_32 rfl f_10_108 rfl (ft35 hF) ?_
  refine Ex.stk (st' := [.inl w, .inr (.inr (some 35))]) (by rw [show iv (si (si (si G 60 w a) 61 w 0) 62 w b) 35 40 = w from (by simp [iv_si, iv_sr, iv_nw, hw])]) ?_
  refine x_iconst (q := 36) dX10_push_35 rfl (by decide) ?_
  refine x_iadd (q := 37) (z := w + 1) dX10_push_36 rfl (wr_id ⟨by omega, by omega⟩) ?_
  refine x_putI (q := 40) dX10_push_37 rfl f_10_108 rfl (fun h => by cases h) (fun h => by cases h) (ft35 hF) ?_
  have hF := FX_si hF 35 40 (w + 1)
  refine x_vret dX10_push_40 rfl ?_
  exact ⟨rfl, rfl⟩
end
section
/-! THE MODEL: the machine that goes through terms -/
theorem si_si (G : Hp) (a : Nat) (k v v' : Int) : si (si G a k v) a k v' = si G a k v' := by
  unfold si
  simp only [Prod.mk.injEq, true_and, and_true]
  funext b j
  by_cases h : b = a ∧ j = k
  · rw [if_pos h, if_pos h]
  · rw [if_neg h, if_neg h, if_neg h]
theorem si_self (G : Hp) (a : Nat) (k v : Int) (h : iv G a k = v) : si G a k v = G := by
  obtain ⟨g1, g2, g3, g4, g5⟩ := G
  unfold si
  simp only [Prod.mk.injEq, true_and, and_true]
  funext b j
  by_cases hb : b = a ∧ j = k
  · rw [if_pos hb, hb.1, hb.2, ← h]; rfl
  · rw [if_neg hb]
theorem si_comm (G : Hp) {a b : Nat} {j k : Int} (v v' : Int) (h : ¬ (a = b ∧ j = k)) : si (si G a j v) b k v' = si (si G b k v') a j v := by
  unfold si
  simp only [Prod.mk.injEq, true_and, and_true]
  funext c i
  by_cases h1 : c = a ∧ i = j
  · have h2 : ¬ (c = b ∧ i = k) := fun h2 => h ⟨h1.1.symm.trans h2.1, h1.2.symm.trans h2.2⟩
    simp only [if_pos h1, if_neg h2]
  · by_cases h2 : c = b ∧ i = k
    · simp only [if_neg h1, if_pos h2]
    · simp only [if_neg h1, if_neg h2]
theorem wnt_bd (c : Int) : 0 ≤ wnt c ∧ wnt c ≤ 3 := by
  unfold wnt; (repeat' split) <;> omega
/-- a well formed term from a to b, at most n deep -/
def Tm (cd : Int → Int) : Nat → Int → Int → Prop
  | 0, _, _ => False
  | n + 1, a, b => (((48 ≤ cd a ∧ cd a ≤ 57) ∨ cd a = 110) ∧ b = a + 1) ∨ (cd a = 120 ∧ Tm cd n (a + 1) b) ∨ (cd a = 102 ∧ 48 ≤ cd (a + 1) ∧ cd (a + 1) ≤ 52 ∧ Tm cd n (a + 2) b) ∨ ((cd a = 43 ∨ cd a = 45 ∨ cd a = 42 ∨ cd a = 60) ∧ ∃ m, Tm cd n (a + 1) m ∧ Tm cd n m b) ∨ (cd a = 63 ∧ ∃ m1 m2, Tm cd n (a + 1) m1 ∧ Tm cd n m1 m2 ∧ Tm cd n m2 b)
theorem Tm_lt {cd : Int → Int} : ∀ {n : Nat} {a b : Int}, Tm cd n a b → a < b := by
  intro n
  induction n with
  | zero => intro a b h; exact h.elim
  | succ n ih =>
    intro a b h
    rcases h with ⟨-, h⟩ | ⟨-, h⟩ | ⟨-, -, -, h⟩ | ⟨-, m, h1, h2⟩ | ⟨-, m1, m2, h1, h2, h3⟩
    · omega
    · have := ih h; omega
    · have := ih h; omega
    · have := ih h1; have := ih h2; omega
    · have := ih h1; have := ih h2; have := ih h3; omega
theorem Tm_tend {cd : Int → Int} : ∀ {n : Nat} {a b : Int}, Tm cd n a b → tend cd n a = b := by
  intro n
  induction n with
  | zero => intro a b h; exact h.elim
  | succ n ih =>
    intro a b h
    unfold tend
    rcases h with ⟨h0, h⟩ | ⟨h0, h⟩ | ⟨h0, -, -, h⟩ | ⟨h0, m, h1, h2⟩ | ⟨h0, m1, m2, h1, h2, h3⟩
    · rw [if_neg (by omega), if_neg (by omega), if_neg (by omega), if_neg (by omega)]; omega
    · rw [if_pos h0]; exact ih h
    · rw [if_neg (by omega), if_pos h0]; exact ih h
    · rw [if_neg (by omega), if_neg (by omega), if_pos h0, ih h1]; exact ih h2
    · rw [if_neg (by omega), if_neg (by omega), if_neg (by omega), if_pos h0, ih h1, ih h2]; exact ih h3
theorem skip_turn {d : Nat} {G : Hp} {Q : Option V → Hp → Prop} (hF : FM G) {a j c : Int} {l2 : Option V} (hn : isL l2 = false) (hj : 0 < j) (hj2 : j < 100000) (h0 : 0 ≤ a) (h1 : a < 160) (hc : iv G 42 a = c) (hk : Ex (d + 1) none 10 false cX10_skip 2 [some (.inr (.inr (some 35))), some (.inl (j + wnt c - 1)), some (.inl c)] [] (si G 35 41 (a + (if c = 102 then 2 else 1))) Q) : Ex (d + 1) none 10 false cX10_skip 2 [some (.inr (.inr (some 35))), some (.inl j), l2] [] (si G 35 41 a) Q := by
  have hwn := wnt_bd c
  have hF := FX_si hF 35 41 a
  have hnl : noL [some (.inr (.inr (some 35))), some (.inl j), l2] = true := by simp [noL, isL] at hn ⊢; exact hn
  refine x_iload_n (q := 3) dX10_skip_2 rfl rfl ?_
  refine x_if_le (q := 6) (t := 48) dX10_skip_3 rfl (by decide) (fun h3 => by exfalso; omega) (fun h3 => ?_)
  refine x_aload_n (q := 7) dX10_skip_6 rfl rfl ?_
  refine x_getR (q := 10) dX10_skip_7 rfl f_10_32 rfl (ft35 hF) ?_
  refine Ex.stk (st' := [.inr (.inr (some 42))]) (by rw [fr35_12 hF]) ?_
  refine x_aload_n (q := 11) dX10_skip_10 rfl rfl ?_
  refine x_getI (q := 14) dX10_skip_11 rfl f_10_111 rfl (ft35 hF) ?_
  refine Ex.stk (st' := [.inl a, .inr (.inr (some 42))]) (by rw [show iv (si G 35 41 a) 35 41 = a from (by simp [iv_si])]) ?_
  refine x_iaload (q := 15) dX10_skip_14 rfl (Or.inl (ft42 hF)) (by omega) (by rw [fl42 hF]; omega) ?_
  refine Ex.stk (st' := [.inl c]) (by rw [show iv (si G 35 41 a) 42 a = c from (by simp [iv_si, iv_sr, iv_nw, hc])]) ?_
  refine x_istore_n (q := 16) (ls' := [some (.inr (.inr (some 35))), some (.inl j), some (.inl c)]) dX10_skip_15 rfl (Nat.le_of_ble_eq_true rfl) (by first | rfl | exact hnl) rfl ?_
  refine x_aload_n (q := 17) dX10_skip_16 rfl rfl ?_
  refine x_dup (q := 18) dX10_skip_17 rfl rfl ?_
  refine x_getI (q := 21) dX10_skip_18 rfl f_10_111 rfl (ft35 hF) ?_
  refine Ex.stk (st' := [.inl a, .inr (.inr (some 35))]) (by rw [show iv (si G 35 41 a) 35 41 = a from (by simp [iv_si])]) ?_
  refine x_iload_n (q := 22) dX10_skip_21 rfl rfl ?_
  refine x_bipush (q := 24) dX10_skip_22 rfl (by decide) ?_
  refine x_icmp_ne (q := 27) (t := 31) dX10_skip_24 rfl (by decide) (fun h24 => ?_) (fun h24 => ?_)
  · refine x_iconst (q := 32) dX10_skip_31 rfl (by decide) ?_
    refine x_iadd (q := 33) (z := a + 1) dX10_skip_32 rfl (wr_id ⟨by omega, by omega⟩) ?_
    refine x_putI (q := 36) dX10_skip_33 rfl f_10_111 rfl (fun h => by cases h) (fun h => by cases h) (ft35 hF) ?_
    have hF := FX_si hF 35 41 (a + 1)
    refine x_iload_n (q := 37) dX10_skip_36 rfl rfl ?_
    refine x_iload_n (q := 38) dX10_skip_37 rfl rfl ?_
    refine x_invS (q := 41) (as := [.inl c]) (rest := [.inl j]) dX10_skip_38 rfl l_10_114 m_X10_wants rfl rfl (Nat.le_of_ble_eq_true rfl) (Nat.le_of_ble_eq_true rfl) (c_wants _) (fun r1 G1 hR => ?_)
    obtain ⟨rfl, rfl⟩ := hR
    refine Ex.stk (st' := [.inl (wnt c), .inl j]) rfl ?_
    refine x_iconst (q := 42) dX10_skip_41 rfl (by decide) ?_
    refine x_isub (q := 43) (z := (wnt c) - 1) dX10_skip_42 rfl (wr_id ⟨by omega, by omega⟩) ?_
    refine x_iadd (q := 44) (z := j + ((wnt c) - 1)) dX10_skip_43 rfl (wr_id ⟨by omega, by omega⟩) ?_
    refine x_istore_n (q := 45) (ls' := [some (.inr (.inr (some 35))), some (.inl (j + ((wnt c) - 1))), some (.inl c)]) dX10_skip_44 rfl (Nat.le_of_ble_eq_true rfl) (by first | rfl | exact hnl) rfl ?_
    refine x_goto (t := 2) dX10_skip_45 (by decide) ?_
    rw [si_si]
    have e1 : j + ((wnt c) - 1) = j + wnt c - 1 := by omega
    have e2 : a + (1) = a + (if c = 102 then 2 else 1) := by split <;> omega
    rw [e1, e2]
    exact hk
  · refine x_iconst (q := 28) dX10_skip_27 rfl (by decide) ?_
    refine x_goto (t := 32) dX10_skip_28 (by decide) ?_
    refine x_iadd (q := 33) (z := a + 2) dX10_skip_32 rfl (wr_id ⟨by omega, by omega⟩) ?_
    refine x_putI (q := 36) dX10_skip_33 rfl f_10_111 rfl (fun h => by cases h) (fun h => by cases h) (ft35 hF) ?_
    have hF := FX_si hF 35 41 (a + 2)
    refine x_iload_n (q := 37) dX10_skip_36 rfl rfl ?_
    refine x_iload_n (q := 38) dX10_skip_37 rfl rfl ?_
    refine x_invS (q := 41) (as := [.inl c]) (rest := [.inl j]) dX10_skip_38 rfl l_10_114 m_X10_wants rfl rfl (Nat.le_of_ble_eq_true rfl) (Nat.le_of_ble_eq_true rfl) (c_wants _) (fun r1 G1 hR => ?_)
    obtain ⟨rfl, rfl⟩ := hR
    refine Ex.stk (st' := [.inl (wnt c), .inl j]) rfl ?_
    refine x_iconst (q := 42) dX10_skip_41 rfl (by decide) ?_
    refine x_isub (q := 43) (z := (wnt c) - 1) dX10_skip_42 rfl (wr_id ⟨by omega, by omega⟩) ?_
    refine x_iadd (q := 44) (z := j + ((wnt c) - 1)) dX10_skip_43 rfl (wr_id ⟨by omega, by omega⟩) ?_
    refine x_istore_n (q := 45) (ls' := [some (.inr (.inr (some 35))), some (.inl (j + ((wnt c) - 1))), some (.inl c)]) dX10_skip_44 rfl (Nat.le_of_ble_eq_true rfl) (by first | rfl | exact hnl) rfl ?_
    refine x_goto (t := 2) dX10_skip_45 (by decide) ?_
    rw [si_si]
    have e1 : j + ((wnt c) - 1) = j + wnt c - 1 := by omega
    have e2 : a + (2) = a + (if c = 102 then 2 else 1) := by split <;> omega
    rw [e1, e2]
    exact hk
theorem skip_loop {d : Nat} {G : Hp} {Q : Option V → Hp → Prop} (hF : FM G) : ∀ (n : Nat) (a b k : Int) (l2 : Option V), Tm (iv G 42) n a b → isL l2 = false → 0 ≤ a → b ≤ 160 → 0 ≤ k → k + (b - a) < 50000 → (∀ l3 : Option V, isL l3 = false → Ex (d + 1) none 10 false cX10_skip 2 [some (.inr (.inr (some 35))), some (.inl k), l3] [] (si G 35 41 b) Q) → Ex (d + 1) none 10 false cX10_skip 2 [some (.inr (.inr (some 35))), some (.inl (k + 1)), l2] [] (si G 35 41 a) Q := by
  intro n
  induction n with
  | zero => intro a b k l2 h; exact h.elim
  | succ n ih =>
    intro a b k l2 h hl h0 h1 hk hk2 kk
    have hlt := Tm_lt h
    refine skip_turn hF hl (by omega) (by omega) h0 (by omega) rfl ?_
    rcases h with ⟨c0, h⟩ | ⟨c0, h⟩ | ⟨c0, -, -, h⟩ | ⟨c0, m, g1, g2⟩ | ⟨c0, m1, m2, g1, g2, g3⟩
    · have e1 : wnt (iv G 42 a) = 0 := by unfold wnt; (repeat' split) <;> omega
      rw [e1, if_neg (by omega), show k + 1 + 0 - 1 = k from by omega, ← h]
      exact kk _ rfl
    · have e1 : wnt (iv G 42 a) = 1 := by unfold wnt; (repeat' split) <;> omega
      rw [e1, if_neg (by omega), show k + 1 + 1 - 1 = k + 1 from by omega]
      exact ih (a + 1) b k _ h rfl (by omega) h1 hk (by omega) kk
    · have e1 : wnt (iv G 42 a) = 1 := by unfold wnt; (repeat' split) <;> omega
      rw [e1, if_pos c0, show k + 1 + 1 - 1 = k + 1 from by omega]
      exact ih (a + 2) b k _ h rfl (by omega) h1 hk (by omega) kk
    · have e1 : wnt (iv G 42 a) = 2 := by unfold wnt; (repeat' split) <;> omega
      have := Tm_lt g1
      have := Tm_lt g2
      rw [e1, if_neg (by omega), show k + 1 + 2 - 1 = (k + 1) + 1 from by omega]
      exact ih (a + 1) m (k + 1) _ g1 rfl (by omega) (by omega) (by omega) (by omega) (fun l3 hl3 => ih m b k _ g2 hl3 (by omega) h1 hk (by omega) kk)
    · have e1 : wnt (iv G 42 a) = 3 := by unfold wnt; (repeat' split) <;> omega
      have := Tm_lt g1
      have := Tm_lt g2
      have := Tm_lt g3
      rw [e1, if_neg (by omega), show k + 1 + 3 - 1 = (k + 1 + 1) + 1 from by omega]
      exact ih (a + 1) m1 (k + 1 + 1) _ g1 rfl (by omega) (by omega) (by omega) (by omega) (fun l3 hl3 => ih m1 m2 (k + 1) _ g2 hl3 (by omega) (by omega) (by omega) (by omega) (fun l4 hl4 => ih m2 b k _ g3 hl4 (by omega) h1 hk (by omega) kk))
theorem c_skip (d : Nat) {G : Hp} (hF : FM G) {n : Nat} {a b : Int} (ha : iv G 35 41 = a) (hT : Tm (iv G 42) n a b) (h0 : 0 ≤ a) (h1 : b ≤ 160) : CX (d + 2) 115 [.inr (.inr (some 35))] G (fun r G1 => r = none ∧ G1 = si G 35 41 b) := by
  refine CX.of (d := d + 1) m_X10_skip (Nat.le_of_ble_eq_true rfl) ?_
  refine Ex.lcl (ls' := [some (.inr (.inr (some 35))), none, none]) rfl ?_
  refine x_iconst (q := 1) dX10_skip_0 rfl (by decide) ?_
  refine x_istore_n (q := 2) (ls' := [some (.inr (.inr (some 35))), some (.inl 1), none]) dX10_skip_1 rfl (Nat.le_of_ble_eq_true rfl) (by first | rfl | exact hnl) rfl ?_
  refine Ex.mem (si_self G 35 41 a ha).symm ?_
  refine skip_loop (G := G) hF n a b 0 none hT rfl h0 h1 (by omega) (by omega) (fun l3 hl3 => ?_)
  have hnl : noL [some (.inr (.inr (some 35))), some (.inl 0), l3] = true := by simp [noL, isL] at hl3 ⊢; exact hl3
  refine x_iload_n (q := 3) dX10_skip_2 rfl rfl ?_
  refine x_if_le (q := 6) (t := 48) dX10_skip_3 rfl (by decide) (fun _ => ?_) (fun h => by exfalso; omega)
  refine x_vret dX10_skip_48 rfl ?_
  exact ⟨rfl, rfl⟩
theorem c_begin (d : Nat) {G : Hp} (hF : FM G) {f x w a cur nc ab : Int} (hw : iv G 35 40 = w) (ha : iv G 35 41 = a) (hcur : iv G 35 42 = cur) (hnc : iv G 35 29 = nc) (hab : (nc = 0 ∧ ab = 0) ∨ (nc ≠ 0 ∧ iv G 55 cur = ab)) (w0 : 0 ≤ w) (w1 : w < 1200) (n0 : 0 ≤ nc) (n1 : nc < 364) (c0 : 0 ≤ cur) (c1 : cur < 364) (f0 : 0 ≤ f) (f1 : f < 5) (b0 : 0 ≤ ab) (b1 : ab < 100) : CX (d + 2) 116 [.inr (.inr (some 35)), .inl f, .inl x] G (fun r G1 => r = none ∧ G1 = si (si (si (si (si (si (si (si (si (si (si (si G 35 42 nc) 52 nc f) 53 nc x) 55 nc (ab + 1)) 56 nc 0) 35 29 (nc + 1)) 60 w 67) 61 w 0) 62 w cur) 35 40 (w + 1)) 61 w a) 35 41 (iv G 43 f)) := by
  have K20 : Ex (d + 1) none 10 false cX10_begin 20 [some (.inr (.inr (some 35))), some (.inl f), some (.inl x), none, none] [.inl ab] G (fun r G1 => r = none ∧ G1 = si (si (si (si (si (si (si (si (si (si (si (si G 35 42 nc) 52 nc f) 53 nc x) 55 nc (ab + 1)) 56 nc 0) 35 29 (nc + 1)) 60 w 67) 61 w 0) 62 w cur) 35 40 (w + 1)) 61 w a) 35 41 (iv G 43 f)) := by
    refine x_istore_n (q := 21) (ls' := [some (.inr (.inr (some 35))), some (.inl f), some (.inl x), some (.inl ab), none]) dX10_begin_20 rfl (Nat.le_of_ble_eq_true rfl) (by first | rfl | exact hnl) rfl ?_
    refine x_aload_n (q := 22) dX10_begin_21 rfl rfl ?_
    refine x_getI (q := 25) dX10_begin_22 rfl f_10_121 rfl (ft35 hF) ?_
    refine Ex.stk (st' := [.inl cur]) (by rw [show iv G 35 42 = cur from hcur]) ?_
    refine x_istore (q := 27) (ls' := [some (.inr (.inr (some 35))), some (.inl f), some (.inl x), some (.inl ab), some (.inl cur)]) dX10_begin_25 rfl (Nat.le_of_ble_eq_true rfl) (by first | rfl | exact hnl) rfl ?_
    refine x_aload_n (q := 28) dX10_begin_27 rfl rfl ?_
    refine x_aload_n (q := 29) dX10_begin_28 rfl rfl ?_
    refine x_getI (q := 32) dX10_begin_29 rfl f_10_118 rfl (ft35 hF) ?_
    refine Ex.stk (st' := [.inl nc, .inr (.inr (some 35))]) (by rw [show iv G 35 29 = nc from hnc]) ?_
    refine x_putI (q := 35) dX10_begin_32 rfl f_10_121 rfl (fun h => by cases h) (fun h => by cases h) (ft35 hF) ?_
    have hF := FX_si hF 35 42 nc
    refine x_aload_n (q := 36) dX10_begin_35 rfl rfl ?_
    refine x_getR (q := 39) dX10_begin_36 rfl f_10_62 rfl (ft35 hF) ?_
    refine Ex.stk (st' := [.inr (.inr (some 52))]) (by rw [fr35_24 hF]) ?_
    refine x_aload_n (q := 40) dX10_begin_39 rfl rfl ?_
    refine x_getI (q := 43) dX10_begin_40 rfl f_10_121 rfl (ft35 hF) ?_
    refine Ex.stk (st' := [.inl nc, .inr (.inr (some 52))]) (by rw [show iv (si G 35 42 nc) 35 42 = nc from (by simp [iv_si])]) ?_
    refine x_iload_n (q := 44) dX10_begin_43 rfl rfl ?_
    refine x_iastore (q := 45) dX10_begin_44 rfl (ft52 hF) (by omega) (by rw [fl52 hF]; omega) ?_
    have hF := FX_si hF 52 nc f
    refine x_aload_n (q := 46) dX10_begin_45 rfl rfl ?_
    refine x_getR (q := 49) dX10_begin_46 rfl f_10_65 rfl (ft35 hF) ?_
    refine Ex.stk (st' := [.inr (.inr (some 53))]) (by rw [fr35_25 hF]) ?_
    refine x_aload_n (q := 50) dX10_begin_49 rfl rfl ?_
    refine x_getI (q := 53) dX10_begin_50 rfl f_10_121 rfl (ft35 hF) ?_
    refine Ex.stk (st' := [.inl nc, .inr (.inr (some 53))]) (by rw [show iv (si (si G 35 42 nc) 52 nc f) 35 42 = nc from (by simp [iv_si])]) ?_
    refine x_iload_n (q := 54) dX10_begin_53 rfl rfl ?_
    refine x_iastore (q := 55) dX10_begin_54 rfl (ft53 hF) (by omega) (by rw [fl53 hF]; omega) ?_
    have hF := FX_si hF 53 nc x
    refine x_aload_n (q := 56) dX10_begin_55 rfl rfl ?_
    refine x_getR (q := 59) dX10_begin_56 rfl f_10_71 rfl (ft35 hF) ?_
    refine Ex.stk (st' := [.inr (.inr (some 55))]) (by rw [fr35_27 hF]) ?_
    refine x_aload_n (q := 60) dX10_begin_59 rfl rfl ?_
    refine x_getI (q := 63) dX10_begin_60 rfl f_10_121 rfl (ft35 hF) ?_
    refine Ex.stk (st' := [.inl nc, .inr (.inr (some 55))]) (by rw [show iv (si (si (si G 35 42 nc) 52 nc f) 53 nc x) 35 42 = nc from (by simp [iv_si])]) ?_
    refine x_iload_n (q := 64) dX10_begin_63 rfl rfl ?_
    refine x_iconst (q := 65) dX10_begin_64 rfl (by decide) ?_
    refine x_iadd (q := 66) (z := ab + 1) dX10_begin_65 rfl (wr_id ⟨by omega, by omega⟩) ?_
    refine x_iastore (q := 67) dX10_begin_66 rfl (ft55 hF) (by omega) (by rw [fl55 hF]; omega) ?_
    have hF := FX_si hF 55 nc (ab + 1)
    refine x_aload_n (q := 68) dX10_begin_67 rfl rfl ?_
    refine x_getR (q := 71) dX10_begin_68 rfl f_10_74 rfl (ft35 hF) ?_
    refine Ex.stk (st' := [.inr (.inr (some 56))]) (by rw [fr35_28 hF]) ?_
    refine x_aload_n (q := 72) dX10_begin_71 rfl rfl ?_
    refine x_getI (q := 75) dX10_begin_72 rfl f_10_121 rfl (ft35 hF) ?_
    refine Ex.stk (st' := [.inl nc, .inr (.inr (some 56))]) (by rw [show iv (si (si (si (si G 35 42 nc) 52 nc f) 53 nc x) 55 nc (ab + 1)) 35 42 = nc from (by simp [iv_si])]) ?_
    refine x_iconst (q := 76) dX10_begin_75 rfl (by decide) ?_
    refine x_iastore (q := 77) dX10_begin_76 rfl (ft56 hF) (by omega) (by rw [fl56 hF]; omega) ?_
    have hF := FX_si hF 56 nc 0
    refine x_aload_n (q := 78) dX10_begin_77 rfl rfl ?_
    refine x_dup (q := 79) dX10_begin_78 rfl rfl ?_
    refine x_getI (q := 82) dX10_begin_79 rfl f_10_118 rfl (ft35 hF) ?_
    refine Ex.stk (st' := [.inl nc, .inr (.inr (some 35))]) (by rw [show iv (si (si (si (si (si G 35 42 nc) 52 nc f) 53 nc x) 55 nc (ab + 1)) 56 nc 0) 35 29 = nc from (by simp [iv_si, hw, ha, hcur, hnc])]) ?_
    refine x_iconst (q := 83) dX10_begin_82 rfl (by decide) ?_
    refine x_iadd (q := 84) (z := nc + 1) dX10_begin_83 rfl (wr_id ⟨by omega, by omega⟩) ?_
    refine x_putI (q := 87) dX10_begin_84 rfl f_10_118 rfl (fun h => by cases h) (fun h => by cases h) (ft35 hF) ?_
    have hF := FX_si hF 35 29 (nc + 1)
    refine x_aload_n (q := 88) dX10_begin_87 rfl rfl ?_
    refine x_bipush (q := 90) dX10_begin_88 rfl (by decide) ?_
    refine x_iload (q := 92) dX10_begin_90 rfl rfl ?_
    refine x_invV (q := 95) (as := [.inr (.inr (some 35)), .inl 67, .inl cur]) (rest := []) dX10_begin_92 rfl l_10_124 m_X10_push rfl rfl (ft35 hF) (Nat.le_of_ble_eq_true rfl) (c_push _ (G := si (si (si (si (si (si G 35 42 nc) 52 nc f) 53 nc x) 55 nc (ab + 1)) 56 nc 0) 35 29 (nc + 1)) hF (w := w) (by simp [iv_si, hw]) (by omega) (by omega)) (fun r1 G1 hR => ?_)
    obtain ⟨rfl, rfl⟩ := hR
    have hF := FX_si (FX_si (FX_si (FX_si hF 60 w 67) 61 w 0) 62 w cur) 35 40 (w + 1)
    refine Ex.stk (st' := []) rfl ?_
    refine x_aload_n (q := 96) dX10_begin_95 rfl rfl ?_
    refine x_getR (q := 99) dX10_begin_96 rfl f_10_89 rfl (ft35 hF) ?_
    refine Ex.stk (st' := [.inr (.inr (some 61))]) (by rw [fr35_38 hF]) ?_
    refine x_aload_n (q := 100) dX10_begin_99 rfl rfl ?_
    refine x_getI (q := 103) dX10_begin_100 rfl f_10_108 rfl (ft35 hF) ?_
    refine Ex.stk (st' := [.inl (w + 1), .inr (.inr (some 61))]) (by rw [show iv (si (si (si (si (si (si (si (si (si (si G 35 42 nc) 52 nc f) 53 nc x) 55 nc (ab + 1)) 56 nc 0) 35 29 (nc + 1)) 60 w 67) 61 w 0) 62 w cur) 35 40 (w + 1)) 35 40 = w + 1 from (by simp [iv_si])]) ?_
    refine x_iconst (q := 104) dX10_begin_103 rfl (by decide) ?_
    refine x_isub (q := 105) (z := w) dX10_begin_104 rfl (by rw [show w + 1 - 1 = w from by omega]; exact wr_id ⟨by omega, by omega⟩) ?_
    refine x_aload_n (q := 106) dX10_begin_105 rfl rfl ?_
    refine x_getI (q := 109) dX10_begin_106 rfl f_10_111 rfl (ft35 hF) ?_
    refine Ex.stk (st' := [.inl a, .inl w, .inr (.inr (some 61))]) (by rw [show iv (si (si (si (si (si (si (si (si (si (si G 35 42 nc) 52 nc f) 53 nc x) 55 nc (ab + 1)) 56 nc 0) 35 29 (nc + 1)) 60 w 67) 61 w 0) 62 w cur) 35 40 (w + 1)) 35 41 = a from (by simp [iv_si, hw, ha, hcur, hnc])]) ?_
    refine x_iastore (q := 110) dX10_begin_109 rfl (ft61 hF) (by omega) (by rw [fl61 hF]; omega) ?_
    have hF := FX_si hF 61 w a
    refine x_aload_n (q := 111) dX10_begin_110 rfl rfl ?_
    refine x_aload_n (q := 112) dX10_begin_111 rfl rfl ?_
    refine x_getR (q := 115) dX10_begin_112 rfl f_10_35 rfl (ft35 hF) ?_
    refine Ex.stk (st' := [.inr (.inr (some 43)), .inr (.inr (some 35))]) (by rw [fr35_13 hF]) ?_
    refine x_iload_n (q := 116) dX10_begin_115 rfl rfl ?_
    refine x_iaload (q := 117) dX10_begin_116 rfl (Or.inl (ft43 hF)) (by omega) (by rw [fl43 hF]; omega) ?_
    refine Ex.stk (st' := [.inl (iv G 43 f), .inr (.inr (some 35))]) (by rw [show iv (si (si (si (si (si (si (si (si (si (si (si G 35 42 nc) 52 nc f) 53 nc x) 55 nc (ab + 1)) 56 nc 0) 35 29 (nc + 1)) 60 w 67) 61 w 0) 62 w cur) 35 40 (w + 1)) 61 w a) 43 f = iv G 43 f from (by simp [iv_si])]) ?_
    refine x_putI (q := 120) dX10_begin_117 rfl f_10_111 rfl (fun h => by cases h) (fun h => by cases h) (ft35 hF) ?_
    have hF := FX_si hF 35 41 (iv G 43 f)
    refine x_vret dX10_begin_120 rfl ?_
    exact ⟨rfl, rfl⟩
  refine CX.of (d := d + 1) m_X10_begin (Nat.le_of_ble_eq_true rfl) ?_
  refine Ex.lcl (ls' := [some (.inr (.inr (some 35))), some (.inl f), some (.inl x), none, none]) rfl ?_
  refine x_aload_n (q := 1) dX10_begin_0 rfl rfl ?_
  refine x_getI (q := 4) dX10_begin_1 rfl f_10_118 rfl (ft35 hF) ?_
  refine Ex.stk (st' := [.inl nc]) (by rw [show iv G 35 29 = nc from hnc]) ?_
  refine x_if_ne (q := 7) (t := 11) dX10_begin_4 rfl (by decide) (fun h4 => ?_) (fun h4 => ?_)
  · refine x_aload_n (q := 12) dX10_begin_11 rfl rfl ?_
    refine x_getR (q := 15) dX10_begin_12 rfl f_10_71 rfl (ft35 hF) ?_
    refine Ex.stk (st' := [.inr (.inr (some 55))]) (by rw [fr35_27 hF]) ?_
    refine x_aload_n (q := 16) dX10_begin_15 rfl rfl ?_
    refine x_getI (q := 19) dX10_begin_16 rfl f_10_121 rfl (ft35 hF) ?_
    refine Ex.stk (st' := [.inl cur, .inr (.inr (some 55))]) (by rw [show iv G 35 42 = cur from hcur]) ?_
    refine x_iaload (q := 20) dX10_begin_19 rfl (Or.inl (ft55 hF)) (by omega) (by rw [fl55 hF]; omega) ?_
    refine Ex.stk (st' := [.inl ab]) (by rw [show iv G 55 cur = ab from (by omega)]) ?_
    refine Ex.stk (st' := [.inl ab]) (by rw [show ab = ab from by omega]) ?_
    exact K20
  · refine x_iconst (q := 8) dX10_begin_7 rfl (by decide) ?_
    refine x_goto (t := 20) dX10_begin_8 (by decide) ?_
    refine Ex.stk (st' := [.inl ab]) (by rw [show 0 = ab from by omega]) ?_
    exact K20
end
section
/-! THE MODEL: open and give, case by case -/
theorem c_open_fig (d : Nat) {G : Hp} (hF : FM G) {a c : Int} (ha : iv G 35 41 = a) (h0 : 0 ≤ a) (h1 : a < 160) (hc : iv G 42 a = c) (hd : 48 ≤ c ∧ c ≤ 57) : CX (d + 2) 118 [.inr (.inr (some 35))] G (fun r G1 => r = some (.inl (c - 48)) ∧ G1 = si G 35 41 (a + 1)) := by
  refine CX.of (d := d + 1) m_X10_open (Nat.le_of_ble_eq_true rfl) ?_
  refine Ex.lcl (ls' := [some (.inr (.inr (some 35))), none]) rfl ?_
  refine x_aload_n (q := 1) dX10_open_0 rfl rfl ?_
  refine x_getR (q := 4) dX10_open_1 rfl f_10_32 rfl (ft35 hF) ?_
  refine Ex.stk (st' := [.inr (.inr (some 42))]) (by rw [fr35_12 hF]) ?_
  refine x_aload_n (q := 5) dX10_open_4 rfl rfl ?_
  refine x_getI (q := 8) dX10_open_5 rfl f_10_111 rfl (ft35 hF) ?_
  refine Ex.stk (st' := [.inl a, .inr (.inr (some 42))]) (by rw [show iv G 35 41 = a from ha]) ?_
  refine x_iaload (q := 9) dX10_open_8 rfl (Or.inl (ft42 hF)) (by omega) (by rw [fl42 hF]; omega) ?_
  refine Ex.stk (st' := [.inl c]) (by rw [show iv G 42 a = c from hc]) ?_
  refine x_istore_n (q := 10) (ls' := [some (.inr (.inr (some 35))), some (.inl c)]) dX10_open_9 rfl (Nat.le_of_ble_eq_true rfl) (by first | rfl | exact hnl) rfl ?_
  refine x_aload_n (q := 11) dX10_open_10 rfl rfl ?_
  refine x_dup (q := 12) dX10_open_11 rfl rfl ?_
  refine x_getI (q := 15) dX10_open_12 rfl f_10_111 rfl (ft35 hF) ?_
  refine Ex.stk (st' := [.inl a, .inr (.inr (some 35))]) (by rw [show iv G 35 41 = a from ha]) ?_
  refine x_iconst (q := 16) dX10_open_15 rfl (by decide) ?_
  refine x_iadd (q := 17) (z := a + 1) dX10_open_16 rfl (wr_id ⟨by omega, by omega⟩) ?_
  refine x_putI (q := 20) dX10_open_17 rfl f_10_111 rfl (fun h => by cases h) (fun h => by cases h) (ft35 hF) ?_
  have hF := FX_si hF 35 41 (a + 1)
  refine x_iload_n (q := 21) dX10_open_20 rfl rfl ?_
  refine x_i2l (q := 22) dX10_open_21 rfl ?_
  refine x_ldc2_w (q := 25) dX10_open_22 rfl j_10_127 ?_
  refine x_ldc2_w (q := 28) dX10_open_25 rfl j_10_129 ?_
  refine x_invS (q := 31) (as := [.inr (.inl c), .inr (.inl 48), .inr (.inl 57)]) (rest := []) dX10_open_28 rfl l_10_131 m_X10_in rfl rfl (Nat.le_of_ble_eq_true rfl) (Nat.le_of_ble_eq_true rfl) (c_in _) (fun r1 G1 hR => ?_)
  obtain ⟨rfl, z28, rfl, z28a, z28b⟩ := hR
  refine Ex.stk (st' := [.inl z28]) rfl ?_
  refine x_if_eq (q := 34) (t := 39) dX10_open_31 rfl (by decide) (fun h31 => by exfalso; omega) (fun h31 => ?_)
  refine x_iload_n (q := 35) dX10_open_34 rfl rfl ?_
  refine x_bipush (q := 37) dX10_open_35 rfl (by decide) ?_
  refine x_isub (q := 38) (z := c - 48) dX10_open_37 rfl (wr_id ⟨by omega, by omega⟩) ?_
  refine x_iret dX10_open_38 rfl ?_
  exact ⟨rfl, rfl⟩
theorem c_open_n (d : Nat) {G : Hp} (hF : FM G) {a c : Int} (ha : iv G 35 41 = a) (h0 : 0 ≤ a) (h1 : a < 160) (hc : iv G 42 a = c) {cur : Int} (hcur : iv G 35 42 = cur) (u0 : 0 ≤ cur) (u1 : cur < 364) (hd : c = 110) : CX (d + 2) 118 [.inr (.inr (some 35))] G (fun r G1 => r = some (.inl (iv G 53 cur)) ∧ G1 = si G 35 41 (a + 1)) := by
  refine CX.of (d := d + 1) m_X10_open (Nat.le_of_ble_eq_true rfl) ?_
  refine Ex.lcl (ls' := [some (.inr (.inr (some 35))), none]) rfl ?_
  refine x_aload_n (q := 1) dX10_open_0 rfl rfl ?_
  refine x_getR (q := 4) dX10_open_1 rfl f_10_32 rfl (ft35 hF) ?_
  refine Ex.stk (st' := [.inr (.inr (some 42))]) (by rw [fr35_12 hF]) ?_
  refine x_aload_n (q := 5) dX10_open_4 rfl rfl ?_
  refine x_getI (q := 8) dX10_open_5 rfl f_10_111 rfl (ft35 hF) ?_
  refine Ex.stk (st' := [.inl a, .inr (.inr (some 42))]) (by rw [show iv G 35 41 = a from ha]) ?_
  refine x_iaload (q := 9) dX10_open_8 rfl (Or.inl (ft42 hF)) (by omega) (by rw [fl42 hF]; omega) ?_
  refine Ex.stk (st' := [.inl c]) (by rw [show iv G 42 a = c from hc]) ?_
  refine x_istore_n (q := 10) (ls' := [some (.inr (.inr (some 35))), some (.inl c)]) dX10_open_9 rfl (Nat.le_of_ble_eq_true rfl) (by first | rfl | exact hnl) rfl ?_
  refine x_aload_n (q := 11) dX10_open_10 rfl rfl ?_
  refine x_dup (q := 12) dX10_open_11 rfl rfl ?_
  refine x_getI (q := 15) dX10_open_12 rfl f_10_111 rfl (ft35 hF) ?_
  refine Ex.stk (st' := [.inl a, .inr (.inr (some 35))]) (by rw [show iv G 35 41 = a from ha]) ?_
  refine x_iconst (q := 16) dX10_open_15 rfl (by decide) ?_
  refine x_iadd (q := 17) (z := a + 1) dX10_open_16 rfl (wr_id ⟨by omega, by omega⟩) ?_
  refine x_putI (q := 20) dX10_open_17 rfl f_10_111 rfl (fun h => by cases h) (fun h => by cases h) (ft35 hF) ?_
  have hF := FX_si hF 35 41 (a + 1)
  refine x_iload_n (q := 21) dX10_open_20 rfl rfl ?_
  refine x_i2l (q := 22) dX10_open_21 rfl ?_
  refine x_ldc2_w (q := 25) dX10_open_22 rfl j_10_127 ?_
  refine x_ldc2_w (q := 28) dX10_open_25 rfl j_10_129 ?_
  refine x_invS (q := 31) (as := [.inr (.inl c), .inr (.inl 48), .inr (.inl 57)]) (rest := []) dX10_open_28 rfl l_10_131 m_X10_in rfl rfl (Nat.le_of_ble_eq_true rfl) (Nat.le_of_ble_eq_true rfl) (c_in _) (fun r1 G1 hR => ?_)
  obtain ⟨rfl, z28, rfl, z28a, z28b⟩ := hR
  refine Ex.stk (st' := [.inl z28]) rfl ?_
  refine x_if_eq (q := 34) (t := 39) dX10_open_31 rfl (by decide) (fun h31 => ?_) (fun h31 => by exfalso; omega)
  refine x_iload_n (q := 40) dX10_open_39 rfl rfl ?_
  refine x_bipush (q := 42) dX10_open_40 rfl (by decide) ?_
  refine x_icmp_ne (q := 45) (t := 55) dX10_open_42 rfl (by decide) (fun h42 => by exfalso; omega) (fun h42 => ?_)
  refine x_aload_n (q := 46) dX10_open_45 rfl rfl ?_
  refine x_getR (q := 49) dX10_open_46 rfl f_10_65 rfl (ft35 hF) ?_
  refine Ex.stk (st' := [.inr (.inr (some 53))]) (by rw [fr35_25 hF]) ?_
  refine x_aload_n (q := 50) dX10_open_49 rfl rfl ?_
  refine x_getI (q := 53) dX10_open_50 rfl f_10_121 rfl (ft35 hF) ?_
  refine Ex.stk (st' := [.inl cur, .inr (.inr (some 53))]) (by rw [show iv (si G 35 41 (a + 1)) 35 42 = cur from (by simp [iv_si, ha, hc, hcur])]) ?_
  refine x_iaload (q := 54) dX10_open_53 rfl (Or.inl (ft53 hF)) (by omega) (by rw [fl53 hF]; omega) ?_
  refine x_iret dX10_open_54 rfl ?_
  exact ⟨rfl, rfl⟩
theorem c_open_f (d : Nat) {G : Hp} (hF : FM G) {a c : Int} (ha : iv G 35 41 = a) (h0 : 0 ≤ a) (h1 : a < 160) (hc : iv G 42 a = c) {w c1 : Int} (hw : iv G 35 40 = w) (w0 : 0 ≤ w) (w1 : w < 1200) (h2 : a + 1 < 160) (hc1 : iv G 42 (a + 1) = c1) (hg : 48 ≤ c1 ∧ c1 ≤ 57) (hd : c = 102) : CX (d + 2) 118 [.inr (.inr (some 35))] G (fun r G1 => r = some (.inl (-1)) ∧ G1 = si (si (si (si (si (si G 35 41 (a + 1)) 60 w c) 61 w 0) 62 w (c1 - 48)) 35 40 (w + 1)) 35 41 (a + 2)) := by
  refine CX.of (d := d + 1) m_X10_open (Nat.le_of_ble_eq_true rfl) ?_
  refine Ex.lcl (ls' := [some (.inr (.inr (some 35))), none]) rfl ?_
  refine x_aload_n (q := 1) dX10_open_0 rfl rfl ?_
  refine x_getR (q := 4) dX10_open_1 rfl f_10_32 rfl (ft35 hF) ?_
  refine Ex.stk (st' := [.inr (.inr (some 42))]) (by rw [fr35_12 hF]) ?_
  refine x_aload_n (q := 5) dX10_open_4 rfl rfl ?_
  refine x_getI (q := 8) dX10_open_5 rfl f_10_111 rfl (ft35 hF) ?_
  refine Ex.stk (st' := [.inl a, .inr (.inr (some 42))]) (by rw [show iv G 35 41 = a from ha]) ?_
  refine x_iaload (q := 9) dX10_open_8 rfl (Or.inl (ft42 hF)) (by omega) (by rw [fl42 hF]; omega) ?_
  refine Ex.stk (st' := [.inl c]) (by rw [show iv G 42 a = c from hc]) ?_
  refine x_istore_n (q := 10) (ls' := [some (.inr (.inr (some 35))), some (.inl c)]) dX10_open_9 rfl (Nat.le_of_ble_eq_true rfl) (by first | rfl | exact hnl) rfl ?_
  refine x_aload_n (q := 11) dX10_open_10 rfl rfl ?_
  refine x_dup (q := 12) dX10_open_11 rfl rfl ?_
  refine x_getI (q := 15) dX10_open_12 rfl f_10_111 rfl (ft35 hF) ?_
  refine Ex.stk (st' := [.inl a, .inr (.inr (some 35))]) (by rw [show iv G 35 41 = a from ha]) ?_
  refine x_iconst (q := 16) dX10_open_15 rfl (by decide) ?_
  refine x_iadd (q := 17) (z := a + 1) dX10_open_16 rfl (wr_id ⟨by omega, by omega⟩) ?_
  refine x_putI (q := 20) dX10_open_17 rfl f_10_111 rfl (fun h => by cases h) (fun h => by cases h) (ft35 hF) ?_
  have hF := FX_si hF 35 41 (a + 1)
  refine x_iload_n (q := 21) dX10_open_20 rfl rfl ?_
  refine x_i2l (q := 22) dX10_open_21 rfl ?_
  refine x_ldc2_w (q := 25) dX10_open_22 rfl j_10_127 ?_
  refine x_ldc2_w (q := 28) dX10_open_25 rfl j_10_129 ?_
  refine x_invS (q := 31) (as := [.inr (.inl c), .inr (.inl 48), .inr (.inl 57)]) (rest := []) dX10_open_28 rfl l_10_131 m_X10_in rfl rfl (Nat.le_of_ble_eq_true rfl) (Nat.le_of_ble_eq_true rfl) (c_in _) (fun r1 G1 hR => ?_)
  obtain ⟨rfl, z28, rfl, z28a, z28b⟩ := hR
  refine Ex.stk (st' := [.inl z28]) rfl ?_
  refine x_if_eq (q := 34) (t := 39) dX10_open_31 rfl (by decide) (fun h31 => ?_) (fun h31 => by exfalso; omega)
  refine x_iload_n (q := 40) dX10_open_39 rfl rfl ?_
  refine x_bipush (q := 42) dX10_open_40 rfl (by decide) ?_
  refine x_icmp_ne (q := 45) (t := 55) dX10_open_42 rfl (by decide) (fun h42 => ?_) (fun h42 => by exfalso; omega)
  refine x_iload_n (q := 56) dX10_open_55 rfl rfl ?_
  refine x_bipush (q := 58) dX10_open_56 rfl (by decide) ?_
  refine x_icmp_ne (q := 61) (t := 91) dX10_open_58 rfl (by decide) (fun h58 => by exfalso; omega) (fun h58 => ?_)
  refine x_aload_n (q := 62) dX10_open_61 rfl rfl ?_
  refine x_iload_n (q := 63) dX10_open_62 rfl rfl ?_
  refine x_aload_n (q := 64) dX10_open_63 rfl rfl ?_
  refine x_getR (q := 67) dX10_open_64 rfl f_10_32 rfl (ft35 hF) ?_
  refine Ex.stk (st' := [.inr (.inr (some 42)), .inl c, .inr (.inr (some 35))]) (by rw [fr35_12 hF]) ?_
  refine x_aload_n (q := 68) dX10_open_67 rfl rfl ?_
  refine x_getI (q := 71) dX10_open_68 rfl f_10_111 rfl (ft35 hF) ?_
  refine Ex.stk (st' := [.inl (a + 1), .inr (.inr (some 42)), .inl c, .inr (.inr (some 35))]) (by rw [show iv (si G 35 41 (a + 1)) 35 41 = a + 1 from (by simp [iv_si])]) ?_
  refine x_iaload (q := 72) dX10_open_71 rfl (Or.inl (ft42 hF)) (by omega) (by rw [fl42 hF]; omega) ?_
  refine Ex.stk (st' := [.inl c1, .inl c, .inr (.inr (some 35))]) (by rw [show iv (si G 35 41 (a + 1)) 42 (a + 1) = c1 from (by simp [iv_si, ha, hc, hw, hc1])]) ?_
  refine x_bipush (q := 74) dX10_open_72 rfl (by decide) ?_
  refine x_isub (q := 75) (z := c1 - 48) dX10_open_74 rfl (wr_id ⟨by omega, by omega⟩) ?_
  refine x_invV (q := 78) (as := [.inr (.inr (some 35)), .inl c, .inl (c1 - 48)]) (rest := []) dX10_open_75 rfl l_10_124 m_X10_push rfl rfl (ft35 hF) (Nat.le_of_ble_eq_true rfl) (c_push _ (G := si G 35 41 (a + 1)) hF (w := w) (by simp [iv_si, hw]) (by omega) (by omega)) (fun r1 G1 hR => ?_)
  obtain ⟨rfl, rfl⟩ := hR
  have hF := FX_si (FX_si (FX_si (FX_si hF 60 w c) 61 w 0) 62 w (c1 - 48)) 35 40 (w + 1)
  refine Ex.stk (st' := []) rfl ?_
  refine x_aload_n (q := 79) dX10_open_78 rfl rfl ?_
  refine x_dup (q := 80) dX10_open_79 rfl rfl ?_
  refine x_getI (q := 83) dX10_open_80 rfl f_10_111 rfl (ft35 hF) ?_
  refine Ex.stk (st' := [.inl (a + 1), .inr (.inr (some 35))]) (by rw [show iv (si (si (si (si (si G 35 41 (a + 1)) 60 w c) 61 w 0) 62 w (c1 - 48)) 35 40 (w + 1)) 35 41 = a + 1 from (by simp [iv_si])]) ?_
  refine x_iconst (q := 84) dX10_open_83 rfl (by decide) ?_
  refine x_iadd (q := 85) (z := a + 2) dX10_open_84 rfl (by rw [show a + 1 + 1 = a + 2 from by omega]; exact wr_id ⟨by omega, by omega⟩) ?_
  refine x_putI (q := 88) dX10_open_85 rfl f_10_111 rfl (fun h => by cases h) (fun h => by cases h) (ft35 hF) ?_
  have hF := FX_si hF 35 41 (a + 2)
  refine x_goto (t := 97) dX10_open_88 (by decide) ?_
  refine x_iconst (q := 98) dX10_open_97 rfl (by decide) ?_
  refine x_iret dX10_open_98 rfl ?_
  exact ⟨rfl, rfl⟩
theorem c_open_op (d : Nat) {G : Hp} (hF : FM G) {a c : Int} (ha : iv G 35 41 = a) (h0 : 0 ≤ a) (h1 : a < 160) (hc : iv G 42 a = c) {w : Int} (hw : iv G 35 40 = w) (w0 : 0 ≤ w) (w1 : w < 1200) (hd : c = 120 ∨ c = 43 ∨ c = 45 ∨ c = 42 ∨ c = 60 ∨ c = 63) : CX (d + 2) 118 [.inr (.inr (some 35))] G (fun r G1 => r = some (.inl (-1)) ∧ G1 = si (si (si (si (si G 35 41 (a + 1)) 60 w c) 61 w 0) 62 w 0) 35 40 (w + 1)) := by
  refine CX.of (d := d + 1) m_X10_open (Nat.le_of_ble_eq_true rfl) ?_
  refine Ex.lcl (ls' := [some (.inr (.inr (some 35))), none]) rfl ?_
  refine x_aload_n (q := 1) dX10_open_0 rfl rfl ?_
  refine x_getR (q := 4) dX10_open_1 rfl f_10_32 rfl (ft35 hF) ?_
  refine Ex.stk (st' := [.inr (.inr (some 42))]) (by rw [fr35_12 hF]) ?_
  refine x_aload_n (q := 5) dX10_open_4 rfl rfl ?_
  refine x_getI (q := 8) dX10_open_5 rfl f_10_111 rfl (ft35 hF) ?_
  refine Ex.stk (st' := [.inl a, .inr (.inr (some 42))]) (by rw [show iv G 35 41 = a from ha]) ?_
  refine x_iaload (q := 9) dX10_open_8 rfl (Or.inl (ft42 hF)) (by omega) (by rw [fl42 hF]; omega) ?_
  refine Ex.stk (st' := [.inl c]) (by rw [show iv G 42 a = c from hc]) ?_
  refine x_istore_n (q := 10) (ls' := [some (.inr (.inr (some 35))), some (.inl c)]) dX10_open_9 rfl (Nat.le_of_ble_eq_true rfl) (by first | rfl | exact hnl) rfl ?_
  refine x_aload_n (q := 11) dX10_open_10 rfl rfl ?_
  refine x_dup (q := 12) dX10_open_11 rfl rfl ?_
  refine x_getI (q := 15) dX10_open_12 rfl f_10_111 rfl (ft35 hF) ?_
  refine Ex.stk (st' := [.inl a, .inr (.inr (some 35))]) (by rw [show iv G 35 41 = a from ha]) ?_
  refine x_iconst (q := 16) dX10_open_15 rfl (by decide) ?_
  refine x_iadd (q := 17) (z := a + 1) dX10_open_16 rfl (wr_id ⟨by omega, by omega⟩) ?_
  refine x_putI (q := 20) dX10_open_17 rfl f_10_111 rfl (fun h => by cases h) (fun h => by cases h) (ft35 hF) ?_
  have hF := FX_si hF 35 41 (a + 1)
  refine x_iload_n (q := 21) dX10_open_20 rfl rfl ?_
  refine x_i2l (q := 22) dX10_open_21 rfl ?_
  refine x_ldc2_w (q := 25) dX10_open_22 rfl j_10_127 ?_
  refine x_ldc2_w (q := 28) dX10_open_25 rfl j_10_129 ?_
  refine x_invS (q := 31) (as := [.inr (.inl c), .inr (.inl 48), .inr (.inl 57)]) (rest := []) dX10_open_28 rfl l_10_131 m_X10_in rfl rfl (Nat.le_of_ble_eq_true rfl) (Nat.le_of_ble_eq_true rfl) (c_in _) (fun r1 G1 hR => ?_)
  obtain ⟨rfl, z28, rfl, z28a, z28b⟩ := hR
  refine Ex.stk (st' := [.inl z28]) rfl ?_
  refine x_if_eq (q := 34) (t := 39) dX10_open_31 rfl (by decide) (fun h31 => ?_) (fun h31 => by exfalso; omega)
  refine x_iload_n (q := 40) dX10_open_39 rfl rfl ?_
  refine x_bipush (q := 42) dX10_open_40 rfl (by decide) ?_
  refine x_icmp_ne (q := 45) (t := 55) dX10_open_42 rfl (by decide) (fun h42 => ?_) (fun h42 => by exfalso; omega)
  refine x_iload_n (q := 56) dX10_open_55 rfl rfl ?_
  refine x_bipush (q := 58) dX10_open_56 rfl (by decide) ?_
  refine x_icmp_ne (q := 61) (t := 91) dX10_open_58 rfl (by decide) (fun h58 => ?_) (fun h58 => by exfalso; omega)
  refine x_aload_n (q := 92) dX10_open_91 rfl rfl ?_
  refine x_iload_n (q := 93) dX10_open_92 rfl rfl ?_
  refine x_iconst (q := 94) dX10_open_93 rfl (by decide) ?_
  refine x_invV (q := 97) (as := [.inr (.inr (some 35)), .inl c, .inl 0]) (rest := []) dX10_open_94 rfl l_10_124 m_X10_push rfl rfl (ft35 hF) (Nat.le_of_ble_eq_true rfl) (c_push _ (G := si G 35 41 (a + 1)) hF (w := w) (by simp [iv_si, hw]) (by omega) (by omega)) (fun r1 G1 hR => ?_)
  obtain ⟨rfl, rfl⟩ := hR
  have hF := FX_si (FX_si (FX_si (FX_si hF 60 w c) 61 w 0) 62 w 0) 35 40 (w + 1)
  refine Ex.stk (st' := []) rfl ?_
  refine x_iconst (q := 98) dX10_open_97 rfl (by decide) ?_
  refine x_iret dX10_open_98 rfl ?_
  exact ⟨rfl, rfl⟩
theorem c_called0 (d : Nat) {G : Hp} (hF : FM G) {f x mn cur ns : Int} (hmn : iv G 35 14 = mn) (hcur : iv G 35 42 = cur) (u0 : 0 ≤ cur) (u1 : cur < 364) (hns : iv G 55 cur = ns) (hn : mn ≤ f ∨ ns = 6) : CX (d + 3) 119 [.inr (.inr (some 35)), .inl f, .inl x] G (fun r G1 => r = some (.inl 0) ∧ G1 = G) := by
  refine CX.of (d := d + 2) m_X10_called (Nat.le_of_ble_eq_true rfl) ?_
  refine Ex.lcl (ls' := [some (.inr (.inr (some 35))), some (.inl f), some (.inl x)]) rfl ?_
  refine x_iload_n (q := 1) dX10_called_0 rfl rfl ?_
  refine x_aload_n (q := 2) dX10_called_1 rfl rfl ?_
  refine x_getI (q := 5) dX10_called_2 rfl f_10_95 rfl (ft35 hF) ?_
  refine Ex.stk (st' := [.inl mn, .inl f]) (by rw [show iv G 35 14 = mn from hmn]) ?_
  refine x_icmp_ge (q := 8) (t := 22) dX10_called_5 rfl (by decide) (fun h5 => ?_) (fun h5 => ?_)
  · refine x_iconst (q := 23) dX10_called_22 rfl (by decide) ?_
    refine x_iret dX10_called_23 rfl ?_
    exact ⟨rfl, rfl⟩
  · refine x_aload_n (q := 9) dX10_called_8 rfl rfl ?_
    refine x_getR (q := 12) dX10_called_9 rfl f_10_71 rfl (ft35 hF) ?_
    refine Ex.stk (st' := [.inr (.inr (some 55))]) (by rw [fr35_27 hF]) ?_
    refine x_aload_n (q := 13) dX10_called_12 rfl rfl ?_
    refine x_getI (q := 16) dX10_called_13 rfl f_10_121 rfl (ft35 hF) ?_
    refine Ex.stk (st' := [.inl cur, .inr (.inr (some 55))]) (by rw [show iv G 35 42 = cur from hcur]) ?_
    refine x_iaload (q := 17) dX10_called_16 rfl (Or.inl (ft55 hF)) (by omega) (by rw [fl55 hF]; omega) ?_
    refine Ex.stk (st' := [.inl ns]) (by rw [show iv G 55 cur = ns from hns]) ?_
    refine x_bipush (q := 19) dX10_called_17 rfl (by decide) ?_
    refine x_icmp_ne (q := 22) (t := 24) dX10_called_19 rfl (by decide) (fun h19 => by exfalso; omega) (fun h19 => ?_)
    refine x_iconst (q := 23) dX10_called_22 rfl (by decide) ?_
    refine x_iret dX10_called_23 rfl ?_
    exact ⟨rfl, rfl⟩
theorem c_called1 (d : Nat) {G : Hp} (hF : FM G) {f x mn cur ns : Int} (hmn : iv G 35 14 = mn) (hcur : iv G 35 42 = cur) (u0 : 0 ≤ cur) (u1 : cur < 364) (hns : iv G 55 cur = ns) {w a nc : Int} (hw : iv G 35 40 = w) (ha : iv G 35 41 = a) (hnc : iv G 35 29 = nc) (w0 : 0 ≤ w) (w1 : w < 1200) (n0 : 0 ≤ nc) (n1 : nc < 364) (n2 : nc ≠ 0) (f0 : 0 ≤ f) (f1 : f < mn) (m5 : mn ≤ 5) (b0 : 0 ≤ ns) (b1 : ns < 6) : CX (d + 3) 119 [.inr (.inr (some 35)), .inl f, .inl x] G (fun r G1 => r = some (.inl (-1)) ∧ G1 = si (si (si (si (si (si (si (si (si (si (si (si G 35 42 nc) 52 nc f) 53 nc x) 55 nc (ns + 1)) 56 nc 0) 35 29 (nc + 1)) 60 w 67) 61 w 0) 62 w cur) 35 40 (w + 1)) 61 w a) 35 41 (iv G 43 f)) := by
  refine CX.of (d := d + 2) m_X10_called (Nat.le_of_ble_eq_true rfl) ?_
  refine Ex.lcl (ls' := [some (.inr (.inr (some 35))), some (.inl f), some (.inl x)]) rfl ?_
  refine x_iload_n (q := 1) dX10_called_0 rfl rfl ?_
  refine x_aload_n (q := 2) dX10_called_1 rfl rfl ?_
  refine x_getI (q := 5) dX10_called_2 rfl f_10_95 rfl (ft35 hF) ?_
  refine Ex.stk (st' := [.inl mn, .inl f]) (by rw [show iv G 35 14 = mn from hmn]) ?_
  refine x_icmp_ge (q := 8) (t := 22) dX10_called_5 rfl (by decide) (fun h5 => by exfalso; omega) (fun h5 => ?_)
  refine x_aload_n (q := 9) dX10_called_8 rfl rfl ?_
  refine x_getR (q := 12) dX10_called_9 rfl f_10_71 rfl (ft35 hF) ?_
  refine Ex.stk (st' := [.inr (.inr (some 55))]) (by rw [fr35_27 hF]) ?_
  refine x_aload_n (q := 13) dX10_called_12 rfl rfl ?_
  refine x_getI (q := 16) dX10_called_13 rfl f_10_121 rfl (ft35 hF) ?_
  refine Ex.stk (st' := [.inl cur, .inr (.inr (some 55))]) (by rw [show iv G 35 42 = cur from hcur]) ?_
  refine x_iaload (q := 17) dX10_called_16 rfl (Or.inl (ft55 hF)) (by omega) (by rw [fl55 hF]; omega) ?_
  refine Ex.stk (st' := [.inl ns]) (by rw [show iv G 55 cur = ns from hns]) ?_
  refine x_bipush (q := 19) dX10_called_17 rfl (by decide) ?_
  refine x_icmp_ne (q := 22) (t := 24) dX10_called_19 rfl (by decide) (fun h19 => ?_) (fun h19 => by exfalso; omega)
  refine x_aload_n (q := 25) dX10_called_24 rfl rfl ?_
  refine x_iload_n (q := 26) dX10_called_25 rfl rfl ?_
  refine x_iload_n (q := 27) dX10_called_26 rfl rfl ?_
  refine x_invV (q := 30) (as := [.inr (.inr (some 35)), .inl f, .inl x]) (rest := []) dX10_called_27 rfl l_10_135 m_X10_begin rfl rfl (ft35 hF) (Nat.le_of_ble_eq_true rfl) (c_begin _ hF hw ha hcur hnc (Or.inr ⟨by omega, hns⟩) w0 w1 n0 n1 u0 u1 (by omega) (by omega) (by omega) (by omega)) (fun r1 G1 hR => ?_)
  obtain ⟨rfl, rfl⟩ := hR
  refine Ex.stk (st' := []) rfl ?_
  refine x_iconst (q := 31) dX10_called_30 rfl (by decide) ?_
  refine x_iret dX10_called_31 rfl ?_
  exact ⟨rfl, rfl⟩
theorem c_give_C (d : Nat) {G : Hp} (hF : FM G) {w v sg : Int} (hw : iv G 35 40 = w) (w0 : 1 ≤ w) (w1 : w < 1200) (hsg : iv G 60 (w - 1) = sg) {cur : Int} (hcur : iv G 35 42 = cur) (u0 : 0 ≤ cur) (u1 : cur < 364) (hs : sg = 67) : CX (d + 2) 120 [.inr (.inr (some 35)), .inl v] G (fun r G1 => r = some (.inl v) ∧ G1 = si (si (si (si G 54 cur v) 35 42 (iv G 62 (w - 1))) 35 41 (iv G 61 (w - 1))) 35 40 (w - 1)) := by
  refine CX.of (d := d + 1) m_X10_give (Nat.le_of_ble_eq_true rfl) ?_
  refine Ex.lcl (ls' := [some (.inr (.inr (some 35))), some (.inl v), none, none]) rfl ?_
  refine x_aload_n (q := 1) dX10_give_0 rfl rfl ?_
  refine x_getI (q := 4) dX10_give_1 rfl f_10_108 rfl (ft35 hF) ?_
  refine Ex.stk (st' := [.inl w]) (by rw [show iv G 35 40 = w from hw]) ?_
  refine x_iconst (q := 5) dX10_give_4 rfl (by decide) ?_
  refine x_isub (q := 6) (z := w - 1) dX10_give_5 rfl (wr_id ⟨by omega, by omega⟩) ?_
  refine x_istore_n (q := 7) (ls' := [some (.inr (.inr (some 35))), some (.inl v), some (.inl (w - 1)), none]) dX10_give_6 rfl (Nat.le_of_ble_eq_true rfl) (by first | rfl | exact hnl) rfl ?_
  refine x_aload_n (q := 8) dX10_give_7 rfl rfl ?_
  refine x_getR (q := 11) dX10_give_8 rfl f_10_86 rfl (ft35 hF) ?_
  refine Ex.stk (st' := [.inr (.inr (some 60))]) (by rw [fr35_37 hF]) ?_
  refine x_iload_n (q := 12) dX10_give_11 rfl rfl ?_
  refine x_iaload (q := 13) dX10_give_12 rfl (Or.inl (ft60 hF)) (by omega) (by rw [fl60 hF]; omega) ?_
  refine Ex.stk (st' := [.inl sg]) (by rw [show iv G 60 (w - 1) = sg from hsg]) ?_
  refine x_istore_n (q := 14) (ls' := [some (.inr (.inr (some 35))), some (.inl v), some (.inl (w - 1)), some (.inl sg)]) dX10_give_13 rfl (Nat.le_of_ble_eq_true rfl) (by first | rfl | exact hnl) rfl ?_
  refine x_iload_n (q := 15) dX10_give_14 rfl rfl ?_
  refine x_bipush (q := 17) dX10_give_15 rfl (by decide) ?_
  refine x_icmp_ne (q := 20) (t := 62) dX10_give_17 rfl (by decide) (fun h17 => by exfalso; omega) (fun h17 => ?_)
  refine x_aload_n (q := 21) dX10_give_20 rfl rfl ?_
  refine x_getR (q := 24) dX10_give_21 rfl f_10_68 rfl (ft35 hF) ?_
  refine Ex.stk (st' := [.inr (.inr (some 54))]) (by rw [fr35_26 hF]) ?_
  refine x_aload_n (q := 25) dX10_give_24 rfl rfl ?_
  refine x_getI (q := 28) dX10_give_25 rfl f_10_121 rfl (ft35 hF) ?_
  refine Ex.stk (st' := [.inl cur, .inr (.inr (some 54))]) (by rw [show iv G 35 42 = cur from hcur]) ?_
  refine x_iload_n (q := 29) dX10_give_28 rfl rfl ?_
  refine x_iastore (q := 30) dX10_give_29 rfl (ft54 hF) (by omega) (by rw [fl54 hF]; omega) ?_
  have hF := FX_si hF 54 cur v
  refine x_aload_n (q := 31) dX10_give_30 rfl rfl ?_
  refine x_aload_n (q := 32) dX10_give_31 rfl rfl ?_
  refine x_getR (q := 35) dX10_give_32 rfl f_10_92 rfl (ft35 hF) ?_
  refine Ex.stk (st' := [.inr (.inr (some 62)), .inr (.inr (some 35))]) (by rw [fr35_39 hF]) ?_
  refine x_iload_n (q := 36) dX10_give_35 rfl rfl ?_
  refine x_iaload (q := 37) dX10_give_36 rfl (Or.inl (ft62 hF)) (by omega) (by rw [fl62 hF]; omega) ?_
  refine Ex.stk (st' := [.inl (iv G 62 (w - 1)), .inr (.inr (some 35))]) (by rw [show iv (si G 54 cur v) 62 (w - 1) = iv G 62 (w - 1) from (by simp [iv_si, hw, hsg, hcur])]) ?_
  refine x_putI (q := 40) dX10_give_37 rfl f_10_121 rfl (fun h => by cases h) (fun h => by cases h) (ft35 hF) ?_
  have hF := FX_si hF 35 42 (iv G 62 (w - 1))
  refine x_aload_n (q := 41) dX10_give_40 rfl rfl ?_
  refine x_aload_n (q := 42) dX10_give_41 rfl rfl ?_
  refine x_getR (q := 45) dX10_give_42 rfl f_10_89 rfl (ft35 hF) ?_
  refine Ex.stk (st' := [.inr (.inr (some 61)), .inr (.inr (some 35))]) (by rw [fr35_38 hF]) ?_
  refine x_iload_n (q := 46) dX10_give_45 rfl rfl ?_
  refine x_iaload (q := 47) dX10_give_46 rfl (Or.inl (ft61 hF)) (by omega) (by rw [fl61 hF]; omega) ?_
  refine Ex.stk (st' := [.inl (iv G 61 (w - 1)), .inr (.inr (some 35))]) (by rw [show iv (si (si G 54 cur v) 35 42 (iv G 62 (w - 1))) 61 (w - 1) = iv G 61 (w - 1) from (by simp [iv_si, hw, hsg, hcur])]) ?_
  refine x_putI (q := 50) dX10_give_47 rfl f_10_111 rfl (fun h => by cases h) (fun h => by cases h) (ft35 hF) ?_
  have hF := FX_si hF 35 41 (iv G 61 (w - 1))
  refine x_aload_n (q := 51) dX10_give_50 rfl rfl ?_
  refine x_dup (q := 52) dX10_give_51 rfl rfl ?_
  refine x_getI (q := 55) dX10_give_52 rfl f_10_108 rfl (ft35 hF) ?_
  refine Ex.stk (st' := [.inl w, .inr (.inr (some 35))]) (by rw [show iv (si (si (si G 54 cur v) 35 42 (iv G 62 (w - 1))) 35 41 (iv G 61 (w - 1))) 35 40 = w from (by simp [iv_si, hw, hsg, hcur])]) ?_
  refine x_iconst (q := 56) dX10_give_55 rfl (by decide) ?_
  refine x_isub (q := 57) (z := w - 1) dX10_give_56 rfl (wr_id ⟨by omega, by omega⟩) ?_
  refine x_putI (q := 60) dX10_give_57 rfl f_10_108 rfl (fun h => by cases h) (fun h => by cases h) (ft35 hF) ?_
  have hF := FX_si hF 35 40 (w - 1)
  refine x_iload_n (q := 61) dX10_give_60 rfl rfl ?_
  refine x_iret dX10_give_61 rfl ?_
  exact ⟨rfl, rfl⟩
theorem c_give_x (d : Nat) {G : Hp} (hF : FM G) {w v sg : Int} (hw : iv G 35 40 = w) (w0 : 1 ≤ w) (w1 : w < 1200) (hsg : iv G 60 (w - 1) = sg) {cur m cv : Int} (hcur : iv G 35 42 = cur) (u0 : 0 ≤ cur) (u1 : cur < 364) (hm : iv G 56 cur = m) (hcv : iv G 36 (v % 8) = cv) (v0 : 0 ≤ v) (hs : sg = 120) : CX (d + 2) 120 [.inr (.inr (some 35)), .inl v] G (fun r G1 => r = some (.inl cv) ∧ G1 = si (si G 35 40 (w - 1)) 56 cur (bor m (bit (v % 8)))) := by
  refine CX.of (d := d + 1) m_X10_give (Nat.le_of_ble_eq_true rfl) ?_
  refine Ex.lcl (ls' := [some (.inr (.inr (some 35))), some (.inl v), none, none]) rfl ?_
  refine x_aload_n (q := 1) dX10_give_0 rfl rfl ?_
  refine x_getI (q := 4) dX10_give_1 rfl f_10_108 rfl (ft35 hF) ?_
  refine Ex.stk (st' := [.inl w]) (by rw [show iv G 35 40 = w from hw]) ?_
  refine x_iconst (q := 5) dX10_give_4 rfl (by decide) ?_
  refine x_isub (q := 6) (z := w - 1) dX10_give_5 rfl (wr_id ⟨by omega, by omega⟩) ?_
  refine x_istore_n (q := 7) (ls' := [some (.inr (.inr (some 35))), some (.inl v), some (.inl (w - 1)), none]) dX10_give_6 rfl (Nat.le_of_ble_eq_true rfl) (by first | rfl | exact hnl) rfl ?_
  refine x_aload_n (q := 8) dX10_give_7 rfl rfl ?_
  refine x_getR (q := 11) dX10_give_8 rfl f_10_86 rfl (ft35 hF) ?_
  refine Ex.stk (st' := [.inr (.inr (some 60))]) (by rw [fr35_37 hF]) ?_
  refine x_iload_n (q := 12) dX10_give_11 rfl rfl ?_
  refine x_iaload (q := 13) dX10_give_12 rfl (Or.inl (ft60 hF)) (by omega) (by rw [fl60 hF]; omega) ?_
  refine Ex.stk (st' := [.inl sg]) (by rw [show iv G 60 (w - 1) = sg from hsg]) ?_
  refine x_istore_n (q := 14) (ls' := [some (.inr (.inr (some 35))), some (.inl v), some (.inl (w - 1)), some (.inl sg)]) dX10_give_13 rfl (Nat.le_of_ble_eq_true rfl) (by first | rfl | exact hnl) rfl ?_
  refine x_iload_n (q := 15) dX10_give_14 rfl rfl ?_
  refine x_bipush (q := 17) dX10_give_15 rfl (by decide) ?_
  refine x_icmp_ne (q := 20) (t := 62) dX10_give_17 rfl (by decide) (fun h17 => ?_) (fun h17 => by exfalso; omega)
  refine x_iload_n (q := 63) dX10_give_62 rfl rfl ?_
  refine x_bipush (q := 65) dX10_give_63 rfl (by decide) ?_
  refine x_icmp_ne (q := 68) (t := 106) dX10_give_65 rfl (by decide) (fun h65 => by exfalso; omega) (fun h65 => ?_)
  refine x_aload_n (q := 69) dX10_give_68 rfl rfl ?_
  refine x_dup (q := 70) dX10_give_69 rfl rfl ?_
  refine x_getI (q := 73) dX10_give_70 rfl f_10_108 rfl (ft35 hF) ?_
  refine Ex.stk (st' := [.inl w, .inr (.inr (some 35))]) (by rw [show iv G 35 40 = w from hw]) ?_
  refine x_iconst (q := 74) dX10_give_73 rfl (by decide) ?_
  refine x_isub (q := 75) (z := w - 1) dX10_give_74 rfl (wr_id ⟨by omega, by omega⟩) ?_
  refine x_putI (q := 78) dX10_give_75 rfl f_10_108 rfl (fun h => by cases h) (fun h => by cases h) (ft35 hF) ?_
  have hF := FX_si hF 35 40 (w - 1)
  refine x_aload_n (q := 79) dX10_give_78 rfl rfl ?_
  refine x_getR (q := 82) dX10_give_79 rfl f_10_74 rfl (ft35 hF) ?_
  refine Ex.stk (st' := [.inr (.inr (some 56))]) (by rw [fr35_28 hF]) ?_
  refine x_aload_n (q := 83) dX10_give_82 rfl rfl ?_
  refine x_getI (q := 86) dX10_give_83 rfl f_10_121 rfl (ft35 hF) ?_
  refine Ex.stk (st' := [.inl cur, .inr (.inr (some 56))]) (by rw [show iv (si G 35 40 (w - 1)) 35 42 = cur from (by simp [iv_si, hw, hsg, hcur, hm, hcv])]) ?_
  refine x_dup2 (q := 87) dX10_give_86 rfl rfl rfl ?_
  refine x_iaload (q := 88) dX10_give_87 rfl (Or.inl (ft56 hF)) (by omega) (by rw [fl56 hF]; omega) ?_
  refine Ex.stk (st' := [.inl m, .inl cur, .inr (.inr (some 56))]) (by rw [show iv (si G 35 40 (w - 1)) 56 cur = m from (by simp [iv_si, hw, hsg, hcur, hm, hcv])]) ?_
  refine x_iconst (q := 89) dX10_give_88 rfl (by decide) ?_
  refine x_iload_n (q := 90) dX10_give_89 rfl rfl ?_
  refine x_bipush (q := 92) dX10_give_90 rfl (by decide) ?_
  refine x_irem (q := 93) (z := v % 8) dX10_give_92 rfl (by omega) (Int.tmod_eq_emod_of_nonneg (by omega)) ?_
  refine x_ishl (q := 94) (z := bit (v % 8)) dX10_give_93 rfl rfl ?_
  refine x_ior (q := 95) (z := bor m (bit (v % 8))) dX10_give_94 rfl rfl ?_
  refine x_iastore (q := 96) dX10_give_95 rfl (ft56 hF) (by omega) (by rw [fl56 hF]; omega) ?_
  have hF := FX_si hF 56 cur (bor m (bit (v % 8)))
  refine x_aload_n (q := 97) dX10_give_96 rfl rfl ?_
  refine x_getR (q := 100) dX10_give_97 rfl f_10_7 rfl (ft35 hF) ?_
  refine Ex.stk (st' := [.inr (.inr (some 36))]) (by rw [fr35_0 hF]) ?_
  refine x_iload_n (q := 101) dX10_give_100 rfl rfl ?_
  refine x_bipush (q := 103) dX10_give_101 rfl (by decide) ?_
  refine x_irem (q := 104) (z := v % 8) dX10_give_103 rfl (by omega) (Int.tmod_eq_emod_of_nonneg (by omega)) ?_
  refine x_iaload (q := 105) dX10_give_104 rfl (Or.inl (ft36 hF)) (by omega) (by rw [fl36 hF]; omega) ?_
  refine Ex.stk (st' := [.inl cv]) (by rw [show iv (si (si G 35 40 (w - 1)) 56 cur (bor m (bit (v % 8)))) 36 (v % 8) = cv from (by simp [iv_si, hw, hsg, hcur, hm, hcv])]) ?_
  refine x_iret dX10_give_105 rfl ?_
  exact ⟨rfl, rfl⟩
theorem c_give_f0 (d : Nat) {G : Hp} (hF : FM G) {w v sg : Int} (hw : iv G 35 40 = w) (w0 : 1 ≤ w) (w1 : w < 1200) (hsg : iv G 60 (w - 1) = sg) {f mn cur ns : Int} (hmn : iv G 35 14 = mn) (hcur : iv G 35 42 = cur) (u0 : 0 ≤ cur) (u1 : cur < 364) (hns : iv G 55 cur = ns) (hf : iv G 62 (w - 1) = f) (hs : sg = 102) (hn : mn ≤ f ∨ ns = 6) : CX (d + 4) 120 [.inr (.inr (some 35)), .inl v] G (fun r G1 => r = some (.inl 0) ∧ G1 = si G 35 40 (w - 1)) := by
  refine CX.of (d := d + 3) m_X10_give (Nat.le_of_ble_eq_true rfl) ?_
  refine Ex.lcl (ls' := [some (.inr (.inr (some 35))), some (.inl v), none, none]) rfl ?_
  refine x_aload_n (q := 1) dX10_give_0 rfl rfl ?_
  refine x_getI (q := 4) dX10_give_1 rfl f_10_108 rfl (ft35 hF) ?_
  refine Ex.stk (st' := [.inl w]) (by rw [show iv G 35 40 = w from hw]) ?_
  refine x_iconst (q := 5) dX10_give_4 rfl (by decide) ?_
  refine x_isub (q := 6) (z := w - 1) dX10_give_5 rfl (wr_id ⟨by omega, by omega⟩) ?_
  refine x_istore_n (q := 7) (ls' := [some (.inr (.inr (some 35))), some (.inl v), some (.inl (w - 1)), none]) dX10_give_6 rfl (Nat.le_of_ble_eq_true rfl) (by first | rfl | exact hnl) rfl ?_
  refine x_aload_n (q := 8) dX10_give_7 rfl rfl ?_
  refine x_getR (q := 11) dX10_give_8 rfl f_10_86 rfl (ft35 hF) ?_
  refine Ex.stk (st' := [.inr (.inr (some 60))]) (by rw [fr35_37 hF]) ?_
  refine x_iload_n (q := 12) dX10_give_11 rfl rfl ?_
  refine x_iaload (q := 13) dX10_give_12 rfl (Or.inl (ft60 hF)) (by omega) (by rw [fl60 hF]; omega) ?_
  refine Ex.stk (st' := [.inl sg]) (by rw [show iv G 60 (w - 1) = sg from hsg]) ?_
  refine x_istore_n (q := 14) (ls' := [some (.inr (.inr (some 35))), some (.inl v), some (.inl (w - 1)), some (.inl sg)]) dX10_give_13 rfl (Nat.le_of_ble_eq_true rfl) (by first | rfl | exact hnl) rfl ?_
  refine x_iload_n (q := 15) dX10_give_14 rfl rfl ?_
  refine x_bipush (q := 17) dX10_give_15 rfl (by decide) ?_
  refine x_icmp_ne (q := 20) (t := 62) dX10_give_17 rfl (by decide) (fun h17 => ?_) (fun h17 => by exfalso; omega)
  refine x_iload_n (q := 63) dX10_give_62 rfl rfl ?_
  refine x_bipush (q := 65) dX10_give_63 rfl (by decide) ?_
  refine x_icmp_ne (q := 68) (t := 106) dX10_give_65 rfl (by decide) (fun h65 => ?_) (fun h65 => by exfalso; omega)
  refine x_iload_n (q := 107) dX10_give_106 rfl rfl ?_
  refine x_bipush (q := 109) dX10_give_107 rfl (by decide) ?_
  refine x_icmp_ne (q := 112) (t := 134) dX10_give_109 rfl (by decide) (fun h109 => by exfalso; omega) (fun h109 => ?_)
  refine x_aload_n (q := 113) dX10_give_112 rfl rfl ?_
  refine x_dup (q := 114) dX10_give_113 rfl rfl ?_
  refine x_getI (q := 117) dX10_give_114 rfl f_10_108 rfl (ft35 hF) ?_
  refine Ex.stk (st' := [.inl w, .inr (.inr (some 35))]) (by rw [show iv G 35 40 = w from hw]) ?_
  refine x_iconst (q := 118) dX10_give_117 rfl (by decide) ?_
  refine x_isub (q := 119) (z := w - 1) dX10_give_118 rfl (wr_id ⟨by omega, by omega⟩) ?_
  refine x_putI (q := 122) dX10_give_119 rfl f_10_108 rfl (fun h => by cases h) (fun h => by cases h) (ft35 hF) ?_
  have hF := FX_si hF 35 40 (w - 1)
  refine x_aload_n (q := 123) dX10_give_122 rfl rfl ?_
  refine x_aload_n (q := 124) dX10_give_123 rfl rfl ?_
  refine x_getR (q := 127) dX10_give_124 rfl f_10_92 rfl (ft35 hF) ?_
  refine Ex.stk (st' := [.inr (.inr (some 62)), .inr (.inr (some 35))]) (by rw [fr35_39 hF]) ?_
  refine x_iload_n (q := 128) dX10_give_127 rfl rfl ?_
  refine x_iaload (q := 129) dX10_give_128 rfl (Or.inl (ft62 hF)) (by omega) (by rw [fl62 hF]; omega) ?_
  refine Ex.stk (st' := [.inl f, .inr (.inr (some 35))]) (by rw [show iv (si G 35 40 (w - 1)) 62 (w - 1) = f from (by simp [iv_si, hw, hsg, hf])]) ?_
  refine x_iload_n (q := 130) dX10_give_129 rfl rfl ?_
  refine x_invV (q := 133) (as := [.inr (.inr (some 35)), .inl f, .inl v]) (rest := []) dX10_give_130 rfl l_10_138 m_X10_called rfl rfl (ft35 hF) (Nat.le_of_ble_eq_true rfl) (c_called0 _ (G := si G 35 40 (w - 1)) hF (by simp [iv_si, hmn]) (by simp [iv_si, hcur]) u0 u1 (by simp [iv_si, hns]) hn) (fun r1 G1 hR => ?_)
  obtain ⟨rfl, rfl⟩ := hR
  refine Ex.stk (st' := [.inl 0]) rfl ?_
  refine x_iret dX10_give_133 rfl ?_
  exact ⟨rfl, rfl⟩
theorem c_give_f1 (d : Nat) {G : Hp} (hF : FM G) {w v sg : Int} (hw : iv G 35 40 = w) (w0 : 1 ≤ w) (w1 : w < 1200) (hsg : iv G 60 (w - 1) = sg) {f mn cur ns : Int} (hmn : iv G 35 14 = mn) (hcur : iv G 35 42 = cur) (u0 : 0 ≤ cur) (u1 : cur < 364) (hns : iv G 55 cur = ns) (hf : iv G 62 (w - 1) = f) (hs : sg = 102) {a nc : Int} (ha : iv G 35 41 = a) (hnc : iv G 35 29 = nc) (n0 : 0 ≤ nc) (n1 : nc < 364) (n2 : nc ≠ 0) (f0 : 0 ≤ f) (f1 : f < mn) (m5 : mn ≤ 5) (b0 : 0 ≤ ns) (b1 : ns < 6) : CX (d + 4) 120 [.inr (.inr (some 35)), .inl v] G (fun r G1 => r = some (.inl (-1)) ∧ G1 = si (si (si (si (si (si (si (si (si (si (si (si (si G 35 40 (w - 1)) 35 42 nc) 52 nc f) 53 nc v) 55 nc (ns + 1)) 56 nc 0) 35 29 (nc + 1)) 60 (w - 1) 67) 61 (w - 1) 0) 62 (w - 1) cur) 35 40 (w - 1 + 1)) 61 (w - 1) a) 35 41 (iv (si G 35 40 (w - 1)) 43 f)) := by
  refine CX.of (d := d + 3) m_X10_give (Nat.le_of_ble_eq_true rfl) ?_
  refine Ex.lcl (ls' := [some (.inr (.inr (some 35))), some (.inl v), none, none]) rfl ?_
  refine x_aload_n (q := 1) dX10_give_0 rfl rfl ?_
  refine x_getI (q := 4) dX10_give_1 rfl f_10_108 rfl (ft35 hF) ?_
  refine Ex.stk (st' := [.inl w]) (by rw [show iv G 35 40 = w from hw]) ?_
  refine x_iconst (q := 5) dX10_give_4 rfl (by decide) ?_
  refine x_isub (q := 6) (z := w - 1) dX10_give_5 rfl (wr_id ⟨by omega, by omega⟩) ?_
  refine x_istore_n (q := 7) (ls' := [some (.inr (.inr (some 35))), some (.inl v), some (.inl (w - 1)), none]) dX10_give_6 rfl (Nat.le_of_ble_eq_true rfl) (by first | rfl | exact hnl) rfl ?_
  refine x_aload_n (q := 8) dX10_give_7 rfl rfl ?_
  refine x_getR (q := 11) dX10_give_8 rfl f_10_86 rfl (ft35 hF) ?_
  refine Ex.stk (st' := [.inr (.inr (some 60))]) (by rw [fr35_37 hF]) ?_
  refine x_iload_n (q := 12) dX10_give_11 rfl rfl ?_
  refine x_iaload (q := 13) dX10_give_12 rfl (Or.inl (ft60 hF)) (by omega) (by rw [fl60 hF]; omega) ?_
  refine Ex.stk (st' := [.inl sg]) (by rw [show iv G 60 (w - 1) = sg from hsg]) ?_
  refine x_istore_n (q := 14) (ls' := [some (.inr (.inr (some 35))), some (.inl v), some (.inl (w - 1)), some (.inl sg)]) dX10_give_13 rfl (Nat.le_of_ble_eq_true rfl) (by first | rfl | exact hnl) rfl ?_
  refine x_iload_n (q := 15) dX10_give_14 rfl rfl ?_
  refine x_bipush (q := 17) dX10_give_15 rfl (by decide) ?_
  refine x_icmp_ne (q := 20) (t := 62) dX10_give_17 rfl (by decide) (fun h17 => ?_) (fun h17 => by exfalso; omega)
  refine x_iload_n (q := 63) dX10_give_62 rfl rfl ?_
  refine x_bipush (q := 65) dX10_give_63 rfl (by decide) ?_
  refine x_icmp_ne (q := 68) (t := 106) dX10_give_65 rfl (by decide) (fun h65 => ?_) (fun h65 => by exfalso; omega)
  refine x_iload_n (q := 107) dX10_give_106 rfl rfl ?_
  refine x_bipush (q := 109) dX10_give_107 rfl (by decide) ?_
  refine x_icmp_ne (q := 112) (t := 134) dX10_give_109 rfl (by decide) (fun h109 => by exfalso; omega) (fun h109 => ?_)
  refine x_aload_n (q := 113) dX10_give_112 rfl rfl ?_
  refine x_dup (q := 114) dX10_give_113 rfl rfl ?_
  refine x_getI (q := 117) dX10_give_114 rfl f_10_108 rfl (ft35 hF) ?_
  refine Ex.stk (st' := [.inl w, .inr (.inr (some 35))]) (by rw [show iv G 35 40 = w from hw]) ?_
  refine x_iconst (q := 118) dX10_give_117 rfl (by decide) ?_
  refine x_isub (q := 119) (z := w - 1) dX10_give_118 rfl (wr_id ⟨by omega, by omega⟩) ?_
  refine x_putI (q := 122) dX10_give_119 rfl f_10_108 rfl (fun h => by cases h) (fun h => by cases h) (ft35 hF) ?_
  have hF := FX_si hF 35 40 (w - 1)
  refine x_aload_n (q := 123) dX10_give_122 rfl rfl ?_
  refine x_aload_n (q := 124) dX10_give_123 rfl rfl ?_
  refine x_getR (q := 127) dX10_give_124 rfl f_10_92 rfl (ft35 hF) ?_
  refine Ex.stk (st' := [.inr (.inr (some 62)), .inr (.inr (some 35))]) (by rw [fr35_39 hF]) ?_
  refine x_iload_n (q := 128) dX10_give_127 rfl rfl ?_
  refine x_iaload (q := 129) dX10_give_128 rfl (Or.inl (ft62 hF)) (by omega) (by rw [fl62 hF]; omega) ?_
  refine Ex.stk (st' := [.inl f, .inr (.inr (some 35))]) (by rw [show iv (si G 35 40 (w - 1)) 62 (w - 1) = f from (by simp [iv_si, hw, hsg, hf])]) ?_
  refine x_iload_n (q := 130) dX10_give_129 rfl rfl ?_
  refine x_invV (q := 133) (as := [.inr (.inr (some 35)), .inl f, .inl v]) (rest := []) dX10_give_130 rfl l_10_138 m_X10_called rfl rfl (ft35 hF) (Nat.le_of_ble_eq_true rfl) (c_called1 _ (G := si G 35 40 (w - 1)) hF (by simp [iv_si, hmn]) (by simp [iv_si, hcur]) u0 u1 (by simp [iv_si, hns]) (w := w - 1) (a := a) (nc := nc) (by simp [iv_si]) (by simp [iv_si, ha]) (by simp [iv_si, hnc]) (by omega) (by omega) n0 n1 n2 f0 f1 m5 b0 b1) (fun r1 G1 hR => ?_)
  obtain ⟨rfl, rfl⟩ := hR
  refine Ex.stk (st' := [.inl (-1)]) rfl ?_
  refine x_iret dX10_give_133 rfl ?_
  exact ⟨rfl, rfl⟩
theorem c_give_t1 (d : Nat) {G : Hp} (hF : FM G) {w v sg : Int} (hw : iv G 35 40 = w) (w0 : 1 ≤ w) (w1 : w < 1200) (hsg : iv G 60 (w - 1) = sg) (hb : sg = 43 ∨ sg = 45 ∨ sg = 42 ∨ sg = 60) (hst : iv G 61 (w - 1) = 0) : CX (d + 4) 120 [.inr (.inr (some 35)), .inl v] G (fun r G1 => r = some (.inl (-1)) ∧ G1 = si (si G 61 (w - 1) 1) 62 (w - 1) v) := by
  refine CX.of (d := d + 3) m_X10_give (Nat.le_of_ble_eq_true rfl) ?_
  refine Ex.lcl (ls' := [some (.inr (.inr (some 35))), some (.inl v), none, none]) rfl ?_
  refine x_aload_n (q := 1) dX10_give_0 rfl rfl ?_
  refine x_getI (q := 4) dX10_give_1 rfl f_10_108 rfl (ft35 hF) ?_
  refine Ex.stk (st' := [.inl w]) (by rw [show iv G 35 40 = w from hw]) ?_
  refine x_iconst (q := 5) dX10_give_4 rfl (by decide) ?_
  refine x_isub (q := 6) (z := w - 1) dX10_give_5 rfl (wr_id ⟨by omega, by omega⟩) ?_
  refine x_istore_n (q := 7) (ls' := [some (.inr (.inr (some 35))), some (.inl v), some (.inl (w - 1)), none]) dX10_give_6 rfl (Nat.le_of_ble_eq_true rfl) (by first | rfl | exact hnl) rfl ?_
  refine x_aload_n (q := 8) dX10_give_7 rfl rfl ?_
  refine x_getR (q := 11) dX10_give_8 rfl f_10_86 rfl (ft35 hF) ?_
  refine Ex.stk (st' := [.inr (.inr (some 60))]) (by rw [fr35_37 hF]) ?_
  refine x_iload_n (q := 12) dX10_give_11 rfl rfl ?_
  refine x_iaload (q := 13) dX10_give_12 rfl (Or.inl (ft60 hF)) (by omega) (by rw [fl60 hF]; omega) ?_
  refine Ex.stk (st' := [.inl sg]) (by rw [show iv G 60 (w - 1) = sg from hsg]) ?_
  refine x_istore_n (q := 14) (ls' := [some (.inr (.inr (some 35))), some (.inl v), some (.inl (w - 1)), some (.inl sg)]) dX10_give_13 rfl (Nat.le_of_ble_eq_true rfl) (by first | rfl | exact hnl) rfl ?_
  refine x_iload_n (q := 15) dX10_give_14 rfl rfl ?_
  refine x_bipush (q := 17) dX10_give_15 rfl (by decide) ?_
  refine x_icmp_ne (q := 20) (t := 62) dX10_give_17 rfl (by decide) (fun h17 => ?_) (fun h17 => by exfalso; omega)
  refine x_iload_n (q := 63) dX10_give_62 rfl rfl ?_
  refine x_bipush (q := 65) dX10_give_63 rfl (by decide) ?_
  refine x_icmp_ne (q := 68) (t := 106) dX10_give_65 rfl (by decide) (fun h65 => ?_) (fun h65 => by exfalso; omega)
  refine x_iload_n (q := 107) dX10_give_106 rfl rfl ?_
  refine x_bipush (q := 109) dX10_give_107 rfl (by decide) ?_
  refine x_icmp_ne (q := 112) (t := 134) dX10_give_109 rfl (by decide) (fun h109 => ?_) (fun h109 => by exfalso; omega)
  refine x_iload_n (q := 135) dX10_give_134 rfl rfl ?_
  refine x_bipush (q := 137) dX10_give_135 rfl (by decide) ?_
  refine x_icmp_ne (q := 140) (t := 149) dX10_give_137 rfl (by decide) (fun h137 => ?_) (fun h137 => by exfalso; omega)
  refine x_aload_n (q := 150) dX10_give_149 rfl rfl ?_
  refine x_iload_n (q := 151) dX10_give_150 rfl rfl ?_
  refine x_iload_n (q := 152) dX10_give_151 rfl rfl ?_
  refine x_invV (q := 155) (as := [.inr (.inr (some 35)), .inl (w - 1), .inl v]) (rest := []) dX10_give_152 rfl l_10_145 m_X10_giveTwo rfl rfl (ft35 hF) (Nat.le_of_ble_eq_true rfl) (CX.of m_X10_giveTwo (Nat.le_of_ble_eq_true rfl) ?_) (fun _ _ h => h)
  refine Ex.lcl (ls' := [some (.inr (.inr (some 35))), some (.inl (w - 1)), some (.inl v)]) rfl ?_
  refine x_aload_n (q := 1) dX10_giveTwo_0 rfl rfl ?_
  refine x_getR (q := 4) dX10_giveTwo_1 rfl f_10_89 rfl (ft35 hF) ?_
  refine Ex.stk (st' := [.inr (.inr (some 61))]) (by rw [fr35_38 hF]) ?_
  refine x_iload_n (q := 5) dX10_giveTwo_4 rfl rfl ?_
  refine x_dup2 (q := 6) dX10_giveTwo_5 rfl rfl rfl ?_
  refine x_iaload (q := 7) dX10_giveTwo_6 rfl (Or.inl (ft61 hF)) (by omega) (by rw [fl61 hF]; omega) ?_
  refine Ex.stk (st' := [.inl 0, .inl (w - 1), .inr (.inr (some 61))]) (by rw [hst]) ?_
  refine x_iconst (q := 8) dX10_giveTwo_7 rfl (by decide) ?_
  refine x_iadd (q := 9) (z := 1) dX10_giveTwo_8 rfl (by decide) ?_
  refine x_iastore (q := 10) dX10_giveTwo_9 rfl (ft61 hF) (by omega) (by rw [fl61 hF]; omega) ?_
  have hF := FX_si hF 61 (w - 1) 1
  refine x_aload_n (q := 11) dX10_giveTwo_10 rfl rfl ?_
  refine x_getR (q := 14) dX10_giveTwo_11 rfl f_10_89 rfl (ft35 hF) ?_
  refine Ex.stk (st' := [.inr (.inr (some 61))]) (by rw [fr35_38 hF]) ?_
  refine x_iload_n (q := 15) dX10_giveTwo_14 rfl rfl ?_
  refine x_iaload (q := 16) dX10_giveTwo_15 rfl (Or.inl (ft61 hF)) (by omega) (by rw [fl61 hF]; omega) ?_
  refine Ex.stk (st' := [.inl 1]) (by rw [show iv (si G 61 (w - 1) 1) 61 (w - 1) = 1 from (by simp [iv_si])]) ?_
  refine x_iconst (q := 17) dX10_giveTwo_16 rfl (by decide) ?_
  refine x_icmp_ne (q := 20) (t := 29) dX10_giveTwo_17 rfl (by decide) (fun h17 => by exfalso; omega) (fun h17 => ?_)
  refine x_aload_n (q := 21) dX10_giveTwo_20 rfl rfl ?_
  refine x_getR (q := 24) dX10_giveTwo_21 rfl f_10_92 rfl (ft35 hF) ?_
  refine Ex.stk (st' := [.inr (.inr (some 62))]) (by rw [fr35_39 hF]) ?_
  refine x_iload_n (q := 25) dX10_giveTwo_24 rfl rfl ?_
  refine x_iload_n (q := 26) dX10_giveTwo_25 rfl rfl ?_
  refine x_iastore (q := 27) dX10_giveTwo_26 rfl (ft62 hF) (by omega) (by rw [fl62 hF]; omega) ?_
  have hF := FX_si hF 62 (w - 1) v
  refine x_iconst (q := 28) dX10_giveTwo_27 rfl (by decide) ?_
  refine x_iret dX10_giveTwo_28 rfl ?_
  refine Ex.stk (st' := [.inl (-1)]) rfl ?_
  refine x_iret dX10_give_155 rfl ?_
  exact ⟨rfl, rfl⟩
theorem c_give_t2 (d : Nat) {G : Hp} (hF : FM G) {w v sg : Int} (hw : iv G 35 40 = w) (w0 : 1 ≤ w) (w1 : w < 1200) (hsg : iv G 60 (w - 1) = sg) (hb : sg = 43 ∨ sg = 45 ∨ sg = 42 ∨ sg = 60) (hst : iv G 61 (w - 1) = 1) {x : Int} (hxv : iv G 62 (w - 1) = x) (hx : 0 ≤ x ∧ x ≤ 996) (hv : 0 ≤ v ∧ v ≤ 996) : CX (d + 4) 120 [.inr (.inr (some 35)), .inl v] G (fun r G1 => r = some (.inl (opv sg x v)) ∧ G1 = si (si G 61 (w - 1) 2) 35 40 (w - 1)) := by
  refine CX.of (d := d + 3) m_X10_give (Nat.le_of_ble_eq_true rfl) ?_
  refine Ex.lcl (ls' := [some (.inr (.inr (some 35))), some (.inl v), none, none]) rfl ?_
  refine x_aload_n (q := 1) dX10_give_0 rfl rfl ?_
  refine x_getI (q := 4) dX10_give_1 rfl f_10_108 rfl (ft35 hF) ?_
  refine Ex.stk (st' := [.inl w]) (by rw [show iv G 35 40 = w from hw]) ?_
  refine x_iconst (q := 5) dX10_give_4 rfl (by decide) ?_
  refine x_isub (q := 6) (z := w - 1) dX10_give_5 rfl (wr_id ⟨by omega, by omega⟩) ?_
  refine x_istore_n (q := 7) (ls' := [some (.inr (.inr (some 35))), some (.inl v), some (.inl (w - 1)), none]) dX10_give_6 rfl (Nat.le_of_ble_eq_true rfl) (by first | rfl | exact hnl) rfl ?_
  refine x_aload_n (q := 8) dX10_give_7 rfl rfl ?_
  refine x_getR (q := 11) dX10_give_8 rfl f_10_86 rfl (ft35 hF) ?_
  refine Ex.stk (st' := [.inr (.inr (some 60))]) (by rw [fr35_37 hF]) ?_
  refine x_iload_n (q := 12) dX10_give_11 rfl rfl ?_
  refine x_iaload (q := 13) dX10_give_12 rfl (Or.inl (ft60 hF)) (by omega) (by rw [fl60 hF]; omega) ?_
  refine Ex.stk (st' := [.inl sg]) (by rw [show iv G 60 (w - 1) = sg from hsg]) ?_
  refine x_istore_n (q := 14) (ls' := [some (.inr (.inr (some 35))), some (.inl v), some (.inl (w - 1)), some (.inl sg)]) dX10_give_13 rfl (Nat.le_of_ble_eq_true rfl) (by first | rfl | exact hnl) rfl ?_
  refine x_iload_n (q := 15) dX10_give_14 rfl rfl ?_
  refine x_bipush (q := 17) dX10_give_15 rfl (by decide) ?_
  refine x_icmp_ne (q := 20) (t := 62) dX10_give_17 rfl (by decide) (fun h17 => ?_) (fun h17 => by exfalso; omega)
  refine x_iload_n (q := 63) dX10_give_62 rfl rfl ?_
  refine x_bipush (q := 65) dX10_give_63 rfl (by decide) ?_
  refine x_icmp_ne (q := 68) (t := 106) dX10_give_65 rfl (by decide) (fun h65 => ?_) (fun h65 => by exfalso; omega)
  refine x_iload_n (q := 107) dX10_give_106 rfl rfl ?_
  refine x_bipush (q := 109) dX10_give_107 rfl (by decide) ?_
  refine x_icmp_ne (q := 112) (t := 134) dX10_give_109 rfl (by decide) (fun h109 => ?_) (fun h109 => by exfalso; omega)
  refine x_iload_n (q := 135) dX10_give_134 rfl rfl ?_
  refine x_bipush (q := 137) dX10_give_135 rfl (by decide) ?_
  refine x_icmp_ne (q := 140) (t := 149) dX10_give_137 rfl (by decide) (fun h137 => ?_) (fun h137 => by exfalso; omega)
  refine x_aload_n (q := 150) dX10_give_149 rfl rfl ?_
  refine x_iload_n (q := 151) dX10_give_150 rfl rfl ?_
  refine x_iload_n (q := 152) dX10_give_151 rfl rfl ?_
  refine x_invV (q := 155) (as := [.inr (.inr (some 35)), .inl (w - 1), .inl v]) (rest := []) dX10_give_152 rfl l_10_145 m_X10_giveTwo rfl rfl (ft35 hF) (Nat.le_of_ble_eq_true rfl) (CX.of m_X10_giveTwo (Nat.le_of_ble_eq_true rfl) ?_) (fun _ _ h => h)
  refine Ex.lcl (ls' := [some (.inr (.inr (some 35))), some (.inl (w - 1)), some (.inl v)]) rfl ?_
  refine x_aload_n (q := 1) dX10_giveTwo_0 rfl rfl ?_
  refine x_getR (q := 4) dX10_giveTwo_1 rfl f_10_89 rfl (ft35 hF) ?_
  refine Ex.stk (st' := [.inr (.inr (some 61))]) (by rw [fr35_38 hF]) ?_
  refine x_iload_n (q := 5) dX10_giveTwo_4 rfl rfl ?_
  refine x_dup2 (q := 6) dX10_giveTwo_5 rfl rfl rfl ?_
  refine x_iaload (q := 7) dX10_giveTwo_6 rfl (Or.inl (ft61 hF)) (by omega) (by rw [fl61 hF]; omega) ?_
  refine Ex.stk (st' := [.inl 1, .inl (w - 1), .inr (.inr (some 61))]) (by rw [hst]) ?_
  refine x_iconst (q := 8) dX10_giveTwo_7 rfl (by decide) ?_
  refine x_iadd (q := 9) (z := 2) dX10_giveTwo_8 rfl (by decide) ?_
  refine x_iastore (q := 10) dX10_giveTwo_9 rfl (ft61 hF) (by omega) (by rw [fl61 hF]; omega) ?_
  have hF := FX_si hF 61 (w - 1) 2
  refine x_aload_n (q := 11) dX10_giveTwo_10 rfl rfl ?_
  refine x_getR (q := 14) dX10_giveTwo_11 rfl f_10_89 rfl (ft35 hF) ?_
  refine Ex.stk (st' := [.inr (.inr (some 61))]) (by rw [fr35_38 hF]) ?_
  refine x_iload_n (q := 15) dX10_giveTwo_14 rfl rfl ?_
  refine x_iaload (q := 16) dX10_giveTwo_15 rfl (Or.inl (ft61 hF)) (by omega) (by rw [fl61 hF]; omega) ?_
  refine Ex.stk (st' := [.inl 2]) (by rw [show iv (si G 61 (w - 1) 2) 61 (w - 1) = 2 from (by simp [iv_si])]) ?_
  refine x_iconst (q := 17) dX10_giveTwo_16 rfl (by decide) ?_
  refine x_icmp_ne (q := 20) (t := 29) dX10_giveTwo_17 rfl (by decide) (fun h17 => ?_) (fun h17 => by exfalso; omega)
  refine x_aload_n (q := 30) dX10_giveTwo_29 rfl rfl ?_
  refine x_dup (q := 31) dX10_giveTwo_30 rfl rfl ?_
  refine x_getI (q := 34) dX10_giveTwo_31 rfl f_10_108 rfl (ft35 hF) ?_
  refine Ex.stk (st' := [.inl w, .inr (.inr (some 35))]) (by rw [show iv (si G 61 (w - 1) 2) 35 40 = w from (by simp [iv_si, hw, hsg, hxv])]) ?_
  refine x_iconst (q := 35) dX10_giveTwo_34 rfl (by decide) ?_
  refine x_isub (q := 36) (z := w - 1) dX10_giveTwo_35 rfl (wr_id ⟨by omega, by omega⟩) ?_
  refine x_putI (q := 39) dX10_giveTwo_36 rfl f_10_108 rfl (fun h => by cases h) (fun h => by cases h) (ft35 hF) ?_
  have hF := FX_si hF 35 40 (w - 1)
  refine x_aload_n (q := 40) dX10_giveTwo_39 rfl rfl ?_
  refine x_getR (q := 43) dX10_giveTwo_40 rfl f_10_86 rfl (ft35 hF) ?_
  refine Ex.stk (st' := [.inr (.inr (some 60))]) (by rw [fr35_37 hF]) ?_
  refine x_iload_n (q := 44) dX10_giveTwo_43 rfl rfl ?_
  refine x_iaload (q := 45) dX10_giveTwo_44 rfl (Or.inl (ft60 hF)) (by omega) (by rw [fl60 hF]; omega) ?_
  refine Ex.stk (st' := [.inl sg]) (by rw [show iv (si (si G 61 (w - 1) 2) 35 40 (w - 1)) 60 (w - 1) = sg from (by simp [iv_si, hw, hsg, hxv])]) ?_
  refine x_aload_n (q := 46) dX10_giveTwo_45 rfl rfl ?_
  refine x_getR (q := 49) dX10_giveTwo_46 rfl f_10_92 rfl (ft35 hF) ?_
  refine Ex.stk (st' := [.inr (.inr (some 62)), .inl sg]) (by rw [fr35_39 hF]) ?_
  refine x_iload_n (q := 50) dX10_giveTwo_49 rfl rfl ?_
  refine x_iaload (q := 51) dX10_giveTwo_50 rfl (Or.inl (ft62 hF)) (by omega) (by rw [fl62 hF]; omega) ?_
  refine Ex.stk (st' := [.inl x, .inl sg]) (by rw [show iv (si (si G 61 (w - 1) 2) 35 40 (w - 1)) 62 (w - 1) = x from (by simp [iv_si, hw, hsg, hxv])]) ?_
  refine x_iload_n (q := 52) dX10_giveTwo_51 rfl rfl ?_
  refine x_invS (q := 55) (as := [.inl sg, .inl x, .inl v]) (rest := []) dX10_giveTwo_52 rfl l_10_148 m_X10_counted rfl rfl (Nat.le_of_ble_eq_true rfl) (Nat.le_of_ble_eq_true rfl) (c_counted _ hb hx hv) (fun r1 G1 hR => ?_)
  obtain ⟨rfl, rfl⟩ := hR
  refine Ex.stk (st' := [.inl (opv sg x v)]) rfl ?_
  refine x_iret dX10_giveTwo_55 rfl ?_
  refine Ex.stk (st' := [.inl (opv sg x v)]) rfl ?_
  refine x_iret dX10_give_155 rfl ?_
  exact ⟨rfl, rfl⟩
theorem c_give_q0 (d : Nat) {G : Hp} (hF : FM G) {w v sg : Int} (hw : iv G 35 40 = w) (w0 : 1 ≤ w) (w1 : w < 1200) (hsg : iv G 60 (w - 1) = sg) (hs : sg = 63) {n : Nat} {a b : Int} (ha : iv G 35 41 = a) (hT : Tm (iv G 42) n a b) (a0 : 0 ≤ a) (b1 : b ≤ 160) (hst : iv G 61 (w - 1) = 0) (hv : v = 0) : CX (d + 4) 120 [.inr (.inr (some 35)), .inl v] G (fun r G1 => r = some (.inl (-1)) ∧ G1 = si (si G 35 41 b) 61 (w - 1) 2) := by
  refine CX.of (d := d + 3) m_X10_give (Nat.le_of_ble_eq_true rfl) ?_
  refine Ex.lcl (ls' := [some (.inr (.inr (some 35))), some (.inl v), none, none]) rfl ?_
  refine x_aload_n (q := 1) dX10_give_0 rfl rfl ?_
  refine x_getI (q := 4) dX10_give_1 rfl f_10_108 rfl (ft35 hF) ?_
  refine Ex.stk (st' := [.inl w]) (by rw [show iv G 35 40 = w from hw]) ?_
  refine x_iconst (q := 5) dX10_give_4 rfl (by decide) ?_
  refine x_isub (q := 6) (z := w - 1) dX10_give_5 rfl (wr_id ⟨by omega, by omega⟩) ?_
  refine x_istore_n (q := 7) (ls' := [some (.inr (.inr (some 35))), some (.inl v), some (.inl (w - 1)), none]) dX10_give_6 rfl (Nat.le_of_ble_eq_true rfl) (by first | rfl | exact hnl) rfl ?_
  refine x_aload_n (q := 8) dX10_give_7 rfl rfl ?_
  refine x_getR (q := 11) dX10_give_8 rfl f_10_86 rfl (ft35 hF) ?_
  refine Ex.stk (st' := [.inr (.inr (some 60))]) (by rw [fr35_37 hF]) ?_
  refine x_iload_n (q := 12) dX10_give_11 rfl rfl ?_
  refine x_iaload (q := 13) dX10_give_12 rfl (Or.inl (ft60 hF)) (by omega) (by rw [fl60 hF]; omega) ?_
  refine Ex.stk (st' := [.inl sg]) (by rw [show iv G 60 (w - 1) = sg from hsg]) ?_
  refine x_istore_n (q := 14) (ls' := [some (.inr (.inr (some 35))), some (.inl v), some (.inl (w - 1)), some (.inl sg)]) dX10_give_13 rfl (Nat.le_of_ble_eq_true rfl) (by first | rfl | exact hnl) rfl ?_
  refine x_iload_n (q := 15) dX10_give_14 rfl rfl ?_
  refine x_bipush (q := 17) dX10_give_15 rfl (by decide) ?_
  refine x_icmp_ne (q := 20) (t := 62) dX10_give_17 rfl (by decide) (fun h17 => ?_) (fun h17 => by exfalso; omega)
  refine x_iload_n (q := 63) dX10_give_62 rfl rfl ?_
  refine x_bipush (q := 65) dX10_give_63 rfl (by decide) ?_
  refine x_icmp_ne (q := 68) (t := 106) dX10_give_65 rfl (by decide) (fun h65 => ?_) (fun h65 => by exfalso; omega)
  refine x_iload_n (q := 107) dX10_give_106 rfl rfl ?_
  refine x_bipush (q := 109) dX10_give_107 rfl (by decide) ?_
  refine x_icmp_ne (q := 112) (t := 134) dX10_give_109 rfl (by decide) (fun h109 => ?_) (fun h109 => by exfalso; omega)
  refine x_iload_n (q := 135) dX10_give_134 rfl rfl ?_
  refine x_bipush (q := 137) dX10_give_135 rfl (by decide) ?_
  refine x_icmp_ne (q := 140) (t := 149) dX10_give_137 rfl (by decide) (fun h137 => by exfalso; omega) (fun h137 => ?_)
  refine x_aload_n (q := 141) dX10_give_140 rfl rfl ?_
  refine x_iload_n (q := 142) dX10_give_141 rfl rfl ?_
  refine x_iload_n (q := 143) dX10_give_142 rfl rfl ?_
  refine x_invV (q := 146) (as := [.inr (.inr (some 35)), .inl (w - 1), .inl v]) (rest := []) dX10_give_143 rfl l_10_142 m_X10_choose rfl rfl (ft35 hF) (Nat.le_of_ble_eq_true rfl) (CX.of m_X10_choose (Nat.le_of_ble_eq_true rfl) ?_) (fun _ _ h => h)
  refine Ex.lcl (ls' := [some (.inr (.inr (some 35))), some (.inl (w - 1)), some (.inl v)]) rfl ?_
  refine x_aload_n (q := 1) dX10_choose_0 rfl rfl ?_
  refine x_getR (q := 4) dX10_choose_1 rfl f_10_89 rfl (ft35 hF) ?_
  refine Ex.stk (st' := [.inr (.inr (some 61))]) (by rw [fr35_38 hF]) ?_
  refine x_iload_n (q := 5) dX10_choose_4 rfl rfl ?_
  refine x_iaload (q := 6) dX10_choose_5 rfl (Or.inl (ft61 hF)) (by omega) (by rw [fl61 hF]; omega) ?_
  refine Ex.stk (st' := [.inl 0]) (by rw [show iv G 61 (w - 1) = 0 from hst]) ?_
  refine x_if_ne (q := 9) (t := 34) dX10_choose_6 rfl (by decide) (fun h6 => by exfalso; omega) (fun h6 => ?_)
  refine x_iload_n (q := 10) dX10_choose_9 rfl rfl ?_
  refine x_if_ne (q := 13) (t := 17) dX10_choose_10 rfl (by decide) (fun h10 => by exfalso; omega) (fun h10 => ?_)
  refine x_aload_n (q := 14) dX10_choose_13 rfl rfl ?_
  refine x_invV (q := 17) (as := [.inr (.inr (some 35))]) (rest := []) dX10_choose_14 rfl l_10_152 m_X10_skip rfl rfl (ft35 hF) (Nat.le_of_ble_eq_true rfl) (c_skip _ (G := G) hF (by simp [iv_si, ha]) (hT : Tm (iv G 42) n a b) (by omega) (by omega)) (fun r1 G1 hR => ?_)
  obtain ⟨rfl, rfl⟩ := hR
  have hF := FX_si hF 35 41 b
  refine Ex.stk (st' := []) rfl ?_
  refine x_aload_n (q := 18) dX10_choose_17 rfl rfl ?_
  refine x_getR (q := 21) dX10_choose_18 rfl f_10_89 rfl (ft35 hF) ?_
  refine Ex.stk (st' := [.inr (.inr (some 61))]) (by rw [fr35_38 hF]) ?_
  refine x_iload_n (q := 22) dX10_choose_21 rfl rfl ?_
  refine x_iload_n (q := 23) dX10_choose_22 rfl rfl ?_
  refine x_if_ne (q := 26) (t := 30) dX10_choose_23 rfl (by decide) (fun h23 => by exfalso; omega) (fun h23 => ?_)
  refine x_iconst (q := 27) dX10_choose_26 rfl (by decide) ?_
  refine x_goto (t := 31) dX10_choose_27 (by decide) ?_
  refine x_iastore (q := 32) dX10_choose_31 rfl (ft61 hF) (by omega) (by rw [fl61 hF]; omega) ?_
  have hF := FX_si hF 61 (w - 1) 2
  refine x_iconst (q := 33) dX10_choose_32 rfl (by decide) ?_
  refine x_iret dX10_choose_33 rfl ?_
  refine Ex.stk (st' := [.inl (-1)]) rfl ?_
  refine x_goto (t := 155) dX10_give_146 (by decide) ?_
  refine x_iret dX10_give_155 rfl ?_
  exact ⟨rfl, rfl⟩
theorem c_give_q1 (d : Nat) {G : Hp} (hF : FM G) {w v sg : Int} (hw : iv G 35 40 = w) (w0 : 1 ≤ w) (w1 : w < 1200) (hsg : iv G 60 (w - 1) = sg) (hs : sg = 63) (hst : iv G 61 (w - 1) = 0) (hv : v ≠ 0) : CX (d + 4) 120 [.inr (.inr (some 35)), .inl v] G (fun r G1 => r = some (.inl (-1)) ∧ G1 = si G 61 (w - 1) 1) := by
  refine CX.of (d := d + 3) m_X10_give (Nat.le_of_ble_eq_true rfl) ?_
  refine Ex.lcl (ls' := [some (.inr (.inr (some 35))), some (.inl v), none, none]) rfl ?_
  refine x_aload_n (q := 1) dX10_give_0 rfl rfl ?_
  refine x_getI (q := 4) dX10_give_1 rfl f_10_108 rfl (ft35 hF) ?_
  refine Ex.stk (st' := [.inl w]) (by rw [show iv G 35 40 = w from hw]) ?_
  refine x_iconst (q := 5) dX10_give_4 rfl (by decide) ?_
  refine x_isub (q := 6) (z := w - 1) dX10_give_5 rfl (wr_id ⟨by omega, by omega⟩) ?_
  refine x_istore_n (q := 7) (ls' := [some (.inr (.inr (some 35))), some (.inl v), some (.inl (w - 1)), none]) dX10_give_6 rfl (Nat.le_of_ble_eq_true rfl) (by first | rfl | exact hnl) rfl ?_
  refine x_aload_n (q := 8) dX10_give_7 rfl rfl ?_
  refine x_getR (q := 11) dX10_give_8 rfl f_10_86 rfl (ft35 hF) ?_
  refine Ex.stk (st' := [.inr (.inr (some 60))]) (by rw [fr35_37 hF]) ?_
  refine x_iload_n (q := 12) dX10_give_11 rfl rfl ?_
  refine x_iaload (q := 13) dX10_give_12 rfl (Or.inl (ft60 hF)) (by omega) (by rw [fl60 hF]; omega) ?_
  refine Ex.stk (st' := [.inl sg]) (by rw [show iv G 60 (w - 1) = sg from hsg]) ?_
  refine x_istore_n (q := 14) (ls' := [some (.inr (.inr (some 35))), some (.inl v), some (.inl (w - 1)), some (.inl sg)]) dX10_give_13 rfl (Nat.le_of_ble_eq_true rfl) (by first | rfl | exact hnl) rfl ?_
  refine x_iload_n (q := 15) dX10_give_14 rfl rfl ?_
  refine x_bipush (q := 17) dX10_give_15 rfl (by decide) ?_
  refine x_icmp_ne (q := 20) (t := 62) dX10_give_17 rfl (by decide) (fun h17 => ?_) (fun h17 => by exfalso; omega)
  refine x_iload_n (q := 63) dX10_give_62 rfl rfl ?_
  refine x_bipush (q := 65) dX10_give_63 rfl (by decide) ?_
  refine x_icmp_ne (q := 68) (t := 106) dX10_give_65 rfl (by decide) (fun h65 => ?_) (fun h65 => by exfalso; omega)
  refine x_iload_n (q := 107) dX10_give_106 rfl rfl ?_
  refine x_bipush (q := 109) dX10_give_107 rfl (by decide) ?_
  refine x_icmp_ne (q := 112) (t := 134) dX10_give_109 rfl (by decide) (fun h109 => ?_) (fun h109 => by exfalso; omega)
  refine x_iload_n (q := 135) dX10_give_134 rfl rfl ?_
  refine x_bipush (q := 137) dX10_give_135 rfl (by decide) ?_
  refine x_icmp_ne (q := 140) (t := 149) dX10_give_137 rfl (by decide) (fun h137 => by exfalso; omega) (fun h137 => ?_)
  refine x_aload_n (q := 141) dX10_give_140 rfl rfl ?_
  refine x_iload_n (q := 142) dX10_give_141 rfl rfl ?_
  refine x_iload_n (q := 143) dX10_give_142 rfl rfl ?_
  refine x_invV (q := 146) (as := [.inr (.inr (some 35)), .inl (w - 1), .inl v]) (rest := []) dX10_give_143 rfl l_10_142 m_X10_choose rfl rfl (ft35 hF) (Nat.le_of_ble_eq_true rfl) (CX.of m_X10_choose (Nat.le_of_ble_eq_true rfl) ?_) (fun _ _ h => h)
  refine Ex.lcl (ls' := [some (.inr (.inr (some 35))), some (.inl (w - 1)), some (.inl v)]) rfl ?_
  refine x_aload_n (q := 1) dX10_choose_0 rfl rfl ?_
  refine x_getR (q := 4) dX10_choose_1 rfl f_10_89 rfl (ft35 hF) ?_
  refine Ex.stk (st' := [.inr (.inr (some 61))]) (by rw [fr35_38 hF]) ?_
  refine x_iload_n (q := 5) dX10_choose_4 rfl rfl ?_
  refine x_iaload (q := 6) dX10_choose_5 rfl (Or.inl (ft61 hF)) (by omega) (by rw [fl61 hF]; omega) ?_
  refine Ex.stk (st' := [.inl 0]) (by rw [show iv G 61 (w - 1) = 0 from hst]) ?_
  refine x_if_ne (q := 9) (t := 34) dX10_choose_6 rfl (by decide) (fun h6 => by exfalso; omega) (fun h6 => ?_)
  refine x_iload_n (q := 10) dX10_choose_9 rfl rfl ?_
  refine x_if_ne (q := 13) (t := 17) dX10_choose_10 rfl (by decide) (fun h10 => ?_) (fun h10 => by exfalso; omega)
  refine x_aload_n (q := 18) dX10_choose_17 rfl rfl ?_
  refine x_getR (q := 21) dX10_choose_18 rfl f_10_89 rfl (ft35 hF) ?_
  refine Ex.stk (st' := [.inr (.inr (some 61))]) (by rw [fr35_38 hF]) ?_
  refine x_iload_n (q := 22) dX10_choose_21 rfl rfl ?_
  refine x_iload_n (q := 23) dX10_choose_22 rfl rfl ?_
  refine x_if_ne (q := 26) (t := 30) dX10_choose_23 rfl (by decide) (fun h23 => ?_) (fun h23 => by exfalso; omega)
  refine x_iconst (q := 31) dX10_choose_30 rfl (by decide) ?_
  refine x_iastore (q := 32) dX10_choose_31 rfl (ft61 hF) (by omega) (by rw [fl61 hF]; omega) ?_
  have hF := FX_si hF 61 (w - 1) 1
  refine x_iconst (q := 33) dX10_choose_32 rfl (by decide) ?_
  refine x_iret dX10_choose_33 rfl ?_
  refine Ex.stk (st' := [.inl (-1)]) rfl ?_
  refine x_goto (t := 155) dX10_give_146 (by decide) ?_
  refine x_iret dX10_give_155 rfl ?_
  exact ⟨rfl, rfl⟩
theorem c_give_q2 (d : Nat) {G : Hp} (hF : FM G) {w v sg : Int} (hw : iv G 35 40 = w) (w0 : 1 ≤ w) (w1 : w < 1200) (hsg : iv G 60 (w - 1) = sg) (hs : sg = 63) {n : Nat} {a b : Int} (ha : iv G 35 41 = a) (hT : Tm (iv G 42) n a b) (a0 : 0 ≤ a) (b1 : b ≤ 160) (hst : iv G 61 (w - 1) = 1) : CX (d + 4) 120 [.inr (.inr (some 35)), .inl v] G (fun r G1 => r = some (.inl v) ∧ G1 = si (si G 35 41 b) 35 40 (w - 1)) := by
  refine CX.of (d := d + 3) m_X10_give (Nat.le_of_ble_eq_true rfl) ?_
  refine Ex.lcl (ls' := [some (.inr (.inr (some 35))), some (.inl v), none, none]) rfl ?_
  refine x_aload_n (q := 1) dX10_give_0 rfl rfl ?_
  refine x_getI (q := 4) dX10_give_1 rfl f_10_108 rfl (ft35 hF) ?_
  refine Ex.stk (st' := [.inl w]) (by rw [show iv G 35 40 = w from hw]) ?_
  refine x_iconst (q := 5) dX10_give_4 rfl (by decide) ?_
  refine x_isub (q := 6) (z := w - 1) dX10_give_5 rfl (wr_id ⟨by omega, by omega⟩) ?_
  refine x_istore_n (q := 7) (ls' := [some (.inr (.inr (some 35))), some (.inl v), some (.inl (w - 1)), none]) dX10_give_6 rfl (Nat.le_of_ble_eq_true rfl) (by first | rfl | exact hnl) rfl ?_
  refine x_aload_n (q := 8) dX10_give_7 rfl rfl ?_
  refine x_getR (q := 11) dX10_give_8 rfl f_10_86 rfl (ft35 hF) ?_
  refine Ex.stk (st' := [.inr (.inr (some 60))]) (by rw [fr35_37 hF]) ?_
  refine x_iload_n (q := 12) dX10_give_11 rfl rfl ?_
  refine x_iaload (q := 13) dX10_give_12 rfl (Or.inl (ft60 hF)) (by omega) (by rw [fl60 hF]; omega) ?_
  refine Ex.stk (st' := [.inl sg]) (by rw [show iv G 60 (w - 1) = sg from hsg]) ?_
  refine x_istore_n (q := 14) (ls' := [some (.inr (.inr (some 35))), some (.inl v), some (.inl (w - 1)), some (.inl sg)]) dX10_give_13 rfl (Nat.le_of_ble_eq_true rfl) (by first | rfl | exact hnl) rfl ?_
  refine x_iload_n (q := 15) dX10_give_14 rfl rfl ?_
  refine x_bipush (q := 17) dX10_give_15 rfl (by decide) ?_
  refine x_icmp_ne (q := 20) (t := 62) dX10_give_17 rfl (by decide) (fun h17 => ?_) (fun h17 => by exfalso; omega)
  refine x_iload_n (q := 63) dX10_give_62 rfl rfl ?_
  refine x_bipush (q := 65) dX10_give_63 rfl (by decide) ?_
  refine x_icmp_ne (q := 68) (t := 106) dX10_give_65 rfl (by decide) (fun h65 => ?_) (fun h65 => by exfalso; omega)
  refine x_iload_n (q := 107) dX10_give_106 rfl rfl ?_
  refine x_bipush (q := 109) dX10_give_107 rfl (by decide) ?_
  refine x_icmp_ne (q := 112) (t := 134) dX10_give_109 rfl (by decide) (fun h109 => ?_) (fun h109 => by exfalso; omega)
  refine x_iload_n (q := 135) dX10_give_134 rfl rfl ?_
  refine x_bipush (q := 137) dX10_give_135 rfl (by decide) ?_
  refine x_icmp_ne (q := 140) (t := 149) dX10_give_137 rfl (by decide) (fun h137 => by exfalso; omega) (fun h137 => ?_)
  refine x_aload_n (q := 141) dX10_give_140 rfl rfl ?_
  refine x_iload_n (q := 142) dX10_give_141 rfl rfl ?_
  refine x_iload_n (q := 143) dX10_give_142 rfl rfl ?_
  refine x_invV (q := 146) (as := [.inr (.inr (some 35)), .inl (w - 1), .inl v]) (rest := []) dX10_give_143 rfl l_10_142 m_X10_choose rfl rfl (ft35 hF) (Nat.le_of_ble_eq_true rfl) (CX.of m_X10_choose (Nat.le_of_ble_eq_true rfl) ?_) (fun _ _ h => h)
  refine Ex.lcl (ls' := [some (.inr (.inr (some 35))), some (.inl (w - 1)), some (.inl v)]) rfl ?_
  refine x_aload_n (q := 1) dX10_choose_0 rfl rfl ?_
  refine x_getR (q := 4) dX10_choose_1 rfl f_10_89 rfl (ft35 hF) ?_
  refine Ex.stk (st' := [.inr (.inr (some 61))]) (by rw [fr35_38 hF]) ?_
  refine x_iload_n (q := 5) dX10_choose_4 rfl rfl ?_
  refine x_iaload (q := 6) dX10_choose_5 rfl (Or.inl (ft61 hF)) (by omega) (by rw [fl61 hF]; omega) ?_
  refine Ex.stk (st' := [.inl 1]) (by rw [show iv G 61 (w - 1) = 1 from hst]) ?_
  refine x_if_ne (q := 9) (t := 34) dX10_choose_6 rfl (by decide) (fun h6 => ?_) (fun h6 => by exfalso; omega)
  refine x_aload_n (q := 35) dX10_choose_34 rfl rfl ?_
  refine x_getR (q := 38) dX10_choose_35 rfl f_10_89 rfl (ft35 hF) ?_
  refine Ex.stk (st' := [.inr (.inr (some 61))]) (by rw [fr35_38 hF]) ?_
  refine x_iload_n (q := 39) dX10_choose_38 rfl rfl ?_
  refine x_iaload (q := 40) dX10_choose_39 rfl (Or.inl (ft61 hF)) (by omega) (by rw [fl61 hF]; omega) ?_
  refine Ex.stk (st' := [.inl 1]) (by rw [show iv G 61 (w - 1) = 1 from hst]) ?_
  refine x_iconst (q := 41) dX10_choose_40 rfl (by decide) ?_
  refine x_icmp_ne (q := 44) (t := 48) dX10_choose_41 rfl (by decide) (fun h41 => by exfalso; omega) (fun h41 => ?_)
  refine x_aload_n (q := 45) dX10_choose_44 rfl rfl ?_
  refine x_invV (q := 48) (as := [.inr (.inr (some 35))]) (rest := []) dX10_choose_45 rfl l_10_152 m_X10_skip rfl rfl (ft35 hF) (Nat.le_of_ble_eq_true rfl) (c_skip _ (G := G) hF (by simp [iv_si, ha]) (hT : Tm (iv G 42) n a b) (by omega) (by omega)) (fun r1 G1 hR => ?_)
  obtain ⟨rfl, rfl⟩ := hR
  have hF := FX_si hF 35 41 b
  refine Ex.stk (st' := []) rfl ?_
  refine x_aload_n (q := 49) dX10_choose_48 rfl rfl ?_
  refine x_dup (q := 50) dX10_choose_49 rfl rfl ?_
  refine x_getI (q := 53) dX10_choose_50 rfl f_10_108 rfl (ft35 hF) ?_
  refine Ex.stk (st' := [.inl w, .inr (.inr (some 35))]) (by rw [show iv (si G 35 41 b) 35 40 = w from (by simp [iv_si, hw, hsg, hst])]) ?_
  refine x_iconst (q := 54) dX10_choose_53 rfl (by decide) ?_
  refine x_isub (q := 55) (z := w - 1) dX10_choose_54 rfl (wr_id ⟨by omega, by omega⟩) ?_
  refine x_putI (q := 58) dX10_choose_55 rfl f_10_108 rfl (fun h => by cases h) (fun h => by cases h) (ft35 hF) ?_
  have hF := FX_si hF 35 40 (w - 1)
  refine x_iload_n (q := 59) dX10_choose_58 rfl rfl ?_
  refine x_iret dX10_choose_59 rfl ?_
  refine Ex.stk (st' := [.inl v]) rfl ?_
  refine x_goto (t := 155) dX10_give_146 (by decide) ?_
  refine x_iret dX10_give_155 rfl ?_
  exact ⟨rfl, rfl⟩
theorem c_give_q3 (d : Nat) {G : Hp} (hF : FM G) {w v sg : Int} (hw : iv G 35 40 = w) (w0 : 1 ≤ w) (w1 : w < 1200) (hsg : iv G 60 (w - 1) = sg) (hs : sg = 63) (hst : iv G 61 (w - 1) = 2) : CX (d + 4) 120 [.inr (.inr (some 35)), .inl v] G (fun r G1 => r = some (.inl v) ∧ G1 = si G 35 40 (w - 1)) := by
  refine CX.of (d := d + 3) m_X10_give (Nat.le_of_ble_eq_true rfl) ?_
  refine Ex.lcl (ls' := [some (.inr (.inr (some 35))), some (.inl v), none, none]) rfl ?_
  refine x_aload_n (q := 1) dX10_give_0 rfl rfl ?_
  refine x_getI (q := 4) dX10_give_1 rfl f_10_108 rfl (ft35 hF) ?_
  refine Ex.stk (st' := [.inl w]) (by rw [show iv G 35 40 = w from hw]) ?_
  refine x_iconst (q := 5) dX10_give_4 rfl (by decide) ?_
  refine x_isub (q := 6) (z := w - 1) dX10_give_5 rfl (wr_id ⟨by omega, by omega⟩) ?_
  refine x_istore_n (q := 7) (ls' := [some (.inr (.inr (some 35))), some (.inl v), some (.inl (w - 1)), none]) dX10_give_6 rfl (Nat.le_of_ble_eq_true rfl) (by first | rfl | exact hnl) rfl ?_
  refine x_aload_n (q := 8) dX10_give_7 rfl rfl ?_
  refine x_getR (q := 11) dX10_give_8 rfl f_10_86 rfl (ft35 hF) ?_
  refine Ex.stk (st' := [.inr (.inr (some 60))]) (by rw [fr35_37 hF]) ?_
  refine x_iload_n (q := 12) dX10_give_11 rfl rfl ?_
  refine x_iaload (q := 13) dX10_give_12 rfl (Or.inl (ft60 hF)) (by omega) (by rw [fl60 hF]; omega) ?_
  refine Ex.stk (st' := [.inl sg]) (by rw [show iv G 60 (w - 1) = sg from hsg]) ?_
  refine x_istore_n (q := 14) (ls' := [some (.inr (.inr (some 35))), some (.inl v), some (.inl (w - 1)), some (.inl sg)]) dX10_give_13 rfl (Nat.le_of_ble_eq_true rfl) (by first | rfl | exact hnl) rfl ?_
  refine x_iload_n (q := 15) dX10_give_14 rfl rfl ?_
  refine x_bipush (q := 17) dX10_give_15 rfl (by decide) ?_
  refine x_icmp_ne (q := 20) (t := 62) dX10_give_17 rfl (by decide) (fun h17 => ?_) (fun h17 => by exfalso; omega)
  refine x_iload_n (q := 63) dX10_give_62 rfl rfl ?_
  refine x_bipush (q := 65) dX10_give_63 rfl (by decide) ?_
  refine x_icmp_ne (q := 68) (t := 106) dX10_give_65 rfl (by decide) (fun h65 => ?_) (fun h65 => by exfalso; omega)
  refine x_iload_n (q := 107) dX10_give_106 rfl rfl ?_
  refine x_bipush (q := 109) dX10_give_107 rfl (by decide) ?_
  refine x_icmp_ne (q := 112) (t := 134) dX10_give_109 rfl (by decide) (fun h109 => ?_) (fun h109 => by exfalso; omega)
  refine x_iload_n (q := 135) dX10_give_134 rfl rfl ?_
  refine x_bipush (q := 137) dX10_give_135 rfl (by decide) ?_
  refine x_icmp_ne (q := 140) (t := 149) dX10_give_137 rfl (by decide) (fun h137 => by exfalso; omega) (fun h137 => ?_)
  refine x_aload_n (q := 141) dX10_give_140 rfl rfl ?_
  refine x_iload_n (q := 142) dX10_give_141 rfl rfl ?_
  refine x_iload_n (q := 143) dX10_give_142 rfl rfl ?_
  refine x_invV (q := 146) (as := [.inr (.inr (some 35)), .inl (w - 1), .inl v]) (rest := []) dX10_give_143 rfl l_10_142 m_X10_choose rfl rfl (ft35 hF) (Nat.le_of_ble_eq_true rfl) (CX.of m_X10_choose (Nat.le_of_ble_eq_true rfl) ?_) (fun _ _ h => h)
  refine Ex.lcl (ls' := [some (.inr (.inr (some 35))), some (.inl (w - 1)), some (.inl v)]) rfl ?_
  refine x_aload_n (q := 1) dX10_choose_0 rfl rfl ?_
  refine x_getR (q := 4) dX10_choose_1 rfl f_10_89 rfl (ft35 hF) ?_
  refine Ex.stk (st' := [.inr (.inr (some 61))]) (by rw [fr35_38 hF]) ?_
  refine x_iload_n (q := 5) dX10_choose_4 rfl rfl ?_
  refine x_iaload (q := 6) dX10_choose_5 rfl (Or.inl (ft61 hF)) (by omega) (by rw [fl61 hF]; omega) ?_
  refine Ex.stk (st' := [.inl 2]) (by rw [show iv G 61 (w - 1) = 2 from hst]) ?_
  refine x_if_ne (q := 9) (t := 34) dX10_choose_6 rfl (by decide) (fun h6 => ?_) (fun h6 => by exfalso; omega)
  refine x_aload_n (q := 35) dX10_choose_34 rfl rfl ?_
  refine x_getR (q := 38) dX10_choose_35 rfl f_10_89 rfl (ft35 hF) ?_
  refine Ex.stk (st' := [.inr (.inr (some 61))]) (by rw [fr35_38 hF]) ?_
  refine x_iload_n (q := 39) dX10_choose_38 rfl rfl ?_
  refine x_iaload (q := 40) dX10_choose_39 rfl (Or.inl (ft61 hF)) (by omega) (by rw [fl61 hF]; omega) ?_
  refine Ex.stk (st' := [.inl 2]) (by rw [show iv G 61 (w - 1) = 2 from hst]) ?_
  refine x_iconst (q := 41) dX10_choose_40 rfl (by decide) ?_
  refine x_icmp_ne (q := 44) (t := 48) dX10_choose_41 rfl (by decide) (fun h41 => ?_) (fun h41 => by exfalso; omega)
  refine x_aload_n (q := 49) dX10_choose_48 rfl rfl ?_
  refine x_dup (q := 50) dX10_choose_49 rfl rfl ?_
  refine x_getI (q := 53) dX10_choose_50 rfl f_10_108 rfl (ft35 hF) ?_
  refine Ex.stk (st' := [.inl w, .inr (.inr (some 35))]) (by rw [show iv G 35 40 = w from hw]) ?_
  refine x_iconst (q := 54) dX10_choose_53 rfl (by decide) ?_
  refine x_isub (q := 55) (z := w - 1) dX10_choose_54 rfl (wr_id ⟨by omega, by omega⟩) ?_
  refine x_putI (q := 58) dX10_choose_55 rfl f_10_108 rfl (fun h => by cases h) (fun h => by cases h) (ft35 hF) ?_
  have hF := FX_si hF 35 40 (w - 1)
  refine x_iload_n (q := 59) dX10_choose_58 rfl rfl ?_
  refine x_iret dX10_choose_59 rfl ?_
  refine Ex.stk (st' := [.inl v]) rfl ?_
  refine x_goto (t := 155) dX10_give_146 (by decide) ?_
  refine x_iret dX10_give_155 rfl ?_
  exact ⟨rfl, rfl⟩
end
section
/-! Pure facts of what terms tell -/
/-- a call that only appends parts -/
def apH {α : Type} (h : Int → Int → Int × List α) (k y : Int) (s : Int × List α) : Int × Int × List α := ((h k y).1, s.1, s.2 ++ (h k y).2)
/-- how many 'f' a term has -/
def nfc (cd : Int → Int) : Nat → Int → Nat
  | 0, _ => 0
  | n + 1, a => if cd a = 120 then nfc cd n (a + 1) else if cd a = 102 then 1 + nfc cd n (a + 2) else if cd a = 43 ∨ cd a = 45 ∨ cd a = 42 ∨ cd a = 60 then nfc cd n (a + 1) + nfc cd n (tend cd n (a + 1)) else if cd a = 63 then nfc cd n (a + 1) + (nfc cd n (tend cd n (a + 1)) + nfc cd n (tend cd n (tend cd n (a + 1)))) else 0
section EVS
variable {σ : Type} {cd : Int → Int} {rd : Int → σ → Int × σ} {cl : Int → Int → σ → Int × σ} {x : Int} {n : Nat} {a : Int} {s : σ}
theorem ev_fig (h : 48 ≤ cd a ∧ cd a ≤ 57) : ev cd rd cl x (n + 1) a s = (cd a - 48, s) := by
  simp only [ev]; rw [if_neg (by omega), if_neg (by omega), if_neg (by omega), if_neg (by omega), if_neg (by omega)]
theorem ev_n (h : cd a = 110) : ev cd rd cl x (n + 1) a s = (x, s) := by
  simp only [ev]; rw [if_pos h]
theorem ev_x (h : cd a = 120) : ev cd rd cl x (n + 1) a s = rd (ev cd rd cl x n (a + 1) s).1 (ev cd rd cl x n (a + 1) s).2 := by
  simp only [ev]; rw [if_neg (by omega), if_pos h]
theorem ev_f (h : cd a = 102) : ev cd rd cl x (n + 1) a s = cl (cd (a + 1) - 48) (ev cd rd cl x n (a + 2) s).1 (ev cd rd cl x n (a + 2) s).2 := by
  simp only [ev]; rw [if_neg (by omega), if_neg (by omega), if_pos h]
theorem ev_b (h : cd a = 43 ∨ cd a = 45 ∨ cd a = 42 ∨ cd a = 60) : ev cd rd cl x (n + 1) a s = (opv (cd a) (ev cd rd cl x n (a + 1) s).1 (ev cd rd cl x n (tend cd n (a + 1)) (ev cd rd cl x n (a + 1) s).2).1, (ev cd rd cl x n (tend cd n (a + 1)) (ev cd rd cl x n (a + 1) s).2).2) := by
  simp only [ev]; rw [if_neg (by omega), if_neg (by omega), if_neg (by omega), if_pos h]
theorem ev_q (h : cd a = 63) : ev cd rd cl x (n + 1) a s = if (ev cd rd cl x n (a + 1) s).1 = 0 then ev cd rd cl x n (tend cd n (tend cd n (a + 1))) (ev cd rd cl x n (a + 1) s).2 else ev cd rd cl x n (tend cd n (a + 1)) (ev cd rd cl x n (a + 1) s).2 := by
  simp only [ev]; rw [if_neg (by omega), if_neg (by omega), if_neg (by omega), if_neg (by omega), if_pos h]
end EVS
theorem Tm_succ {cd : Int → Int} {n : Nat} {a b : Int} (h : Tm cd (n + 1) a b) : (((48 ≤ cd a ∧ cd a ≤ 57) ∨ cd a = 110) ∧ b = a + 1) ∨ (cd a = 120 ∧ Tm cd n (a + 1) b) ∨ (cd a = 102 ∧ 48 ≤ cd (a + 1) ∧ cd (a + 1) ≤ 52 ∧ Tm cd n (a + 2) b) ∨ ((cd a = 43 ∨ cd a = 45 ∨ cd a = 42 ∨ cd a = 60) ∧ ∃ m, Tm cd n (a + 1) m ∧ Tm cd n m b) ∨ (cd a = 63 ∧ ∃ m1 m2, Tm cd n (a + 1) m1 ∧ Tm cd n m1 m2 ∧ Tm cd n m2 b) := h
/-- parts are appended -/
theorem ev_app {α : Type} (cd : Int → Int) (c : Int → Int) (h : Int → Int → Int × List α) (x : Int) : ∀ (n : Nat) (a : Int) (m : Int) (ps : List α), ev cd (rdc c) (apH h) x n a (m, ps) = ((ev cd (rdc c) (apH h) x n a (m, [])).1, (ev cd (rdc c) (apH h) x n a (m, [])).2.1, ps ++ (ev cd (rdc c) (apH h) x n a (m, [])).2.2) := by
  intro n
  induction n with
  | zero => intro a m ps; simp [ev]
  | succ n ih =>
    intro a m ps
    simp only [ev]
    split
    · simp
    split
    · rw [ih (a + 1) m ps]; simp [rdc]
    split
    · rw [ih (a + 2) m ps]; simp [apH]
    split
    · rw [ih (a + 1) m ps]
      generalize ev cd (rdc c) (apH h) x n (a + 1) (m, []) = r
      obtain ⟨v, m1, q1⟩ := r
      dsimp only
      rw [ih (tend cd n (a + 1)) m1 (ps ++ q1), ih (tend cd n (a + 1)) m1 q1]
      simp
    split
    · rw [ih (a + 1) m ps]
      generalize ev cd (rdc c) (apH h) x n (a + 1) (m, []) = r
      obtain ⟨v, m1, q1⟩ := r
      dsimp only
      split
      · rw [ih _ m1 (ps ++ q1), ih _ m1 q1]; simp
      · rw [ih _ m1 (ps ++ q1), ih _ m1 q1]; simp
    · simp
theorem opv_rng {c a b : Int} (ha : 0 ≤ a ∧ a ≤ 996) (hb : 0 ≤ b ∧ b ≤ 996) : 0 ≤ opv c a b ∧ opv c a b ≤ 996 := by
  unfold opv
  split
  · omega
  · split
    · omega
    · split
      · have := Int.emod_nonneg (a * b) (by decide : (997 : Int) ≠ 0)
        have := Int.emod_lt_of_pos (a * b) (by decide : (0 : Int) < 997)
        omega
      · split <;> omega
/-- what terms tell are numbers -/
theorem ev_rng {σ : Type} {cd : Int → Int} {rd : Int → σ → Int × σ} {cl : Int → Int → σ → Int × σ} {x : Int} (hx : 0 ≤ x ∧ x ≤ 996) (hr : ∀ v s, 0 ≤ v → 0 ≤ (rd v s).1 ∧ (rd v s).1 ≤ 996) (hc : ∀ k y s, 0 ≤ k → k ≤ 4 → 0 ≤ y → y ≤ 996 → 0 ≤ (cl k y s).1 ∧ (cl k y s).1 ≤ 996) : ∀ (n : Nat) (a b : Int) (s : σ), Tm cd n a b → 0 ≤ (ev cd rd cl x n a s).1 ∧ (ev cd rd cl x n a s).1 ≤ 996 := by
  intro n
  induction n with
  | zero => intro a b s h; exact h.elim
  | succ n ih =>
    intro a b s h
    rcases Tm_succ h with ⟨h0 | h0, -⟩ | ⟨h0, h1⟩ | ⟨h0, k0, k1, h1⟩ | ⟨h0, m, h1, h2⟩ | ⟨h0, m1, m2, h1, h2, h3⟩
    · rw [ev_fig h0]; show 0 ≤ cd a - 48 ∧ cd a - 48 ≤ 996; omega
    · rw [ev_n h0]; exact hx
    · rw [ev_x h0]; exact hr _ _ (ih _ _ _ h1).1
    · rw [ev_f h0]; have := ih (a + 2) b s h1; exact hc _ _ _ (by omega) (by omega) this.1 this.2
    · rw [ev_b h0]; rw [Tm_tend h1]; exact opv_rng (ih _ _ _ h1) (ih _ _ _ h2)
    · rw [ev_q h0, Tm_tend h1, Tm_tend h2]
      split
      · exact ih _ _ _ h3
      · exact ih _ _ _ h2
/-- not more parts than 'f' -/
theorem ev_len {α : Type} {cd : Int → Int} {c : Int → Int} {h : Int → Int → Int × List α} {x : Int} (hh : ∀ k y, (h k y).2.length ≤ 1) : ∀ (n : Nat) (a b m : Int), Tm cd n a b → (ev cd (rdc c) (apH h) x n a (m, [])).2.2.length ≤ nfc cd n a := by
  intro n
  induction n with
  | zero => intro a b m h; exact h.elim
  | succ n ih =>
    intro a b m hT
    rcases Tm_succ hT with ⟨h0 | h0, -⟩ | ⟨h0, h1⟩ | ⟨h0, -, -, h1⟩ | ⟨h0, m1, h1, h2⟩ | ⟨h0, m1, m2, h1, h2, h3⟩
    · rw [ev_fig h0]; simp
    · rw [ev_n h0]; simp
    · rw [ev_x h0]; simp only [nfc]; rw [if_pos h0]; exact ih _ _ _ h1
    · rw [ev_f h0]; simp only [nfc]; rw [if_neg (by omega), if_pos h0]
      have e := ih (a + 2) b m h1
      have e2 := hh (cd (a + 1) - 48) (ev cd (rdc c) (apH h) x n (a + 2) (m, [])).1
      simp only [apH, List.length_append]; omega
    · rw [ev_b h0]; simp only [nfc]; rw [if_neg (by omega), if_neg (by omega), if_pos h0, Tm_tend h1]
      have e := ih (a + 1) m1 m h1
      generalize ev cd (rdc c) (apH h) x n (a + 1) (m, []) = r at e ⊢
      obtain ⟨v, mm, q1⟩ := r
      dsimp only at e ⊢
      rw [ev_app]
      have e2 := ih m1 b mm h2
      simp only [List.length_append]; omega
    · have e0 : nfc cd (n + 1) a = nfc cd n (a + 1) + (nfc cd n m1 + nfc cd n m2) := by simp only [nfc]; rw [if_neg (by omega), if_neg (by omega), if_neg (by omega), if_pos h0, Tm_tend h1, Tm_tend h2]
      rw [ev_q h0, e0, Tm_tend h1, Tm_tend h2]
      have e := ih (a + 1) m1 m h1
      generalize ev cd (rdc c) (apH h) x n (a + 1) (m, []) = r at e ⊢
      obtain ⟨v, mm, q1⟩ := r
      dsimp only at e ⊢
      split
      · rw [ev_app]
        have e2 := ih m2 b mm h3
        simp only [List.length_append]; omega
      · rw [ev_app]
        have e2 := ih m1 m2 mm h2
        simp only [List.length_append]; omega
/-- what a called function tells, at level d, and the part that is made -/
def hnd (P : Pg) (c : Int → Int) : (d : Nat) → Int → Int → Int × List (Tr d)
  | 0, _, _ => (0, [])
  | d + 1, k, y => if k < P.2.2 then (nV (rt (d + 1) (fr P c d k y)), [fr P c d k y]) else (0, [])
theorem fr_eq (P : Pg) (c : Int → Int) (d : Nat) (f x : Int) : fr P c d f x = mkN d (0, f, x, (ev P.1 (rdc c) (apH (hnd P c d)) x 160 (P.2.1 f) (0, [])).1, (ev P.1 (rdc c) (apH (hnd P c d)) x 160 (P.2.1 f) (0, [])).2.1, 0, 0) (ev P.1 (rdc c) (apH (hnd P c d)) x 160 (P.2.1 f) (0, [])).2.2 := by
  cases d with
  | zero =>
    have e : (apH (hnd P c 0)) = (fun _ _ s => (0, s)) := by funext k y s; simp [apH, hnd]
    rw [e]; rfl
  | succ d =>
    have e : (apH (hnd P c (d + 1))) = (fun k y s => if k < P.2.2 then (nV (rt (d + 1) (fr P c d k y)), s.1, s.2 ++ [fr P c d k y]) else (0, s)) := by
      funext k y s
      simp only [apH, hnd]
      split <;> simp
    rw [e]; rfl
theorem hnd_len (P : Pg) (c : Int → Int) (d : Nat) (k y : Int) : (hnd P c d k y).2.length ≤ 1 := by
  cases d with
  | zero => simp [hnd]
  | succ d => simp only [hnd]; split <;> simp
/-- a program in order -/
def Pok (P : Pg) : Prop := 1 ≤ P.2.2 ∧ P.2.2 ≤ 5 ∧ ∀ f, 0 ≤ f → f < P.2.2 → 0 ≤ P.2.1 f ∧ ∃ b, Tm P.1 160 (P.2.1 f) b ∧ b ≤ 159 ∧ nfc P.1 160 (P.2.1 f) ≤ 3
def Cok (c : Int → Int) : Prop := ∀ k, 0 ≤ k → k < 8 → 0 ≤ c k ∧ c k ≤ 996
theorem rdc_rng {α : Type} {c : Int → Int} (hc : Cok c) (v : Int) (s : Int × α) : 0 ≤ (rdc c v s).1 ∧ (rdc c v s).1 ≤ 996 := hc _ (by omega) (by omega)
theorem fr_rng {P : Pg} (hP : Pok P) {c : Int → Int} (hc : Cok c) : ∀ (d : Nat) (f x : Int), 0 ≤ f → f < P.2.2 → 0 ≤ x → x ≤ 996 → 0 ≤ nV (rt (d + 1) (fr P c d f x)) ∧ nV (rt (d + 1) (fr P c d f x)) ≤ 996 := by
  have hh : ∀ (d : Nat) (f x : Int), (∀ k y (s : Int × List (Tr d)), 0 ≤ k → k ≤ 4 → 0 ≤ y → y ≤ 996 → 0 ≤ (apH (hnd P c d) k y s).1 ∧ (apH (hnd P c d) k y s).1 ≤ 996) → 0 ≤ f → f < P.2.2 → 0 ≤ x → x ≤ 996 → 0 ≤ nV (rt (d + 1) (fr P c d f x)) ∧ nV (rt (d + 1) (fr P c d f x)) ≤ 996 := by
    intro d f x h f0 f1 x0 x1
    rw [fr_eq]
    obtain ⟨-, b, hb, -⟩ := hP.2.2 f f0 f1
    exact ev_rng ⟨x0, x1⟩ (fun v s _ => rdc_rng hc v s) h 160 _ b _ hb
  intro d
  induction d with
  | zero => intro f x; exact hh 0 f x (fun k y s _ _ _ _ => by simp [apH, hnd])
  | succ d ih =>
    intro f x
    refine hh (d + 1) f x (fun k y s k0 k1 y0 y1 => ?_)
    simp only [apH, hnd]
    split
    · rename_i hk; exact ih k y k0 hk y0 y1
    · simp
theorem hnd_rng {P : Pg} (hP : Pok P) {c : Int → Int} (hc : Cok c) (d : Nat) (k y : Int) (k0 : 0 ≤ k) (y0 : 0 ≤ y) (y1 : y ≤ 996) : 0 ≤ (hnd P c d k y).1 ∧ (hnd P c d k y).1 ≤ 996 := by
  cases d with
  | zero => simp [hnd]
  | succ d =>
    simp only [hnd]
    split
    · rename_i hk; exact fr_rng hP hc d k y k0 hk y0 y1
    · simp
/-- sizes: at most three parts a call -/
def SS : Nat → Nat
  | 0 => 0
  | d + 1 => 1 + 3 * SS d
theorem sum_le {α : Type} {f : α → Nat} {B : Nat} : ∀ (l : List α), (∀ t ∈ l, f t ≤ B) → (l.map f).sum ≤ l.length * B := by
  intro l
  induction l with
  | nil => intro _; simp
  | cons t l ih =>
    intro h
    have h1 := h t List.mem_cons_self
    have h2 := ih (fun u hu => h u (List.mem_cons_of_mem _ hu))
    rw [List.map_cons, List.sum_cons, List.length_cons, Nat.add_mul]
    omega
/-- every part of what a term makes is a made call -/
theorem ev_parts {α : Type} {cd : Int → Int} {c : Int → Int} {h : Int → Int → Int × List α} {x : Int} {R : α → Prop} (hx : 0 ≤ x ∧ x ≤ 996) (hc : Cok c) (hr : ∀ k y, 0 ≤ k → k ≤ 4 → 0 ≤ y → y ≤ 996 → 0 ≤ (h k y).1 ∧ (h k y).1 ≤ 996) (hR : ∀ k y, 0 ≤ k → k ≤ 4 → 0 ≤ y → y ≤ 996 → ∀ t ∈ (h k y).2, R t) : ∀ (n : Nat) (a b m : Int), Tm cd n a b → ∀ t ∈ (ev cd (rdc c) (apH h) x n a (m, [])).2.2, R t := by
  have rg := ev_rng (cd := cd) (rd := rdc c (α := List α)) (cl := apH h) hx (fun v s _ => rdc_rng hc v s) (fun k y s k0 k1 y0 y1 => hr k y k0 k1 y0 y1)
  intro n
  induction n with
  | zero => intro a b m h; exact h.elim
  | succ n ih =>
    intro a b m hT
    rcases Tm_succ hT with ⟨h0 | h0, -⟩ | ⟨h0, h1⟩ | ⟨h0, k0, k1, h1⟩ | ⟨h0, m1, h1, h2⟩ | ⟨h0, m1, m2, h1, h2, h3⟩
    · rw [ev_fig h0]; intro t ht; cases ht
    · rw [ev_n h0]; intro t ht; cases ht
    · rw [ev_x h0]; exact ih _ _ _ h1
    · rw [ev_f h0]
      intro t ht
      have e := rg n (a + 2) b (m, []) h1
      simp only [apH] at ht
      rcases List.mem_append.mp ht with ht | ht
      · exact ih _ _ _ h1 t ht
      · exact hR _ _ (by omega) (by omega) e.1 e.2 t ht
    · rw [ev_b h0, Tm_tend h1]
      have e := ih (a + 1) m1 m h1
      generalize ev cd (rdc c) (apH h) x n (a + 1) (m, []) = r at e ⊢
      obtain ⟨v, mm, q1⟩ := r
      dsimp only at e ⊢
      rw [ev_app]
      intro t ht
      rcases List.mem_append.mp ht with ht | ht
      · exact e t ht
      · exact ih m1 b mm h2 t ht
    · rw [ev_q h0, Tm_tend h1, Tm_tend h2]
      have e := ih (a + 1) m1 m h1
      generalize ev cd (rdc c) (apH h) x n (a + 1) (m, []) = r at e ⊢
      obtain ⟨v, mm, q1⟩ := r
      dsimp only at e ⊢
      intro t ht
      split at ht
      · rw [ev_app] at ht
        rcases List.mem_append.mp ht with ht | ht
        · exact e t ht
        · exact ih m2 b mm h3 t ht
      · rw [ev_app] at ht
        rcases List.mem_append.mp ht with ht | ht
        · exact e t ht
        · exact ih m1 m2 mm h2 t ht
theorem fr_size {P : Pg} (hP : Pok P) {c : Int → Int} (hc : Cok c) : ∀ (d : Nat) (f x : Int), 0 ≤ f → f < P.2.2 → 0 ≤ x → x ≤ 996 → tsz (d + 1) (fr P c d f x) ≤ SS (d + 1) := by
  have hh : ∀ (d : Nat) (f x : Int), (∀ k y, 0 ≤ k → k ≤ 4 → 0 ≤ y → y ≤ 996 → ∀ t ∈ (hnd P c d k y).2, tsz d t ≤ SS d) → 0 ≤ f → f < P.2.2 → 0 ≤ x → x ≤ 996 → tsz (d + 1) (fr P c d f x) ≤ SS (d + 1) := by
    intro d f x h f0 f1 x0 x1
    rw [fr_eq]
    obtain ⟨-, b, hb, -, h3⟩ := hP.2.2 f f0 f1
    have e1 := ev_len (c := c) (x := x) (fun k y => hnd_len P c d k y) 160 _ b 0 hb
    have e2 := ev_parts (R := fun t => tsz d t ≤ SS d) ⟨x0, x1⟩ hc (fun k y k0 _ y0 y1 => hnd_rng hP hc d k y k0 y0 y1) h 160 _ b 0 hb
    have e3 := sum_le _ e2
    have e5 : ∀ (nd : Nd) (ps : List (Tr d)), tsz (d + 1) (mkN d nd ps) = 1 + (ps.map (tsz d)).sum := fun _ _ => rfl
    rw [e5]
    show _ ≤ 1 + 3 * SS d
    have e4 := Nat.mul_le_mul_right (SS d) (Nat.le_trans e1 h3)
    omega
  intro d
  induction d with
  | zero => intro f x; exact hh 0 f x (fun k y _ _ _ _ t ht => by simp [hnd] at ht)
  | succ d ih =>
    intro f x
    refine hh (d + 1) f x (fun k y k0 k1 y0 y1 t ht => ?_)
    simp only [hnd] at ht
    split at ht
    · rename_i hk; rw [List.mem_singleton.mp ht]; exact ih k y k0 hk y0 y1
    · cases ht
theorem hnd_size {P : Pg} (hP : Pok P) {c : Int → Int} (hc : Cok c) (d : Nat) (k y : Int) (k0 : 0 ≤ k) (y0 : 0 ≤ y) (y1 : y ≤ 996) : ∀ t ∈ (hnd P c d k y).2, tsz d t ≤ SS d := by
  cases d with
  | zero => intro t ht; simp [hnd] at ht
  | succ d =>
    intro t ht
    simp only [hnd] at ht
    split at ht
    · rename_i hk; rw [List.mem_singleton.mp ht]; exact fr_size hP hc d k y k0 hk y0 y1
    · cases ht
theorem flat_len : ∀ (d : Nat) (n : Int) (t : Tr d), (flat d n t).length = tsz d t := by
  intro d
  induction d with
  | zero => intro n t; exact t.elim
  | succ d ih =>
    intro n t
    simp only [flat, tsz, List.length_cons, List.length_flatMap]
    have : (List.map (fun a => (flat d (n + 1) a).length) t.2) = List.map (tsz d) t.2 := List.map_congr_left (fun a _ => ih (n + 1) a)
    rw [this]; omega
theorem flatL_len (d : Nat) (n : Int) (l : List (Tr d)) : (l.flatMap (flat d n)).length = tszL d l := by
  unfold tszL
  rw [List.length_flatMap]
  congr 1
  exact List.map_congr_left (fun a _ => flat_len d n a)
/-- the size of what a term makes -/
theorem ev_size {P : Pg} (hP : Pok P) {c : Int → Int} (hc : Cok c) (d : Nat) {x : Int} (hx : 0 ≤ x ∧ x ≤ 996) {n : Nat} {a b m : Int} (hT : Tm P.1 n a b) : tszL d (ev P.1 (rdc c) (apH (hnd P c d)) x n a (m, [])).2.2 ≤ nfc P.1 n a * SS d := by
  have e1 := ev_len (c := c) (x := x) (fun k y => hnd_len P c d k y) n a b m hT
  have e2 := ev_parts (R := fun t => tsz d t ≤ SS d) hx hc (fun k y k0 _ y0 y1 => hnd_rng hP hc d k y k0 y0 y1) (fun k y k0 _ y0 y1 => hnd_size hP hc d k y k0 y0 y1) n a b m hT
  exact Nat.le_trans (sum_le _ e2) (Nat.mul_le_mul_right _ e1)
end
section
/-! THE MODEL: what layNew lays -/
theorem lay_open {dd : Nat} {G G' : Hp} {Q : Option V → Hp → Prop} (hF : FM G) {w f x v2 : Int} {l3 : Option V} (hn : isL l3 = false) (hw : iv G 35 40 = w) (w1 : 1 ≤ w) (hC : CX (dd + 4) 118 [.inr (.inr (some 35))] G (fun r G1 => r = some (.inl v2) ∧ G1 = G')) (hk : Ex (dd + 4) (some .int) 10 false cX10_layNew 48 [some (.inr (.inr (some 35))), some (.inl f), some (.inl x), some (.inl v2)] [] G' Q) : Ex (dd + 4) (some .int) 10 false cX10_layNew 36 [some (.inr (.inr (some 35))), some (.inl f), some (.inl x), l3] [] G Q := by
  have hnl : noL [some (.inr (.inr (some 35))), some (.inl f), some (.inl x), l3] = true := by simp [noL, isL] at hn ⊢; exact hn
  refine x_aload_n (q := 37) dX10_layNew_36 rfl rfl ?_
  refine x_getI (q := 40) dX10_layNew_37 rfl f_10_108 rfl (ft35 hF) ?_
  refine Ex.stk (st' := [.inl w]) (by rw [show iv G 35 40 = w from hw]) ?_
  refine x_if_le (q := 43) (t := 71) dX10_layNew_40 rfl (by decide) (fun h40 => by exfalso; omega) (fun h40 => ?_)
  refine x_aload_n (q := 44) dX10_layNew_43 rfl rfl ?_
  refine x_invV (q := 47) (as := [.inr (.inr (some 35))]) (rest := []) dX10_layNew_44 rfl l_10_155 m_X10_open rfl rfl (ft35 hF) (Nat.le_of_ble_eq_true rfl) hC (fun r1 G1 hR => ?_)
  obtain ⟨rfl, rfl⟩ := hR
  refine Ex.stk (st' := [.inl v2]) rfl ?_
  refine x_istore_n (q := 48) (ls' := [some (.inr (.inr (some 35))), some (.inl f), some (.inl x), some (.inl v2)]) dX10_layNew_47 rfl (Nat.le_of_ble_eq_true rfl) (by first | rfl | exact hnl) rfl ?_
  exact hk
theorem lay_neg {dd : Nat} {G : Hp} {Q : Option V → Hp → Prop} {f x v : Int} (hv : v < 0) (hk : Ex (dd + 4) (some .int) 10 false cX10_layNew 36 [some (.inr (.inr (some 35))), some (.inl f), some (.inl x), some (.inl v)] [] G Q) : Ex (dd + 4) (some .int) 10 false cX10_layNew 48 [some (.inr (.inr (some 35))), some (.inl f), some (.inl x), some (.inl v)] [] G Q := by
  refine x_iload_n (q := 49) dX10_layNew_48 rfl rfl ?_
  refine x_if_lt (q := 52) (t := 68) dX10_layNew_49 rfl (by decide) (fun h49 => ?_) (fun h49 => by exfalso; omega)
  refine x_goto (t := 36) dX10_layNew_68 (by decide) ?_
  exact hk
theorem lay_give {dd : Nat} {G G' : Hp} {Q : Option V → Hp → Prop} (hF : FM G) {w f x v v2 : Int} (hw : iv G 35 40 = w) (w1 : 1 ≤ w) (hv : 0 ≤ v) (hC : CX (dd + 4) 120 [.inr (.inr (some 35)), .inl v] G (fun r G1 => r = some (.inl v2) ∧ G1 = G')) (hk : Ex (dd + 4) (some .int) 10 false cX10_layNew 48 [some (.inr (.inr (some 35))), some (.inl f), some (.inl x), some (.inl v2)] [] G' Q) : Ex (dd + 4) (some .int) 10 false cX10_layNew 48 [some (.inr (.inr (some 35))), some (.inl f), some (.inl x), some (.inl v)] [] G Q := by
  refine x_iload_n (q := 49) dX10_layNew_48 rfl rfl ?_
  refine x_if_lt (q := 52) (t := 68) dX10_layNew_49 rfl (by decide) (fun h49 => by exfalso; omega) (fun h49 => ?_)
  refine x_aload_n (q := 53) dX10_layNew_52 rfl rfl ?_
  refine x_getI (q := 56) dX10_layNew_53 rfl f_10_108 rfl (ft35 hF) ?_
  refine Ex.stk (st' := [.inl w]) (by rw [show iv G 35 40 = w from hw]) ?_
  refine x_if_le (q := 59) (t := 68) dX10_layNew_56 rfl (by decide) (fun h56 => by exfalso; omega) (fun h56 => ?_)
  refine x_aload_n (q := 60) dX10_layNew_59 rfl rfl ?_
  refine x_iload_n (q := 61) dX10_layNew_60 rfl rfl ?_
  refine x_invV (q := 64) (as := [.inr (.inr (some 35)), .inl v]) (rest := []) dX10_layNew_61 rfl l_10_159 m_X10_give rfl rfl (ft35 hF) (Nat.le_of_ble_eq_true rfl) hC (fun r1 G1 hR => ?_)
  obtain ⟨rfl, rfl⟩ := hR
  refine Ex.stk (st' := [.inl v2]) rfl ?_
  refine x_istore_n (q := 65) (ls' := [some (.inr (.inr (some 35))), some (.inl f), some (.inl x), some (.inl v2)]) dX10_layNew_64 rfl (Nat.le_of_ble_eq_true rfl) (by first | rfl | exact hnl) rfl ?_
  refine x_goto (t := 48) dX10_layNew_65 (by decide) ?_
  exact hk
theorem lay_end {dd : Nat} {G : Hp} {Q : Option V → Hp → Prop} (hF : FM G) {f x v : Int} (hw : iv G 35 40 = 0) (hv : 0 ≤ v) (hk : Q (some (.inl (iv G 54 0))) G) : Ex (dd + 4) (some .int) 10 false cX10_layNew 48 [some (.inr (.inr (some 35))), some (.inl f), some (.inl x), some (.inl v)] [] G Q := by
  refine x_iload_n (q := 49) dX10_layNew_48 rfl rfl ?_
  refine x_if_lt (q := 52) (t := 68) dX10_layNew_49 rfl (by decide) (fun h49 => by exfalso; omega) (fun h49 => ?_)
  refine x_aload_n (q := 53) dX10_layNew_52 rfl rfl ?_
  refine x_getI (q := 56) dX10_layNew_53 rfl f_10_108 rfl (ft35 hF) ?_
  refine Ex.stk (st' := [.inl 0]) (by rw [show iv G 35 40 = 0 from hw]) ?_
  refine x_if_le (q := 59) (t := 68) dX10_layNew_56 rfl (by decide) (fun h56 => ?_) (fun h56 => by exfalso; omega)
  refine x_goto (t := 36) dX10_layNew_68 (by decide) ?_
  refine x_aload_n (q := 37) dX10_layNew_36 rfl rfl ?_
  refine x_getI (q := 40) dX10_layNew_37 rfl f_10_108 rfl (ft35 hF) ?_
  refine Ex.stk (st' := [.inl 0]) (by rw [show iv G 35 40 = 0 from hw]) ?_
  refine x_if_le (q := 43) (t := 71) dX10_layNew_40 rfl (by decide) (fun h40 => ?_) (fun h40 => by exfalso; omega)
  refine x_aload_n (q := 72) dX10_layNew_71 rfl rfl ?_
  refine x_getR (q := 75) dX10_layNew_72 rfl f_10_68 rfl (ft35 hF) ?_
  refine Ex.stk (st' := [.inr (.inr (some 54))]) (by rw [fr35_26 hF]) ?_
  refine x_iconst (q := 76) dX10_layNew_75 rfl (by decide) ?_
  refine x_iaload (q := 77) dX10_layNew_76 rfl (Or.inl (ft54 hF)) (by omega) (by rw [fl54 hF]; omega) ?_
  refine x_iret dX10_layNew_77 rfl ?_
  exact hk
/-- a machine state while a call is gone through -/
def MS (P : Pg) (c : Int → Int) (G : Hp) (a w cur nc ns m x : Int) : Prop := FM G ∧ iv G 42 = P.1 ∧ iv G 43 = P.2.1 ∧ iv G 35 14 = P.2.2 ∧ (∀ k, 0 ≤ k → k < 8 → iv G 36 k = c k) ∧ iv G 35 41 = a ∧ iv G 35 40 = w ∧ iv G 35 42 = cur ∧ iv G 35 29 = nc ∧ iv G 55 cur = ns ∧ iv G 56 cur = m ∧ iv G 53 cur = x ∧ (0 ≤ cur ∧ cur < nc ∧ nc ≤ 364 ∧ 1 ≤ w)
/-- nothing but ints changed -/
def Io (G G' : Hp) : Prop := (∀ a, tg G' a = tg G a) ∧ (∀ a, ln G' a = ln G a) ∧ (∀ a k, rv G' a k = rv G a k) ∧ sz G' = sz G ∧ sl G' = sl G
theorem Io.rf (G : Hp) : Io G G := ⟨fun _ => rfl, fun _ => rfl, fun _ _ => rfl, rfl, rfl⟩
theorem Io.trans {G G1 G2 : Hp} (h1 : Io G G1) (h2 : Io G1 G2) : Io G G2 := ⟨fun a => (h2.1 a).trans (h1.1 a), fun a => (h2.2.1 a).trans (h1.2.1 a), fun a k => (h2.2.2.1 a k).trans (h1.2.2.1 a k), h2.2.2.2.1.trans h1.2.2.2.1, h2.2.2.2.2.trans h1.2.2.2.2⟩
theorem Io.si {G G' : Hp} (h : Io G G') (a : Nat) (k v : Int) : Io G (si G' a k v) := h
theorem FX_Io {ts : List (Nat × Nat × Int)} {rs : List (Nat × Int × Nat)} {G G' : Hp} (h : FX ts rs G) (hi : Io G G') : FX ts rs G' := ⟨fun e he => by rw [hi.1, hi.2.1]; exact h.1 e he, fun e he => by rw [hi.2.2.1]; exact h.2 e he⟩
/-- behind a term: from G to G' -/
def EvP (w cur nc nc' b m' : Int) (G G' : Hp) : Prop := Io G G' ∧ (∀ (a : Nat) (k : Int), a ≠ 35 → (a < 52 ∨ 56 < a) → (a < 60 ∨ 62 < a) → iv G' a k = iv G a k) ∧ (∀ k, k ≠ 29 → k ≠ 41 → iv G' 35 k = iv G 35 k) ∧ iv G' 35 41 = b ∧ iv G' 35 29 = nc' ∧
  (∀ (a : Nat) (j : Int), 52 ≤ a → a ≤ 55 → j < nc → iv G' a j = iv G a j) ∧ (∀ j, j < nc → j ≠ cur → iv G' 56 j = iv G 56 j) ∧ iv G' 56 cur = m' ∧ ∀ (a : Nat) (k : Int), 60 ≤ a → a ≤ 62 → k < w → iv G' a k = iv G a k
/-- the same with one more that waits, at place w: sign, stage, value -/
def PE (w cur nc nc' b m' sg sg2 vl : Int) (G G' : Hp) : Prop := Io G G' ∧ (∀ (a : Nat) (k : Int), a ≠ 35 → (a < 52 ∨ 56 < a) → (a < 60 ∨ 62 < a) → iv G' a k = iv G a k) ∧ (∀ k, k ≠ 29 → k ≠ 40 → k ≠ 41 → iv G' 35 k = iv G 35 k) ∧ iv G' 35 40 = w + 1 ∧ iv G' 35 41 = b ∧ iv G' 35 29 = nc' ∧
  (∀ (a : Nat) (j : Int), 52 ≤ a → a ≤ 55 → j < nc → iv G' a j = iv G a j) ∧ (∀ j, j < nc → j ≠ cur → iv G' 56 j = iv G 56 j) ∧ iv G' 56 cur = m' ∧ (∀ (a : Nat) (k : Int), 60 ≤ a → a ≤ 62 → k < w → iv G' a k = iv G a k) ∧ iv G' 60 w = sg ∧ iv G' 61 w = sg2 ∧ iv G' 62 w = vl
theorem MS_EvP {P : Pg} {c : Int → Int} {G G' : Hp} {a w cur nc ns m x nc' b m' : Int} (h : MS P c G a w cur nc ns m x) (he : EvP w cur nc nc' b m' G G') (hn : nc ≤ nc') (hn2 : nc' ≤ 364) : MS P c G' b w cur nc' ns m' x := by
  obtain ⟨h1, h2, h3, h4, h5, h6, h7, h8, h9, h10, h11, h12, h13⟩ := h
  obtain ⟨e1, e2, e3, e4, e5, e6, e7, e8, e9⟩ := he
  refine ⟨FX_Io h1 e1, ?_, ?_, by rw [e3 14 (by decide) (by decide)]; exact h4, fun k k0 k1 => by rw [e2 36 k (by decide) (by decide) (by decide)]; exact h5 k k0 k1, e4, by rw [e3 40 (by decide) (by decide)]; exact h7, by rw [e3 42 (by decide) (by decide)]; exact h8, e5, by rw [e6 55 cur (by decide) (by decide) (by omega)]; exact h10, e8, by rw [e6 53 cur (by decide) (by decide) (by omega)]; exact h12, by omega⟩
  · rw [← h2]; funext k; exact e2 42 k (by decide) (by decide) (by decide)
  · rw [← h3]; funext k; exact e2 43 k (by decide) (by decide) (by decide)
theorem MS_PE {P : Pg} {c : Int → Int} {G G' : Hp} {a w cur nc ns m x nc' b m' s1 s2 s3 : Int} (h : MS P c G a w cur nc ns m x) (he : PE w cur nc nc' b m' s1 s2 s3 G G') (hn : nc ≤ nc') (hn2 : nc' ≤ 364) : MS P c G' b (w + 1) cur nc' ns m' x := by
  obtain ⟨h1, h2, h3, h4, h5, h6, h7, h8, h9, h10, h11, h12, h13⟩ := h
  obtain ⟨e1, e2, e3, e3', e4, e5, e6, e7, e8, e9⟩ := he
  refine ⟨FX_Io h1 e1, ?_, ?_, by rw [e3 14 (by decide) (by decide) (by decide)]; exact h4, fun k k0 k1 => by rw [e2 36 k (by decide) (by decide) (by decide)]; exact h5 k k0 k1, e4, e3', by rw [e3 42 (by decide) (by decide) (by decide)]; exact h8, e5, by rw [e6 55 cur (by decide) (by decide) (by omega)]; exact h10, e8, by rw [e6 53 cur (by decide) (by decide) (by omega)]; exact h12, by omega⟩
  · rw [← h2]; funext k; exact e2 42 k (by decide) (by decide) (by decide)
  · rw [← h3]; funext k; exact e2 43 k (by decide) (by decide) (by decide)
theorem PE_EvP {w cur nc n1 n2 b1 b2 m1 m2 s1 s2 s3 : Int} {G G1 G2 : Hp} (h : PE w cur nc n1 b1 m1 s1 s2 s3 G G1) (he : EvP (w + 1) cur n1 n2 b2 m2 G1 G2) (hn : nc ≤ n1) : PE w cur nc n2 b2 m2 s1 s2 s3 G G2 := by
  obtain ⟨e1, e2, e3, e3', e4, e5, e6, e7, e8, e9, e10, e11, e12⟩ := h
  obtain ⟨f1, f2, f3, f4, f5, f6, f7, f8, f9⟩ := he
  refine ⟨e1.trans f1, fun a k g1 g2 g3 => (f2 a k g1 g2 g3).trans (e2 a k g1 g2 g3), fun k g1 g2 g3 => (f3 k g1 g3).trans (e3 k g1 g2 g3), (f3 40 (by decide) (by decide)).trans e3', f4, f5, fun a j g1 g2 g3 => (f6 a j g1 g2 (by omega)).trans (e6 a j g1 g2 g3), fun j g1 g2 => (f7 j (by omega) g2).trans (e7 j g1 g2), f8, fun a k g1 g2 g3 => (f9 a k g1 g2 (by omega)).trans (e9 a k g1 g2 g3), (f9 60 w (by decide) (by decide) (by omega)).trans e10, (f9 61 w (by decide) (by decide) (by omega)).trans e11, (f9 62 w (by decide) (by decide) (by omega)).trans e12⟩
theorem PE_stage {w cur nc n1 b1 m1 s1 s2 s3 : Int} {G G1 : Hp} (h : PE w cur nc n1 b1 m1 s1 s2 s3 G G1) (t : Int) : PE w cur nc n1 b1 m1 s1 t s3 G (si G1 61 w t) := by
  obtain ⟨e1, e2, e3, e3', e4, e5, e6, e7, e8, e9, e10, e11, e12⟩ := h
  refine ⟨e1, fun a k g1 g2 g3 => ?_, e3, e3', e4, e5, fun a j g1 g2 g3 => ?_, e7, e8, fun a k g1 g2 g3 => ?_, e10, by rw [iv_si, if_pos ⟨rfl, rfl⟩], e12⟩
  · rw [iv_si, if_neg (by omega)]; exact e2 a k g1 g2 g3
  · rw [iv_si, if_neg (by omega)]; exact e6 a j g1 g2 g3
  · rw [iv_si, if_neg (by omega)]; exact e9 a k g1 g2 g3
theorem PE_value {w cur nc n1 b1 m1 s1 s2 s3 : Int} {G G1 : Hp} (h : PE w cur nc n1 b1 m1 s1 s2 s3 G G1) (t : Int) : PE w cur nc n1 b1 m1 s1 s2 t G (si G1 62 w t) := by
  obtain ⟨e1, e2, e3, e3', e4, e5, e6, e7, e8, e9, e10, e11, e12⟩ := h
  refine ⟨e1, fun a k g1 g2 g3 => ?_, e3, e3', e4, e5, fun a j g1 g2 g3 => ?_, e7, e8, fun a k g1 g2 g3 => ?_, e10, e11, by rw [iv_si, if_pos ⟨rfl, rfl⟩]⟩
  · rw [iv_si, if_neg (by omega)]; exact e2 a k g1 g2 g3
  · rw [iv_si, if_neg (by omega)]; exact e6 a j g1 g2 g3
  · rw [iv_si, if_neg (by omega)]; exact e9 a k g1 g2 g3
theorem PE_at {w cur nc n1 b1 m1 s1 s2 s3 : Int} {G G1 : Hp} (h : PE w cur nc n1 b1 m1 s1 s2 s3 G G1) (t : Int) : PE w cur nc n1 t m1 s1 s2 s3 G (si G1 35 41 t) := by
  obtain ⟨e1, e2, e3, e3', e4, e5, e6, e7, e8, e9, e10, e11, e12⟩ := h
  refine ⟨e1, fun a k g1 g2 g3 => ?_, fun k g1 g2 g3 => ?_, e3', by rw [iv_si, if_pos ⟨rfl, rfl⟩], e5, fun a j g1 g2 g3 => ?_, e7, e8, fun a k g1 g2 g3 => ?_, e10, e11, e12⟩
  · rw [iv_si, if_neg (by omega)]; exact e2 a k g1 g2 g3
  · rw [iv_si, if_neg (by omega)]; exact e3 k g1 g2 g3
  · rw [iv_si, if_neg (by omega)]; exact e6 a j g1 g2 g3
  · rw [iv_si, if_neg (by omega)]; exact e9 a k g1 g2 g3
theorem PE_pop {w cur nc n1 b1 m1 s1 s2 s3 : Int} {G G1 : Hp} (hw : iv G 35 40 = w) (h : PE w cur nc n1 b1 m1 s1 s2 s3 G G1) : EvP w cur nc n1 b1 m1 G (si G1 35 40 w) := by
  obtain ⟨e1, e2, e3, e3', e4, e5, e6, e7, e8, e9, e10, e11, e12⟩ := h
  refine ⟨e1, fun a k g1 g2 g3 => ?_, fun k g1 g2 => ?_, e4, e5, fun a j g1 g2 g3 => ?_, e7, e8, fun a k g1 g2 g3 => ?_⟩
  · rw [iv_si, if_neg (by omega)]; exact e2 a k g1 g2 g3
  · rw [iv_si]
    by_cases hk : k = 40
    · rw [if_pos ⟨rfl, hk⟩, hk, hw]
    · rw [if_neg (fun q => hk q.2)]; exact e3 k g1 hk g2
  · rw [iv_si, if_neg (by omega)]; exact e6 a j g1 g2 g3
  · rw [iv_si, if_neg (by omega)]; exact e9 a k g1 g2 g3
theorem EvP_mask {w cur nc n1 b1 m1 : Int} {G G1 : Hp} (h : EvP w cur nc n1 b1 m1 G G1) (t : Int) : EvP w cur nc n1 b1 t G (si G1 56 cur t) := by
  obtain ⟨e1, e2, e3, e4, e5, e6, e7, e8, e9⟩ := h
  refine ⟨e1, fun a k g1 g2 g3 => ?_, e3, e4, e5, fun a j g1 g2 g3 => ?_, fun j g1 g2 => ?_, by rw [iv_si, if_pos ⟨rfl, rfl⟩], fun a k g1 g2 g3 => ?_⟩
  · rw [iv_si, if_neg (by omega)]; exact e2 a k g1 g2 g3
  · rw [iv_si, if_neg (by omega)]; exact e6 a j g1 g2 g3
  · rw [iv_si, if_neg (by omega)]; exact e7 j g1 g2
  · rw [iv_si, if_neg (by omega)]; exact e9 a k g1 g2 g3
theorem EvP_at {w cur nc m : Int} {G : Hp} (b : Int) (hn : iv G 35 29 = nc) (hm : iv G 56 cur = m) : EvP w cur nc nc b m G (si G 35 41 b) := by
  refine ⟨Io.rf G, fun a k g1 g2 g3 => ?_, fun k g1 g2 => ?_, by rw [iv_si, if_pos ⟨rfl, rfl⟩], hn, fun a j g1 g2 g3 => ?_, fun j g1 g2 => rfl, hm, fun a k g1 g2 g3 => ?_⟩
  · rw [iv_si, if_neg (by omega)]
  · rw [iv_si, if_neg (by omega)]
  · rw [iv_si, if_neg (by omega)]
  · rw [iv_si, if_neg (by omega)]
/-- a sign has been opened -/
theorem PE_open {w cur nc m a' sg vl : Int} {G : Hp} (hn : iv G 35 29 = nc) (hm : iv G 56 cur = m) : PE w cur nc nc a' m sg 0 vl G (si (si (si (si (si G 35 41 a') 60 w sg) 61 w 0) 62 w vl) 35 40 (w + 1)) := by
  refine ⟨Io.rf G, fun a k g1 g2 g3 => ?_, fun k g1 g2 g3 => ?_, by simp [iv_si], by simp [iv_si], by simp [iv_si, hn], fun a j g1 g2 g3 => ?_, fun j g1 g2 => by simp [iv_si], by simp [iv_si, hm], fun a k g1 g2 g3 => ?_, by simp [iv_si], by simp [iv_si], by simp [iv_si]⟩
  · simp only [iv_si]; rw [if_neg (by omega), if_neg (by omega), if_neg (by omega), if_neg (by omega), if_neg (by omega)]
  · simp only [iv_si]; rw [if_neg (by omega), if_neg (by omega), if_neg (by omega), if_neg (by omega), if_neg (by omega)]
  · simp only [iv_si]; rw [if_neg (by omega), if_neg (by omega), if_neg (by omega), if_neg (by omega), if_neg (by omega)]
  · simp only [iv_si]; rw [if_neg (by omega), if_neg (by omega), if_neg (by omega), if_neg (by omega), if_neg (by omega)]
/-- calls laid from k on -/
def fAt (G : Hp) : Int → List (Nd × Int) → Prop
  | _, [] => True
  | k, e :: l => (iv G 52 k = nF e.1 ∧ iv G 53 k = nX e.1 ∧ iv G 54 k = nV e.1 ∧ iv G 55 k = e.2 ∧ iv G 56 k = nM e.1) ∧ fAt G (k + 1) l
theorem fAt_app {G : Hp} : ∀ (l1 l2 : List (Nd × Int)) (k : Int), fAt G k (l1 ++ l2) ↔ fAt G k l1 ∧ fAt G (k + (l1.length : Int)) l2 := by
  intro l1
  induction l1 with
  | nil => intro l2 k; simp [fAt]
  | cons e l ih =>
    intro l2 k
    simp only [List.cons_append, fAt, ih, List.length_cons]
    rw [show k + 1 + (l.length : Int) = k + ((l.length + 1 : Nat) : Int) from by omega]
    constructor
    · rintro ⟨h1, h2, h3⟩; exact ⟨⟨h1, h2⟩, h3⟩
    · rintro ⟨⟨h1, h2⟩, h3⟩; exact ⟨h1, h2, h3⟩
theorem fAt_kept {G G' : Hp} : ∀ (l : List (Nd × Int)) (k : Int), fAt G k l → (∀ (a : Nat) (j : Int), 52 ≤ a → a ≤ 56 → k ≤ j → j < k + (l.length : Int) → iv G' a j = iv G a j) → fAt G' k l := by
  intro l
  induction l with
  | nil => intro k _ _; trivial
  | cons e l ih =>
    intro k h hk
    obtain ⟨⟨h1, h2, h3, h4, h5⟩, h6⟩ := h
    rw [List.length_cons] at hk
    refine ⟨⟨?_, ?_, ?_, ?_, ?_⟩, ih (k + 1) h6 (fun a j g1 g2 g3 g4 => hk a j g1 g2 (by omega) (by omega))⟩
    · rw [hk 52 k (by decide) (by decide) (by omega) (by omega)]; exact h1
    · rw [hk 53 k (by decide) (by decide) (by omega) (by omega)]; exact h2
    · rw [hk 54 k (by decide) (by decide) (by omega) (by omega)]; exact h3
    · rw [hk 55 k (by decide) (by decide) (by omega) (by omega)]; exact h4
    · rw [hk 56 k (by decide) (by decide) (by omega) (by omega)]; exact h5
/-- what was laid before a term stays -/
theorem fAt_EvP {w cur nc n1 b m : Int} {G G' : Hp} {k : Int} {l : List (Nd × Int)} (he : EvP w cur nc n1 b m G G') (h : fAt G k l) (h1 : cur < k) (h2 : k + (l.length : Int) ≤ nc) : fAt G' k l := by
  obtain ⟨e1, e2, e3, e4, e5, e6, e7, e8, e9⟩ := he
  refine fAt_kept l k h (fun a j g1 g2 g3 g4 => ?_)
  by_cases h56 : a = 56
  · subst h56; exact e7 j (by omega) (by omega)
  · exact e6 a j g1 (by omega) (by omega)
end
section
/-! THE MODEL: a term, gone through by layNew, tells and lays what it should -/
/-- the theorem at level d -/
def EvS (P : Pg) (c : Int → Int) (dd d : Nat) : Prop := ∀ (n : Nat) (a b : Int), Tm P.1 n a b → 0 ≤ a → b ≤ 160 → ∀ (G : Hp) (w cur nc ns m x : Int) (Q : Option V → Hp → Prop) (l3 : Option V) (f0 x0 : Int), MS P c G a w cur nc ns m x → 0 ≤ x → x ≤ 996 → ns + (d : Int) = 6 → 1 ≤ ns → w + (b - a) + (d : Int) * 160 ≤ 1199 → nc + ((nfc P.1 n a * SS d : Nat) : Int) ≤ 364 → isL l3 = false →
  (∀ G', EvP w cur nc (nc + (tszL d (ev P.1 (rdc c) (apH (hnd P c d)) x n a (m, [])).2.2 : Int)) b (ev P.1 (rdc c) (apH (hnd P c d)) x n a (m, [])).2.1 G G' → fAt G' nc ((ev P.1 (rdc c) (apH (hnd P c d)) x n a (m, [])).2.2.flatMap (flat d (ns + 1))) → Ex (dd + 4) (some .int) 10 false cX10_layNew 48 [some (.inr (.inr (some 35))), some (.inl f0), some (.inl x0), some (.inl ((ev P.1 (rdc c) (apH (hnd P c d)) x n a (m, [])).1))] [] G' Q) → Ex (dd + 4) (some .int) 10 false cX10_layNew 36 [some (.inr (.inr (some 35))), some (.inl f0), some (.inl x0), l3] [] G Q
/-- the state behind a call's begin: G2 when its argument is told, Gz when its body begins -/
def Zf (w cur n1 ns b k y : Int) (G2 Gz : Hp) : Prop := Io G2 Gz ∧ (∀ (a : Nat) (j : Int), a ≠ 35 → (a < 52 ∨ 56 < a) → (a < 60 ∨ 62 < a) → iv Gz a j = iv G2 a j) ∧ (∀ j, j ≠ 29 → j ≠ 40 → j ≠ 41 → j ≠ 42 → iv Gz 35 j = iv G2 35 j) ∧ iv Gz 35 40 = w + 1 ∧ iv Gz 35 41 = iv G2 43 k ∧ iv Gz 35 42 = n1 ∧ iv Gz 35 29 = n1 + 1 ∧
  (∀ (a : Nat) (j : Int), 52 ≤ a → a ≤ 56 → j ≠ n1 → iv Gz a j = iv G2 a j) ∧ iv Gz 52 n1 = k ∧ iv Gz 53 n1 = y ∧ iv Gz 55 n1 = ns + 1 ∧ iv Gz 56 n1 = 0 ∧ (∀ (a : Nat) (j : Int), 60 ≤ a → a ≤ 62 → j < w → iv Gz a j = iv G2 a j) ∧ iv Gz 60 w = 67 ∧ iv Gz 61 w = b ∧ iv Gz 62 w = cur
theorem Zf_of {w cur n1 ns b k y : Int} (G2 : Hp) : Zf w cur n1 ns b k y G2 (si (si (si (si (si (si (si (si (si (si (si (si (si G2 35 40 (w + 1 - 1)) 35 42 n1) 52 n1 k) 53 n1 y) 55 n1 (ns + 1)) 56 n1 0) 35 29 (n1 + 1)) 60 (w + 1 - 1) 67) 61 (w + 1 - 1) 0) 62 (w + 1 - 1) cur) 35 40 (w + 1 - 1 + 1)) 61 (w + 1 - 1) b) 35 41 (iv (si G2 35 40 (w + 1 - 1)) 43 k)) := by
  rw [show w + 1 - 1 = w from by omega]
  refine ⟨Io.rf G2, fun a j g1 g2 g3 => ?_, fun j g1 g2 g3 g4 => ?_, by simp [iv_si], by simp [iv_si], by simp [iv_si], by simp [iv_si], fun a j g1 g2 g3 => ?_, by simp [iv_si], by simp [iv_si], by simp [iv_si], by simp [iv_si], fun a j g1 g2 g3 => ?_, by simp [iv_si], by simp [iv_si], by simp [iv_si]⟩
  · simp only [iv_si]
    iterate 13 rw [if_neg (by omega)]
  · simp only [iv_si]
    iterate 13 rw [if_neg (by omega)]
  · simp only [iv_si]
    iterate 13 rw [if_neg (by omega)]
  · simp only [iv_si]
    iterate 13 rw [if_neg (by omega)]
theorem MS_Zf {P : Pg} {c : Int → Int} {G2 Gz : Hp} {w cur n1 ns m x b k y : Int} (h : MS P c G2 b (w + 1) cur n1 ns m x) (hz : Zf w cur n1 ns b k y G2 Gz) (hn : n1 < 364) (hw : 0 ≤ w) : MS P c Gz (P.2.1 k) (w + 1) n1 (n1 + 1) (ns + 1) 0 y := by
  obtain ⟨h1, h2, h3, h4, h5, h6, h7, h8, h9, h10, h11, h12, h13⟩ := h
  obtain ⟨e1, e2, e3, e4, e5, e6, e7, e8, e9, e10, e11, e12, e13, e14, e15, e16⟩ := hz
  refine ⟨FX_Io h1 e1, ?_, ?_, by rw [e3 14 (by decide) (by decide) (by decide) (by decide)]; exact h4, fun k k0 k1 => by rw [e2 36 k (by decide) (by decide) (by decide)]; exact h5 k k0 k1, by rw [e5, h3], e4, e6, e7, e11, e12, e10, by omega⟩
  · rw [← h2]; funext k; exact e2 42 k (by decide) (by decide) (by decide)
  · rw [← h3]; funext k; exact e2 43 k (by decide) (by decide) (by decide)
/-- behind a call: what was and what is -/
theorem call_EvP {w cur nc n1 n2 ns b e m1 m2 s1 s2 s3 k y v : Int} {G G2 Gz Gy : Hp} (hw : iv G 35 40 = w) (hcur : iv G 35 42 = cur) (hp : PE w cur nc n1 b m1 s1 s2 s3 G G2) (hz : Zf w cur n1 ns b k y G2 Gz) (he : EvP (w + 1) n1 (n1 + 1) n2 e m2 Gz Gy) (hn : nc ≤ n1) (hc : cur < nc) :
    EvP w cur nc n2 b m1 G (si (si (si (si Gy 54 n1 v) 35 42 (iv Gy 62 w)) 35 41 (iv Gy 61 w)) 35 40 w) ∧ ∀ (a : Nat) (j : Int), 52 ≤ a → a ≤ 56 → j < n1 → iv (si (si (si (si Gy 54 n1 v) 35 42 (iv Gy 62 w)) 35 41 (iv Gy 61 w)) 35 40 w) a j = iv G2 a j := by
  obtain ⟨a1, a2, a3, a3', a4, a5, a6, a7, a8, a9, a10, a11, a12⟩ := hp
  obtain ⟨e1, e2, e3, e4, e5, e6, e7, e8, e9, e10, e11, e12, e13, e14, e15, e16⟩ := hz
  obtain ⟨f1, f2, f3, f4, f5, f6, f7, f8, f9⟩ := he
  have y62 : iv Gy 62 w = cur := by rw [f9 62 w (by decide) (by decide) (by omega)]; exact e16
  have y61 : iv Gy 61 w = b := by rw [f9 61 w (by decide) (by decide) (by omega)]; exact e15
  rw [y62, y61]
  have lay : ∀ (a : Nat) (j : Int), 52 ≤ a → a ≤ 56 → j < n1 → iv (si (si (si (si Gy 54 n1 v) 35 42 cur) 35 41 b) 35 40 w) a j = iv G2 a j := by
    intro a j g1 g2 g3
    simp only [iv_si]
    rw [if_neg (by omega), if_neg (by omega), if_neg (by omega), if_neg (by omega)]
    by_cases h56 : a = 56
    · subst h56; rw [f7 j (by omega) (by omega)]; exact e8 56 j (by decide) (by decide) (by omega)
    · rw [f6 a j g1 (by omega) (by omega)]; exact e8 a j g1 g2 (by omega)
  refine ⟨⟨a1.trans (e1.trans f1), fun a j g1 g2 g3 => ?_, fun j g1 g2 => ?_, by simp [iv_si], by simp only [iv_si]; rw [if_neg (by omega), if_neg (by omega), if_neg (by omega), if_neg (by omega)]; exact f5, fun a j g1 g2 g3 => ?_, fun j g1 g2 => ?_, ?_, fun a j g1 g2 g3 => ?_⟩, lay⟩
  · simp only [iv_si]
    rw [if_neg (by omega), if_neg (by omega), if_neg (by omega), if_neg (by omega), f2 a j g1 g2 g3, e2 a j g1 g2 g3]; exact a2 a j g1 g2 g3
  · simp only [iv_si]
    by_cases h40 : j = 40
    · rw [if_pos ⟨trivial, h40⟩, h40]; exact hw.symm
    · rw [if_neg (fun q => h40 q.2), if_neg (by omega)]
      by_cases h42 : j = 42
      · rw [if_pos ⟨trivial, h42⟩, h42]; exact hcur.symm
      · rw [if_neg (fun q => h42 q.2), if_neg (by omega), f3 j g1 g2, e3 j g1 h40 g2 h42]; exact a3 j g1 h40 g2
  · rw [lay a j g1 (by omega) (by omega)]; exact a6 a j g1 g2 g3
  · rw [lay 56 j (by decide) (by decide) (by omega)]; exact a7 j g1 g2
  · rw [lay 56 cur (by decide) (by decide) (by omega)]; exact a8
  · simp only [iv_si]
    rw [if_neg (by omega), if_neg (by omega), if_neg (by omega), if_neg (by omega), f9 a j g1 g2 (by omega), e13 a j g1 g2 g3]; exact a9 a j g1 g2 g3
theorem PE_noop {w cur nc n1 b1 m1 s1 s2 s3 : Int} {G G1 : Hp} (h : PE w cur nc n1 b1 m1 s1 s2 s3 G G1) : iv G1 35 40 = w + 1 ∧ iv G1 60 w = s1 ∧ iv G1 61 w = s2 ∧ iv G1 62 w = s3 := ⟨h.2.2.2.1, h.2.2.2.2.2.2.2.2.2.2.1, h.2.2.2.2.2.2.2.2.2.2.2.1, h.2.2.2.2.2.2.2.2.2.2.2.2⟩
theorem tszL_app (d : Nat) (l1 l2 : List (Tr d)) : tszL d (l1 ++ l2) = tszL d l1 + tszL d l2 := by simp [tszL]
set_option maxHeartbeats 1000000 in
theorem evS_step {P : Pg} {c : Int → Int} (hP : Pok P) (hc : Cok c) {dd d : Nat} (ihd : ∀ d', d = d' + 1 → EvS P c dd d') : EvS P c dd d := by
  intro n
  induction n with
  | zero => intro a b h; exact h.elim
  | succ n ih =>
    intro a b hT a0 b1 G w cur nc ns m x Q l3 f0 x0 hM x00 x1 hd hns hwb hsz hl kk
    have hlt := Tm_lt hT
    have hM' := hM
    obtain ⟨hF, hcd, hbg, hmn, hcc, hat, hw, hcur, hnc, hnst, hmk, hxx, hcu⟩ := hM'
    have d0 : (0 : Int) ≤ (d : Int) * 160 := by omega
    have ew : w + 1 - 1 = w := by omega
    have hca : iv G 42 a = P.1 a := congrFun hcd a
    have rg := fun k1 (a1 : Int) (e1 : Int) (s1 : Int × List (Tr d)) (ht : Tm P.1 k1 a1 e1) => ev_rng (cd := P.1) (rd := rdc c (α := List (Tr d))) (cl := apH (hnd P c d)) ⟨x00, x1⟩ (fun v s _ => rdc_rng hc v s) (fun k y s k0 k1 y0 y1 => hnd_rng hP hc d k y k0 y0 y1) k1 a1 e1 s1 ht
    rcases Tm_succ hT with ⟨h0 | h0, hb⟩ | ⟨h0, h1⟩ | ⟨h0, k0, k1, h1⟩ | ⟨h0, p1, h1, h2⟩ | ⟨h0, p1, p2, h1, h2, h3⟩
    · -- a figure
      rw [ev_fig h0] at kk
      refine lay_open hF hl hw (by omega) (c_open_fig (dd + 2) hF hat a0 (by omega) hca h0) (kk _ ?_ trivial)
      rw [hb]
      show EvP w cur nc (nc + ((tszL d ([] : List (Tr d)) : Nat) : Int)) (a + 1) m G _
      rw [show nc + ((tszL d ([] : List (Tr d)) : Nat) : Int) = nc from by simp [tszL]]
      exact EvP_at (a + 1) hnc hmk
    · -- the argument
      rw [ev_n h0] at kk
      refine lay_open hF hl hw (by omega) (c_open_n (dd + 2) hF hat a0 (by omega) hca hcur (by omega) (by omega) h0) ?_
      rw [hxx]
      refine kk _ ?_ trivial
      rw [hb]
      show EvP w cur nc (nc + ((tszL d ([] : List (Tr d)) : Nat) : Int)) (a + 1) m G _
      rw [show nc + ((tszL d ([] : List (Tr d)) : Nat) : Int) = nc from by simp [tszL]]
      exact EvP_at (a + 1) hnc hmk
    · -- a cell is read
      have esz : nfc P.1 (n + 1) a = nfc P.1 n (a + 1) := by simp only [nfc]; rw [if_pos h0]
      rw [esz] at hsz
      rw [ev_x h0] at kk
      refine lay_open hF hl hw (by omega) (c_open_op (dd + 2) hF hat a0 (by omega) hca hw (by omega) (by omega) (Or.inl h0)) (lay_neg (by decide) ?_)
      have hp := PE_open (w := w) (cur := cur) (a' := a + 1) (sg := P.1 a) (vl := 0) hnc hmk
      have esize := ev_size hP hc d ⟨x00, x1⟩ (m := m) h1
      have rv1 := rg n (a + 1) b (m, []) h1
      refine ih (a + 1) b h1 (by omega) b1 _ (w + 1) cur nc ns m x Q _ f0 x0 (MS_PE hM hp (by omega) (by omega)) x00 x1 hd hns (by omega) hsz rfl (fun G2 he hf => ?_)
      generalize ev P.1 (rdc c) (apH (hnd P c d)) x n (a + 1) (m, []) = r at *
      obtain ⟨v1, m1, q1⟩ := r
      dsimp only at *
      have hp2 := PE_EvP hp he (by omega)
      have hM2 := MS_PE hM hp2 (by omega) (by omega)
      obtain ⟨g1, g2, g3, g4⟩ := PE_noop hp2
      have hcell := hM2.2.2.2.2.1 (v1 % 8) (by omega) (by omega)
      refine lay_give hM2.1 g1 (by omega) rv1.1 (c_give_x (dd + 2) hM2.1 g1 (by omega) (by omega) (sg := P.1 a) (by rw [ew]; exact g2) hM2.2.2.2.2.2.2.2.1 (by omega) (by omega) hM2.2.2.2.2.2.2.2.2.2.2.1 hcell rv1.1 h0) ?_
      rw [ew]
      exact kk _ (EvP_mask (PE_pop hw hp2) _) (fAt_kept _ _ hf (fun a j g1 g2 g3 g4 => by simp only [iv_si]; rw [if_neg (by omega), if_neg (by omega)]))
    · -- a function is called
      have esz : nfc P.1 (n + 1) a = 1 + nfc P.1 n (a + 2) := by simp only [nfc]; rw [if_neg (by omega), if_pos h0]
      rw [esz, Nat.add_mul, Nat.one_mul] at hsz
      rw [ev_f h0] at kk
      have hlt1 := Tm_lt h1
      refine lay_open hF hl hw (by omega) (c_open_f (dd + 2) hF hat a0 (by omega) hca hw (by omega) (by omega) (by omega) (congrFun hcd (a + 1)) ⟨k0, by omega⟩ h0) (lay_neg (by decide) ?_)
      have hp := PE_at (PE_open (w := w) (cur := cur) (a' := a + 1) (sg := P.1 a) (vl := P.1 (a + 1) - 48) hnc hmk) (a + 2)
      have esize := ev_size hP hc d ⟨x00, x1⟩ (m := m) h1
      have rv1 := rg n (a + 2) b (m, []) h1
      refine ih (a + 2) b h1 (by omega) b1 _ (w + 1) cur nc ns m x Q _ f0 x0 (MS_PE hM hp (by omega) (by omega)) x00 x1 hd hns (by omega) (by omega) rfl (fun G2 he hf => ?_)
      generalize ev P.1 (rdc c) (apH (hnd P c d)) x n (a + 2) (m, []) = r at *
      obtain ⟨y, m1, q1⟩ := r
      dsimp only at *
      have hp2 := PE_EvP hp he (by omega)
      have hM2 := MS_PE hM hp2 (by omega) (by omega)
      obtain ⟨g1, g2, g3, g4⟩ := PE_noop hp2
      have hM2' := hM2
      obtain ⟨s1, s2, s3, s4, s5, s6, s7, s8, s9, s10, s11, s12, s13⟩ := hM2'
      have notmade : (P.2.2 ≤ P.1 (a + 1) - 48 ∨ ns = 6) → hnd P c d (P.1 (a + 1) - 48) y = (0, []) → Ex (dd + 4) (some .int) 10 false cX10_layNew 48 [some (.inr (.inr (some 35))), some (.inl f0), some (.inl x0), some (.inl y)] [] G2 Q := by
        intro hn heq
        refine lay_give s1 g1 (by omega) rv1.1 (c_give_f0 dd s1 g1 (by omega) (by omega) (sg := P.1 a) (by rw [ew]; exact g2) s4 s8 (by omega) (by omega) s10 (by rw [ew]; exact g4) h0 hn) ?_
        rw [ew]
        simp only [apH, heq, List.append_nil] at kk
        exact kk _ (PE_pop hw hp2) (fAt_kept _ _ hf (fun a j g1 g2 g3 g4 => by simp only [iv_si]; rw [if_neg (by omega)]))
      cases d with
      | zero => exact notmade (Or.inr (by omega)) rfl
      | succ d' =>
        by_cases hk : P.1 (a + 1) - 48 < P.2.2
        · obtain ⟨q0, e, hTb, e159, hnf⟩ := hP.2.2 (P.1 (a + 1) - 48) (by omega) hk
          have hm5 := hP.2.1
          have hSS : SS (d' + 1) = 1 + 3 * SS d' := rfl
          have hnf3 := Nat.mul_le_mul_right (SS d') hnf
          have hsb := Tm_lt hTb
          refine lay_give s1 g1 (by omega) rv1.1 (c_give_f1 dd s1 g1 (by omega) (by omega) (sg := P.1 a) (by rw [ew]; exact g2) s4 s8 (by omega) (by omega) s10 (by rw [ew]; exact g4) h0 s6 s9 (by omega) (by omega) (by omega) (by omega) hk hm5 (by omega) (by omega)) (lay_neg (by decide) ?_)
          have hz := Zf_of (w := w) (cur := cur) (n1 := nc + ((tszL (d' + 1) q1 : Nat) : Int)) (ns := ns) (b := b) (k := P.1 (a + 1) - 48) (y := y) G2
          refine ihd d' rfl 160 _ e hTb q0 (by omega) _ (w + 1) _ _ (ns + 1) 0 y Q _ f0 x0 (MS_Zf hM2 hz (by omega) (by omega)) rv1.1 rv1.2 (by omega) (by omega) (by omega) (by omega) rfl (fun Gy hey hfy => ?_)
          have hfr := fr_eq P c d' (P.1 (a + 1) - 48) y
          have hsz2 := ev_size hP hc d' ⟨rv1.1, rv1.2⟩ (m := 0) hTb
          have rv2 := fr_rng hP hc d' (P.1 (a + 1) - 48) y (by omega) hk rv1.1 rv1.2
          have hhn : hnd P c (d' + 1) (P.1 (a + 1) - 48) y = (nV (rt (d' + 1) (fr P c d' (P.1 (a + 1) - 48) y)), [fr P c d' (P.1 (a + 1) - 48) y]) := by simp only [hnd]; rw [if_pos hk]
          simp only [apH, hhn] at kk
          generalize ev P.1 (rdc c) (apH (hnd P c d')) y 160 (P.2.1 (P.1 (a + 1) - 48)) (0, []) = r2 at *
          obtain ⟨v, m2, q2⟩ := r2
          dsimp only at *
          rw [hfr] at kk rv2
          have hV : nV (rt (d' + 1) (mkN d' (0, P.1 (a + 1) - 48, y, v, m2, 0, 0) q2)) = v := rfl
          rw [hV] at kk rv2
          have y40 : iv Gy 35 40 = w + 1 := by rw [hey.2.2.1 40 (by decide) (by decide)]; exact hz.2.2.2.1
          have y42 : iv Gy 35 42 = nc + ((tszL (d' + 1) q1 : Nat) : Int) := by rw [hey.2.2.1 42 (by decide) (by decide)]; exact hz.2.2.2.2.2.1
          have y60 : iv Gy 60 w = 67 := by rw [hey.2.2.2.2.2.2.2.2 60 w (by decide) (by decide) (by omega)]; exact hz.2.2.2.2.2.2.2.2.2.2.2.2.2.1
          obtain ⟨hE, hlay⟩ := call_EvP (v := v) hw hcur hp2 hz hey (by omega) (by omega)
          refine lay_give (FX_Io s1 (hz.1.trans hey.1)) y40 (by omega) rv2.1 (c_give_C (dd + 2) (FX_Io s1 (hz.1.trans hey.1)) y40 (by omega) (by omega) (sg := 67) (by rw [ew]; exact y60) y42 (by omega) (by omega) rfl) ?_
          rw [ew]
          have hts : ((tszL (d' + 1) (q1 ++ [mkN d' (0, P.1 (a + 1) - 48, y, v, m2, 0, 0) q2]) : Nat) : Int) = ((tszL (d' + 1) q1 : Nat) : Int) + 1 + ((tszL d' q2 : Nat) : Int) := by
            rw [tszL_app]
            have : tszL (d' + 1) [mkN d' (0, P.1 (a + 1) - 48, y, v, m2, 0, 0) q2] = 1 + tszL d' q2 := by unfold tszL; rw [List.map_cons, List.map_nil, List.sum_cons, List.sum_nil]; rfl
            omega
          refine kk _ ?_ ?_
          · rw [hts, show nc + (((tszL (d' + 1) q1 : Nat) : Int) + 1 + ((tszL d' q2 : Nat) : Int)) = nc + ((tszL (d' + 1) q1 : Nat) : Int) + 1 + ((tszL d' q2 : Nat) : Int) from by omega]
            exact hE
          · rw [List.flatMap_append, fAt_app]
            have hl1 := flatL_len (d' + 1) (ns + 1) q1
            refine ⟨fAt_kept _ _ hf (fun a j g1 g2 g3 g4 => hlay a j g1 g2 (by omega)), ?_⟩
            rw [hl1]
            have hflat : List.flatMap (flat (d' + 1) (ns + 1)) [mkN d' (0, P.1 (a + 1) - 48, y, v, m2, 0, 0) q2] = ((0, P.1 (a + 1) - 48, y, v, m2, 0, 0), ns + 1) :: q2.flatMap (flat d' (ns + 1 + 1)) := by rw [List.flatMap_cons, List.flatMap_nil, List.append_nil]; rfl
            rw [hflat]
            refine ⟨⟨?_, ?_, ?_, ?_, ?_⟩, ?_⟩
            · simp only [iv_si]; rw [if_neg (by omega), if_neg (by omega), if_neg (by omega), if_neg (by omega), hey.2.2.2.2.2.1 52 _ (by decide) (by decide) (by omega)]; exact hz.2.2.2.2.2.2.2.2.1
            · simp only [iv_si]; rw [if_neg (by omega), if_neg (by omega), if_neg (by omega), if_neg (by omega), hey.2.2.2.2.2.1 53 _ (by decide) (by decide) (by omega)]; exact hz.2.2.2.2.2.2.2.2.2.1
            · simp only [iv_si]; simp only [Nat.reduceEqDiff, false_and, if_false, true_and, and_self, if_true]; rfl
            · simp only [iv_si]; rw [if_neg (by omega), if_neg (by omega), if_neg (by omega), if_neg (by omega), hey.2.2.2.2.2.1 55 _ (by decide) (by decide) (by omega)]; exact hz.2.2.2.2.2.2.2.2.2.2.1
            · simp only [iv_si]; rw [if_neg (by omega), if_neg (by omega), if_neg (by omega), if_neg (by omega)]; exact hey.2.2.2.2.2.2.2.1
            · exact fAt_kept _ _ hfy (fun a j g1 g2 g3 g4 => by simp only [iv_si]; rw [if_neg (by omega), if_neg (by omega), if_neg (by omega), if_neg (by omega)])
        · exact notmade (Or.inl (by omega)) (by simp only [hnd]; rw [if_neg hk])
    · -- two terms
      have esz : nfc P.1 (n + 1) a = nfc P.1 n (a + 1) + nfc P.1 n p1 := by simp only [nfc]; rw [if_neg (by omega), if_neg (by omega), if_pos h0, Tm_tend h1]
      rw [esz, Nat.add_mul] at hsz
      rw [ev_b h0, Tm_tend h1] at kk
      have hl1 := Tm_lt h1
      have hl2 := Tm_lt h2
      refine lay_open hF hl hw (by omega) (c_open_op (dd + 2) hF hat a0 (by omega) hca hw (by omega) (by omega) (by omega)) (lay_neg (by decide) ?_)
      have hp := PE_open (w := w) (cur := cur) (a' := a + 1) (sg := P.1 a) (vl := 0) hnc hmk
      have esize := ev_size hP hc d ⟨x00, x1⟩ (m := m) h1
      have rv1 := rg n (a + 1) p1 (m, []) h1
      refine ih (a + 1) p1 h1 (by omega) (by omega) _ (w + 1) cur nc ns m x Q _ f0 x0 (MS_PE hM hp (by omega) (by omega)) x00 x1 hd hns (by omega) (by omega) rfl (fun G2 he hf => ?_)
      generalize ev P.1 (rdc c) (apH (hnd P c d)) x n (a + 1) (m, []) = r at *
      obtain ⟨v1, m1, q1⟩ := r
      dsimp only at *
      rw [ev_app] at kk
      have hp2 := PE_EvP hp he (by omega)
      have hM2 := MS_PE hM hp2 (by omega) (by omega)
      obtain ⟨g1, g2, g3, g4⟩ := PE_noop hp2
      refine lay_give hM2.1 g1 (by omega) rv1.1 (c_give_t1 dd hM2.1 g1 (by omega) (by omega) (sg := P.1 a) (by rw [ew]; exact g2) h0 (by rw [ew]; exact g3)) (lay_neg (by decide) ?_)
      rw [ew]
      have hp3 := PE_value (PE_stage hp2 1) v1
      have esize2 := ev_size hP hc d ⟨x00, x1⟩ (m := m1) h2
      have rv2 := rg n p1 b (m1, []) h2
      refine ih p1 b h2 (by omega) b1 _ (w + 1) cur _ ns m1 x Q _ f0 x0 (MS_PE hM hp3 (by omega) (by omega)) x00 x1 hd hns (by omega) (by omega) rfl (fun G4 he4 hf4 => ?_)
      generalize ev P.1 (rdc c) (apH (hnd P c d)) x n p1 (m1, []) = r2 at *
      obtain ⟨v2, m2, q2⟩ := r2
      dsimp only at *
      have hp4 := PE_EvP hp3 he4 (by omega)
      have hM4 := MS_PE hM hp4 (by omega) (by omega)
      obtain ⟨k1, k2, k3, k4⟩ := PE_noop hp4
      refine lay_give hM4.1 k1 (by omega) rv2.1 (c_give_t2 dd hM4.1 k1 (by omega) (by omega) (sg := P.1 a) (by rw [ew]; exact k2) h0 (by rw [ew]; exact k3) (by rw [ew]; exact k4) rv1 rv2) ?_
      rw [ew]
      have hl1 := flatL_len d (ns + 1) q1
      refine kk _ ?_ ?_
      · rw [tszL_app, show nc + ((tszL d q1 + tszL d q2 : Nat) : Int) = nc + ((tszL d q1 : Nat) : Int) + ((tszL d q2 : Nat) : Int) from by omega]
        exact PE_pop hw (PE_stage hp4 2)
      · rw [List.flatMap_append, fAt_app, hl1]
        have keepS : ∀ (a : Nat) (j : Int), 52 ≤ a → a ≤ 56 → iv (si (si G4 61 w 2) 35 40 w) a j = iv G4 a j := fun a j g1 g2 => by simp only [iv_si]; rw [if_neg (by omega), if_neg (by omega)]
        refine ⟨fAt_kept _ _ (fAt_EvP he4 (fAt_kept _ _ hf (fun a j g1 g2 g3 g4 => by simp only [iv_si]; rw [if_neg (by omega), if_neg (by omega)])) (by omega) (by omega)) (fun a j g1 g2 _ _ => keepS a j g1 g2), fAt_kept _ _ hf4 (fun a j g1 g2 _ _ => keepS a j g1 g2)⟩
    · -- a choice
      have esz : nfc P.1 (n + 1) a = nfc P.1 n (a + 1) + (nfc P.1 n p1 + nfc P.1 n p2) := by simp only [nfc]; rw [if_neg (by omega), if_neg (by omega), if_neg (by omega), if_pos h0, Tm_tend h1, Tm_tend h2]
      rw [esz, Nat.add_mul, Nat.add_mul] at hsz
      rw [ev_q h0, Tm_tend h1, Tm_tend h2] at kk
      have hl1 := Tm_lt h1
      have hl2 := Tm_lt h2
      have hl3 := Tm_lt h3
      refine lay_open hF hl hw (by omega) (c_open_op (dd + 2) hF hat a0 (by omega) hca hw (by omega) (by omega) (by omega)) (lay_neg (by decide) ?_)
      have hp := PE_open (w := w) (cur := cur) (a' := a + 1) (sg := P.1 a) (vl := 0) hnc hmk
      have esize := ev_size hP hc d ⟨x00, x1⟩ (m := m) h1
      have rv1 := rg n (a + 1) p1 (m, []) h1
      refine ih (a + 1) p1 h1 (by omega) (by omega) _ (w + 1) cur nc ns m x Q _ f0 x0 (MS_PE hM hp (by omega) (by omega)) x00 x1 hd hns (by omega) (by omega) rfl (fun G2 he hf => ?_)
      generalize ev P.1 (rdc c) (apH (hnd P c d)) x n (a + 1) (m, []) = r at *
      obtain ⟨v1, m1, q1⟩ := r
      dsimp only at *
      have hp2 := PE_EvP hp he (by omega)
      have hM2 := MS_PE hM hp2 (by omega) (by omega)
      obtain ⟨g1, g2, g3, g4⟩ := PE_noop hp2
      have hl1 := flatL_len d (ns + 1) q1
      by_cases hv : v1 = 0
      · rw [if_pos hv, ev_app] at kk
        refine lay_give hM2.1 g1 (by omega) rv1.1 (c_give_q0 dd hM2.1 g1 (by omega) (by omega) (sg := P.1 a) (by rw [ew]; exact g2) h0 hM2.2.2.2.2.2.1 (by rw [hM2.2.1]; exact h2) (by omega) (by omega) (by rw [ew]; exact g3) hv) (lay_neg (by decide) ?_)
        rw [ew]
        have hp3 := PE_stage (PE_at hp2 p2) 2
        have esize2 := ev_size hP hc d ⟨x00, x1⟩ (m := m1) h3
        have rv2 := rg n p2 b (m1, []) h3
        refine ih p2 b h3 (by omega) b1 _ (w + 1) cur _ ns m1 x Q _ f0 x0 (MS_PE hM hp3 (by omega) (by omega)) x00 x1 hd hns (by omega) (by omega) rfl (fun G4 he4 hf4 => ?_)
        generalize ev P.1 (rdc c) (apH (hnd P c d)) x n p2 (m1, []) = r2 at *
        obtain ⟨v2, m2, q2⟩ := r2
        dsimp only at *
        have hp4 := PE_EvP hp3 he4 (by omega)
        have hM4 := MS_PE hM hp4 (by omega) (by omega)
        obtain ⟨k1, k2, k3, k4⟩ := PE_noop hp4
        refine lay_give hM4.1 k1 (by omega) rv2.1 (c_give_q3 dd hM4.1 k1 (by omega) (by omega) (sg := P.1 a) (by rw [ew]; exact k2) h0 (by rw [ew]; exact k3)) ?_
        rw [ew]
        refine kk _ ?_ ?_
        · rw [tszL_app, show nc + ((tszL d q1 + tszL d q2 : Nat) : Int) = nc + ((tszL d q1 : Nat) : Int) + ((tszL d q2 : Nat) : Int) from by omega]
          exact PE_pop hw hp4
        · rw [List.flatMap_append, fAt_app, hl1]
          have keepS : ∀ (a : Nat) (j : Int), 52 ≤ a → a ≤ 56 → iv (si G4 35 40 w) a j = iv G4 a j := fun a j g1 g2 => by simp only [iv_si]; rw [if_neg (by omega)]
          refine ⟨fAt_kept _ _ (fAt_EvP he4 (fAt_kept _ _ hf (fun a j g1 g2 g3 g4 => by simp only [iv_si]; rw [if_neg (by omega), if_neg (by omega)])) (by omega) (by omega)) (fun a j g1 g2 _ _ => keepS a j g1 g2), fAt_kept _ _ hf4 (fun a j g1 g2 _ _ => keepS a j g1 g2)⟩
      · rw [if_neg hv, ev_app] at kk
        refine lay_give hM2.1 g1 (by omega) rv1.1 (c_give_q1 dd hM2.1 g1 (by omega) (by omega) (sg := P.1 a) (by rw [ew]; exact g2) h0 (by rw [ew]; exact g3) hv) (lay_neg (by decide) ?_)
        rw [ew]
        have hp3 := PE_stage hp2 1
        have esize2 := ev_size hP hc d ⟨x00, x1⟩ (m := m1) h2
        have rv2 := rg n p1 p2 (m1, []) h2
        refine ih p1 p2 h2 (by omega) (by omega) _ (w + 1) cur _ ns m1 x Q _ f0 x0 (MS_PE hM hp3 (by omega) (by omega)) x00 x1 hd hns (by omega) (by omega) rfl (fun G4 he4 hf4 => ?_)
        generalize ev P.1 (rdc c) (apH (hnd P c d)) x n p1 (m1, []) = r2 at *
        obtain ⟨v2, m2, q2⟩ := r2
        dsimp only at *
        have hp4 := PE_EvP hp3 he4 (by omega)
        have hM4 := MS_PE hM hp4 (by omega) (by omega)
        obtain ⟨k1, k2, k3, k4⟩ := PE_noop hp4
        refine lay_give hM4.1 k1 (by omega) rv2.1 (c_give_q2 dd hM4.1 k1 (by omega) (by omega) (sg := P.1 a) (by rw [ew]; exact k2) h0 hM4.2.2.2.2.2.1 (by rw [hM4.2.1]; exact h3) (by omega) (by omega) (by rw [ew]; exact k3)) ?_
        rw [ew]
        refine kk _ ?_ ?_
        · rw [tszL_app, show nc + ((tszL d q1 + tszL d q2 : Nat) : Int) = nc + ((tszL d q1 : Nat) : Int) + ((tszL d q2 : Nat) : Int) from by omega]
          exact PE_pop hw (PE_at hp4 b)
        · rw [List.flatMap_append, fAt_app, hl1]
          have keepS : ∀ (a : Nat) (j : Int), 52 ≤ a → a ≤ 56 → iv (si (si G4 35 41 b) 35 40 w) a j = iv G4 a j := fun a j g1 g2 => by simp only [iv_si]; rw [if_neg (by omega), if_neg (by omega)]
          refine ⟨fAt_kept _ _ (fAt_EvP he4 (fAt_kept _ _ hf (fun a j g1 g2 g3 g4 => by simp only [iv_si]; rw [if_neg (by omega)])) (by omega) (by omega)) (fun a j g1 g2 _ _ => keepS a j g1 g2), fAt_kept _ _ hf4 (fun a j g1 g2 _ _ => keepS a j g1 g2)⟩
theorem evS {P : Pg} {c : Int → Int} (hP : Pok P) (hc : Cok c) {dd : Nat} : ∀ d, EvS P c dd d := by
  intro d
  induction d with
  | zero => exact evS_step hP hc (fun d' h => by cases h)
  | succ d ih => exact evS_step hP hc (fun d' h => by cases h; exact ih)
end
section
/-! THE MODEL: layNew, layNow -/
theorem Zf_of0 (f x : Int) (G2 : Hp) : Zf 0 0 0 0 0 f x G2 (si (si (si (si (si (si (si (si (si (si (si (si G2 35 42 0) 52 0 f) 53 0 x) 55 0 (0 + 1)) 56 0 0) 35 29 (0 + 1)) 60 0 67) 61 0 0) 62 0 0) 35 40 (0 + 1)) 61 0 0) 35 41 (iv G2 43 f)) := by
  refine ⟨Io.rf G2, fun a j g1 g2 g3 => ?_, fun j g1 g2 g3 g4 => ?_, by simp [iv_si], by simp [iv_si], by simp [iv_si], by simp [iv_si], fun a j g1 g2 g3 => ?_, by simp [iv_si], by simp [iv_si], by simp [iv_si], by simp [iv_si], fun a j g1 g2 g3 => ?_, by simp [iv_si], by simp [iv_si], by simp [iv_si]⟩
  · simp only [iv_si]
    iterate 12 rw [if_neg (by omega)]
  · simp only [iv_si]
    iterate 12 rw [if_neg (by omega)]
  · simp only [iv_si]
    iterate 12 rw [if_neg (by omega)]
  · simp only [iv_si]
    iterate 12 rw [if_neg (by omega)]
/-- the model's program and cells, as memory has them -/
def MP (P : Pg) (c : Int → Int) (G : Hp) : Prop := FM G ∧ iv G 42 = P.1 ∧ iv G 43 = P.2.1 ∧ iv G 35 14 = P.2.2 ∧ ∀ k, 0 ≤ k → k < 8 → iv G 36 k = c k
/-- what laying leaves as it was -/
def LayI (G G' : Hp) : Prop := Io G G' ∧ (∀ (a : Nat) (k : Int), a ≠ 35 → (a < 52 ∨ 56 < a) → (a < 60 ∨ 62 < a) → iv G' a k = iv G a k) ∧ ∀ k, k ≠ 29 → k ≠ 40 → k ≠ 41 → k ≠ 42 → iv G' 35 k = iv G 35 k
theorem LayI.trans {G G1 G2 : Hp} (h1 : LayI G G1) (h2 : LayI G1 G2) : LayI G G2 := ⟨h1.1.trans h2.1, fun a k g1 g2 g3 => (h2.2.1 a k g1 g2 g3).trans (h1.2.1 a k g1 g2 g3), fun k g1 g2 g3 g4 => (h2.2.2 k g1 g2 g3 g4).trans (h1.2.2 k g1 g2 g3 g4)⟩
theorem MP_LayI {P : Pg} {c : Int → Int} {G G' : Hp} (h : MP P c G) (hi : LayI G G') : MP P c G' := by
  obtain ⟨h1, h2, h3, h4, h5⟩ := h
  obtain ⟨e1, e2, e3⟩ := hi
  refine ⟨FX_Io h1 e1, ?_, ?_, by rw [e3 14 (by decide) (by decide) (by decide) (by decide)]; exact h4, fun k k0 k1 => by rw [e2 36 k (by decide) (by decide) (by decide)]; exact h5 k k0 k1⟩
  · rw [← h2]; funext k; exact e2 42 k (by decide) (by decide) (by decide)
  · rw [← h3]; funext k; exact e2 43 k (by decide) (by decide) (by decide)
theorem lay_begin {dd : Nat} {P : Pg} {G : Hp} {Q : Option V → Hp → Prop} (hF : FM G) (hP14 : iv G 35 14 = P.2.2) {f x : Int} (f0 : 0 ≤ f) (f1 : f < P.2.2) (m5 : P.2.2 ≤ 5) (kk : ∀ Gz, Zf 0 0 0 0 0 f x (si (si (si (si G 35 29 0) 35 40 0) 35 42 0) 35 41 0) Gz → Ex (dd + 4) (some .int) 10 false cX10_layNew 36 [some (.inr (.inr (some 35))), some (.inl f), some (.inl x), none] [] Gz Q) : Ex (dd + 4) (some .int) 10 false cX10_layNew 0 [some (.inr (.inr (some 35))), some (.inl f), some (.inl x), none] [] G Q := by
  refine x_aload_n (q := 1) dX10_layNew_0 rfl rfl ?_
  refine x_iconst (q := 2) dX10_layNew_1 rfl (by decide) ?_
  refine x_putI (q := 5) dX10_layNew_2 rfl f_10_118 rfl (fun h => by cases h) (fun h => by cases h) (ft35 hF) ?_
  have hF := FX_si hF 35 29 0
  refine x_iload_n (q := 6) dX10_layNew_5 rfl rfl ?_
  refine x_aload_n (q := 7) dX10_layNew_6 rfl rfl ?_
  refine x_getI (q := 10) dX10_layNew_7 rfl f_10_95 rfl (ft35 hF) ?_
  refine Ex.stk (st' := [.inl P.2.2, .inl f]) (by rw [show iv (si G 35 29 0) 35 14 = P.2.2 from (by simp [iv_si, hP14])]) ?_
  refine x_icmp_lt (q := 13) (t := 15) dX10_layNew_10 rfl (by decide) (fun h10 => ?_) (fun h10 => by exfalso; omega)
  refine x_aload_n (q := 16) dX10_layNew_15 rfl rfl ?_
  refine x_iconst (q := 17) dX10_layNew_16 rfl (by decide) ?_
  refine x_putI (q := 20) dX10_layNew_17 rfl f_10_108 rfl (fun h => by cases h) (fun h => by cases h) (ft35 hF) ?_
  have hF := FX_si hF 35 40 0
  refine x_aload_n (q := 21) dX10_layNew_20 rfl rfl ?_
  refine x_iconst (q := 22) dX10_layNew_21 rfl (by decide) ?_
  refine x_putI (q := 25) dX10_layNew_22 rfl f_10_121 rfl (fun h => by cases h) (fun h => by cases h) (ft35 hF) ?_
  have hF := FX_si hF 35 42 0
  refine x_aload_n (q := 26) dX10_layNew_25 rfl rfl ?_
  refine x_iconst (q := 27) dX10_layNew_26 rfl (by decide) ?_
  refine x_putI (q := 30) dX10_layNew_27 rfl f_10_111 rfl (fun h => by cases h) (fun h => by cases h) (ft35 hF) ?_
  have hF := FX_si hF 35 41 0
  refine x_aload_n (q := 31) dX10_layNew_30 rfl rfl ?_
  refine x_iload_n (q := 32) dX10_layNew_31 rfl rfl ?_
  refine x_iload_n (q := 33) dX10_layNew_32 rfl rfl ?_
  refine x_invV (q := 36) (as := [.inr (.inr (some 35)), .inl f, .inl x]) (rest := []) dX10_layNew_33 rfl l_10_135 m_X10_begin rfl rfl (ft35 hF) (Nat.le_of_ble_eq_true rfl) (c_begin _ (G := si (si (si (si G 35 29 0) 35 40 0) 35 42 0) 35 41 0) hF (w := 0) (a := 0) (cur := 0) (nc := 0) (ab := 0) (by simp [iv_si]) (by simp [iv_si]) (by simp [iv_si]) (by simp [iv_si]) (Or.inl ⟨rfl, rfl⟩) (by decide) (by decide) (by decide) (by decide) (by decide) (by decide) f0 (by omega) (by decide) (by decide)) (fun r1 G1 hR => ?_)
  obtain ⟨rfl, rfl⟩ := hR
  refine Ex.stk (st' := []) rfl ?_
  exact kk _ (Zf_of0 f x _)
set_option maxHeartbeats 1000000 in
theorem c_layNew {P : Pg} {c : Int → Int} (hP : Pok P) (hc : Cok c) (dd : Nat) {G : Hp} (hM : MP P c G) {f x : Int} (f0 : 0 ≤ f) (f1 : f < P.2.2) (x0 : 0 ≤ x) (x1 : x ≤ 996) : CX (dd + 5) 123 [.inr (.inr (some 35)), .inl f, .inl x] G (fun r G' => r = some (.inl (nV (rt 6 (fr P c 5 f x)))) ∧ LayI G G' ∧ iv G' 35 29 = (tsz 6 (fr P c 5 f x) : Int) ∧ fAt G' 0 (flat 6 1 (fr P c 5 f x))) := by
  obtain ⟨hF, hcd, hbg, hmn, hcc⟩ := hM
  refine CX.of (d := dd + 4) m_X10_layNew (Nat.le_of_ble_eq_true rfl) ?_
  refine Ex.lcl (ls' := [some (.inr (.inr (some 35))), some (.inl f), some (.inl x), none]) rfl ?_
  refine lay_begin (P := P) hF hmn f0 f1 hP.2.1 (fun Gz hz => ?_)
  obtain ⟨e1, e2, e3, e4, e5, e6, e7, e8, e9, e10, e11, e12, e13, e14, e15, e16⟩ := hz
  obtain ⟨q0, e, hTb, e159, hnf⟩ := hP.2.2 f f0 f1
  have hSS : SS 5 = 121 := rfl
  have hnf3 := Nat.mul_le_mul_right (SS 5) hnf
  have hsb := Tm_lt hTb
  have k1 : ∀ (a : Nat) (j : Int), a ≠ 35 → iv (si (si (si (si G 35 29 0) 35 40 0) 35 42 0) 35 41 0) a j = iv G a j := fun a j g => by simp only [iv_si]; rw [if_neg (by omega), if_neg (by omega), if_neg (by omega), if_neg (by omega)]
  have k2 : ∀ (j : Int), j ≠ 29 → j ≠ 40 → j ≠ 41 → j ≠ 42 → iv (si (si (si (si G 35 29 0) 35 40 0) 35 42 0) 35 41 0) 35 j = iv G 35 j := fun j g1 g2 g3 g4 => by simp only [iv_si]; rw [if_neg (by omega), if_neg (by omega), if_neg (by omega), if_neg (by omega)]
  have hLz : LayI G Gz := ⟨e1, fun a k g1 g2 g3 => by rw [e2 a k g1 g2 g3]; exact k1 a k g1, fun k g1 g2 g3 g4 => by rw [e3 k g1 g2 g3 g4]; exact k2 k g1 g2 g3 g4⟩
  obtain ⟨s1, s2, s3, s4, s5⟩ := MP_LayI ⟨hF, hcd, hbg, hmn, hcc⟩ hLz
  have hMz : MS P c Gz (P.2.1 f) 1 0 1 1 0 x := ⟨s1, s2, s3, s4, s5, by rw [e5, k1 43 f (by decide), hbg], e4, e6, e7, e11, e12, e10, by omega⟩
  refine evS hP hc 5 160 _ e hTb q0 (by omega) Gz 1 0 1 1 0 x _ _ f x hMz x0 x1 (by decide) (by decide) (by omega) (by omega) rfl (fun Gy hey hfy => ?_)
  have hfr := fr_eq P c 5 f x
  have hsz2 := ev_size hP hc 5 ⟨x0, x1⟩ (m := 0) hTb
  have rv2 := fr_rng hP hc 5 f x f0 f1 x0 x1
  generalize ev P.1 (rdc c) (apH (hnd P c 5)) x 160 (P.2.1 f) (0, []) = r2 at *
  obtain ⟨v, m2, q2⟩ := r2
  dsimp only at *
  rw [hfr] at rv2 ⊢
  have hV : nV (rt 6 (mkN 5 (0, f, x, v, m2, 0, 0) q2)) = v := rfl
  rw [hV] at rv2 ⊢
  have hFy : FM Gy := FX_Io s1 hey.1
  have y40 : iv Gy 35 40 = 1 := by rw [hey.2.2.1 40 (by decide) (by decide)]; exact e4
  have y42 : iv Gy 35 42 = 0 := by rw [hey.2.2.1 42 (by decide) (by decide)]; exact e6
  have y60 : iv Gy 60 0 = 67 := by rw [hey.2.2.2.2.2.2.2.2 60 0 (by decide) (by decide) (by omega)]; exact e14
  refine lay_give hFy y40 (by decide) rv2.1 (c_give_C (dd + 2) hFy y40 (by decide) (by decide) (sg := 67) y60 y42 (by decide) (by decide) rfl) ?_
  have hFq := FX_si (FX_si (FX_si (FX_si hFy 54 0 v) 35 42 (iv Gy 62 (1 - 1))) 35 41 (iv Gy 61 (1 - 1))) 35 40 (1 - 1)
  refine lay_end hFq (by simp [iv_si]) rv2.1 ?_
  have z1 : ∀ (a : Nat) (j : Int), a ≠ 35 → a ≠ 54 → iv (si (si (si (si Gy 54 0 v) 35 42 (iv Gy 62 (1 - 1))) 35 41 (iv Gy 61 (1 - 1))) 35 40 (1 - 1)) a j = iv Gy a j := fun a j g1 g2 => by simp only [iv_si]; rw [if_neg (by omega), if_neg (by omega), if_neg (by omega), if_neg (by omega)]
  have z2 : ∀ (j : Int), j ≠ 40 → j ≠ 41 → j ≠ 42 → iv (si (si (si (si Gy 54 0 v) 35 42 (iv Gy 62 (1 - 1))) 35 41 (iv Gy 61 (1 - 1))) 35 40 (1 - 1)) 35 j = iv Gy 35 j := fun j g1 g2 g3 => by simp only [iv_si]; rw [if_neg (by omega), if_neg (by omega), if_neg (by omega), if_neg (by omega)]
  have z3 : iv (si (si (si (si Gy 54 0 v) 35 42 (iv Gy 62 (1 - 1))) 35 41 (iv Gy 61 (1 - 1))) 35 40 (1 - 1)) 54 0 = v := by simp [iv_si]
  have z4 : ∀ (j : Int), j ≠ 0 → iv (si (si (si (si Gy 54 0 v) 35 42 (iv Gy 62 (1 - 1))) 35 41 (iv Gy 61 (1 - 1))) 35 40 (1 - 1)) 54 j = iv Gy 54 j := fun j g1 => by simp only [iv_si]; rw [if_neg (by omega), if_neg (by omega), if_neg (by omega), if_neg (by omega)]
  refine ⟨by rw [z3], hLz.trans ⟨hey.1, fun a k g1 g2 g3 => by rw [z1 a k g1 (by omega)]; exact hey.2.1 a k g1 g2 g3, fun k g1 g2 g3 g4 => by rw [z2 k g2 g3 g4]; exact hey.2.2.1 k g1 g3⟩, ?_, ?_⟩
  · rw [z2 29 (by decide) (by decide) (by decide), hey.2.2.2.2.1]
    show 1 + ((tszL 5 q2 : Nat) : Int) = ((1 + (List.map (tsz 5) q2).sum : Nat) : Int)
    unfold tszL
    omega
  · show fAt _ 0 (((0, f, x, v, m2, 0, 0), 1) :: q2.flatMap (flat 5 (1 + 1)))
    refine ⟨⟨?_, ?_, ?_, ?_, ?_⟩, ?_⟩
    · rw [z1 52 0 (by decide) (by decide), hey.2.2.2.2.2.1 52 0 (by decide) (by decide) (by omega)]; exact e9
    · rw [z1 53 0 (by decide) (by decide), hey.2.2.2.2.2.1 53 0 (by decide) (by decide) (by omega)]; exact e10
    · exact z3
    · rw [z1 55 0 (by decide) (by decide), hey.2.2.2.2.2.1 55 0 (by decide) (by decide) (by omega)]; exact e11
    · rw [z1 56 0 (by decide) (by decide)]; exact hey.2.2.2.2.2.2.2.1
    · refine fAt_kept _ _ hfy (fun a j g1 g2 g3 g4 => ?_)
      by_cases h54 : a = 54
      · subst h54; exact z4 j (by omega)
      · exact z1 a j (by omega) h54
theorem c_layNew0 (d : Nat) {G : Hp} (hF : FM G) {f x mn : Int} (hmn : iv G 35 14 = mn) (f1 : mn ≤ f) : CX (d + 1) 123 [.inr (.inr (some 35)), .inl f, .inl x] G (fun r G1 => r = some (.inl 0) ∧ G1 = si G 35 29 0) := by
  refine CX.of (d := d + 0) m_X10_layNew (Nat.le_of_ble_eq_true rfl) ?_
  refine Ex.lcl (ls' := [some (.inr (.inr (some 35))), some (.inl f), some (.inl x), none]) rfl ?_
  refine x_aload_n (q := 1) dX10_layNew_0 rfl rfl ?_
  refine x_iconst (q := 2) dX10_layNew_1 rfl (by decide) ?_
  refine x_putI (q := 5) dX10_layNew_2 rfl f_10_118 rfl (fun h => by cases h) (fun h => by cases h) (ft35 hF) ?_
  have hF := FX_si hF 35 29 0
  refine x_iload_n (q := 6) dX10_layNew_5 rfl rfl ?_
  refine x_aload_n (q := 7) dX10_layNew_6 rfl rfl ?_
  refine x_getI (q := 10) dX10_layNew_7 rfl f_10_95 rfl (ft35 hF) ?_
  refine Ex.stk (st' := [.inl mn, .inl f]) (by rw [show iv (si G 35 29 0) 35 14 = mn from (by simp [iv_si, hmn])]) ?_
  refine x_icmp_lt (q := 13) (t := 15) dX10_layNew_10 rfl (by decide) (fun h10 => by exfalso; omega) (fun h10 => ?_)
  refine x_iconst (q := 14) dX10_layNew_13 rfl (by decide) ?_
  refine x_iret dX10_layNew_14 rfl ?_
  exact ⟨rfl, rfl⟩
theorem c_layNow {P : Pg} {c : Int → Int} (hP : Pok P) (hc : Cok c) (d : Nat) {G : Hp} (hM : MP P c G) {f x : Int} (hf : iv G 36 8 = f) (hx : iv G 36 9 = x) (f0 : 0 ≤ f) (f1 : f < P.2.2) (x0 : 0 ≤ x) (x1 : x ≤ 996) : CX (d + 6) 124 [.inr (.inr (some 35))] G (fun r G' => r = some (.inl (nV (rt 6 (fr P c 5 f x)))) ∧ LayI G G' ∧ iv G' 35 29 = (tsz 6 (fr P c 5 f x) : Int) ∧ fAt G' 0 (flat 6 1 (fr P c 5 f x))) := by
  have hF := hM.1
  refine CX.of (d := d + 5) m_X10_layNow (Nat.le_of_ble_eq_true rfl) ?_
  refine Ex.lcl (ls' := [some (.inr (.inr (some 35)))]) rfl ?_
  refine x_aload_n (q := 1) dX10_layNow_0 rfl rfl ?_
  refine x_aload_n (q := 2) dX10_layNow_1 rfl rfl ?_
  refine x_getR (q := 5) dX10_layNow_2 rfl f_10_7 rfl (ft35 hF) ?_
  refine Ex.stk (st' := [.inr (.inr (some 36)), .inr (.inr (some 35))]) (by rw [fr35_0 hF]) ?_
  refine x_bipush (q := 7) dX10_layNow_5 rfl (by decide) ?_
  refine x_iaload (q := 8) dX10_layNow_7 rfl (Or.inl (ft36 hF)) (by omega) (by rw [fl36 hF]; omega) ?_
  refine Ex.stk (st' := [.inl f, .inr (.inr (some 35))]) (by rw [show iv G 36 8 = f from hf]) ?_
  refine x_aload_n (q := 9) dX10_layNow_8 rfl rfl ?_
  refine x_getR (q := 12) dX10_layNow_9 rfl f_10_7 rfl (ft35 hF) ?_
  refine Ex.stk (st' := [.inr (.inr (some 36)), .inl f, .inr (.inr (some 35))]) (by rw [fr35_0 hF]) ?_
  refine x_bipush (q := 14) dX10_layNow_12 rfl (by decide) ?_
  refine x_iaload (q := 15) dX10_layNow_14 rfl (Or.inl (ft36 hF)) (by omega) (by rw [fl36 hF]; omega) ?_
  refine Ex.stk (st' := [.inl x, .inl f, .inr (.inr (some 35))]) (by rw [show iv G 36 9 = x from hx]) ?_
  refine x_invV (q := 18) (as := [.inr (.inr (some 35)), .inl f, .inl x]) (rest := []) dX10_layNow_15 rfl l_10_162 m_X10_layNew rfl rfl (ft35 hF) (Nat.le_of_ble_eq_true rfl) (c_layNew hP hc _ hM f0 f1 x0 x1) (fun r1 G1 hR => ?_)
  obtain ⟨rfl, hR⟩ := hR
  refine Ex.stk (st' := [.inl (nV (rt 6 (fr P c 5 f x)))]) rfl ?_
  refine x_iret dX10_layNow_18 rfl ?_
  exact ⟨rfl, hR⟩
end
