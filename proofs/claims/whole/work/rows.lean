section
-- ===== PART A: goes FIRST, ahead of the names: the tables' words, and 'selects' of the private methods out of them =====
/-- a private method of a class that the tables say can be made, by its rows of tables_1 -/
def lw_okq (q : MethodName × Nat) : Prop := (q.1.cls ≠ "java/lang/invoke/MethodHandle" ∧ q.1.cls ≠ "java/lang/invoke/VarHandle") ∧ Cond.instantiable q.1.cls q.2 ∈ tables_1 ∧ Cond.privateMethod q.1 ∈ tables_1 ∧ Cond.instanceMethod q.1 ∈ tables_1
theorem lw_p0 : lw_okq (⟨"CreaseLines$Closet", "lawOf", "(I)LCreaseLines$Text;"⟩, 13) := ⟨⟨by decide +kernel, by decide +kernel⟩, List.mem_of_getElem? (i := 27) (by decide +kernel), List.mem_of_getElem? (i := 296) (by decide +kernel), List.mem_of_getElem? (i := 297) (by decide +kernel)⟩
theorem lw_p1 : lw_okq (⟨"CreaseLines$Closet", "wear", "(I)V"⟩, 13) := ⟨⟨by decide +kernel, by decide +kernel⟩, List.mem_of_getElem? (i := 27) (by decide +kernel), List.mem_of_getElem? (i := 409) (by decide +kernel), List.mem_of_getElem? (i := 410) (by decide +kernel)⟩
theorem lw_p2 : lw_okq (⟨"CreaseLines$Closet", "soak", "(LCreaseLines$Leg;)V"⟩, 13) := ⟨⟨by decide +kernel, by decide +kernel⟩, List.mem_of_getElem? (i := 27) (by decide +kernel), List.mem_of_getElem? (i := 416) (by decide +kernel), List.mem_of_getElem? (i := 417) (by decide +kernel)⟩
theorem lw_p3 : lw_okq (⟨"CreaseLines", "beginThought", "()LCreaseLines$Closet;"⟩, 12) := ⟨⟨by decide +kernel, by decide +kernel⟩, List.mem_of_getElem? (i := 19) (by decide +kernel), List.mem_of_getElem? (i := 443) (by decide +kernel), List.mem_of_getElem? (i := 444) (by decide +kernel)⟩
theorem lw_p4 : lw_okq (⟨"CreaseLines", "sumDifferences", "(LCreaseLines$Sheet;)V"⟩, 12) := ⟨⟨by decide +kernel, by decide +kernel⟩, List.mem_of_getElem? (i := 19) (by decide +kernel), List.mem_of_getElem? (i := 513) (by decide +kernel), List.mem_of_getElem? (i := 514) (by decide +kernel)⟩
theorem lw_p5 : lw_okq (⟨"CreaseLines", "feedFour", "(I)V"⟩, 12) := ⟨⟨by decide +kernel, by decide +kernel⟩, List.mem_of_getElem? (i := 19) (by decide +kernel), List.mem_of_getElem? (i := 550) (by decide +kernel), List.mem_of_getElem? (i := 551) (by decide +kernel)⟩
theorem lw_p6 : lw_okq (⟨"CreaseLines$Reader", "begin", "([II)V"⟩, 15) := ⟨⟨by decide +kernel, by decide +kernel⟩, List.mem_of_getElem? (i := 126) (by decide +kernel), List.mem_of_getElem? (i := 566) (by decide +kernel), List.mem_of_getElem? (i := 567) (by decide +kernel)⟩
theorem lw_p7 : lw_okq (⟨"CreaseLines$Reader", "nextWord", "()V"⟩, 15) := ⟨⟨by decide +kernel, by decide +kernel⟩, List.mem_of_getElem? (i := 126) (by decide +kernel), List.mem_of_getElem? (i := 571) (by decide +kernel), List.mem_of_getElem? (i := 572) (by decide +kernel)⟩
theorem lw_p8 : lw_okq (⟨"CreaseLines$Reader", "keyOfWord", "()I"⟩, 15) := ⟨⟨by decide +kernel, by decide +kernel⟩, List.mem_of_getElem? (i := 126) (by decide +kernel), List.mem_of_getElem? (i := 578) (by decide +kernel), List.mem_of_getElem? (i := 579) (by decide +kernel)⟩
theorem lw_p9 : lw_okq (⟨"CreaseLines$Reader", "isWord", "(Ljava/lang/String;)Z"⟩, 15) := ⟨⟨by decide +kernel, by decide +kernel⟩, List.mem_of_getElem? (i := 126) (by decide +kernel), List.mem_of_getElem? (i := 583) (by decide +kernel), List.mem_of_getElem? (i := 584) (by decide +kernel)⟩
theorem lw_p10 : lw_okq (⟨"CreaseLines$Reader", "isWhole", "()Z"⟩, 15) := ⟨⟨by decide +kernel, by decide +kernel⟩, List.mem_of_getElem? (i := 126) (by decide +kernel), List.mem_of_getElem? (i := 637) (by decide +kernel), List.mem_of_getElem? (i := 638) (by decide +kernel)⟩
theorem lw_p11 : lw_okq (⟨"CreaseLines$Reader", "takesPiece", "()Z"⟩, 15) := ⟨⟨by decide +kernel, by decide +kernel⟩, List.mem_of_getElem? (i := 126) (by decide +kernel), List.mem_of_getElem? (i := 641) (by decide +kernel), List.mem_of_getElem? (i := 642) (by decide +kernel)⟩
theorem lw_p12 : lw_okq (⟨"CreaseLines$Reader", "takesNumber", "()Z"⟩, 15) := ⟨⟨by decide +kernel, by decide +kernel⟩, List.mem_of_getElem? (i := 126) (by decide +kernel), List.mem_of_getElem? (i := 645) (by decide +kernel), List.mem_of_getElem? (i := 646) (by decide +kernel)⟩
theorem lw_p13 : lw_okq (⟨"CreaseLines$Reader", "endLeaf", "(I)V"⟩, 15) := ⟨⟨by decide +kernel, by decide +kernel⟩, List.mem_of_getElem? (i := 126) (by decide +kernel), List.mem_of_getElem? (i := 649) (by decide +kernel), List.mem_of_getElem? (i := 650) (by decide +kernel)⟩
theorem lw_p14 : lw_okq (⟨"CreaseLines$Reader", "addStep", "(I)V"⟩, 15) := ⟨⟨by decide +kernel, by decide +kernel⟩, List.mem_of_getElem? (i := 126) (by decide +kernel), List.mem_of_getElem? (i := 653) (by decide +kernel), List.mem_of_getElem? (i := 654) (by decide +kernel)⟩
theorem lw_p15 : lw_okq (⟨"CreaseLines$Reader", "endPiece", "()V"⟩, 15) := ⟨⟨by decide +kernel, by decide +kernel⟩, List.mem_of_getElem? (i := 126) (by decide +kernel), List.mem_of_getElem? (i := 657) (by decide +kernel), List.mem_of_getElem? (i := 658) (by decide +kernel)⟩
def lw_privs_1 : List (MethodName × Nat) := [(⟨"CreaseLines$Closet", "lawOf", "(I)LCreaseLines$Text;"⟩, 13), (⟨"CreaseLines$Closet", "wear", "(I)V"⟩, 13), (⟨"CreaseLines$Closet", "soak", "(LCreaseLines$Leg;)V"⟩, 13), (⟨"CreaseLines", "beginThought", "()LCreaseLines$Closet;"⟩, 12), (⟨"CreaseLines", "sumDifferences", "(LCreaseLines$Sheet;)V"⟩, 12), (⟨"CreaseLines", "feedFour", "(I)V"⟩, 12), (⟨"CreaseLines$Reader", "begin", "([II)V"⟩, 15), (⟨"CreaseLines$Reader", "nextWord", "()V"⟩, 15), (⟨"CreaseLines$Reader", "keyOfWord", "()I"⟩, 15), (⟨"CreaseLines$Reader", "isWord", "(Ljava/lang/String;)Z"⟩, 15), (⟨"CreaseLines$Reader", "isWhole", "()Z"⟩, 15), (⟨"CreaseLines$Reader", "takesPiece", "()Z"⟩, 15), (⟨"CreaseLines$Reader", "takesNumber", "()Z"⟩, 15), (⟨"CreaseLines$Reader", "endLeaf", "(I)V"⟩, 15), (⟨"CreaseLines$Reader", "addStep", "(I)V"⟩, 15), (⟨"CreaseLines$Reader", "endPiece", "()V"⟩, 15)]
theorem lw_r1 : ∀ q ∈ lw_privs_1, lw_okq q := List.forall_mem_cons.mpr ⟨lw_p0, List.forall_mem_cons.mpr ⟨lw_p1, List.forall_mem_cons.mpr ⟨lw_p2, List.forall_mem_cons.mpr ⟨lw_p3, List.forall_mem_cons.mpr ⟨lw_p4, List.forall_mem_cons.mpr ⟨lw_p5, List.forall_mem_cons.mpr ⟨lw_p6, List.forall_mem_cons.mpr ⟨lw_p7, List.forall_mem_cons.mpr ⟨lw_p8, List.forall_mem_cons.mpr ⟨lw_p9, List.forall_mem_cons.mpr ⟨lw_p10, List.forall_mem_cons.mpr ⟨lw_p11, List.forall_mem_cons.mpr ⟨lw_p12, List.forall_mem_cons.mpr ⟨lw_p13, List.forall_mem_cons.mpr ⟨lw_p14, List.forall_mem_cons.mpr ⟨lw_p15, fun _ h => absurd h List.not_mem_nil⟩⟩⟩⟩⟩⟩⟩⟩⟩⟩⟩⟩⟩⟩⟩⟩
theorem lw_p16 : lw_okq (⟨"CreaseLines$Reader", "takesName", "()Z"⟩, 15) := ⟨⟨by decide +kernel, by decide +kernel⟩, List.mem_of_getElem? (i := 126) (by decide +kernel), List.mem_of_getElem? (i := 661) (by decide +kernel), List.mem_of_getElem? (i := 662) (by decide +kernel)⟩
theorem lw_p17 : lw_okq (⟨"CreaseLines$Reader", "namesOfKey", "()Ljava/lang/String;"⟩, 15) := ⟨⟨by decide +kernel, by decide +kernel⟩, List.mem_of_getElem? (i := 126) (by decide +kernel), List.mem_of_getElem? (i := 665) (by decide +kernel), List.mem_of_getElem? (i := 666) (by decide +kernel)⟩
theorem lw_p18 : lw_okq (⟨"CreaseLines$Reader", "takesOpening", "()Z"⟩, 15) := ⟨⟨by decide +kernel, by decide +kernel⟩, List.mem_of_getElem? (i := 126) (by decide +kernel), List.mem_of_getElem? (i := 727) (by decide +kernel), List.mem_of_getElem? (i := 728) (by decide +kernel)⟩
theorem lw_p19 : lw_okq (⟨"CreaseLines$Reader", "putOnPile", "(I)V"⟩, 15) := ⟨⟨by decide +kernel, by decide +kernel⟩, List.mem_of_getElem? (i := 126) (by decide +kernel), List.mem_of_getElem? (i := 731) (by decide +kernel), List.mem_of_getElem? (i := 732) (by decide +kernel)⟩
theorem lw_p20 : lw_okq (⟨"CreaseLines$Reader", "takesSign", "()Z"⟩, 15) := ⟨⟨by decide +kernel, by decide +kernel⟩, List.mem_of_getElem? (i := 126) (by decide +kernel), List.mem_of_getElem? (i := 735) (by decide +kernel), List.mem_of_getElem? (i := 736) (by decide +kernel)⟩
theorem lw_p21 : lw_okq (⟨"CreaseLines$Reader", "takesClosing", "()Z"⟩, 15) := ⟨⟨by decide +kernel, by decide +kernel⟩, List.mem_of_getElem? (i := 126) (by decide +kernel), List.mem_of_getElem? (i := 739) (by decide +kernel), List.mem_of_getElem? (i := 740) (by decide +kernel)⟩
theorem lw_p22 : lw_okq (⟨"CreaseLines$Reader", "unpile", "(I)V"⟩, 15) := ⟨⟨by decide +kernel, by decide +kernel⟩, List.mem_of_getElem? (i := 126) (by decide +kernel), List.mem_of_getElem? (i := 743) (by decide +kernel), List.mem_of_getElem? (i := 744) (by decide +kernel)⟩
theorem lw_p23 : lw_okq (⟨"CreaseLinesModel", "comes", "(III)I"⟩, 33) := ⟨⟨by decide +kernel, by decide +kernel⟩, List.mem_of_getElem? (i := 880) (by decide +kernel), List.mem_of_getElem? (i := 996) (by decide +kernel), List.mem_of_getElem? (i := 997) (by decide +kernel)⟩
theorem lw_p24 : lw_okq (⟨"CreaseLinesModel", "put", "(III)V"⟩, 33) := ⟨⟨by decide +kernel, by decide +kernel⟩, List.mem_of_getElem? (i := 880) (by decide +kernel), List.mem_of_getElem? (i := 1000) (by decide +kernel), List.mem_of_getElem? (i := 1001) (by decide +kernel)⟩
theorem lw_p25 : lw_okq (⟨"CreaseLinesModel", "isLeg", "(I)Z"⟩, 33) := ⟨⟨by decide +kernel, by decide +kernel⟩, List.mem_of_getElem? (i := 880) (by decide +kernel), List.mem_of_getElem? (i := 1008) (by decide +kernel), List.mem_of_getElem? (i := 1009) (by decide +kernel)⟩
theorem lw_p26 : lw_okq (⟨"CreaseLinesModel", "takesBy", "(I)I"⟩, 33) := ⟨⟨by decide +kernel, by decide +kernel⟩, List.mem_of_getElem? (i := 880) (by decide +kernel), List.mem_of_getElem? (i := 1012) (by decide +kernel), List.mem_of_getElem? (i := 1013) (by decide +kernel)⟩
theorem lw_p27 : lw_okq (⟨"CreaseLinesModel", "plainPress", "(I)I"⟩, 33) := ⟨⟨by decide +kernel, by decide +kernel⟩, List.mem_of_getElem? (i := 880) (by decide +kernel), List.mem_of_getElem? (i := 1016) (by decide +kernel), List.mem_of_getElem? (i := 1017) (by decide +kernel)⟩
theorem lw_p28 : lw_okq (⟨"CreaseLinesModel", "counts", "(I)I"⟩, 33) := ⟨⟨by decide +kernel, by decide +kernel⟩, List.mem_of_getElem? (i := 880) (by decide +kernel), List.mem_of_getElem? (i := 1020) (by decide +kernel), List.mem_of_getElem? (i := 1021) (by decide +kernel)⟩
theorem lw_p29 : lw_okq (⟨"CreaseLinesModel", "of", "(II)I"⟩, 33) := ⟨⟨by decide +kernel, by decide +kernel⟩, List.mem_of_getElem? (i := 880) (by decide +kernel), List.mem_of_getElem? (i := 1024) (by decide +kernel), List.mem_of_getElem? (i := 1025) (by decide +kernel)⟩
theorem lw_p30 : lw_okq (⟨"CreaseLinesModel", "worksOut", "(I)I"⟩, 33) := ⟨⟨by decide +kernel, by decide +kernel⟩, List.mem_of_getElem? (i := 880) (by decide +kernel), List.mem_of_getElem? (i := 1028) (by decide +kernel), List.mem_of_getElem? (i := 1029) (by decide +kernel)⟩
theorem lw_p31 : lw_okq (⟨"CreaseLinesModel", "losesOf", "(I)I"⟩, 33) := ⟨⟨by decide +kernel, by decide +kernel⟩, List.mem_of_getElem? (i := 880) (by decide +kernel), List.mem_of_getElem? (i := 1038) (by decide +kernel), List.mem_of_getElem? (i := 1039) (by decide +kernel)⟩
def lw_privs_2 : List (MethodName × Nat) := [(⟨"CreaseLines$Reader", "takesName", "()Z"⟩, 15), (⟨"CreaseLines$Reader", "namesOfKey", "()Ljava/lang/String;"⟩, 15), (⟨"CreaseLines$Reader", "takesOpening", "()Z"⟩, 15), (⟨"CreaseLines$Reader", "putOnPile", "(I)V"⟩, 15), (⟨"CreaseLines$Reader", "takesSign", "()Z"⟩, 15), (⟨"CreaseLines$Reader", "takesClosing", "()Z"⟩, 15), (⟨"CreaseLines$Reader", "unpile", "(I)V"⟩, 15), (⟨"CreaseLinesModel", "comes", "(III)I"⟩, 33), (⟨"CreaseLinesModel", "put", "(III)V"⟩, 33), (⟨"CreaseLinesModel", "isLeg", "(I)Z"⟩, 33), (⟨"CreaseLinesModel", "takesBy", "(I)I"⟩, 33), (⟨"CreaseLinesModel", "plainPress", "(I)I"⟩, 33), (⟨"CreaseLinesModel", "counts", "(I)I"⟩, 33), (⟨"CreaseLinesModel", "of", "(II)I"⟩, 33), (⟨"CreaseLinesModel", "worksOut", "(I)I"⟩, 33), (⟨"CreaseLinesModel", "losesOf", "(I)I"⟩, 33)]
theorem lw_r2 : ∀ q ∈ lw_privs_2, lw_okq q := List.forall_mem_cons.mpr ⟨lw_p16, List.forall_mem_cons.mpr ⟨lw_p17, List.forall_mem_cons.mpr ⟨lw_p18, List.forall_mem_cons.mpr ⟨lw_p19, List.forall_mem_cons.mpr ⟨lw_p20, List.forall_mem_cons.mpr ⟨lw_p21, List.forall_mem_cons.mpr ⟨lw_p22, List.forall_mem_cons.mpr ⟨lw_p23, List.forall_mem_cons.mpr ⟨lw_p24, List.forall_mem_cons.mpr ⟨lw_p25, List.forall_mem_cons.mpr ⟨lw_p26, List.forall_mem_cons.mpr ⟨lw_p27, List.forall_mem_cons.mpr ⟨lw_p28, List.forall_mem_cons.mpr ⟨lw_p29, List.forall_mem_cons.mpr ⟨lw_p30, List.forall_mem_cons.mpr ⟨lw_p31, fun _ h => absurd h List.not_mem_nil⟩⟩⟩⟩⟩⟩⟩⟩⟩⟩⟩⟩⟩⟩⟩⟩
theorem lw_p32 : lw_okq (⟨"CreaseLinesModel", "bagsOf", "(I)I"⟩, 33) := ⟨⟨by decide +kernel, by decide +kernel⟩, List.mem_of_getElem? (i := 880) (by decide +kernel), List.mem_of_getElem? (i := 1042) (by decide +kernel), List.mem_of_getElem? (i := 1043) (by decide +kernel)⟩
theorem lw_p33 : lw_okq (⟨"CreaseLinesModel", "worthOf", "(I)I"⟩, 33) := ⟨⟨by decide +kernel, by decide +kernel⟩, List.mem_of_getElem? (i := 880) (by decide +kernel), List.mem_of_getElem? (i := 1046) (by decide +kernel), List.mem_of_getElem? (i := 1047) (by decide +kernel)⟩
theorem lw_p34 : lw_okq (⟨"CreaseLinesModel", "swaps", "(II)I"⟩, 33) := ⟨⟨by decide +kernel, by decide +kernel⟩, List.mem_of_getElem? (i := 880) (by decide +kernel), List.mem_of_getElem? (i := 1062) (by decide +kernel), List.mem_of_getElem? (i := 1063) (by decide +kernel)⟩
theorem lw_p35 : lw_okq (⟨"CreaseLinesModel", "presses", "(II)I"⟩, 33) := ⟨⟨by decide +kernel, by decide +kernel⟩, List.mem_of_getElem? (i := 880) (by decide +kernel), List.mem_of_getElem? (i := 1074) (by decide +kernel), List.mem_of_getElem? (i := 1075) (by decide +kernel)⟩
theorem lw_p36 : lw_okq (⟨"CreaseLinesModel", "draw", "()I"⟩, 33) := ⟨⟨by decide +kernel, by decide +kernel⟩, List.mem_of_getElem? (i := 880) (by decide +kernel), List.mem_of_getElem? (i := 1089) (by decide +kernel), List.mem_of_getElem? (i := 1090) (by decide +kernel)⟩
theorem lw_p37 : lw_okq (⟨"CreaseLinesModel", "goesOn", "(I)V"⟩, 33) := ⟨⟨by decide +kernel, by decide +kernel⟩, List.mem_of_getElem? (i := 880) (by decide +kernel), List.mem_of_getElem? (i := 1102) (by decide +kernel), List.mem_of_getElem? (i := 1103) (by decide +kernel)⟩
theorem lw_p38 : lw_okq (⟨"CreaseLinesModel", "day", "()V"⟩, 33) := ⟨⟨by decide +kernel, by decide +kernel⟩, List.mem_of_getElem? (i := 880) (by decide +kernel), List.mem_of_getElem? (i := 1106) (by decide +kernel), List.mem_of_getElem? (i := 1107) (by decide +kernel)⟩
theorem lw_p39 : lw_okq (⟨"CreaseLinesModel", "isWorn", "(I)V"⟩, 33) := ⟨⟨by decide +kernel, by decide +kernel⟩, List.mem_of_getElem? (i := 880) (by decide +kernel), List.mem_of_getElem? (i := 1110) (by decide +kernel), List.mem_of_getElem? (i := 1111) (by decide +kernel)⟩
theorem lw_p40 : lw_okq (⟨"CreaseLinesModel", "dullest", "()I"⟩, 33) := ⟨⟨by decide +kernel, by decide +kernel⟩, List.mem_of_getElem? (i := 880) (by decide +kernel), List.mem_of_getElem? (i := 1114) (by decide +kernel), List.mem_of_getElem? (i := 1115) (by decide +kernel)⟩
theorem lw_p41 : lw_okq (⟨"CreaseLinesModel", "allSharp", "()I"⟩, 33) := ⟨⟨by decide +kernel, by decide +kernel⟩, List.mem_of_getElem? (i := 880) (by decide +kernel), List.mem_of_getElem? (i := 1122) (by decide +kernel), List.mem_of_getElem? (i := 1123) (by decide +kernel)⟩
theorem lw_p42 : lw_okq (⟨"CreaseLinesModel", "doubled", "()I"⟩, 33) := ⟨⟨by decide +kernel, by decide +kernel⟩, List.mem_of_getElem? (i := 880) (by decide +kernel), List.mem_of_getElem? (i := 1126) (by decide +kernel), List.mem_of_getElem? (i := 1127) (by decide +kernel)⟩
theorem lw_p43 : lw_okq (⟨"CreaseLinesModel", "thinks", "()V"⟩, 33) := ⟨⟨by decide +kernel, by decide +kernel⟩, List.mem_of_getElem? (i := 880) (by decide +kernel), List.mem_of_getElem? (i := 1135) (by decide +kernel), List.mem_of_getElem? (i := 1136) (by decide +kernel)⟩
theorem lw_p44 : lw_okq (⟨"CreaseLinesModel", "putsBack", "()V"⟩, 33) := ⟨⟨by decide +kernel, by decide +kernel⟩, List.mem_of_getElem? (i := 880) (by decide +kernel), List.mem_of_getElem? (i := 1145) (by decide +kernel), List.mem_of_getElem? (i := 1146) (by decide +kernel)⟩
theorem lw_p45 : lw_okq (⟨"CreaseLinesModel", "isCaredFor", "(II)Z"⟩, 33) := ⟨⟨by decide +kernel, by decide +kernel⟩, List.mem_of_getElem? (i := 880) (by decide +kernel), List.mem_of_getElem? (i := 1161) (by decide +kernel), List.mem_of_getElem? (i := 1162) (by decide +kernel)⟩
theorem lw_p46 : lw_okq (⟨"CreaseLinesModel", "sharpOn", "(I)I"⟩, 33) := ⟨⟨by decide +kernel, by decide +kernel⟩, List.mem_of_getElem? (i := 880) (by decide +kernel), List.mem_of_getElem? (i := 1169) (by decide +kernel), List.mem_of_getElem? (i := 1170) (by decide +kernel)⟩
theorem lw_p47 : lw_okq (⟨"CreaseLinesModel", "go", "()V"⟩, 33) := ⟨⟨by decide +kernel, by decide +kernel⟩, List.mem_of_getElem? (i := 880) (by decide +kernel), List.mem_of_getElem? (i := 1209) (by decide +kernel), List.mem_of_getElem? (i := 1210) (by decide +kernel)⟩
def lw_privs_3 : List (MethodName × Nat) := [(⟨"CreaseLinesModel", "bagsOf", "(I)I"⟩, 33), (⟨"CreaseLinesModel", "worthOf", "(I)I"⟩, 33), (⟨"CreaseLinesModel", "swaps", "(II)I"⟩, 33), (⟨"CreaseLinesModel", "presses", "(II)I"⟩, 33), (⟨"CreaseLinesModel", "draw", "()I"⟩, 33), (⟨"CreaseLinesModel", "goesOn", "(I)V"⟩, 33), (⟨"CreaseLinesModel", "day", "()V"⟩, 33), (⟨"CreaseLinesModel", "isWorn", "(I)V"⟩, 33), (⟨"CreaseLinesModel", "dullest", "()I"⟩, 33), (⟨"CreaseLinesModel", "allSharp", "()I"⟩, 33), (⟨"CreaseLinesModel", "doubled", "()I"⟩, 33), (⟨"CreaseLinesModel", "thinks", "()V"⟩, 33), (⟨"CreaseLinesModel", "putsBack", "()V"⟩, 33), (⟨"CreaseLinesModel", "isCaredFor", "(II)Z"⟩, 33), (⟨"CreaseLinesModel", "sharpOn", "(I)I"⟩, 33), (⟨"CreaseLinesModel", "go", "()V"⟩, 33)]
theorem lw_r3 : ∀ q ∈ lw_privs_3, lw_okq q := List.forall_mem_cons.mpr ⟨lw_p32, List.forall_mem_cons.mpr ⟨lw_p33, List.forall_mem_cons.mpr ⟨lw_p34, List.forall_mem_cons.mpr ⟨lw_p35, List.forall_mem_cons.mpr ⟨lw_p36, List.forall_mem_cons.mpr ⟨lw_p37, List.forall_mem_cons.mpr ⟨lw_p38, List.forall_mem_cons.mpr ⟨lw_p39, List.forall_mem_cons.mpr ⟨lw_p40, List.forall_mem_cons.mpr ⟨lw_p41, List.forall_mem_cons.mpr ⟨lw_p42, List.forall_mem_cons.mpr ⟨lw_p43, List.forall_mem_cons.mpr ⟨lw_p44, List.forall_mem_cons.mpr ⟨lw_p45, List.forall_mem_cons.mpr ⟨lw_p46, List.forall_mem_cons.mpr ⟨lw_p47, fun _ h => absurd h List.not_mem_nil⟩⟩⟩⟩⟩⟩⟩⟩⟩⟩⟩⟩⟩⟩⟩⟩
theorem lw_p48 : lw_okq (⟨"CreaseLinesModel", "isLetter", "(I)Z"⟩, 33) := ⟨⟨by decide +kernel, by decide +kernel⟩, List.mem_of_getElem? (i := 880) (by decide +kernel), List.mem_of_getElem? (i := 1213) (by decide +kernel), List.mem_of_getElem? (i := 1214) (by decide +kernel)⟩
theorem lw_p49 : lw_okq (⟨"CreaseLinesModel", "isFigure", "(I)Z"⟩, 33) := ⟨⟨by decide +kernel, by decide +kernel⟩, List.mem_of_getElem? (i := 880) (by decide +kernel), List.mem_of_getElem? (i := 1217) (by decide +kernel), List.mem_of_getElem? (i := 1218) (by decide +kernel)⟩
theorem lw_p50 : lw_okq (⟨"CreaseLinesModel", "takesKey", "()Z"⟩, 33) := ⟨⟨by decide +kernel, by decide +kernel⟩, List.mem_of_getElem? (i := 880) (by decide +kernel), List.mem_of_getElem? (i := 1221) (by decide +kernel), List.mem_of_getElem? (i := 1222) (by decide +kernel)⟩
theorem lw_p51 : lw_okq (⟨"CreaseLinesModel", "takesE", "()Z"⟩, 33) := ⟨⟨by decide +kernel, by decide +kernel⟩, List.mem_of_getElem? (i := 880) (by decide +kernel), List.mem_of_getElem? (i := 1225) (by decide +kernel), List.mem_of_getElem? (i := 1226) (by decide +kernel)⟩
theorem lw_p52 : lw_okq (⟨"CreaseLinesModel", "takesPart", "()Z"⟩, 33) := ⟨⟨by decide +kernel, by decide +kernel⟩, List.mem_of_getElem? (i := 880) (by decide +kernel), List.mem_of_getElem? (i := 1229) (by decide +kernel), List.mem_of_getElem? (i := 1230) (by decide +kernel)⟩
theorem lw_p53 : lw_okq (⟨"CreaseLinesModel", "nameOf", "(I)I"⟩, 33) := ⟨⟨by decide +kernel, by decide +kernel⟩, List.mem_of_getElem? (i := 880) (by decide +kernel), List.mem_of_getElem? (i := 1233) (by decide +kernel), List.mem_of_getElem? (i := 1234) (by decide +kernel)⟩
theorem lw_p54 : lw_okq (⟨"CreaseLinesModel", "settle", "(I)V"⟩, 33) := ⟨⟨by decide +kernel, by decide +kernel⟩, List.mem_of_getElem? (i := 880) (by decide +kernel), List.mem_of_getElem? (i := 1237) (by decide +kernel), List.mem_of_getElem? (i := 1238) (by decide +kernel)⟩
theorem lw_p55 : lw_okq (⟨"CreaseLinesModel", "notsOpen", "()I"⟩, 33) := ⟨⟨by decide +kernel, by decide +kernel⟩, List.mem_of_getElem? (i := 880) (by decide +kernel), List.mem_of_getElem? (i := 1244) (by decide +kernel), List.mem_of_getElem? (i := 1245) (by decide +kernel)⟩
theorem lw_p56 : lw_okq (⟨"CreaseLinesModel", "signHere", "()I"⟩, 33) := ⟨⟨by decide +kernel, by decide +kernel⟩, List.mem_of_getElem? (i := 880) (by decide +kernel), List.mem_of_getElem? (i := 1248) (by decide +kernel), List.mem_of_getElem? (i := 1249) (by decide +kernel)⟩
def lw_privs_4 : List (MethodName × Nat) := [(⟨"CreaseLinesModel", "isLetter", "(I)Z"⟩, 33), (⟨"CreaseLinesModel", "isFigure", "(I)Z"⟩, 33), (⟨"CreaseLinesModel", "takesKey", "()Z"⟩, 33), (⟨"CreaseLinesModel", "takesE", "()Z"⟩, 33), (⟨"CreaseLinesModel", "takesPart", "()Z"⟩, 33), (⟨"CreaseLinesModel", "nameOf", "(I)I"⟩, 33), (⟨"CreaseLinesModel", "settle", "(I)V"⟩, 33), (⟨"CreaseLinesModel", "notsOpen", "()I"⟩, 33), (⟨"CreaseLinesModel", "signHere", "()I"⟩, 33)]
theorem lw_r4 : ∀ q ∈ lw_privs_4, lw_okq q := List.forall_mem_cons.mpr ⟨lw_p48, List.forall_mem_cons.mpr ⟨lw_p49, List.forall_mem_cons.mpr ⟨lw_p50, List.forall_mem_cons.mpr ⟨lw_p51, List.forall_mem_cons.mpr ⟨lw_p52, List.forall_mem_cons.mpr ⟨lw_p53, List.forall_mem_cons.mpr ⟨lw_p54, List.forall_mem_cons.mpr ⟨lw_p55, List.forall_mem_cons.mpr ⟨lw_p56, fun _ h => absurd h List.not_mem_nil⟩⟩⟩⟩⟩⟩⟩⟩⟩
def lw_privs : List (MethodName × Nat) := lw_privs_1 ++ (lw_privs_2 ++ (lw_privs_3 ++ (lw_privs_4)))
def lw_tbl : List Cond := k2_sels lw_privs ++ tables_1
theorem lw_privs_ok : ∀ q ∈ lw_privs, lw_okq q := by
  show ∀ q ∈ lw_privs_1 ++ (lw_privs_2 ++ (lw_privs_3 ++ (lw_privs_4))), lw_okq q
  exact List.forall_mem_append.mpr ⟨lw_r1, List.forall_mem_append.mpr ⟨lw_r2, List.forall_mem_append.mpr ⟨lw_r3, lw_r4⟩⟩⟩
end
section
def RX0 : String := "CreaseLines$Closet"
def TX0 : u_T := fun k => match k with
  | 0 => ("CreaseLines$Closet", "legs", "[LCreaseLines$Leg;", true)
  | 1 => ("CreaseLines$Closet", "size", "I", false)
  | 2 => ("CreaseLines$Closet", "rules", "[I", true)
  | 3 => ("CreaseLines$Closet", "texts", "[LCreaseLines$Text;", true)
  | 4 => ("CreaseLines$Closet", "textCount", "I", false)
  | 5 => ("CreaseLines$Closet", "counting", "[I", true)
  | 6 => ("CreaseLines$Closet", "pressed", "I", false)
  | 7 => ("CreaseLines$Closet", "twos", "I", false)
  | 8 => ("CreaseLines$Closet", "soaked", "I", false)
  | 9 => ("CreaseLines$Closet", "day", "I", false)
  | 10 => ("CreaseLines$Closet", "z", "I", false)
  | 11 => ("CreaseLines$Closet", "names", "[I", true)
  | _ => ("CreaseLines$Closet", "stack", "[I", true)
def tyX0 : Nat → FieldType := fun k => match k with
  | 0 => .array (.object "CreaseLines$Leg")
  | 1 => .int
  | 2 => .array .int
  | 3 => .array (.object "CreaseLines$Text")
  | 4 => .int
  | 5 => .array .int
  | 6 => .int
  | 7 => .int
  | 8 => .int
  | 9 => .int
  | 10 => .int
  | 11 => .array .int
  | _ => .array .int
abbrev wsX00 : List Cond := u_ws RX0 TX0 13
theorem nmX0 : ∀ a, a < 13 → ∀ b, b < 13 → a ≠ b → (TX0 a).2.1 ≠ (TX0 b).2.1 := by decide +kernel
theorem tyX0_ok : ∀ k, k < 13 → parseFieldDescriptor (TX0 k).2.2.1 = some (tyX0 k) := by decide +kernel
abbrev cX0_init : ByteArray := prog_2_method_1_code
def yX0_init : MethodName := ⟨RX0, "<init>", "()V"⟩
abbrev cX0_takeOver : ByteArray := prog_2_method_2_code
def yX0_takeOver : MethodName := ⟨RX0, "takeOver", "(LCreaseLines$Closet;)V"⟩
abbrev cX0_hasLeg : ByteArray := prog_2_method_3_code
def yX0_hasLeg : MethodName := ⟨RX0, "hasLeg", "(I)Z"⟩
abbrev cX0_addLeg : ByteArray := prog_2_method_4_code
def yX0_addLeg : MethodName := ⟨RX0, "addLeg", "(III)V"⟩
abbrev cX0_addText : ByteArray := prog_2_method_5_code
def yX0_addText : MethodName := ⟨RX0, "addText", "(LCreaseLines$Text;)V"⟩
abbrev cX0_draw : ByteArray := prog_2_method_6_code
def yX0_draw : MethodName := ⟨RX0, "draw", "()I"⟩
abbrev cX0_daysLeft : ByteArray := prog_2_method_7_code
def yX0_daysLeft : MethodName := ⟨RX0, "daysLeft", "(I)I"⟩
abbrev cX0_passDays : ByteArray := prog_2_method_8_code
def yX0_passDays : MethodName := ⟨RX0, "passDays", "(I)V"⟩
abbrev cX0_passDay : ByteArray := prog_2_method_9_code
def yX0_passDay : MethodName := ⟨RX0, "passDay", "()V"⟩
abbrev cX0_wear : ByteArray := prog_2_method_10_code
def yX0_wear : MethodName := ⟨RX0, "wear", "(I)V"⟩
abbrev cX0_soak : ByteArray := prog_2_method_11_code
def yX0_soak : MethodName := ⟨RX0, "soak", "(LCreaseLines$Leg;)V"⟩
abbrev cX0_press : ByteArray := prog_2_method_12_code
def yX0_press : MethodName := ⟨RX0, "press", "(LCreaseLines$Leg;I)Z"⟩
abbrev cX0_takenBy : ByteArray := prog_2_method_13_code
def yX0_takenBy : MethodName := ⟨RX0, "takenBy", "(LCreaseLines$Leg;)I"⟩
abbrev cX0_feeGiven : ByteArray := prog_2_method_14_code
def yX0_feeGiven : MethodName := ⟨RX0, "feeGiven", "()I"⟩
abbrev cX0_fineGiven : ByteArray := prog_2_method_15_code
def yX0_fineGiven : MethodName := ⟨RX0, "fineGiven", "(LCreaseLines$Leg;)I"⟩
abbrev cX0_lawOf : ByteArray := prog_2_method_16_code
def yX0_lawOf : MethodName := ⟨RX0, "lawOf", "(I)LCreaseLines$Text;"⟩
abbrev cX0_dullest : ByteArray := prog_2_method_17_code
def yX0_dullest : MethodName := ⟨RX0, "dullest", "()I"⟩
abbrev cX0_sharpOfAll : ByteArray := prog_2_method_18_code
def yX0_sharpOfAll : MethodName := ⟨RX0, "sharpOfAll", "()I"⟩
abbrev cX0_doubled : ByteArray := prog_2_method_19_code
def yX0_doubled : MethodName := ⟨RX0, "doubled", "()I"⟩
abbrev cX0_waxed : ByteArray := prog_2_method_20_code
def yX0_waxed : MethodName := ⟨RX0, "waxed", "()I"⟩
abbrev cX0_waxThese : ByteArray := prog_2_method_21_code
def yX0_waxThese : MethodName := ⟨RX0, "waxThese", "(I)V"⟩
abbrev cX0_hasDull : ByteArray := prog_2_method_22_code
def yX0_hasDull : MethodName := ⟨RX0, "hasDull", "()Z"⟩
def RX1 : String := "CreaseLines$Leg"
def TX1 : u_T := fun k => match k with
  | 0 => ("CreaseLines$Leg", "kind", "I", false)
  | 1 => ("CreaseLines$Leg", "place", "I", false)
  | 2 => ("CreaseLines$Leg", "sharp", "I", false)
  | 3 => ("CreaseLines$Leg", "tram", "I", false)
  | 4 => ("CreaseLines$Leg", "knee", "I", false)
  | _ => ("CreaseLines$Leg", "holds", "I", false)
def tyX1 : Nat → FieldType := fun k => match k with
  | 0 => .int
  | 1 => .int
  | 2 => .int
  | 3 => .int
  | 4 => .int
  | _ => .int
abbrev wsX10 : List Cond := u_ws RX1 TX1 6
theorem nmX1 : ∀ a, a < 6 → ∀ b, b < 6 → a ≠ b → (TX1 a).2.1 ≠ (TX1 b).2.1 := by decide +kernel
theorem tyX1_ok : ∀ k, k < 6 → parseFieldDescriptor (TX1 k).2.2.1 = some (tyX1 k) := by decide +kernel
abbrev cX1_init : ByteArray := prog_3_method_1_code
def yX1_init : MethodName := ⟨RX1, "<init>", "()V"⟩
abbrev cX1_begin : ByteArray := prog_3_method_2_code
def yX1_begin : MethodName := ⟨RX1, "begin", "(III)V"⟩
abbrev cX1_takeOver : ByteArray := prog_3_method_3_code
def yX1_takeOver : MethodName := ⟨RX1, "takeOver", "(LCreaseLines$Leg;)V"⟩
abbrev cX1_isOf : ByteArray := prog_3_method_4_code
def yX1_isOf : MethodName := ⟨RX1, "isOf", "(I)Z"⟩
abbrev cX1_takes : ByteArray := prog_3_method_5_code
def yX1_takes : MethodName := ⟨RX1, "takes", "(I)I"⟩
abbrev cX1_loses : ByteArray := prog_3_method_6_code
def yX1_loses : MethodName := ⟨RX1, "loses", "()I"⟩
abbrev cX1_bags : ByteArray := prog_3_method_7_code
def yX1_bags : MethodName := ⟨RX1, "bags", "()I"⟩
abbrev cX1_worth : ByteArray := prog_3_method_8_code
def yX1_worth : MethodName := ⟨RX1, "worth", "()I"⟩
def RX2 : String := "CreaseLines$Reader"
def TX2 : u_T := fun k => match k with
  | 0 => ("CreaseLines$Reader", "bytes", "[I", false)
  | 1 => ("CreaseLines$Reader", "length", "I", false)
  | 2 => ("CreaseLines$Reader", "sort", "I", false)
  | 3 => ("CreaseLines$Reader", "start", "I", false)
  | 4 => ("CreaseLines$Reader", "end", "I", false)
  | 5 => ("CreaseLines$Reader", "steps", "[I", true)
  | 6 => ("CreaseLines$Reader", "stepCount", "I", false)
  | 7 => ("CreaseLines$Reader", "pile", "[I", true)
  | 8 => ("CreaseLines$Reader", "pileHeight", "I", false)
  | 9 => ("CreaseLines$Reader", "compared", "[Z", true)
  | 10 => ("CreaseLines$Reader", "open", "I", false)
  | 11 => ("CreaseLines$Reader", "nots", "I", false)
  | 12 => ("CreaseLines$Reader", "wantsPiece", "Z", false)
  | 13 => ("CreaseLines$Reader", "key", "I", false)
  | _ => ("CreaseLines$Reader", "pieces", "I", false)
def tyX2 : Nat → FieldType := fun k => match k with
  | 0 => .array .int
  | 1 => .int
  | 2 => .int
  | 3 => .int
  | 4 => .int
  | 5 => .array .int
  | 6 => .int
  | 7 => .array .int
  | 8 => .int
  | 9 => .array .boolean
  | 10 => .int
  | 11 => .int
  | 12 => .boolean
  | 13 => .int
  | _ => .int
abbrev wsX20 : List Cond := u_ws RX2 TX2 15
theorem nmX2 : ∀ a, a < 15 → ∀ b, b < 15 → a ≠ b → (TX2 a).2.1 ≠ (TX2 b).2.1 := by decide +kernel
theorem tyX2_ok : ∀ k, k < 15 → parseFieldDescriptor (TX2 k).2.2.1 = some (tyX2 k) := by decide +kernel
abbrev cX2_init : ByteArray := prog_4_method_1_code
def yX2_init : MethodName := ⟨RX2, "<init>", "()V"⟩
abbrev cX2_faultOf : ByteArray := prog_4_method_2_code
def yX2_faultOf : MethodName := ⟨RX2, "faultOf", "([II)I"⟩
abbrev cX2_textRead : ByteArray := prog_4_method_3_code
def yX2_textRead : MethodName := ⟨RX2, "textRead", "()LCreaseLines$Text;"⟩
abbrev cX2_begin : ByteArray := prog_4_method_4_code
def yX2_begin : MethodName := ⟨RX2, "begin", "([II)V"⟩
abbrev cX2_isWhole : ByteArray := prog_4_method_5_code
def yX2_isWhole : MethodName := ⟨RX2, "isWhole", "()Z"⟩
abbrev cX2_nextWord : ByteArray := prog_4_method_6_code
def yX2_nextWord : MethodName := ⟨RX2, "nextWord", "()V"⟩
abbrev cX2_sortOf : ByteArray := prog_4_method_7_code
def yX2_sortOf : MethodName := ⟨RX2, "sortOf", "(I)I"⟩
abbrev cX2_keyOfWord : ByteArray := prog_4_method_8_code
def yX2_keyOfWord : MethodName := ⟨RX2, "keyOfWord", "()I"⟩
abbrev cX2_isWord : ByteArray := prog_4_method_9_code
def yX2_isWord : MethodName := ⟨RX2, "isWord", "(Ljava/lang/String;)Z"⟩
abbrev cX2_takesPiece : ByteArray := prog_4_method_10_code
def yX2_takesPiece : MethodName := ⟨RX2, "takesPiece", "()Z"⟩
abbrev cX2_takesNumber : ByteArray := prog_4_method_11_code
def yX2_takesNumber : MethodName := ⟨RX2, "takesNumber", "()Z"⟩
abbrev cX2_takesName : ByteArray := prog_4_method_12_code
def yX2_takesName : MethodName := ⟨RX2, "takesName", "()Z"⟩
abbrev cX2_namesOfKey : ByteArray := prog_4_method_13_code
def yX2_namesOfKey : MethodName := ⟨RX2, "namesOfKey", "()Ljava/lang/String;"⟩
abbrev cX2_takesOpening : ByteArray := prog_4_method_14_code
def yX2_takesOpening : MethodName := ⟨RX2, "takesOpening", "()Z"⟩
abbrev cX2_endLeaf : ByteArray := prog_4_method_15_code
def yX2_endLeaf : MethodName := ⟨RX2, "endLeaf", "(I)V"⟩
abbrev cX2_endPiece : ByteArray := prog_4_method_16_code
def yX2_endPiece : MethodName := ⟨RX2, "endPiece", "()V"⟩
abbrev cX2_takesSign : ByteArray := prog_4_method_17_code
def yX2_takesSign : MethodName := ⟨RX2, "takesSign", "()Z"⟩
abbrev cX2_takesClosing : ByteArray := prog_4_method_18_code
def yX2_takesClosing : MethodName := ⟨RX2, "takesClosing", "()Z"⟩
abbrev cX2_strengthOf : ByteArray := prog_4_method_19_code
def yX2_strengthOf : MethodName := ⟨RX2, "strengthOf", "(I)I"⟩
abbrev cX2_unpile : ByteArray := prog_4_method_20_code
def yX2_unpile : MethodName := ⟨RX2, "unpile", "(I)V"⟩
abbrev cX2_putOnPile : ByteArray := prog_4_method_21_code
def yX2_putOnPile : MethodName := ⟨RX2, "putOnPile", "(I)V"⟩
abbrev cX2_addStep : ByteArray := prog_4_method_22_code
def yX2_addStep : MethodName := ⟨RX2, "addStep", "(I)V"⟩
def RX3 : String := "CreaseLines$Sheet"
def TX3 : u_T := fun k => match k with
  | 0 => ("CreaseLines$Sheet", "sort", "I", false)
  | 1 => ("CreaseLines$Sheet", "size", "I", false)
  | _ => ("CreaseLines$Sheet", "places", "[I", true)
def tyX3 : Nat → FieldType := fun k => match k with
  | 0 => .int
  | 1 => .int
  | _ => .array .int
abbrev wsX30 : List Cond := u_ws RX3 TX3 3
theorem nmX3 : ∀ a, a < 3 → ∀ b, b < 3 → a ≠ b → (TX3 a).2.1 ≠ (TX3 b).2.1 := by decide +kernel
theorem tyX3_ok : ∀ k, k < 3 → parseFieldDescriptor (TX3 k).2.2.1 = some (tyX3 k) := by decide +kernel
abbrev cX3_init : ByteArray := prog_5_method_1_code
def yX3_init : MethodName := ⟨RX3, "<init>", "()V"⟩
abbrev cX3_begin : ByteArray := prog_5_method_2_code
def yX3_begin : MethodName := ⟨RX3, "begin", "(II)V"⟩
abbrev cX3_takeOver : ByteArray := prog_5_method_3_code
def yX3_takeOver : MethodName := ⟨RX3, "takeOver", "(LCreaseLines$Sheet;)V"⟩
abbrev cX3_isMissing : ByteArray := prog_5_method_4_code
def yX3_isMissing : MethodName := ⟨RX3, "isMissing", "()Z"⟩
abbrev cX3_hasPlace : ByteArray := prog_5_method_5_code
def yX3_hasPlace : MethodName := ⟨RX3, "hasPlace", "(I)Z"⟩
abbrev cX3_hasPlaces : ByteArray := prog_5_method_6_code
def yX3_hasPlaces : MethodName := ⟨RX3, "hasPlaces", "(II)Z"⟩
abbrev cX3_isNumber : ByteArray := prog_5_method_7_code
def yX3_isNumber : MethodName := ⟨RX3, "isNumber", "(I)Z"⟩
def RX4 : String := "CreaseLines$Slot"
def TX4 : u_T := fun k => match k with
  | 0 => ("CreaseLines$Slot", "thing", "I", false)
  | 1 => ("CreaseLines$Slot", "leg", "LCreaseLines$Leg;", true)
  | 2 => ("CreaseLines$Slot", "row", "LCreaseLines$Sheet;", true)
  | _ => ("CreaseLines$Slot", "number", "I", false)
def tyX4 : Nat → FieldType := fun k => match k with
  | 0 => .int
  | 1 => .object "CreaseLines$Leg"
  | 2 => .object "CreaseLines$Sheet"
  | _ => .int
abbrev wsX40 : List Cond := u_ws RX4 TX4 4
theorem nmX4 : ∀ a, a < 4 → ∀ b, b < 4 → a ≠ b → (TX4 a).2.1 ≠ (TX4 b).2.1 := by decide +kernel
theorem tyX4_ok : ∀ k, k < 4 → parseFieldDescriptor (TX4 k).2.2.1 = some (tyX4 k) := by decide +kernel
abbrev cX4_init : ByteArray := prog_6_method_1_code
def yX4_init : MethodName := ⟨RX4, "<init>", "()V"⟩
def RX5 : String := "CreaseLines$Text"
def TX5 : u_T := fun k => match k with
  | 0 => ("CreaseLines$Text", "key", "I", true)
  | 1 => ("CreaseLines$Text", "pieces", "I", true)
  | _ => ("CreaseLines$Text", "steps", "[I", true)
def tyX5 : Nat → FieldType := fun k => match k with
  | 0 => .int
  | 1 => .int
  | _ => .array .int
abbrev wsX50 : List Cond := u_ws RX5 TX5 3
theorem nmX5 : ∀ a, a < 3 → ∀ b, b < 3 → a ≠ b → (TX5 a).2.1 ≠ (TX5 b).2.1 := by decide +kernel
theorem tyX5_ok : ∀ k, k < 3 → parseFieldDescriptor (TX5 k).2.2.1 = some (tyX5 k) := by decide +kernel
abbrev cX5_init : ByteArray := prog_7_method_1_code
def yX5_init : MethodName := ⟨RX5, "<init>", "(II[I)V"⟩
abbrev cX5_value : ByteArray := prog_7_method_2_code
def yX5_value : MethodName := ⟨RX5, "value", "([I[I)I"⟩
abbrev cX5_joined : ByteArray := prog_7_method_3_code
def yX5_joined : MethodName := ⟨RX5, "joined", "(III)I"⟩
def RX6 : String := "CreaseLines"
def TX6 : u_T := fun k => match k with
  | 0 => ("CreaseLines", "now", "LCreaseLines$Closet;", true)
  | 1 => ("CreaseLines", "image", "LCreaseLines$Closet;", true)
  | 2 => ("CreaseLines", "thought", "LCreaseLines$Closet;", true)
  | 3 => ("CreaseLines", "imageKept", "Z", false)
  | 4 => ("CreaseLines", "differs", "[I", true)
  | 5 => ("CreaseLines", "tape", "[I", true)
  | 6 => ("CreaseLines", "tapeLength", "I", false)
  | 7 => ("CreaseLines", "reader", "LCreaseLines$Reader;", true)
  | 8 => ("CreaseLines", "sheets", "[LCreaseLines$Sheet;", true)
  | 9 => ("CreaseLines", "slots", "[LCreaseLines$Slot;", true)
  | 10 => ("CreaseLines", "waiting", "[I", true)
  | _ => ("CreaseLines", "waitingCount", "I", false)
def tyX6 : Nat → FieldType := fun k => match k with
  | 0 => .object "CreaseLines$Closet"
  | 1 => .object "CreaseLines$Closet"
  | 2 => .object "CreaseLines$Closet"
  | 3 => .boolean
  | 4 => .array .int
  | 5 => .array .int
  | 6 => .int
  | 7 => .object "CreaseLines$Reader"
  | 8 => .array (.object "CreaseLines$Sheet")
  | 9 => .array (.object "CreaseLines$Slot")
  | 10 => .array .int
  | _ => .int
abbrev wsX60 : List Cond := u_ws RX6 TX6 12
theorem nmX6 : ∀ a, a < 12 → ∀ b, b < 12 → a ≠ b → (TX6 a).2.1 ≠ (TX6 b).2.1 := by decide +kernel
theorem tyX6_ok : ∀ k, k < 12 → parseFieldDescriptor (TX6 k).2.2.1 = some (tyX6 k) := by decide +kernel
abbrev cX6_init : ByteArray := prog_1_method_1_code
def yX6_init : MethodName := ⟨RX6, "<init>", "()V"⟩
abbrev cX6_leg : ByteArray := prog_1_method_2_code
def yX6_leg : MethodName := ⟨RX6, "leg", "(III)I"⟩
abbrev cX6_told : ByteArray := prog_1_method_3_code
def yX6_told : MethodName := ⟨RX6, "told", "(II)I"⟩
abbrev cX6_as : ByteArray := prog_1_method_4_code
def yX6_as : MethodName := ⟨RX6, "as", "(II)I"⟩
abbrev cX6_turns : ByteArray := prog_1_method_5_code
def yX6_turns : MethodName := ⟨RX6, "turns", "(II)I"⟩
abbrev cX6_set : ByteArray := prog_1_method_6_code
def yX6_set : MethodName := ⟨RX6, "set", "(III)I"⟩
abbrev cX6_mostOf : ByteArray := prog_1_method_7_code
def yX6_mostOf : MethodName := ⟨RX6, "mostOf", "(I)I"⟩
abbrev cX6_irons : ByteArray := prog_1_method_8_code
def yX6_irons : MethodName := ⟨RX6, "irons", "(II)I"⟩
abbrev cX6_rule : ByteArray := prog_1_method_9_code
def yX6_rule : MethodName := ⟨RX6, "rule", "(II)I"⟩
abbrev cX6_deal : ByteArray := prog_1_method_10_code
def yX6_deal : MethodName := ⟨RX6, "deal", "(I)I"⟩
abbrev cX6_seed : ByteArray := prog_1_method_11_code
def yX6_seed : MethodName := ⟨RX6, "seed", "(I)I"⟩
abbrev cX6_days : ByteArray := prog_1_method_12_code
def yX6_days : MethodName := ⟨RX6, "days", "(I)I"⟩
abbrev cX6_closet : ByteArray := prog_1_method_13_code
def yX6_closet : MethodName := ⟨RX6, "closet", "(I)I"⟩
abbrev cX6_behind : ByteArray := prog_1_method_14_code
def yX6_behind : MethodName := ⟨RX6, "behind", "(II)I"⟩
abbrev cX6_dulls : ByteArray := prog_1_method_15_code
def yX6_dulls : MethodName := ⟨RX6, "dulls", "(II)I"⟩
abbrev cX6_doubles : ByteArray := prog_1_method_16_code
def yX6_doubles : MethodName := ⟨RX6, "doubles", "(I)I"⟩
abbrev cX6_wax : ByteArray := prog_1_method_17_code
def yX6_wax : MethodName := ⟨RX6, "wax", "(I)I"⟩
abbrev cX6_iron : ByteArray := prog_1_method_18_code
def yX6_iron : MethodName := ⟨RX6, "iron", "(II)I"⟩
abbrev cX6_first : ByteArray := prog_1_method_19_code
def yX6_first : MethodName := ⟨RX6, "first", "(II)I"⟩
abbrev cX6_becomes : ByteArray := prog_1_method_20_code
def yX6_becomes : MethodName := ⟨RX6, "becomes", "(III)I"⟩
abbrev cX6_like : ByteArray := prog_1_method_21_code
def yX6_like : MethodName := ⟨RX6, "like", "(II)I"⟩
abbrev cX6_sumDifferences : ByteArray := prog_1_method_22_code
def yX6_sumDifferences : MethodName := ⟨RX6, "sumDifferences", "(LCreaseLines$Sheet;)V"⟩
abbrev cX6_fee : ByteArray := prog_1_method_23_code
def yX6_fee : MethodName := ⟨RX6, "fee", "()I"⟩
abbrev cX6_fine : ByteArray := prog_1_method_24_code
def yX6_fine : MethodName := ⟨RX6, "fine", "(I)I"⟩
abbrev cX6_feed : ByteArray := prog_1_method_25_code
def yX6_feed : MethodName := ⟨RX6, "feed", "(III)I"⟩
abbrev cX6_feedFour : ByteArray := prog_1_method_26_code
def yX6_feedFour : MethodName := ⟨RX6, "feedFour", "(I)V"⟩
abbrev cX6_trim : ByteArray := prog_1_method_27_code
def yX6_trim : MethodName := ⟨RX6, "trim", "(I)I"⟩
abbrev cX6_text : ByteArray := prog_1_method_28_code
def yX6_text : MethodName := ⟨RX6, "text", "()I"⟩
abbrev cX6_textTold : ByteArray := prog_1_method_29_code
def yX6_textTold : MethodName := ⟨RX6, "textTold", "(II)I"⟩
abbrev cX6_why : ByteArray := prog_1_method_30_code
def yX6_why : MethodName := ⟨RX6, "why", "(I)I"⟩
abbrev cX6_sheet : ByteArray := prog_1_method_31_code
def yX6_sheet : MethodName := ⟨RX6, "sheet", "(III)I"⟩
abbrev cX6_mark : ByteArray := prog_1_method_32_code
def yX6_mark : MethodName := ⟨RX6, "mark", "(III)I"⟩
abbrev cX6_pour : ByteArray := prog_1_method_33_code
def yX6_pour : MethodName := ⟨RX6, "pour", "(I)I"⟩
abbrev cX6_reads : ByteArray := prog_1_method_34_code
def yX6_reads : MethodName := ⟨RX6, "reads", "(I)I"⟩
abbrev cX6_copy : ByteArray := prog_1_method_35_code
def yX6_copy : MethodName := ⟨RX6, "copy", "(IIIII)I"⟩
abbrev cX6_lay : ByteArray := prog_1_method_36_code
def yX6_lay : MethodName := ⟨RX6, "lay", "(III)I"⟩
abbrev cX6_ask : ByteArray := prog_1_method_37_code
def yX6_ask : MethodName := ⟨RX6, "ask", "(II)I"⟩
abbrev cX6_item : ByteArray := prog_1_method_38_code
def yX6_item : MethodName := ⟨RX6, "item", "(II)I"⟩
abbrev cX6_rest : ByteArray := prog_1_method_39_code
def yX6_rest : MethodName := ⟨RX6, "rest", "(II)I"⟩
abbrev cX6_tell : ByteArray := prog_1_method_40_code
def yX6_tell : MethodName := ⟨RX6, "tell", "(I)I"⟩
abbrev cX6_check : ByteArray := prog_1_method_41_code
def yX6_check : MethodName := ⟨RX6, "check", "(I)I"⟩
abbrev cX6_keep : ByteArray := prog_1_method_42_code
def yX6_keep : MethodName := ⟨RX6, "keep", "()I"⟩
abbrev cX6_back : ByteArray := prog_1_method_43_code
def yX6_back : MethodName := ⟨RX6, "back", "()I"⟩
abbrev cX6_count : ByteArray := prog_1_method_44_code
def yX6_count : MethodName := ⟨RX6, "count", "(I)I"⟩
abbrev cX6_beginThought : ByteArray := prog_1_method_45_code
def yX6_beginThought : MethodName := ⟨RX6, "beginThought", "()LCreaseLines$Closet;"⟩
abbrev cX6_isWithin : ByteArray := prog_1_method_46_code
def yX6_isWithin : MethodName := ⟨RX6, "isWithin", "(III)Z"⟩
abbrev cX6_isKind : ByteArray := prog_1_method_47_code
def yX6_isKind : MethodName := ⟨RX6, "isKind", "(I)Z"⟩
abbrev cX6_isSheet : ByteArray := prog_1_method_48_code
def yX6_isSheet : MethodName := ⟨RX6, "isSheet", "(I)Z"⟩
abbrev cX6_isSlot : ByteArray := prog_1_method_49_code
def yX6_isSlot : MethodName := ⟨RX6, "isSlot", "(I)Z"⟩
abbrev cX6_heldWithin : ByteArray := prog_1_method_50_code
def yX6_heldWithin : MethodName := ⟨RX6, "heldWithin", "(I)I"⟩
def RX7 : String := "CreaseLinesModel"
def TX7 : u_T := fun k => match k with
  | 0 => ("CreaseLinesModel", "now", "[I", true)
  | 1 => ("CreaseLinesModel", "image", "[I", true)
  | 2 => ("CreaseLinesModel", "aside", "[I", true)
  | 3 => ("CreaseLinesModel", "hasImage", "Z", false)
  | 4 => ("CreaseLinesModel", "unlike", "[I", true)
  | 5 => ("CreaseLinesModel", "tape", "[I", true)
  | 6 => ("CreaseLinesModel", "taped", "I", false)
  | 7 => ("CreaseLinesModel", "next", "I", false)
  | 8 => ("CreaseLinesModel", "from", "I", false)
  | 9 => ("CreaseLinesModel", "token", "I", false)
  | 10 => ("CreaseLinesModel", "value", "I", false)
  | 11 => ("CreaseLinesModel", "ended", "I", false)
  | 12 => ("CreaseLinesModel", "key", "I", false)
  | 13 => ("CreaseLinesModel", "keys", "[C", true)
  | 14 => ("CreaseLinesModel", "keyAt", "[I", true)
  | 15 => ("CreaseLinesModel", "code", "[I", true)
  | 16 => ("CreaseLinesModel", "codes", "I", false)
  | 17 => ("CreaseLinesModel", "atoms", "I", false)
  | 18 => ("CreaseLinesModel", "waits", "[I", true)
  | 19 => ("CreaseLinesModel", "held", "I", false)
  | 20 => ("CreaseLinesModel", "tested", "[Z", true)
  | 21 => ("CreaseLinesModel", "stack", "[I", true)
  | 22 => ("CreaseLinesModel", "facts", "[I", true)
  | 23 => ("CreaseLinesModel", "sorts", "[I", true)
  | 24 => ("CreaseLinesModel", "sizes", "[I", true)
  | 25 => ("CreaseLinesModel", "cells", "[I", true)
  | 26 => ("CreaseLinesModel", "holds", "[I", true)
  | 27 => ("CreaseLinesModel", "holdsA", "[I", true)
  | 28 => ("CreaseLinesModel", "holdsB", "[I", true)
  | 29 => ("CreaseLinesModel", "heldCells", "[I", true)
  | 30 => ("CreaseLinesModel", "moved", "[I", true)
  | 31 => ("CreaseLinesModel", "tells", "[I", true)
  | _ => ("CreaseLinesModel", "waiting", "I", false)
def tyX7 : Nat → FieldType := fun k => match k with
  | 0 => .array .int
  | 1 => .array .int
  | 2 => .array .int
  | 3 => .boolean
  | 4 => .array .int
  | 5 => .array .int
  | 6 => .int
  | 7 => .int
  | 8 => .int
  | 9 => .int
  | 10 => .int
  | 11 => .int
  | 12 => .int
  | 13 => .array .char
  | 14 => .array .int
  | 15 => .array .int
  | 16 => .int
  | 17 => .int
  | 18 => .array .int
  | 19 => .int
  | 20 => .array .boolean
  | 21 => .array .int
  | 22 => .array .int
  | 23 => .array .int
  | 24 => .array .int
  | 25 => .array .int
  | 26 => .array .int
  | 27 => .array .int
  | 28 => .array .int
  | 29 => .array .int
  | 30 => .array .int
  | 31 => .array .int
  | _ => .int
abbrev wsX70 : List Cond := u_ws RX7 TX7 33
theorem nmX7 : ∀ a, a < 33 → ∀ b, b < 33 → a ≠ b → (TX7 a).2.1 ≠ (TX7 b).2.1 := by decide +kernel
theorem tyX7_ok : ∀ k, k < 33 → parseFieldDescriptor (TX7 k).2.2.1 = some (tyX7 k) := by decide +kernel
abbrev cX7_init : ByteArray := prog_9_method_1_code
def yX7_init : MethodName := ⟨RX7, "<init>", "()V"⟩
abbrev cX7_in : ByteArray := prog_9_method_2_code
def yX7_in : MethodName := ⟨RX7, "in", "(III)Z"⟩
abbrev cX7_within : ByteArray := prog_9_method_3_code
def yX7_within : MethodName := ⟨RX7, "within", "(III)I"⟩
abbrev cX7_copyAll : ByteArray := prog_9_method_4_code
def yX7_copyAll : MethodName := ⟨RX7, "copyAll", "([I[I)V"⟩
abbrev cX7_bits : ByteArray := prog_9_method_5_code
def yX7_bits : MethodName := ⟨RX7, "bits", "(I)I"⟩
abbrev cX7_isLeg : ByteArray := prog_9_method_6_code
def yX7_isLeg : MethodName := ⟨RX7, "isLeg", "(I)Z"⟩
abbrev cX7_of : ByteArray := prog_9_method_7_code
def yX7_of : MethodName := ⟨RX7, "of", "(II)I"⟩
abbrev cX7_put : ByteArray := prog_9_method_8_code
def yX7_put : MethodName := ⟨RX7, "put", "(III)V"⟩
abbrev cX7_swaps : ByteArray := prog_9_method_9_code
def yX7_swaps : MethodName := ⟨RX7, "swaps", "(II)I"⟩
abbrev cX7_off : ByteArray := prog_9_method_10_code
def yX7_off : MethodName := ⟨RX7, "off", "(I)I"⟩
abbrev cX7_plainPress : ByteArray := prog_9_method_11_code
def yX7_plainPress : MethodName := ⟨RX7, "plainPress", "(I)I"⟩
abbrev cX7_takesBy : ByteArray := prog_9_method_12_code
def yX7_takesBy : MethodName := ⟨RX7, "takesBy", "(I)I"⟩
abbrev cX7_losesOf : ByteArray := prog_9_method_13_code
def yX7_losesOf : MethodName := ⟨RX7, "losesOf", "(I)I"⟩
abbrev cX7_bagsOf : ByteArray := prog_9_method_14_code
def yX7_bagsOf : MethodName := ⟨RX7, "bagsOf", "(I)I"⟩
abbrev cX7_worthOf : ByteArray := prog_9_method_15_code
def yX7_worthOf : MethodName := ⟨RX7, "worthOf", "(I)I"⟩
abbrev cX7_comes : ByteArray := prog_9_method_16_code
def yX7_comes : MethodName := ⟨RX7, "comes", "(III)I"⟩
abbrev cX7_leg : ByteArray := prog_9_method_17_code
def yX7_leg : MethodName := ⟨RX7, "leg", "(III)I"⟩
abbrev cX7_told : ByteArray := prog_9_method_18_code
def yX7_told : MethodName := ⟨RX7, "told", "(II)I"⟩
abbrev cX7_isUnder : ByteArray := prog_9_method_19_code
def yX7_isUnder : MethodName := ⟨RX7, "isUnder", "(II)Z"⟩
abbrev cX7_as : ByteArray := prog_9_method_20_code
def yX7_as : MethodName := ⟨RX7, "as", "(II)I"⟩
abbrev cX7_turns : ByteArray := prog_9_method_21_code
def yX7_turns : MethodName := ⟨RX7, "turns", "(II)I"⟩
abbrev cX7_set : ByteArray := prog_9_method_22_code
def yX7_set : MethodName := ⟨RX7, "set", "(III)I"⟩
abbrev cX7_presses : ByteArray := prog_9_method_23_code
def yX7_presses : MethodName := ⟨RX7, "presses", "(II)I"⟩
abbrev cX7_irons : ByteArray := prog_9_method_24_code
def yX7_irons : MethodName := ⟨RX7, "irons", "(II)I"⟩
abbrev cX7_rule : ByteArray := prog_9_method_25_code
def yX7_rule : MethodName := ⟨RX7, "rule", "(II)I"⟩
abbrev cX7_draw : ByteArray := prog_9_method_26_code
def yX7_draw : MethodName := ⟨RX7, "draw", "()I"⟩
abbrev cX7_deal : ByteArray := prog_9_method_27_code
def yX7_deal : MethodName := ⟨RX7, "deal", "(I)I"⟩
abbrev cX7_seed : ByteArray := prog_9_method_28_code
def yX7_seed : MethodName := ⟨RX7, "seed", "(I)I"⟩
abbrev cX7_dullest : ByteArray := prog_9_method_29_code
def yX7_dullest : MethodName := ⟨RX7, "dullest", "()I"⟩
abbrev cX7_isWorn : ByteArray := prog_9_method_30_code
def yX7_isWorn : MethodName := ⟨RX7, "isWorn", "(I)V"⟩
abbrev cX7_day : ByteArray := prog_9_method_31_code
def yX7_day : MethodName := ⟨RX7, "day", "()V"⟩
abbrev cX7_goesOn : ByteArray := prog_9_method_32_code
def yX7_goesOn : MethodName := ⟨RX7, "goesOn", "(I)V"⟩
abbrev cX7_days : ByteArray := prog_9_method_33_code
def yX7_days : MethodName := ⟨RX7, "days", "(I)I"⟩
abbrev cX7_allSharp : ByteArray := prog_9_method_34_code
def yX7_allSharp : MethodName := ⟨RX7, "allSharp", "()I"⟩
abbrev cX7_doubled : ByteArray := prog_9_method_35_code
def yX7_doubled : MethodName := ⟨RX7, "doubled", "()I"⟩
abbrev cX7_closet : ByteArray := prog_9_method_36_code
def yX7_closet : MethodName := ⟨RX7, "closet", "(I)I"⟩
abbrev cX7_thinks : ByteArray := prog_9_method_37_code
def yX7_thinks : MethodName := ⟨RX7, "thinks", "()V"⟩
abbrev cX7_putsBack : ByteArray := prog_9_method_38_code
def yX7_putsBack : MethodName := ⟨RX7, "putsBack", "()V"⟩
abbrev cX7_behind : ByteArray := prog_9_method_39_code
def yX7_behind : MethodName := ⟨RX7, "behind", "(II)I"⟩
abbrev cX7_dulls : ByteArray := prog_9_method_40_code
def yX7_dulls : MethodName := ⟨RX7, "dulls", "(II)I"⟩
abbrev cX7_doubles : ByteArray := prog_9_method_41_code
def yX7_doubles : MethodName := ⟨RX7, "doubles", "(I)I"⟩
abbrev cX7_isCaredFor : ByteArray := prog_9_method_42_code
def yX7_isCaredFor : MethodName := ⟨RX7, "isCaredFor", "(II)Z"⟩
abbrev cX7_wax : ByteArray := prog_9_method_43_code
def yX7_wax : MethodName := ⟨RX7, "wax", "(I)I"⟩
abbrev cX7_sharpOn : ByteArray := prog_9_method_44_code
def yX7_sharpOn : MethodName := ⟨RX7, "sharpOn", "(I)I"⟩
abbrev cX7_iron : ByteArray := prog_9_method_45_code
def yX7_iron : MethodName := ⟨RX7, "iron", "(II)I"⟩
abbrev cX7_first : ByteArray := prog_9_method_46_code
def yX7_first : MethodName := ⟨RX7, "first", "(II)I"⟩
abbrev cX7_becomes : ByteArray := prog_9_method_47_code
def yX7_becomes : MethodName := ⟨RX7, "becomes", "(III)I"⟩
abbrev cX7_like : ByteArray := prog_9_method_48_code
def yX7_like : MethodName := ⟨RX7, "like", "(II)I"⟩
abbrev cX7_fee : ByteArray := prog_9_method_49_code
def yX7_fee : MethodName := ⟨RX7, "fee", "()I"⟩
abbrev cX7_fine : ByteArray := prog_9_method_50_code
def yX7_fine : MethodName := ⟨RX7, "fine", "(I)I"⟩
abbrev cX7_feed : ByteArray := prog_9_method_51_code
def yX7_feed : MethodName := ⟨RX7, "feed", "(III)I"⟩
abbrev cX7_trim : ByteArray := prog_9_method_52_code
def yX7_trim : MethodName := ⟨RX7, "trim", "(I)I"⟩
abbrev cX7_isLetter : ByteArray := prog_9_method_53_code
def yX7_isLetter : MethodName := ⟨RX7, "isLetter", "(I)Z"⟩
abbrev cX7_isFigure : ByteArray := prog_9_method_54_code
def yX7_isFigure : MethodName := ⟨RX7, "isFigure", "(I)Z"⟩
abbrev cX7_go : ByteArray := prog_9_method_55_code
def yX7_go : MethodName := ⟨RX7, "go", "()V"⟩
abbrev cX7_takesKey : ByteArray := prog_9_method_56_code
def yX7_takesKey : MethodName := ⟨RX7, "takesKey", "()Z"⟩
abbrev cX7_nameOf : ByteArray := prog_9_method_57_code
def yX7_nameOf : MethodName := ⟨RX7, "nameOf", "(I)I"⟩
abbrev cX7_rank : ByteArray := prog_9_method_58_code
def yX7_rank : MethodName := ⟨RX7, "rank", "(I)I"⟩
abbrev cX7_settle : ByteArray := prog_9_method_59_code
def yX7_settle : MethodName := ⟨RX7, "settle", "(I)V"⟩
abbrev cX7_signHere : ByteArray := prog_9_method_60_code
def yX7_signHere : MethodName := ⟨RX7, "signHere", "()I"⟩
abbrev cX7_takesPart : ByteArray := prog_9_method_61_code
def yX7_takesPart : MethodName := ⟨RX7, "takesPart", "()Z"⟩
abbrev cX7_takesE : ByteArray := prog_9_method_62_code
def yX7_takesE : MethodName := ⟨RX7, "takesE", "()Z"⟩
abbrev cX7_notsOpen : ByteArray := prog_9_method_63_code
def yX7_notsOpen : MethodName := ⟨RX7, "notsOpen", "()I"⟩
abbrev cX7_text : ByteArray := prog_9_method_64_code
def yX7_text : MethodName := ⟨RX7, "text", "()I"⟩
abbrev cX7_textTold : ByteArray := prog_9_method_65_code
def yX7_textTold : MethodName := ⟨RX7, "textTold", "(II)I"⟩
abbrev cX7_counts : ByteArray := prog_9_method_66_code
def yX7_counts : MethodName := ⟨RX7, "counts", "(I)I"⟩
abbrev cX7_why : ByteArray := prog_9_method_67_code
def yX7_why : MethodName := ⟨RX7, "why", "(I)I"⟩
abbrev cX7_two : ByteArray := prog_9_method_68_code
def yX7_two : MethodName := ⟨RX7, "two", "(III)I"⟩
abbrev cX7_worksOut : ByteArray := prog_9_method_69_code
def yX7_worksOut : MethodName := ⟨RX7, "worksOut", "(I)I"⟩
abbrev cX7_isSheet : ByteArray := prog_9_method_70_code
def yX7_isSheet : MethodName := ⟨RX7, "isSheet", "(I)Z"⟩
abbrev cX7_isSlot : ByteArray := prog_9_method_71_code
def yX7_isSlot : MethodName := ⟨RX7, "isSlot", "(I)Z"⟩
abbrev cX7_sheet : ByteArray := prog_9_method_72_code
def yX7_sheet : MethodName := ⟨RX7, "sheet", "(III)I"⟩
abbrev cX7_mark : ByteArray := prog_9_method_73_code
def yX7_mark : MethodName := ⟨RX7, "mark", "(III)I"⟩
abbrev cX7_pour : ByteArray := prog_9_method_74_code
def yX7_pour : MethodName := ⟨RX7, "pour", "(I)I"⟩
abbrev cX7_reads : ByteArray := prog_9_method_75_code
def yX7_reads : MethodName := ⟨RX7, "reads", "(I)I"⟩
abbrev cX7_copy : ByteArray := prog_9_method_76_code
def yX7_copy : MethodName := ⟨RX7, "copy", "(IIIII)I"⟩
abbrev cX7_lay : ByteArray := prog_9_method_77_code
def yX7_lay : MethodName := ⟨RX7, "lay", "(III)I"⟩
abbrev cX7_ask : ByteArray := prog_9_method_78_code
def yX7_ask : MethodName := ⟨RX7, "ask", "(II)I"⟩
abbrev cX7_item : ByteArray := prog_9_method_79_code
def yX7_item : MethodName := ⟨RX7, "item", "(II)I"⟩
abbrev cX7_rest : ByteArray := prog_9_method_80_code
def yX7_rest : MethodName := ⟨RX7, "rest", "(II)I"⟩
abbrev cX7_tell : ByteArray := prog_9_method_81_code
def yX7_tell : MethodName := ⟨RX7, "tell", "(I)I"⟩
abbrev cX7_check : ByteArray := prog_9_method_82_code
def yX7_check : MethodName := ⟨RX7, "check", "(I)I"⟩
abbrev cX7_keep : ByteArray := prog_9_method_83_code
def yX7_keep : MethodName := ⟨RX7, "keep", "()I"⟩
abbrev cX7_back : ByteArray := prog_9_method_84_code
def yX7_back : MethodName := ⟨RX7, "back", "()I"⟩
abbrev cX7_count : ByteArray := prog_9_method_85_code
def yX7_count : MethodName := ⟨RX7, "count", "(I)I"⟩
def RJ11 : String := "java/lang/Character"
def TJ11 : u_T := fun k => match k with
  | _ => ("", "", "", false)
def tyJ11 : Nat → FieldType := fun k => match k with
  | _ => .int
abbrev wsJ110 : List Cond := u_ws RJ11 TJ11 0
theorem nmJ11 : ∀ a, a < 0 → ∀ b, b < 0 → a ≠ b → (TJ11 a).2.1 ≠ (TJ11 b).2.1 := by decide +kernel
theorem tyJ11_ok : ∀ k, k < 0 → parseFieldDescriptor (TJ11 k).2.2.1 = some (tyJ11 k) := by decide +kernel
abbrev cJ11_isValidCodePoint_9a6ad : ByteArray := prog_10_method_11_code
def yJ11_isValidCodePoint_9a6ad : MethodName := ⟨RJ11, "isValidCodePoint", "(I)Z"⟩
abbrev cJ11_highSurrogate_5068e : ByteArray := prog_10_method_28_code
def yJ11_highSurrogate_5068e : MethodName := ⟨RJ11, "highSurrogate", "(I)C"⟩
abbrev cJ11_lowSurrogate_5068e : ByteArray := prog_10_method_29_code
def yJ11_lowSurrogate_5068e : MethodName := ⟨RJ11, "lowSurrogate", "(I)C"⟩
def RJ6 : String := "java/lang/Integer"
def TJ6 : u_T := fun k => match k with
  | _ => ("", "", "", false)
def tyJ6 : Nat → FieldType := fun k => match k with
  | _ => .int
abbrev wsJ60 : List Cond := u_ws RJ6 TJ6 0
theorem nmJ6 : ∀ a, a < 0 → ∀ b, b < 0 → a ≠ b → (TJ6 a).2.1 ≠ (TJ6 b).2.1 := by decide +kernel
theorem tyJ6_ok : ∀ k, k < 0 → parseFieldDescriptor (TJ6 k).2.2.1 = some (tyJ6 k) := by decide +kernel
abbrev cJ6_bitCount_0f7a4 : ByteArray := prog_12_method_49_code
def yJ6_bitCount_0f7a4 : MethodName := ⟨RJ6, "bitCount", "(I)I"⟩
def RJ9 : String := "java/lang/Math"
def TJ9 : u_T := fun k => match k with
  | _ => ("", "", "", false)
def tyJ9 : Nat → FieldType := fun k => match k with
  | _ => .int
abbrev wsJ90 : List Cond := u_ws RJ9 TJ9 0
theorem nmJ9 : ∀ a, a < 0 → ∀ b, b < 0 → a ≠ b → (TJ9 a).2.1 ≠ (TJ9 b).2.1 := by decide +kernel
theorem tyJ9_ok : ∀ k, k < 0 → parseFieldDescriptor (TJ9 k).2.2.1 = some (tyJ9 k) := by decide +kernel
abbrev cJ9_floorMod_7cf53 : ByteArray := prog_13_method_50_code
def yJ9_floorMod_7cf53 : MethodName := ⟨RJ9, "floorMod", "(II)I"⟩
abbrev cJ9_abs_0f7a4 : ByteArray := prog_13_method_59_code
def yJ9_abs_0f7a4 : MethodName := ⟨RJ9, "abs", "(I)I"⟩
abbrev cJ9_max_7cf53 : ByteArray := prog_13_method_65_code
def yJ9_max_7cf53 : MethodName := ⟨RJ9, "max", "(II)I"⟩
abbrev cJ9_min_7cf53 : ByteArray := prog_13_method_69_code
def yJ9_min_7cf53 : MethodName := ⟨RJ9, "min", "(II)I"⟩
def RJ0 : String := "java/lang/String"
def TJ0 : u_T := fun k => match k with
  | _ => ("", "", "", false)
def tyJ0 : Nat → FieldType := fun k => match k with
  | _ => .int
abbrev wsJ00 : List Cond := u_ws RJ0 TJ0 0
theorem nmJ0 : ∀ a, a < 0 → ∀ b, b < 0 → a ≠ b → (TJ0 a).2.1 ≠ (TJ0 b).2.1 := by decide +kernel
theorem tyJ0_ok : ∀ k, k < 0 → parseFieldDescriptor (TJ0 k).2.2.1 = some (tyJ0 k) := by decide +kernel
abbrev cJ0_length_8abf5 : ByteArray := prog_14_method_54_code
def yJ0_length_8abf5 : MethodName := ⟨RJ0, "length", "()I"⟩
abbrev cJ0_charAt_5068e : ByteArray := prog_14_method_56_code
def yJ0_charAt_5068e : MethodName := ⟨RJ0, "charAt", "(I)C"⟩
abbrev cJ0_indexOf_0f7a4 : ByteArray := prog_14_method_79_code
def yJ0_indexOf_0f7a4 : MethodName := ⟨RJ0, "indexOf", "(I)I"⟩
abbrev cJ0_indexOf_7cf53 : ByteArray := prog_14_method_80_code
def yJ0_indexOf_7cf53 : MethodName := ⟨RJ0, "indexOf", "(II)I"⟩
abbrev cJ0_coder_7d493 : ByteArray := prog_14_method_152_code
def yJ0_coder_7d493 : MethodName := ⟨RJ0, "coder", "()B"⟩
abbrev cJ0_isLatin1_aae02 : ByteArray := prog_14_method_154_code
def yJ0_isLatin1_aae02 : MethodName := ⟨RJ0, "isLatin1", "()Z"⟩
abbrev cJ0_checkIndex_df160 : ByteArray := prog_14_method_155_code
def yJ0_checkIndex_df160 : MethodName := ⟨RJ0, "checkIndex", "(II)V"⟩
abbrev cJ0_checkBoundsBeginEnd_23922 : ByteArray := prog_14_method_158_code
def yJ0_checkBoundsBeginEnd_23922 : MethodName := ⟨RJ0, "checkBoundsBeginEnd", "(III)V"⟩
def RJ1 : String := "java/lang/StringLatin1"
def TJ1 : u_T := fun k => match k with
  | _ => ("", "", "", false)
def tyJ1 : Nat → FieldType := fun k => match k with
  | _ => .int
abbrev wsJ10 : List Cond := u_ws RJ1 TJ1 0
theorem nmJ1 : ∀ a, a < 0 → ∀ b, b < 0 → a ≠ b → (TJ1 a).2.1 ≠ (TJ1 b).2.1 := by decide +kernel
theorem tyJ1_ok : ∀ k, k < 0 → parseFieldDescriptor (TJ1 k).2.2.1 = some (tyJ1 k) := by decide +kernel
abbrev cJ1_charAt_3b067 : ByteArray := prog_15_method_2_code
def yJ1_charAt_3b067 : MethodName := ⟨RJ1, "charAt", "([BI)C"⟩
abbrev cJ1_canEncode_9a6ad : ByteArray := prog_15_method_4_code
def yJ1_canEncode_9a6ad : MethodName := ⟨RJ1, "canEncode", "(I)Z"⟩
abbrev cJ1_indexOf_4cfef : ByteArray := prog_15_method_22_code
def yJ1_indexOf_4cfef : MethodName := ⟨RJ1, "indexOf", "([BIII)I"⟩
abbrev cJ1_indexOfChar_4cfef : ByteArray := prog_15_method_23_code
def yJ1_indexOfChar_4cfef : MethodName := ⟨RJ1, "indexOfChar", "([BIII)I"⟩
def RJ2 : String := "java/lang/StringUTF16"
def TJ2 : u_T := fun k => match k with
  | _ => ("", "", "", false)
def tyJ2 : Nat → FieldType := fun k => match k with
  | _ => .int
abbrev wsJ20 : List Cond := u_ws RJ2 TJ2 0
theorem nmJ2 : ∀ a, a < 0 → ∀ b, b < 0 → a ≠ b → (TJ2 a).2.1 ≠ (TJ2 b).2.1 := by decide +kernel
theorem tyJ2_ok : ∀ k, k < 0 → parseFieldDescriptor (TJ2 k).2.2.1 = some (tyJ2 k) := by decide +kernel
abbrev cJ2_getChar_3b067 : ByteArray := prog_16_method_5_code
def yJ2_getChar_3b067 : MethodName := ⟨RJ2, "getChar", "([BI)C"⟩
abbrev cJ2_length_9d52b : ByteArray := prog_16_method_6_code
def yJ2_length_9d52b : MethodName := ⟨RJ2, "length", "([B)I"⟩
abbrev cJ2_indexOf_4cfef : ByteArray := prog_16_method_40_code
def yJ2_indexOf_4cfef : MethodName := ⟨RJ2, "indexOf", "([BIII)I"⟩
abbrev cJ2_indexOfChar_4cfef : ByteArray := prog_16_method_47_code
def yJ2_indexOfChar_4cfef : MethodName := ⟨RJ2, "indexOfChar", "([BIII)I"⟩
abbrev cJ2_indexOfCharUnsafe_4cfef : ByteArray := prog_16_method_48_code
def yJ2_indexOfCharUnsafe_4cfef : MethodName := ⟨RJ2, "indexOfCharUnsafe", "([BIII)I"⟩
abbrev cJ2_indexOfSupplementary_4cfef : ByteArray := prog_16_method_49_code
def yJ2_indexOfSupplementary_4cfef : MethodName := ⟨RJ2, "indexOfSupplementary", "([BIII)I"⟩
abbrev cJ2_charAt_3b067 : ByteArray := prog_16_method_83_code
def yJ2_charAt_3b067 : MethodName := ⟨RJ2, "charAt", "([BI)C"⟩
abbrev cJ2_checkIndex_2214a : ByteArray := prog_16_method_91_code
def yJ2_checkIndex_2214a : MethodName := ⟨RJ2, "checkIndex", "(I[B)V"⟩
abbrev cJ2_checkBoundsBeginEnd_d044e : ByteArray := prog_16_method_93_code
def yJ2_checkBoundsBeginEnd_d044e : MethodName := ⟨RJ2, "checkBoundsBeginEnd", "(II[B)V"⟩
def RJ10 : String := "java/lang/System"
def TJ10 : u_T := fun k => match k with
  | _ => ("", "", "", false)
def tyJ10 : Nat → FieldType := fun k => match k with
  | _ => .int
abbrev wsJ100 : List Cond := u_ws RJ10 TJ10 0
theorem nmJ10 : ∀ a, a < 0 → ∀ b, b < 0 → a ≠ b → (TJ10 a).2.1 ≠ (TJ10 b).2.1 := by decide +kernel
theorem tyJ10_ok : ∀ k, k < 0 → parseFieldDescriptor (TJ10 k).2.2.1 = some (tyJ10 k) := by decide +kernel
def RJ7 : String := "java/util/Arrays"
def TJ7 : u_T := fun k => match k with
  | _ => ("", "", "", false)
def tyJ7 : Nat → FieldType := fun k => match k with
  | _ => .int
abbrev wsJ70 : List Cond := u_ws RJ7 TJ7 0
theorem nmJ7 : ∀ a, a < 0 → ∀ b, b < 0 → a ≠ b → (TJ7 a).2.1 ≠ (TJ7 b).2.1 := by decide +kernel
theorem tyJ7_ok : ∀ k, k < 0 → parseFieldDescriptor (TJ7 k).2.2.1 = some (tyJ7 k) := by decide +kernel
abbrev cJ7_fill_53178 : ByteArray := prog_18_method_103_code
def yJ7_fill_53178 : MethodName := ⟨RJ7, "fill", "([II)V"⟩
abbrev cJ7_copyOf_59c91 : ByteArray := prog_18_method_123_code
def yJ7_copyOf_59c91 : MethodName := ⟨RJ7, "copyOf", "([II)[I"⟩
def RJ3 : String := "jdk/internal/util/Preconditions"
def TJ3 : u_T := fun k => match k with
  | _ => ("", "", "", false)
def tyJ3 : Nat → FieldType := fun k => match k with
  | _ => .int
abbrev wsJ30 : List Cond := u_ws RJ3 TJ3 0
theorem nmJ3 : ∀ a, a < 0 → ∀ b, b < 0 → a ≠ b → (TJ3 a).2.1 ≠ (TJ3 b).2.1 := by decide +kernel
theorem tyJ3_ok : ∀ k, k < 0 → parseFieldDescriptor (TJ3 k).2.2.1 = some (tyJ3 k) := by decide +kernel
abbrev cJ3_checkIndex_8e157 : ByteArray := prog_19_method_11_code
def yJ3_checkIndex_8e157 : MethodName := ⟨RJ3, "checkIndex", "(IILjava/util/function/BiFunction;)I"⟩
abbrev cJ3_checkFromToIndex_8c36e : ByteArray := prog_19_method_12_code
def yJ3_checkFromToIndex_8c36e : MethodName := ⟨RJ3, "checkFromToIndex", "(IIILjava/util/function/BiFunction;)I"⟩
def RL : String := "CreaseLinesLaw"
abbrev cL_law : ByteArray := code
def yL_law : MethodName := ⟨RL, "law", "([I)Z"⟩
abbrev vwCl : List vw_C := [(RX0, TX0, 13), (RX1, TX1, 6), (RX2, TX2, 15), (RX3, TX3, 3), (RX4, TX4, 4), (RX5, TX5, 3), (RX6, TX6, 12), (RX7, TX7, 33)]
end
section
/-! ===== A SMALL MACHINE over a pure heap: cells by their numbers; what it runs is tied to the JVM in part 05 ===== -/
abbrev mx_H : Type := List va_E
abbrev mx_R : Type := Option (Option Value × mx_H)
abbrev mx_L : Type := List (Nat × Value)
/-- pc, instruction, whether a walk is cut there, the locals that live there, a, b, w, u, a constant, a switch's arms -/
abbrev mx_I : Type := Nat × Instr × Bool × List Nat × Nat × Nat × Nat × Nat × Int32 × List (Int32 × Nat)
/-- name, bytes, places for locals, what it returns, its instructions -/
abbrev mx_M : Type := MethodName × ByteArray × Nat × Option FieldType × List mx_I
def mx_rm (x y : Int32) : Int32 := x - x / y * y
def mx_us (x y : Int32) : Int32 := (x.toUInt32 >>> (y.toUInt32 &&& Int32.toUInt32 31)).toInt32
def mx_ld (ls : mx_L) (i : Nat) : Option Value := match ls.find? (fun q => Nat.beq q.1 i) with
  | some q => some q.2
  | none => none
def mx_st (ls : mx_L) (i : Nat) (v : Value) : mx_L := (i, v) :: ls.filter (fun q => !(q.1 == i) && !(q.1 + 1 == i && q.2.category == 2))
def mx_li (ls : mx_L) (i : Nat) (f : Int32 → mx_R) : mx_R := match mx_ld ls i with
  | some (.int x) => f x
  | _ => none
def mx_la (ls : mx_L) (i : Nat) (f : Value → mx_R) : mx_R := match mx_ld ls i with
  | some (.ref x) => f (.ref x)
  | some .null => f .null
  | some (.retAddr x) => f (.retAddr x)
  | _ => none
def mx_s1 (st : List Value) (f : Int32 → List Value → mx_R) : mx_R := match st with
  | .int x :: r => f x r
  | _ => none
def mx_s2 (st : List Value) (f : Int32 → Int32 → List Value → mx_R) : mx_R := match st with
  | .int y :: .int x :: r => f x y r
  | _ => none
def mx_sa (st : List Value) (f : Value → List Value → mx_R) : mx_R := match st with
  | .ref x :: r => f (.ref x) r
  | .null :: r => f .null r
  | .retAddr x :: r => f (.retAddr x) r
  | _ => none
def mx_sr (st : List Value) (f : Nat → List Value → mx_R) : mx_R := match st with
  | .ref x :: r => f x r
  | _ => none
def mx_sn (st : List Value) (f0 : List Value → mx_R) (f1 : List Value → mx_R) : mx_R := match st with
  | .null :: r => f0 r
  | .ref _ :: r => f1 r
  | _ => none
def mx_d1 (st : List Value) (f : Value → List Value → mx_R) : mx_R := match st with
  | .int x :: r => f (.int x) r
  | .ref x :: r => f (.ref x) r
  | _ => none
def mx_d2 (st : List Value) (f : Value → Value → List Value → mx_R) : mx_R := match st with
  | .int x :: .ref y :: r => f (.int x) (.ref y) r
  | .int x :: .int y :: r => f (.int x) (.int y) r
  | _ => none
def mx_ir (st : List Value) (f : Int32 → Nat → List Value → mx_R) : mx_R := match st with
  | .int x :: .ref y :: r => f x y r
  | _ => none
def mx_rr (st : List Value) (f : Nat → Nat → List Value → mx_R) : mx_R := match st with
  | .ref x :: .ref y :: r => f x y r
  | _ => none
def mx_iir (st : List Value) (f : Int32 → Int32 → Nat → List Value → mx_R) : mx_R := match st with
  | .int x :: .int i :: .ref y :: r => f x i y r
  | _ => none
def mx_rir (st : List Value) (f : Nat → Int32 → Nat → List Value → mx_R) : mx_R := match st with
  | .ref x :: .int i :: .ref y :: r => f x i y r
  | _ => none
def mx_cps (st : List Value) (f : Int32 → Int32 → Nat → Int32 → Nat → List Value → mx_R) : mx_R := match st with
  | .int n :: .int dp :: .ref d :: .int sp :: .ref s :: r => f n dp d sp s r
  | _ => none
/-! the heap -/
def mx_gi (h : mx_H) (r ci k : Nat) (f : Int32 → mx_R) : mx_R := match h[r]? with
  | some (.inr (c, fs)) => if c = ci then (match fs[k]? with | some (.int x) => f x | _ => none) else none
  | _ => none
def mx_gr (h : mx_H) (r ci k : Nat) (f : Nat → mx_R) : mx_R := match h[r]? with
  | some (.inr (c, fs)) => if c = ci then (match fs[k]? with | some (.ref x) => f x | _ => none) else none
  | _ => none
def mx_pt (h : mx_H) (r ci k : Nat) (v : Value) (f : mx_H → mx_R) : mx_R := match h[r]? with
  | some (.inr (c, fs)) => if c = ci ∧ k < fs.length then f (h.set r (.inr (c, fs.set k v))) else none
  | _ => none
def mx_pz (h : mx_H) (r ci k : Nat) (v : Int32) (f : mx_H → mx_R) : mx_R := if v = 0 ∨ v = 1 then mx_pt h r ci k (.int v) f else none
def mx_ai (h : mx_H) (r t : Nat) (i : Int32) (f : Int32 → mx_R) : mx_R := match h[r]? with
  | some (.inl (c, n, .inl g)) => if c = t ∧ ¬ (i < 0 ∨ n ≤ i.toNatClampNeg) then f (g i.toNatClampNeg) else none
  | _ => none
def mx_as (h : mx_H) (r t : Nat) (i x : Int32) (f : mx_H → mx_R) : mx_R := match h[r]? with
  | some (.inl (c, n, .inl g)) => if c = t ∧ ¬ (i < 0 ∨ n ≤ i.toNatClampNeg) then f (h.set r (.inl (c, n, .inl (upd g i.toNatClampNeg x)))) else none
  | _ => none
def mx_aa (h : mx_H) (r : Nat) (i : Int32) (f : Nat → mx_R) : mx_R := match h[r]? with
  | some (.inl (c, n, .inr (.inr (.inr (.inr g))))) => if (3 ≤ c ∧ c ≤ 6) ∧ ¬ (i < 0 ∨ n ≤ i.toNatClampNeg) then (match g i.toNatClampNeg with | some a => f a | none => none) else none
  | _ => none
/-- the class of which the rows of a kind are made -/
def mx_kc : Nat → Nat
  | 3 => 1
  | 4 => 3
  | 5 => 4
  | _ => 5
def mx_at (h : mx_H) (r : Nat) (i : Int32) (v : Nat) (f : mx_H → mx_R) : mx_R := match h[r]?, h[v]? with
  | some (.inl (c, n, .inr (.inr (.inr (.inr g))))), some (.inr (c2, _)) => if (3 ≤ c ∧ c ≤ 6) ∧ c2 = mx_kc c ∧ ¬ (i < 0 ∨ n ≤ i.toNatClampNeg) then f (h.set r (.inl (c, n, .inr (.inr (.inr (.inr (va_up g i.toNatClampNeg (some v)))))))) else none
  | _, _ => none
def mx_al (h : mx_H) (r : Nat) (f : Int32 → mx_R) : mx_R := match h[r]? with
  | some (.inl (c, n, _)) => if c < 7 then f (Int32.ofNat n) else none
  | _ => none
def mx_nw (h : mx_H) (ci : Nat) (fs : List Value) (f : Nat → mx_H → mx_R) : mx_R := f h.length (h ++ [.inr (ci, fs)])
def mx_na (h : mx_H) (t : Nat) (n : Int32) (f : Nat → mx_H → mx_R) : mx_R := if ¬ n < 0 ∧ n.toNatClampNeg ≤ 4096 then f h.length (h ++ [.inl (t, n.toNatClampNeg, .inl (fun _ => 0))]) else none
def mx_nq (h : mx_H) (t : Nat) (n : Int32) (f : Nat → mx_H → mx_R) : mx_R := if ¬ n < 0 ∧ n.toNatClampNeg ≤ 4096 then f h.length (h ++ [.inl (t, n.toNatClampNeg, .inr (.inr (.inr (.inr (fun _ => none)))))]) else none
def mx_cp (h : mx_H) (s : Nat) (sp : Int32) (d : Nat) (dp n : Int32) (f : mx_H → mx_R) : mx_R := match h[s]?, h[d]? with
  | some (.inl (c0, n0, .inl f0)), some (.inl (c1, n1, .inl f1)) => if c0 = 0 ∧ c1 = 0 ∧ ¬ sp < 0 ∧ ¬ dp < 0 ∧ ¬ n < 0 ∧ sp.toNatClampNeg + n.toNatClampNeg ≤ n0 ∧ dp.toNatClampNeg + n.toNatClampNeg ≤ n1 then f (h.set d (.inl (c1, n1, .inl (va_cpy f0 f1 sp.toNatClampNeg dp.toNatClampNeg n.toNatClampNeg)))) else none
  | _, _ => none
/-! what is older than the law's call: .retAddr i is constant text i, .retAddr (100 + i) its bytes; 200, 201 the constant rows, 202 the script -/
def mx_kt (xs : List Int32) : Nat → Option (Nat × List Int32)
  | 100 => some (7, [112, 114, 101, 115, 115])
  | 101 => some (7, [102, 101, 101])
  | 102 => some (7, [102, 105, 110, 101])
  | 103 => some (7, [104, 111, 107, 116])
  | 104 => some (7, [112, 116])
  | 105 => some (7, [115, 107])
  | 200 => some (0, [-1, 0, 0, 1, 2, 0])
  | 201 => some (0, [100, 3, 99, 99])
  | 202 => some (0, xs)
  | _ => none
def mx_ck (xs : List Int32) (t r : Nat) (i : Int32) (f : Int32 → mx_R) : mx_R := match mx_kt xs r with
  | some (t', l) => if t' = t ∧ ¬ (i < 0 ∨ l.length ≤ i.toNatClampNeg) then f (l.getD i.toNatClampNeg 0) else none
  | none => none
def mx_cn (xs : List Int32) (r : Nat) (f : Int32 → mx_R) : mx_R := match mx_kt xs r with
  | some (_, l) => f (Int32.ofNat l.length)
  | none => none
def mx_gf (h : mx_H) (st : List Value) (a b w : Nat) (f : List Value → mx_R) : mx_R := match w with
  | 0 => mx_sr st (fun r rest => mx_gi h r a b (fun x => f (.int x :: rest)))
  | 1 => mx_sr st (fun r rest => mx_gr h r a b (fun x => f (.ref x :: rest)))
  | 5 => (match st with | .retAddr i :: rest => bif Nat.ble (i + 1) 6 then f (.retAddr (100 + i) :: rest) else none | _ => none)
  | _ => (match st with | .retAddr i :: rest => bif Nat.ble (i + 1) 6 then f (.int 0 :: rest) else none | _ => none)
def mx_bl (xs : List Int32) (t t' : Nat) (h : mx_H) (st : List Value) (f : List Value → mx_R) : mx_R := match st with
  | .int i :: .ref r :: rest => mx_ai h r t i (fun x => f (.int x :: rest))
  | .int i :: .retAddr r :: rest => mx_ck xs t' r i (fun x => f (.int x :: rest))
  | _ => none
def mx_ln (xs : List Int32) (h : mx_H) (st : List Value) (f : List Value → mx_R) : mx_R := match st with
  | .ref r :: rest => mx_al h r (fun x => f (.int x :: rest))
  | .retAddr r :: rest => mx_cn xs r (fun x => f (.int x :: rest))
  | _ => none
/-! calls: what comes back -/
def mx_c0 (r : mx_R) (f : mx_H → mx_R) : mx_R := match r with
  | some (none, h) => f h
  | _ => none
def mx_c1 (r : mx_R) (f : Int32 → mx_H → mx_R) : mx_R := match r with
  | some (some (.int x), h) => f x h
  | _ => none
def mx_c2 (r : mx_R) (f : Nat → mx_H → mx_R) : mx_R := match r with
  | some (some (.ref x), h) => f x h
  | _ => none
def mx_c3 (r : mx_R) (f0 : mx_H → mx_R) (f1 : Nat → mx_H → mx_R) : mx_R := match r with
  | some (some .null, h) => f0 h
  | some (some (.ref x), h) => f1 x h
  | _ => none
def mx_c4 (r : mx_R) (f : Nat → mx_H → mx_R) : mx_R := match r with
  | some (some (.retAddr x), h) => f x h
  | _ => none
def mx_cl (h : mx_H) (r ci : Nat) (f : mx_R) : mx_R := match h[r]? with
  | some (.inr (c, _)) => if c = ci then f else none
  | _ => none
def mx_bk (w : Nat) (r : mx_R) (rest : List Value) (f : List Value → mx_H → mx_R) : mx_R := match w with
  | 0 => mx_c0 r (fun h => f rest h)
  | 1 => mx_c1 r (fun x h => f (.int x :: rest) h)
  | 2 => mx_c2 r (fun x h => f (.ref x :: rest) h)
  | 3 => mx_c3 r (fun h => f (.null :: rest) h) (fun x h => f (.ref x :: rest) h)
  | _ => mx_c4 r (fun x h => f (.retAddr x :: rest) h)
def mx_iv (h : mx_H) (st : List Value) (n ci : Nat) (f : List Value → List Value → mx_R) : mx_R := match st.drop n with
  | .ref r :: rest => bif Nat.ble ((rest.map fun v => v.category).sum) 8 && Nat.beq (st.take n).length n && Nat.ble (ci + 1) 8 then mx_cl h r ci (f (.ref r :: (st.take n).reverse) rest) else none
  | .retAddr r :: rest => bif Nat.ble ((rest.map fun v => v.category).sum) 8 && Nat.beq (st.take n).length n && Nat.beq ci 99 && Nat.ble (r + 1) 6 then f (.retAddr r :: (st.take n).reverse) rest else none
  | _ => none
def mx_is (st : List Value) (n : Nat) (f : List Value → List Value → mx_R) : mx_R := match st.drop n with
  | .ref r :: rest => bif Nat.ble ((rest.map fun v => v.category).sum) 8 && Nat.beq (st.take n).length n then f (.ref r :: (st.take n).reverse) rest else none
  | _ => none
def mx_ss (st : List Value) (n : Nat) (f : List Value → List Value → mx_R) : mx_R :=
  bif Nat.ble (((st.drop n).map fun v => v.category).sum) 8 && Nat.beq (st.take n).length n then f (st.take n).reverse (st.drop n) else none
/-! ends -/
def mx_ri (u : Nat) (st : List Value) (h : mx_H) : mx_R := match st with
  | [.int x] => (match u with
    | 0 => some (some (.int x), h)
    | 1 => if x = 0 ∨ x = 1 then some (some (.int x), h) else none
    | 2 => if (x.toUInt32 % 65536).toInt32 = x then some (some (.int x), h) else none
    | _ => if x.toInt8.toInt32 = x then some (some (.int x), h) else none)
  | _ => none
def mx_ra (st : List Value) (h : mx_H) : mx_R := match st with
  | [.ref x] => some (some (.ref x), h)
  | [.null] => some (some .null, h)
  | [.retAddr x] => some (some (.retAddr x), h)
  | _ => none
def mx_rv (st : List Value) (h : mx_H) : mx_R := match st with
  | [] => some (none, h)
  | _ => none
def mx_sw : List (Int32 × Nat) → Int32 → (Nat → mx_R) → mx_R → mx_R
  | [], _, _, d => d
  | (v, t) :: cs, x, f, d => if x = v then f t else mx_sw cs x f d
def mx_ic (cd : Jvm.ClassFile.Cond) (x y : Int32) (a b : mx_R) : mx_R := match cd with
  | .eq => if x = y then a else b
  | .ne => if x = y then b else a
  | .lt => if x < y then a else b
  | .ge => if y ≤ x then a else b
  | .gt => if y < x then a else b
  | .le => if x ≤ y then a else b
/-- a new object's fields -/
def mx_df : Nat → List Value
  | 0 => [.null, .int 0, .null, .null, .int 0, .null, .int 0, .int 0, .int 0, .int 0, .int 0, .null, .null]
  | 1 => [.int 0, .int 0, .int 0, .int 0, .int 0, .int 0]
  | 2 => [.null, .int 0, .int 0, .int 0, .int 0, .null, .int 0, .null, .int 0, .null, .int 0, .int 0, .int 0, .int 0, .int 0]
  | 3 => [.int 0, .int 0, .null]
  | 4 => [.int 0, .null, .null, .int 0]
  | 5 => [.int 0, .int 0, .null]
  | 6 => [.null, .null, .null, .int 0, .null, .null, .int 0, .null, .null, .null, .null, .int 0]
  | 7 => [.null, .null, .null, .int 0, .null, .null, .int 0, .int 0, .int 0, .int 0, .int 0, .int 0, .int 0, .null, .null, .null, .int 0, .int 0, .null, .int 0, .null, .null, .null, .null, .null, .null, .null, .null, .null, .null, .null, .null, .int 0]
  | _ => []
/-- what a static holds -/
def mx_sv (w a : Nat) (v : Int32) : Value := match w with
  | 0 => .retAddr a
  | _ => .int v
/-- some of the locals, in an order -/
def mx_nm : List Nat → mx_L → mx_L
  | [], _ => []
  | i :: is, ls => match mx_ld ls i with
    | some v => (i, v) :: mx_nm is ls
    | none => mx_nm is ls
/-- a walk from one cut to the next: 'call' is what calls answer, 'ct' goes on at a cut -/
def mx_fw (xs : List Int32) (call : Nat → List Value → mx_H → mx_R) (c : List mx_I) (ct : Nat → mx_L → List Value → mx_H → mx_R) : Bool → Nat → Nat → mx_L → List Value → mx_H → mx_R
  | _, 0, _, _, _, _ => none
  | fi, k + 1, pc, ls, st, h =>
    match c.find? (fun x => Nat.beq x.1 pc) with
    | none => none
    | some (_, ins, cut, lv, a, b, w, u, v, cs) =>
      bif (!fi && cut) then ct pc (mx_nm lv ls) st h else
      match ins with
      | .iconst _ => mx_fw xs call c ct false k (pc + 1) ls (.int v :: st) h
      | .bipush _ => mx_fw xs call c ct false k (pc + 2) ls (.int v :: st) h
      | .sipush _ => mx_fw xs call c ct false k (pc + 3) ls (.int v :: st) h
      | .ldc _ => bif Nat.beq w 0 then mx_fw xs call c ct false k (pc + 2) ls (.int v :: st) h else mx_fw xs call c ct false k (pc + 2) ls (.retAddr a :: st) h
      | .ldc_w _ => mx_fw xs call c ct false k (pc + 3) ls (.int v :: st) h
      | .aconst_null => mx_fw xs call c ct false k (pc + 1) ls (.null :: st) h
      | .iload_n n => mx_li ls n.val (fun x => mx_fw xs call c ct false k (pc + 1) ls (.int x :: st) h)
      | .iload n => mx_li ls n (fun x => mx_fw xs call c ct false k (pc + 2) ls (.int x :: st) h)
      | .aload_n n => mx_la ls n.val (fun x => mx_fw xs call c ct false k (pc + 1) ls (x :: st) h)
      | .aload n => mx_la ls n (fun x => mx_fw xs call c ct false k (pc + 2) ls (x :: st) h)
      | .istore_n n => mx_s1 st (fun x r => mx_fw xs call c ct false k (pc + 1) (mx_st ls n.val (.int x)) r h)
      | .istore n => mx_s1 st (fun x r => mx_fw xs call c ct false k (pc + 2) (mx_st ls n (.int x)) r h)
      | .astore_n n => mx_sa st (fun x r => mx_fw xs call c ct false k (pc + 1) (mx_st ls n.val x) r h)
      | .astore n => mx_sa st (fun x r => mx_fw xs call c ct false k (pc + 2) (mx_st ls n x) r h)
      | .iinc n _ => mx_li ls n (fun x => mx_fw xs call c ct false k (pc + 3) (mx_st ls n (.int (x + v))) st h)
      | .iadd => mx_s2 st (fun x y r => mx_fw xs call c ct false k (pc + 1) ls (.int (x + y) :: r) h)
      | .isub => mx_s2 st (fun x y r => mx_fw xs call c ct false k (pc + 1) ls (.int (x - y) :: r) h)
      | .imul => mx_s2 st (fun x y r => mx_fw xs call c ct false k (pc + 1) ls (.int (x * y) :: r) h)
      | .iand => mx_s2 st (fun x y r => mx_fw xs call c ct false k (pc + 1) ls (.int (x &&& y) :: r) h)
      | .ior => mx_s2 st (fun x y r => mx_fw xs call c ct false k (pc + 1) ls (.int (x ||| y) :: r) h)
      | .ixor => mx_s2 st (fun x y r => mx_fw xs call c ct false k (pc + 1) ls (.int (x ^^^ y) :: r) h)
      | .idiv => mx_s2 st (fun x y r => if y = 0 then none else mx_fw xs call c ct false k (pc + 1) ls (.int (x / y) :: r) h)
      | .irem => mx_s2 st (fun x y r => if y = 0 then none else mx_fw xs call c ct false k (pc + 1) ls (.int (mx_rm x y) :: r) h)
      | .ineg => mx_s1 st (fun x r => mx_fw xs call c ct false k (pc + 1) ls (.int (-x) :: r) h)
      | .ishl => mx_s2 st (fun x y r => mx_fw xs call c ct false k (pc + 1) ls (.int (x <<< (y &&& 31)) :: r) h)
      | .ishr => mx_s2 st (fun x y r => mx_fw xs call c ct false k (pc + 1) ls (.int (x >>> (y &&& 31)) :: r) h)
      | .iushr => mx_s2 st (fun x y r => mx_fw xs call c ct false k (pc + 1) ls (.int (mx_us x y) :: r) h)
      | .i2s => mx_s1 st (fun x r => mx_fw xs call c ct false k (pc + 1) ls (.int x.toInt16.toInt32 :: r) h)
      | .i2c => mx_s1 st (fun x r => mx_fw xs call c ct false k (pc + 1) ls (.int (x.toUInt32 % 65536).toInt32 :: r) h)
      | .i2b => mx_s1 st (fun x r => mx_fw xs call c ct false k (pc + 1) ls (.int x.toInt8.toInt32 :: r) h)
      | .dup => mx_d1 st (fun x r => mx_fw xs call c ct false k (pc + 1) ls (x :: x :: r) h)
      | .dup2 => mx_d2 st (fun x y r => mx_fw xs call c ct false k (pc + 1) ls (x :: y :: x :: y :: r) h)
      | .pop => mx_d1 st (fun _ r => mx_fw xs call c ct false k (pc + 1) ls r h)
      | .goto _ => mx_fw xs call c ct false k a ls st h
      | .if_icmp cd _ => mx_s2 st (fun x y r => mx_ic cd x y (mx_fw xs call c ct false k a ls r h) (mx_fw xs call c ct false k (pc + 3) ls r h))
      | .ifCond cd _ => mx_s1 st (fun x r => mx_ic cd x 0 (mx_fw xs call c ct false k a ls r h) (mx_fw xs call c ct false k (pc + 3) ls r h))
      | .ifnull _ => mx_sn st (fun r => mx_fw xs call c ct false k a ls r h) (fun r => mx_fw xs call c ct false k (pc + 3) ls r h)
      | .ifnonnull _ => mx_sn st (fun r => mx_fw xs call c ct false k (pc + 3) ls r h) (fun r => mx_fw xs call c ct false k a ls r h)
      | .getfield _ => mx_gf h st a b w (fun st => mx_fw xs call c ct false k (pc + 3) ls st h)
      | .putfield _ => bif Nat.beq w 0 then mx_ir st (fun x r rest => mx_pt h r a b (.int x) (fun h => mx_fw xs call c ct false k (pc + 3) ls rest h)) else bif Nat.beq w 1 then mx_rr st (fun x r rest => mx_pt h r a b (.ref x) (fun h => mx_fw xs call c ct false k (pc + 3) ls rest h)) else mx_ir st (fun x r rest => mx_pz h r a b x (fun h => mx_fw xs call c ct false k (pc + 3) ls rest h))
      | .getstatic _ => mx_fw xs call c ct false k (pc + 3) ls (mx_sv w a v :: st) h
      | .iaload => mx_bl xs 0 0 h st (fun st => mx_fw xs call c ct false k (pc + 1) ls st h)
      | .baload => mx_bl xs 1 7 h st (fun st => mx_fw xs call c ct false k (pc + 1) ls st h)
      | .caload => mx_ir st (fun i r rest => mx_ai h r 2 i (fun x => mx_fw xs call c ct false k (pc + 1) ls (.int x :: rest) h))
      | .iastore => mx_iir st (fun x i r rest => mx_as h r 0 i x (fun h => mx_fw xs call c ct false k (pc + 1) ls rest h))
      | .bastore => mx_iir st (fun x i r rest => mx_as h r 1 i (vp_nar .boolean x) (fun h => mx_fw xs call c ct false k (pc + 1) ls rest h))
      | .castore => mx_iir st (fun x i r rest => mx_as h r 2 i (vp_nar .char x) (fun h => mx_fw xs call c ct false k (pc + 1) ls rest h))
      | .aaload => mx_ir st (fun i r rest => mx_aa h r i (fun x => mx_fw xs call c ct false k (pc + 1) ls (.ref x :: rest) h))
      | .aastore => mx_rir st (fun x i r rest => mx_at h r i x (fun h => mx_fw xs call c ct false k (pc + 1) ls rest h))
      | .arraylength => mx_ln xs h st (fun st => mx_fw xs call c ct false k (pc + 1) ls st h)
      | .new _ => mx_nw h a (mx_df a) (fun r h => mx_fw xs call c ct false k (pc + 3) ls (.ref r :: st) h)
      | .newarray _ => mx_s1 st (fun n rest => mx_na h a n (fun r h => mx_fw xs call c ct false k (pc + 2) ls (.ref r :: rest) h))
      | .anewarray _ => mx_s1 st (fun n rest => mx_nq h a n (fun r h => mx_fw xs call c ct false k (pc + 3) ls (.ref r :: rest) h))
      | .invokevirtual _ => mx_iv h st b u (fun as rest => mx_bk w (call a as h) rest (fun st h => mx_fw xs call c ct false k (pc + 3) ls st h))
      | .invokestatic _ => bif Nat.beq w 8 then mx_cps st (fun n dp d sp s rest => bif Nat.ble ((rest.map fun v => v.category).sum) 8 then mx_cp h s sp d dp n (fun h => mx_fw xs call c ct false k (pc + 3) ls rest h) else none) else mx_ss st b (fun as rest => mx_bk w (call a as h) rest (fun st h => mx_fw xs call c ct false k (pc + 3) ls st h))
      | .invokespecial _ => bif Nat.beq w 9 then mx_sr st (fun _ rest => bif Nat.ble ((rest.map fun v => v.category).sum) 8 then mx_fw xs call c ct false k (pc + 3) ls rest h else none) else mx_is st b (fun as rest => mx_bk w (call a as h) rest (fun st h => mx_fw xs call c ct false k (pc + 3) ls st h))
      | .ireturn => mx_ri u st h
      | .areturn => mx_ra st h
      | .return_ => mx_rv st h
      | .tableswitch _ _ _ _ => mx_s1 st (fun x r => mx_sw cs x (fun t => mx_fw xs call c ct false k t ls r h) (mx_fw xs call c ct false k a ls r h))
      | .lookupswitch _ _ => mx_s1 st (fun x r => mx_sw cs x (fun t => mx_fw xs call c ct false k t ls r h) (mx_fw xs call c ct false k a ls r h))
      | _ => none
/-- a method's body: cuts are passed as often as n says -/
def mx_rn (xs : List Int32) (call : Nat → List Value → mx_H → mx_R) (c : List mx_I) : Nat → Nat → mx_L → List Value → mx_H → mx_R
  | 0, _, _, _, _ => none
  | n + 1, pc, ls, st, h => mx_fw xs call c (mx_rn xs call c n) true 4096 pc ls st h
abbrev mx_N : Nat := 100000
/-- calls, d deep -/
def mx_ev (xs : List Int32) (P : List mx_M) : Nat → Nat → List Value → mx_H → mx_R
  | 0, _, _, _ => none
  | d + 1, j, as, h => match P[j]? with
    | some M => bif Nat.ble (lg_sl as).length M.2.2.1 then mx_rn xs (mx_ev xs P d) M.2.2.2.2 mx_N 0 (lv_args 0 as) [] h else none
    | none => none
end
section
/-! ===== the pure heap and the machine's heap ===== -/
def mx_cv (base : Nat) (sk : Nat → Value) : Value → Value
  | .ref k => .ref (base + k)
  | .retAddr i => sk i
  | .int x => .int x
  | .null => .null
  | .long x => .long x
  | .float x => .float x
  | .double x => .double x
def mx_cx (ad : Nat → Nat) : ((Nat → Int32) ⊕ (Nat → Int64) ⊕ (Nat → UInt32) ⊕ (Nat → UInt64) ⊕ (Nat → Option Nat)) → ((Nat → Int32) ⊕ (Nat → Int64) ⊕ (Nat → UInt32) ⊕ (Nat → UInt64) ⊕ (Nat → Option Nat))
  | .inr (.inr (.inr (.inr f))) => .inr (.inr (.inr (.inr (fun j => (f j).map ad))))
  | x => x
def mx_ce (base : Nat) (sk : Nat → Value) (ta : Nat → ClassId) : va_E → va_E
  | .inl (t, n, x) => .inl (ta t, n, mx_cx (fun k => base + k) x)
  | .inr (ci, fs) => .inr (ci, fs.map (mx_cv base sk))
/-- the cells, with their addresses -/
def mx_ws (base : Nat) (sk : Nat → Value) (ta : Nat → ClassId) (h : mx_H) : va_W := h.mapIdx (fun i e => (base + i, mx_ce base sk ta e))
def mx_Rl (D : va_G) (ta : Nat → ClassId) (base : Nat) (sk : Nat → Value) (h : mx_H) (H : Heap) : Prop :=
  H.size = base + h.length ∧ va_P D vwCl (mx_ws base sk ta h) H
def mx_se : va_E → Nat
  | .inl (_, n, _) => n
  | .inr (_, fs) => fs.length
def mx_sz (h : mx_H) : Nat := (h.map mx_se).sum
abbrev mx_A (base : Nat) : Nat → Prop := fun q => base ≤ q
section MXA
variable {D : va_G} {ta : Nat → ClassId} {base : Nat} {sk : Nat → Value} {h : mx_H} {H H1 : Heap} {s : State} {locs locs1 : List Loc}
theorem mx_ws_get (j : Nat) : (mx_ws base sk ta h)[j]? = (h[j]?).map (fun e => (base + j, mx_ce base sk ta e)) := by
  simp [mx_ws, List.getElem?_mapIdx]
theorem mx_ws_at {k : Nat} {e : va_E} (he : h[k]? = some e) : (mx_ws base sk ta h)[k]? = some (base + k, mx_ce base sk ta e) := by
  rw [mx_ws_get, he]
  rfl
theorem mx_ws_set {k : Nat} {e : va_E} : (mx_ws base sk ta h).set k (base + k, mx_ce base sk ta e) = mx_ws base sk ta (h.set k e) := by
  apply List.ext_getElem?
  intro j
  rw [mx_ws_get, List.getElem?_set, mx_ws_get, List.getElem?_set]
  by_cases hj : k = j
  · subst hj
    rw [if_pos rfl, if_pos rfl]
    by_cases hl : k < h.length
    · rw [if_pos (by simp [mx_ws]; omega), if_pos hl]
      rfl
    · rw [if_neg (by simp [mx_ws]; omega), if_neg hl]
      rfl
  · rw [if_neg hj, if_neg hj]
theorem mx_ws_push {e : va_E} : mx_ws base sk ta (h ++ [e]) = mx_ws base sk ta h ++ [(base + h.length, mx_ce base sk ta e)] := by
  simp [mx_ws, List.mapIdx_append]
theorem mx_ws_D : va_D (mx_A base) (mx_ws base sk ta h) := by
  refine ⟨fun i j p q hi hj hpq => ?_, fun k q hk => ?_⟩
  · rw [mx_ws_get] at hi hj
    cases h1 : h[i]? with
    | none => rw [h1] at hi; cases hi
    | some a =>
      cases h2 : h[j]? with
      | none => rw [h2] at hj; cases hj
      | some b =>
        rw [h1] at hi; rw [h2] at hj
        cases hi; cases hj
        simp only at hpq
        omega
  · rw [mx_ws_get] at hk
    cases h1 : h[k]? with
    | none => rw [h1] at hk; cases hk
    | some a => rw [h1] at hk; cases hk; exact Nat.le_add_right _ _
theorem mx_sz_set {r : Nat} {e e' : va_E} (he : h[r]? = some e) (hs : mx_se e' = mx_se e) : mx_sz (h.set r e') = mx_sz h := by
  unfold mx_sz
  congr 1
  rw [List.map_set]
  apply List.ext_getElem?
  intro j
  rw [List.getElem?_set]
  by_cases hj : r = j
  · subst hj
    have hl := (List.getElem?_eq_some_iff.mp he).1
    rw [if_pos rfl, if_pos (by simpa using hl), List.getElem?_map, he, hs]
    rfl
  · rw [if_neg hj]
theorem mx_sz_push {e : va_E} : mx_sz (h ++ [e]) = mx_sz h + mx_se e := by simp [mx_sz]
end MXA
end
section
/-! ===== cells only come ===== -/
def mx_mo (h : mx_H) (r : mx_R) : Prop := ∀ (v : Option Value) (h' : mx_H), r = some (v, h') → h.length ≤ h'.length ∧ mx_sz h ≤ mx_sz h'
section MXM
variable {h : mx_H}
theorem mo_none : mx_mo h none := fun _ _ e => by cases e
theorem mo_self {v : Option Value} : mx_mo h (some (v, h)) := fun _ _ e => by cases e; exact ⟨Nat.le_refl _, Nat.le_refl _⟩
theorem mo_tr {g : mx_H} {r : mx_R} (h1 : h.length ≤ g.length) (h2 : mx_sz h ≤ mx_sz g) (hm : mx_mo g r) : mx_mo h r := fun v h' e => ⟨Nat.le_trans h1 (hm v h' e).1, Nat.le_trans h2 (hm v h' e).2⟩
theorem mo_ite {c : Prop} [Decidable c] {a b : mx_R} (ha : mx_mo h a) (hb : mx_mo h b) : mx_mo h (if c then a else b) := by split <;> assumption
theorem mo_bif {c : Bool} {a b : mx_R} (ha : mx_mo h a) (hb : mx_mo h b) : mx_mo h (bif c then a else b) := by cases c <;> assumption
theorem mo_li {ls : mx_L} {i : Nat} {f : Int32 → mx_R} (hf : ∀ x, mx_mo h (f x)) : mx_mo h (mx_li ls i f) := by unfold mx_li; split <;> first | exact hf _ | exact mo_none
theorem mo_la {ls : mx_L} {i : Nat} {f : Value → mx_R} (hf : ∀ x, mx_mo h (f x)) : mx_mo h (mx_la ls i f) := by unfold mx_la; split <;> first | exact hf _ | exact mo_none
theorem mo_s1 {st : List Value} {f : Int32 → List Value → mx_R} (hf : ∀ x r, mx_mo h (f x r)) : mx_mo h (mx_s1 st f) := by unfold mx_s1; split <;> first | exact hf _ _ | exact mo_none
theorem mo_s2 {st : List Value} {f : Int32 → Int32 → List Value → mx_R} (hf : ∀ x y r, mx_mo h (f x y r)) : mx_mo h (mx_s2 st f) := by unfold mx_s2; split <;> first | exact hf _ _ _ | exact mo_none
theorem mo_sa {st : List Value} {f : Value → List Value → mx_R} (hf : ∀ x r, mx_mo h (f x r)) : mx_mo h (mx_sa st f) := by unfold mx_sa; split <;> first | exact hf _ _ | exact mo_none
theorem mo_sr {st : List Value} {f : Nat → List Value → mx_R} (hf : ∀ x r, mx_mo h (f x r)) : mx_mo h (mx_sr st f) := by unfold mx_sr; split <;> first | exact hf _ _ | exact mo_none
theorem mo_sn {st : List Value} {f g : List Value → mx_R} (hf : ∀ r, mx_mo h (f r)) (hg : ∀ r, mx_mo h (g r)) : mx_mo h (mx_sn st f g) := by unfold mx_sn; split <;> first | exact hf _ | exact hg _ | exact mo_none
theorem mo_d1 {st : List Value} {f : Value → List Value → mx_R} (hf : ∀ x r, mx_mo h (f x r)) : mx_mo h (mx_d1 st f) := by unfold mx_d1; split <;> first | exact hf _ _ | exact mo_none
theorem mo_d2 {st : List Value} {f : Value → Value → List Value → mx_R} (hf : ∀ x y r, mx_mo h (f x y r)) : mx_mo h (mx_d2 st f) := by unfold mx_d2; split <;> first | exact hf _ _ _ | exact mo_none
theorem mo_ir {st : List Value} {f : Int32 → Nat → List Value → mx_R} (hf : ∀ x y r, mx_mo h (f x y r)) : mx_mo h (mx_ir st f) := by unfold mx_ir; split <;> first | exact hf _ _ _ | exact mo_none
theorem mo_rr {st : List Value} {f : Nat → Nat → List Value → mx_R} (hf : ∀ x y r, mx_mo h (f x y r)) : mx_mo h (mx_rr st f) := by unfold mx_rr; split <;> first | exact hf _ _ _ | exact mo_none
theorem mo_iir {st : List Value} {f : Int32 → Int32 → Nat → List Value → mx_R} (hf : ∀ x i y r, mx_mo h (f x i y r)) : mx_mo h (mx_iir st f) := by unfold mx_iir; split <;> first | exact hf _ _ _ _ | exact mo_none
theorem mo_rir {st : List Value} {f : Nat → Int32 → Nat → List Value → mx_R} (hf : ∀ x i y r, mx_mo h (f x i y r)) : mx_mo h (mx_rir st f) := by unfold mx_rir; split <;> first | exact hf _ _ _ _ | exact mo_none
theorem mo_cps {st : List Value} {f : Int32 → Int32 → Nat → Int32 → Nat → List Value → mx_R} (hf : ∀ n dp d sp s r, mx_mo h (f n dp d sp s r)) : mx_mo h (mx_cps st f) := by unfold mx_cps; split <;> first | exact hf _ _ _ _ _ _ | exact mo_none
theorem mo_gi {r ci k : Nat} {f : Int32 → mx_R} (hf : ∀ x, mx_mo h (f x)) : mx_mo h (mx_gi h r ci k f) := by
  unfold mx_gi; split
  · split
    · split <;> first | exact hf _ | exact mo_none
    · exact mo_none
  · exact mo_none
theorem mo_gr {r ci k : Nat} {f : Nat → mx_R} (hf : ∀ x, mx_mo h (f x)) : mx_mo h (mx_gr h r ci k f) := by
  unfold mx_gr; split
  · split
    · split <;> first | exact hf _ | exact mo_none
    · exact mo_none
  · exact mo_none
theorem mo_set {r : Nat} {e e' : va_E} {x : mx_R} (he : h[r]? = some e) (hs : mx_se e' = mx_se e) (hm : mx_mo (h.set r e') x) : mx_mo h x :=
  mo_tr (by rw [List.length_set]; exact Nat.le_refl _) (by rw [mx_sz_set he hs]; exact Nat.le_refl _) hm
theorem mo_pt {r ci k : Nat} {v : Value} {f : mx_H → mx_R} (hf : ∀ g, mx_mo g (f g)) : mx_mo h (mx_pt h r ci k v f) := by
  unfold mx_pt; split
  · rename_i he
    split
    · exact mo_set he (by simp [mx_se]) (hf _)
    · exact mo_none
  · exact mo_none
theorem mo_pz {r ci k : Nat} {v : Int32} {f : mx_H → mx_R} (hf : ∀ g, mx_mo g (f g)) : mx_mo h (mx_pz h r ci k v f) := by
  unfold mx_pz; split
  · exact mo_pt hf
  · exact mo_none
theorem mo_ai {r t : Nat} {i : Int32} {f : Int32 → mx_R} (hf : ∀ x, mx_mo h (f x)) : mx_mo h (mx_ai h r t i f) := by
  unfold mx_ai; split
  · split <;> first | exact hf _ | exact mo_none
  · exact mo_none
theorem mo_as {r t : Nat} {i x : Int32} {f : mx_H → mx_R} (hf : ∀ g, mx_mo g (f g)) : mx_mo h (mx_as h r t i x f) := by
  unfold mx_as; split
  · rename_i he
    split
    · exact mo_set he (by simp [mx_se]) (hf _)
    · exact mo_none
  · exact mo_none
theorem mo_aa {r : Nat} {i : Int32} {f : Nat → mx_R} (hf : ∀ x, mx_mo h (f x)) : mx_mo h (mx_aa h r i f) := by
  unfold mx_aa; split
  · split
    · split <;> first | exact hf _ | exact mo_none
    · exact mo_none
  · exact mo_none
theorem mo_at {r : Nat} {i : Int32} {v : Nat} {f : mx_H → mx_R} (hf : ∀ g, mx_mo g (f g)) : mx_mo h (mx_at h r i v f) := by
  unfold mx_at; split
  · rename_i he _
    split
    · exact mo_set he (by simp [mx_se]) (hf _)
    · exact mo_none
  · exact mo_none
theorem mo_al {r : Nat} {f : Int32 → mx_R} (hf : ∀ x, mx_mo h (f x)) : mx_mo h (mx_al h r f) := by
  unfold mx_al; split
  · exact mo_ite (hf _) mo_none
  · exact mo_none
theorem mo_psh {e : va_E} {x : mx_R} (hm : mx_mo (h ++ [e]) x) : mx_mo h x := mo_tr (by simp) (by rw [mx_sz_push]; exact Nat.le_add_right _ _) hm
theorem mo_nw {ci : Nat} {fs : List Value} {f : Nat → mx_H → mx_R} (hf : ∀ r g, mx_mo g (f r g)) : mx_mo h (mx_nw h ci fs f) := mo_psh (hf _ _)
theorem mo_na {t : Nat} {n : Int32} {f : Nat → mx_H → mx_R} (hf : ∀ r g, mx_mo g (f r g)) : mx_mo h (mx_na h t n f) := by
  unfold mx_na; split
  · exact mo_psh (hf _ _)
  · exact mo_none
theorem mo_nq {t : Nat} {n : Int32} {f : Nat → mx_H → mx_R} (hf : ∀ r g, mx_mo g (f r g)) : mx_mo h (mx_nq h t n f) := by
  unfold mx_nq; split
  · exact mo_psh (hf _ _)
  · exact mo_none
theorem mo_cp {s d : Nat} {sp dp n : Int32} {f : mx_H → mx_R} (hf : ∀ g, mx_mo g (f g)) : mx_mo h (mx_cp h s sp d dp n f) := by
  unfold mx_cp; split
  · rename_i he
    split
    · exact mo_set he (by simp [mx_se]) (hf _)
    · exact mo_none
  · exact mo_none
theorem mo_gf {st : List Value} {a b w : Nat} {f : List Value → mx_R} (hf : ∀ x, mx_mo h (f x)) : mx_mo h (mx_gf h st a b w f) := by
  unfold mx_gf; split
  · exact mo_sr fun _ _ => mo_gi fun _ => hf _
  · exact mo_sr fun _ _ => mo_gr fun _ => hf _
  · split
    · exact mo_bif (hf _) mo_none
    · exact mo_none
  · split
    · exact mo_bif (hf _) mo_none
    · exact mo_none
theorem mo_ck {xs : List Int32} {t r : Nat} {i : Int32} {f : Int32 → mx_R} (hf : ∀ x, mx_mo h (f x)) : mx_mo h (mx_ck xs t r i f) := by
  unfold mx_ck; split
  · exact mo_ite (hf _) mo_none
  · exact mo_none
theorem mo_cn {xs : List Int32} {r : Nat} {f : Int32 → mx_R} (hf : ∀ x, mx_mo h (f x)) : mx_mo h (mx_cn xs r f) := by
  unfold mx_cn; split
  · exact hf _
  · exact mo_none
theorem mo_bl {xs : List Int32} {t t2 : Nat} {st : List Value} {f : List Value → mx_R} (hf : ∀ x, mx_mo h (f x)) : mx_mo h (mx_bl xs t t2 h st f) := by
  unfold mx_bl; split
  · exact mo_ai fun _ => hf _
  · exact mo_ck fun _ => hf _
  · exact mo_none
theorem mo_ln {xs : List Int32} {st : List Value} {f : List Value → mx_R} (hf : ∀ x, mx_mo h (f x)) : mx_mo h (mx_ln xs h st f) := by
  unfold mx_ln; split
  · exact mo_al fun _ => hf _
  · exact mo_cn fun _ => hf _
  · exact mo_none
theorem mo_on {r : mx_R} {v : Option Value} {g : mx_H} {x : mx_R} (hr : mx_mo h r) (e : r = some (v, g)) (hm : mx_mo g x) : mx_mo h x := mo_tr (hr v g e).1 (hr v g e).2 hm
theorem mo_bk {w : Nat} {r : mx_R} {rest : List Value} {f : List Value → mx_H → mx_R} (hr : mx_mo h r) (hf : ∀ x g, mx_mo g (f x g)) : mx_mo h (mx_bk w r rest f) := by
  unfold mx_bk; split
  · unfold mx_c0; split
    · exact mo_on hr rfl (hf _ _)
    · exact mo_none
  · unfold mx_c1; split
    · exact mo_on hr rfl (hf _ _)
    · exact mo_none
  · unfold mx_c2; split
    · exact mo_on hr rfl (hf _ _)
    · exact mo_none
  · unfold mx_c3; split
    · exact mo_on hr rfl (hf _ _)
    · exact mo_on hr rfl (hf _ _)
    · exact mo_none
  · unfold mx_c4; split
    · exact mo_on hr rfl (hf _ _)
    · exact mo_none
theorem mo_cl {r ci : Nat} {x : mx_R} (hx : mx_mo h x) : mx_mo h (mx_cl h r ci x) := by
  unfold mx_cl; split
  · exact mo_ite hx mo_none
  · exact mo_none
theorem mo_iv {st : List Value} {n ci : Nat} {f : List Value → List Value → mx_R} (hf : ∀ x r, mx_mo h (f x r)) : mx_mo h (mx_iv h st n ci f) := by
  unfold mx_iv; split
  · exact mo_bif (mo_cl (hf _ _)) mo_none
  · exact mo_bif (hf _ _) mo_none
  · exact mo_none
theorem mo_is {st : List Value} {n : Nat} {f : List Value → List Value → mx_R} (hf : ∀ x r, mx_mo h (f x r)) : mx_mo h (mx_is st n f) := by
  unfold mx_is; split
  · exact mo_bif (hf _ _) mo_none
  · exact mo_none
theorem mo_ss {st : List Value} {n : Nat} {f : List Value → List Value → mx_R} (hf : ∀ x r, mx_mo h (f x r)) : mx_mo h (mx_ss st n f) := mo_bif (hf _ _) mo_none
theorem mo_ri {u : Nat} {st : List Value} : mx_mo h (mx_ri u st h) := by
  unfold mx_ri; split
  · split
    · exact mo_self
    · exact mo_ite mo_self mo_none
    · exact mo_ite mo_self mo_none
    · exact mo_ite mo_self mo_none
  · exact mo_none
theorem mo_ra {st : List Value} : mx_mo h (mx_ra st h) := by unfold mx_ra; split <;> first | exact mo_self | exact mo_none
theorem mo_rv {st : List Value} : mx_mo h (mx_rv st h) := by unfold mx_rv; split <;> first | exact mo_self | exact mo_none
theorem mo_sw {x : Int32} {f : Nat → mx_R} {d : mx_R} (hf : ∀ t, mx_mo h (f t)) (hd : mx_mo h d) : ∀ cs : List (Int32 × Nat), mx_mo h (mx_sw cs x f d)
  | [] => hd
  | (_, _) :: cs => mo_ite (hf _) (mo_sw hf hd cs)
theorem mo_ic {cd : Jvm.ClassFile.Cond} {x y : Int32} {a b : mx_R} (ha : mx_mo h a) (hb : mx_mo h b) : mx_mo h (mx_ic cd x y a b) := by
  unfold mx_ic; split <;> first | exact mo_ite ha hb | exact mo_ite hb ha
end MXM
set_option maxHeartbeats 4000000 in
theorem mo_fw {xs : List Int32} {call : Nat → List Value → mx_H → mx_R} {c : List mx_I} {ct : Nat → mx_L → List Value → mx_H → mx_R} (hc : ∀ j as h, mx_mo h (call j as h)) (ht : ∀ pc ls st h, mx_mo h (ct pc ls st h)) : ∀ (k : Nat) (fi : Bool) (pc : Nat) (ls : mx_L) (st : List Value) (h : mx_H), mx_mo h (mx_fw xs call c ct fi k pc ls st h)
  | 0, _, _, _, _, _ => by unfold mx_fw; exact mo_none
  | k + 1, fi, pc, ls, st, h => by
    have ih := mo_fw (xs := xs) (c := c) hc ht k
    unfold mx_fw
    split
    · exact mo_none
    · refine mo_bif (ht _ _ _ _) ?_
      split
      all_goals first
        | exact mo_none
        | exact ih _ _ _ _ _
        | exact mo_bif (ih _ _ _ _ _) (ih _ _ _ _ _)
        | exact mo_li fun _ => ih _ _ _ _ _
        | exact mo_la fun _ => ih _ _ _ _ _
        | exact mo_s1 fun _ _ => ih _ _ _ _ _
        | exact mo_sa fun _ _ => ih _ _ _ _ _
        | exact mo_s2 fun _ _ _ => ih _ _ _ _ _
        | exact mo_s2 fun _ _ _ => mo_ite mo_none (ih _ _ _ _ _)
        | exact mo_d1 fun _ _ => ih _ _ _ _ _
        | exact mo_d2 fun _ _ _ => ih _ _ _ _ _
        | exact mo_s2 fun _ _ _ => mo_ic (ih _ _ _ _ _) (ih _ _ _ _ _)
        | exact mo_s1 fun _ _ => mo_ic (ih _ _ _ _ _) (ih _ _ _ _ _)
        | exact mo_sn (fun _ => ih _ _ _ _ _) (fun _ => ih _ _ _ _ _)
        | exact mo_gf fun _ => ih _ _ _ _ _
        | exact mo_bif (mo_ir fun _ _ _ => mo_pt fun _ => ih _ _ _ _ _) (mo_bif (mo_rr fun _ _ _ => mo_pt fun _ => ih _ _ _ _ _) (mo_ir fun _ _ _ => mo_pz fun _ => ih _ _ _ _ _))
        | exact mo_ir fun _ _ _ => mo_ai fun _ => ih _ _ _ _ _
        | exact mo_bl fun _ => ih _ _ _ _ _
        | exact mo_iir fun _ _ _ _ => mo_as fun _ => ih _ _ _ _ _
        | exact mo_ir fun _ _ _ => mo_aa fun _ => ih _ _ _ _ _
        | exact mo_rir fun _ _ _ _ => mo_at fun _ => ih _ _ _ _ _
        | exact mo_ln fun _ => ih _ _ _ _ _
        | exact mo_nw fun _ _ => ih _ _ _ _ _
        | exact mo_s1 fun _ _ => mo_na fun _ _ => ih _ _ _ _ _
        | exact mo_s1 fun _ _ => mo_nq fun _ _ => ih _ _ _ _ _
        | exact mo_iv fun _ _ => mo_bk (hc _ _ _) fun _ _ => ih _ _ _ _ _
        | exact mo_bif (mo_cps fun _ _ _ _ _ _ => mo_bif (mo_cp fun _ => ih _ _ _ _ _) mo_none) (mo_ss fun _ _ => mo_bk (hc _ _ _) fun _ _ => ih _ _ _ _ _)
        | exact mo_bif (mo_sr fun _ _ => mo_bif (ih _ _ _ _ _) mo_none) (mo_is fun _ _ => mo_bk (hc _ _ _) fun _ _ => ih _ _ _ _ _)
        | exact mo_ri
        | exact mo_ra
        | exact mo_rv
        | exact mo_s1 fun _ _ => mo_sw (fun _ => ih _ _ _ _ _) (ih _ _ _ _ _) _
theorem mo_rn {xs : List Int32} {call : Nat → List Value → mx_H → mx_R} {c : List mx_I} (hc : ∀ j as h, mx_mo h (call j as h)) : ∀ (n pc : Nat) (ls : mx_L) (st : List Value) (h : mx_H), mx_mo h (mx_rn xs call c n pc ls st h)
  | 0, _, _, _, _ => by unfold mx_rn; exact mo_none
  | n + 1, pc, ls, st, h => by unfold mx_rn; exact mo_fw hc (mo_rn hc n) _ _ _ _ _ _
theorem mo_ev {xs : List Int32} {P : List mx_M} : ∀ (d j : Nat) (as : List Value) (h : mx_H), mx_mo h (mx_ev xs P d j as h)
  | 0, _, _, _ => by unfold mx_ev; exact mo_none
  | d + 1, j, as, h => by
    unfold mx_ev
    split
    · exact mo_bif (mo_rn (mo_ev d) _ _ _ _ _) mo_none
    · exact mo_none
end
section
/-! ===== what a method's walk stands on ===== -/
def mx_tys (ta : Nat → ClassId) : List (ClassId × FieldType) := [(ta 0, .int), (ta 1, .boolean), (ta 2, .char), (ta 3, .object RX1), (ta 4, .object RX3), (ta 5, .object RX4), (ta 6, .object RX5)]
def mx_NM : List (String × Nat × MethodName) := [(RX0, 59, yX1_init), (RX0, 148, yX6_heldWithin), (RX4, 17, yX1_init), (RX4, 24, yX3_init), (RX6, 39, yX2_init), (RX6, 62, yX3_init), (RX6, 63, yX4_init)]
def mx_SL : List (Nat × String × Nat) := [(106, "press", 0), (112, "fee", 1), (114, "fine", 2), (143, "hokt", 3), (145, "pt", 4), (147, "sk", 5)]
def mx_kty : Nat → FieldType
  | 0 => .int
  | _ => .byte
def mx_C (xs : List Int32) (D : va_G) (ta : Nat → ClassId) (base : Nat) (sk : Nat → Value) (U : State) (H : Heap) : Prop :=
  va_K D vwCl (mx_tys ta) U ∧ (∀ q ∈ mx_NM, va_Nw (.methodLinkNest q.1 q.2.1 q.2.2 "CreaseLines") U) ∧ va_Nw (.fieldLinkNest "CreaseLines$Leg" 30 "CreaseLines" "ABOVE" "[I" "CreaseLines") U ∧
  (va_AO RX1 U ∧ va_AO RX3 U ∧ va_AO RX4 U ∧ va_AO RX5 U) ∧
  (va_Z "CreaseLines" "ABOVE" "[I" (sk 200) (mx_A base) U H ∧ va_Z "CreaseLines" "MOST_OF_RULE" "[I" (sk 201) (mx_A base) U H ∧ va_Z "java/lang/String" "COMPACT_STRINGS" "Z" (.int 1) (mx_A base) U H ∧ va_Z "jdk/internal/util/Preconditions" "SIOOBE_FORMATTER" "Ljava/util/function/BiFunction;" (sk 999) (mx_A base) U H) ∧
  (∀ (r t : Nat) (l : List Int32), mx_kt xs r = some (t, l) → ∃ a : Nat, sk r = .ref a ∧ va_T (mx_kty t) a l.length (fun j => .int (l.getD j 0)) (mx_A base) U H) ∧
  (∀ i : Nat, i < 6 → ∃ a : Nat, sk i = .ref a ∧ va_O "java/lang/String" a (mx_A base) U H ∧ va_OF "java/lang/String" "coder" "B" (.int 0) a (mx_A base) U H ∧ va_OF "java/lang/String" "value" "[B" (sk (100 + i)) a (mx_A base) U H) ∧
  (∀ q ∈ mx_SL, ∃ a : Nat, sk q.2.2 = .ref a ∧ vk_R RX2 q.1 q.2.1 a U)
theorem mx_C.same {xs : List Int32} {D : va_G} {ta : Nat → ClassId} {base : Nat} {sk : Nat → Value} {u U : State} {H : Heap} (hv : U.vm = u.vm) (h : mx_C xs D ta base sk u H) : mx_C xs D ta base sk U H := by
  obtain ⟨h1, h2, h3, ⟨h4, h5, h6, h7⟩, ⟨h8, h9, h10, h11⟩, h12, h13, h14⟩ := h
  have ha : u.vm.Alike U.vm := by rw [hv]; exact Vm.Alike.refl _
  refine ⟨h1.moved ha, fun q hq => (h2 q hq).same rfl hv.symm, h3.same rfl hv.symm, ⟨h4.moved ha, h5.moved ha, h6.moved ha, h7.moved ha⟩, ⟨h8.moved ha, h9.moved ha, h10.moved ha, h11.moved ha⟩, fun r t l hr => ?_, fun i hi => ?_, fun q hq => ?_⟩
  · obtain ⟨a, e, ht⟩ := h12 r t l hr
    exact ⟨a, e, ht.moved ha⟩
  · obtain ⟨a, e, x1, x2, x3⟩ := h13 i hi
    exact ⟨a, e, x1.moved ha, x2.moved ha, x3.moved ha⟩
  · obtain ⟨a, e, x1⟩ := h14 q hq
    exact ⟨a, e, x1.same hv⟩
theorem mx_C.warm {xs : List Int32} {D : va_G} {ta : Nat → ClassId} {base : Nat} {sk : Nat → Value} {s U : State} {H : Heap} (hW : s.WarmedH U.vm) (h : mx_C xs D ta base sk s H) : mx_C xs D ta base sk U H := by
  obtain ⟨h1, h2, h3, ⟨h4, h5, h6, h7⟩, ⟨h8, h9, h10, h11⟩, h12, h13, h14⟩ := h
  have ha : s.vm.Alike U.vm := hW.alike
  refine ⟨h1.moved ha, fun q hq => va_Nw.warmM hW (h2 q hq), va_Nw.warmF hW h3, ⟨h4.moved ha, h5.moved ha, h6.moved ha, h7.moved ha⟩, ⟨h8.moved ha, h9.moved ha, h10.moved ha, h11.moved ha⟩, fun r t l hr => ?_, fun i hi => ?_, fun q hq => ?_⟩
  · obtain ⟨a, e, ht⟩ := h12 r t l hr
    exact ⟨a, e, ht.moved ha⟩
  · obtain ⟨a, e, x1, x2, x3⟩ := h13 i hi
    exact ⟨a, e, x1.moved ha, x2.moved ha, x3.moved ha⟩
  · obtain ⟨a, e, x1⟩ := h14 q hq
    exact ⟨a, e, x1.warm hW⟩
theorem mx_C.kept {xs : List Int32} {D : va_G} {ta : Nat → ClassId} {base : Nat} {sk : Nat → Value} {U : State} {H H1 : Heap} (hq : ∀ a : Nat, a < H.size → ¬ mx_A base a → H1[a]? = H[a]?) (h : mx_C xs D ta base sk U H) : mx_C xs D ta base sk U H1 := by
  obtain ⟨h1, h2, h3, h4, ⟨h8, h9, h10, h11⟩, h12, h13, h14⟩ := h
  refine ⟨h1, h2, h3, h4, ⟨h8.kept hq, h9.kept hq, h10.kept hq, h11.kept hq⟩, fun r t l hr => ?_, fun i hi => ?_, h14⟩
  · obtain ⟨a, e, ht⟩ := h12 r t l hr
    exact ⟨a, e, ht.kept hq⟩
  · obtain ⟨a, e, x1, x2, x3⟩ := h13 i hi
    exact ⟨a, e, x1.kept hq, x2.kept hq, x3.kept hq⟩
/-! the classes, by number -/
def mx_T : Nat → u_T
  | 0 => TX0 | 1 => TX1 | 2 => TX2 | 3 => TX3 | 4 => TX4 | 5 => TX5 | 6 => TX6 | _ => TX7
def mx_RX : Nat → String
  | 0 => RX0 | 1 => RX1 | 2 => RX2 | 3 => RX3 | 4 => RX4 | 5 => RX5 | 6 => RX6 | _ => RX7
def mx_Nf : Nat → Nat
  | 0 => 13 | 1 => 6 | 2 => 15 | 3 => 3 | 4 => 4 | 5 => 3 | 6 => 12 | _ => 33
def mx_tyf : Nat → Nat → FieldType
  | 0 => tyX0 | 1 => tyX1 | 2 => tyX2 | 3 => tyX3 | 4 => tyX4 | 5 => tyX5 | 6 => tyX6 | _ => tyX7
def mx_WS : List Cond := wsX00 ++ (wsX10 ++ (wsX20 ++ (wsX30 ++ (wsX40 ++ (wsX50 ++ (wsX60 ++ wsX70))))))
theorem mx_cl_at {a : Nat} (h : a < 8) : vwCl[a]? = some (mx_RX a, mx_T a, mx_Nf a) := by
  match a, h with
  | 0, _ | 1, _ | 2, _ | 3, _ | 4, _ | 5, _ | 6, _ | 7, _ => rfl
  | a + 8, h => omega
theorem mx_cl_ws {a : Nat} (h : a < 8) : ∀ w ∈ u_ws (mx_RX a) (mx_T a) (mx_Nf a), w ∈ mx_WS := by
  intro w hw
  unfold mx_WS
  simp only [List.mem_append]
  match a, h, hw with
  | 0, _, hw => exact Or.inl hw
  | 1, _, hw => exact Or.inr (Or.inl hw)
  | 2, _, hw => exact Or.inr (Or.inr (Or.inl hw))
  | 3, _, hw => exact Or.inr (Or.inr (Or.inr (Or.inl hw)))
  | 4, _, hw => exact Or.inr (Or.inr (Or.inr (Or.inr (Or.inl hw))))
  | 5, _, hw => exact Or.inr (Or.inr (Or.inr (Or.inr (Or.inr (Or.inl hw)))))
  | 6, _, hw => exact Or.inr (Or.inr (Or.inr (Or.inr (Or.inr (Or.inr (Or.inl hw))))))
  | 7, _, hw => exact Or.inr (Or.inr (Or.inr (Or.inr (Or.inr (Or.inr (Or.inr hw))))))
  | a + 8, h, _ => omega
theorem mx_cl_ty {a : Nat} (h : a < 8) : ∀ k, k < mx_Nf a → parseFieldDescriptor (mx_T a k).2.2.1 = some (mx_tyf a k) := by
  match a, h with
  | 0, _ => exact tyX0_ok
  | 1, _ => exact tyX1_ok
  | 2, _ => exact tyX2_ok
  | 3, _ => exact tyX3_ok
  | 4, _ => exact tyX4_ok
  | 5, _ => exact tyX5_ok
  | 6, _ => exact tyX6_ok
  | 7, _ => exact tyX7_ok
  | a + 8, h => omega
theorem mx_cl_nm {a : Nat} (h : a < 8) : ∀ i, i < mx_Nf a → ∀ j, j < mx_Nf a → i ≠ j → (mx_T a i).2.1 ≠ (mx_T a j).2.1 := by
  match a, h with
  | 0, _ => exact nmX0
  | 1, _ => exact nmX1
  | 2, _ => exact nmX2
  | 3, _ => exact nmX3
  | 4, _ => exact nmX4
  | 5, _ => exact nmX5
  | 6, _ => exact nmX6
  | 7, _ => exact nmX7
  | a + 8, h => omega
theorem mx_cl_df {a : Nat} (h : a < 8) : (mx_df a).length = mx_Nf a ∧ ∀ (base : Nat) (sk : Nat → Value), (mx_df a).map (mx_cv base sk) = mx_df a ∧ ∀ j, j < mx_Nf a → defaultValue (mx_tyf a j) = vp_V (mx_df a) j := by
  match a, h with
  | 0, _ => exact ⟨rfl, fun _ _ => ⟨rfl, by decide +kernel⟩⟩
  | 1, _ => exact ⟨rfl, fun _ _ => ⟨rfl, by decide +kernel⟩⟩
  | 2, _ => exact ⟨rfl, fun _ _ => ⟨rfl, by decide +kernel⟩⟩
  | 3, _ => exact ⟨rfl, fun _ _ => ⟨rfl, by decide +kernel⟩⟩
  | 4, _ => exact ⟨rfl, fun _ _ => ⟨rfl, by decide +kernel⟩⟩
  | 5, _ => exact ⟨rfl, fun _ _ => ⟨rfl, by decide +kernel⟩⟩
  | 6, _ => exact ⟨rfl, fun _ _ => ⟨rfl, by decide +kernel⟩⟩
  | 7, _ => exact ⟨rfl, fun _ _ => ⟨rfl, by decide +kernel⟩⟩
  | a + 8, h => omega
/-! what each instruction needs of the tables -/
def mx_len (b : Nat) : Instr → Nat
  | .bipush _ | .ldc _ | .iload _ | .aload _ | .istore _ | .astore _ | .newarray _ => 2
  | .sipush _ | .ldc_w _ | .iinc _ _ | .goto _ | .if_icmp _ _ | .ifCond _ _ | .ifnull _ | .ifnonnull _ | .getfield _ | .putfield _ | .getstatic _ | .new _ | .anewarray _ | .invokevirtual _ | .invokestatic _ | .invokespecial _ | .checkcast _ => 3
  | .tableswitch _ _ _ _ | .lookupswitch _ _ => b
  | _ => 1
def mx_sta (w a : Nat) : String × String × String := match w with
  | 0 => (match a with | 200 => ("CreaseLines", "ABOVE", "[I") | 201 => ("CreaseLines", "MOST_OF_RULE", "[I") | _ => ("jdk/internal/util/Preconditions", "SIOOBE_FORMATTER", "Ljava/util/function/BiFunction;"))
  | _ => ("java/lang/String", "COMPACT_STRINGS", "Z")
def mx_need (P : List mx_M) (own : String) : mx_I → List Cond
  | (_, ins, _, _, a, b, w, _, v, _) => match ins with
    | .getfield i => (match w with
      | 5 => [.fieldLink own i "java/lang/String" "value" "[B"]
      | 6 => [.fieldLink own i "java/lang/String" "coder" "B"]
      | _ => [.fieldLink own i (mx_T a b).1 (mx_T a b).2.1 (mx_T a b).2.2.1])
    | .putfield i => [.fieldLink own i (mx_T a b).1 (mx_T a b).2.1 (mx_T a b).2.2.1]
    | .getstatic i => bif decide (v = 2) then [] else [.fieldLink own i (mx_sta w a).1 (mx_sta w a).2.1 (mx_sta w a).2.2]
    | .ldc i => (match w with | 0 => [.constant own i v] | _ => [])
    | .ldc_w i => [.constant own i v]
    | .new i => [.classLink own i (mx_RX a), .instantiable (mx_RX a) (mx_Nf a), .initialized (mx_RX a)]
    | .newarray t => [.arrayClass (newarray.typeOf t)]
    | .anewarray i => [.classLink own i (mx_RX (mx_kc a))]
    | .invokevirtual i => (match P[a]? with
      | some M => [.methodLink own i M.1, .instanceMethod M.1, .selects M.1.cls M.1 M.1, .initialized M.1.cls]
      | none => [])
    | .invokestatic i => (match w with
      | 8 => [.methodLink own i arraycopyName, .native arraycopyName, .static arraycopyName, .initialized "java/lang/System"]
      | _ => (match P[a]? with
        | some M => (bif decide (v = 1) then [.static M.1, .initialized M.1.cls] else [.methodLink own i M.1, .static M.1, .initialized M.1.cls])
        | none => []))
    | .invokespecial i => (match w with
      | 9 => [.methodLink own i objectInit, .instanceMethod objectInit, .code objectInit ⟨#[0xb1]⟩ 1 none]
      | _ => (match P[a]? with
        | some M => (bif decide (v = 1) then [.instanceMethod M.1, .initialized M.1.cls] else [.methodLink own i M.1, .instanceMethod M.1, .initialized M.1.cls])
        | none => []))
    | _ => []
def mx_tb (pc : Nat) : Int → List Int → List (Int32 × Nat) → Bool
  | _, [], [] => true
  | lo, o :: os, (v, t) :: cs => decide (v.toInt = lo) && decide ((pc : Int) + o = (t : Int)) && mx_tb pc (lo + 1) os cs
  | _, _, _ => false
def mx_lk (pc : Nat) : List (Int × Int) → List (Int32 × Nat) → Bool
  | [], [] => true
  | (n, o) :: ps, (v, t) :: cs => decide (v.toInt = n) && decide ((pc : Int) + o = (t : Int)) && mx_lk pc ps cs
  | _, _ => false
def mx_cal (M : mx_M) (b : Nat) : Bool := decide (M.1.cls ≠ "java/lang/invoke/MethodHandle" ∧ M.1.cls ≠ "java/lang/invoke/VarHandle" ∧ (parseMethodDescriptor M.1.desc).map (fun d => d.parameters.length) = some b) && Nat.ble M.2.2.1 9
def mx_isref : FieldType → Bool
  | .object _ => true
  | .array _ => true
  | _ => false
def mx_so (w a : Nat) (v : Int32) : Bool := match w with
  | 0 => Nat.beq a 200 || Nat.beq a 201 || Nat.beq a 999
  | _ => decide (v = 1)
/-- what is checked of an instruction, by the kernel -/
def mx_ok (P : List mx_M) (y : MethodName) (cc : ByteArray) (nL : Nat) (ret : Option FieldType) : mx_I → Bool
  | (pc, ins, _, _, a, b, w, u, v, cs) => decide (decode cc pc = .ok (ins, mx_len b ins)) && (match ins with
    | .iconst n => decide (Int32.ofInt n = v)
    | .bipush n => decide ((Int8.ofInt n).toInt32 = v)
    | .sipush n => decide ((Int16.ofInt n).toInt32 = v)
    | .ldc i => Nat.beq w 0 || (decide (y.cls = RX2) && mx_SL.any (fun q => Nat.beq q.1 i && Nat.beq q.2.2 a))
    | .istore_n n => Nat.blt n.val nL
    | .astore_n n => Nat.blt n.val nL
    | .istore n => Nat.blt n nL
    | .astore n => Nat.blt n nL
    | .iinc n x => Nat.blt n nL && decide (Int32.ofInt x = v)
    | .goto o => decide ((pc : Int) + o = (a : Int))
    | .if_icmp _ o => decide ((pc : Int) + o = (a : Int))
    | .ifCond _ o => decide ((pc : Int) + o = (a : Int))
    | .ifnull o => decide ((pc : Int) + o = (a : Int))
    | .ifnonnull o => decide ((pc : Int) + o = (a : Int))
    | .getfield _ => (match w with | 0 | 1 => Nat.blt a 8 && Nat.blt b (mx_Nf a) | 5 => true | 6 => true | _ => false)
    | .putfield _ => Nat.blt a 8 && Nat.blt b (mx_Nf a) && (match w with | 0 => decide (mx_tyf a b = .int) | 1 => mx_isref (mx_tyf a b) | _ => decide (mx_tyf a b = .boolean)) && (!(mx_T a b).2.2.2 || (decide (y.name = "<init>") && decide ((mx_T a b).1 = y.cls)))
    | .getstatic i => bif decide (v = 2) then (decide (y.cls = "CreaseLines$Leg") && Nat.beq i 30 && Nat.beq a 200 && Nat.beq w 0) else mx_so w a v
    | .new _ => Nat.blt a 8
    | .newarray t => decide ((a = 0 ∧ t = .int) ∨ (a = 1 ∧ t = .boolean) ∨ (a = 2 ∧ t = .char))
    | .anewarray _ => decide (3 ≤ a ∧ a ≤ 6)
    | .invokevirtual _ => (match P[a]? with
      | some M => mx_cal M b && (match u with | 99 => decide (M.1.cls = "java/lang/String") | _ => Nat.blt u 8 && decide (mx_RX u = M.1.cls))
      | none => true)
    | .invokestatic i => Nat.beq w 8 || (match P[a]? with
      | some M => mx_cal M b && (bif decide (v = 1) then decide ((y.cls, i, M.1) ∈ mx_NM) else true)
      | none => true)
    | .invokespecial i => Nat.beq w 9 || (match P[a]? with
      | some M => mx_cal M b && decide (M.1.name = "<init>") && decide (M.2.2.2.1 = none) && (bif decide (v = 1) then decide ((y.cls, i, M.1) ∈ mx_NM) else true)
      | none => true)
    | .ireturn => (match u with | 0 => decide (ret = some .int) | 1 => decide (ret = some .boolean) | 2 => decide (ret = some .char) | _ => decide (ret = some .byte))
    | .areturn => (match ret with | some t => mx_isref t | none => false)
    | .return_ => decide (ret = none)
    | .tableswitch d lo hi offs => decide ((pc : Int) + d = (a : Int)) && decide (hi + 1 = lo + (offs.toList.length : Int)) && mx_tb pc lo offs.toList cs
    | .lookupswitch d ps => decide ((pc : Int) + d = (a : Int)) && (ps.toList.zip (ps.toList.drop 1)).all (fun (a, next) => a.1 < next.1) && mx_lk pc ps.toList cs
    | _ => true)
end
section
/-! ===== the small machine is the JVM's: row by row ===== -/
def mx_g (base : Nat) (sk : Nat → Value) (q : Nat × Value) : Nat × Value := (q.1, mx_cv base sk q.2)
def mx_X (xs : List Int32) (P : List mx_M) (G : List Cond) (p : Program) (R : Room) (s : State) (m : MethodId) (args : Array Value) (meth : Method) (c : Code) (y : MethodName) (cc : ByteArray) (nL : Nat) (D : va_G) (ta : Nat → ClassId) (base : Nat) (sk : Nat → Value) (dd : Nat) (Ts : List Cond) (h0 : mx_H) : Prop :=
  CallFix p m c cc nL s args Ts y.cls ∧ (y.name = "<init>" → meth.name = "<init>") ∧ mx_C xs D ta base sk s s.heap ∧ s.heap.size = base + h0.length ∧ (∀ i, sk i = .null ∨ ∃ a, sk i = .ref a) ∧ (∀ w ∈ mx_WS, w ∈ Ts) ∧ (∀ (j : Nat) (M : mx_M), P[j]? = some M → GoodIn Ts (Cond.code M.1 M.2.1 M.2.2.1 M.2.2.2.1 :: G)) ∧ dd + 1 ≤ R.frames ∧ 36 * (dd + 1) ≤ R.locals
def mx_W (p : Program) (l : Launch) (e : Env) (R : Room) (s : State) (m : MethodId) (args : Array Value) (below : List Frame) (meth : Method) (c : Code) (D : va_G) (ta : Nat → ClassId) (base : Nat) (sk : Nat → Value) (h0 : mx_H) (nL : Nat) (Q : State → Prop) (pc : Nat) (ls : mx_L) (st : List Value) (h : mx_H) : Prop :=
  ∀ (H : Heap) (locs : List Loc) (lsC : Array Slot), mx_Rl D ta base sk h H → va_S (mx_A base) s.heap H locs → lv_has lsC nL (ls.map (mx_g base sk)) → h0.length ≤ h.length → mx_sz h0 ≤ mx_sz h → W p l e R s m args below meth c H locs (h.length - h0.length) (mx_sz h - mx_sz h0) Q (F0 m pc lsC (st.map (mx_cv base sk)))
/-- a reference, or null, or what is older -/
def mx_isr (v : Value) : Prop := (∃ x, v = .ref x) ∨ v = .null ∨ ∃ x, v = .retAddr x
section MXI
theorem iv_li {ls : mx_L} {i : Nat} {f : Int32 → mx_R} {q : Option Value × mx_H} (h : mx_li ls i f = some q) : ∃ x, mx_ld ls i = some (.int x) ∧ f x = some q := by
  unfold mx_li at h; split at h
  · rename_i x hx; exact ⟨x, hx, h⟩
  · cases h
theorem iv_la {ls : mx_L} {i : Nat} {f : Value → mx_R} {q : Option Value × mx_H} (h : mx_la ls i f = some q) : ∃ v, mx_ld ls i = some v ∧ mx_isr v ∧ f v = some q := by
  unfold mx_la at h; split at h
  · rename_i x hx; exact ⟨_, hx, Or.inl ⟨_, rfl⟩, h⟩
  · rename_i hx; exact ⟨_, hx, Or.inr (Or.inl rfl), h⟩
  · rename_i x hx; exact ⟨_, hx, Or.inr (Or.inr ⟨_, rfl⟩), h⟩
  · cases h
theorem iv_s1 {st : List Value} {f : Int32 → List Value → mx_R} {q : Option Value × mx_H} (h : mx_s1 st f = some q) : ∃ x r, st = .int x :: r ∧ f x r = some q := by
  unfold mx_s1 at h; split at h
  · exact ⟨_, _, rfl, h⟩
  · cases h
theorem iv_s2 {st : List Value} {f : Int32 → Int32 → List Value → mx_R} {q : Option Value × mx_H} (h : mx_s2 st f = some q) : ∃ x y r, st = .int y :: .int x :: r ∧ f x y r = some q := by
  unfold mx_s2 at h; split at h
  · exact ⟨_, _, _, rfl, h⟩
  · cases h
theorem iv_sa {st : List Value} {f : Value → List Value → mx_R} {q : Option Value × mx_H} (h : mx_sa st f = some q) : ∃ v r, st = v :: r ∧ mx_isr v ∧ f v r = some q := by
  unfold mx_sa at h; split at h
  · exact ⟨_, _, rfl, Or.inl ⟨_, rfl⟩, h⟩
  · exact ⟨_, _, rfl, Or.inr (Or.inl rfl), h⟩
  · exact ⟨_, _, rfl, Or.inr (Or.inr ⟨_, rfl⟩), h⟩
  · cases h
theorem iv_sr {st : List Value} {f : Nat → List Value → mx_R} {q : Option Value × mx_H} (h : mx_sr st f = some q) : ∃ x r, st = .ref x :: r ∧ f x r = some q := by
  unfold mx_sr at h; split at h
  · exact ⟨_, _, rfl, h⟩
  · cases h
theorem iv_sn {st : List Value} {f g : List Value → mx_R} {q : Option Value × mx_H} (h : mx_sn st f g = some q) : (∃ r, st = .null :: r ∧ f r = some q) ∨ ∃ x r, st = .ref x :: r ∧ g r = some q := by
  unfold mx_sn at h; split at h
  · exact Or.inl ⟨_, rfl, h⟩
  · exact Or.inr ⟨_, _, rfl, h⟩
  · cases h
theorem iv_d1 {st : List Value} {f : Value → List Value → mx_R} {q : Option Value × mx_H} (h : mx_d1 st f = some q) : ∃ v r, st = v :: r ∧ ((∃ x, v = .int x) ∨ ∃ x, v = .ref x) ∧ f v r = some q := by
  unfold mx_d1 at h; split at h
  · exact ⟨_, _, rfl, Or.inl ⟨_, rfl⟩, h⟩
  · exact ⟨_, _, rfl, Or.inr ⟨_, rfl⟩, h⟩
  · cases h
theorem iv_d2 {st : List Value} {f : Value → Value → List Value → mx_R} {q : Option Value × mx_H} (h : mx_d2 st f = some q) : ∃ v w r, st = v :: w :: r ∧ (∃ x, v = .int x) ∧ ((∃ x, w = .int x) ∨ ∃ x, w = .ref x) ∧ f v w r = some q := by
  unfold mx_d2 at h; split at h
  · exact ⟨_, _, _, rfl, ⟨_, rfl⟩, Or.inr ⟨_, rfl⟩, h⟩
  · exact ⟨_, _, _, rfl, ⟨_, rfl⟩, Or.inl ⟨_, rfl⟩, h⟩
  · cases h
theorem iv_ir {st : List Value} {f : Int32 → Nat → List Value → mx_R} {q : Option Value × mx_H} (h : mx_ir st f = some q) : ∃ x y r, st = .int x :: .ref y :: r ∧ f x y r = some q := by
  unfold mx_ir at h; split at h
  · exact ⟨_, _, _, rfl, h⟩
  · cases h
theorem iv_rr {st : List Value} {f : Nat → Nat → List Value → mx_R} {q : Option Value × mx_H} (h : mx_rr st f = some q) : ∃ x y r, st = .ref x :: .ref y :: r ∧ f x y r = some q := by
  unfold mx_rr at h; split at h
  · exact ⟨_, _, _, rfl, h⟩
  · cases h
theorem iv_iir {st : List Value} {f : Int32 → Int32 → Nat → List Value → mx_R} {q : Option Value × mx_H} (h : mx_iir st f = some q) : ∃ x i y r, st = .int x :: .int i :: .ref y :: r ∧ f x i y r = some q := by
  unfold mx_iir at h; split at h
  · exact ⟨_, _, _, _, rfl, h⟩
  · cases h
theorem iv_rir {st : List Value} {f : Nat → Int32 → Nat → List Value → mx_R} {q : Option Value × mx_H} (h : mx_rir st f = some q) : ∃ x i y r, st = .ref x :: .int i :: .ref y :: r ∧ f x i y r = some q := by
  unfold mx_rir at h; split at h
  · exact ⟨_, _, _, _, rfl, h⟩
  · cases h
theorem iv_cps {st : List Value} {f : Int32 → Int32 → Nat → Int32 → Nat → List Value → mx_R} {q : Option Value × mx_H} (h : mx_cps st f = some q) : ∃ n dp d sp s r, st = .int n :: .int dp :: .ref d :: .int sp :: .ref s :: r ∧ f n dp d sp s r = some q := by
  unfold mx_cps at h; split at h
  · exact ⟨_, _, _, _, _, _, rfl, h⟩
  · cases h
theorem iv_bif {b : Bool} {x : mx_R} {q : Option Value × mx_H} (h : (bif b then x else none) = some q) : b = true ∧ x = some q := by
  cases b
  · cases h
  · exact ⟨rfl, h⟩
theorem iv_gi {h : mx_H} {r ci k : Nat} {f : Int32 → mx_R} {q : Option Value × mx_H} (e : mx_gi h r ci k f = some q) : ∃ fs x, h[r]? = some (.inr (ci, fs)) ∧ fs[k]? = some (.int x) ∧ f x = some q := by
  unfold mx_gi at e; split at e
  · rename_i he
    split at e
    · rename_i hc
      subst hc
      split at e
      · rename_i hx; exact ⟨_, _, he, hx, e⟩
      · cases e
    · cases e
  · cases e
theorem iv_gr {h : mx_H} {r ci k : Nat} {f : Nat → mx_R} {q : Option Value × mx_H} (e : mx_gr h r ci k f = some q) : ∃ fs x, h[r]? = some (.inr (ci, fs)) ∧ fs[k]? = some (.ref x) ∧ f x = some q := by
  unfold mx_gr at e; split at e
  · rename_i he
    split at e
    · rename_i hc
      subst hc
      split at e
      · rename_i hx; exact ⟨_, _, he, hx, e⟩
      · cases e
    · cases e
  · cases e
theorem iv_pt {h : mx_H} {r ci k : Nat} {v : Value} {f : mx_H → mx_R} {q : Option Value × mx_H} (e : mx_pt h r ci k v f = some q) : ∃ fs, h[r]? = some (.inr (ci, fs)) ∧ k < fs.length ∧ f (h.set r (.inr (ci, fs.set k v))) = some q := by
  unfold mx_pt at e; split at e
  · rename_i he
    split at e
    · rename_i hc
      obtain ⟨rfl, hk⟩ := hc
      exact ⟨_, he, hk, e⟩
    · cases e
  · cases e
theorem iv_ai {h : mx_H} {r t : Nat} {i : Int32} {f : Int32 → mx_R} {q : Option Value × mx_H} (e : mx_ai h r t i f = some q) : ∃ n g, h[r]? = some (.inl (t, n, .inl g)) ∧ vp_in i n ∧ f (g i.toNatClampNeg) = some q := by
  unfold mx_ai at e; split at e
  · rename_i he
    split at e
    · rename_i hc
      obtain ⟨rfl, hk⟩ := hc
      exact ⟨_, _, he, hk, e⟩
    · cases e
  · cases e
theorem iv_as {h : mx_H} {r t : Nat} {i x : Int32} {f : mx_H → mx_R} {q : Option Value × mx_H} (e : mx_as h r t i x f = some q) : ∃ n g, h[r]? = some (.inl (t, n, .inl g)) ∧ vp_in i n ∧ f (h.set r (.inl (t, n, .inl (upd g i.toNatClampNeg x)))) = some q := by
  unfold mx_as at e; split at e
  · rename_i he
    split at e
    · rename_i hc
      obtain ⟨rfl, hk⟩ := hc
      exact ⟨_, _, he, hk, e⟩
    · cases e
  · cases e
theorem iv_aa {h : mx_H} {r : Nat} {i : Int32} {f : Nat → mx_R} {q : Option Value × mx_H} (e : mx_aa h r i f = some q) : ∃ c n g a, h[r]? = some (.inl (c, n, .inr (.inr (.inr (.inr g))))) ∧ (3 ≤ c ∧ c ≤ 6) ∧ vp_in i n ∧ g i.toNatClampNeg = some a ∧ f a = some q := by
  unfold mx_aa at e; split at e
  · rename_i he
    split at e
    · rename_i hc
      split at e
      · rename_i ha
        exact ⟨_, _, _, _, he, hc.1, hc.2, ha, e⟩
      · cases e
    · cases e
  · cases e
theorem iv_at {h : mx_H} {r : Nat} {i : Int32} {v : Nat} {f : mx_H → mx_R} {q : Option Value × mx_H} (e : mx_at h r i v f = some q) : ∃ c n g fs, h[r]? = some (.inl (c, n, .inr (.inr (.inr (.inr g))))) ∧ h[v]? = some (.inr (mx_kc c, fs)) ∧ (3 ≤ c ∧ c ≤ 6) ∧ vp_in i n ∧ f (h.set r (.inl (c, n, .inr (.inr (.inr (.inr (va_up g i.toNatClampNeg (some v)))))))) = some q := by
  unfold mx_at at e; split at e
  · rename_i he hv
    split at e
    · rename_i hc
      obtain ⟨h1, rfl, h2⟩ := hc
      exact ⟨_, _, _, _, he, hv, h1, h2, e⟩
    · cases e
  · cases e
theorem iv_al {h : mx_H} {r : Nat} {f : Int32 → mx_R} {q : Option Value × mx_H} (e : mx_al h r f = some q) : ∃ c n x, h[r]? = some (.inl (c, n, x)) ∧ c < 7 ∧ f (Int32.ofNat n) = some q := by
  unfold mx_al at e; split at e
  · rename_i he
    split at e
    · rename_i hc; exact ⟨_, _, _, he, hc, e⟩
    · cases e
  · cases e
theorem iv_ck {xs : List Int32} {t r : Nat} {i : Int32} {f : Int32 → mx_R} {q : Option Value × mx_H} (e : mx_ck xs t r i f = some q) : ∃ l, mx_kt xs r = some (t, l) ∧ vp_in i l.length ∧ f (l.getD i.toNatClampNeg 0) = some q := by
  unfold mx_ck at e; split at e
  · rename_i he
    split at e
    · rename_i hc
      obtain ⟨rfl, hk⟩ := hc
      exact ⟨_, he, hk, e⟩
    · cases e
  · cases e
theorem iv_cn {xs : List Int32} {r : Nat} {f : Int32 → mx_R} {q : Option Value × mx_H} (e : mx_cn xs r f = some q) : ∃ t l, mx_kt xs r = some (t, l) ∧ f (Int32.ofNat l.length) = some q := by
  unfold mx_cn at e; split at e
  · rename_i he; exact ⟨_, _, he, e⟩
  · cases e
theorem iv_cp {h : mx_H} {s d : Nat} {sp dp n : Int32} {f : mx_H → mx_R} {q : Option Value × mx_H} (e : mx_cp h s sp d dp n f = some q) : ∃ n0 f0 n1 f1, h[s]? = some (.inl (0, n0, .inl f0)) ∧ h[d]? = some (.inl (0, n1, .inl f1)) ∧ ¬ sp < 0 ∧ ¬ dp < 0 ∧ ¬ n < 0 ∧ sp.toNatClampNeg + n.toNatClampNeg ≤ n0 ∧ dp.toNatClampNeg + n.toNatClampNeg ≤ n1 ∧ f (h.set d (.inl (0, n1, .inl (va_cpy f0 f1 sp.toNatClampNeg dp.toNatClampNeg n.toNatClampNeg)))) = some q := by
  unfold mx_cp at e; split at e
  · rename_i h1 h2
    split at e
    · rename_i hc
      obtain ⟨rfl, rfl, c1, c2, c3, c4, c5⟩ := hc
      exact ⟨_, _, _, _, h1, h2, c1, c2, c3, c4, c5, e⟩
    · cases e
  · cases e
/-- what came back, and the stack with it -/
theorem iv_bk {w : Nat} {r : mx_R} {rest : List Value} {f : List Value → mx_H → mx_R} {q : Option Value × mx_H} (e : mx_bk w r rest f = some q) : ∃ v g, r = some (v, g) ∧ f (v.toList ++ rest) g = some q := by
  unfold mx_bk at e; split at e
  · unfold mx_c0 at e; split at e
    · exact ⟨_, _, rfl, e⟩
    · cases e
  · unfold mx_c1 at e; split at e
    · exact ⟨_, _, rfl, e⟩
    · cases e
  · unfold mx_c2 at e; split at e
    · exact ⟨_, _, rfl, e⟩
    · cases e
  · unfold mx_c3 at e; split at e
    · exact ⟨_, _, rfl, e⟩
    · exact ⟨_, _, rfl, e⟩
    · cases e
  · unfold mx_c4 at e; split at e
    · exact ⟨_, _, rfl, e⟩
    · cases e
theorem iv_cl {h : mx_H} {r ci : Nat} {x : mx_R} {q : Option Value × mx_H} (e : mx_cl h r ci x = some q) : ∃ fs, h[r]? = some (.inr (ci, fs)) ∧ x = some q := by
  unfold mx_cl at e; split at e
  · rename_i he
    split at e
    · rename_i hc; subst hc; exact ⟨_, he, e⟩
    · cases e
  · cases e
theorem mx_ld_mem {ls : mx_L} {i : Nat} {v : Value} (h : mx_ld ls i = some v) : (i, v) ∈ ls := by
  unfold mx_ld at h; split at h
  · rename_i q hq
    cases h
    have h1 := List.find?_some hq
    have h2 := List.mem_of_find?_eq_some hq
    have h3 : q.1 = i := Nat.eq_of_beq_eq_true h1
    rw [← h3]
    exact h2
  · cases h
theorem mx_nm_sub {ls : mx_L} : ∀ {is : List Nat} {q : Nat × Value}, q ∈ mx_nm is ls → q ∈ ls
  | [], q, h => by cases h
  | i :: is, q, h => by
    unfold mx_nm at h
    split at h
    · rename_i v hv
      rcases List.mem_cons.mp h with h | h
      · rw [h]; exact mx_ld_mem hv
      · exact mx_nm_sub h
    · exact mx_nm_sub h
theorem mx_cat {base : Nat} {sk : Nat → Value} (hs : ∀ i, sk i = .null ∨ ∃ a, sk i = .ref a) (v : Value) : (mx_cv base sk v).category = v.category := by
  cases v with
  | retAddr i =>
    show (sk i).category = 1
    rcases hs i with h | ⟨a, h⟩ <;> rw [h] <;> rfl
  | _ => rfl
theorem mx_st_map {base : Nat} {sk : Nat → Value} (hs : ∀ i, sk i = .null ∨ ∃ a, sk i = .ref a) (ls : mx_L) (i : Nat) (v : Value) : (i, mx_cv base sk v) :: (ls.map (mx_g base sk)).filter (fun q => !(q.1 == i) && !(q.1 + 1 == i && q.2.category == 2)) = (mx_st ls i v).map (mx_g base sk) := by
  unfold mx_st
  rw [List.map_cons, List.filter_map]
  congr 3
  funext q
  simp only [Function.comp, mx_g, mx_cat hs]
theorem mx_cats {base : Nat} {sk : Nat → Value} (hs : ∀ i, sk i = .null ∨ ∃ a, sk i = .ref a) (st : List Value) : ((st.map (mx_cv base sk)).map fun v => v.category) = st.map fun v => v.category := by
  rw [List.map_map]
  apply List.map_congr_left
  intro v _
  exact mx_cat hs v
theorem isr_cv {base : Nat} {sk : Nat → Value} (hs : ∀ i, sk i = .null ∨ ∃ a, sk i = .ref a) {v : Value} (h : mx_isr v) : mx_cv base sk v = .null ∨ ∃ a, mx_cv base sk v = .ref a := by
  rcases h with ⟨x, rfl⟩ | rfl | ⟨x, rfl⟩
  · exact Or.inr ⟨_, rfl⟩
  · exact Or.inl rfl
  · exact hs x
end MXI

section MXS
variable {p : Program} {l : Launch} {e : Env} {R : Room} {s : State} {m : MethodId} {args : Array Value} {below : List Frame} {meth : Method} {c : Code} {Q : State → Prop}
variable {xs : List Int32} {P : List mx_M} {G : List Cond} {y : MethodName} {cc : ByteArray} {nL : Nat} {ret : Option FieldType} {D : va_G} {ta : Nat → ClassId} {base : Nat} {sk : Nat → Value} {dd : Nat} {Ts : List Cond} {h0 : mx_H}
theorem sd_iconst {pc : Nat} {ls : mx_L} {st : List Value} {h : mx_H} (X : mx_X xs P G p R s m args meth c y cc nL D ta base sk dd Ts h0) {n : Int} {v : Int32} (hv : Int32.ofInt n = v) (hd : decode cc pc = .ok (.iconst n, 1)) (k : mx_W p l e R s m args below meth c D ta base sk h0 nL Q (pc + 1) (ls) (.int v :: st) (h)) : mx_W p l e R s m args below meth c D ta base sk h0 nL Q (pc) (ls) (st) (h) := by
  obtain ⟨⟨hx, hb, hml, hown, hts⟩, hini, hC, hz0, hsk, hWS, hGd, hfr, hlo⟩ := X
  exact fun H locs lsC hR hS hl a1 a2 => lv_iconst hx hb hd hv (k H locs lsC hR hS hl a1 a2)
theorem sd_bipush {pc : Nat} {ls : mx_L} {st : List Value} {h : mx_H} (X : mx_X xs P G p R s m args meth c y cc nL D ta base sk dd Ts h0) {n : Int} {v : Int32} (hv : (Int8.ofInt n).toInt32 = v) (hd : decode cc pc = .ok (.bipush n, 2)) (k : mx_W p l e R s m args below meth c D ta base sk h0 nL Q (pc + 2) (ls) (.int v :: st) (h)) : mx_W p l e R s m args below meth c D ta base sk h0 nL Q (pc) (ls) (st) (h) := by
  obtain ⟨⟨hx, hb, hml, hown, hts⟩, hini, hC, hz0, hsk, hWS, hGd, hfr, hlo⟩ := X
  exact fun H locs lsC hR hS hl a1 a2 => lv_bipush hx hb hd hv (k H locs lsC hR hS hl a1 a2)
theorem sd_sipush {pc : Nat} {ls : mx_L} {st : List Value} {h : mx_H} (X : mx_X xs P G p R s m args meth c y cc nL D ta base sk dd Ts h0) {n : Int} {v : Int32} (hv : (Int16.ofInt n).toInt32 = v) (hd : decode cc pc = .ok (.sipush n, 3)) (k : mx_W p l e R s m args below meth c D ta base sk h0 nL Q (pc + 3) (ls) (.int v :: st) (h)) : mx_W p l e R s m args below meth c D ta base sk h0 nL Q (pc) (ls) (st) (h) := by
  obtain ⟨⟨hx, hb, hml, hown, hts⟩, hini, hC, hz0, hsk, hWS, hGd, hfr, hlo⟩ := X
  exact fun H locs lsC hR hS hl a1 a2 => lv_sipush hx hb hd hv (k H locs lsC hR hS hl a1 a2)
theorem sd_ldc {pc : Nat} {ls : mx_L} {st : List Value} {h : mx_H} (X : mx_X xs P G p R s m args meth c y cc nL D ta base sk dd Ts h0) {i : Nat} {v : Int32} (hv : Cond.constant y.cls i v ∈ Ts) (hd : decode cc pc = .ok (.ldc i, 2)) (k : mx_W p l e R s m args below meth c D ta base sk h0 nL Q (pc + 2) (ls) (.int v :: st) (h)) : mx_W p l e R s m args below meth c D ta base sk h0 nL Q (pc) (ls) (st) (h) := by
  obtain ⟨⟨hx, hb, hml, hown, hts⟩, hini, hC, hz0, hsk, hWS, hGd, hfr, hlo⟩ := X
  exact fun H locs lsC hR hS hl a1 a2 => lv_ldc hx hb hown (hts _ hv) hd (k H locs lsC hR hS hl a1 a2)
theorem sd_ldcw {pc : Nat} {ls : mx_L} {st : List Value} {h : mx_H} (X : mx_X xs P G p R s m args meth c y cc nL D ta base sk dd Ts h0) {i : Nat} {v : Int32} (hv : Cond.constant y.cls i v ∈ Ts) (hd : decode cc pc = .ok (.ldc_w i, 3)) (k : mx_W p l e R s m args below meth c D ta base sk h0 nL Q (pc + 3) (ls) (.int v :: st) (h)) : mx_W p l e R s m args below meth c D ta base sk h0 nL Q (pc) (ls) (st) (h) := by
  obtain ⟨⟨hx, hb, hml, hown, hts⟩, hini, hC, hz0, hsk, hWS, hGd, hfr, hlo⟩ := X
  exact fun H locs lsC hR hS hl a1 a2 => lv_ldcw hx hb hown (hts _ hv) hd (k H locs lsC hR hS hl a1 a2)
theorem sd_null {pc : Nat} {ls : mx_L} {st : List Value} {h : mx_H} (X : mx_X xs P G p R s m args meth c y cc nL D ta base sk dd Ts h0)  (hd : decode cc pc = .ok (.aconst_null, 1)) (k : mx_W p l e R s m args below meth c D ta base sk h0 nL Q (pc + 1) (ls) (.null :: st) (h)) : mx_W p l e R s m args below meth c D ta base sk h0 nL Q (pc) (ls) (st) (h) := by
  obtain ⟨⟨hx, hb, hml, hown, hts⟩, hini, hC, hz0, hsk, hWS, hGd, hfr, hlo⟩ := X
  exact fun H locs lsC hR hS hl a1 a2 => lv_null hx hb hd (k H locs lsC hR hS hl a1 a2)
theorem sd_iadd {pc : Nat} {ls : mx_L} {st : List Value} {h : mx_H} (X : mx_X xs P G p R s m args meth c y cc nL D ta base sk dd Ts h0) {x z : Int32} (hd : decode cc pc = .ok (.iadd, 1)) (k : mx_W p l e R s m args below meth c D ta base sk h0 nL Q (pc + 1) (ls) (.int (x + z) :: st) (h)) : mx_W p l e R s m args below meth c D ta base sk h0 nL Q (pc) (ls) (.int z :: .int x :: st) (h) := by
  obtain ⟨⟨hx, hb, hml, hown, hts⟩, hini, hC, hz0, hsk, hWS, hGd, hfr, hlo⟩ := X
  exact fun H locs lsC hR hS hl a1 a2 => lv_iadd hx hb hd (k H locs lsC hR hS hl a1 a2)
theorem sd_isub {pc : Nat} {ls : mx_L} {st : List Value} {h : mx_H} (X : mx_X xs P G p R s m args meth c y cc nL D ta base sk dd Ts h0) {x z : Int32} (hd : decode cc pc = .ok (.isub, 1)) (k : mx_W p l e R s m args below meth c D ta base sk h0 nL Q (pc + 1) (ls) (.int (x - z) :: st) (h)) : mx_W p l e R s m args below meth c D ta base sk h0 nL Q (pc) (ls) (.int z :: .int x :: st) (h) := by
  obtain ⟨⟨hx, hb, hml, hown, hts⟩, hini, hC, hz0, hsk, hWS, hGd, hfr, hlo⟩ := X
  exact fun H locs lsC hR hS hl a1 a2 => lv_isub hx hb hd (k H locs lsC hR hS hl a1 a2)
theorem sd_imul {pc : Nat} {ls : mx_L} {st : List Value} {h : mx_H} (X : mx_X xs P G p R s m args meth c y cc nL D ta base sk dd Ts h0) {x z : Int32} (hd : decode cc pc = .ok (.imul, 1)) (k : mx_W p l e R s m args below meth c D ta base sk h0 nL Q (pc + 1) (ls) (.int (x * z) :: st) (h)) : mx_W p l e R s m args below meth c D ta base sk h0 nL Q (pc) (ls) (.int z :: .int x :: st) (h) := by
  obtain ⟨⟨hx, hb, hml, hown, hts⟩, hini, hC, hz0, hsk, hWS, hGd, hfr, hlo⟩ := X
  exact fun H locs lsC hR hS hl a1 a2 => lv_imul hx hb hd (k H locs lsC hR hS hl a1 a2)
theorem sd_iand {pc : Nat} {ls : mx_L} {st : List Value} {h : mx_H} (X : mx_X xs P G p R s m args meth c y cc nL D ta base sk dd Ts h0) {x z : Int32} (hd : decode cc pc = .ok (.iand, 1)) (k : mx_W p l e R s m args below meth c D ta base sk h0 nL Q (pc + 1) (ls) (.int (x &&& z) :: st) (h)) : mx_W p l e R s m args below meth c D ta base sk h0 nL Q (pc) (ls) (.int z :: .int x :: st) (h) := by
  obtain ⟨⟨hx, hb, hml, hown, hts⟩, hini, hC, hz0, hsk, hWS, hGd, hfr, hlo⟩ := X
  exact fun H locs lsC hR hS hl a1 a2 => lv_iand hx hb hd (k H locs lsC hR hS hl a1 a2)
theorem sd_ior {pc : Nat} {ls : mx_L} {st : List Value} {h : mx_H} (X : mx_X xs P G p R s m args meth c y cc nL D ta base sk dd Ts h0) {x z : Int32} (hd : decode cc pc = .ok (.ior, 1)) (k : mx_W p l e R s m args below meth c D ta base sk h0 nL Q (pc + 1) (ls) (.int (x ||| z) :: st) (h)) : mx_W p l e R s m args below meth c D ta base sk h0 nL Q (pc) (ls) (.int z :: .int x :: st) (h) := by
  obtain ⟨⟨hx, hb, hml, hown, hts⟩, hini, hC, hz0, hsk, hWS, hGd, hfr, hlo⟩ := X
  exact fun H locs lsC hR hS hl a1 a2 => lv_ior hx hb hd (k H locs lsC hR hS hl a1 a2)
theorem sd_ixor {pc : Nat} {ls : mx_L} {st : List Value} {h : mx_H} (X : mx_X xs P G p R s m args meth c y cc nL D ta base sk dd Ts h0) {x z : Int32} (hd : decode cc pc = .ok (.ixor, 1)) (k : mx_W p l e R s m args below meth c D ta base sk h0 nL Q (pc + 1) (ls) (.int (x ^^^ z) :: st) (h)) : mx_W p l e R s m args below meth c D ta base sk h0 nL Q (pc) (ls) (.int z :: .int x :: st) (h) := by
  obtain ⟨⟨hx, hb, hml, hown, hts⟩, hini, hC, hz0, hsk, hWS, hGd, hfr, hlo⟩ := X
  exact fun H locs lsC hR hS hl a1 a2 => lv_ixor hx hb hd (k H locs lsC hR hS hl a1 a2)
theorem sd_ishl {pc : Nat} {ls : mx_L} {st : List Value} {h : mx_H} (X : mx_X xs P G p R s m args meth c y cc nL D ta base sk dd Ts h0) {x z : Int32} (hd : decode cc pc = .ok (.ishl, 1)) (k : mx_W p l e R s m args below meth c D ta base sk h0 nL Q (pc + 1) (ls) (.int (x <<< (z &&& 31)) :: st) (h)) : mx_W p l e R s m args below meth c D ta base sk h0 nL Q (pc) (ls) (.int z :: .int x :: st) (h) := by
  obtain ⟨⟨hx, hb, hml, hown, hts⟩, hini, hC, hz0, hsk, hWS, hGd, hfr, hlo⟩ := X
  exact fun H locs lsC hR hS hl a1 a2 => lv_ishl hx hb hd (k H locs lsC hR hS hl a1 a2)
theorem sd_ishr {pc : Nat} {ls : mx_L} {st : List Value} {h : mx_H} (X : mx_X xs P G p R s m args meth c y cc nL D ta base sk dd Ts h0) {x z : Int32} (hd : decode cc pc = .ok (.ishr, 1)) (k : mx_W p l e R s m args below meth c D ta base sk h0 nL Q (pc + 1) (ls) (.int (x >>> (z &&& 31)) :: st) (h)) : mx_W p l e R s m args below meth c D ta base sk h0 nL Q (pc) (ls) (.int z :: .int x :: st) (h) := by
  obtain ⟨⟨hx, hb, hml, hown, hts⟩, hini, hC, hz0, hsk, hWS, hGd, hfr, hlo⟩ := X
  exact fun H locs lsC hR hS hl a1 a2 => lv_ishr hx hb hd (k H locs lsC hR hS hl a1 a2)
theorem sd_iushr {pc : Nat} {ls : mx_L} {st : List Value} {h : mx_H} (X : mx_X xs P G p R s m args meth c y cc nL D ta base sk dd Ts h0) {x z : Int32} (hd : decode cc pc = .ok (.iushr, 1)) (k : mx_W p l e R s m args below meth c D ta base sk h0 nL Q (pc + 1) (ls) (.int (mx_us x z) :: st) (h)) : mx_W p l e R s m args below meth c D ta base sk h0 nL Q (pc) (ls) (.int z :: .int x :: st) (h) := by
  obtain ⟨⟨hx, hb, hml, hown, hts⟩, hini, hC, hz0, hsk, hWS, hGd, hfr, hlo⟩ := X
  exact fun H locs lsC hR hS hl a1 a2 => lv_iushr hx hb hd rfl (k H locs lsC hR hS hl a1 a2)
theorem sd_idiv {pc : Nat} {ls : mx_L} {st : List Value} {h : mx_H} (X : mx_X xs P G p R s m args meth c y cc nL D ta base sk dd Ts h0) {x z : Int32} (hz : ¬ z = 0) (hd : decode cc pc = .ok (.idiv, 1)) (k : mx_W p l e R s m args below meth c D ta base sk h0 nL Q (pc + 1) (ls) (.int (x / z) :: st) (h)) : mx_W p l e R s m args below meth c D ta base sk h0 nL Q (pc) (ls) (.int z :: .int x :: st) (h) := by
  obtain ⟨⟨hx, hb, hml, hown, hts⟩, hini, hC, hz0, hsk, hWS, hGd, hfr, hlo⟩ := X
  exact fun H locs lsC hR hS hl a1 a2 => lv_idiv hx hb hd hz (k H locs lsC hR hS hl a1 a2)
theorem sd_irem {pc : Nat} {ls : mx_L} {st : List Value} {h : mx_H} (X : mx_X xs P G p R s m args meth c y cc nL D ta base sk dd Ts h0) {x z : Int32} (hz : ¬ z = 0) (hd : decode cc pc = .ok (.irem, 1)) (k : mx_W p l e R s m args below meth c D ta base sk h0 nL Q (pc + 1) (ls) (.int (mx_rm x z) :: st) (h)) : mx_W p l e R s m args below meth c D ta base sk h0 nL Q (pc) (ls) (.int z :: .int x :: st) (h) := by
  obtain ⟨⟨hx, hb, hml, hown, hts⟩, hini, hC, hz0, hsk, hWS, hGd, hfr, hlo⟩ := X
  exact fun H locs lsC hR hS hl a1 a2 => lv_irem hx hb hd hz (k H locs lsC hR hS hl a1 a2)
theorem sd_ineg {pc : Nat} {ls : mx_L} {st : List Value} {h : mx_H} (X : mx_X xs P G p R s m args meth c y cc nL D ta base sk dd Ts h0) {x : Int32} (hd : decode cc pc = .ok (.ineg, 1)) (k : mx_W p l e R s m args below meth c D ta base sk h0 nL Q (pc + 1) (ls) (.int (-x) :: st) (h)) : mx_W p l e R s m args below meth c D ta base sk h0 nL Q (pc) (ls) (.int x :: st) (h) := by
  obtain ⟨⟨hx, hb, hml, hown, hts⟩, hini, hC, hz0, hsk, hWS, hGd, hfr, hlo⟩ := X
  exact fun H locs lsC hR hS hl a1 a2 => lv_ineg hx hb hd (k H locs lsC hR hS hl a1 a2)
theorem sd_i2s {pc : Nat} {ls : mx_L} {st : List Value} {h : mx_H} (X : mx_X xs P G p R s m args meth c y cc nL D ta base sk dd Ts h0) {x : Int32} (hd : decode cc pc = .ok (.i2s, 1)) (k : mx_W p l e R s m args below meth c D ta base sk h0 nL Q (pc + 1) (ls) (.int x.toInt16.toInt32 :: st) (h)) : mx_W p l e R s m args below meth c D ta base sk h0 nL Q (pc) (ls) (.int x :: st) (h) := by
  obtain ⟨⟨hx, hb, hml, hown, hts⟩, hini, hC, hz0, hsk, hWS, hGd, hfr, hlo⟩ := X
  exact fun H locs lsC hR hS hl a1 a2 => lv_i2s hx hb hd rfl (k H locs lsC hR hS hl a1 a2)
theorem sd_i2b {pc : Nat} {ls : mx_L} {st : List Value} {h : mx_H} (X : mx_X xs P G p R s m args meth c y cc nL D ta base sk dd Ts h0) {x : Int32} (hd : decode cc pc = .ok (.i2b, 1)) (k : mx_W p l e R s m args below meth c D ta base sk h0 nL Q (pc + 1) (ls) (.int x.toInt8.toInt32 :: st) (h)) : mx_W p l e R s m args below meth c D ta base sk h0 nL Q (pc) (ls) (.int x :: st) (h) := by
  obtain ⟨⟨hx, hb, hml, hown, hts⟩, hini, hC, hz0, hsk, hWS, hGd, hfr, hlo⟩ := X
  exact fun H locs lsC hR hS hl a1 a2 => lv_i2b hx hb hd rfl (k H locs lsC hR hS hl a1 a2)
theorem sd_i2c {pc : Nat} {ls : mx_L} {st : List Value} {h : mx_H} (X : mx_X xs P G p R s m args meth c y cc nL D ta base sk dd Ts h0) {x : Int32} (hd : decode cc pc = .ok (.i2c, 1)) (k : mx_W p l e R s m args below meth c D ta base sk h0 nL Q (pc + 1) (ls) (.int (x.toUInt32 % 65536).toInt32 :: st) (h)) : mx_W p l e R s m args below meth c D ta base sk h0 nL Q (pc) (ls) (.int x :: st) (h) := by
  obtain ⟨⟨hx, hb, hml, hown, hts⟩, hini, hC, hz0, hsk, hWS, hGd, hfr, hlo⟩ := X
  exact fun H locs lsC hR hS hl a1 a2 => lv_i2c hx hb hd rfl (k H locs lsC hR hS hl a1 a2)
theorem sd_dup {pc : Nat} {ls : mx_L} {st : List Value} {h : mx_H} (X : mx_X xs P G p R s m args meth c y cc nL D ta base sk dd Ts h0) {v : Value} (hv : v.category = 1) (hd : decode cc pc = .ok (.dup, 1)) (k : mx_W p l e R s m args below meth c D ta base sk h0 nL Q (pc + 1) (ls) (v :: v :: st) (h)) : mx_W p l e R s m args below meth c D ta base sk h0 nL Q (pc) (ls) (v :: st) (h) := by
  obtain ⟨⟨hx, hb, hml, hown, hts⟩, hini, hC, hz0, hsk, hWS, hGd, hfr, hlo⟩ := X
  exact fun H locs lsC hR hS hl a1 a2 => lv_dup hx hb hd ((mx_cat hsk _).trans hv) (k H locs lsC hR hS hl a1 a2)
theorem sd_dup2 {pc : Nat} {ls : mx_L} {st : List Value} {h : mx_H} (X : mx_X xs P G p R s m args meth c y cc nL D ta base sk dd Ts h0) {v w : Value} (hv : v.category = 1) (hw : w.category = 1) (hd : decode cc pc = .ok (.dup2, 1)) (k : mx_W p l e R s m args below meth c D ta base sk h0 nL Q (pc + 1) (ls) (v :: w :: v :: w :: st) (h)) : mx_W p l e R s m args below meth c D ta base sk h0 nL Q (pc) (ls) (v :: w :: st) (h) := by
  obtain ⟨⟨hx, hb, hml, hown, hts⟩, hini, hC, hz0, hsk, hWS, hGd, hfr, hlo⟩ := X
  exact fun H locs lsC hR hS hl a1 a2 => lv_dup2_11 hx hb hd ((mx_cat hsk _).trans hv) ((mx_cat hsk _).trans hw) (k H locs lsC hR hS hl a1 a2)
theorem sd_pop {pc : Nat} {ls : mx_L} {st : List Value} {h : mx_H} (X : mx_X xs P G p R s m args meth c y cc nL D ta base sk dd Ts h0) {v : Value} (hv : v.category = 1) (hd : decode cc pc = .ok (.pop, 1)) (k : mx_W p l e R s m args below meth c D ta base sk h0 nL Q (pc + 1) (ls) (st) (h)) : mx_W p l e R s m args below meth c D ta base sk h0 nL Q (pc) (ls) (v :: st) (h) := by
  obtain ⟨⟨hx, hb, hml, hown, hts⟩, hini, hC, hz0, hsk, hWS, hGd, hfr, hlo⟩ := X
  exact fun H locs lsC hR hS hl a1 a2 => lv_pop hx hb hd ((mx_cat hsk _).trans hv) (k H locs lsC hR hS hl a1 a2)
theorem sd_iload {pc : Nat} {ls : mx_L} {st : List Value} {h : mx_H} (X : mx_X xs P G p R s m args meth c y cc nL D ta base sk dd Ts h0) {i : Nat} {x : Int32} (hv : mx_ld ls i = some (.int x)) (hd : decode cc pc = .ok (.iload i, 2)) (k : mx_W p l e R s m args below meth c D ta base sk h0 nL Q (pc + 2) (ls) (.int x :: st) (h)) : mx_W p l e R s m args below meth c D ta base sk h0 nL Q (pc) (ls) (st) (h) := by
  obtain ⟨⟨hx, hb, hml, hown, hts⟩, hini, hC, hz0, hsk, hWS, hGd, hfr, hlo⟩ := X
  exact fun H locs lsC hR hS hl a1 a2 => lv_iload hx hb hd (hl.2.2 _ (List.mem_map_of_mem (f := mx_g base sk) (mx_ld_mem hv))) (k H locs lsC hR hS hl a1 a2)
theorem sd_iload_n {pc : Nat} {ls : mx_L} {st : List Value} {h : mx_H} (X : mx_X xs P G p R s m args meth c y cc nL D ta base sk dd Ts h0) {n : Fin 4} {x : Int32} (hv : mx_ld ls n.val = some (.int x)) (hd : decode cc pc = .ok (.iload_n n, 1)) (k : mx_W p l e R s m args below meth c D ta base sk h0 nL Q (pc + 1) (ls) (.int x :: st) (h)) : mx_W p l e R s m args below meth c D ta base sk h0 nL Q (pc) (ls) (st) (h) := by
  obtain ⟨⟨hx, hb, hml, hown, hts⟩, hini, hC, hz0, hsk, hWS, hGd, hfr, hlo⟩ := X
  exact fun H locs lsC hR hS hl a1 a2 => lv_iload_n hx hb hd rfl (hl.2.2 _ (List.mem_map_of_mem (f := mx_g base sk) (mx_ld_mem hv))) (k H locs lsC hR hS hl a1 a2)
theorem sd_aload {pc : Nat} {ls : mx_L} {st : List Value} {h : mx_H} (X : mx_X xs P G p R s m args meth c y cc nL D ta base sk dd Ts h0) {i : Nat} {v : Value} (hv : mx_ld ls i = some v) (hr : mx_isr v) (hd : decode cc pc = .ok (.aload i, 2)) (k : mx_W p l e R s m args below meth c D ta base sk h0 nL Q (pc + 2) (ls) (v :: st) (h)) : mx_W p l e R s m args below meth c D ta base sk h0 nL Q (pc) (ls) (st) (h) := by
  obtain ⟨⟨hx, hb, hml, hown, hts⟩, hini, hC, hz0, hsk, hWS, hGd, hfr, hlo⟩ := X
  intro H locs lsC hR hS hl a1 a2
  have hg : lsC[i]? = some (.val (mx_cv base sk v)) := hl.2.2 _ (List.mem_map_of_mem (f := mx_g base sk) (mx_ld_mem hv))
  have k2 := k H locs lsC hR hS hl a1 a2
  rw [List.map_cons] at k2
  rcases isr_cv (base := base) hsk hr with h1 | ⟨a, h1⟩
  · rw [h1] at hg k2
    exact lv_aloadN hx hb hd hg k2
  · rw [h1] at hg k2
    exact lv_aload hx hb hd hg k2
theorem sd_aload_n {pc : Nat} {ls : mx_L} {st : List Value} {h : mx_H} (X : mx_X xs P G p R s m args meth c y cc nL D ta base sk dd Ts h0) {n : Fin 4} {v : Value} (hv : mx_ld ls n.val = some v) (hr : mx_isr v) (hd : decode cc pc = .ok (.aload_n n, 1)) (k : mx_W p l e R s m args below meth c D ta base sk h0 nL Q (pc + 1) (ls) (v :: st) (h)) : mx_W p l e R s m args below meth c D ta base sk h0 nL Q (pc) (ls) (st) (h) := by
  obtain ⟨⟨hx, hb, hml, hown, hts⟩, hini, hC, hz0, hsk, hWS, hGd, hfr, hlo⟩ := X
  intro H locs lsC hR hS hl a1 a2
  have hg : lsC[n.val]? = some (.val (mx_cv base sk v)) := hl.2.2 _ (List.mem_map_of_mem (f := mx_g base sk) (mx_ld_mem hv))
  have k2 := k H locs lsC hR hS hl a1 a2
  rw [List.map_cons] at k2
  rcases isr_cv (base := base) hsk hr with h1 | ⟨a, h1⟩
  · rw [h1] at hg k2
    exact lv_aload_nN hx hb hd rfl hg k2
  · rw [h1] at hg k2
    exact lv_aload_n hx hb hd rfl hg k2
theorem sd_istore {pc : Nat} {ls : mx_L} {st : List Value} {h : mx_H} (X : mx_X xs P G p R s m args meth c y cc nL D ta base sk dd Ts h0) {i : Nat} {x : Int32} (hn : i < nL) (hd : decode cc pc = .ok (.istore i, 2)) (k : mx_W p l e R s m args below meth c D ta base sk h0 nL Q (pc + 2) (mx_st ls i (.int x)) (st) (h)) : mx_W p l e R s m args below meth c D ta base sk h0 nL Q (pc) (ls) (.int x :: st) (h) := by
  obtain ⟨⟨hx, hb, hml, hown, hts⟩, hini, hC, hz0, hsk, hWS, hGd, hfr, hlo⟩ := X
  exact fun H locs lsC hR hS hl a1 a2 => lv_istore hx hb hd hl hn (mx_st_map hsk ls _ (.int x)) (fun ls2 hl2 => k H locs ls2 hR hS hl2 a1 a2)
theorem sd_istore_n {pc : Nat} {ls : mx_L} {st : List Value} {h : mx_H} (X : mx_X xs P G p R s m args meth c y cc nL D ta base sk dd Ts h0) {n : Fin 4} {x : Int32} (hn : n.val < nL) (hd : decode cc pc = .ok (.istore_n n, 1)) (k : mx_W p l e R s m args below meth c D ta base sk h0 nL Q (pc + 1) (mx_st ls n.val (.int x)) (st) (h)) : mx_W p l e R s m args below meth c D ta base sk h0 nL Q (pc) (ls) (.int x :: st) (h) := by
  obtain ⟨⟨hx, hb, hml, hown, hts⟩, hini, hC, hz0, hsk, hWS, hGd, hfr, hlo⟩ := X
  exact fun H locs lsC hR hS hl a1 a2 => lv_istore_n hx hb hd rfl hl hn (mx_st_map hsk ls _ (.int x)) (fun ls2 hl2 => k H locs ls2 hR hS hl2 a1 a2)
theorem sd_astore {pc : Nat} {ls : mx_L} {st : List Value} {h : mx_H} (X : mx_X xs P G p R s m args meth c y cc nL D ta base sk dd Ts h0) {i : Nat} {v : Value} (hn : i < nL) (hr : mx_isr v) (hd : decode cc pc = .ok (.astore i, 2)) (k : mx_W p l e R s m args below meth c D ta base sk h0 nL Q (pc + 2) (mx_st ls i v) (st) (h)) : mx_W p l e R s m args below meth c D ta base sk h0 nL Q (pc) (ls) (v :: st) (h) := by
  obtain ⟨⟨hx, hb, hml, hown, hts⟩, hini, hC, hz0, hsk, hWS, hGd, hfr, hlo⟩ := X
  intro H locs lsC hR hS hl a1 a2
  have hm := mx_st_map hsk ls i v (base := base)
  rw [List.map_cons]
  rcases isr_cv (base := base) hsk hr with h1 | ⟨a, h1⟩
  · rw [h1] at hm ⊢
    exact lv_astoreN hx hb hd hl hn hm (fun ls2 hl2 => k H locs ls2 hR hS hl2 a1 a2)
  · rw [h1] at hm ⊢
    exact lv_astore hx hb hd hl hn hm (fun ls2 hl2 => k H locs ls2 hR hS hl2 a1 a2)
theorem sd_astore_n {pc : Nat} {ls : mx_L} {st : List Value} {h : mx_H} (X : mx_X xs P G p R s m args meth c y cc nL D ta base sk dd Ts h0) {n : Fin 4} {v : Value} (hn : n.val < nL) (hr : mx_isr v) (hd : decode cc pc = .ok (.astore_n n, 1)) (k : mx_W p l e R s m args below meth c D ta base sk h0 nL Q (pc + 1) (mx_st ls n.val v) (st) (h)) : mx_W p l e R s m args below meth c D ta base sk h0 nL Q (pc) (ls) (v :: st) (h) := by
  obtain ⟨⟨hx, hb, hml, hown, hts⟩, hini, hC, hz0, hsk, hWS, hGd, hfr, hlo⟩ := X
  intro H locs lsC hR hS hl a1 a2
  have hm := mx_st_map hsk ls n.val v (base := base)
  rw [List.map_cons]
  rcases isr_cv (base := base) hsk hr with h1 | ⟨a, h1⟩
  · rw [h1] at hm ⊢
    exact lv_astore_nN hx hb hd rfl hl hn hm (fun ls2 hl2 => k H locs ls2 hR hS hl2 a1 a2)
  · rw [h1] at hm ⊢
    exact lv_astore_n hx hb hd rfl hl hn hm (fun ls2 hl2 => k H locs ls2 hR hS hl2 a1 a2)
theorem sd_iinc {pc : Nat} {ls : mx_L} {st : List Value} {h : mx_H} (X : mx_X xs P G p R s m args meth c y cc nL D ta base sk dd Ts h0) {i : Nat} {n : Int} {x v : Int32} (hn : i < nL) (hv : mx_ld ls i = some (.int x)) (hc : Int32.ofInt n = v) (hd : decode cc pc = .ok (.iinc i n, 3)) (k : mx_W p l e R s m args below meth c D ta base sk h0 nL Q (pc + 3) (mx_st ls i (.int (x + v))) (st) (h)) : mx_W p l e R s m args below meth c D ta base sk h0 nL Q (pc) (ls) (st) (h) := by
  obtain ⟨⟨hx, hb, hml, hown, hts⟩, hini, hC, hz0, hsk, hWS, hGd, hfr, hlo⟩ := X
  intro H locs lsC hR hS hl a1 a2
  obtain ⟨j, hj⟩ := List.getElem?_of_mem (List.mem_map_of_mem (f := mx_g base sk) (mx_ld_mem hv))
  subst hc
  exact lv_iinc hx hb hd hl hj rfl hn (mx_st_map hsk ls i (.int (x + Int32.ofInt n))) (fun ls2 hl2 => k H locs ls2 hR hS hl2 a1 a2)
theorem sd_goto {pc : Nat} {ls : mx_L} {st : List Value} {h : mx_H} (X : mx_X xs P G p R s m args meth c y cc nL D ta base sk dd Ts h0) {off : Int} {a : Nat} (ht : (pc : Int) + off = (a : Int)) (hd : decode cc pc = .ok (.goto off, 3)) (k : mx_W p l e R s m args below meth c D ta base sk h0 nL Q (a) (ls) (st) (h)) : mx_W p l e R s m args below meth c D ta base sk h0 nL Q (pc) (ls) (st) (h) := by
  obtain ⟨⟨hx, hb, hml, hown, hts⟩, hini, hC, hz0, hsk, hWS, hGd, hfr, hlo⟩ := X
  exact fun H locs lsC hR hS hl a1 a2 => lv_goto hx hb hd ht (k H locs lsC hR hS hl a1 a2)
theorem sd_icmp {pc : Nat} {ls : mx_L} {st : List Value} {h : mx_H} (X : mx_X xs P G p R s m args meth c y cc nL D ta base sk dd Ts h0) {cd : Jvm.ClassFile.Cond} {off : Int} {a : Nat} {x z : Int32} {A B : mx_R} {q : Option Value × mx_H} (ht : (pc : Int) + off = (a : Int)) (hd : decode cc pc = .ok (.if_icmp cd off, 3)) (hq : mx_ic cd x z A B = some q) (kA : A = some q → mx_W p l e R s m args below meth c D ta base sk h0 nL Q (a) (ls) (st) (h)) (kB : B = some q → mx_W p l e R s m args below meth c D ta base sk h0 nL Q (pc + 3) (ls) (st) (h)) : mx_W p l e R s m args below meth c D ta base sk h0 nL Q (pc) (ls) (.int z :: .int x :: st) (h) := by
  obtain ⟨⟨hx, hb, hml, hown, hts⟩, hini, hC, hz0, hsk, hWS, hGd, hfr, hlo⟩ := X
  intro H locs lsC hR hS hl a1 a2
  cases cd with
  | eq => exact lv_icmp_eq hx hb hd ht (fun c => kA (by simpa [mx_ic, c] using hq) H locs lsC hR hS hl a1 a2) (fun c => kB (by simpa [mx_ic, c] using hq) H locs lsC hR hS hl a1 a2)
  | ne => exact lv_icmp_ne hx hb hd ht (fun c => kA (by simpa [mx_ic, c] using hq) H locs lsC hR hS hl a1 a2) (fun c => kB (by simpa [mx_ic, c] using hq) H locs lsC hR hS hl a1 a2)
  | lt => exact lv_icmp_lt hx hb hd ht (fun c => kA (by unfold mx_ic at hq; rw [if_pos c] at hq; exact hq) H locs lsC hR hS hl a1 a2) (fun c => kB (by unfold mx_ic at hq; rw [if_neg c] at hq; exact hq) H locs lsC hR hS hl a1 a2)
  | ge => exact lv_icmp_ge hx hb hd ht (fun c => kA (by unfold mx_ic at hq; rw [if_pos c] at hq; exact hq) H locs lsC hR hS hl a1 a2) (fun c => kB (by unfold mx_ic at hq; rw [if_neg c] at hq; exact hq) H locs lsC hR hS hl a1 a2)
  | gt => exact lv_icmp_gt hx hb hd ht (fun c => kA (by unfold mx_ic at hq; rw [if_pos c] at hq; exact hq) H locs lsC hR hS hl a1 a2) (fun c => kB (by unfold mx_ic at hq; rw [if_neg c] at hq; exact hq) H locs lsC hR hS hl a1 a2)
  | le => exact lv_icmp_le hx hb hd ht (fun c => kA (by unfold mx_ic at hq; rw [if_pos c] at hq; exact hq) H locs lsC hR hS hl a1 a2) (fun c => kB (by unfold mx_ic at hq; rw [if_neg c] at hq; exact hq) H locs lsC hR hS hl a1 a2)
theorem sd_ifc {pc : Nat} {ls : mx_L} {st : List Value} {h : mx_H} (X : mx_X xs P G p R s m args meth c y cc nL D ta base sk dd Ts h0) {cd : Jvm.ClassFile.Cond} {off : Int} {a : Nat} {x : Int32} {A B : mx_R} {q : Option Value × mx_H} (ht : (pc : Int) + off = (a : Int)) (hd : decode cc pc = .ok (.ifCond cd off, 3)) (hq : mx_ic cd x 0 A B = some q) (kA : A = some q → mx_W p l e R s m args below meth c D ta base sk h0 nL Q (a) (ls) (st) (h)) (kB : B = some q → mx_W p l e R s m args below meth c D ta base sk h0 nL Q (pc + 3) (ls) (st) (h)) : mx_W p l e R s m args below meth c D ta base sk h0 nL Q (pc) (ls) (.int x :: st) (h) := by
  obtain ⟨⟨hx, hb, hml, hown, hts⟩, hini, hC, hz0, hsk, hWS, hGd, hfr, hlo⟩ := X
  intro H locs lsC hR hS hl a1 a2
  cases cd with
  | eq => exact lv_if_eq hx hb hd ht (fun c => kA (by simpa [mx_ic, c] using hq) H locs lsC hR hS hl a1 a2) (fun c => kB (by simpa [mx_ic, c] using hq) H locs lsC hR hS hl a1 a2)
  | ne => exact lv_if_ne hx hb hd ht (fun c => kA (by simpa [mx_ic, c] using hq) H locs lsC hR hS hl a1 a2) (fun c => kB (by simpa [mx_ic, c] using hq) H locs lsC hR hS hl a1 a2)
  | lt => exact lv_if_lt hx hb hd ht (fun c => kA (by unfold mx_ic at hq; rw [if_pos c] at hq; exact hq) H locs lsC hR hS hl a1 a2) (fun c => kB (by unfold mx_ic at hq; rw [if_neg c] at hq; exact hq) H locs lsC hR hS hl a1 a2)
  | ge => exact lv_if_ge hx hb hd ht (fun c => kA (by unfold mx_ic at hq; rw [if_pos c] at hq; exact hq) H locs lsC hR hS hl a1 a2) (fun c => kB (by unfold mx_ic at hq; rw [if_neg c] at hq; exact hq) H locs lsC hR hS hl a1 a2)
  | gt => exact lv_if_gt hx hb hd ht (fun c => kA (by unfold mx_ic at hq; rw [if_pos c] at hq; exact hq) H locs lsC hR hS hl a1 a2) (fun c => kB (by unfold mx_ic at hq; rw [if_neg c] at hq; exact hq) H locs lsC hR hS hl a1 a2)
  | le => exact lv_if_le hx hb hd ht (fun c => kA (by unfold mx_ic at hq; rw [if_pos c] at hq; exact hq) H locs lsC hR hS hl a1 a2) (fun c => kB (by unfold mx_ic at hq; rw [if_neg c] at hq; exact hq) H locs lsC hR hS hl a1 a2)
theorem sd_ifnull0 {pc : Nat} {ls : mx_L} {st : List Value} {h : mx_H} (X : mx_X xs P G p R s m args meth c y cc nL D ta base sk dd Ts h0) {off : Int} {a x : Nat} (ht : (pc : Int) + off = (a : Int)) (hd : decode cc pc = .ok (.ifnull off, 3)) (k : mx_W p l e R s m args below meth c D ta base sk h0 nL Q (a) (ls) (st) (h)) : mx_W p l e R s m args below meth c D ta base sk h0 nL Q (pc) (ls) (.null :: st) (h) := by
  obtain ⟨⟨hx, hb, hml, hown, hts⟩, hini, hC, hz0, hsk, hWS, hGd, hfr, hlo⟩ := X
  exact fun H locs lsC hR hS hl a1 a2 => lv_ifnullN hx hb hd ht (k H locs lsC hR hS hl a1 a2)
theorem sd_ifnull1 {pc : Nat} {ls : mx_L} {st : List Value} {h : mx_H} (X : mx_X xs P G p R s m args meth c y cc nL D ta base sk dd Ts h0) {off : Int} {a x : Nat} (ht : (pc : Int) + off = (a : Int)) (hd : decode cc pc = .ok (.ifnull off, 3)) (k : mx_W p l e R s m args below meth c D ta base sk h0 nL Q (pc + 3) (ls) (st) (h)) : mx_W p l e R s m args below meth c D ta base sk h0 nL Q (pc) (ls) (.ref x :: st) (h) := by
  obtain ⟨⟨hx, hb, hml, hown, hts⟩, hini, hC, hz0, hsk, hWS, hGd, hfr, hlo⟩ := X
  exact fun H locs lsC hR hS hl a1 a2 => lv_ifnull hx hb hd (k H locs lsC hR hS hl a1 a2)
theorem sd_ifnn0 {pc : Nat} {ls : mx_L} {st : List Value} {h : mx_H} (X : mx_X xs P G p R s m args meth c y cc nL D ta base sk dd Ts h0) {off : Int} {a x : Nat} (ht : (pc : Int) + off = (a : Int)) (hd : decode cc pc = .ok (.ifnonnull off, 3)) (k : mx_W p l e R s m args below meth c D ta base sk h0 nL Q (pc + 3) (ls) (st) (h)) : mx_W p l e R s m args below meth c D ta base sk h0 nL Q (pc) (ls) (.null :: st) (h) := by
  obtain ⟨⟨hx, hb, hml, hown, hts⟩, hini, hC, hz0, hsk, hWS, hGd, hfr, hlo⟩ := X
  exact fun H locs lsC hR hS hl a1 a2 => lv_ifnonnullN hx hb hd (k H locs lsC hR hS hl a1 a2)
theorem sd_ifnn1 {pc : Nat} {ls : mx_L} {st : List Value} {h : mx_H} (X : mx_X xs P G p R s m args meth c y cc nL D ta base sk dd Ts h0) {off : Int} {a x : Nat} (ht : (pc : Int) + off = (a : Int)) (hd : decode cc pc = .ok (.ifnonnull off, 3)) (k : mx_W p l e R s m args below meth c D ta base sk h0 nL Q (a) (ls) (st) (h)) : mx_W p l e R s m args below meth c D ta base sk h0 nL Q (pc) (ls) (.ref x :: st) (h) := by
  obtain ⟨⟨hx, hb, hml, hown, hts⟩, hini, hC, hz0, hsk, hWS, hGd, hfr, hlo⟩ := X
  exact fun H locs lsC hR hS hl a1 a2 => lv_ifnonnull hx hb hd ht (k H locs lsC hR hS hl a1 a2)
theorem sw_tb {pc : Nat} {x : Int32} {f : Nat → mx_R} {d : mx_R} {q : Option Value × mx_H} : ∀ {lo : Int} {os : List Int} {cs : List (Int32 × Nat)}, mx_tb pc lo os cs = true → mx_sw cs x f d = some q → (∃ (i : Nat) (o : Int) (t : Nat), os[i]? = some o ∧ x.toInt = lo + i ∧ (pc : Int) + o = (t : Int) ∧ f t = some q) ∨ ((x.toInt < lo ∨ lo + os.length ≤ x.toInt) ∧ d = some q)
  | lo, [], [], _, hq => Or.inr ⟨by simp; omega, hq⟩
  | lo, o :: os, (v, t) :: cs, hb, hq => by
    simp only [mx_tb, Bool.and_eq_true, decide_eq_true_eq] at hb
    unfold mx_sw at hq
    split at hq
    · rename_i hx
      exact Or.inl ⟨0, o, t, rfl, by rw [hx, hb.1.1]; simp, hb.1.2, hq⟩
    · rename_i hx
      rcases sw_tb hb.2 hq with ⟨i, o', t', h1, h2, h3, h4⟩ | ⟨h1, h2⟩
      · exact Or.inl ⟨i + 1, o', t', by simpa using h1, by rw [h2]; push_cast; omega, h3, h4⟩
      · refine Or.inr ⟨?_, h2⟩
        have hne : x.toInt ≠ lo := fun e => hx (Int32.toInt_inj.mp (by rw [e, hb.1.1]))
        simp only [List.length_cons]
        push_cast
        omega
  | _, [], _ :: _, hb, _ => by simp [mx_tb] at hb
  | _, _ :: _, [], hb, _ => by simp [mx_tb] at hb
theorem sw_lk {pc a : Nat} {dflt : Int} {x : Int32} {f : Nat → mx_R} {d : mx_R} {q : Option Value × mx_H} (ha : (pc : Int) + dflt = (a : Int)) : ∀ {ps : List (Int × Int)} {cs : List (Int32 × Nat)}, mx_lk pc ps cs = true → mx_sw cs x f d = some q → ∃ (o : Int) (t : Nat), Op.lookupswitch.offset ps dflt x.toInt = o ∧ (pc : Int) + o = (t : Int) ∧ (f t = some q ∨ (t = a ∧ d = some q))
  | [], [], _, hq => ⟨dflt, a, rfl, ha, Or.inr ⟨rfl, hq⟩⟩
  | (n, o) :: ps, (v, t) :: cs, hb, hq => by
    simp only [mx_lk, Bool.and_eq_true, decide_eq_true_eq] at hb
    unfold mx_sw at hq
    split at hq
    · rename_i hx
      exact ⟨o, t, by rw [Op.lookupswitch.offset_cons, if_pos]; rw [hx, hb.1.1], hb.1.2, Or.inl hq⟩
    · rename_i hx
      obtain ⟨o', t', h1, h2, h3⟩ := sw_lk ha hb.2 hq
      exact ⟨o', t', by rw [lv_osw hx hb.1.1]; exact h1, h2, h3⟩
  | [], _ :: _, hb, _ => by simp [mx_lk] at hb
  | _ :: _, [], hb, _ => by simp [mx_lk] at hb
theorem sd_tsw {pc : Nat} {ls : mx_L} {st : List Value} {h : mx_H} (X : mx_X xs P G p R s m args meth c y cc nL D ta base sk dd Ts h0) {dflt lo hi : Int} {offs : Array Int} {len a : Nat} {cs : List (Int32 × Nat)} {x : Int32} {f : Nat → mx_R} {d : mx_R} {q : Option Value × mx_H} (ht : (pc : Int) + dflt = (a : Int)) (hn : hi + 1 = lo + (offs.toList.length : Int)) (htb : mx_tb pc lo offs.toList cs = true) (hd : decode cc pc = .ok (.tableswitch dflt lo hi offs, len)) (hq : mx_sw cs x f d = some q) (kf : ∀ t, f t = some q → mx_W p l e R s m args below meth c D ta base sk h0 nL Q (t) (ls) (st) (h)) (kd : d = some q → mx_W p l e R s m args below meth c D ta base sk h0 nL Q (a) (ls) (st) (h)) : mx_W p l e R s m args below meth c D ta base sk h0 nL Q (pc) (ls) (.int x :: st) (h) := by
  obtain ⟨⟨hx, hb, hml, hown, hts⟩, hini, hC, hz0, hsk, hWS, hGd, hfr, hlo⟩ := X
  intro H locs lsC hR hS hl a1 a2
  rcases sw_tb htb hq with ⟨i, o, t, h1, h2, h3, h4⟩ | ⟨h1, h2⟩
  · have hi2 : i < offs.toList.length := (List.getElem?_eq_some_iff.mp h1).1
    exact lv_tableIn hx hb hd (by omega) (by omega) (by rw [show (x.toInt - lo).toNat = i by omega, ← Array.getElem?_toList]; exact h1) h3 (kf t h4 H locs lsC hR hS hl a1 a2)
  · exact lv_tableOut hx hb hd (by omega) ht (kd h2 H locs lsC hR hS hl a1 a2)
theorem sd_lsw {pc : Nat} {ls : mx_L} {st : List Value} {h : mx_H} (X : mx_X xs P G p R s m args meth c y cc nL D ta base sk dd Ts h0) {dflt : Int} {ps : Array (Int × Int)} {len a : Nat} {cs : List (Int32 × Nat)} {x : Int32} {f : Nat → mx_R} {d : mx_R} {q : Option Value × mx_H} (ht : (pc : Int) + dflt = (a : Int)) (hp : (ps.toList.zip (ps.toList.drop 1)).all (fun (a, next) => a.1 < next.1) = true) (hlk : mx_lk pc ps.toList cs = true) (hd : decode cc pc = .ok (.lookupswitch dflt ps, len)) (hq : mx_sw cs x f d = some q) (kf : ∀ t, f t = some q → mx_W p l e R s m args below meth c D ta base sk h0 nL Q (t) (ls) (st) (h)) (kd : d = some q → mx_W p l e R s m args below meth c D ta base sk h0 nL Q (a) (ls) (st) (h)) : mx_W p l e R s m args below meth c D ta base sk h0 nL Q (pc) (ls) (.int x :: st) (h) := by
  obtain ⟨⟨hx, hb, hml, hown, hts⟩, hini, hC, hz0, hsk, hWS, hGd, hfr, hlo⟩ := X
  intro H locs lsC hR hS hl a1 a2
  obtain ⟨o, t, h1, h2, h3⟩ := sw_lk ht hlk hq
  rcases h3 with h3 | ⟨rfl, h3⟩
  · exact lv_lookup hx hb hd hp h1 h2 (kf t h3 H locs lsC hR hS hl a1 a2)
  · exact lv_lookup hx hb hd hp h1 h2 (kd h3 H locs lsC hR hS hl a1 a2)
end MXS
end
section
/-! ===== the heap's rows ===== -/
theorem mx_low {D : va_G} {ta : Nat → ClassId} {base : Nat} {sk : Nat → Value} {g : mx_H} {H1 : Heap} (hP : va_P D vwCl (mx_ws base sk ta g) H1) (hg : 0 < g.length) : base + g.length ≤ H1.size := by
  have h1 : g[g.length - 1]? = some g[g.length - 1] := List.getElem?_eq_getElem (by omega)
  have h2 := (hP _ _ (mx_ws_at h1)).lt
  have h3 : base + (g.length - 1) < H1.size := h2
  omega
theorem mx_pos {h : mx_H} {r : Nat} {e : va_E} (he : h[r]? = some e) : r < h.length := (List.getElem?_eq_some_iff.mp he).1
theorem mx_fresh {D : va_G} {ta : Nat → ClassId} {base : Nat} {sk : Nat → Value} {h : mx_H} {H1 : Heap} {q : Nat} {x : va_E} (hP : va_P D vwCl (mx_ws base sk ta h ++ [(q, x)]) H1) (hD : va_D (mx_A base) (mx_ws base sk ta h ++ [(q, x)])) (hz : H1.size ≤ base + h.length + 1) : q = base + h.length ∧ H1.size = base + h.length + 1 := by
  have hl : (mx_ws base sk ta h).length = h.length := by simp [mx_ws]
  have hq : (mx_ws base sk ta h ++ [(q, x)])[h.length]? = some (q, x) := by rw [List.getElem?_append_right (by omega), hl]; simp
  have h1 : q < H1.size := (hP _ _ hq).lt
  have h2 : base ≤ q := hD.2 _ _ hq
  by_cases hc : q = base + h.length
  · exact ⟨hc, by omega⟩
  · exfalso
    have hj : q - base < h.length := by omega
    have he : h[q - base]? = some h[q - base] := List.getElem?_eq_getElem hj
    have hw : (mx_ws base sk ta h ++ [(q, x)])[q - base]? = some (base + (q - base), mx_ce base sk ta h[q - base]) := by
      rw [List.getElem?_append_left (by omega)]
      exact mx_ws_at he
    have := hD.1 _ _ _ _ hw hq (by show base + (q - base) = q; omega)
    omega
theorem mx_up {g : Nat → Option Nat} {i v base : Nat} : (fun j => (va_up g i (some v) j).map (fun k => base + k)) = va_up (fun j => (g j).map (fun k => base + k)) i (some (base + v)) := by
  funext j
  unfold va_up
  split <;> rfl
theorem mx_ty_at {ta : Nat → ClassId} {c : Nat} (h : 3 ≤ c ∧ c ≤ 6) : (mx_tys ta)[c]? = some (ta c, .object (mx_RX (mx_kc c))) ∧ mx_kc c < 8 := by
  obtain ⟨h1, h2⟩ := h
  rcases (show c = 3 ∨ c = 4 ∨ c = 5 ∨ c = 6 by omega) with rfl | rfl | rfl | rfl <;> exact ⟨rfl, by decide⟩
theorem mx_ty_any {ta : Nat → ClassId} {c : Nat} (h : c < 7) : ∃ t, (mx_tys ta)[c]? = some (ta c, t) := by
  rcases (show c = 0 ∨ c = 1 ∨ c = 2 ∨ c = 3 ∨ c = 4 ∨ c = 5 ∨ c = 6 by omega) with rfl | rfl | rfl | rfl | rfl | rfl | rfl <;> exact ⟨_, rfl⟩
section MXT
variable {p : Program} {l : Launch} {e : Env} {R : Room} {s : State} {m : MethodId} {args : Array Value} {below : List Frame} {meth : Method} {c : Code} {Q : State → Prop}
variable {xs : List Int32} {P : List mx_M} {G : List Cond} {y : MethodName} {cc : ByteArray} {nL : Nat} {ret : Option FieldType} {D : va_G} {ta : Nat → ClassId} {base : Nat} {sk : Nat → Value} {dd : Nat} {Ts : List Cond} {h0 : mx_H}
theorem mx_sized {H : Heap} {locs : List Loc} {cells slots : Nat} {g : JFrame} (k : H.size ≤ s.heap.size + cells → W p l e R s m args below meth c H locs cells slots Q g) : W p l e R s m args below meth c H locs cells slots Q g := fun T hT X => k (by rw [← hT]; exact X.heapSize) T hT X
theorem sd_get {pc : Nat} {ls : mx_L} {st : List Value} {h : mx_H} (X : mx_X xs P G p R s m args meth c y cc nL D ta base sk dd Ts h0) {a b r i : Nat} {fs : List Value} {v : Value} (ha : a < 8) (hbn : b < mx_Nf a) (hlk : Cond.fieldLink y.cls i (mx_T a b).1 (mx_T a b).2.1 (mx_T a b).2.2.1 ∈ Ts) (he : h[r]? = some (.inr (a, fs))) (hv : fs[b]? = some v) (hd : decode cc pc = .ok (.getfield i, 3)) (k : mx_W p l e R s m args below meth c D ta base sk h0 nL Q (pc + 3) (ls) (v :: st) (h)) : mx_W p l e R s m args below meth c D ta base sk h0 nL Q (pc) (ls) (.ref r :: st) (h) := by
  obtain ⟨⟨hx, hb, hml, hown, hts⟩, hini, hC, hz0, hsk, hWS, hGd, hfr, hlo⟩ := X
  exact fun H locs lsC hR hS hl a1 a2 => va_get (v := mx_cv base sk v) hx hb hts (fun w hw => hWS w (mx_cl_ws ha w hw)) hown hC.1 hR.2 r (mx_ws_at he) (mx_cl_at ha) b hbn (hts _ hlk) (fun _ h => h) (by rw [List.getElem?_map, hv]; rfl) hd (k H locs lsC hR hS hl a1 a2)
theorem sd_put {pc : Nat} {ls : mx_L} {st : List Value} {h : mx_H} (X : mx_X xs P G p R s m args meth c y cc nL D ta base sk dd Ts h0) {a b r i : Nat} {fs : List Value} {v : Value} (ha : a < 8) (hbn : b < mx_Nf a) (hlk : Cond.fieldLink y.cls i (mx_T a b).1 (mx_T a b).2.1 (mx_T a b).2.2.1 ∈ Ts) (hfin : !(mx_T a b).2.2.2 || (decide (y.name = "<init>") && decide ((mx_T a b).1 = y.cls))) (hn : narrow (mx_tyf a b) (mx_cv base sk v) = mx_cv base sk v) (hft : fits (mx_tyf a b) (mx_cv base sk v) = true) (he : h[r]? = some (.inr (a, fs))) (hl2 : b < fs.length) (hd : decode cc pc = .ok (.putfield i, 3)) (k : mx_W p l e R s m args below meth c D ta base sk h0 nL Q (pc + 3) (ls) (st) (h.set r (.inr (a, fs.set b v)))) : mx_W p l e R s m args below meth c D ta base sk h0 nL Q (pc) (ls) (v :: .ref r :: st) (h) := by
  obtain ⟨⟨hx, hb, hml, hown, hts⟩, hini, hC, hz0, hsk, hWS, hGd, hfr, hlo⟩ := X
  intro H locs lsC hR hS hl a1 a2
  have hk : ∀ (H1 : Heap) (locs1 : List Loc), va_P D vwCl ((mx_ws base sk ta h).set r (base + r, .inr (a, (fs.map (mx_cv base sk)).set b (mx_cv base sk v)))) H1 → va_D (mx_A base) ((mx_ws base sk ta h).set r (base + r, .inr (a, (fs.map (mx_cv base sk)).set b (mx_cv base sk v)))) → va_S (mx_A base) s.heap H1 locs1 → W p l e R s m args below meth c H1 locs1 (h.length - h0.length) (mx_sz h - mx_sz h0) Q (F0 m (pc + 3) lsC (st.map (mx_cv base sk))) := by
    intro H1 locs1 hP1 _ hS1
    rw [← List.map_set] at hP1
    have hP2 : va_P D vwCl (mx_ws base sk ta (h.set r (.inr (a, fs.set b v)))) H1 := by rw [← mx_ws_set]; exact hP1
    refine mx_sized fun hsz => ?_
    have e1 := mx_low hP2 (by rw [List.length_set]; exact Nat.lt_of_le_of_lt (Nat.zero_le r) (mx_pos he))
    rw [List.length_set] at e1
    have e2 : mx_sz (h.set r (.inr (a, fs.set b v))) = mx_sz h := mx_sz_set he (by simp [mx_se])
    have k2 := k H1 locs1 lsC ⟨by rw [List.length_set]; omega, hP2⟩ hS1 hl (by rw [List.length_set]; exact a1) (by rw [e2]; exact a2)
    rw [List.length_set, e2] at k2
    exact k2
  by_cases hf : (mx_T a b).2.2.2 = true
  · rw [hf] at hfin
    simp only [Bool.not_true, Bool.false_or, Bool.and_eq_true, decide_eq_true_eq] at hfin
    exact va_putF hx hb hts (fun w hw => hWS w (mx_cl_ws ha w hw)) (mx_tyf a) (mx_cl_ty ha) (mx_cl_nm ha) hown hC.1 hR.2 mx_ws_D hS r (mx_ws_at he) (mx_cl_at ha) b hbn (hts _ hlk) (fun _ h => h) hf (hini hfin.1) hfin.2 (mx_cl_ty ha b hbn) hn hft (by rw [List.length_map]; exact hl2) hd hk
  · exact va_put hx hb hts (fun w hw => hWS w (mx_cl_ws ha w hw)) (mx_tyf a) (mx_cl_ty ha) (mx_cl_nm ha) hown hC.1 hR.2 mx_ws_D hS r (mx_ws_at he) (mx_cl_at ha) b hbn (hts _ hlk) (fun _ h => h) (by simpa using hf) (mx_cl_ty ha b hbn) hn hft (by rw [List.length_map]; exact hl2) hd hk
theorem sd_iald {pc : Nat} {ls : mx_L} {st : List Value} {h : mx_H} (X : mx_X xs P G p R s m args meth c y cc nL D ta base sk dd Ts h0) {r n : Nat} {i : Int32} {g : Nat → Int32} (he : h[r]? = some (.inl (0, n, .inl g))) (hin : vp_in i n) (hd : decode cc pc = .ok (.iaload, 1)) (k : mx_W p l e R s m args below meth c D ta base sk h0 nL Q (pc + 1) (ls) (.int (g i.toNatClampNeg) :: st) (h)) : mx_W p l e R s m args below meth c D ta base sk h0 nL Q (pc) (ls) (.int i :: .ref r :: st) (h) := by
  obtain ⟨⟨hx, hb, hml, hown, hts⟩, hini, hC, hz0, hsk, hWS, hGd, hfr, hlo⟩ := X
  exact fun H locs lsC hR hS hl a1 a2 => va_iald hx hb hC.1 hR.2 r 0 (mx_ws_at he) rfl hin hd (k H locs lsC hR hS hl a1 a2)
theorem sd_zald {pc : Nat} {ls : mx_L} {st : List Value} {h : mx_H} (X : mx_X xs P G p R s m args meth c y cc nL D ta base sk dd Ts h0) {r n : Nat} {i : Int32} {g : Nat → Int32} (he : h[r]? = some (.inl (1, n, .inl g))) (hin : vp_in i n) (hd : decode cc pc = .ok (.baload, 1)) (k : mx_W p l e R s m args below meth c D ta base sk h0 nL Q (pc + 1) (ls) (.int (g i.toNatClampNeg) :: st) (h)) : mx_W p l e R s m args below meth c D ta base sk h0 nL Q (pc) (ls) (.int i :: .ref r :: st) (h) := by
  obtain ⟨⟨hx, hb, hml, hown, hts⟩, hini, hC, hz0, hsk, hWS, hGd, hfr, hlo⟩ := X
  exact fun H locs lsC hR hS hl a1 a2 => va_zald hx hb hC.1 hR.2 r 1 (mx_ws_at he) rfl hin hd (k H locs lsC hR hS hl a1 a2)
theorem sd_cald {pc : Nat} {ls : mx_L} {st : List Value} {h : mx_H} (X : mx_X xs P G p R s m args meth c y cc nL D ta base sk dd Ts h0) {r n : Nat} {i : Int32} {g : Nat → Int32} (he : h[r]? = some (.inl (2, n, .inl g))) (hin : vp_in i n) (hd : decode cc pc = .ok (.caload, 1)) (k : mx_W p l e R s m args below meth c D ta base sk h0 nL Q (pc + 1) (ls) (.int (g i.toNatClampNeg) :: st) (h)) : mx_W p l e R s m args below meth c D ta base sk h0 nL Q (pc) (ls) (.int i :: .ref r :: st) (h) := by
  obtain ⟨⟨hx, hb, hml, hown, hts⟩, hini, hC, hz0, hsk, hWS, hGd, hfr, hlo⟩ := X
  exact fun H locs lsC hR hS hl a1 a2 => va_cald hx hb hC.1 hR.2 r 2 (mx_ws_at he) rfl hin hd (k H locs lsC hR hS hl a1 a2)
theorem sd_iast {pc : Nat} {ls : mx_L} {st : List Value} {h : mx_H} (X : mx_X xs P G p R s m args meth c y cc nL D ta base sk dd Ts h0) {r n : Nat} {i x : Int32} {g : Nat → Int32} (he : h[r]? = some (.inl (0, n, .inl g))) (hin : vp_in i n) (hd : decode cc pc = .ok (.iastore, 1)) (k : mx_W p l e R s m args below meth c D ta base sk h0 nL Q (pc + 1) (ls) (st) (h.set r (.inl (0, n, .inl (upd g i.toNatClampNeg x))))) : mx_W p l e R s m args below meth c D ta base sk h0 nL Q (pc) (ls) (.int x :: .int i :: .ref r :: st) (h) := by
  obtain ⟨⟨hx, hb, hml, hown, hts⟩, hini, hC, hz0, hsk, hWS, hGd, hfr, hlo⟩ := X
  intro H locs lsC hR hS hl a1 a2
  refine va_iast hx hb hC.1 hR.2 mx_ws_D hS r 0 (mx_ws_at he) rfl hin hd (fun H1 locs1 hP1 _ hS1 => ?_)
  have hP2 : va_P D vwCl (mx_ws base sk ta (h.set r (.inl (0, n, .inl (upd g i.toNatClampNeg x))))) H1 := by rw [← mx_ws_set]; exact hP1
  refine mx_sized fun hsz => ?_
  have e1 := mx_low hP2 (by rw [List.length_set]; exact Nat.lt_of_le_of_lt (Nat.zero_le r) (mx_pos he))
  rw [List.length_set] at e1
  have e2 : mx_sz (h.set r (.inl (0, n, .inl (upd g i.toNatClampNeg x)))) = mx_sz h := mx_sz_set he (by simp [mx_se])
  have k2 := k H1 locs1 lsC ⟨by rw [List.length_set]; omega, hP2⟩ hS1 hl (by rw [List.length_set]; exact a1) (by rw [e2]; exact a2)
  rw [List.length_set, e2] at k2
  exact k2
theorem sd_zast {pc : Nat} {ls : mx_L} {st : List Value} {h : mx_H} (X : mx_X xs P G p R s m args meth c y cc nL D ta base sk dd Ts h0) {r n : Nat} {i x : Int32} {g : Nat → Int32} (he : h[r]? = some (.inl (1, n, .inl g))) (hin : vp_in i n) (hd : decode cc pc = .ok (.bastore, 1)) (k : mx_W p l e R s m args below meth c D ta base sk h0 nL Q (pc + 1) (ls) (st) (h.set r (.inl (1, n, .inl (upd g i.toNatClampNeg (vp_nar .boolean x)))))) : mx_W p l e R s m args below meth c D ta base sk h0 nL Q (pc) (ls) (.int x :: .int i :: .ref r :: st) (h) := by
  obtain ⟨⟨hx, hb, hml, hown, hts⟩, hini, hC, hz0, hsk, hWS, hGd, hfr, hlo⟩ := X
  intro H locs lsC hR hS hl a1 a2
  refine va_zast hx hb hC.1 hR.2 mx_ws_D hS r 1 (mx_ws_at he) rfl hin hd (fun H1 locs1 hP1 _ hS1 => ?_)
  have hP2 : va_P D vwCl (mx_ws base sk ta (h.set r (.inl (1, n, .inl (upd g i.toNatClampNeg (vp_nar .boolean x)))))) H1 := by rw [← mx_ws_set]; exact hP1
  refine mx_sized fun hsz => ?_
  have e1 := mx_low hP2 (by rw [List.length_set]; exact Nat.lt_of_le_of_lt (Nat.zero_le r) (mx_pos he))
  rw [List.length_set] at e1
  have e2 : mx_sz (h.set r (.inl (1, n, .inl (upd g i.toNatClampNeg (vp_nar .boolean x))))) = mx_sz h := mx_sz_set he (by simp [mx_se])
  have k2 := k H1 locs1 lsC ⟨by rw [List.length_set]; omega, hP2⟩ hS1 hl (by rw [List.length_set]; exact a1) (by rw [e2]; exact a2)
  rw [List.length_set, e2] at k2
  exact k2
theorem sd_cast {pc : Nat} {ls : mx_L} {st : List Value} {h : mx_H} (X : mx_X xs P G p R s m args meth c y cc nL D ta base sk dd Ts h0) {r n : Nat} {i x : Int32} {g : Nat → Int32} (he : h[r]? = some (.inl (2, n, .inl g))) (hin : vp_in i n) (hd : decode cc pc = .ok (.castore, 1)) (k : mx_W p l e R s m args below meth c D ta base sk h0 nL Q (pc + 1) (ls) (st) (h.set r (.inl (2, n, .inl (upd g i.toNatClampNeg (vp_nar .char x)))))) : mx_W p l e R s m args below meth c D ta base sk h0 nL Q (pc) (ls) (.int x :: .int i :: .ref r :: st) (h) := by
  obtain ⟨⟨hx, hb, hml, hown, hts⟩, hini, hC, hz0, hsk, hWS, hGd, hfr, hlo⟩ := X
  intro H locs lsC hR hS hl a1 a2
  refine va_cast hx hb hC.1 hR.2 mx_ws_D hS r 2 (mx_ws_at he) rfl hin hd (fun H1 locs1 hP1 _ hS1 => ?_)
  have hP2 : va_P D vwCl (mx_ws base sk ta (h.set r (.inl (2, n, .inl (upd g i.toNatClampNeg (vp_nar .char x)))))) H1 := by rw [← mx_ws_set]; exact hP1
  refine mx_sized fun hsz => ?_
  have e1 := mx_low hP2 (by rw [List.length_set]; exact Nat.lt_of_le_of_lt (Nat.zero_le r) (mx_pos he))
  rw [List.length_set] at e1
  have e2 : mx_sz (h.set r (.inl (2, n, .inl (upd g i.toNatClampNeg (vp_nar .char x))))) = mx_sz h := mx_sz_set he (by simp [mx_se])
  have k2 := k H1 locs1 lsC ⟨by rw [List.length_set]; omega, hP2⟩ hS1 hl (by rw [List.length_set]; exact a1) (by rw [e2]; exact a2)
  rw [List.length_set, e2] at k2
  exact k2
theorem sd_aald {pc : Nat} {ls : mx_L} {st : List Value} {h : mx_H} (X : mx_X xs P G p R s m args meth c y cc nL D ta base sk dd Ts h0) {r n a tc : Nat} {i : Int32} {g : Nat → Option Nat} (he : h[r]? = some (.inl (tc, n, .inr (.inr (.inr (.inr g)))))) (ht : 3 ≤ tc ∧ tc ≤ 6) (hin : vp_in i n) (hg : g i.toNatClampNeg = some a) (hd : decode cc pc = .ok (.aaload, 1)) (k : mx_W p l e R s m args below meth c D ta base sk h0 nL Q (pc + 1) (ls) (.ref a :: st) (h)) : mx_W p l e R s m args below meth c D ta base sk h0 nL Q (pc) (ls) (.int i :: .ref r :: st) (h) := by
  obtain ⟨⟨hx, hb, hml, hown, hts⟩, hini, hC, hz0, hsk, hWS, hGd, hfr, hlo⟩ := X
  intro H locs lsC hR hS hl a1 a2
  refine va_aldq hx hb hC.1 hR.2 r tc (mx_ws_at he) (mx_ty_at ht).1 hin hd ?_
  have e : va_rf ((g i.toNatClampNeg).map (fun k => base + k)) = .ref (base + a) := by rw [hg]; rfl
  rw [e]
  exact k H locs lsC hR hS hl a1 a2
theorem sd_aast {pc : Nat} {ls : mx_L} {st : List Value} {h : mx_H} (X : mx_X xs P G p R s m args meth c y cc nL D ta base sk dd Ts h0) {r n v tc : Nat} {i : Int32} {g : Nat → Option Nat} {fs : List Value} (he : h[r]? = some (.inl (tc, n, .inr (.inr (.inr (.inr g)))))) (hv : h[v]? = some (.inr (mx_kc tc, fs))) (ht : 3 ≤ tc ∧ tc ≤ 6) (hin : vp_in i n) (hd : decode cc pc = .ok (.aastore, 1)) (k : mx_W p l e R s m args below meth c D ta base sk h0 nL Q (pc + 1) (ls) (st) (h.set r (.inl (tc, n, .inr (.inr (.inr (.inr (va_up g i.toNatClampNeg (some v))))))))) : mx_W p l e R s m args below meth c D ta base sk h0 nL Q (pc) (ls) (.ref v :: .int i :: .ref r :: st) (h) := by
  obtain ⟨⟨hx, hb, hml, hown, hts⟩, hini, hC, hz0, hsk, hWS, hGd, hfr, hlo⟩ := X
  intro H locs lsC hR hS hl a1 a2
  refine va_astq hx hb hC.1 hR.2 mx_ws_D hS r tc v (mx_kc tc) (mx_ws_at he) (mx_ty_at ht).1 (mx_ws_at hv) (mx_cl_at (mx_ty_at (ta := ta) ht).2) hin hd (fun H1 locs1 hP1 _ hS1 => ?_)
  have hP2 : va_P D vwCl (mx_ws base sk ta (h.set r (.inl (tc, n, .inr (.inr (.inr (.inr (va_up g i.toNatClampNeg (some v))))))))) H1 := by
    rw [← mx_ws_set]
    have e : mx_ce base sk ta (.inl (tc, n, .inr (.inr (.inr (.inr (va_up g i.toNatClampNeg (some v))))))) = .inl (ta tc, n, .inr (.inr (.inr (.inr (va_up (fun j => (g j).map (fun k => base + k)) i.toNatClampNeg (some (base + v))))))) := by
      rw [← mx_up]; rfl
    rw [e]
    exact hP1
  refine mx_sized fun hsz => ?_
  have e1 := mx_low hP2 (by rw [List.length_set]; exact Nat.lt_of_le_of_lt (Nat.zero_le r) (mx_pos he))
  rw [List.length_set] at e1
  have e2 : mx_sz (h.set r (.inl (tc, n, .inr (.inr (.inr (.inr (va_up g i.toNatClampNeg (some v)))))))) = mx_sz h := mx_sz_set he (by simp [mx_se])
  have k2 := k H1 locs1 lsC ⟨by rw [List.length_set]; omega, hP2⟩ hS1 hl (by rw [List.length_set]; exact a1) (by rw [e2]; exact a2)
  rw [List.length_set, e2] at k2
  exact k2
theorem sd_alen {pc : Nat} {ls : mx_L} {st : List Value} {h : mx_H} (X : mx_X xs P G p R s m args meth c y cc nL D ta base sk dd Ts h0) {r n tc : Nat} {x : (Nat → Int32) ⊕ (Nat → Int64) ⊕ (Nat → UInt32) ⊕ (Nat → UInt64) ⊕ (Nat → Option Nat)} (he : h[r]? = some (.inl (tc, n, x))) (ht : tc < 7) (hd : decode cc pc = .ok (.arraylength, 1)) (k : mx_W p l e R s m args below meth c D ta base sk h0 nL Q (pc + 1) (ls) (.int (Int32.ofNat n) :: st) (h)) : mx_W p l e R s m args below meth c D ta base sk h0 nL Q (pc) (ls) (.ref r :: st) (h) := by
  obtain ⟨⟨hx, hb, hml, hown, hts⟩, hini, hC, hz0, hsk, hWS, hGd, hfr, hlo⟩ := X
  intro H locs lsC hR hS hl a1 a2
  obtain ⟨t, h1⟩ := mx_ty_any (ta := ta) ht
  exact va_alen hx hb hC.1 hR.2 r tc (mx_ws_at he) h1 rfl hd (k H locs lsC hR hS hl a1 a2)
theorem sd_ci {pc : Nat} {ls : mx_L} {st : List Value} {h : mx_H} (X : mx_X xs P G p R s m args meth c y cc nL D ta base sk dd Ts h0) {r : Nat} {i : Int32} {lx : List Int32} (hk : mx_kt xs r = some (0, lx)) (hin : vp_in i lx.length) (hd : decode cc pc = .ok (.iaload, 1)) (k : mx_W p l e R s m args below meth c D ta base sk h0 nL Q (pc + 1) (ls) (.int (lx.getD i.toNatClampNeg 0) :: st) (h)) : mx_W p l e R s m args below meth c D ta base sk h0 nL Q (pc) (ls) (.int i :: .retAddr r :: st) (h) := by
  obtain ⟨⟨hx, hb, hml, hown, hts⟩, hini, hC, hz0, hsk, hWS, hGd, hfr, hlo⟩ := X
  intro H locs lsC hR hS hl a1 a2
  obtain ⟨a, e1, hT⟩ := hC.2.2.2.2.2.1 r _ _ hk
  have k2 := k H locs lsC hR hS hl a1 a2
  show W p l e R s m args below meth c H locs _ _ Q (F0 m pc lsC (.int i :: sk r :: st.map (mx_cv base sk)))
  rw [e1]
  exact va_ti hx hb hT hS hin rfl hd k2
theorem sd_cb {pc : Nat} {ls : mx_L} {st : List Value} {h : mx_H} (X : mx_X xs P G p R s m args meth c y cc nL D ta base sk dd Ts h0) {r : Nat} {i : Int32} {lx : List Int32} (hk : mx_kt xs r = some (7, lx)) (hin : vp_in i lx.length) (hd : decode cc pc = .ok (.baload, 1)) (k : mx_W p l e R s m args below meth c D ta base sk h0 nL Q (pc + 1) (ls) (.int (lx.getD i.toNatClampNeg 0) :: st) (h)) : mx_W p l e R s m args below meth c D ta base sk h0 nL Q (pc) (ls) (.int i :: .retAddr r :: st) (h) := by
  obtain ⟨⟨hx, hb, hml, hown, hts⟩, hini, hC, hz0, hsk, hWS, hGd, hfr, hlo⟩ := X
  intro H locs lsC hR hS hl a1 a2
  obtain ⟨a, e1, hT⟩ := hC.2.2.2.2.2.1 r _ _ hk
  have k2 := k H locs lsC hR hS hl a1 a2
  show W p l e R s m args below meth c H locs _ _ Q (F0 m pc lsC (.int i :: sk r :: st.map (mx_cv base sk)))
  rw [e1]
  exact va_tb hx hb hT hS hin rfl hd k2
theorem sd_cn {pc : Nat} {ls : mx_L} {st : List Value} {h : mx_H} (X : mx_X xs P G p R s m args meth c y cc nL D ta base sk dd Ts h0) {r t : Nat} {lx : List Int32} (hk : mx_kt xs r = some (t, lx)) (hd : decode cc pc = .ok (.arraylength, 1)) (k : mx_W p l e R s m args below meth c D ta base sk h0 nL Q (pc + 1) (ls) (.int (Int32.ofNat lx.length) :: st) (h)) : mx_W p l e R s m args below meth c D ta base sk h0 nL Q (pc) (ls) (.retAddr r :: st) (h) := by
  obtain ⟨⟨hx, hb, hml, hown, hts⟩, hini, hC, hz0, hsk, hWS, hGd, hfr, hlo⟩ := X
  intro H locs lsC hR hS hl a1 a2
  obtain ⟨a, e1, hT⟩ := hC.2.2.2.2.2.1 r _ _ hk
  have k2 := k H locs lsC hR hS hl a1 a2
  show W p l e R s m args below meth c H locs _ _ Q (F0 m pc lsC (sk r :: st.map (mx_cv base sk)))
  rw [e1]
  exact va_tlen hx hb hT hS rfl hd k2
theorem sd_sval {pc : Nat} {ls : mx_L} {st : List Value} {h : mx_H} (X : mx_X xs P G p R s m args meth c y cc nL D ta base sk dd Ts h0) {r i : Nat} (hr : r < 6) (hlk : Cond.fieldLink y.cls i "java/lang/String" "value" "[B" ∈ Ts) (hd : decode cc pc = .ok (.getfield i, 3)) (k : mx_W p l e R s m args below meth c D ta base sk h0 nL Q (pc + 3) (ls) (.retAddr (100 + r) :: st) (h)) : mx_W p l e R s m args below meth c D ta base sk h0 nL Q (pc) (ls) (.retAddr r :: st) (h) := by
  obtain ⟨⟨hx, hb, hml, hown, hts⟩, hini, hC, hz0, hsk, hWS, hGd, hfr, hlo⟩ := X
  intro H locs lsC hR hS hl a1 a2
  obtain ⟨a, e1, -, hc, hv⟩ := hC.2.2.2.2.2.2.1 r hr
  have k2 := k H locs lsC hR hS hl a1 a2
  show W p l e R s m args below meth c H locs _ _ Q (F0 m pc lsC (sk r :: st.map (mx_cv base sk)))
  rw [e1]
  exact vk_getf hx hb hv hS hown (hts _ hlk) (fun _ h => h) hd k2
theorem sd_scod {pc : Nat} {ls : mx_L} {st : List Value} {h : mx_H} (X : mx_X xs P G p R s m args meth c y cc nL D ta base sk dd Ts h0) {r i : Nat} (hr : r < 6) (hlk : Cond.fieldLink y.cls i "java/lang/String" "coder" "B" ∈ Ts) (hd : decode cc pc = .ok (.getfield i, 3)) (k : mx_W p l e R s m args below meth c D ta base sk h0 nL Q (pc + 3) (ls) (.int 0 :: st) (h)) : mx_W p l e R s m args below meth c D ta base sk h0 nL Q (pc) (ls) (.retAddr r :: st) (h) := by
  obtain ⟨⟨hx, hb, hml, hown, hts⟩, hini, hC, hz0, hsk, hWS, hGd, hfr, hlo⟩ := X
  intro H locs lsC hR hS hl a1 a2
  obtain ⟨a, e1, -, hc, hv⟩ := hC.2.2.2.2.2.2.1 r hr
  have k2 := k H locs lsC hR hS hl a1 a2
  show W p l e R s m args below meth c H locs _ _ Q (F0 m pc lsC (sk r :: st.map (mx_cv base sk)))
  rw [e1]
  exact vk_getf hx hb hc hS hown (hts _ hlk) (fun _ h => h) hd k2
theorem sd_ldcs {pc : Nat} {ls : mx_L} {st : List Value} {h : mx_H} (X : mx_X xs P G p R s m args meth c y cc nL D ta base sk dd Ts h0) {i a : Nat} (ho : y.cls = RX2) (hq : ∃ q ∈ mx_SL, q.1 = i ∧ q.2.2 = a) (hd : decode cc pc = .ok (.ldc i, 2)) (k : mx_W p l e R s m args below meth c D ta base sk h0 nL Q (pc + 2) (ls) (.retAddr a :: st) (h)) : mx_W p l e R s m args below meth c D ta base sk h0 nL Q (pc) (ls) (st) (h) := by
  obtain ⟨⟨hx, hb, hml, hown, hts⟩, hini, hC, hz0, hsk, hWS, hGd, hfr, hlo⟩ := X
  intro H locs lsC hR hS hl a1 a2
  obtain ⟨q, hq, rfl, rfl⟩ := hq
  obtain ⟨a, e1, hZ⟩ := hC.2.2.2.2.2.2.2 q hq
  have k2 := k H locs lsC hR hS hl a1 a2
  have e2 : ((Value.retAddr q.2.2 :: st).map (mx_cv base sk)) = .ref a :: st.map (mx_cv base sk) := by rw [List.map_cons, ← e1]; rfl
  rw [e2] at k2
  rw [ho] at hown
  exact va_ldcS hx hb hown hZ hd k2
theorem sd_gets {pc : Nat} {ls : mx_L} {st : List Value} {h : mx_H} (X : mx_X xs P G p R s m args meth c y cc nL D ta base sk dd Ts h0) {i a w : Nat} {v : Int32} (hlk : Cond.fieldLink y.cls i (mx_sta w a).1 (mx_sta w a).2.1 (mx_sta w a).2.2 ∈ Ts) (ho : (w = 0 ∧ (a = 200 ∨ a = 201 ∨ a = 999)) ∨ (¬ w = 0 ∧ v = 1)) (hd : decode cc pc = .ok (.getstatic i, 3)) (k : mx_W p l e R s m args below meth c D ta base sk h0 nL Q (pc + 3) (ls) (mx_sv w a v :: st) (h)) : mx_W p l e R s m args below meth c D ta base sk h0 nL Q (pc) (ls) (st) (h) := by
  obtain ⟨⟨hx, hb, hml, hown, hts⟩, hini, hC, hz0, hsk, hWS, hGd, hfr, hlo⟩ := X
  intro H locs lsC hR hS hl a1 a2
  have k2 := k H locs lsC hR hS hl a1 a2
  obtain ⟨z1, z2, z3, z4⟩ := hC.2.2.2.2.1
  rcases ho with ⟨rfl, rfl | rfl | rfl⟩ | ⟨hw, rfl⟩
  · exact va_gets hx hb z1 hS hown (hts _ hlk) (fun _ h => h) hd k2
  · exact va_gets hx hb z2 hS hown (hts _ hlk) (fun _ h => h) hd k2
  · exact va_gets hx hb z4 hS hown (hts _ hlk) (fun _ h => h) hd k2
  · match w, hw, hlk, k2 with
    | 0, hw, _, _ => exact absurd rfl hw
    | w + 1, _, hlk, k2 => exact va_gets hx hb z3 hS hown (hts _ hlk) (fun _ h => h) hd k2
theorem sd_getsN {pc : Nat} {ls : mx_L} {st : List Value} {h : mx_H} (X : mx_X xs P G p R s m args meth c y cc nL D ta base sk dd Ts h0) (ho : y.cls = "CreaseLines$Leg") (hd : decode cc pc = .ok (.getstatic 30, 3)) (k : mx_W p l e R s m args below meth c D ta base sk h0 nL Q (pc + 3) (ls) (.retAddr 200 :: st) (h)) : mx_W p l e R s m args below meth c D ta base sk h0 nL Q (pc) (ls) (st) (h) := by
  obtain ⟨⟨hx, hb, hml, hown, hts⟩, hini, hC, hz0, hsk, hWS, hGd, hfr, hlo⟩ := X
  intro H locs lsC hR hS hl a1 a2
  have k2 := k H locs lsC hR hS hl a1 a2
  rw [ho] at hown
  exact va_getsN hx hb hC.2.2.2.2.1.1 hS hown (va_Nw.use rfl hC.2.2.1) (fun _ h => h) hd k2
end MXT
end
section
/-! ===== what makes cells; calls ===== -/
section MXU
variable {p : Program} {l : Launch} {e : Env} {R : Room} {s : State} {m : MethodId} {args : Array Value} {below : List Frame} {meth : Method} {c : Code} {Q : State → Prop}
variable {xs : List Int32} {P : List mx_M} {G : List Cond} {y : MethodName} {cc : ByteArray} {nL : Nat} {ret : Option FieldType} {D : va_G} {ta : Nat → ClassId} {base : Nat} {sk : Nat → Value} {dd : Nat} {Ts : List Cond} {h0 : mx_H}
theorem sd_new {pc : Nat} {ls : mx_L} {st : List Value} {h : mx_H} (X : mx_X xs P G p R s m args meth c y cc nL D ta base sk dd Ts h0) {a i : Nat} (ha : a < 8) (h1 : Cond.classLink y.cls i (mx_RX a) ∈ Ts) (h2 : Cond.instantiable (mx_RX a) (mx_Nf a) ∈ Ts) (h3 : Cond.initialized (mx_RX a) ∈ Ts) (hc : h.length + 1 - h0.length ≤ R.cells) (hs : mx_sz (h ++ [.inr (a, mx_df a)]) - mx_sz h0 ≤ R.slots) (hd : decode cc pc = .ok (.new i, 3)) (k : mx_W p l e R s m args below meth c D ta base sk h0 nL Q (pc + 3) (ls) (.ref h.length :: st) (h ++ [.inr (a, mx_df a)])) : mx_W p l e R s m args below meth c D ta base sk h0 nL Q (pc) (ls) (st) (h) := by
  have X0 := X
  obtain ⟨⟨hx, hb, hml, hown, hts⟩, hini, hC, hz0, hsk, hWS, hGd, hfr, hlo⟩ := X
  intro H locs lsC hR hS hl a1 a2
  have hsz0 := hR.1
  have hN : mx_se (.inr (a, mx_df a)) = mx_Nf a := (mx_cl_df ha).1
  rw [mx_sz_push, hN] at hs
  refine va_new (fs := mx_df a) hx hb hts (fun w hw => hWS w (mx_cl_ws ha w hw)) (mx_tyf a) (mx_cl_ty ha) hown (hts _ h1) (hts _ h2) (hts _ h3) hC.1 hR.2 mx_ws_D hS (fun q hq => by show base ≤ q; omega) (mx_cl_at ha) ((mx_cl_df ha).2 base sk).2 (by omega) (by omega) hd (fun q H1 hP1 hD1 hS1 => ?_)
  have e0 : mx_ce base sk ta (.inr (a, mx_df a)) = .inr (a, mx_df a) := by show Sum.inr (a, (mx_df a).map (mx_cv base sk)) = _; rw [((mx_cl_df ha).2 base sk).1]
  rw [← e0] at hP1 hD1
  refine mx_sized fun hsz => ?_
  obtain ⟨rfl, e1⟩ := mx_fresh (x := mx_ce base sk ta (.inr (a, mx_df a))) hP1 hD1 (by omega)
  have hP2 : va_P D vwCl (mx_ws base sk ta (h ++ [.inr (a, mx_df a)])) H1 := by rw [mx_ws_push]; exact hP1
  have k2 := k H1 locs lsC ⟨by rw [List.length_append]; simp; omega, hP2⟩ hS1 hl (by rw [List.length_append]; omega) (by rw [mx_sz_push]; omega)
  rw [List.length_append, mx_sz_push] at k2
  have e3 : h.length + [(.inr (a, mx_df a) : va_E)].length - h0.length = h.length - h0.length + 1 := by simp; omega
  have e4 : mx_sz h + mx_se (.inr (a, mx_df a)) - mx_sz h0 = mx_sz h - mx_sz h0 + mx_Nf a := by simp [mx_se, (mx_cl_df ha).1]; omega
  rw [e3, e4] at k2
  exact k2
theorem sd_nai {pc : Nat} {ls : mx_L} {st : List Value} {h : mx_H} (X : mx_X xs P G p R s m args meth c y cc nL D ta base sk dd Ts h0) {n : Int32} (h1 : Cond.arrayClass (newarray.typeOf .int) ∈ Ts) (hn : ¬ n < 0) (hn2 : n.toNatClampNeg ≤ 4096) (hc : h.length + 1 - h0.length ≤ R.cells) (hs : mx_sz (h ++ [.inl (0, n.toNatClampNeg, .inl (fun _ => 0))]) - mx_sz h0 ≤ R.slots) (hd : decode cc pc = .ok (.newarray .int, 2)) (k : mx_W p l e R s m args below meth c D ta base sk h0 nL Q (pc + 2) (ls) (.ref h.length :: st) (h ++ [.inl (0, n.toNatClampNeg, .inl (fun _ => 0))])) : mx_W p l e R s m args below meth c D ta base sk h0 nL Q (pc) (ls) (.int n :: st) (h) := by
  have X0 := X
  obtain ⟨⟨hx, hb, hml, hown, hts⟩, hini, hC, hz0, hsk, hWS, hGd, hfr, hlo⟩ := X
  intro H locs lsC hR hS hl a1 a2
  have hsz0 := hR.1
  rw [mx_sz_push] at hs
  have hN : mx_se (.inl (0, n.toNatClampNeg, .inl (fun _ => 0))) = n.toNatClampNeg := rfl
  rw [hN] at hs
  have hcb : componentBytes .int ≤ 4 := by decide
  refine va_newa (ty := .int) (a0 := (n.toNatClampNeg, .inl (fun _ => 0))) hx hb (hts _ h1) rfl hC.1 hR.2 mx_ws_D hS (fun q hq => by show base ≤ q; omega) (fun cA => rfl) hn rfl (Nat.le_trans (Nat.mul_le_mul hn2 hcb) (by decide)) (by omega) (by omega) hd (fun q cA H1 hK1 hP1 hD1 hS1 => ?_)
  have eA : cA = ta 0 := by
    have r1 : s.vm.findClass ("[" ++ (.int : FieldType).toString) = some cA := (hK1.2 7 (cA, .int) rfl).2
    have r2 : s.vm.findClass ("[" ++ (.int : FieldType).toString) = some (ta 0) := (hC.1.2 0 (ta 0, .int) rfl).2
    exact Option.some.inj (r1.symm.trans r2)
  subst eA
  refine mx_sized fun hsz => ?_
  obtain ⟨rfl, e1⟩ := mx_fresh (x := mx_ce base sk ta (.inl (0, n.toNatClampNeg, .inl (fun _ => 0)))) hP1 hD1 (by omega)
  have hP2 : va_P D vwCl (mx_ws base sk ta (h ++ [.inl (0, n.toNatClampNeg, .inl (fun _ => 0))])) H1 := by rw [mx_ws_push]; exact hP1
  have k2 := k H1 locs lsC ⟨by rw [List.length_append]; simp; omega, hP2⟩ hS1 hl (by rw [List.length_append]; omega) (by rw [mx_sz_push]; omega)
  rw [List.length_append, mx_sz_push] at k2
  have e3 : h.length + [(.inl (0, n.toNatClampNeg, .inl (fun _ => 0)) : va_E)].length - h0.length = h.length - h0.length + 1 := by simp; omega
  have e4 : mx_sz h + mx_se (.inl (0, n.toNatClampNeg, .inl (fun _ => 0))) - mx_sz h0 = mx_sz h - mx_sz h0 + n.toNatClampNeg := by simp [mx_se]; omega
  rw [e3, e4] at k2
  exact k2
theorem sd_naz {pc : Nat} {ls : mx_L} {st : List Value} {h : mx_H} (X : mx_X xs P G p R s m args meth c y cc nL D ta base sk dd Ts h0) {n : Int32} (h1 : Cond.arrayClass (newarray.typeOf .boolean) ∈ Ts) (hn : ¬ n < 0) (hn2 : n.toNatClampNeg ≤ 4096) (hc : h.length + 1 - h0.length ≤ R.cells) (hs : mx_sz (h ++ [.inl (1, n.toNatClampNeg, .inl (fun _ => 0))]) - mx_sz h0 ≤ R.slots) (hd : decode cc pc = .ok (.newarray .boolean, 2)) (k : mx_W p l e R s m args below meth c D ta base sk h0 nL Q (pc + 2) (ls) (.ref h.length :: st) (h ++ [.inl (1, n.toNatClampNeg, .inl (fun _ => 0))])) : mx_W p l e R s m args below meth c D ta base sk h0 nL Q (pc) (ls) (.int n :: st) (h) := by
  have X0 := X
  obtain ⟨⟨hx, hb, hml, hown, hts⟩, hini, hC, hz0, hsk, hWS, hGd, hfr, hlo⟩ := X
  intro H locs lsC hR hS hl a1 a2
  have hsz0 := hR.1
  rw [mx_sz_push] at hs
  have hN : mx_se (.inl (1, n.toNatClampNeg, .inl (fun _ => 0))) = n.toNatClampNeg := rfl
  rw [hN] at hs
  have hcb : componentBytes .boolean ≤ 4 := by decide
  refine va_newa (ty := .boolean) (a0 := (n.toNatClampNeg, .inl (fun _ => 0))) hx hb (hts _ h1) rfl hC.1 hR.2 mx_ws_D hS (fun q hq => by show base ≤ q; omega) (fun cA => rfl) hn rfl (Nat.le_trans (Nat.mul_le_mul hn2 hcb) (by decide)) (by omega) (by omega) hd (fun q cA H1 hK1 hP1 hD1 hS1 => ?_)
  have eA : cA = ta 1 := by
    have r1 : s.vm.findClass ("[" ++ (.boolean : FieldType).toString) = some cA := (hK1.2 7 (cA, .boolean) rfl).2
    have r2 : s.vm.findClass ("[" ++ (.boolean : FieldType).toString) = some (ta 1) := (hC.1.2 1 (ta 1, .boolean) rfl).2
    exact Option.some.inj (r1.symm.trans r2)
  subst eA
  refine mx_sized fun hsz => ?_
  obtain ⟨rfl, e1⟩ := mx_fresh (x := mx_ce base sk ta (.inl (1, n.toNatClampNeg, .inl (fun _ => 0)))) hP1 hD1 (by omega)
  have hP2 : va_P D vwCl (mx_ws base sk ta (h ++ [.inl (1, n.toNatClampNeg, .inl (fun _ => 0))])) H1 := by rw [mx_ws_push]; exact hP1
  have k2 := k H1 locs lsC ⟨by rw [List.length_append]; simp; omega, hP2⟩ hS1 hl (by rw [List.length_append]; omega) (by rw [mx_sz_push]; omega)
  rw [List.length_append, mx_sz_push] at k2
  have e3 : h.length + [(.inl (1, n.toNatClampNeg, .inl (fun _ => 0)) : va_E)].length - h0.length = h.length - h0.length + 1 := by simp; omega
  have e4 : mx_sz h + mx_se (.inl (1, n.toNatClampNeg, .inl (fun _ => 0))) - mx_sz h0 = mx_sz h - mx_sz h0 + n.toNatClampNeg := by simp [mx_se]; omega
  rw [e3, e4] at k2
  exact k2
theorem sd_nac {pc : Nat} {ls : mx_L} {st : List Value} {h : mx_H} (X : mx_X xs P G p R s m args meth c y cc nL D ta base sk dd Ts h0) {n : Int32} (h1 : Cond.arrayClass (newarray.typeOf .char) ∈ Ts) (hn : ¬ n < 0) (hn2 : n.toNatClampNeg ≤ 4096) (hc : h.length + 1 - h0.length ≤ R.cells) (hs : mx_sz (h ++ [.inl (2, n.toNatClampNeg, .inl (fun _ => 0))]) - mx_sz h0 ≤ R.slots) (hd : decode cc pc = .ok (.newarray .char, 2)) (k : mx_W p l e R s m args below meth c D ta base sk h0 nL Q (pc + 2) (ls) (.ref h.length :: st) (h ++ [.inl (2, n.toNatClampNeg, .inl (fun _ => 0))])) : mx_W p l e R s m args below meth c D ta base sk h0 nL Q (pc) (ls) (.int n :: st) (h) := by
  have X0 := X
  obtain ⟨⟨hx, hb, hml, hown, hts⟩, hini, hC, hz0, hsk, hWS, hGd, hfr, hlo⟩ := X
  intro H locs lsC hR hS hl a1 a2
  have hsz0 := hR.1
  rw [mx_sz_push] at hs
  have hN : mx_se (.inl (2, n.toNatClampNeg, .inl (fun _ => 0))) = n.toNatClampNeg := rfl
  rw [hN] at hs
  have hcb : componentBytes .char ≤ 4 := by decide
  refine va_newa (ty := .char) (a0 := (n.toNatClampNeg, .inl (fun _ => 0))) hx hb (hts _ h1) rfl hC.1 hR.2 mx_ws_D hS (fun q hq => by show base ≤ q; omega) (fun cA => rfl) hn rfl (Nat.le_trans (Nat.mul_le_mul hn2 hcb) (by decide)) (by omega) (by omega) hd (fun q cA H1 hK1 hP1 hD1 hS1 => ?_)
  have eA : cA = ta 2 := by
    have r1 : s.vm.findClass ("[" ++ (.char : FieldType).toString) = some cA := (hK1.2 7 (cA, .char) rfl).2
    have r2 : s.vm.findClass ("[" ++ (.char : FieldType).toString) = some (ta 2) := (hC.1.2 2 (ta 2, .char) rfl).2
    exact Option.some.inj (r1.symm.trans r2)
  subst eA
  refine mx_sized fun hsz => ?_
  obtain ⟨rfl, e1⟩ := mx_fresh (x := mx_ce base sk ta (.inl (2, n.toNatClampNeg, .inl (fun _ => 0)))) hP1 hD1 (by omega)
  have hP2 : va_P D vwCl (mx_ws base sk ta (h ++ [.inl (2, n.toNatClampNeg, .inl (fun _ => 0))])) H1 := by rw [mx_ws_push]; exact hP1
  have k2 := k H1 locs lsC ⟨by rw [List.length_append]; simp; omega, hP2⟩ hS1 hl (by rw [List.length_append]; omega) (by rw [mx_sz_push]; omega)
  rw [List.length_append, mx_sz_push] at k2
  have e3 : h.length + [(.inl (2, n.toNatClampNeg, .inl (fun _ => 0)) : va_E)].length - h0.length = h.length - h0.length + 1 := by simp; omega
  have e4 : mx_sz h + mx_se (.inl (2, n.toNatClampNeg, .inl (fun _ => 0))) - mx_sz h0 = mx_sz h - mx_sz h0 + n.toNatClampNeg := by simp [mx_se]; omega
  rw [e3, e4] at k2
  exact k2
theorem sd_nq {pc : Nat} {ls : mx_L} {st : List Value} {h : mx_H} (X : mx_X xs P G p R s m args meth c y cc nL D ta base sk dd Ts h0) {a i : Nat} {n : Int32} (ha : 3 ≤ a ∧ a ≤ 6) (h1 : Cond.classLink y.cls i (mx_RX (mx_kc a)) ∈ Ts) (hn : ¬ n < 0) (hn2 : n.toNatClampNeg ≤ 4096) (hc : h.length + 1 - h0.length ≤ R.cells) (hs : mx_sz (h ++ [.inl (a, n.toNatClampNeg, .inr (.inr (.inr (.inr (fun _ => none)))))]) - mx_sz h0 ≤ R.slots) (hd : decode cc pc = .ok (.anewarray i, 3)) (k : mx_W p l e R s m args below meth c D ta base sk h0 nL Q (pc + 3) (ls) (.ref h.length :: st) (h ++ [.inl (a, n.toNatClampNeg, .inr (.inr (.inr (.inr (fun _ => none)))))])) : mx_W p l e R s m args below meth c D ta base sk h0 nL Q (pc) (ls) (.int n :: st) (h) := by
  have X0 := X
  obtain ⟨⟨hx, hb, hml, hown, hts⟩, hini, hC, hz0, hsk, hWS, hGd, hfr, hlo⟩ := X
  intro H locs lsC hR hS hl a1 a2
  have hsz0 := hR.1
  rw [mx_sz_push] at hs
  have hN : mx_se (.inl (a, n.toNatClampNeg, .inr (.inr (.inr (.inr (fun _ => none)))))) = n.toNatClampNeg := rfl
  rw [hN] at hs
  have hAO : va_AO (mx_RX (mx_kc a)) s := by
    obtain ⟨z1, z2, z3, z4⟩ := hC.2.2.2.1
    obtain ⟨b1, b2⟩ := ha
    rcases (show a = 3 ∨ a = 4 ∨ a = 5 ∨ a = 6 by omega) with rfl | rfl | rfl | rfl
    · exact z1
    · exact z2
    · exact z3
    · exact z4
  refine va_newq hx hb hown (hts _ h1) hAO hC.1 hR.2 mx_ws_D hS (fun q hq => by show base ≤ q; omega) hn rfl (by omega) (by omega) (by omega) hd (fun q cA H1 hK1 hP1 hD1 hS1 => ?_)
  have eA : cA = ta a := by
    obtain ⟨_, _, _, _, _, r1⟩ := (hK1.2 7 (cA, .object (mx_RX (mx_kc a))) rfl).2
    obtain ⟨_, _, _, _, _, r2⟩ := (hC.1.2 a (ta a, .object (mx_RX (mx_kc a))) (mx_ty_at ha).1).2
    exact Option.some.inj (r1.symm.trans r2)
  subst eA
  refine mx_sized fun hsz => ?_
  obtain ⟨rfl, e1⟩ := mx_fresh (x := mx_ce base sk ta (.inl (a, n.toNatClampNeg, .inr (.inr (.inr (.inr (fun _ => none))))))) hP1 hD1 (by omega)
  have hP2 : va_P D vwCl (mx_ws base sk ta (h ++ [.inl (a, n.toNatClampNeg, .inr (.inr (.inr (.inr (fun _ => none)))))])) H1 := by rw [mx_ws_push]; exact hP1
  have k2 := k H1 locs lsC ⟨by rw [List.length_append]; simp; omega, hP2⟩ hS1 hl (by rw [List.length_append]; omega) (by rw [mx_sz_push]; omega)
  rw [List.length_append, mx_sz_push] at k2
  have e3 : h.length + [(.inl (a, n.toNatClampNeg, .inr (.inr (.inr (.inr (fun _ => none))))) : va_E)].length - h0.length = h.length - h0.length + 1 := by simp; omega
  have e4 : mx_sz h + mx_se (.inl (a, n.toNatClampNeg, .inr (.inr (.inr (.inr (fun _ => none)))))) - mx_sz h0 = mx_sz h - mx_sz h0 + n.toNatClampNeg := by simp [mx_se]; omega
  rw [e3, e4] at k2
  exact k2
theorem sd_cpy {pc : Nat} {ls : mx_L} {st : List Value} {h : mx_H} (X : mx_X xs P G p R s m args meth c y cc nL D ta base sk dd Ts h0) {i sa da n0 n1 : Nat} {sp dp n : Int32} {f0 f1 : Nat → Int32} (h1 : Cond.methodLink y.cls i arraycopyName ∈ Ts) (h2 : Cond.native arraycopyName ∈ Ts) (h3 : Cond.static arraycopyName ∈ Ts) (h4 : Cond.initialized "java/lang/System" ∈ Ts) (he0 : h[sa]? = some (.inl (0, n0, .inl f0))) (he1 : h[da]? = some (.inl (0, n1, .inl f1))) (c1 : ¬ sp < 0) (c2 : ¬ dp < 0) (c3 : ¬ n < 0) (c4 : sp.toNatClampNeg + n.toNatClampNeg ≤ n0) (c5 : dp.toNatClampNeg + n.toNatClampNeg ≤ n1) (hr : (st.map fun v => v.category).sum ≤ 8) (hd : decode cc pc = .ok (.invokestatic i, 3)) (k : mx_W p l e R s m args below meth c D ta base sk h0 nL Q (pc + 3) (ls) (st) (h.set da (.inl (0, n1, .inl (va_cpy f0 f1 sp.toNatClampNeg dp.toNatClampNeg n.toNatClampNeg))))) : mx_W p l e R s m args below meth c D ta base sk h0 nL Q (pc) (ls) (.int n :: .int dp :: .ref da :: .int sp :: .ref sa :: st) (h) := by
  have X0 := X
  obtain ⟨⟨hx, hb, hml, hown, hts⟩, hini, hC, hz0, hsk, hWS, hGd, hfr, hlo⟩ := X
  intro H locs lsC hR hS hl a1 a2
  have hnf : nativeFrameWords "java/lang/System" "arraycopy" 5 = 7 := by decide
  refine va_copyi (ty := .int) hx hb (hml.trans hl.1.symm) hown (hts _ h1) (hts _ h2) (hts _ h3) (hts _ h4) hC.1 hR.2 mx_ws_D hS sa da 0 0 (mx_ws_at he0) (mx_ws_at he1) rfl rfl rfl c1 c2 c3 c4 c5 (fun _ _ => rfl) (by omega) (by rw [mx_cats hsk, hnf]; omega) hd (fun H1 locs1 hP1 _ hS1 => ?_)
  have hP2 : va_P D vwCl (mx_ws base sk ta (h.set da (.inl (0, n1, .inl (va_cpy f0 f1 sp.toNatClampNeg dp.toNatClampNeg n.toNatClampNeg))))) H1 := by rw [← mx_ws_set]; exact hP1
  refine mx_sized fun hsz => ?_
  have e1 := mx_low hP2 (by rw [List.length_set]; exact Nat.lt_of_le_of_lt (Nat.zero_le da) (mx_pos he1))
  rw [List.length_set] at e1
  have e2 : mx_sz (h.set da (.inl (0, n1, .inl (va_cpy f0 f1 sp.toNatClampNeg dp.toNatClampNeg n.toNatClampNeg)))) = mx_sz h := mx_sz_set he1 (by simp [mx_se])
  have k2 := k H1 locs1 lsC ⟨by rw [List.length_set]; have := hR.1; omega, hP2⟩ hS1 hl (by rw [List.length_set]; exact a1) (by rw [e2]; exact a2)
  rw [List.length_set, e2] at k2
  exact k2
theorem sd_oinit {pc : Nat} {ls : mx_L} {st : List Value} {h : mx_H} (X : mx_X xs P G p R s m args meth c y cc nL D ta base sk dd Ts h0) {i r : Nat} (h1 : Cond.methodLink y.cls i objectInit ∈ Ts) (h2 : Cond.instanceMethod objectInit ∈ Ts) (h3 : Cond.code objectInit ⟨#[0xb1]⟩ 1 none ∈ Ts) (hr : (st.map fun v => v.category).sum ≤ 8) (hd : decode cc pc = .ok (.invokespecial i, 3)) (k : mx_W p l e R s m args below meth c D ta base sk h0 nL Q (pc + 3) (ls) (st) (h)) : mx_W p l e R s m args below meth c D ta base sk h0 nL Q (pc) (ls) (.ref r :: st) (h) := by
  have X0 := X
  obtain ⟨⟨hx, hb, hml, hown, hts⟩, hini, hC, hz0, hsk, hWS, hGd, hfr, hlo⟩ := X
  intro H locs lsC hR hS hl a1 a2
  refine W.objInit hx hb hown (hts _ h1) (hts _ h2) (hts _ h3) rfl (hl.1.trans hml.symm) rfl hd (by omega) (by
    have := lv_room (m := m) (pc := pc) (ls := lsC) (rest := (Value.ref r :: st).map (mx_cv base sk)) (st := st.map (mx_cv base sk)) (by rw [mx_cats hsk]; exact hr)
    omega) ?_
  exact k H locs lsC hR hS hl a1 a2
/-- a method's start and end, over the pure heap -/
def mx_Pc (xs : List Int32) (D : va_G) (ta : Nat → ClassId) (base : Nat) (sk : Nat → Value) (as : List Value) (h : mx_H) : Array Value → State → Prop := va_Pc (as.map (mx_cv base sk)) (fun U => mx_Rl D ta base sk h U.heap ∧ mx_C xs D ta base sk U U.heap)
def mx_Qc (D : va_G) (ta : Nat → ClassId) (base : Nat) (sk : Nat → Value) (rv : Option Value) (h' : mx_H) : Array Value → State → Outcome → State → Prop := fun _ st oc t => oc = .returned (rv.map (mx_cv base sk)) ∧ mx_Rl D ta base sk h' t.heap ∧ va_F (mx_A base) st t
def mx_room (d : Nat) (h h' : mx_H) : Room := { frames := d, cells := h'.length - h.length, slots := mx_sz h' - mx_sz h, locals := 36 * d }
def mx_Met (xs : List Int32) (l : Launch) (P : List mx_M) (G : List Cond) (D : va_G) (ta : Nat → ClassId) (base : Nat) (sk : Nat → Value) (d j : Nat) (as : List Value) (h : mx_H) (rv : Option Value) (h' : mx_H) : Prop :=
  ∃ M : mx_M, P[j]? = some M ∧ Met l M.1 (Cond.code M.1 M.2.1 M.2.2.1 M.2.2.2.1 :: G) (mx_room d h h') (mx_Pc xs D ta base sk as h) (mx_Qc D ta base sk rv h') (h'.length - h.length) (mx_sz h' - mx_sz h) (mx_A base)
theorem mx_blind {as : List Value} {h : mx_H} : FrameBlind (mx_Pc xs D ta base sk as h) := fun a U g mk q => ⟨q.1, q.2.1, mx_C.same (u := U) rfl q.2.2⟩
theorem mx_goon {H : Heap} {locs : List Loc} {cells slots mc ms pc : Nat} {ls : Array Slot} {st0 rest : List Value} {a : Array Value} {rv : Option Value} {g' : mx_H} (hr : va_Run p l e R s m args below meth c H locs cells slots mc ms (F0 m pc ls st0) rest (mx_Qc D ta base sk rv g' a) (mx_A base)) (hS : va_S (mx_A base) s.heap H locs)
    (kk : ∀ (H1 : Heap) (locs1 : List Loc), mx_Rl D ta base sk g' H1 → va_S (mx_A base) s.heap H1 locs1 → W p l e R s m args below meth c H1 locs1 (cells + mc) (slots + ms) Q (F0 m (pc + 3) ls ((rv.map (mx_cv base sk)).toList ++ rest))) : W p l e R s m args below meth c H locs cells slots Q (F0 m pc ls st0) := by
  intro T hT X
  obtain ⟨v, st₀, t, T', L, h0, X', hL, e1, e2, ⟨hv, hRl, hz, hk⟩, st⟩ := hr T hT X
  cases hv
  rw [h0] at hz hk
  obtain ⟨t2, a1, b1⟩ := kk T'.heap (locs ++ L) (by rw [e1]; exact hRl)
    ⟨Nat.le_trans hS.1 (by rw [e1]; exact hz), fun q h1 h2 => by rw [e1, hk q (Nat.lt_of_lt_of_le h1 hS.1) h2]; exact hS.2.1 q h1 h2, fun q hq => by
      rcases List.mem_append.mp hq with h | h
      · exact hS.2.2 q h
      · exact hL q h⟩ T' rfl X'
  exact ⟨t2, st t2 a1, b1⟩
theorem sd_callV {pc : Nat} {ls : mx_L} {st : List Value} {h : mx_H} (X : mx_X xs P G p R s m args meth c y cc nL D ta base sk dd Ts h0) {M' : mx_M} {i b a : Nat} {as : List Value} {rv : Option Value} {g : mx_H} (hPM : P[a]? = some M') (hcal : mx_cal M' b = true) (hb2 : as.length = b) (hst : (st.map fun v => v.category).sum ≤ 8) (hg1 : h.length ≤ g.length) (hg2 : mx_sz h ≤ mx_sz g) (hc : g.length - h0.length ≤ R.cells) (hs : mx_sz g - mx_sz h0 ≤ R.slots) (h1 : Cond.methodLink y.cls i M'.1 ∈ Ts) (h2 : Cond.instanceMethod M'.1 ∈ Ts) (h3 : Cond.selects M'.1.cls M'.1 M'.1 ∈ Ts) (h4 : Cond.initialized M'.1.cls ∈ Ts) {u r : Nat} {fs : List Value} (hu : u < 8) (hcl : mx_RX u = M'.1.cls) (he : h[r]? = some (.inr (u, fs))) (hcall : mx_Met xs l P G D ta base sk dd a (.ref r :: as) h rv g) (hd : decode cc pc = .ok (.invokevirtual i, 3)) (k : mx_W p l e R s m args below meth c D ta base sk h0 nL Q (pc + 3) (ls) (rv.toList ++ st) (g)) : mx_W p l e R s m args below meth c D ta base sk h0 nL Q (pc) (ls) (as.reverse ++ .ref r :: st) (h) := by
  have X0 := X
  obtain ⟨⟨hx, hb, hml, hown, hts⟩, hini, hC, hz0, hsk, hWS, hGd, hfr, hlo⟩ := X
  simp only [mx_cal, Bool.and_eq_true, decide_eq_true_eq] at hcal
  obtain ⟨hnm, hmx⟩ := hcal
  have hmx := Nat.le_of_ble_eq_true hmx
  intro H locs lsC hR hS hl a1 a2
  obtain ⟨M, hM, hMet⟩ := hcall
  have hM0 : M = M' := Option.some.inj (hM.symm.trans hPM)
  subst hM0
  have hnext : ∀ U : State, U.heap = H → s.WarmedH U.vm → mx_Rl D ta base sk h U.heap ∧ mx_C xs D ta base sk U U.heap := fun U hU hW => ⟨by rw [hU]; exact hR, by rw [hU]; exact (hC.kept hS.2.1).warm hW⟩
  have hroom : (mx_room dd h g).frames + 1 ≤ R.frames ∧ 8 + (M.2.2.1 + 11) + (mx_room dd h g).locals ≤ R.locals := ⟨hfr, by show 8 + (M.2.2.1 + 11) + 36 * dd ≤ R.locals; omega⟩
  have hfit : h.length - h0.length + (g.length - h.length) ≤ R.cells ∧ mx_sz h - mx_sz h0 + (mx_sz g - mx_sz h) ≤ R.slots := by omega
  have e3 : h.length - h0.length + (g.length - h.length) = g.length - h0.length := by omega
  have e4 : mx_sz h - mx_sz h0 + (mx_sz g - mx_sz h) = mx_sz g - mx_sz h0 := by omega
  have hgo : ∀ (H1 : Heap) (locs1 : List Loc), mx_Rl D ta base sk g H1 → va_S (mx_A base) s.heap H1 locs1 → W p l e R s m args below meth c H1 locs1 (h.length - h0.length + (g.length - h.length)) (mx_sz h - mx_sz h0 + (mx_sz g - mx_sz h)) Q (F0 m (pc + 3) lsC ((rv.map (mx_cv base sk)).toList ++ st.map (mx_cv base sk))) := by
    intro H1 locs1 hR1 hS1
    have k2 := k H1 locs1 lsC hR1 hS1 hl (by omega) (by omega)
    rw [e3, e4]
    cases rv with
    | none => exact k2
    | some v => exact k2
  have hrm : 2 * (F0 m pc lsC ([] : List Value)).monitorRoom + ((st.map (mx_cv base sk)).map fun v => v.category).sum ≤ 8 := lv_room (by rw [mx_cats hsk]; exact hst)
  refine mx_goon (rest := st.map (mx_cv base sk)) (va_runV (As := as.map (mx_cv base sk)) (b := base + r) (C := M.1.cls) ⟨hx, hb, hml, hown, hts⟩ hMet ⟨callB_of b hts (hGd _ _ hPM) rfl rfl rfl (hts _ h4) (hts _ h1) hnm hroom, hts _ h2, hts _ h3⟩ ⟨mx_blind, ?_, fun U hU hW => ⟨rfl, hnext U hU hW⟩⟩ rfl (by rw [List.length_map]; exact hb2) hl.1 (by simp [mx_cv]) hrm hd hfit) hS hgo
  rw [← hcl]
  exact va_recv hC.1 hR.2 (mx_cl_at hu) (mx_ws_at he)
theorem sd_callT {pc : Nat} {ls : mx_L} {st : List Value} {h : mx_H} (X : mx_X xs P G p R s m args meth c y cc nL D ta base sk dd Ts h0) {M' : mx_M} {i b a : Nat} {as : List Value} {rv : Option Value} {g : mx_H} (hPM : P[a]? = some M') (hcal : mx_cal M' b = true) (hb2 : as.length = b) (hst : (st.map fun v => v.category).sum ≤ 8) (hg1 : h.length ≤ g.length) (hg2 : mx_sz h ≤ mx_sz g) (hc : g.length - h0.length ≤ R.cells) (hs : mx_sz g - mx_sz h0 ≤ R.slots) (h1 : Cond.methodLink y.cls i M'.1 ∈ Ts) (h2 : Cond.instanceMethod M'.1 ∈ Ts) (h3 : Cond.selects M'.1.cls M'.1 M'.1 ∈ Ts) (h4 : Cond.initialized M'.1.cls ∈ Ts) {r : Nat} (hr : r < 6) (hcl : M'.1.cls = "java/lang/String") (hcall : mx_Met xs l P G D ta base sk dd a (.retAddr r :: as) h rv g) (hd : decode cc pc = .ok (.invokevirtual i, 3)) (k : mx_W p l e R s m args below meth c D ta base sk h0 nL Q (pc + 3) (ls) (rv.toList ++ st) (g)) : mx_W p l e R s m args below meth c D ta base sk h0 nL Q (pc) (ls) (as.reverse ++ .retAddr r :: st) (h) := by
  have X0 := X
  obtain ⟨⟨hx, hb, hml, hown, hts⟩, hini, hC, hz0, hsk, hWS, hGd, hfr, hlo⟩ := X
  simp only [mx_cal, Bool.and_eq_true, decide_eq_true_eq] at hcal
  obtain ⟨hnm, hmx⟩ := hcal
  have hmx := Nat.le_of_ble_eq_true hmx
  intro H locs lsC hR hS hl a1 a2
  obtain ⟨M, hM, hMet⟩ := hcall
  have hM0 : M = M' := Option.some.inj (hM.symm.trans hPM)
  subst hM0
  have hnext : ∀ U : State, U.heap = H → s.WarmedH U.vm → mx_Rl D ta base sk h U.heap ∧ mx_C xs D ta base sk U U.heap := fun U hU hW => ⟨by rw [hU]; exact hR, by rw [hU]; exact (hC.kept hS.2.1).warm hW⟩
  have hroom : (mx_room dd h g).frames + 1 ≤ R.frames ∧ 8 + (M.2.2.1 + 11) + (mx_room dd h g).locals ≤ R.locals := ⟨hfr, by show 8 + (M.2.2.1 + 11) + 36 * dd ≤ R.locals; omega⟩
  have hfit : h.length - h0.length + (g.length - h.length) ≤ R.cells ∧ mx_sz h - mx_sz h0 + (mx_sz g - mx_sz h) ≤ R.slots := by omega
  have e3 : h.length - h0.length + (g.length - h.length) = g.length - h0.length := by omega
  have e4 : mx_sz h - mx_sz h0 + (mx_sz g - mx_sz h) = mx_sz g - mx_sz h0 := by omega
  have hgo : ∀ (H1 : Heap) (locs1 : List Loc), mx_Rl D ta base sk g H1 → va_S (mx_A base) s.heap H1 locs1 → W p l e R s m args below meth c H1 locs1 (h.length - h0.length + (g.length - h.length)) (mx_sz h - mx_sz h0 + (mx_sz g - mx_sz h)) Q (F0 m (pc + 3) lsC ((rv.map (mx_cv base sk)).toList ++ st.map (mx_cv base sk))) := by
    intro H1 locs1 hR1 hS1
    have k2 := k H1 locs1 lsC hR1 hS1 hl (by omega) (by omega)
    rw [e3, e4]
    cases rv with
    | none => exact k2
    | some v => exact k2
  have hrm : 2 * (F0 m pc lsC ([] : List Value)).monitorRoom + ((st.map (mx_cv base sk)).map fun v => v.category).sum ≤ 8 := lv_room (by rw [mx_cats hsk]; exact hst)
  obtain ⟨q, e5, hO, -⟩ := hC.2.2.2.2.2.2.1 r hr
  refine mx_goon (rest := st.map (mx_cv base sk)) (va_runV (As := as.map (mx_cv base sk)) (b := q) (C := M.1.cls) ⟨hx, hb, hml, hown, hts⟩ hMet ⟨callB_of b hts (hGd _ _ hPM) rfl rfl rfl (hts _ h4) (hts _ h1) hnm hroom, hts _ h2, hts _ h3⟩ ⟨mx_blind, ?_, fun U hU hW => ⟨by rw [← e5]; rfl, hnext U hU hW⟩⟩ rfl (by rw [List.length_map]; exact hb2) hl.1 (by simp [mx_cv, e5]) hrm hd hfit) hS hgo
  rw [hcl]
  obtain ⟨cell, x1, x2, x3, -⟩ := va_O.kept hO hS.2.1
  exact ⟨cell, x1, x2, x3⟩
theorem sd_callS {pc : Nat} {ls : mx_L} {st : List Value} {h : mx_H} (X : mx_X xs P G p R s m args meth c y cc nL D ta base sk dd Ts h0) {M' : mx_M} {i b a : Nat} {as : List Value} {rv : Option Value} {g : mx_H} (hPM : P[a]? = some M') (hcal : mx_cal M' b = true) (hb2 : as.length = b) (hst : (st.map fun v => v.category).sum ≤ 8) (hg1 : h.length ≤ g.length) (hg2 : mx_sz h ≤ mx_sz g) (hc : g.length - h0.length ≤ R.cells) (hs : mx_sz g - mx_sz h0 ≤ R.slots) (h1 : Cond.methodLink y.cls i M'.1 ∈ Ts) (h2 : Cond.static M'.1 ∈ Ts) (h4 : Cond.initialized M'.1.cls ∈ Ts) (hcall : mx_Met xs l P G D ta base sk dd a as h rv g) (hd : decode cc pc = .ok (.invokestatic i, 3)) (k : mx_W p l e R s m args below meth c D ta base sk h0 nL Q (pc + 3) (ls) (rv.toList ++ st) (g)) : mx_W p l e R s m args below meth c D ta base sk h0 nL Q (pc) (ls) (as.reverse ++ st) (h) := by
  have X0 := X
  obtain ⟨⟨hx, hb, hml, hown, hts⟩, hini, hC, hz0, hsk, hWS, hGd, hfr, hlo⟩ := X
  simp only [mx_cal, Bool.and_eq_true, decide_eq_true_eq] at hcal
  obtain ⟨hnm, hmx⟩ := hcal
  have hmx := Nat.le_of_ble_eq_true hmx
  intro H locs lsC hR hS hl a1 a2
  obtain ⟨M, hM, hMet⟩ := hcall
  have hM0 : M = M' := Option.some.inj (hM.symm.trans hPM)
  subst hM0
  have hnext : ∀ U : State, U.heap = H → s.WarmedH U.vm → mx_Rl D ta base sk h U.heap ∧ mx_C xs D ta base sk U U.heap := fun U hU hW => ⟨by rw [hU]; exact hR, by rw [hU]; exact (hC.kept hS.2.1).warm hW⟩
  have hroom : (mx_room dd h g).frames + 1 ≤ R.frames ∧ 8 + (M.2.2.1 + 11) + (mx_room dd h g).locals ≤ R.locals := ⟨hfr, by show 8 + (M.2.2.1 + 11) + 36 * dd ≤ R.locals; omega⟩
  have hfit : h.length - h0.length + (g.length - h.length) ≤ R.cells ∧ mx_sz h - mx_sz h0 + (mx_sz g - mx_sz h) ≤ R.slots := by omega
  have e3 : h.length - h0.length + (g.length - h.length) = g.length - h0.length := by omega
  have e4 : mx_sz h - mx_sz h0 + (mx_sz g - mx_sz h) = mx_sz g - mx_sz h0 := by omega
  have hgo : ∀ (H1 : Heap) (locs1 : List Loc), mx_Rl D ta base sk g H1 → va_S (mx_A base) s.heap H1 locs1 → W p l e R s m args below meth c H1 locs1 (h.length - h0.length + (g.length - h.length)) (mx_sz h - mx_sz h0 + (mx_sz g - mx_sz h)) Q (F0 m (pc + 3) lsC ((rv.map (mx_cv base sk)).toList ++ st.map (mx_cv base sk))) := by
    intro H1 locs1 hR1 hS1
    have k2 := k H1 locs1 lsC hR1 hS1 hl (by omega) (by omega)
    rw [e3, e4]
    cases rv with
    | none => exact k2
    | some v => exact k2
  have hrm : 2 * (F0 m pc lsC ([] : List Value)).monitorRoom + ((st.map (mx_cv base sk)).map fun v => v.category).sum ≤ 8 := lv_room (by rw [mx_cats hsk]; exact hst)
  exact mx_goon (rest := st.map (mx_cv base sk)) (va_runS (As := as.map (mx_cv base sk)) ⟨hx, hb, hml, hown, hts⟩ hMet ⟨callB_of b hts (hGd _ _ hPM) rfl rfl rfl (hts _ h4) (hts _ h1) hnm hroom, hts _ h2⟩ ⟨mx_blind, fun U hU hW => ⟨rfl, hnext U hU hW⟩⟩ rfl (by rw [List.length_map]; exact hb2) hl.1 (by simp) hrm hd hfit) hS hgo
theorem sd_callSN {pc : Nat} {ls : mx_L} {st : List Value} {h : mx_H} (X : mx_X xs P G p R s m args meth c y cc nL D ta base sk dd Ts h0) {M' : mx_M} {i b a : Nat} {as : List Value} {rv : Option Value} {g : mx_H} (hPM : P[a]? = some M') (hcal : mx_cal M' b = true) (hb2 : as.length = b) (hst : (st.map fun v => v.category).sum ≤ 8) (hg1 : h.length ≤ g.length) (hg2 : mx_sz h ≤ mx_sz g) (hc : g.length - h0.length ≤ R.cells) (hs : mx_sz g - mx_sz h0 ≤ R.slots) (h1 : (y.cls, i, M'.1) ∈ mx_NM) (h2 : Cond.static M'.1 ∈ Ts) (h4 : Cond.initialized M'.1.cls ∈ Ts) (hcall : mx_Met xs l P G D ta base sk dd a as h rv g) (hd : decode cc pc = .ok (.invokestatic i, 3)) (k : mx_W p l e R s m args below meth c D ta base sk h0 nL Q (pc + 3) (ls) (rv.toList ++ st) (g)) : mx_W p l e R s m args below meth c D ta base sk h0 nL Q (pc) (ls) (as.reverse ++ st) (h) := by
  have X0 := X
  obtain ⟨⟨hx, hb, hml, hown, hts⟩, hini, hC, hz0, hsk, hWS, hGd, hfr, hlo⟩ := X
  simp only [mx_cal, Bool.and_eq_true, decide_eq_true_eq] at hcal
  obtain ⟨hnm, hmx⟩ := hcal
  have hmx := Nat.le_of_ble_eq_true hmx
  intro H locs lsC hR hS hl a1 a2
  obtain ⟨M, hM, hMet⟩ := hcall
  have hM0 : M = M' := Option.some.inj (hM.symm.trans hPM)
  subst hM0
  have hnext : ∀ U : State, U.heap = H → s.WarmedH U.vm → mx_Rl D ta base sk h U.heap ∧ mx_C xs D ta base sk U U.heap := fun U hU hW => ⟨by rw [hU]; exact hR, by rw [hU]; exact (hC.kept hS.2.1).warm hW⟩
  have hroom : (mx_room dd h g).frames + 1 ≤ R.frames ∧ 8 + (M.2.2.1 + 11) + (mx_room dd h g).locals ≤ R.locals := ⟨hfr, by show 8 + (M.2.2.1 + 11) + 36 * dd ≤ R.locals; omega⟩
  have hfit : h.length - h0.length + (g.length - h.length) ≤ R.cells ∧ mx_sz h - mx_sz h0 + (mx_sz g - mx_sz h) ≤ R.slots := by omega
  have e3 : h.length - h0.length + (g.length - h.length) = g.length - h0.length := by omega
  have e4 : mx_sz h - mx_sz h0 + (mx_sz g - mx_sz h) = mx_sz g - mx_sz h0 := by omega
  have hgo : ∀ (H1 : Heap) (locs1 : List Loc), mx_Rl D ta base sk g H1 → va_S (mx_A base) s.heap H1 locs1 → W p l e R s m args below meth c H1 locs1 (h.length - h0.length + (g.length - h.length)) (mx_sz h - mx_sz h0 + (mx_sz g - mx_sz h)) Q (F0 m (pc + 3) lsC ((rv.map (mx_cv base sk)).toList ++ st.map (mx_cv base sk))) := by
    intro H1 locs1 hR1 hS1
    have k2 := k H1 locs1 lsC hR1 hS1 hl (by omega) (by omega)
    rw [e3, e4]
    cases rv with
    | none => exact k2
    | some v => exact k2
  have hrm : 2 * (F0 m pc lsC ([] : List Value)).monitorRoom + ((st.map (mx_cv base sk)).map fun v => v.category).sum ≤ 8 := lv_room (by rw [mx_cats hsk]; exact hst)
  exact mx_goon (rest := st.map (mx_cv base sk)) (va_runSN (As := as.map (mx_cv base sk)) (host := "CreaseLines") ⟨hx, hb, hml, hown, hts⟩ hMet ⟨va_cnB b hts (hGd _ _ hPM) rfl rfl rfl (hC.2.1 _ h1) (hts _ h4) hnm hroom, hts _ h2, trivial⟩ ⟨mx_blind, fun U hU hW => ⟨rfl, hnext U hU hW⟩⟩ rfl (by rw [List.length_map]; exact hb2) hl.1 (by simp) hrm hd hfit) hS hgo
theorem sd_callI {pc : Nat} {ls : mx_L} {st : List Value} {h : mx_H} (X : mx_X xs P G p R s m args meth c y cc nL D ta base sk dd Ts h0) {M' : mx_M} {i b a : Nat} {as : List Value} {rv : Option Value} {g : mx_H} (hPM : P[a]? = some M') (hcal : mx_cal M' b = true) (hb2 : as.length = b) (hst : (st.map fun v => v.category).sum ≤ 8) (hg1 : h.length ≤ g.length) (hg2 : mx_sz h ≤ mx_sz g) (hc : g.length - h0.length ≤ R.cells) (hs : mx_sz g - mx_sz h0 ≤ R.slots) (hn0 : M'.1.name = "<init>") (hr0 : M'.2.2.2.1 = none) (h1 : Cond.methodLink y.cls i M'.1 ∈ Ts) (h2 : Cond.instanceMethod M'.1 ∈ Ts) (h4 : Cond.initialized M'.1.cls ∈ Ts) {r : Nat} (hcall : mx_Met xs l P G D ta base sk dd a (.ref r :: as) h rv g) (hd : decode cc pc = .ok (.invokespecial i, 3)) (k : mx_W p l e R s m args below meth c D ta base sk h0 nL Q (pc + 3) (ls) (rv.toList ++ st) (g)) : mx_W p l e R s m args below meth c D ta base sk h0 nL Q (pc) (ls) (as.reverse ++ .ref r :: st) (h) := by
  have X0 := X
  obtain ⟨⟨hx, hb, hml, hown, hts⟩, hini, hC, hz0, hsk, hWS, hGd, hfr, hlo⟩ := X
  simp only [mx_cal, Bool.and_eq_true, decide_eq_true_eq] at hcal
  obtain ⟨hnm, hmx⟩ := hcal
  have hmx := Nat.le_of_ble_eq_true hmx
  intro H locs lsC hR hS hl a1 a2
  obtain ⟨M, hM, hMet⟩ := hcall
  have hM0 : M = M' := Option.some.inj (hM.symm.trans hPM)
  subst hM0
  have hnext : ∀ U : State, U.heap = H → s.WarmedH U.vm → mx_Rl D ta base sk h U.heap ∧ mx_C xs D ta base sk U U.heap := fun U hU hW => ⟨by rw [hU]; exact hR, by rw [hU]; exact (hC.kept hS.2.1).warm hW⟩
  have hroom : (mx_room dd h g).frames + 1 ≤ R.frames ∧ 8 + (M.2.2.1 + 11) + (mx_room dd h g).locals ≤ R.locals := ⟨hfr, by show 8 + (M.2.2.1 + 11) + 36 * dd ≤ R.locals; omega⟩
  have hfit : h.length - h0.length + (g.length - h.length) ≤ R.cells ∧ mx_sz h - mx_sz h0 + (mx_sz g - mx_sz h) ≤ R.slots := by omega
  have e3 : h.length - h0.length + (g.length - h.length) = g.length - h0.length := by omega
  have e4 : mx_sz h - mx_sz h0 + (mx_sz g - mx_sz h) = mx_sz g - mx_sz h0 := by omega
  have hgo : ∀ (H1 : Heap) (locs1 : List Loc), mx_Rl D ta base sk g H1 → va_S (mx_A base) s.heap H1 locs1 → W p l e R s m args below meth c H1 locs1 (h.length - h0.length + (g.length - h.length)) (mx_sz h - mx_sz h0 + (mx_sz g - mx_sz h)) Q (F0 m (pc + 3) lsC ((rv.map (mx_cv base sk)).toList ++ st.map (mx_cv base sk))) := by
    intro H1 locs1 hR1 hS1
    have k2 := k H1 locs1 lsC hR1 hS1 hl (by omega) (by omega)
    rw [e3, e4]
    cases rv with
    | none => exact k2
    | some v => exact k2
  have hrm : 2 * (F0 m pc lsC ([] : List Value)).monitorRoom + ((st.map (mx_cv base sk)).map fun v => v.category).sum ≤ 8 := lv_room (by rw [mx_cats hsk]; exact hst)
  exact mx_goon (rest := st.map (mx_cv base sk)) (va_runI (As := as.map (mx_cv base sk)) (b := base + r) ⟨hx, hb, hml, hown, hts⟩ hMet ⟨callB_of b hts (hGd _ _ hPM) (by rw [hr0]) rfl rfl (hts _ h4) (hts _ h1) hnm hroom, hn0, hts _ h2⟩ ⟨mx_blind, fun U hU hW => ⟨rfl, hnext U hU hW⟩⟩ rfl (by rw [List.length_map]; exact hb2) hl.1 (by simp [mx_cv]) hrm hd hfit) hS hgo
theorem sd_callIN {pc : Nat} {ls : mx_L} {st : List Value} {h : mx_H} (X : mx_X xs P G p R s m args meth c y cc nL D ta base sk dd Ts h0) {M' : mx_M} {i b a : Nat} {as : List Value} {rv : Option Value} {g : mx_H} (hPM : P[a]? = some M') (hcal : mx_cal M' b = true) (hb2 : as.length = b) (hst : (st.map fun v => v.category).sum ≤ 8) (hg1 : h.length ≤ g.length) (hg2 : mx_sz h ≤ mx_sz g) (hc : g.length - h0.length ≤ R.cells) (hs : mx_sz g - mx_sz h0 ≤ R.slots) (hn0 : M'.1.name = "<init>") (hr0 : M'.2.2.2.1 = none) (h1 : (y.cls, i, M'.1) ∈ mx_NM) (h2 : Cond.instanceMethod M'.1 ∈ Ts) (h4 : Cond.initialized M'.1.cls ∈ Ts) {r : Nat} (hcall : mx_Met xs l P G D ta base sk dd a (.ref r :: as) h rv g) (hd : decode cc pc = .ok (.invokespecial i, 3)) (k : mx_W p l e R s m args below meth c D ta base sk h0 nL Q (pc + 3) (ls) (rv.toList ++ st) (g)) : mx_W p l e R s m args below meth c D ta base sk h0 nL Q (pc) (ls) (as.reverse ++ .ref r :: st) (h) := by
  have X0 := X
  obtain ⟨⟨hx, hb, hml, hown, hts⟩, hini, hC, hz0, hsk, hWS, hGd, hfr, hlo⟩ := X
  simp only [mx_cal, Bool.and_eq_true, decide_eq_true_eq] at hcal
  obtain ⟨hnm, hmx⟩ := hcal
  have hmx := Nat.le_of_ble_eq_true hmx
  intro H locs lsC hR hS hl a1 a2
  obtain ⟨M, hM, hMet⟩ := hcall
  have hM0 : M = M' := Option.some.inj (hM.symm.trans hPM)
  subst hM0
  have hnext : ∀ U : State, U.heap = H → s.WarmedH U.vm → mx_Rl D ta base sk h U.heap ∧ mx_C xs D ta base sk U U.heap := fun U hU hW => ⟨by rw [hU]; exact hR, by rw [hU]; exact (hC.kept hS.2.1).warm hW⟩
  have hroom : (mx_room dd h g).frames + 1 ≤ R.frames ∧ 8 + (M.2.2.1 + 11) + (mx_room dd h g).locals ≤ R.locals := ⟨hfr, by show 8 + (M.2.2.1 + 11) + 36 * dd ≤ R.locals; omega⟩
  have hfit : h.length - h0.length + (g.length - h.length) ≤ R.cells ∧ mx_sz h - mx_sz h0 + (mx_sz g - mx_sz h) ≤ R.slots := by omega
  have e3 : h.length - h0.length + (g.length - h.length) = g.length - h0.length := by omega
  have e4 : mx_sz h - mx_sz h0 + (mx_sz g - mx_sz h) = mx_sz g - mx_sz h0 := by omega
  have hgo : ∀ (H1 : Heap) (locs1 : List Loc), mx_Rl D ta base sk g H1 → va_S (mx_A base) s.heap H1 locs1 → W p l e R s m args below meth c H1 locs1 (h.length - h0.length + (g.length - h.length)) (mx_sz h - mx_sz h0 + (mx_sz g - mx_sz h)) Q (F0 m (pc + 3) lsC ((rv.map (mx_cv base sk)).toList ++ st.map (mx_cv base sk))) := by
    intro H1 locs1 hR1 hS1
    have k2 := k H1 locs1 lsC hR1 hS1 hl (by omega) (by omega)
    rw [e3, e4]
    cases rv with
    | none => exact k2
    | some v => exact k2
  have hrm : 2 * (F0 m pc lsC ([] : List Value)).monitorRoom + ((st.map (mx_cv base sk)).map fun v => v.category).sum ≤ 8 := lv_room (by rw [mx_cats hsk]; exact hst)
  exact mx_goon (rest := st.map (mx_cv base sk)) (va_runIN (As := as.map (mx_cv base sk)) (b := base + r) (host := "CreaseLines") ⟨hx, hb, hml, hown, hts⟩ hMet ⟨va_cnB b hts (hGd _ _ hPM) (by rw [hr0]) rfl rfl (hC.2.1 _ h1) (hts _ h4) hnm hroom, hn0, hts _ h2⟩ ⟨mx_blind, fun U hU hW => ⟨rfl, hnext U hU hW⟩⟩ rfl (by rw [List.length_map]; exact hb2) hl.1 (by simp [mx_cv]) hrm hd hfit) hS hgo
end MXU
end
section
/-! ===== a walk of the small machine is a walk of the JVM ===== -/
section MXV
variable {p : Program} {l : Launch} {e : Env} {R : Room} {s : State} {m : MethodId} {args : Array Value} {below : List Frame} {meth : Method} {c : Code} {Q : State → Prop}
variable {xs : List Int32} {P : List mx_M} {G : List Cond} {y : MethodName} {cc : ByteArray} {nL : Nat} {ret : Option FieldType} {D : va_G} {ta : Nat → ClassId} {base : Nat} {sk : Nat → Value} {dd : Nat} {Ts : List Cond} {h0 : mx_H}
theorem iv_gf5 {h : mx_H} {st : List Value} {a b : Nat} {f : List Value → mx_R} {q : Option Value × mx_H} (e : mx_gf h st a b 5 f = some q) : ∃ i rest, st = .retAddr i :: rest ∧ i < 6 ∧ f (.retAddr (100 + i) :: rest) = some q := by
  simp only [mx_gf] at e
  split at e
  · obtain ⟨h1, e⟩ := iv_bif e
    exact ⟨_, _, rfl, Nat.le_of_ble_eq_true h1, e⟩
  · cases e
theorem iv_gf6 {h : mx_H} {st : List Value} {a b : Nat} {f : List Value → mx_R} {q : Option Value × mx_H} (e : mx_gf h st a b 6 f = some q) : ∃ i rest, st = .retAddr i :: rest ∧ i < 6 ∧ f (.int 0 :: rest) = some q := by
  simp only [mx_gf] at e
  split at e
  · obtain ⟨h1, e⟩ := iv_bif e
    exact ⟨_, _, rfl, Nat.le_of_ble_eq_true h1, e⟩
  · cases e
set_option maxHeartbeats 4000000 in
set_option maxRecDepth 100000 in
theorem sd_fw (X : mx_X xs P G p R s m args meth c y cc nL D ta base sk dd Ts h0) {code : List mx_I} (hok : ∀ x ∈ code, mx_ok P y cc nL ret x = true) (hnd : ∀ x ∈ code, ∀ w ∈ mx_need P y.cls x, w ∈ Ts) {call : Nat → List Value → mx_H → mx_R} (hcm : ∀ j as h, mx_mo h (call j as h)) (hcall : ∀ j as g v g', call j as g = some (v, g') → mx_Met xs l P G D ta base sk dd j as g v g') {ct : Nat → mx_L → List Value → mx_H → mx_R} (hctm : ∀ pc ls st h, mx_mo h (ct pc ls st h)) {rv : Option Value} {h' : mx_H} (hcells : h'.length - h0.length ≤ R.cells) (hslots : mx_sz h' - mx_sz h0 ≤ R.slots)
    (hri : ∀ (pc : Nat) (ls : mx_L) (x : Int32), decode cc pc = .ok (.ireturn, 1) → rv = some (.int x) → (∃ ty, ret = some ty ∧ narrow ty (.int x) = .int x) → mx_W p l e R s m args below meth c D ta base sk h0 nL Q (pc) (ls) ([.int x]) (h'))
    (hra : ∀ (pc : Nat) (ls : mx_L) (v : Value), decode cc pc = .ok (.areturn, 1) → rv = some v → mx_isr v → (∃ ty, ret = some ty ∧ mx_isref ty = true) → mx_W p l e R s m args below meth c D ta base sk h0 nL Q (pc) (ls) ([v]) (h'))
    (hrv : ∀ (pc : Nat) (ls : mx_L), decode cc pc = .ok (.return_, 1) → rv = none → ret = none → mx_W p l e R s m args below meth c D ta base sk h0 nL Q (pc) (ls) ([]) (h'))
    (hct : ∀ (pc : Nat) (ls : mx_L) (st : List Value) (h : mx_H), ct pc ls st h = some (rv, h') → mx_W p l e R s m args below meth c D ta base sk h0 nL Q (pc) (ls) (st) (h)) :
    ∀ (k : Nat) (fi : Bool) (pc : Nat) (ls : mx_L) (st : List Value) (h : mx_H), mx_fw xs call code ct fi k pc ls st h = some (rv, h') → mx_W p l e R s m args below meth c D ta base sk h0 nL Q (pc) (ls) (st) (h)
  | 0, _, _, _, _, _, hq => by unfold mx_fw at hq; cases hq
  | k + 1, fi, pc, ls, st, h, hq => by
    have ih := sd_fw X hok hnd hcm hcall hctm hcells hslots hri hra hrv hct k
    unfold mx_fw at hq
    split at hq
    · cases hq
    · rename_i pc0 ins cut lv a b w u v cs hfind
      have hmem := List.mem_of_find?_eq_some hfind
      have hpc0 := List.find?_some hfind
      have hpc : pc0 = pc := Nat.eq_of_beq_eq_true hpc0
      subst hpc
      have ok := hok _ hmem
      have nd := hnd _ hmem
      clear hfind hmem hpc0
      cases hcut : (!fi && cut) with
      | true =>
        rw [hcut] at hq
        have k1 := hct _ _ _ _ hq
        intro H locs lsC hR hS hl a1 a2
        refine k1 H locs lsC hR hS ⟨hl.1, hl.2.1, fun q hq => ?_⟩ a1 a2
        obtain ⟨z, hz, rfl⟩ := List.mem_map.mp hq
        exact hl.2.2 _ (List.mem_map_of_mem (mx_nm_sub hz))
      | false =>
        rw [hcut] at hq
        simp only [cond_false] at hq
        unfold mx_ok at ok
        rw [Bool.and_eq_true] at ok
        obtain ⟨ok1, ok2⟩ := ok
        have hdec := of_decide_eq_true ok1
        cases ins with
        | iconst n =>
          (try dsimp only at hq)
          (try dsimp only at ok2)
          exact sd_iconst X (of_decide_eq_true ok2) hdec (ih _ _ _ _ _ hq)
        | bipush n =>
          (try dsimp only at hq)
          (try dsimp only at ok2)
          exact sd_bipush X (of_decide_eq_true ok2) hdec (ih _ _ _ _ _ hq)
        | sipush n =>
          (try dsimp only at hq)
          (try dsimp only at ok2)
          exact sd_sipush X (of_decide_eq_true ok2) hdec (ih _ _ _ _ _ hq)
        | ldc i =>
          (try dsimp only at hq)
          (try dsimp only at ok2)
          cases hw : Nat.beq w 0 with
          | true =>
            have e : w = 0 := Nat.eq_of_beq_eq_true hw
            subst e
            exact sd_ldc X (nd _ List.mem_cons_self) hdec (ih _ _ _ _ _ hq)
          | false =>
            simp only [hw, Bool.false_or, Bool.and_eq_true, decide_eq_true_eq, List.any_eq_true] at ok2
            simp only [hw, cond_false] at hq
            obtain ⟨ho, q, hm, h1, h2⟩ := ok2
            exact sd_ldcs X ho ⟨q, hm, Nat.eq_of_beq_eq_true h1, Nat.eq_of_beq_eq_true h2⟩ hdec (ih _ _ _ _ _ hq)
        | ldc_w i =>
          (try dsimp only at hq)
          (try dsimp only at ok2)
          exact sd_ldcw X (nd _ List.mem_cons_self) hdec (ih _ _ _ _ _ hq)
        | aconst_null =>
          (try dsimp only at hq)
          (try dsimp only at ok2)
          exact sd_null X hdec (ih _ _ _ _ _ hq)
        | iload_n n =>
          (try dsimp only at hq)
          (try dsimp only at ok2)
          have hz0 := iv_li hq
          clear hq
          obtain ⟨x, hv, hq⟩ := hz0
          exact sd_iload_n X hv hdec (ih _ _ _ _ _ hq)
        | iload n =>
          (try dsimp only at hq)
          (try dsimp only at ok2)
          have hz0 := iv_li hq
          clear hq
          obtain ⟨x, hv, hq⟩ := hz0
          exact sd_iload X hv hdec (ih _ _ _ _ _ hq)
        | aload_n n =>
          (try dsimp only at hq)
          (try dsimp only at ok2)
          have hz0 := iv_la hq
          clear hq
          obtain ⟨x, hv, hr, hq⟩ := hz0
          exact sd_aload_n X hv hr hdec (ih _ _ _ _ _ hq)
        | aload n =>
          (try dsimp only at hq)
          (try dsimp only at ok2)
          have hz0 := iv_la hq
          clear hq
          obtain ⟨x, hv, hr, hq⟩ := hz0
          exact sd_aload X hv hr hdec (ih _ _ _ _ _ hq)
        | istore_n n =>
          (try dsimp only at hq)
          (try dsimp only at ok2)
          have hz0 := iv_s1 hq
          clear hq
          obtain ⟨x, r, rfl, hq⟩ := hz0
          exact sd_istore_n X (Nat.le_of_ble_eq_true ok2) hdec (ih _ _ _ _ _ hq)
        | istore n =>
          (try dsimp only at hq)
          (try dsimp only at ok2)
          have hz0 := iv_s1 hq
          clear hq
          obtain ⟨x, r, rfl, hq⟩ := hz0
          exact sd_istore X (Nat.le_of_ble_eq_true ok2) hdec (ih _ _ _ _ _ hq)
        | astore_n n =>
          (try dsimp only at hq)
          (try dsimp only at ok2)
          have hz0 := iv_sa hq
          clear hq
          obtain ⟨x, r, rfl, hr, hq⟩ := hz0
          exact sd_astore_n X (Nat.le_of_ble_eq_true ok2) hr hdec (ih _ _ _ _ _ hq)
        | astore n =>
          (try dsimp only at hq)
          (try dsimp only at ok2)
          have hz0 := iv_sa hq
          clear hq
          obtain ⟨x, r, rfl, hr, hq⟩ := hz0
          exact sd_astore X (Nat.le_of_ble_eq_true ok2) hr hdec (ih _ _ _ _ _ hq)
        | iinc n d =>
          (try dsimp only at hq)
          (try dsimp only at ok2)
          simp only [Bool.and_eq_true, decide_eq_true_eq] at ok2
          have hz0 := iv_li hq
          clear hq
          obtain ⟨x, hv, hq⟩ := hz0
          exact sd_iinc X (Nat.le_of_ble_eq_true ok2.1) hv ok2.2 hdec (ih _ _ _ _ _ hq)
        | iadd =>
          (try dsimp only at hq)
          (try dsimp only at ok2)
          have hz0 := iv_s2 hq
          clear hq
          obtain ⟨x, z, r, rfl, hq⟩ := hz0
          exact sd_iadd X hdec (ih _ _ _ _ _ hq)
        | isub =>
          (try dsimp only at hq)
          (try dsimp only at ok2)
          have hz0 := iv_s2 hq
          clear hq
          obtain ⟨x, z, r, rfl, hq⟩ := hz0
          exact sd_isub X hdec (ih _ _ _ _ _ hq)
        | imul =>
          (try dsimp only at hq)
          (try dsimp only at ok2)
          have hz0 := iv_s2 hq
          clear hq
          obtain ⟨x, z, r, rfl, hq⟩ := hz0
          exact sd_imul X hdec (ih _ _ _ _ _ hq)
        | iand =>
          (try dsimp only at hq)
          (try dsimp only at ok2)
          have hz0 := iv_s2 hq
          clear hq
          obtain ⟨x, z, r, rfl, hq⟩ := hz0
          exact sd_iand X hdec (ih _ _ _ _ _ hq)
        | ior =>
          (try dsimp only at hq)
          (try dsimp only at ok2)
          have hz0 := iv_s2 hq
          clear hq
          obtain ⟨x, z, r, rfl, hq⟩ := hz0
          exact sd_ior X hdec (ih _ _ _ _ _ hq)
        | ixor =>
          (try dsimp only at hq)
          (try dsimp only at ok2)
          have hz0 := iv_s2 hq
          clear hq
          obtain ⟨x, z, r, rfl, hq⟩ := hz0
          exact sd_ixor X hdec (ih _ _ _ _ _ hq)
        | ishl =>
          (try dsimp only at hq)
          (try dsimp only at ok2)
          have hz0 := iv_s2 hq
          clear hq
          obtain ⟨x, z, r, rfl, hq⟩ := hz0
          exact sd_ishl X hdec (ih _ _ _ _ _ hq)
        | ishr =>
          (try dsimp only at hq)
          (try dsimp only at ok2)
          have hz0 := iv_s2 hq
          clear hq
          obtain ⟨x, z, r, rfl, hq⟩ := hz0
          exact sd_ishr X hdec (ih _ _ _ _ _ hq)
        | iushr =>
          (try dsimp only at hq)
          (try dsimp only at ok2)
          have hz0 := iv_s2 hq
          clear hq
          obtain ⟨x, z, r, rfl, hq⟩ := hz0
          exact sd_iushr X hdec (ih _ _ _ _ _ hq)
        | idiv =>
          (try dsimp only at hq)
          (try dsimp only at ok2)
          have hz0 := iv_s2 hq
          clear hq
          obtain ⟨x, z, r, rfl, hq⟩ := hz0
          split at hq
          · cases hq
          · rename_i hz
            exact sd_idiv X hz hdec (ih _ _ _ _ _ hq)
        | irem =>
          (try dsimp only at hq)
          (try dsimp only at ok2)
          have hz0 := iv_s2 hq
          clear hq
          obtain ⟨x, z, r, rfl, hq⟩ := hz0
          split at hq
          · cases hq
          · rename_i hz
            exact sd_irem X hz hdec (ih _ _ _ _ _ hq)
        | ineg =>
          (try dsimp only at hq)
          (try dsimp only at ok2)
          have hz0 := iv_s1 hq
          clear hq
          obtain ⟨x, r, rfl, hq⟩ := hz0
          exact sd_ineg X hdec (ih _ _ _ _ _ hq)
        | i2s =>
          (try dsimp only at hq)
          (try dsimp only at ok2)
          have hz0 := iv_s1 hq
          clear hq
          obtain ⟨x, r, rfl, hq⟩ := hz0
          exact sd_i2s X hdec (ih _ _ _ _ _ hq)
        | i2c =>
          (try dsimp only at hq)
          (try dsimp only at ok2)
          have hz0 := iv_s1 hq
          clear hq
          obtain ⟨x, r, rfl, hq⟩ := hz0
          exact sd_i2c X hdec (ih _ _ _ _ _ hq)
        | i2b =>
          (try dsimp only at hq)
          (try dsimp only at ok2)
          have hz0 := iv_s1 hq
          clear hq
          obtain ⟨x, r, rfl, hq⟩ := hz0
          exact sd_i2b X hdec (ih _ _ _ _ _ hq)
        | dup =>
          (try dsimp only at hq)
          (try dsimp only at ok2)
          have hz0 := iv_d1 hq
          clear hq
          obtain ⟨v, r, rfl, hv, hq⟩ := hz0
          exact sd_dup X (by rcases hv with ⟨x, rfl⟩ | ⟨x, rfl⟩ <;> rfl) hdec (ih _ _ _ _ _ hq)
        | pop =>
          (try dsimp only at hq)
          (try dsimp only at ok2)
          have hz0 := iv_d1 hq
          clear hq
          obtain ⟨v, r, rfl, hv, hq⟩ := hz0
          exact sd_pop X (by rcases hv with ⟨x, rfl⟩ | ⟨x, rfl⟩ <;> rfl) hdec (ih _ _ _ _ _ hq)
        | dup2 =>
          (try dsimp only at hq)
          (try dsimp only at ok2)
          have hz0 := iv_d2 hq
          clear hq
          obtain ⟨v, z, r, rfl, ⟨x, rfl⟩, hw, hq⟩ := hz0
          exact sd_dup2 X rfl (by rcases hw with ⟨x, rfl⟩ | ⟨x, rfl⟩ <;> rfl) hdec (ih _ _ _ _ _ hq)
        | goto off =>
          (try dsimp only at hq)
          (try dsimp only at ok2)
          exact sd_goto X (of_decide_eq_true ok2) hdec (ih _ _ _ _ _ hq)
        | if_icmp cd off =>
          (try dsimp only at hq)
          (try dsimp only at ok2)
          have hz0 := iv_s2 hq
          clear hq
          obtain ⟨x, z, r, rfl, hq⟩ := hz0
          exact sd_icmp X (of_decide_eq_true ok2) hdec hq (fun hq => ih _ _ _ _ _ hq) (fun hq => ih _ _ _ _ _ hq)
        | ifCond cd off =>
          (try dsimp only at hq)
          (try dsimp only at ok2)
          have hz0 := iv_s1 hq
          clear hq
          obtain ⟨x, r, rfl, hq⟩ := hz0
          exact sd_ifc X (of_decide_eq_true ok2) hdec hq (fun hq => ih _ _ _ _ _ hq) (fun hq => ih _ _ _ _ _ hq)
        | ifnull off =>
          (try dsimp only at hq)
          (try dsimp only at ok2)
          have hz0 := iv_sn hq
          clear hq
          rcases hz0 with ⟨r, rfl, hq⟩ | ⟨x, r, rfl, hq⟩
          · exact sd_ifnull0 (x := 0) X (of_decide_eq_true ok2) hdec (ih _ _ _ _ _ hq)
          · exact sd_ifnull1 X (of_decide_eq_true ok2) hdec (ih _ _ _ _ _ hq)
        | ifnonnull off =>
          (try dsimp only at hq)
          (try dsimp only at ok2)
          have hz0 := iv_sn hq
          clear hq
          rcases hz0 with ⟨r, rfl, hq⟩ | ⟨x, r, rfl, hq⟩
          · exact sd_ifnn0 (x := 0) X (of_decide_eq_true ok2) hdec (ih _ _ _ _ _ hq)
          · exact sd_ifnn1 X (of_decide_eq_true ok2) hdec (ih _ _ _ _ _ hq)
        | getfield i =>
          (try dsimp only at hq)
          (try dsimp only at ok2)
          match w, ok2, nd, hq with
          | 0, ok2, nd, hqq =>
            clear hq
            have hq := hqq
            clear hqq
            simp only [Bool.and_eq_true] at ok2
            have hz0 := iv_sr hq
            clear hq
            obtain ⟨r, rest, rfl, hq⟩ := hz0
            have hz0 := iv_gi hq
            clear hq
            obtain ⟨fs, x, he, hv, hq⟩ := hz0
            exact sd_get X (Nat.le_of_ble_eq_true ok2.1) (Nat.le_of_ble_eq_true ok2.2) (nd _ List.mem_cons_self) he hv hdec (ih _ _ _ _ _ hq)
          | 1, ok2, nd, hqq =>
            clear hq
            have hq := hqq
            clear hqq
            simp only [Bool.and_eq_true] at ok2
            have hz0 := iv_sr hq
            clear hq
            obtain ⟨r, rest, rfl, hq⟩ := hz0
            have hz0 := iv_gr hq
            clear hq
            obtain ⟨fs, x, he, hv, hq⟩ := hz0
            exact sd_get X (Nat.le_of_ble_eq_true ok2.1) (Nat.le_of_ble_eq_true ok2.2) (nd _ List.mem_cons_self) he hv hdec (ih _ _ _ _ _ hq)
          | 5, ok2, nd, hqq =>
            clear hq
            have hq := hqq
            clear hqq
            have hz0 := iv_gf5 hq
            clear hq
            obtain ⟨j, rest, rfl, hj, hq⟩ := hz0
            exact sd_sval X hj (nd _ List.mem_cons_self) hdec (ih _ _ _ _ _ hq)
          | 6, ok2, nd, hqq =>
            clear hq
            have hq := hqq
            clear hqq
            have hz0 := iv_gf6 hq
            clear hq
            obtain ⟨j, rest, rfl, hj, hq⟩ := hz0
            exact sd_scod X hj (nd _ List.mem_cons_self) hdec (ih _ _ _ _ _ hq)
          | 2, ok2, _, _ => cases ok2
          | 3, ok2, _, _ => cases ok2
          | 4, ok2, _, _ => cases ok2
          | w + 7, ok2, _, _ => cases ok2
        | putfield i =>
          (try dsimp only at hq)
          (try dsimp only at ok2)
          simp only [Bool.and_eq_true] at ok2
          obtain ⟨⟨⟨o1, o2⟩, o3⟩, o4⟩ := ok2
          have o1 := Nat.le_of_ble_eq_true o1
          have o2 := Nat.le_of_ble_eq_true o2
          match w, o3, hq with
          | 0, o3, hqq =>
            clear hq
            have hq := hqq
            clear hqq
            have o3 : mx_tyf a b = .int := of_decide_eq_true o3
            have hz0 := iv_ir hq
            clear hq
            obtain ⟨x, r, rest, rfl, hq⟩ := hz0
            have hz0 := iv_pt hq
            clear hq
            obtain ⟨fs, he, hl, hq⟩ := hz0
            exact sd_put X o1 o2 (nd _ List.mem_cons_self) o4 (by rw [o3]; rfl) (by rw [o3]; rfl) he hl hdec (ih _ _ _ _ _ hq)
          | 1, o3, hqq =>
            clear hq
            have hq := hqq
            clear hqq
            have hz0 := iv_rr hq
            clear hq
            obtain ⟨x, r, rest, rfl, hq⟩ := hz0
            have hz0 := iv_pt hq
            clear hq
            obtain ⟨fs, he, hl, hq⟩ := hz0
            exact sd_put X o1 o2 (nd _ List.mem_cons_self) o4 (by
              cases ht : mx_tyf a b with
              | object n => rfl
              | array t => rfl
              | _ => rw [ht] at o3; cases o3) (by
              cases ht : mx_tyf a b with
              | object n => rfl
              | array t => rfl
              | _ => rw [ht] at o3; cases o3) he hl hdec (ih _ _ _ _ _ hq)
          | w + 2, o3, hqq =>
            clear hq
            have hq := hqq
            clear hqq
            have o3 : mx_tyf a b = .boolean := of_decide_eq_true o3
            have hz0 := iv_ir hq
            clear hq
            obtain ⟨x, r, rest, rfl, hq⟩ := hz0
            unfold mx_pz at hq
            split at hq
            · rename_i hx
              have hz0 := iv_pt hq
              clear hq
              obtain ⟨fs, he, hl, hq⟩ := hz0
              refine sd_put X o1 o2 (nd _ List.mem_cons_self) o4 ?_ ?_ he hl hdec (ih _ _ _ _ _ hq)
              · rw [o3]; rcases hx with rfl | rfl <;> rfl
              · rw [o3]; rcases hx with rfl | rfl <;> rfl
            · cases hq
        | getstatic i =>
          (try dsimp only at hq)
          (try dsimp only at ok2)
          by_cases hv2 : v = 2
          · subst hv2
            have ok2 : (decide (y.cls = "CreaseLines$Leg") && Nat.beq i 30 && Nat.beq a 200 && Nat.beq w 0) = true := ok2
            simp only [Bool.and_eq_true, decide_eq_true_eq] at ok2
            obtain ⟨⟨⟨o1, o2⟩, o3⟩, o4⟩ := ok2
            have o2 : i = 30 := Nat.eq_of_beq_eq_true o2
            have o3 : a = 200 := Nat.eq_of_beq_eq_true o3
            have o4 : w = 0 := Nat.eq_of_beq_eq_true o4
            subst o2; subst o3; subst o4
            exact sd_getsN X o1 hdec (ih _ _ _ _ _ hq)
          · simp only [hv2, decide_false, cond_false] at ok2
            have nd3 : Cond.fieldLink y.cls i (mx_sta w a).1 (mx_sta w a).2.1 (mx_sta w a).2.2 ∈ Ts := by
              refine nd _ ?_
              simp [mx_need, hv2]
            refine sd_gets X nd3 ?_ hdec (ih _ _ _ _ _ hq)
            cases w with
            | zero =>
              simp only [mx_so, Bool.or_eq_true] at ok2
              rcases ok2 with (h1 | h1) | h1
              · exact Or.inl ⟨rfl, Or.inl (Nat.eq_of_beq_eq_true h1)⟩
              · exact Or.inl ⟨rfl, Or.inr (Or.inl (Nat.eq_of_beq_eq_true h1))⟩
              · exact Or.inl ⟨rfl, Or.inr (Or.inr (Nat.eq_of_beq_eq_true h1))⟩
            | succ w => exact Or.inr ⟨by omega, of_decide_eq_true ok2⟩
        | iaload =>
          (try dsimp only at hq)
          (try dsimp only at ok2)
          unfold mx_bl at hq
          split at hq
          · have hz0 := iv_ai hq
            clear hq
            obtain ⟨n, g, he, hin, hq⟩ := hz0
            exact sd_iald X he hin hdec (ih _ _ _ _ _ hq)
          · have hz0 := iv_ck hq
            clear hq
            obtain ⟨lx, hk, hin, hq⟩ := hz0
            exact sd_ci X hk hin hdec (ih _ _ _ _ _ hq)
          · cases hq
        | baload =>
          (try dsimp only at hq)
          (try dsimp only at ok2)
          unfold mx_bl at hq
          split at hq
          · have hz0 := iv_ai hq
            clear hq
            obtain ⟨n, g, he, hin, hq⟩ := hz0
            exact sd_zald X he hin hdec (ih _ _ _ _ _ hq)
          · have hz0 := iv_ck hq
            clear hq
            obtain ⟨lx, hk, hin, hq⟩ := hz0
            exact sd_cb X hk hin hdec (ih _ _ _ _ _ hq)
          · cases hq
        | caload =>
          (try dsimp only at hq)
          (try dsimp only at ok2)
          have hz0 := iv_ir hq
          clear hq
          obtain ⟨x, r, rest, rfl, hq⟩ := hz0
          have hz0 := iv_ai hq
          clear hq
          obtain ⟨n, g, he, hin, hq⟩ := hz0
          exact sd_cald X he hin hdec (ih _ _ _ _ _ hq)
        | iastore =>
          (try dsimp only at hq)
          (try dsimp only at ok2)
          have hz0 := iv_iir hq
          clear hq
          obtain ⟨x, j, r, rest, rfl, hq⟩ := hz0
          have hz0 := iv_as hq
          clear hq
          obtain ⟨n, g, he, hin, hq⟩ := hz0
          exact sd_iast X he hin hdec (ih _ _ _ _ _ hq)
        | bastore =>
          (try dsimp only at hq)
          (try dsimp only at ok2)
          have hz0 := iv_iir hq
          clear hq
          obtain ⟨x, j, r, rest, rfl, hq⟩ := hz0
          have hz0 := iv_as hq
          clear hq
          obtain ⟨n, g, he, hin, hq⟩ := hz0
          exact sd_zast X he hin hdec (ih _ _ _ _ _ hq)
        | castore =>
          (try dsimp only at hq)
          (try dsimp only at ok2)
          have hz0 := iv_iir hq
          clear hq
          obtain ⟨x, j, r, rest, rfl, hq⟩ := hz0
          have hz0 := iv_as hq
          clear hq
          obtain ⟨n, g, he, hin, hq⟩ := hz0
          exact sd_cast X he hin hdec (ih _ _ _ _ _ hq)
        | aaload =>
          (try dsimp only at hq)
          (try dsimp only at ok2)
          have hz0 := iv_ir hq
          clear hq
          obtain ⟨x, r, rest, rfl, hq⟩ := hz0
          have hz0 := iv_aa hq
          clear hq
          obtain ⟨tc, n, g, a2, he, ht, hin, hg, hq⟩ := hz0
          exact sd_aald X he ht hin hg hdec (ih _ _ _ _ _ hq)
        | aastore =>
          (try dsimp only at hq)
          (try dsimp only at ok2)
          have hz0 := iv_rir hq
          clear hq
          obtain ⟨x, j, r, rest, rfl, hq⟩ := hz0
          have hz0 := iv_at hq
          clear hq
          obtain ⟨tc, n, g, fs, he, hv, ht, hin, hq⟩ := hz0
          exact sd_aast X he hv ht hin hdec (ih _ _ _ _ _ hq)
        | arraylength =>
          (try dsimp only at hq)
          (try dsimp only at ok2)
          unfold mx_ln at hq
          split at hq
          · have hz0 := iv_al hq
            clear hq
            obtain ⟨tc, n, x, he, ht, hq⟩ := hz0
            exact sd_alen X he ht hdec (ih _ _ _ _ _ hq)
          · have hz0 := iv_cn hq
            clear hq
            obtain ⟨t, lx, hk, hq⟩ := hz0
            exact sd_cn X hk hdec (ih _ _ _ _ _ hq)
          · cases hq
        | new i =>
          (try dsimp only at hq)
          (try dsimp only at ok2)
          unfold mx_nw at hq
          have hm := mo_fw (xs := xs) (c := code) hcm hctm k _ _ _ _ _ _ _ hq
          have b1 := hm.1
          have b2 := hm.2
          rw [List.length_append] at b1
          exact sd_new X (Nat.le_of_ble_eq_true ok2) (nd _ List.mem_cons_self) (nd _ (List.mem_cons_of_mem _ List.mem_cons_self)) (nd _ (List.mem_cons_of_mem _ (List.mem_cons_of_mem _ List.mem_cons_self))) (by simp at b1; omega) (by omega) hdec (ih _ _ _ _ _ hq)
        | newarray t =>
          (try dsimp only at hq)
          (try dsimp only at ok2)
          have hz0 := iv_s1 hq
          clear hq
          obtain ⟨n, r, rfl, hq⟩ := hz0
          unfold mx_na at hq
          split at hq
          · rename_i hn
            have hm := mo_fw (xs := xs) (c := code) hcm hctm k _ _ _ _ _ _ _ hq
            have b1 := hm.1
            have b2 := hm.2
            rw [List.length_append] at b1
            rcases (of_decide_eq_true ok2 : (a = 0 ∧ t = .int) ∨ (a = 1 ∧ t = .boolean) ∨ (a = 2 ∧ t = .char)) with ⟨rfl, rfl⟩ | ⟨rfl, rfl⟩ | ⟨rfl, rfl⟩
            · exact sd_nai X (nd _ List.mem_cons_self) hn.1 hn.2 (by simp at b1; omega) (by omega) hdec (ih _ _ _ _ _ hq)
            · exact sd_naz X (nd _ List.mem_cons_self) hn.1 hn.2 (by simp at b1; omega) (by omega) hdec (ih _ _ _ _ _ hq)
            · exact sd_nac X (nd _ List.mem_cons_self) hn.1 hn.2 (by simp at b1; omega) (by omega) hdec (ih _ _ _ _ _ hq)
          · cases hq
        | anewarray i =>
          (try dsimp only at hq)
          (try dsimp only at ok2)
          have hz0 := iv_s1 hq
          clear hq
          obtain ⟨n, r, rfl, hq⟩ := hz0
          unfold mx_nq at hq
          split at hq
          · rename_i hn
            have hm := mo_fw (xs := xs) (c := code) hcm hctm k _ _ _ _ _ _ _ hq
            have b1 := hm.1
            have b2 := hm.2
            rw [List.length_append] at b1
            exact sd_nq X (of_decide_eq_true ok2) (nd _ List.mem_cons_self) hn.1 hn.2 (by simp at b1; omega) (by omega) hdec (ih _ _ _ _ _ hq)
          · cases hq
        | invokevirtual i =>
          (try dsimp only at hq)
          (try dsimp only at ok2)
          unfold mx_iv at hq
          split at hq
          · rename_i r rest hst
            have hz0 := iv_bif hq
            clear hq
            obtain ⟨hb1, hq⟩ := hz0
            simp only [Bool.and_eq_true] at hb1
            have hz0 := iv_cl hq
            clear hq
            obtain ⟨fs, he, hq⟩ := hz0
            have hz0 := iv_bk hq
            clear hq
            obtain ⟨rv2, g, hcl, hq⟩ := hz0
            have hmet := hcall _ _ _ _ _ hcl
            have hm1 := hcm _ _ _ _ _ hcl
            have hm2 := mo_fw (xs := xs) (c := code) hcm hctm k _ _ _ _ _ _ _ hq
            obtain ⟨M, hPM, -⟩ := id hmet
            simp only [hPM, Bool.and_eq_true] at ok2
            have nd2 : ∀ w ∈ ([.methodLink y.cls i M.1, .instanceMethod M.1, .selects M.1.cls M.1 M.1, .initialized M.1.cls] : List Cond), w ∈ Ts := fun w hw => nd w (by show w ∈ (match P[a]? with | some M => _ | none => _); rw [hPM]; exact hw)
            have est : st = (st.take b).reverse.reverse ++ .ref r :: rest := by rw [List.reverse_reverse, ← hst, List.take_append_drop]
            have elen : ((st.take b).reverse).length = b := by rw [List.length_reverse]; exact Nat.eq_of_beq_eq_true hb1.1.2
            have hu8 : u < 8 := Nat.le_of_ble_eq_true hb1.2
            have hu : u < 8 ∧ mx_RX u = M.1.cls := by
              have o2 := ok2.2
              split at o2
              · omega
              · simp only [Bool.and_eq_true, decide_eq_true_eq] at o2
                exact ⟨hu8, o2.2⟩
            rw [est]
            exact sd_callV X hPM ok2.1 elen (Nat.le_of_ble_eq_true hb1.1.1) hm1.1 hm1.2 (by omega) (by omega) (nd2 _ (by simp)) (nd2 _ (by simp)) (nd2 _ (by simp)) (nd2 _ (by simp)) hu.1 hu.2 he hmet hdec (ih _ _ _ _ _ hq)
          · rename_i r rest hst
            have hz0 := iv_bif hq
            clear hq
            obtain ⟨hb1, hq⟩ := hz0
            simp only [Bool.and_eq_true] at hb1
            have hz0 := iv_bk hq
            clear hq
            obtain ⟨rv2, g, hcl, hq⟩ := hz0
            have hmet := hcall _ _ _ _ _ hcl
            have hm1 := hcm _ _ _ _ _ hcl
            have hm2 := mo_fw (xs := xs) (c := code) hcm hctm k _ _ _ _ _ _ _ hq
            obtain ⟨M, hPM, -⟩ := id hmet
            simp only [hPM, Bool.and_eq_true] at ok2
            have hu : u = 99 := Nat.eq_of_beq_eq_true hb1.1.2
            subst hu
            have nd2 : ∀ w ∈ ([.methodLink y.cls i M.1, .instanceMethod M.1, .selects M.1.cls M.1 M.1, .initialized M.1.cls] : List Cond), w ∈ Ts := fun w hw => nd w (by show w ∈ (match P[a]? with | some M => _ | none => _); rw [hPM]; exact hw)
            have est : st = (st.take b).reverse.reverse ++ .retAddr r :: rest := by rw [List.reverse_reverse, ← hst, List.take_append_drop]
            have elen : ((st.take b).reverse).length = b := by rw [List.length_reverse]; exact Nat.eq_of_beq_eq_true hb1.1.1.2
            rw [est]
            exact sd_callT X hPM ok2.1 elen (Nat.le_of_ble_eq_true hb1.1.1.1) hm1.1 hm1.2 (by omega) (by omega) (nd2 _ (by simp)) (nd2 _ (by simp)) (nd2 _ (by simp)) (nd2 _ (by simp)) (Nat.le_of_ble_eq_true hb1.2) (of_decide_eq_true ok2.2) hmet hdec (ih _ _ _ _ _ hq)
          · cases hq
        | invokestatic i =>
          (try dsimp only at hq)
          (try dsimp only at ok2)
          cases hw : Nat.beq w 8 with
          | true =>
            have e : w = 8 := Nat.eq_of_beq_eq_true hw
            subst e
            have hz0 := iv_cps hq
            clear hq
            obtain ⟨n, dp, d, sp, sa, rest, rfl, hq⟩ := hz0
            have hz0 := iv_bif hq
            clear hq
            obtain ⟨hb1, hq⟩ := hz0
            have hz0 := iv_cp hq
            clear hq
            obtain ⟨n0, f0, n1, f1, e0, e1, c1, c2, c3, c4, c5, hq⟩ := hz0
            exact sd_cpy X (nd _ (by simp [mx_need])) (nd _ (by simp [mx_need])) (nd _ (by simp [mx_need])) (nd _ (by simp [mx_need])) e0 e1 c1 c2 c3 c4 c5 (Nat.le_of_ble_eq_true hb1) hdec (ih _ _ _ _ _ hq)
          | false =>
            simp only [hw, Bool.false_or] at ok2
            simp only [hw, cond_false] at hq
            have hz0 := iv_bif hq
            clear hq
            obtain ⟨hb1, hq⟩ := hz0
            simp only [Bool.and_eq_true] at hb1
            have hz0 := iv_bk hq
            clear hq
            obtain ⟨rv2, g, hcl, hq⟩ := hz0
            have hmet := hcall _ _ _ _ _ hcl
            have hm1 := hcm _ _ _ _ _ hcl
            have hm2 := mo_fw (xs := xs) (c := code) hcm hctm k _ _ _ _ _ _ _ hq
            obtain ⟨M, hPM, -⟩ := id hmet
            simp only [hPM, Bool.and_eq_true] at ok2
            have hw8 : ¬ w = 8 := fun e => by rw [e] at hw; cases hw
            have est : st = (st.take b).reverse.reverse ++ st.drop b := by rw [List.reverse_reverse, List.take_append_drop]
            have elen : ((st.take b).reverse).length = b := by rw [List.length_reverse]; exact Nat.eq_of_beq_eq_true hb1.2
            have nd2 : ∀ w' ∈ (bif decide (v = 1) then [.static M.1, .initialized M.1.cls] else [.methodLink y.cls i M.1, .static M.1, .initialized M.1.cls] : List Cond), w' ∈ Ts := fun w' hw' => nd w' (by
              show w' ∈ (match w with | 8 => _ | _ => (match P[a]? with | some M => _ | none => _))
              split
              · exact absurd rfl hw8
              · rw [hPM]; exact hw')
            rw [est]
            have ih2 := fun hq => ih false (pc0 + 3) ls (rv2.toList ++ st.drop b) g hq
            by_cases hv1 : v = 1
            · subst hv1
              exact sd_callSN X hPM ok2.1 elen (Nat.le_of_ble_eq_true hb1.1) hm1.1 hm1.2 (by omega) (by omega) (of_decide_eq_true ok2.2) (nd2 _ (by simp)) (nd2 _ (by simp)) hmet hdec (ih2 hq)
            · simp only [hv1, decide_false, cond_false] at nd2
              exact sd_callS X hPM ok2.1 elen (Nat.le_of_ble_eq_true hb1.1) hm1.1 hm1.2 (by omega) (by omega) (nd2 _ (by simp)) (nd2 _ (by simp)) (nd2 _ (by simp)) hmet hdec (ih2 hq)
        | invokespecial i =>
          (try dsimp only at hq)
          (try dsimp only at ok2)
          cases hw : Nat.beq w 9 with
          | true =>
            have e : w = 9 := Nat.eq_of_beq_eq_true hw
            subst e
            have hz0 := iv_sr hq
            clear hq
            obtain ⟨r, rest, rfl, hq⟩ := hz0
            have hz0 := iv_bif hq
            clear hq
            obtain ⟨hb1, hq⟩ := hz0
            exact sd_oinit X (nd _ (by simp [mx_need])) (nd _ (by simp [mx_need])) (nd _ (by simp [mx_need])) (Nat.le_of_ble_eq_true hb1) hdec (ih _ _ _ _ _ hq)
          | false =>
            simp only [hw, Bool.false_or] at ok2
            simp only [hw, cond_false] at hq
            unfold mx_is at hq
            split at hq
            · rename_i r rest hst
              have hz0 := iv_bif hq
              clear hq
              obtain ⟨hb1, hq⟩ := hz0
              simp only [Bool.and_eq_true] at hb1
              have hz0 := iv_bk hq
              clear hq
              obtain ⟨rv2, g, hcl, hq⟩ := hz0
              have hmet := hcall _ _ _ _ _ hcl
              have hm1 := hcm _ _ _ _ _ hcl
              have hm2 := mo_fw (xs := xs) (c := code) hcm hctm k _ _ _ _ _ _ _ hq
              obtain ⟨M, hPM, -⟩ := id hmet
              simp only [hPM, Bool.and_eq_true, decide_eq_true_eq] at ok2
              have hw9 : ¬ w = 9 := fun e => by rw [e] at hw; cases hw
              have est : st = (st.take b).reverse.reverse ++ .ref r :: rest := by rw [List.reverse_reverse, ← hst, List.take_append_drop]
              have elen : ((st.take b).reverse).length = b := by rw [List.length_reverse]; exact Nat.eq_of_beq_eq_true hb1.2
              have nd2 : ∀ w' ∈ (bif decide (v = 1) then [.instanceMethod M.1, .initialized M.1.cls] else [.methodLink y.cls i M.1, .instanceMethod M.1, .initialized M.1.cls] : List Cond), w' ∈ Ts := fun w' hw' => nd w' (by
                show w' ∈ (match w with | 9 => _ | _ => (match P[a]? with | some M => _ | none => _))
                split
                · exact absurd rfl hw9
                · rw [hPM]; exact hw')
              rw [est]
              by_cases hv1 : v = 1
              · subst hv1
                exact sd_callIN X hPM ok2.1.1.1 elen (Nat.le_of_ble_eq_true hb1.1) hm1.1 hm1.2 (by omega) (by omega) ok2.1.1.2 ok2.1.2 (of_decide_eq_true ok2.2) (nd2 _ (by simp)) (nd2 _ (by simp)) hmet hdec (ih _ _ _ _ _ hq)
              · simp only [hv1, decide_false, cond_false] at nd2
                exact sd_callI X hPM ok2.1.1.1 elen (Nat.le_of_ble_eq_true hb1.1) hm1.1 hm1.2 (by omega) (by omega) ok2.1.1.2 ok2.1.2 (nd2 _ (by simp)) (nd2 _ (by simp)) (nd2 _ (by simp)) hmet hdec (ih _ _ _ _ _ hq)
            · cases hq
        | ireturn =>
          (try dsimp only at hq)
          (try dsimp only at ok2)
          unfold mx_ri at hq
          split at hq
          · rename_i x
            match u, ok2, hq with
            | 0, ok2, hq => cases hq; exact hri _ _ _ hdec rfl ⟨.int, of_decide_eq_true ok2, rfl⟩
            | 1, ok2, hq =>
              simp only at hq
              split at hq
              · rename_i hx
                cases hq
                exact hri _ _ _ hdec rfl ⟨.boolean, of_decide_eq_true ok2, by rcases hx with rfl | rfl <;> rfl⟩
              · cases hq
            | 2, ok2, hq =>
              simp only at hq
              split at hq
              · rename_i hx
                cases hq
                exact hri _ _ _ hdec rfl ⟨.char, of_decide_eq_true ok2, by rw [← hx]; exact pk_nc x⟩
              · cases hq
            | u + 3, ok2, hq =>
              simp only at hq
              split at hq
              · rename_i hx
                cases hq
                exact hri _ _ _ hdec rfl ⟨.byte, of_decide_eq_true ok2, by rw [← hx]; exact pk_nb x⟩
              · cases hq
          · cases hq
        | areturn =>
          (try dsimp only at hq)
          (try dsimp only at ok2)
          have o2 : ∃ t, ret = some t ∧ mx_isref t = true := by
            revert ok2
            cases ret with
            | none => intro h; cases h
            | some t => intro h; exact ⟨t, rfl, h⟩
          unfold mx_ra at hq
          split at hq
          · cases hq; exact hra _ _ _ hdec rfl (Or.inl ⟨_, rfl⟩) o2
          · cases hq; exact hra _ _ _ hdec rfl (Or.inr (Or.inl rfl)) o2
          · cases hq; exact hra _ _ _ hdec rfl (Or.inr (Or.inr ⟨_, rfl⟩)) o2
          · cases hq
        | return_ =>
          (try dsimp only at hq)
          (try dsimp only at ok2)
          unfold mx_rv at hq
          split at hq
          · cases hq; exact hrv _ _ hdec rfl (of_decide_eq_true ok2)
          · cases hq
        | tableswitch d lo hi offs =>
          (try dsimp only at hq)
          (try dsimp only at ok2)
          simp only [Bool.and_eq_true, decide_eq_true_eq] at ok2
          have hz0 := iv_s1 hq
          clear hq
          obtain ⟨x, r, rfl, hq⟩ := hz0
          exact sd_tsw X ok2.1.1 ok2.1.2 ok2.2 hdec hq (fun t hq => ih _ _ _ _ _ hq) (fun hq => ih _ _ _ _ _ hq)
        | lookupswitch d ps =>
          (try dsimp only at hq)
          (try dsimp only at ok2)
          simp only [Bool.and_eq_true, decide_eq_true_eq] at ok2
          have hz0 := iv_s1 hq
          clear hq
          obtain ⟨x, r, rfl, hq⟩ := hz0
          exact sd_lsw X ok2.1.1 ok2.1.2 ok2.2 hdec hq (fun t hq => ih _ _ _ _ _ hq) (fun hq => ih _ _ _ _ _ hq)
        | _ => cases hq
end MXV
end
section
/-! ===== every answer of the small machine is a contract ===== -/
section MXY
variable {p : Program} {l : Launch} {e : Env} {R : Room} {s : State} {m : MethodId} {args : Array Value} {below : List Frame} {meth : Method} {c : Code} {Q : State → Prop}
variable {xs : List Int32} {P : List mx_M} {G : List Cond} {y : MethodName} {cc : ByteArray} {nL : Nat} {ret : Option FieldType} {D : va_G} {ta : Nat → ClassId} {base : Nat} {sk : Nat → Value} {dd : Nat} {Ts : List Cond} {h0 : mx_H}
theorem sd_rn (X : mx_X xs P G p R s m args meth c y cc nL D ta base sk dd Ts h0) {code : List mx_I} (hok : ∀ x ∈ code, mx_ok P y cc nL ret x = true) (hnd : ∀ x ∈ code, ∀ w ∈ mx_need P y.cls x, w ∈ Ts) {call : Nat → List Value → mx_H → mx_R} (hcm : ∀ j as h, mx_mo h (call j as h)) (hcall : ∀ j as g v g', call j as g = some (v, g') → mx_Met xs l P G D ta base sk dd j as g v g') {rv : Option Value} {h' : mx_H} (hcells : h'.length - h0.length ≤ R.cells) (hslots : mx_sz h' - mx_sz h0 ≤ R.slots)
    (hri : ∀ (pc : Nat) (ls : mx_L) (x : Int32), decode cc pc = .ok (.ireturn, 1) → rv = some (.int x) → (∃ ty, ret = some ty ∧ narrow ty (.int x) = .int x) → mx_W p l e R s m args below meth c D ta base sk h0 nL Q (pc) (ls) ([.int x]) (h'))
    (hra : ∀ (pc : Nat) (ls : mx_L) (v : Value), decode cc pc = .ok (.areturn, 1) → rv = some v → mx_isr v → (∃ ty, ret = some ty ∧ mx_isref ty = true) → mx_W p l e R s m args below meth c D ta base sk h0 nL Q (pc) (ls) ([v]) (h'))
    (hrv : ∀ (pc : Nat) (ls : mx_L), decode cc pc = .ok (.return_, 1) → rv = none → ret = none → mx_W p l e R s m args below meth c D ta base sk h0 nL Q (pc) (ls) ([]) (h')) :
    ∀ (n pc : Nat) (ls : mx_L) (st : List Value) (h : mx_H), mx_rn xs call code n pc ls st h = some (rv, h') → mx_W p l e R s m args below meth c D ta base sk h0 nL Q (pc) (ls) (st) (h)
  | 0, _, _, _, _, hq => by unfold mx_rn at hq; cases hq
  | n + 1, pc, ls, st, h, hq => by
    unfold mx_rn at hq
    exact sd_fw X hok hnd hcm hcall (mo_rn hcm n) hcells hslots hri hra hrv (sd_rn X hok hnd hcm hcall hcells hslots hri hra hrv n) _ _ _ _ _ _ hq
end MXY
theorem mx_sl_len {base : Nat} {sk : Nat → Value} (hs : ∀ i, sk i = .null ∨ ∃ a, sk i = .ref a) : ∀ as : List Value, (lg_sl (as.map (mx_cv base sk))).length = (lg_sl as).length
  | [] => rfl
  | v :: as => by
    have ih := mx_sl_len (base := base) hs as
    unfold lg_sl at ih ⊢
    simp only [List.map_cons, List.flatMap_cons, List.length_append, mx_cat hs]
    rw [ih]
    congr 1
    split <;> rfl
theorem mx_args {base : Nat} {sk : Nat → Value} (hs : ∀ i, sk i = .null ∨ ∃ a, sk i = .ref a) : ∀ (as : List Value) (i : Nat), lv_args i (as.map (mx_cv base sk)) = (lv_args i as).map (mx_g base sk)
  | [], _ => rfl
  | v :: as, i => by
    simp only [List.map_cons, lv_args, mx_cat hs]
    rw [mx_args hs as]
    rfl
/-- what the program's table must be for that: checked by the kernel, method by method -/
def mx_Pok (P : List mx_M) (G : List Cond) : Prop := (∀ w ∈ mx_WS, w ∈ G) ∧ (∀ w ∈ G, (w.onTables && w.keeps) = true ∨ ∃ ty, w = .arrayClass ty) ∧
  ∀ (j : Nat) (M : mx_M), P[j]? = some M → plainName M.1.cls = true ∧ Cond.code M.1 M.2.1 M.2.2.1 M.2.2.2.1 ∈ G ∧ (∀ x ∈ M.2.2.2.2, mx_ok P M.1 M.2.1 M.2.2.1 M.2.2.2.1 x = true) ∧ (∀ x ∈ M.2.2.2.2, ∀ w ∈ mx_need P M.1.cls x, w ∈ G)
theorem mx_good {P : List mx_M} {G Ts : List Cond} (hP : mx_Pok P G) (hG : ∀ w ∈ G, w ∈ Ts) : ∀ (j : Nat) (M : mx_M), P[j]? = some M → GoodIn Ts (Cond.code M.1 M.2.1 M.2.2.1 M.2.2.2.1 :: G) := by
  intro j M hM w hw
  rcases List.mem_cons.mp hw with rfl | hw
  · exact ⟨hG _ (hP.2.2 j M hM).2.1, hP.2.1 _ (hP.2.2 j M hM).2.1⟩
  · exact ⟨hG _ hw, hP.2.1 _ hw⟩
set_option maxHeartbeats 4000000 in
theorem mx_sound (xs : List Int32) (l : Launch) (P : List mx_M) (G : List Cond) (hP : mx_Pok P G) (D : va_G) (ta : Nat → ClassId) (base : Nat) (sk : Nat → Value) (hsk : ∀ i, sk i = .null ∨ ∃ a, sk i = .ref a) : ∀ (d j : Nat) (as : List Value) (h : mx_H) (rv : Option Value) (h' : mx_H), mx_ev xs P d j as h = some (rv, h') → mx_Met xs l P G D ta base sk d j as h rv h'
  | 0, _, _, _, _, _, hq => by unfold mx_ev at hq; cases hq
  | d + 1, j, as, h, rv, h', hq => by
    have ih := mx_sound xs l P G hP D ta base sk hsk d
    have hmo := mo_ev (xs := xs) (P := P) (d + 1) j as h rv h' hq
    unfold mx_ev at hq
    split at hq
    · rename_i M hM
      obtain ⟨hlen, hq⟩ := iv_bif hq
      obtain ⟨hplain, hcode, hok, hnd⟩ := hP.2.2 j M hM
      refine ⟨M, hM, Met.ofW (cc := M.2.1) (maxL := M.2.2.1) (ret := M.2.2.2.1) hplain rfl ?_⟩
      intro p e s m args below meth c s₁ B hml hv
      obtain ⟨rfl, hRl, hC⟩ := hv
      have hx := B.exec
      have hb := B.bytes
      have hr := B.returns
      have hts := atoms_spec (ws := Cond.code M.1 M.2.1 M.2.2.1 M.2.2.2.1 :: G) B.pre
      have hown : s.vm.findClass M.1.cls = some m.cls := findClass_of_methodNamed B.named
      have hlocks := B.notSynchronized
      have hin : meth.name = M.1.name := (name_of_methodNamed B.named B.method).1
      have X : mx_X xs P G p (mx_room (d + 1) h h') s m (as.map (mx_cv base sk)).toArray meth c M.1 M.2.1 M.2.2.1 D ta base sk d (Cond.code M.1 M.2.1 M.2.2.1 M.2.2.2.1 :: G) h := by
        refine ⟨⟨hx, hb, hml, hown, hts⟩, fun e => hin.trans e, hC, hRl.1, hsk, fun w hw => List.mem_cons_of_mem _ (hP.1 w hw), mx_good hP (fun w hw => List.mem_cons_of_mem _ hw), Nat.le_refl _, Nat.le_refl _⟩
      have hW := sd_rn (l := l) (e := e) (below := below) (Q := MQ below (mx_Qc D ta base sk rv h') (as.map (mx_cv base sk)).toArray s (h'.length - h.length) (mx_sz h' - mx_sz h) (mx_A base)) X hok (fun x hx w hw => List.mem_cons_of_mem _ (hnd x hx w hw)) (mo_ev (xs := xs) (P := P) d) (fun j as g v g' hg => ih j as g v g' hg) (rv := rv) (h' := h') (Nat.le_refl _) (Nat.le_refl _) ?_ ?_ ?_ mx_N 0 (lv_args 0 as) [] h hq
      · have hl := lv_entry (as.map (mx_cv base sk)) (n := M.2.2.1) (by rw [mx_sl_len hsk]; exact Nat.le_of_ble_eq_true hlen)
        rw [mx_args hsk] at hl
        rw [lg_entry_eq]
        have hW2 := hW s.heap [] _ hRl va_S.rf hl (Nat.le_refl _) (Nat.le_refl _)
        rw [Nat.sub_self, Nat.sub_self] at hW2
        exact hW2
      · intro pc ls x hd he hty
        subst he
        obtain ⟨ty, h1, h2⟩ := hty
        intro H locs lsC hR hS hl a1 a2
        exact W.zret hx hb (hr.trans h1) h2 (fun t ht hW => ⟨rfl, by rw [ht]; exact hR, hS.F ht⟩) hS.2.2 hd
      · intro pc ls v hd he hv hty
        subst he
        obtain ⟨ty, h1, h2⟩ := hty
        intro H locs lsC hR hS hl a1 a2
        refine W.aret hx hb (hr.trans h1) ?_ (isr_cv hsk hv) (fun t ht hW => ⟨rfl, by rw [ht]; exact hR, hS.F ht⟩) hS.2.2 hd
        cases ty with
        | object n => exact Or.inl ⟨n, rfl⟩
        | array t => exact Or.inr ⟨t, rfl⟩
        | _ => cases h2
      · intro pc ls hd he h1
        subst he
        intro H locs lsC hR hS hl a1 a2
        exact W.vret hx hb (hr.trans h1) (fun t ht hW => ⟨rfl, by rw [ht]; exact hR, hS.F ht⟩) hS.2.2 hd
    · cases hq
end
