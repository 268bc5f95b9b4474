section
-- ===== PART A: goes FIRST, ahead of the names: the tables' words, and 'selects' of the private methods out of them =====
/-- a private method of a class that the tables say can be made, by its rows of tables_1 -/
def lw_okq (q : MethodName × Nat) : Prop := (q.1.cls ≠ "java/lang/invoke/MethodHandle" ∧ q.1.cls ≠ "java/lang/invoke/VarHandle") ∧ Cond.instantiable q.1.cls q.2 ∈ tables_1 ∧ Cond.privateMethod q.1 ∈ tables_1 ∧ Cond.instanceMethod q.1 ∈ tables_1
theorem lw_p0 : lw_okq (⟨"CreaseLines$Closet", "lawOf", "(I)LCreaseLines$Text;"⟩, 13) := ⟨⟨by decide +kernel, by decide +kernel⟩, List.mem_of_getElem? (i := 27) (by decide +kernel), List.mem_of_getElem? (i := 296) (by decide +kernel), List.mem_of_getElem? (i := 297) (by decide +kernel)⟩
theorem lw_p1 : lw_okq (⟨"CreaseLines$Closet", "wear", "(I)V"⟩, 13) := ⟨⟨by decide +kernel, by decide +kernel⟩, List.mem_of_getElem? (i := 27) (by decide +kernel), List.mem_of_getElem? (i := 409) (by decide +kernel), List.mem_of_getElem? (i := 410) (by decide +kernel)⟩
theorem lw_p2 : lw_okq (⟨"CreaseLines$Closet", "soak", "(LCreaseLines$Leg;)V"⟩, 13) := ⟨⟨by decide +kernel, by decide +kernel⟩, List.mem_of_getElem? (i := 27) (by decide +kernel), List.mem_of_getElem? (i := 416) (by decide +kernel), List.mem_of_getElem? (i := 417) (by decide +kernel)⟩
theorem lw_p3 : lw_okq (⟨"CreaseLines", "beginThought", "()LCreaseLines$Closet;"⟩, 12) := ⟨⟨by decide +kernel, by decide +kernel⟩, List.mem_of_getElem? (i := 19) (by decide +kernel), List.mem_of_getElem? (i := 443) (by decide +kernel), List.mem_of_getElem? (i := 444) (by decide +kernel)⟩
theorem lw_p4 : lw_okq (⟨"CreaseLines", "sumDifferences", "(LCreaseLines$Sheet;)V"⟩, 12) := ⟨⟨by decide +kernel, by decide +kernel⟩, List.mem_of_getElem? (i := 19) (by decide +kernel), List.mem_of_getElem? (i := 513) (by decide +kernel), List.mem_of_getElem? (i := 514) (by decide +kernel)⟩
theorem lw_p5 : lw_okq (⟨"CreaseLines", "feedFour", "(I)V"⟩, 12) := ⟨⟨by decide +kernel, by decide +kernel⟩, List.mem_of_getElem? (i := 19) (by decide +kernel), List.mem_of_getElem? (i := 550) (by decide +kernel), List.mem_of_getElem? (i := 551) (by decide +kernel)⟩
theorem lw_p6 : lw_okq (⟨"CreaseLines$Reader", "begin", "([II)V"⟩, 15) := ⟨⟨by decide +kernel, by decide +kernel⟩, List.mem_of_getElem? (i := 126) (by decide +kernel), List.mem_of_getElem? (i := 566) (by decide +kernel), List.mem_of_getElem? (i := 567) (by decide +kernel)⟩
theorem lw_p7 : lw_okq (⟨"CreaseLines$Reader", "nextWord", "()V"⟩, 15) := ⟨⟨by decide +kernel, by decide +kernel⟩, List.mem_of_getElem? (i := 126) (by decide +kernel), List.mem_of_getElem? (i := 571) (by decide +kernel), List.mem_of_getElem? (i := 572) (by decide +kernel)⟩
theorem lw_p8 : lw_okq (⟨"CreaseLines$Reader", "keyOfWord", "()I"⟩, 15) := ⟨⟨by decide +kernel, by decide +kernel⟩, List.mem_of_getElem? (i := 126) (by decide +kernel), List.mem_of_getElem? (i := 578) (by decide +kernel), List.mem_of_getElem? (i := 579) (by decide +kernel)⟩
theorem lw_p9 : lw_okq (⟨"CreaseLines$Reader", "isWord", "(Ljava/lang/String;)Z"⟩, 15) := ⟨⟨by decide +kernel, by decide +kernel⟩, List.mem_of_getElem? (i := 126) (by decide +kernel), List.mem_of_getElem? (i := 583) (by decide +kernel), List.mem_of_getElem? (i := 584) (by decide +kernel)⟩
theorem lw_p10 : lw_okq (⟨"CreaseLines$Reader", "isWhole", "()Z"⟩, 15) := ⟨⟨by decide +kernel, by decide +kernel⟩, List.mem_of_getElem? (i := 126) (by decide +kernel), List.mem_of_getElem? (i := 637) (by decide +kernel), List.mem_of_getElem? (i := 638) (by decide +kernel)⟩
theorem lw_p11 : lw_okq (⟨"CreaseLines$Reader", "takesPiece", "()Z"⟩, 15) := ⟨⟨by decide +kernel, by decide +kernel⟩, List.mem_of_getElem? (i := 126) (by decide +kernel), List.mem_of_getElem? (i := 641) (by decide +kernel), List.mem_of_getElem? (i := 642) (by decide +kernel)⟩
theorem lw_p12 : lw_okq (⟨"CreaseLines$Reader", "takesNumber", "()Z"⟩, 15) := ⟨⟨by decide +kernel, by decide +kernel⟩, List.mem_of_getElem? (i := 126) (by decide +kernel), List.mem_of_getElem? (i := 645) (by decide +kernel), List.mem_of_getElem? (i := 646) (by decide +kernel)⟩
theorem lw_p13 : lw_okq (⟨"CreaseLines$Reader", "endLeaf", "(I)V"⟩, 15) := ⟨⟨by decide +kernel, by decide +kernel⟩, List.mem_of_getElem? (i := 126) (by decide +kernel), List.mem_of_getElem? (i := 649) (by decide +kernel), List.mem_of_getElem? (i := 650) (by decide +kernel)⟩
theorem lw_p14 : lw_okq (⟨"CreaseLines$Reader", "addStep", "(I)V"⟩, 15) := ⟨⟨by decide +kernel, by decide +kernel⟩, List.mem_of_getElem? (i := 126) (by decide +kernel), List.mem_of_getElem? (i := 653) (by decide +kernel), List.mem_of_getElem? (i := 654) (by decide +kernel)⟩
theorem lw_p15 : lw_okq (⟨"CreaseLines$Reader", "endPiece", "()V"⟩, 15) := ⟨⟨by decide +kernel, by decide +kernel⟩, List.mem_of_getElem? (i := 126) (by decide +kernel), List.mem_of_getElem? (i := 657) (by decide +kernel), List.mem_of_getElem? (i := 658) (by decide +kernel)⟩
def lw_privs_1 : List (MethodName × Nat) := [(⟨"CreaseLines$Closet", "lawOf", "(I)LCreaseLines$Text;"⟩, 13), (⟨"CreaseLines$Closet", "wear", "(I)V"⟩, 13), (⟨"CreaseLines$Closet", "soak", "(LCreaseLines$Leg;)V"⟩, 13), (⟨"CreaseLines", "beginThought", "()LCreaseLines$Closet;"⟩, 12), (⟨"CreaseLines", "sumDifferences", "(LCreaseLines$Sheet;)V"⟩, 12), (⟨"CreaseLines", "feedFour", "(I)V"⟩, 12), (⟨"CreaseLines$Reader", "begin", "([II)V"⟩, 15), (⟨"CreaseLines$Reader", "nextWord", "()V"⟩, 15), (⟨"CreaseLines$Reader", "keyOfWord", "()I"⟩, 15), (⟨"CreaseLines$Reader", "isWord", "(Ljava/lang/String;)Z"⟩, 15), (⟨"CreaseLines$Reader", "isWhole", "()Z"⟩, 15), (⟨"CreaseLines$Reader", "takesPiece", "()Z"⟩, 15), (⟨"CreaseLines$Reader", "takesNumber", "()Z"⟩, 15), (⟨"CreaseLines$Reader", "endLeaf", "(I)V"⟩, 15), (⟨"CreaseLines$Reader", "addStep", "(I)V"⟩, 15), (⟨"CreaseLines$Reader", "endPiece", "()V"⟩, 15)]
theorem lw_r1 : ∀ q ∈ lw_privs_1, lw_okq q := List.forall_mem_cons.mpr ⟨lw_p0, List.forall_mem_cons.mpr ⟨lw_p1, List.forall_mem_cons.mpr ⟨lw_p2, List.forall_mem_cons.mpr ⟨lw_p3, List.forall_mem_cons.mpr ⟨lw_p4, List.forall_mem_cons.mpr ⟨lw_p5, List.forall_mem_cons.mpr ⟨lw_p6, List.forall_mem_cons.mpr ⟨lw_p7, List.forall_mem_cons.mpr ⟨lw_p8, List.forall_mem_cons.mpr ⟨lw_p9, List.forall_mem_cons.mpr ⟨lw_p10, List.forall_mem_cons.mpr ⟨lw_p11, List.forall_mem_cons.mpr ⟨lw_p12, List.forall_mem_cons.mpr ⟨lw_p13, List.forall_mem_cons.mpr ⟨lw_p14, List.forall_mem_cons.mpr ⟨lw_p15, fun _ h => absurd h List.not_mem_nil⟩⟩⟩⟩⟩⟩⟩⟩⟩⟩⟩⟩⟩⟩⟩⟩
theorem lw_p16 : lw_okq (⟨"CreaseLines$Reader", "takesName", "()Z"⟩, 15) := ⟨⟨by decide +kernel, by decide +kernel⟩, List.mem_of_getElem? (i := 126) (by decide +kernel), List.mem_of_getElem? (i := 661) (by decide +kernel), List.mem_of_getElem? (i := 662) (by decide +kernel)⟩
theorem lw_p17 : lw_okq (⟨"CreaseLines$Reader", "namesOfKey", "()Ljava/lang/String;"⟩, 15) := ⟨⟨by decide +kernel, by decide +kernel⟩, List.mem_of_getElem? (i := 126) (by decide +kernel), List.mem_of_getElem? (i := 665) (by decide +kernel), List.mem_of_getElem? (i := 666) (by decide +kernel)⟩
theorem lw_p18 : lw_okq (⟨"CreaseLines$Reader", "takesOpening", "()Z"⟩, 15) := ⟨⟨by decide +kernel, by decide +kernel⟩, List.mem_of_getElem? (i := 126) (by decide +kernel), List.mem_of_getElem? (i := 727) (by decide +kernel), List.mem_of_getElem? (i := 728) (by decide +kernel)⟩
theorem lw_p19 : lw_okq (⟨"CreaseLines$Reader", "putOnPile", "(I)V"⟩, 15) := ⟨⟨by decide +kernel, by decide +kernel⟩, List.mem_of_getElem? (i := 126) (by decide +kernel), List.mem_of_getElem? (i := 731) (by decide +kernel), List.mem_of_getElem? (i := 732) (by decide +kernel)⟩
theorem lw_p20 : lw_okq (⟨"CreaseLines$Reader", "takesSign", "()Z"⟩, 15) := ⟨⟨by decide +kernel, by decide +kernel⟩, List.mem_of_getElem? (i := 126) (by decide +kernel), List.mem_of_getElem? (i := 735) (by decide +kernel), List.mem_of_getElem? (i := 736) (by decide +kernel)⟩
theorem lw_p21 : lw_okq (⟨"CreaseLines$Reader", "takesClosing", "()Z"⟩, 15) := ⟨⟨by decide +kernel, by decide +kernel⟩, List.mem_of_getElem? (i := 126) (by decide +kernel), List.mem_of_getElem? (i := 739) (by decide +kernel), List.mem_of_getElem? (i := 740) (by decide +kernel)⟩
theorem lw_p22 : lw_okq (⟨"CreaseLines$Reader", "unpile", "(I)V"⟩, 15) := ⟨⟨by decide +kernel, by decide +kernel⟩, List.mem_of_getElem? (i := 126) (by decide +kernel), List.mem_of_getElem? (i := 743) (by decide +kernel), List.mem_of_getElem? (i := 744) (by decide +kernel)⟩
theorem lw_p23 : lw_okq (⟨"CreaseLinesModel", "comes", "(III)I"⟩, 33) := ⟨⟨by decide +kernel, by decide +kernel⟩, List.mem_of_getElem? (i := 880) (by decide +kernel), List.mem_of_getElem? (i := 996) (by decide +kernel), List.mem_of_getElem? (i := 997) (by decide +kernel)⟩
theorem lw_p24 : lw_okq (⟨"CreaseLinesModel", "put", "(III)V"⟩, 33) := ⟨⟨by decide +kernel, by decide +kernel⟩, List.mem_of_getElem? (i := 880) (by decide +kernel), List.mem_of_getElem? (i := 1000) (by decide +kernel), List.mem_of_getElem? (i := 1001) (by decide +kernel)⟩
theorem lw_p25 : lw_okq (⟨"CreaseLinesModel", "isLeg", "(I)Z"⟩, 33) := ⟨⟨by decide +kernel, by decide +kernel⟩, List.mem_of_getElem? (i := 880) (by decide +kernel), List.mem_of_getElem? (i := 1008) (by decide +kernel), List.mem_of_getElem? (i := 1009) (by decide +kernel)⟩
theorem lw_p26 : lw_okq (⟨"CreaseLinesModel", "takesBy", "(I)I"⟩, 33) := ⟨⟨by decide +kernel, by decide +kernel⟩, List.mem_of_getElem? (i := 880) (by decide +kernel), List.mem_of_getElem? (i := 1012) (by decide +kernel), List.mem_of_getElem? (i := 1013) (by decide +kernel)⟩
theorem lw_p27 : lw_okq (⟨"CreaseLinesModel", "plainPress", "(I)I"⟩, 33) := ⟨⟨by decide +kernel, by decide +kernel⟩, List.mem_of_getElem? (i := 880) (by decide +kernel), List.mem_of_getElem? (i := 1016) (by decide +kernel), List.mem_of_getElem? (i := 1017) (by decide +kernel)⟩
theorem lw_p28 : lw_okq (⟨"CreaseLinesModel", "counts", "(I)I"⟩, 33) := ⟨⟨by decide +kernel, by decide +kernel⟩, List.mem_of_getElem? (i := 880) (by decide +kernel), List.mem_of_getElem? (i := 1020) (by decide +kernel), List.mem_of_getElem? (i := 1021) (by decide +kernel)⟩
theorem lw_p29 : lw_okq (⟨"CreaseLinesModel", "of", "(II)I"⟩, 33) := ⟨⟨by decide +kernel, by decide +kernel⟩, List.mem_of_getElem? (i := 880) (by decide +kernel), List.mem_of_getElem? (i := 1024) (by decide +kernel), List.mem_of_getElem? (i := 1025) (by decide +kernel)⟩
theorem lw_p30 : lw_okq (⟨"CreaseLinesModel", "worksOut", "(I)I"⟩, 33) := ⟨⟨by decide +kernel, by decide +kernel⟩, List.mem_of_getElem? (i := 880) (by decide +kernel), List.mem_of_getElem? (i := 1028) (by decide +kernel), List.mem_of_getElem? (i := 1029) (by decide +kernel)⟩
theorem lw_p31 : lw_okq (⟨"CreaseLinesModel", "losesOf", "(I)I"⟩, 33) := ⟨⟨by decide +kernel, by decide +kernel⟩, List.mem_of_getElem? (i := 880) (by decide +kernel), List.mem_of_getElem? (i := 1038) (by decide +kernel), List.mem_of_getElem? (i := 1039) (by decide +kernel)⟩
def lw_privs_2 : List (MethodName × Nat) := [(⟨"CreaseLines$Reader", "takesName", "()Z"⟩, 15), (⟨"CreaseLines$Reader", "namesOfKey", "()Ljava/lang/String;"⟩, 15), (⟨"CreaseLines$Reader", "takesOpening", "()Z"⟩, 15), (⟨"CreaseLines$Reader", "putOnPile", "(I)V"⟩, 15), (⟨"CreaseLines$Reader", "takesSign", "()Z"⟩, 15), (⟨"CreaseLines$Reader", "takesClosing", "()Z"⟩, 15), (⟨"CreaseLines$Reader", "unpile", "(I)V"⟩, 15), (⟨"CreaseLinesModel", "comes", "(III)I"⟩, 33), (⟨"CreaseLinesModel", "put", "(III)V"⟩, 33), (⟨"CreaseLinesModel", "isLeg", "(I)Z"⟩, 33), (⟨"CreaseLinesModel", "takesBy", "(I)I"⟩, 33), (⟨"CreaseLinesModel", "plainPress", "(I)I"⟩, 33), (⟨"CreaseLinesModel", "counts", "(I)I"⟩, 33), (⟨"CreaseLinesModel", "of", "(II)I"⟩, 33), (⟨"CreaseLinesModel", "worksOut", "(I)I"⟩, 33), (⟨"CreaseLinesModel", "losesOf", "(I)I"⟩, 33)]
theorem lw_r2 : ∀ q ∈ lw_privs_2, lw_okq q := List.forall_mem_cons.mpr ⟨lw_p16, List.forall_mem_cons.mpr ⟨lw_p17, List.forall_mem_cons.mpr ⟨lw_p18, List.forall_mem_cons.mpr ⟨lw_p19, List.forall_mem_cons.mpr ⟨lw_p20, List.forall_mem_cons.mpr ⟨lw_p21, List.forall_mem_cons.mpr ⟨lw_p22, List.forall_mem_cons.mpr ⟨lw_p23, List.forall_mem_cons.mpr ⟨lw_p24, List.forall_mem_cons.mpr ⟨lw_p25, List.forall_mem_cons.mpr ⟨lw_p26, List.forall_mem_cons.mpr ⟨lw_p27, List.forall_mem_cons.mpr ⟨lw_p28, List.forall_mem_cons.mpr ⟨lw_p29, List.forall_mem_cons.mpr ⟨lw_p30, List.forall_mem_cons.mpr ⟨lw_p31, fun _ h => absurd h List.not_mem_nil⟩⟩⟩⟩⟩⟩⟩⟩⟩⟩⟩⟩⟩⟩⟩⟩
theorem lw_p32 : lw_okq (⟨"CreaseLinesModel", "bagsOf", "(I)I"⟩, 33) := ⟨⟨by decide +kernel, by decide +kernel⟩, List.mem_of_getElem? (i := 880) (by decide +kernel), List.mem_of_getElem? (i := 1042) (by decide +kernel), List.mem_of_getElem? (i := 1043) (by decide +kernel)⟩
theorem lw_p33 : lw_okq (⟨"CreaseLinesModel", "worthOf", "(I)I"⟩, 33) := ⟨⟨by decide +kernel, by decide +kernel⟩, List.mem_of_getElem? (i := 880) (by decide +kernel), List.mem_of_getElem? (i := 1046) (by decide +kernel), List.mem_of_getElem? (i := 1047) (by decide +kernel)⟩
theorem lw_p34 : lw_okq (⟨"CreaseLinesModel", "swaps", "(II)I"⟩, 33) := ⟨⟨by decide +kernel, by decide +kernel⟩, List.mem_of_getElem? (i := 880) (by decide +kernel), List.mem_of_getElem? (i := 1062) (by decide +kernel), List.mem_of_getElem? (i := 1063) (by decide +kernel)⟩
theorem lw_p35 : lw_okq (⟨"CreaseLinesModel", "presses", "(II)I"⟩, 33) := ⟨⟨by decide +kernel, by decide +kernel⟩, List.mem_of_getElem? (i := 880) (by decide +kernel), List.mem_of_getElem? (i := 1074) (by decide +kernel), List.mem_of_getElem? (i := 1075) (by decide +kernel)⟩
theorem lw_p36 : lw_okq (⟨"CreaseLinesModel", "draw", "()I"⟩, 33) := ⟨⟨by decide +kernel, by decide +kernel⟩, List.mem_of_getElem? (i := 880) (by decide +kernel), List.mem_of_getElem? (i := 1089) (by decide +kernel), List.mem_of_getElem? (i := 1090) (by decide +kernel)⟩
theorem lw_p37 : lw_okq (⟨"CreaseLinesModel", "goesOn", "(I)V"⟩, 33) := ⟨⟨by decide +kernel, by decide +kernel⟩, List.mem_of_getElem? (i := 880) (by decide +kernel), List.mem_of_getElem? (i := 1102) (by decide +kernel), List.mem_of_getElem? (i := 1103) (by decide +kernel)⟩
theorem lw_p38 : lw_okq (⟨"CreaseLinesModel", "day", "()V"⟩, 33) := ⟨⟨by decide +kernel, by decide +kernel⟩, List.mem_of_getElem? (i := 880) (by decide +kernel), List.mem_of_getElem? (i := 1106) (by decide +kernel), List.mem_of_getElem? (i := 1107) (by decide +kernel)⟩
theorem lw_p39 : lw_okq (⟨"CreaseLinesModel", "isWorn", "(I)V"⟩, 33) := ⟨⟨by decide +kernel, by decide +kernel⟩, List.mem_of_getElem? (i := 880) (by decide +kernel), List.mem_of_getElem? (i := 1110) (by decide +kernel), List.mem_of_getElem? (i := 1111) (by decide +kernel)⟩
theorem lw_p40 : lw_okq (⟨"CreaseLinesModel", "dullest", "()I"⟩, 33) := ⟨⟨by decide +kernel, by decide +kernel⟩, List.mem_of_getElem? (i := 880) (by decide +kernel), List.mem_of_getElem? (i := 1114) (by decide +kernel), List.mem_of_getElem? (i := 1115) (by decide +kernel)⟩
theorem lw_p41 : lw_okq (⟨"CreaseLinesModel", "allSharp", "()I"⟩, 33) := ⟨⟨by decide +kernel, by decide +kernel⟩, List.mem_of_getElem? (i := 880) (by decide +kernel), List.mem_of_getElem? (i := 1122) (by decide +kernel), List.mem_of_getElem? (i := 1123) (by decide +kernel)⟩
theorem lw_p42 : lw_okq (⟨"CreaseLinesModel", "doubled", "()I"⟩, 33) := ⟨⟨by decide +kernel, by decide +kernel⟩, List.mem_of_getElem? (i := 880) (by decide +kernel), List.mem_of_getElem? (i := 1126) (by decide +kernel), List.mem_of_getElem? (i := 1127) (by decide +kernel)⟩
theorem lw_p43 : lw_okq (⟨"CreaseLinesModel", "thinks", "()V"⟩, 33) := ⟨⟨by decide +kernel, by decide +kernel⟩, List.mem_of_getElem? (i := 880) (by decide +kernel), List.mem_of_getElem? (i := 1135) (by decide +kernel), List.mem_of_getElem? (i := 1136) (by decide +kernel)⟩
theorem lw_p44 : lw_okq (⟨"CreaseLinesModel", "putsBack", "()V"⟩, 33) := ⟨⟨by decide +kernel, by decide +kernel⟩, List.mem_of_getElem? (i := 880) (by decide +kernel), List.mem_of_getElem? (i := 1145) (by decide +kernel), List.mem_of_getElem? (i := 1146) (by decide +kernel)⟩
theorem lw_p45 : lw_okq (⟨"CreaseLinesModel", "isCaredFor", "(II)Z"⟩, 33) := ⟨⟨by decide +kernel, by decide +kernel⟩, List.mem_of_getElem? (i := 880) (by decide +kernel), List.mem_of_getElem? (i := 1161) (by decide +kernel), List.mem_of_getElem? (i := 1162) (by decide +kernel)⟩
theorem lw_p46 : lw_okq (⟨"CreaseLinesModel", "sharpOn", "(I)I"⟩, 33) := ⟨⟨by decide +kernel, by decide +kernel⟩, List.mem_of_getElem? (i := 880) (by decide +kernel), List.mem_of_getElem? (i := 1169) (by decide +kernel), List.mem_of_getElem? (i := 1170) (by decide +kernel)⟩
theorem lw_p47 : lw_okq (⟨"CreaseLinesModel", "go", "()V"⟩, 33) := ⟨⟨by decide +kernel, by decide +kernel⟩, List.mem_of_getElem? (i := 880) (by decide +kernel), List.mem_of_getElem? (i := 1209) (by decide +kernel), List.mem_of_getElem? (i := 1210) (by decide +kernel)⟩
def lw_privs_3 : List (MethodName × Nat) := [(⟨"CreaseLinesModel", "bagsOf", "(I)I"⟩, 33), (⟨"CreaseLinesModel", "worthOf", "(I)I"⟩, 33), (⟨"CreaseLinesModel", "swaps", "(II)I"⟩, 33), (⟨"CreaseLinesModel", "presses", "(II)I"⟩, 33), (⟨"CreaseLinesModel", "draw", "()I"⟩, 33), (⟨"CreaseLinesModel", "goesOn", "(I)V"⟩, 33), (⟨"CreaseLinesModel", "day", "()V"⟩, 33), (⟨"CreaseLinesModel", "isWorn", "(I)V"⟩, 33), (⟨"CreaseLinesModel", "dullest", "()I"⟩, 33), (⟨"CreaseLinesModel", "allSharp", "()I"⟩, 33), (⟨"CreaseLinesModel", "doubled", "()I"⟩, 33), (⟨"CreaseLinesModel", "thinks", "()V"⟩, 33), (⟨"CreaseLinesModel", "putsBack", "()V"⟩, 33), (⟨"CreaseLinesModel", "isCaredFor", "(II)Z"⟩, 33), (⟨"CreaseLinesModel", "sharpOn", "(I)I"⟩, 33), (⟨"CreaseLinesModel", "go", "()V"⟩, 33)]
theorem lw_r3 : ∀ q ∈ lw_privs_3, lw_okq q := List.forall_mem_cons.mpr ⟨lw_p32, List.forall_mem_cons.mpr ⟨lw_p33, List.forall_mem_cons.mpr ⟨lw_p34, List.forall_mem_cons.mpr ⟨lw_p35, List.forall_mem_cons.mpr ⟨lw_p36, List.forall_mem_cons.mpr ⟨lw_p37, List.forall_mem_cons.mpr ⟨lw_p38, List.forall_mem_cons.mpr ⟨lw_p39, List.forall_mem_cons.mpr ⟨lw_p40, List.forall_mem_cons.mpr ⟨lw_p41, List.forall_mem_cons.mpr ⟨lw_p42, List.forall_mem_cons.mpr ⟨lw_p43, List.forall_mem_cons.mpr ⟨lw_p44, List.forall_mem_cons.mpr ⟨lw_p45, List.forall_mem_cons.mpr ⟨lw_p46, List.forall_mem_cons.mpr ⟨lw_p47, fun _ h => absurd h List.not_mem_nil⟩⟩⟩⟩⟩⟩⟩⟩⟩⟩⟩⟩⟩⟩⟩⟩
theorem lw_p48 : lw_okq (⟨"CreaseLinesModel", "isLetter", "(I)Z"⟩, 33) := ⟨⟨by decide +kernel, by decide +kernel⟩, List.mem_of_getElem? (i := 880) (by decide +kernel), List.mem_of_getElem? (i := 1213) (by decide +kernel), List.mem_of_getElem? (i := 1214) (by decide +kernel)⟩
theorem lw_p49 : lw_okq (⟨"CreaseLinesModel", "isFigure", "(I)Z"⟩, 33) := ⟨⟨by decide +kernel, by decide +kernel⟩, List.mem_of_getElem? (i := 880) (by decide +kernel), List.mem_of_getElem? (i := 1217) (by decide +kernel), List.mem_of_getElem? (i := 1218) (by decide +kernel)⟩
theorem lw_p50 : lw_okq (⟨"CreaseLinesModel", "takesKey", "()Z"⟩, 33) := ⟨⟨by decide +kernel, by decide +kernel⟩, List.mem_of_getElem? (i := 880) (by decide +kernel), List.mem_of_getElem? (i := 1221) (by decide +kernel), List.mem_of_getElem? (i := 1222) (by decide +kernel)⟩
theorem lw_p51 : lw_okq (⟨"CreaseLinesModel", "takesE", "()Z"⟩, 33) := ⟨⟨by decide +kernel, by decide +kernel⟩, List.mem_of_getElem? (i := 880) (by decide +kernel), List.mem_of_getElem? (i := 1225) (by decide +kernel), List.mem_of_getElem? (i := 1226) (by decide +kernel)⟩
theorem lw_p52 : lw_okq (⟨"CreaseLinesModel", "takesPart", "()Z"⟩, 33) := ⟨⟨by decide +kernel, by decide +kernel⟩, List.mem_of_getElem? (i := 880) (by decide +kernel), List.mem_of_getElem? (i := 1229) (by decide +kernel), List.mem_of_getElem? (i := 1230) (by decide +kernel)⟩
theorem lw_p53 : lw_okq (⟨"CreaseLinesModel", "nameOf", "(I)I"⟩, 33) := ⟨⟨by decide +kernel, by decide +kernel⟩, List.mem_of_getElem? (i := 880) (by decide +kernel), List.mem_of_getElem? (i := 1233) (by decide +kernel), List.mem_of_getElem? (i := 1234) (by decide +kernel)⟩
theorem lw_p54 : lw_okq (⟨"CreaseLinesModel", "settle", "(I)V"⟩, 33) := ⟨⟨by decide +kernel, by decide +kernel⟩, List.mem_of_getElem? (i := 880) (by decide +kernel), List.mem_of_getElem? (i := 1237) (by decide +kernel), List.mem_of_getElem? (i := 1238) (by decide +kernel)⟩
theorem lw_p55 : lw_okq (⟨"CreaseLinesModel", "notsOpen", "()I"⟩, 33) := ⟨⟨by decide +kernel, by decide +kernel⟩, List.mem_of_getElem? (i := 880) (by decide +kernel), List.mem_of_getElem? (i := 1244) (by decide +kernel), List.mem_of_getElem? (i := 1245) (by decide +kernel)⟩
theorem lw_p56 : lw_okq (⟨"CreaseLinesModel", "signHere", "()I"⟩, 33) := ⟨⟨by decide +kernel, by decide +kernel⟩, List.mem_of_getElem? (i := 880) (by decide +kernel), List.mem_of_getElem? (i := 1248) (by decide +kernel), List.mem_of_getElem? (i := 1249) (by decide +kernel)⟩
def lw_privs_4 : List (MethodName × Nat) := [(⟨"CreaseLinesModel", "isLetter", "(I)Z"⟩, 33), (⟨"CreaseLinesModel", "isFigure", "(I)Z"⟩, 33), (⟨"CreaseLinesModel", "takesKey", "()Z"⟩, 33), (⟨"CreaseLinesModel", "takesE", "()Z"⟩, 33), (⟨"CreaseLinesModel", "takesPart", "()Z"⟩, 33), (⟨"CreaseLinesModel", "nameOf", "(I)I"⟩, 33), (⟨"CreaseLinesModel", "settle", "(I)V"⟩, 33), (⟨"CreaseLinesModel", "notsOpen", "()I"⟩, 33), (⟨"CreaseLinesModel", "signHere", "()I"⟩, 33)]
theorem lw_r4 : ∀ q ∈ lw_privs_4, lw_okq q := List.forall_mem_cons.mpr ⟨lw_p48, List.forall_mem_cons.mpr ⟨lw_p49, List.forall_mem_cons.mpr ⟨lw_p50, List.forall_mem_cons.mpr ⟨lw_p51, List.forall_mem_cons.mpr ⟨lw_p52, List.forall_mem_cons.mpr ⟨lw_p53, List.forall_mem_cons.mpr ⟨lw_p54, List.forall_mem_cons.mpr ⟨lw_p55, List.forall_mem_cons.mpr ⟨lw_p56, fun _ h => absurd h List.not_mem_nil⟩⟩⟩⟩⟩⟩⟩⟩⟩
def lw_privs : List (MethodName × Nat) := lw_privs_1 ++ (lw_privs_2 ++ (lw_privs_3 ++ (lw_privs_4)))
def lw_tbl : List Cond := k2_sels lw_privs ++ tables_1
theorem lw_privs_ok : ∀ q ∈ lw_privs, lw_okq q := by
  show ∀ q ∈ lw_privs_1 ++ (lw_privs_2 ++ (lw_privs_3 ++ (lw_privs_4))), lw_okq q
  exact List.forall_mem_append.mpr ⟨lw_r1, List.forall_mem_append.mpr ⟨lw_r2, List.forall_mem_append.mpr ⟨lw_r3, lw_r4⟩⟩⟩
end
section
def RX0 : String := "CreaseLines$Closet"
def TX0 : u_T := fun k => match k with
  | 0 => ("CreaseLines$Closet", "legs", "[LCreaseLines$Leg;", true)
  | 1 => ("CreaseLines$Closet", "size", "I", false)
  | 2 => ("CreaseLines$Closet", "rules", "[I", true)
  | 3 => ("CreaseLines$Closet", "texts", "[LCreaseLines$Text;", true)
  | 4 => ("CreaseLines$Closet", "textCount", "I", false)
  | 5 => ("CreaseLines$Closet", "counting", "[I", true)
  | 6 => ("CreaseLines$Closet", "pressed", "I", false)
  | 7 => ("CreaseLines$Closet", "twos", "I", false)
  | 8 => ("CreaseLines$Closet", "soaked", "I", false)
  | 9 => ("CreaseLines$Closet", "day", "I", false)
  | 10 => ("CreaseLines$Closet", "z", "I", false)
  | 11 => ("CreaseLines$Closet", "names", "[I", true)
  | _ => ("CreaseLines$Closet", "stack", "[I", true)
def tyX0 : Nat → FieldType := fun k => match k with
  | 0 => .array (.object "CreaseLines$Leg")
  | 1 => .int
  | 2 => .array .int
  | 3 => .array (.object "CreaseLines$Text")
  | 4 => .int
  | 5 => .array .int
  | 6 => .int
  | 7 => .int
  | 8 => .int
  | 9 => .int
  | 10 => .int
  | 11 => .array .int
  | _ => .array .int
abbrev wsX00 : List Cond := u_ws RX0 TX0 13
theorem nmX0 : ∀ a, a < 13 → ∀ b, b < 13 → a ≠ b → (TX0 a).2.1 ≠ (TX0 b).2.1 := by decide +kernel
theorem tyX0_ok : ∀ k, k < 13 → parseFieldDescriptor (TX0 k).2.2.1 = some (tyX0 k) := by decide +kernel
abbrev cX0_init : ByteArray := prog_2_method_1_code
def yX0_init : MethodName := ⟨RX0, "<init>", "()V"⟩
abbrev cX0_takeOver : ByteArray := prog_2_method_2_code
def yX0_takeOver : MethodName := ⟨RX0, "takeOver", "(LCreaseLines$Closet;)V"⟩
abbrev cX0_hasLeg : ByteArray := prog_2_method_3_code
def yX0_hasLeg : MethodName := ⟨RX0, "hasLeg", "(I)Z"⟩
abbrev cX0_addLeg : ByteArray := prog_2_method_4_code
def yX0_addLeg : MethodName := ⟨RX0, "addLeg", "(III)V"⟩
abbrev cX0_addText : ByteArray := prog_2_method_5_code
def yX0_addText : MethodName := ⟨RX0, "addText", "(LCreaseLines$Text;)V"⟩
abbrev cX0_draw : ByteArray := prog_2_method_6_code
def yX0_draw : MethodName := ⟨RX0, "draw", "()I"⟩
abbrev cX0_daysLeft : ByteArray := prog_2_method_7_code
def yX0_daysLeft : MethodName := ⟨RX0, "daysLeft", "(I)I"⟩
abbrev cX0_passDays : ByteArray := prog_2_method_8_code
def yX0_passDays : MethodName := ⟨RX0, "passDays", "(I)V"⟩
abbrev cX0_passDay : ByteArray := prog_2_method_9_code
def yX0_passDay : MethodName := ⟨RX0, "passDay", "()V"⟩
abbrev cX0_wear : ByteArray := prog_2_method_10_code
def yX0_wear : MethodName := ⟨RX0, "wear", "(I)V"⟩
abbrev cX0_soak : ByteArray := prog_2_method_11_code
def yX0_soak : MethodName := ⟨RX0, "soak", "(LCreaseLines$Leg;)V"⟩
abbrev cX0_press : ByteArray := prog_2_method_12_code
def yX0_press : MethodName := ⟨RX0, "press", "(LCreaseLines$Leg;I)Z"⟩
abbrev cX0_takenBy : ByteArray := prog_2_method_13_code
def yX0_takenBy : MethodName := ⟨RX0, "takenBy", "(LCreaseLines$Leg;)I"⟩
abbrev cX0_feeGiven : ByteArray := prog_2_method_14_code
def yX0_feeGiven : MethodName := ⟨RX0, "feeGiven", "()I"⟩
abbrev cX0_fineGiven : ByteArray := prog_2_method_15_code
def yX0_fineGiven : MethodName := ⟨RX0, "fineGiven", "(LCreaseLines$Leg;)I"⟩
abbrev cX0_lawOf : ByteArray := prog_2_method_16_code
def yX0_lawOf : MethodName := ⟨RX0, "lawOf", "(I)LCreaseLines$Text;"⟩
abbrev cX0_dullest : ByteArray := prog_2_method_17_code
def yX0_dullest : MethodName := ⟨RX0, "dullest", "()I"⟩
abbrev cX0_sharpOfAll : ByteArray := prog_2_method_18_code
def yX0_sharpOfAll : MethodName := ⟨RX0, "sharpOfAll", "()I"⟩
abbrev cX0_doubled : ByteArray := prog_2_method_19_code
def yX0_doubled : MethodName := ⟨RX0, "doubled", "()I"⟩
abbrev cX0_waxed : ByteArray := prog_2_method_20_code
def yX0_waxed : MethodName := ⟨RX0, "waxed", "()I"⟩
abbrev cX0_waxThese : ByteArray := prog_2_method_21_code
def yX0_waxThese : MethodName := ⟨RX0, "waxThese", "(I)V"⟩
abbrev cX0_hasDull : ByteArray := prog_2_method_22_code
def yX0_hasDull : MethodName := ⟨RX0, "hasDull", "()Z"⟩
def RX1 : String := "CreaseLines$Leg"
def TX1 : u_T := fun k => match k with
  | 0 => ("CreaseLines$Leg", "kind", "I", false)
  | 1 => ("CreaseLines$Leg", "place", "I", false)
  | 2 => ("CreaseLines$Leg", "sharp", "I", false)
  | 3 => ("CreaseLines$Leg", "tram", "I", false)
  | 4 => ("CreaseLines$Leg", "knee", "I", false)
  | _ => ("CreaseLines$Leg", "holds", "I", false)
def tyX1 : Nat → FieldType := fun k => match k with
  | 0 => .int
  | 1 => .int
  | 2 => .int
  | 3 => .int
  | 4 => .int
  | _ => .int
abbrev wsX10 : List Cond := u_ws RX1 TX1 6
theorem nmX1 : ∀ a, a < 6 → ∀ b, b < 6 → a ≠ b → (TX1 a).2.1 ≠ (TX1 b).2.1 := by decide +kernel
theorem tyX1_ok : ∀ k, k < 6 → parseFieldDescriptor (TX1 k).2.2.1 = some (tyX1 k) := by decide +kernel
abbrev cX1_init : ByteArray := prog_3_method_1_code
def yX1_init : MethodName := ⟨RX1, "<init>", "()V"⟩
abbrev cX1_begin : ByteArray := prog_3_method_2_code
def yX1_begin : MethodName := ⟨RX1, "begin", "(III)V"⟩
abbrev cX1_takeOver : ByteArray := prog_3_method_3_code
def yX1_takeOver : MethodName := ⟨RX1, "takeOver", "(LCreaseLines$Leg;)V"⟩
abbrev cX1_isOf : ByteArray := prog_3_method_4_code
def yX1_isOf : MethodName := ⟨RX1, "isOf", "(I)Z"⟩
abbrev cX1_takes : ByteArray := prog_3_method_5_code
def yX1_takes : MethodName := ⟨RX1, "takes", "(I)I"⟩
abbrev cX1_loses : ByteArray := prog_3_method_6_code
def yX1_loses : MethodName := ⟨RX1, "loses", "()I"⟩
abbrev cX1_bags : ByteArray := prog_3_method_7_code
def yX1_bags : MethodName := ⟨RX1, "bags", "()I"⟩
abbrev cX1_worth : ByteArray := prog_3_method_8_code
def yX1_worth : MethodName := ⟨RX1, "worth", "()I"⟩
def RX2 : String := "CreaseLines$Reader"
def TX2 : u_T := fun k => match k with
  | 0 => ("CreaseLines$Reader", "bytes", "[I", false)
  | 1 => ("CreaseLines$Reader", "length", "I", false)
  | 2 => ("CreaseLines$Reader", "sort", "I", false)
  | 3 => ("CreaseLines$Reader", "start", "I", false)
  | 4 => ("CreaseLines$Reader", "end", "I", false)
  | 5 => ("CreaseLines$Reader", "steps", "[I", true)
  | 6 => ("CreaseLines$Reader", "stepCount", "I", false)
  | 7 => ("CreaseLines$Reader", "pile", "[I", true)
  | 8 => ("CreaseLines$Reader", "pileHeight", "I", false)
  | 9 => ("CreaseLines$Reader", "compared", "[Z", true)
  | 10 => ("CreaseLines$Reader", "open", "I", false)
  | 11 => ("CreaseLines$Reader", "nots", "I", false)
  | 12 => ("CreaseLines$Reader", "wantsPiece", "Z", false)
  | 13 => ("CreaseLines$Reader", "key", "I", false)
  | _ => ("CreaseLines$Reader", "pieces", "I", false)
def tyX2 : Nat → FieldType := fun k => match k with
  | 0 => .array .int
  | 1 => .int
  | 2 => .int
  | 3 => .int
  | 4 => .int
  | 5 => .array .int
  | 6 => .int
  | 7 => .array .int
  | 8 => .int
  | 9 => .array .boolean
  | 10 => .int
  | 11 => .int
  | 12 => .boolean
  | 13 => .int
  | _ => .int
abbrev wsX20 : List Cond := u_ws RX2 TX2 15
theorem nmX2 : ∀ a, a < 15 → ∀ b, b < 15 → a ≠ b → (TX2 a).2.1 ≠ (TX2 b).2.1 := by decide +kernel
theorem tyX2_ok : ∀ k, k < 15 → parseFieldDescriptor (TX2 k).2.2.1 = some (tyX2 k) := by decide +kernel
abbrev cX2_init : ByteArray := prog_4_method_1_code
def yX2_init : MethodName := ⟨RX2, "<init>", "()V"⟩
abbrev cX2_faultOf : ByteArray := prog_4_method_2_code
def yX2_faultOf : MethodName := ⟨RX2, "faultOf", "([II)I"⟩
abbrev cX2_textRead : ByteArray := prog_4_method_3_code
def yX2_textRead : MethodName := ⟨RX2, "textRead", "()LCreaseLines$Text;"⟩
abbrev cX2_begin : ByteArray := prog_4_method_4_code
def yX2_begin : MethodName := ⟨RX2, "begin", "([II)V"⟩
abbrev cX2_isWhole : ByteArray := prog_4_method_5_code
def yX2_isWhole : MethodName := ⟨RX2, "isWhole", "()Z"⟩
abbrev cX2_nextWord : ByteArray := prog_4_method_6_code
def yX2_nextWord : MethodName := ⟨RX2, "nextWord", "()V"⟩
abbrev cX2_sortOf : ByteArray := prog_4_method_7_code
def yX2_sortOf : MethodName := ⟨RX2, "sortOf", "(I)I"⟩
abbrev cX2_keyOfWord : ByteArray := prog_4_method_8_code
def yX2_keyOfWord : MethodName := ⟨RX2, "keyOfWord", "()I"⟩
abbrev cX2_isWord : ByteArray := prog_4_method_9_code
def yX2_isWord : MethodName := ⟨RX2, "isWord", "(Ljava/lang/String;)Z"⟩
abbrev cX2_takesPiece : ByteArray := prog_4_method_10_code
def yX2_takesPiece : MethodName := ⟨RX2, "takesPiece", "()Z"⟩
abbrev cX2_takesNumber : ByteArray := prog_4_method_11_code
def yX2_takesNumber : MethodName := ⟨RX2, "takesNumber", "()Z"⟩
abbrev cX2_takesName : ByteArray := prog_4_method_12_code
def yX2_takesName : MethodName := ⟨RX2, "takesName", "()Z"⟩
abbrev cX2_namesOfKey : ByteArray := prog_4_method_13_code
def yX2_namesOfKey : MethodName := ⟨RX2, "namesOfKey", "()Ljava/lang/String;"⟩
abbrev cX2_takesOpening : ByteArray := prog_4_method_14_code
def yX2_takesOpening : MethodName := ⟨RX2, "takesOpening", "()Z"⟩
abbrev cX2_endLeaf : ByteArray := prog_4_method_15_code
def yX2_endLeaf : MethodName := ⟨RX2, "endLeaf", "(I)V"⟩
abbrev cX2_endPiece : ByteArray := prog_4_method_16_code
def yX2_endPiece : MethodName := ⟨RX2, "endPiece", "()V"⟩
abbrev cX2_takesSign : ByteArray := prog_4_method_17_code
def yX2_takesSign : MethodName := ⟨RX2, "takesSign", "()Z"⟩
abbrev cX2_takesClosing : ByteArray := prog_4_method_18_code
def yX2_takesClosing : MethodName := ⟨RX2, "takesClosing", "()Z"⟩
abbrev cX2_strengthOf : ByteArray := prog_4_method_19_code
def yX2_strengthOf : MethodName := ⟨RX2, "strengthOf", "(I)I"⟩
abbrev cX2_unpile : ByteArray := prog_4_method_20_code
def yX2_unpile : MethodName := ⟨RX2, "unpile", "(I)V"⟩
abbrev cX2_putOnPile : ByteArray := prog_4_method_21_code
def yX2_putOnPile : MethodName := ⟨RX2, "putOnPile", "(I)V"⟩
abbrev cX2_addStep : ByteArray := prog_4_method_22_code
def yX2_addStep : MethodName := ⟨RX2, "addStep", "(I)V"⟩
def RX3 : String := "CreaseLines$Sheet"
def TX3 : u_T := fun k => match k with
  | 0 => ("CreaseLines$Sheet", "sort", "I", false)
  | 1 => ("CreaseLines$Sheet", "size", "I", false)
  | _ => ("CreaseLines$Sheet", "places", "[I", true)
def tyX3 : Nat → FieldType := fun k => match k with
  | 0 => .int
  | 1 => .int
  | _ => .array .int
abbrev wsX30 : List Cond := u_ws RX3 TX3 3
theorem nmX3 : ∀ a, a < 3 → ∀ b, b < 3 → a ≠ b → (TX3 a).2.1 ≠ (TX3 b).2.1 := by decide +kernel
theorem tyX3_ok : ∀ k, k < 3 → parseFieldDescriptor (TX3 k).2.2.1 = some (tyX3 k) := by decide +kernel
abbrev cX3_init : ByteArray := prog_5_method_1_code
def yX3_init : MethodName := ⟨RX3, "<init>", "()V"⟩
abbrev cX3_begin : ByteArray := prog_5_method_2_code
def yX3_begin : MethodName := ⟨RX3, "begin", "(II)V"⟩
abbrev cX3_takeOver : ByteArray := prog_5_method_3_code
def yX3_takeOver : MethodName := ⟨RX3, "takeOver", "(LCreaseLines$Sheet;)V"⟩
abbrev cX3_isMissing : ByteArray := prog_5_method_4_code
def yX3_isMissing : MethodName := ⟨RX3, "isMissing", "()Z"⟩
abbrev cX3_hasPlace : ByteArray := prog_5_method_5_code
def yX3_hasPlace : MethodName := ⟨RX3, "hasPlace", "(I)Z"⟩
abbrev cX3_hasPlaces : ByteArray := prog_5_method_6_code
def yX3_hasPlaces : MethodName := ⟨RX3, "hasPlaces", "(II)Z"⟩
abbrev cX3_isNumber : ByteArray := prog_5_method_7_code
def yX3_isNumber : MethodName := ⟨RX3, "isNumber", "(I)Z"⟩
def RX4 : String := "CreaseLines$Slot"
def TX4 : u_T := fun k => match k with
  | 0 => ("CreaseLines$Slot", "thing", "I", false)
  | 1 => ("CreaseLines$Slot", "leg", "LCreaseLines$Leg;", true)
  | 2 => ("CreaseLines$Slot", "row", "LCreaseLines$Sheet;", true)
  | _ => ("CreaseLines$Slot", "number", "I", false)
def tyX4 : Nat → FieldType := fun k => match k with
  | 0 => .int
  | 1 => .object "CreaseLines$Leg"
  | 2 => .object "CreaseLines$Sheet"
  | _ => .int
abbrev wsX40 : List Cond := u_ws RX4 TX4 4
theorem nmX4 : ∀ a, a < 4 → ∀ b, b < 4 → a ≠ b → (TX4 a).2.1 ≠ (TX4 b).2.1 := by decide +kernel
theorem tyX4_ok : ∀ k, k < 4 → parseFieldDescriptor (TX4 k).2.2.1 = some (tyX4 k) := by decide +kernel
abbrev cX4_init : ByteArray := prog_6_method_1_code
def yX4_init : MethodName := ⟨RX4, "<init>", "()V"⟩
def RX5 : String := "CreaseLines$Text"
def TX5 : u_T := fun k => match k with
  | 0 => ("CreaseLines$Text", "key", "I", true)
  | 1 => ("CreaseLines$Text", "pieces", "I", true)
  | _ => ("CreaseLines$Text", "steps", "[I", true)
def tyX5 : Nat → FieldType := fun k => match k with
  | 0 => .int
  | 1 => .int
  | _ => .array .int
abbrev wsX50 : List Cond := u_ws RX5 TX5 3
theorem nmX5 : ∀ a, a < 3 → ∀ b, b < 3 → a ≠ b → (TX5 a).2.1 ≠ (TX5 b).2.1 := by decide +kernel
theorem tyX5_ok : ∀ k, k < 3 → parseFieldDescriptor (TX5 k).2.2.1 = some (tyX5 k) := by decide +kernel
abbrev cX5_init : ByteArray := prog_7_method_1_code
def yX5_init : MethodName := ⟨RX5, "<init>", "(II[I)V"⟩
abbrev cX5_value : ByteArray := prog_7_method_2_code
def yX5_value : MethodName := ⟨RX5, "value", "([I[I)I"⟩
abbrev cX5_joined : ByteArray := prog_7_method_3_code
def yX5_joined : MethodName := ⟨RX5, "joined", "(III)I"⟩
def RX6 : String := "CreaseLines"
def TX6 : u_T := fun k => match k with
  | 0 => ("CreaseLines", "now", "LCreaseLines$Closet;", true)
  | 1 => ("CreaseLines", "image", "LCreaseLines$Closet;", true)
  | 2 => ("CreaseLines", "thought", "LCreaseLines$Closet;", true)
  | 3 => ("CreaseLines", "imageKept", "Z", false)
  | 4 => ("CreaseLines", "differs", "[I", true)
  | 5 => ("CreaseLines", "tape", "[I", true)
  | 6 => ("CreaseLines", "tapeLength", "I", false)
  | 7 => ("CreaseLines", "reader", "LCreaseLines$Reader;", true)
  | 8 => ("CreaseLines", "sheets", "[LCreaseLines$Sheet;", true)
  | 9 => ("CreaseLines", "slots", "[LCreaseLines$Slot;", true)
  | 10 => ("CreaseLines", "waiting", "[I", true)
  | _ => ("CreaseLines", "waitingCount", "I", false)
def tyX6 : Nat → FieldType := fun k => match k with
  | 0 => .object "CreaseLines$Closet"
  | 1 => .object "CreaseLines$Closet"
  | 2 => .object "CreaseLines$Closet"
  | 3 => .boolean
  | 4 => .array .int
  | 5 => .array .int
  | 6 => .int
  | 7 => .object "CreaseLines$Reader"
  | 8 => .array (.object "CreaseLines$Sheet")
  | 9 => .array (.object "CreaseLines$Slot")
  | 10 => .array .int
  | _ => .int
abbrev wsX60 : List Cond := u_ws RX6 TX6 12
theorem nmX6 : ∀ a, a < 12 → ∀ b, b < 12 → a ≠ b → (TX6 a).2.1 ≠ (TX6 b).2.1 := by decide +kernel
theorem tyX6_ok : ∀ k, k < 12 → parseFieldDescriptor (TX6 k).2.2.1 = some (tyX6 k) := by decide +kernel
abbrev cX6_init : ByteArray := prog_1_method_1_code
def yX6_init : MethodName := ⟨RX6, "<init>", "()V"⟩
abbrev cX6_leg : ByteArray := prog_1_method_2_code
def yX6_leg : MethodName := ⟨RX6, "leg", "(III)I"⟩
abbrev cX6_told : ByteArray := prog_1_method_3_code
def yX6_told : MethodName := ⟨RX6, "told", "(II)I"⟩
abbrev cX6_as : ByteArray := prog_1_method_4_code
def yX6_as : MethodName := ⟨RX6, "as", "(II)I"⟩
abbrev cX6_turns : ByteArray := prog_1_method_5_code
def yX6_turns : MethodName := ⟨RX6, "turns", "(II)I"⟩
abbrev cX6_set : ByteArray := prog_1_method_6_code
def yX6_set : MethodName := ⟨RX6, "set", "(III)I"⟩
abbrev cX6_mostOf : ByteArray := prog_1_method_7_code
def yX6_mostOf : MethodName := ⟨RX6, "mostOf", "(I)I"⟩
abbrev cX6_irons : ByteArray := prog_1_method_8_code
def yX6_irons : MethodName := ⟨RX6, "irons", "(II)I"⟩
abbrev cX6_rule : ByteArray := prog_1_method_9_code
def yX6_rule : MethodName := ⟨RX6, "rule", "(II)I"⟩
abbrev cX6_deal : ByteArray := prog_1_method_10_code
def yX6_deal : MethodName := ⟨RX6, "deal", "(I)I"⟩
abbrev cX6_seed : ByteArray := prog_1_method_11_code
def yX6_seed : MethodName := ⟨RX6, "seed", "(I)I"⟩
abbrev cX6_days : ByteArray := prog_1_method_12_code
def yX6_days : MethodName := ⟨RX6, "days", "(I)I"⟩
abbrev cX6_closet : ByteArray := prog_1_method_13_code
def yX6_closet : MethodName := ⟨RX6, "closet", "(I)I"⟩
abbrev cX6_behind : ByteArray := prog_1_method_14_code
def yX6_behind : MethodName := ⟨RX6, "behind", "(II)I"⟩
abbrev cX6_dulls : ByteArray := prog_1_method_15_code
def yX6_dulls : MethodName := ⟨RX6, "dulls", "(II)I"⟩
abbrev cX6_doubles : ByteArray := prog_1_method_16_code
def yX6_doubles : MethodName := ⟨RX6, "doubles", "(I)I"⟩
abbrev cX6_wax : ByteArray := prog_1_method_17_code
def yX6_wax : MethodName := ⟨RX6, "wax", "(I)I"⟩
abbrev cX6_iron : ByteArray := prog_1_method_18_code
def yX6_iron : MethodName := ⟨RX6, "iron", "(II)I"⟩
abbrev cX6_first : ByteArray := prog_1_method_19_code
def yX6_first : MethodName := ⟨RX6, "first", "(II)I"⟩
abbrev cX6_becomes : ByteArray := prog_1_method_20_code
def yX6_becomes : MethodName := ⟨RX6, "becomes", "(III)I"⟩
abbrev cX6_like : ByteArray := prog_1_method_21_code
def yX6_like : MethodName := ⟨RX6, "like", "(II)I"⟩
abbrev cX6_sumDifferences : ByteArray := prog_1_method_22_code
def yX6_sumDifferences : MethodName := ⟨RX6, "sumDifferences", "(LCreaseLines$Sheet;)V"⟩
abbrev cX6_fee : ByteArray := prog_1_method_23_code
def yX6_fee : MethodName := ⟨RX6, "fee", "()I"⟩
abbrev cX6_fine : ByteArray := prog_1_method_24_code
def yX6_fine : MethodName := ⟨RX6, "fine", "(I)I"⟩
abbrev cX6_feed : ByteArray := prog_1_method_25_code
def yX6_feed : MethodName := ⟨RX6, "feed", "(III)I"⟩
abbrev cX6_feedFour : ByteArray := prog_1_method_26_code
def yX6_feedFour : MethodName := ⟨RX6, "feedFour", "(I)V"⟩
abbrev cX6_trim : ByteArray := prog_1_method_27_code
def yX6_trim : MethodName := ⟨RX6, "trim", "(I)I"⟩
abbrev cX6_text : ByteArray := prog_1_method_28_code
def yX6_text : MethodName := ⟨RX6, "text", "()I"⟩
abbrev cX6_textTold : ByteArray := prog_1_method_29_code
def yX6_textTold : MethodName := ⟨RX6, "textTold", "(II)I"⟩
abbrev cX6_why : ByteArray := prog_1_method_30_code
def yX6_why : MethodName := ⟨RX6, "why", "(I)I"⟩
abbrev cX6_sheet : ByteArray := prog_1_method_31_code
def yX6_sheet : MethodName := ⟨RX6, "sheet", "(III)I"⟩
abbrev cX6_mark : ByteArray := prog_1_method_32_code
def yX6_mark : MethodName := ⟨RX6, "mark", "(III)I"⟩
abbrev cX6_pour : ByteArray := prog_1_method_33_code
def yX6_pour : MethodName := ⟨RX6, "pour", "(I)I"⟩
abbrev cX6_reads : ByteArray := prog_1_method_34_code
def yX6_reads : MethodName := ⟨RX6, "reads", "(I)I"⟩
abbrev cX6_copy : ByteArray := prog_1_method_35_code
def yX6_copy : MethodName := ⟨RX6, "copy", "(IIIII)I"⟩
abbrev cX6_lay : ByteArray := prog_1_method_36_code
def yX6_lay : MethodName := ⟨RX6, "lay", "(III)I"⟩
abbrev cX6_ask : ByteArray := prog_1_method_37_code
def yX6_ask : MethodName := ⟨RX6, "ask", "(II)I"⟩
abbrev cX6_item : ByteArray := prog_1_method_38_code
def yX6_item : MethodName := ⟨RX6, "item", "(II)I"⟩
abbrev cX6_rest : ByteArray := prog_1_method_39_code
def yX6_rest : MethodName := ⟨RX6, "rest", "(II)I"⟩
abbrev cX6_tell : ByteArray := prog_1_method_40_code
def yX6_tell : MethodName := ⟨RX6, "tell", "(I)I"⟩
abbrev cX6_check : ByteArray := prog_1_method_41_code
def yX6_check : MethodName := ⟨RX6, "check", "(I)I"⟩
abbrev cX6_keep : ByteArray := prog_1_method_42_code
def yX6_keep : MethodName := ⟨RX6, "keep", "()I"⟩
abbrev cX6_back : ByteArray := prog_1_method_43_code
def yX6_back : MethodName := ⟨RX6, "back", "()I"⟩
abbrev cX6_count : ByteArray := prog_1_method_44_code
def yX6_count : MethodName := ⟨RX6, "count", "(I)I"⟩
abbrev cX6_beginThought : ByteArray := prog_1_method_45_code
def yX6_beginThought : MethodName := ⟨RX6, "beginThought", "()LCreaseLines$Closet;"⟩
abbrev cX6_isWithin : ByteArray := prog_1_method_46_code
def yX6_isWithin : MethodName := ⟨RX6, "isWithin", "(III)Z"⟩
abbrev cX6_isKind : ByteArray := prog_1_method_47_code
def yX6_isKind : MethodName := ⟨RX6, "isKind", "(I)Z"⟩
abbrev cX6_isSheet : ByteArray := prog_1_method_48_code
def yX6_isSheet : MethodName := ⟨RX6, "isSheet", "(I)Z"⟩
abbrev cX6_isSlot : ByteArray := prog_1_method_49_code
def yX6_isSlot : MethodName := ⟨RX6, "isSlot", "(I)Z"⟩
abbrev cX6_heldWithin : ByteArray := prog_1_method_50_code
def yX6_heldWithin : MethodName := ⟨RX6, "heldWithin", "(I)I"⟩
def RX7 : String := "CreaseLinesModel"
def TX7 : u_T := fun k => match k with
  | 0 => ("CreaseLinesModel", "now", "[I", true)
  | 1 => ("CreaseLinesModel", "image", "[I", true)
  | 2 => ("CreaseLinesModel", "aside", "[I", true)
  | 3 => ("CreaseLinesModel", "hasImage", "Z", false)
  | 4 => ("CreaseLinesModel", "unlike", "[I", true)
  | 5 => ("CreaseLinesModel", "tape", "[I", true)
  | 6 => ("CreaseLinesModel", "taped", "I", false)
  | 7 => ("CreaseLinesModel", "next", "I", false)
  | 8 => ("CreaseLinesModel", "from", "I", false)
  | 9 => ("CreaseLinesModel", "token", "I", false)
  | 10 => ("CreaseLinesModel", "value", "I", false)
  | 11 => ("CreaseLinesModel", "ended", "I", false)
  | 12 => ("CreaseLinesModel", "key", "I", false)
  | 13 => ("CreaseLinesModel", "keys", "[C", true)
  | 14 => ("CreaseLinesModel", "keyAt", "[I", true)
  | 15 => ("CreaseLinesModel", "code", "[I", true)
  | 16 => ("CreaseLinesModel", "codes", "I", false)
  | 17 => ("CreaseLinesModel", "atoms", "I", false)
  | 18 => ("CreaseLinesModel", "waits", "[I", true)
  | 19 => ("CreaseLinesModel", "held", "I", false)
  | 20 => ("CreaseLinesModel", "tested", "[Z", true)
  | 21 => ("CreaseLinesModel", "stack", "[I", true)
  | 22 => ("CreaseLinesModel", "facts", "[I", true)
  | 23 => ("CreaseLinesModel", "sorts", "[I", true)
  | 24 => ("CreaseLinesModel", "sizes", "[I", true)
  | 25 => ("CreaseLinesModel", "cells", "[I", true)
  | 26 => ("CreaseLinesModel", "holds", "[I", true)
  | 27 => ("CreaseLinesModel", "holdsA", "[I", true)
  | 28 => ("CreaseLinesModel", "holdsB", "[I", true)
  | 29 => ("CreaseLinesModel", "heldCells", "[I", true)
  | 30 => ("CreaseLinesModel", "moved", "[I", true)
  | 31 => ("CreaseLinesModel", "tells", "[I", true)
  | _ => ("CreaseLinesModel", "waiting", "I", false)
def tyX7 : Nat → FieldType := fun k => match k with
  | 0 => .array .int
  | 1 => .array .int
  | 2 => .array .int
  | 3 => .boolean
  | 4 => .array .int
  | 5 => .array .int
  | 6 => .int
  | 7 => .int
  | 8 => .int
  | 9 => .int
  | 10 => .int
  | 11 => .int
  | 12 => .int
  | 13 => .array .char
  | 14 => .array .int
  | 15 => .array .int
  | 16 => .int
  | 17 => .int
  | 18 => .array .int
  | 19 => .int
  | 20 => .array .boolean
  | 21 => .array .int
  | 22 => .array .int
  | 23 => .array .int
  | 24 => .array .int
  | 25 => .array .int
  | 26 => .array .int
  | 27 => .array .int
  | 28 => .array .int
  | 29 => .array .int
  | 30 => .array .int
  | 31 => .array .int
  | _ => .int
abbrev wsX70 : List Cond := u_ws RX7 TX7 33
theorem nmX7 : ∀ a, a < 33 → ∀ b, b < 33 → a ≠ b → (TX7 a).2.1 ≠ (TX7 b).2.1 := by decide +kernel
theorem tyX7_ok : ∀ k, k < 33 → parseFieldDescriptor (TX7 k).2.2.1 = some (tyX7 k) := by decide +kernel
abbrev cX7_init : ByteArray := prog_9_method_1_code
def yX7_init : MethodName := ⟨RX7, "<init>", "()V"⟩
abbrev cX7_in : ByteArray := prog_9_method_2_code
def yX7_in : MethodName := ⟨RX7, "in", "(III)Z"⟩
abbrev cX7_within : ByteArray := prog_9_method_3_code
def yX7_within : MethodName := ⟨RX7, "within", "(III)I"⟩
abbrev cX7_copyAll : ByteArray := prog_9_method_4_code
def yX7_copyAll : MethodName := ⟨RX7, "copyAll", "([I[I)V"⟩
abbrev cX7_bits : ByteArray := prog_9_method_5_code
def yX7_bits : MethodName := ⟨RX7, "bits", "(I)I"⟩
abbrev cX7_isLeg : ByteArray := prog_9_method_6_code
def yX7_isLeg : MethodName := ⟨RX7, "isLeg", "(I)Z"⟩
abbrev cX7_of : ByteArray := prog_9_method_7_code
def yX7_of : MethodName := ⟨RX7, "of", "(II)I"⟩
abbrev cX7_put : ByteArray := prog_9_method_8_code
def yX7_put : MethodName := ⟨RX7, "put", "(III)V"⟩
abbrev cX7_swaps : ByteArray := prog_9_method_9_code
def yX7_swaps : MethodName := ⟨RX7, "swaps", "(II)I"⟩
abbrev cX7_off : ByteArray := prog_9_method_10_code
def yX7_off : MethodName := ⟨RX7, "off", "(I)I"⟩
abbrev cX7_plainPress : ByteArray := prog_9_method_11_code
def yX7_plainPress : MethodName := ⟨RX7, "plainPress", "(I)I"⟩
abbrev cX7_takesBy : ByteArray := prog_9_method_12_code
def yX7_takesBy : MethodName := ⟨RX7, "takesBy", "(I)I"⟩
abbrev cX7_losesOf : ByteArray := prog_9_method_13_code
def yX7_losesOf : MethodName := ⟨RX7, "losesOf", "(I)I"⟩
abbrev cX7_bagsOf : ByteArray := prog_9_method_14_code
def yX7_bagsOf : MethodName := ⟨RX7, "bagsOf", "(I)I"⟩
abbrev cX7_worthOf : ByteArray := prog_9_method_15_code
def yX7_worthOf : MethodName := ⟨RX7, "worthOf", "(I)I"⟩
abbrev cX7_comes : ByteArray := prog_9_method_16_code
def yX7_comes : MethodName := ⟨RX7, "comes", "(III)I"⟩
abbrev cX7_leg : ByteArray := prog_9_method_17_code
def yX7_leg : MethodName := ⟨RX7, "leg", "(III)I"⟩
abbrev cX7_told : ByteArray := prog_9_method_18_code
def yX7_told : MethodName := ⟨RX7, "told", "(II)I"⟩
abbrev cX7_isUnder : ByteArray := prog_9_method_19_code
def yX7_isUnder : MethodName := ⟨RX7, "isUnder", "(II)Z"⟩
abbrev cX7_as : ByteArray := prog_9_method_20_code
def yX7_as : MethodName := ⟨RX7, "as", "(II)I"⟩
abbrev cX7_turns : ByteArray := prog_9_method_21_code
def yX7_turns : MethodName := ⟨RX7, "turns", "(II)I"⟩
abbrev cX7_set : ByteArray := prog_9_method_22_code
def yX7_set : MethodName := ⟨RX7, "set", "(III)I"⟩
abbrev cX7_presses : ByteArray := prog_9_method_23_code
def yX7_presses : MethodName := ⟨RX7, "presses", "(II)I"⟩
abbrev cX7_irons : ByteArray := prog_9_method_24_code
def yX7_irons : MethodName := ⟨RX7, "irons", "(II)I"⟩
abbrev cX7_rule : ByteArray := prog_9_method_25_code
def yX7_rule : MethodName := ⟨RX7, "rule", "(II)I"⟩
abbrev cX7_draw : ByteArray := prog_9_method_26_code
def yX7_draw : MethodName := ⟨RX7, "draw", "()I"⟩
abbrev cX7_deal : ByteArray := prog_9_method_27_code
def yX7_deal : MethodName := ⟨RX7, "deal", "(I)I"⟩
abbrev cX7_seed : ByteArray := prog_9_method_28_code
def yX7_seed : MethodName := ⟨RX7, "seed", "(I)I"⟩
abbrev cX7_dullest : ByteArray := prog_9_method_29_code
def yX7_dullest : MethodName := ⟨RX7, "dullest", "()I"⟩
abbrev cX7_isWorn : ByteArray := prog_9_method_30_code
def yX7_isWorn : MethodName := ⟨RX7, "isWorn", "(I)V"⟩
abbrev cX7_day : ByteArray := prog_9_method_31_code
def yX7_day : MethodName := ⟨RX7, "day", "()V"⟩
abbrev cX7_goesOn : ByteArray := prog_9_method_32_code
def yX7_goesOn : MethodName := ⟨RX7, "goesOn", "(I)V"⟩
abbrev cX7_days : ByteArray := prog_9_method_33_code
def yX7_days : MethodName := ⟨RX7, "days", "(I)I"⟩
abbrev cX7_allSharp : ByteArray := prog_9_method_34_code
def yX7_allSharp : MethodName := ⟨RX7, "allSharp", "()I"⟩
abbrev cX7_doubled : ByteArray := prog_9_method_35_code
def yX7_doubled : MethodName := ⟨RX7, "doubled", "()I"⟩
abbrev cX7_closet : ByteArray := prog_9_method_36_code
def yX7_closet : MethodName := ⟨RX7, "closet", "(I)I"⟩
abbrev cX7_thinks : ByteArray := prog_9_method_37_code
def yX7_thinks : MethodName := ⟨RX7, "thinks", "()V"⟩
abbrev cX7_putsBack : ByteArray := prog_9_method_38_code
def yX7_putsBack : MethodName := ⟨RX7, "putsBack", "()V"⟩
abbrev cX7_behind : ByteArray := prog_9_method_39_code
def yX7_behind : MethodName := ⟨RX7, "behind", "(II)I"⟩
abbrev cX7_dulls : ByteArray := prog_9_method_40_code
def yX7_dulls : MethodName := ⟨RX7, "dulls", "(II)I"⟩
abbrev cX7_doubles : ByteArray := prog_9_method_41_code
def yX7_doubles : MethodName := ⟨RX7, "doubles", "(I)I"⟩
abbrev cX7_isCaredFor : ByteArray := prog_9_method_42_code
def yX7_isCaredFor : MethodName := ⟨RX7, "isCaredFor", "(II)Z"⟩
abbrev cX7_wax : ByteArray := prog_9_method_43_code
def yX7_wax : MethodName := ⟨RX7, "wax", "(I)I"⟩
abbrev cX7_sharpOn : ByteArray := prog_9_method_44_code
def yX7_sharpOn : MethodName := ⟨RX7, "sharpOn", "(I)I"⟩
abbrev cX7_iron : ByteArray := prog_9_method_45_code
def yX7_iron : MethodName := ⟨RX7, "iron", "(II)I"⟩
abbrev cX7_first : ByteArray := prog_9_method_46_code
def yX7_first : MethodName := ⟨RX7, "first", "(II)I"⟩
abbrev cX7_becomes : ByteArray := prog_9_method_47_code
def yX7_becomes : MethodName := ⟨RX7, "becomes", "(III)I"⟩
abbrev cX7_like : ByteArray := prog_9_method_48_code
def yX7_like : MethodName := ⟨RX7, "like", "(II)I"⟩
abbrev cX7_fee : ByteArray := prog_9_method_49_code
def yX7_fee : MethodName := ⟨RX7, "fee", "()I"⟩
abbrev cX7_fine : ByteArray := prog_9_method_50_code
def yX7_fine : MethodName := ⟨RX7, "fine", "(I)I"⟩
abbrev cX7_feed : ByteArray := prog_9_method_51_code
def yX7_feed : MethodName := ⟨RX7, "feed", "(III)I"⟩
abbrev cX7_trim : ByteArray := prog_9_method_52_code
def yX7_trim : MethodName := ⟨RX7, "trim", "(I)I"⟩
abbrev cX7_isLetter : ByteArray := prog_9_method_53_code
def yX7_isLetter : MethodName := ⟨RX7, "isLetter", "(I)Z"⟩
abbrev cX7_isFigure : ByteArray := prog_9_method_54_code
def yX7_isFigure : MethodName := ⟨RX7, "isFigure", "(I)Z"⟩
abbrev cX7_go : ByteArray := prog_9_method_55_code
def yX7_go : MethodName := ⟨RX7, "go", "()V"⟩
abbrev cX7_takesKey : ByteArray := prog_9_method_56_code
def yX7_takesKey : MethodName := ⟨RX7, "takesKey", "()Z"⟩
abbrev cX7_nameOf : ByteArray := prog_9_method_57_code
def yX7_nameOf : MethodName := ⟨RX7, "nameOf", "(I)I"⟩
abbrev cX7_rank : ByteArray := prog_9_method_58_code
def yX7_rank : MethodName := ⟨RX7, "rank", "(I)I"⟩
abbrev cX7_settle : ByteArray := prog_9_method_59_code
def yX7_settle : MethodName := ⟨RX7, "settle", "(I)V"⟩
abbrev cX7_signHere : ByteArray := prog_9_method_60_code
def yX7_signHere : MethodName := ⟨RX7, "signHere", "()I"⟩
abbrev cX7_takesPart : ByteArray := prog_9_method_61_code
def yX7_takesPart : MethodName := ⟨RX7, "takesPart", "()Z"⟩
abbrev cX7_takesE : ByteArray := prog_9_method_62_code
def yX7_takesE : MethodName := ⟨RX7, "takesE", "()Z"⟩
abbrev cX7_notsOpen : ByteArray := prog_9_method_63_code
def yX7_notsOpen : MethodName := ⟨RX7, "notsOpen", "()I"⟩
abbrev cX7_text : ByteArray := prog_9_method_64_code
def yX7_text : MethodName := ⟨RX7, "text", "()I"⟩
abbrev cX7_textTold : ByteArray := prog_9_method_65_code
def yX7_textTold : MethodName := ⟨RX7, "textTold", "(II)I"⟩
abbrev cX7_counts : ByteArray := prog_9_method_66_code
def yX7_counts : MethodName := ⟨RX7, "counts", "(I)I"⟩
abbrev cX7_why : ByteArray := prog_9_method_67_code
def yX7_why : MethodName := ⟨RX7, "why", "(I)I"⟩
abbrev cX7_two : ByteArray := prog_9_method_68_code
def yX7_two : MethodName := ⟨RX7, "two", "(III)I"⟩
abbrev cX7_worksOut : ByteArray := prog_9_method_69_code
def yX7_worksOut : MethodName := ⟨RX7, "worksOut", "(I)I"⟩
abbrev cX7_isSheet : ByteArray := prog_9_method_70_code
def yX7_isSheet : MethodName := ⟨RX7, "isSheet", "(I)Z"⟩
abbrev cX7_isSlot : ByteArray := prog_9_method_71_code
def yX7_isSlot : MethodName := ⟨RX7, "isSlot", "(I)Z"⟩
abbrev cX7_sheet : ByteArray := prog_9_method_72_code
def yX7_sheet : MethodName := ⟨RX7, "sheet", "(III)I"⟩
abbrev cX7_mark : ByteArray := prog_9_method_73_code
def yX7_mark : MethodName := ⟨RX7, "mark", "(III)I"⟩
abbrev cX7_pour : ByteArray := prog_9_method_74_code
def yX7_pour : MethodName := ⟨RX7, "pour", "(I)I"⟩
abbrev cX7_reads : ByteArray := prog_9_method_75_code
def yX7_reads : MethodName := ⟨RX7, "reads", "(I)I"⟩
abbrev cX7_copy : ByteArray := prog_9_method_76_code
def yX7_copy : MethodName := ⟨RX7, "copy", "(IIIII)I"⟩
abbrev cX7_lay : ByteArray := prog_9_method_77_code
def yX7_lay : MethodName := ⟨RX7, "lay", "(III)I"⟩
abbrev cX7_ask : ByteArray := prog_9_method_78_code
def yX7_ask : MethodName := ⟨RX7, "ask", "(II)I"⟩
abbrev cX7_item : ByteArray := prog_9_method_79_code
def yX7_item : MethodName := ⟨RX7, "item", "(II)I"⟩
abbrev cX7_rest : ByteArray := prog_9_method_80_code
def yX7_rest : MethodName := ⟨RX7, "rest", "(II)I"⟩
abbrev cX7_tell : ByteArray := prog_9_method_81_code
def yX7_tell : MethodName := ⟨RX7, "tell", "(I)I"⟩
abbrev cX7_check : ByteArray := prog_9_method_82_code
def yX7_check : MethodName := ⟨RX7, "check", "(I)I"⟩
abbrev cX7_keep : ByteArray := prog_9_method_83_code
def yX7_keep : MethodName := ⟨RX7, "keep", "()I"⟩
abbrev cX7_back : ByteArray := prog_9_method_84_code
def yX7_back : MethodName := ⟨RX7, "back", "()I"⟩
abbrev cX7_count : ByteArray := prog_9_method_85_code
def yX7_count : MethodName := ⟨RX7, "count", "(I)I"⟩
def RJ11 : String := "java/lang/Character"
def TJ11 : u_T := fun k => match k with
  | _ => ("", "", "", false)
def tyJ11 : Nat → FieldType := fun k => match k with
  | _ => .int
abbrev wsJ110 : List Cond := u_ws RJ11 TJ11 0
theorem nmJ11 : ∀ a, a < 0 → ∀ b, b < 0 → a ≠ b → (TJ11 a).2.1 ≠ (TJ11 b).2.1 := by decide +kernel
theorem tyJ11_ok : ∀ k, k < 0 → parseFieldDescriptor (TJ11 k).2.2.1 = some (tyJ11 k) := by decide +kernel
abbrev cJ11_isValidCodePoint_9a6ad : ByteArray := prog_10_method_11_code
def yJ11_isValidCodePoint_9a6ad : MethodName := ⟨RJ11, "isValidCodePoint", "(I)Z"⟩
abbrev cJ11_highSurrogate_5068e : ByteArray := prog_10_method_28_code
def yJ11_highSurrogate_5068e : MethodName := ⟨RJ11, "highSurrogate", "(I)C"⟩
abbrev cJ11_lowSurrogate_5068e : ByteArray := prog_10_method_29_code
def yJ11_lowSurrogate_5068e : MethodName := ⟨RJ11, "lowSurrogate", "(I)C"⟩
def RJ6 : String := "java/lang/Integer"
def TJ6 : u_T := fun k => match k with
  | _ => ("", "", "", false)
def tyJ6 : Nat → FieldType := fun k => match k with
  | _ => .int
abbrev wsJ60 : List Cond := u_ws RJ6 TJ6 0
theorem nmJ6 : ∀ a, a < 0 → ∀ b, b < 0 → a ≠ b → (TJ6 a).2.1 ≠ (TJ6 b).2.1 := by decide +kernel
theorem tyJ6_ok : ∀ k, k < 0 → parseFieldDescriptor (TJ6 k).2.2.1 = some (tyJ6 k) := by decide +kernel
abbrev cJ6_bitCount_0f7a4 : ByteArray := prog_12_method_49_code
def yJ6_bitCount_0f7a4 : MethodName := ⟨RJ6, "bitCount", "(I)I"⟩
def RJ9 : String := "java/lang/Math"
def TJ9 : u_T := fun k => match k with
  | _ => ("", "", "", false)
def tyJ9 : Nat → FieldType := fun k => match k with
  | _ => .int
abbrev wsJ90 : List Cond := u_ws RJ9 TJ9 0
theorem nmJ9 : ∀ a, a < 0 → ∀ b, b < 0 → a ≠ b → (TJ9 a).2.1 ≠ (TJ9 b).2.1 := by decide +kernel
theorem tyJ9_ok : ∀ k, k < 0 → parseFieldDescriptor (TJ9 k).2.2.1 = some (tyJ9 k) := by decide +kernel
abbrev cJ9_floorMod_7cf53 : ByteArray := prog_13_method_50_code
def yJ9_floorMod_7cf53 : MethodName := ⟨RJ9, "floorMod", "(II)I"⟩
abbrev cJ9_abs_0f7a4 : ByteArray := prog_13_method_59_code
def yJ9_abs_0f7a4 : MethodName := ⟨RJ9, "abs", "(I)I"⟩
abbrev cJ9_max_7cf53 : ByteArray := prog_13_method_65_code
def yJ9_max_7cf53 : MethodName := ⟨RJ9, "max", "(II)I"⟩
abbrev cJ9_min_7cf53 : ByteArray := prog_13_method_69_code
def yJ9_min_7cf53 : MethodName := ⟨RJ9, "min", "(II)I"⟩
def RJ0 : String := "java/lang/String"
def TJ0 : u_T := fun k => match k with
  | _ => ("", "", "", false)
def tyJ0 : Nat → FieldType := fun k => match k with
  | _ => .int
abbrev wsJ00 : List Cond := u_ws RJ0 TJ0 0
theorem nmJ0 : ∀ a, a < 0 → ∀ b, b < 0 → a ≠ b → (TJ0 a).2.1 ≠ (TJ0 b).2.1 := by decide +kernel
theorem tyJ0_ok : ∀ k, k < 0 → parseFieldDescriptor (TJ0 k).2.2.1 = some (tyJ0 k) := by decide +kernel
abbrev cJ0_length_8abf5 : ByteArray := prog_14_method_54_code
def yJ0_length_8abf5 : MethodName := ⟨RJ0, "length", "()I"⟩
abbrev cJ0_charAt_5068e : ByteArray := prog_14_method_56_code
def yJ0_charAt_5068e : MethodName := ⟨RJ0, "charAt", "(I)C"⟩
abbrev cJ0_indexOf_0f7a4 : ByteArray := prog_14_method_79_code
def yJ0_indexOf_0f7a4 : MethodName := ⟨RJ0, "indexOf", "(I)I"⟩
abbrev cJ0_indexOf_7cf53 : ByteArray := prog_14_method_80_code
def yJ0_indexOf_7cf53 : MethodName := ⟨RJ0, "indexOf", "(II)I"⟩
abbrev cJ0_coder_7d493 : ByteArray := prog_14_method_152_code
def yJ0_coder_7d493 : MethodName := ⟨RJ0, "coder", "()B"⟩
abbrev cJ0_isLatin1_aae02 : ByteArray := prog_14_method_154_code
def yJ0_isLatin1_aae02 : MethodName := ⟨RJ0, "isLatin1", "()Z"⟩
abbrev cJ0_checkIndex_df160 : ByteArray := prog_14_method_155_code
def yJ0_checkIndex_df160 : MethodName := ⟨RJ0, "checkIndex", "(II)V"⟩
abbrev cJ0_checkBoundsBeginEnd_23922 : ByteArray := prog_14_method_158_code
def yJ0_checkBoundsBeginEnd_23922 : MethodName := ⟨RJ0, "checkBoundsBeginEnd", "(III)V"⟩
def RJ1 : String := "java/lang/StringLatin1"
def TJ1 : u_T := fun k => match k with
  | _ => ("", "", "", false)
def tyJ1 : Nat → FieldType := fun k => match k with
  | _ => .int
abbrev wsJ10 : List Cond := u_ws RJ1 TJ1 0
theorem nmJ1 : ∀ a, a < 0 → ∀ b, b < 0 → a ≠ b → (TJ1 a).2.1 ≠ (TJ1 b).2.1 := by decide +kernel
theorem tyJ1_ok : ∀ k, k < 0 → parseFieldDescriptor (TJ1 k).2.2.1 = some (tyJ1 k) := by decide +kernel
abbrev cJ1_charAt_3b067 : ByteArray := prog_15_method_2_code
def yJ1_charAt_3b067 : MethodName := ⟨RJ1, "charAt", "([BI)C"⟩
abbrev cJ1_canEncode_9a6ad : ByteArray := prog_15_method_4_code
def yJ1_canEncode_9a6ad : MethodName := ⟨RJ1, "canEncode", "(I)Z"⟩
abbrev cJ1_indexOf_4cfef : ByteArray := prog_15_method_22_code
def yJ1_indexOf_4cfef : MethodName := ⟨RJ1, "indexOf", "([BIII)I"⟩
abbrev cJ1_indexOfChar_4cfef : ByteArray := prog_15_method_23_code
def yJ1_indexOfChar_4cfef : MethodName := ⟨RJ1, "indexOfChar", "([BIII)I"⟩
def RJ2 : String := "java/lang/StringUTF16"
def TJ2 : u_T := fun k => match k with
  | _ => ("", "", "", false)
def tyJ2 : Nat → FieldType := fun k => match k with
  | _ => .int
abbrev wsJ20 : List Cond := u_ws RJ2 TJ2 0
theorem nmJ2 : ∀ a, a < 0 → ∀ b, b < 0 → a ≠ b → (TJ2 a).2.1 ≠ (TJ2 b).2.1 := by decide +kernel
theorem tyJ2_ok : ∀ k, k < 0 → parseFieldDescriptor (TJ2 k).2.2.1 = some (tyJ2 k) := by decide +kernel
abbrev cJ2_getChar_3b067 : ByteArray := prog_16_method_5_code
def yJ2_getChar_3b067 : MethodName := ⟨RJ2, "getChar", "([BI)C"⟩
abbrev cJ2_length_9d52b : ByteArray := prog_16_method_6_code
def yJ2_length_9d52b : MethodName := ⟨RJ2, "length", "([B)I"⟩
abbrev cJ2_indexOf_4cfef : ByteArray := prog_16_method_40_code
def yJ2_indexOf_4cfef : MethodName := ⟨RJ2, "indexOf", "([BIII)I"⟩
abbrev cJ2_indexOfChar_4cfef : ByteArray := prog_16_method_47_code
def yJ2_indexOfChar_4cfef : MethodName := ⟨RJ2, "indexOfChar", "([BIII)I"⟩
abbrev cJ2_indexOfCharUnsafe_4cfef : ByteArray := prog_16_method_48_code
def yJ2_indexOfCharUnsafe_4cfef : MethodName := ⟨RJ2, "indexOfCharUnsafe", "([BIII)I"⟩
abbrev cJ2_indexOfSupplementary_4cfef : ByteArray := prog_16_method_49_code
def yJ2_indexOfSupplementary_4cfef : MethodName := ⟨RJ2, "indexOfSupplementary", "([BIII)I"⟩
abbrev cJ2_charAt_3b067 : ByteArray := prog_16_method_83_code
def yJ2_charAt_3b067 : MethodName := ⟨RJ2, "charAt", "([BI)C"⟩
abbrev cJ2_checkIndex_2214a : ByteArray := prog_16_method_91_code
def yJ2_checkIndex_2214a : MethodName := ⟨RJ2, "checkIndex", "(I[B)V"⟩
abbrev cJ2_checkBoundsBeginEnd_d044e : ByteArray := prog_16_method_93_code
def yJ2_checkBoundsBeginEnd_d044e : MethodName := ⟨RJ2, "checkBoundsBeginEnd", "(II[B)V"⟩
def RJ10 : String := "java/lang/System"
def TJ10 : u_T := fun k => match k with
  | _ => ("", "", "", false)
def tyJ10 : Nat → FieldType := fun k => match k with
  | _ => .int
abbrev wsJ100 : List Cond := u_ws RJ10 TJ10 0
theorem nmJ10 : ∀ a, a < 0 → ∀ b, b < 0 → a ≠ b → (TJ10 a).2.1 ≠ (TJ10 b).2.1 := by decide +kernel
theorem tyJ10_ok : ∀ k, k < 0 → parseFieldDescriptor (TJ10 k).2.2.1 = some (tyJ10 k) := by decide +kernel
def RJ7 : String := "java/util/Arrays"
def TJ7 : u_T := fun k => match k with
  | _ => ("", "", "", false)
def tyJ7 : Nat → FieldType := fun k => match k with
  | _ => .int
abbrev wsJ70 : List Cond := u_ws RJ7 TJ7 0
theorem nmJ7 : ∀ a, a < 0 → ∀ b, b < 0 → a ≠ b → (TJ7 a).2.1 ≠ (TJ7 b).2.1 := by decide +kernel
theorem tyJ7_ok : ∀ k, k < 0 → parseFieldDescriptor (TJ7 k).2.2.1 = some (tyJ7 k) := by decide +kernel
abbrev cJ7_fill_53178 : ByteArray := prog_18_method_103_code
def yJ7_fill_53178 : MethodName := ⟨RJ7, "fill", "([II)V"⟩
abbrev cJ7_copyOf_59c91 : ByteArray := prog_18_method_123_code
def yJ7_copyOf_59c91 : MethodName := ⟨RJ7, "copyOf", "([II)[I"⟩
def RJ3 : String := "jdk/internal/util/Preconditions"
def TJ3 : u_T := fun k => match k with
  | _ => ("", "", "", false)
def tyJ3 : Nat → FieldType := fun k => match k with
  | _ => .int
abbrev wsJ30 : List Cond := u_ws RJ3 TJ3 0
theorem nmJ3 : ∀ a, a < 0 → ∀ b, b < 0 → a ≠ b → (TJ3 a).2.1 ≠ (TJ3 b).2.1 := by decide +kernel
theorem tyJ3_ok : ∀ k, k < 0 → parseFieldDescriptor (TJ3 k).2.2.1 = some (tyJ3 k) := by decide +kernel
abbrev cJ3_checkIndex_8e157 : ByteArray := prog_19_method_11_code
def yJ3_checkIndex_8e157 : MethodName := ⟨RJ3, "checkIndex", "(IILjava/util/function/BiFunction;)I"⟩
abbrev cJ3_checkFromToIndex_8c36e : ByteArray := prog_19_method_12_code
def yJ3_checkFromToIndex_8c36e : MethodName := ⟨RJ3, "checkFromToIndex", "(IIILjava/util/function/BiFunction;)I"⟩
def RL : String := "CreaseLinesLaw"
abbrev cL_law : ByteArray := code
def yL_law : MethodName := ⟨RL, "law", "([I)Z"⟩
abbrev vwCl : List vw_C := [(RX0, TX0, 13), (RX1, TX1, 6), (RX2, TX2, 15), (RX3, TX3, 3), (RX4, TX4, 4), (RX5, TX5, 3), (RX6, TX6, 12), (RX7, TX7, 33)]
end
section
/-! ===== A SMALL MACHINE over a pure heap: cells by their numbers; what it runs is tied to the JVM in part 05 ===== -/
abbrev mx_H : Type := List va_E
abbrev mx_R : Type := Option (Option Value × mx_H)
abbrev mx_L : Type := List (Nat × Value)
/-- pc, instruction, whether a walk is cut there, a, b, w, u, a constant, a switch's arms -/
abbrev mx_I : Type := Nat × Instr × Bool × Nat × Nat × Nat × Nat × Int32 × List (Int32 × Nat)
/-- name, bytes, places for locals, what it returns, its instructions -/
abbrev mx_M : Type := MethodName × ByteArray × Nat × Option FieldType × List mx_I
/-- how many cells are older than the law's call: the script, and two constant rows -/
abbrev mx_K : Nat := 3
def mx_rm (x y : Int32) : Int32 := x - x / y * y
def mx_us (x y : Int32) : Int32 := (x.toUInt32 >>> (y.toUInt32 &&& Int32.toUInt32 31)).toInt32
def mx_ld (ls : mx_L) (i : Nat) : Option Value := match ls.find? (fun q => Nat.beq q.1 i) with
  | some q => some q.2
  | none => none
def mx_st (ls : mx_L) (i : Nat) (v : Value) : mx_L := (i, v) :: ls.filter (fun q => !(q.1 == i) && !(q.1 + 1 == i && q.2.category == 2))
def mx_li (ls : mx_L) (i : Nat) (f : Int32 → mx_R) : mx_R := match mx_ld ls i with
  | some (.int x) => f x
  | _ => none
def mx_la (ls : mx_L) (i : Nat) (f : Value → mx_R) : mx_R := match mx_ld ls i with
  | some (.ref x) => f (.ref x)
  | some .null => f .null
  | some (.retAddr x) => f (.retAddr x)
  | _ => none
def mx_s1 (st : List Value) (f : Int32 → List Value → mx_R) : mx_R := match st with
  | .int x :: r => f x r
  | _ => none
def mx_s2 (st : List Value) (f : Int32 → Int32 → List Value → mx_R) : mx_R := match st with
  | .int y :: .int x :: r => f x y r
  | _ => none
def mx_sa (st : List Value) (f : Value → List Value → mx_R) : mx_R := match st with
  | .ref x :: r => f (.ref x) r
  | .null :: r => f .null r
  | .retAddr x :: r => f (.retAddr x) r
  | _ => none
def mx_sr (st : List Value) (f : Nat → List Value → mx_R) : mx_R := match st with
  | .ref x :: r => f x r
  | _ => none
def mx_sn (st : List Value) (f0 : List Value → mx_R) (f1 : List Value → mx_R) : mx_R := match st with
  | .null :: r => f0 r
  | .ref _ :: r => f1 r
  | _ => none
def mx_d1 (st : List Value) (f : Value → List Value → mx_R) : mx_R := match st with
  | .int x :: r => f (.int x) r
  | .ref x :: r => f (.ref x) r
  | _ => none
def mx_d2 (st : List Value) (f : Value → Value → List Value → mx_R) : mx_R := match st with
  | .int x :: .ref y :: r => f (.int x) (.ref y) r
  | .int x :: .int y :: r => f (.int x) (.int y) r
  | _ => none
def mx_ir (st : List Value) (f : Int32 → Nat → List Value → mx_R) : mx_R := match st with
  | .int x :: .ref y :: r => f x y r
  | _ => none
def mx_rr (st : List Value) (f : Nat → Nat → List Value → mx_R) : mx_R := match st with
  | .ref x :: .ref y :: r => f x y r
  | _ => none
def mx_iir (st : List Value) (f : Int32 → Int32 → Nat → List Value → mx_R) : mx_R := match st with
  | .int x :: .int i :: .ref y :: r => f x i y r
  | _ => none
def mx_rir (st : List Value) (f : Nat → Int32 → Nat → List Value → mx_R) : mx_R := match st with
  | .ref x :: .int i :: .ref y :: r => f x i y r
  | _ => none
def mx_cps (st : List Value) (f : Int32 → Int32 → Nat → Int32 → Nat → List Value → mx_R) : mx_R := match st with
  | .int n :: .int dp :: .ref d :: .int sp :: .ref s :: r => f n dp d sp s r
  | _ => none
/-! the heap -/
def mx_gi (h : mx_H) (r ci k : Nat) (f : Int32 → mx_R) : mx_R := match h[r]? with
  | some (.inr (c, fs)) => if c = ci then (match fs[k]? with | some (.int x) => f x | _ => none) else none
  | _ => none
def mx_gr (h : mx_H) (r ci k : Nat) (f : Nat → mx_R) : mx_R := match h[r]? with
  | some (.inr (c, fs)) => if c = ci then (match fs[k]? with | some (.ref x) => f x | _ => none) else none
  | _ => none
def mx_pt (h : mx_H) (r ci k : Nat) (v : Value) (f : mx_H → mx_R) : mx_R := match h[r]? with
  | some (.inr (c, fs)) => if c = ci ∧ k < fs.length ∧ mx_K ≤ r then f (h.set r (.inr (c, fs.set k v))) else none
  | _ => none
def mx_pz (h : mx_H) (r ci k : Nat) (v : Int32) (f : mx_H → mx_R) : mx_R := if v = 0 ∨ v = 1 then mx_pt h r ci k (.int v) f else none
def mx_ai (h : mx_H) (r t : Nat) (i : Int32) (f : Int32 → mx_R) : mx_R := match h[r]? with
  | some (.inl (c, n, .inl g)) => if c = t ∧ ¬ (i < 0 ∨ n ≤ i.toNatClampNeg) then f (g i.toNatClampNeg) else none
  | _ => none
def mx_as (h : mx_H) (r t : Nat) (i x : Int32) (f : mx_H → mx_R) : mx_R := match h[r]? with
  | some (.inl (c, n, .inl g)) => if c = t ∧ mx_K ≤ r ∧ ¬ (i < 0 ∨ n ≤ i.toNatClampNeg) then f (h.set r (.inl (c, n, .inl (upd g i.toNatClampNeg x)))) else none
  | _ => none
def mx_aa (h : mx_H) (r t : Nat) (i : Int32) (f : Nat → mx_R) : mx_R := match h[r]? with
  | some (.inl (c, n, .inr (.inr (.inr (.inr g))))) => if c = t ∧ ¬ (i < 0 ∨ n ≤ i.toNatClampNeg) then (match g i.toNatClampNeg with | some a => f a | none => none) else none
  | _ => none
def mx_at (h : mx_H) (r t : Nat) (i : Int32) (v ci : Nat) (f : mx_H → mx_R) : mx_R := match h[r]?, h[v]? with
  | some (.inl (c, n, .inr (.inr (.inr (.inr g))))), some (.inr (c2, _)) => if c = t ∧ c2 = ci ∧ mx_K ≤ r ∧ mx_K ≤ v ∧ ¬ (i < 0 ∨ n ≤ i.toNatClampNeg) then f (h.set r (.inl (c, n, .inr (.inr (.inr (.inr (va_up g i.toNatClampNeg (some v)))))))) else none
  | _, _ => none
def mx_al (h : mx_H) (r : Nat) (f : Int32 → mx_R) : mx_R := match h[r]? with
  | some (.inl (_, n, _)) => f (Int32.ofNat n)
  | _ => none
def mx_nw (h : mx_H) (ci : Nat) (fs : List Value) (f : Nat → mx_H → mx_R) : mx_R := f h.length (h ++ [.inr (ci, fs)])
def mx_na (h : mx_H) (t : Nat) (n : Int32) (f : Nat → mx_H → mx_R) : mx_R := if ¬ n < 0 ∧ n.toNatClampNeg ≤ 4096 then f h.length (h ++ [.inl (t, n.toNatClampNeg, .inl (fun _ => 0))]) else none
def mx_nq (h : mx_H) (t : Nat) (n : Int32) (f : Nat → mx_H → mx_R) : mx_R := if ¬ n < 0 ∧ n.toNatClampNeg ≤ 4096 then f h.length (h ++ [.inl (t, n.toNatClampNeg, .inr (.inr (.inr (.inr (fun _ => none)))))]) else none
def mx_cp (h : mx_H) (s : Nat) (sp : Int32) (d : Nat) (dp n : Int32) (f : mx_H → mx_R) : mx_R := match h[s]?, h[d]? with
  | some (.inl (c0, n0, .inl f0)), some (.inl (c1, n1, .inl f1)) => if c0 = 0 ∧ c1 = 0 ∧ mx_K ≤ s ∧ mx_K ≤ d ∧ ¬ sp < 0 ∧ ¬ dp < 0 ∧ ¬ n < 0 ∧ sp.toNatClampNeg + n.toNatClampNeg ≤ n0 ∧ dp.toNatClampNeg + n.toNatClampNeg ≤ n1 then f (h.set d (.inl (c1, n1, .inl (va_cpy f0 f1 sp.toNatClampNeg dp.toNatClampNeg n.toNatClampNeg)))) else none
  | _, _ => none
/-! calls: what comes back -/
def mx_c0 (r : mx_R) (f : mx_H → mx_R) : mx_R := match r with
  | some (none, h) => f h
  | _ => none
def mx_c1 (r : mx_R) (f : Int32 → mx_H → mx_R) : mx_R := match r with
  | some (some (.int x), h) => f x h
  | _ => none
def mx_c2 (r : mx_R) (f : Nat → mx_H → mx_R) : mx_R := match r with
  | some (some (.ref x), h) => f x h
  | _ => none
def mx_c3 (r : mx_R) (f0 : mx_H → mx_R) (f1 : Nat → mx_H → mx_R) : mx_R := match r with
  | some (some .null, h) => f0 h
  | some (some (.ref x), h) => f1 x h
  | _ => none
def mx_c4 (r : mx_R) (f : Nat → mx_H → mx_R) : mx_R := match r with
  | some (some (.retAddr x), h) => f x h
  | _ => none
def mx_cl (h : mx_H) (r ci : Nat) (f : mx_R) : mx_R := match h[r]? with
  | some (.inr (c, _)) => if c = ci then f else none
  | _ => none
def mx_bk (w : Nat) (r : mx_R) (rest : List Value) (f : List Value → mx_H → mx_R) : mx_R := match w with
  | 0 => mx_c0 r (fun h => f rest h)
  | 1 => mx_c1 r (fun x h => f (.int x :: rest) h)
  | 2 => mx_c2 r (fun x h => f (.ref x :: rest) h)
  | 3 => mx_c3 r (fun h => f (.null :: rest) h) (fun x h => f (.ref x :: rest) h)
  | _ => mx_c4 r (fun x h => f (.retAddr x :: rest) h)
def mx_iv (h : mx_H) (st : List Value) (n ci : Nat) (f : List Value → List Value → mx_R) : mx_R := match st.drop n with
  | .ref r :: rest => bif Nat.ble ((rest.map fun v => v.category).sum) 8 && Nat.beq (st.take n).length n then mx_cl h r ci (f (.ref r :: (st.take n).reverse) rest) else none
  | _ => none
def mx_is (st : List Value) (n : Nat) (f : List Value → List Value → mx_R) : mx_R := match st.drop n with
  | .ref r :: rest => bif Nat.ble ((rest.map fun v => v.category).sum) 8 && Nat.beq (st.take n).length n then f (.ref r :: (st.take n).reverse) rest else none
  | _ => none
def mx_ss (st : List Value) (n : Nat) (f : List Value → List Value → mx_R) : mx_R :=
  bif Nat.ble (((st.drop n).map fun v => v.category).sum) 8 && Nat.beq (st.take n).length n then f (st.take n).reverse (st.drop n) else none
/-! ends -/
def mx_ri (u : Nat) (st : List Value) (h : mx_H) : mx_R := match st with
  | [.int x] => bif Nat.beq u 0 then some (some (.int x), h) else if x = 0 ∨ x = 1 then some (some (.int x), h) else none
  | _ => none
def mx_ra (st : List Value) (h : mx_H) : mx_R := match st with
  | [.ref x] => some (some (.ref x), h)
  | [.null] => some (some .null, h)
  | [.retAddr x] => some (some (.retAddr x), h)
  | _ => none
def mx_rv (st : List Value) (h : mx_H) : mx_R := match st with
  | [] => some (none, h)
  | _ => none
def mx_sw : List (Int32 × Nat) → Int32 → (Nat → mx_R) → mx_R → mx_R
  | [], _, _, d => d
  | (v, t) :: cs, x, f, d => if x = v then f t else mx_sw cs x f d
def mx_ic (cd : Jvm.ClassFile.Cond) (x y : Int32) (a b : mx_R) : mx_R := match cd with
  | .eq => if x = y then a else b
  | .ne => if x = y then b else a
  | .lt => if x < y then a else b
  | .ge => if y ≤ x then a else b
  | .gt => if y < x then a else b
  | .le => if x ≤ y then a else b
/-- a new object's fields -/
def mx_df : Nat → List Value
  | 0 => [.null, .int 0, .null, .null, .int 0, .null, .int 0, .int 0, .int 0, .int 0, .int 0, .null, .null]
  | 1 => [.int 0, .int 0, .int 0, .int 0, .int 0, .int 0]
  | 2 => [.null, .int 0, .int 0, .int 0, .int 0, .null, .int 0, .null, .int 0, .null, .int 0, .int 0, .int 0, .int 0, .int 0]
  | 3 => [.int 0, .int 0, .null]
  | 4 => [.int 0, .null, .null, .int 0]
  | 5 => [.int 0, .int 0, .null]
  | 6 => [.null, .null, .null, .int 0, .null, .null, .int 0, .null, .null, .null, .null, .int 0]
  | 7 => [.null, .null, .null, .int 0, .null, .null, .int 0, .int 0, .int 0, .int 0, .int 0, .int 0, .int 0, .null, .null, .null, .int 0, .int 0, .null, .int 0, .null, .null, .null, .null, .null, .null, .null, .null, .null, .null, .null, .null, .int 0]
  | _ => []
/-- a walk from one cut to the next: 'call' is what calls answer, 'ct' goes on at a cut -/
def mx_fw (call : Nat → List Value → mx_H → mx_R) (c : List mx_I) (ct : Nat → mx_L → List Value → mx_H → mx_R) : Bool → Nat → Nat → mx_L → List Value → mx_H → mx_R
  | _, 0, _, _, _, _ => none
  | fi, k + 1, pc, ls, st, h =>
    match c.find? (fun x => Nat.beq x.1 pc) with
    | none => none
    | some (_, ins, cut, a, b, w, u, v, cs) =>
      bif (!fi && cut) then ct pc ls st h else
      match ins with
      | .iconst _ => mx_fw call c ct false k (pc + 1) ls (.int v :: st) h
      | .bipush _ => mx_fw call c ct false k (pc + 2) ls (.int v :: st) h
      | .sipush _ => mx_fw call c ct false k (pc + 3) ls (.int v :: st) h
      | .ldc _ => bif Nat.beq w 0 then mx_fw call c ct false k (pc + 2) ls (.int v :: st) h else mx_fw call c ct false k (pc + 2) ls (.retAddr a :: st) h
      | .ldc_w _ => mx_fw call c ct false k (pc + 3) ls (.int v :: st) h
      | .aconst_null => mx_fw call c ct false k (pc + 1) ls (.null :: st) h
      | .iload_n n => mx_li ls n.val (fun x => mx_fw call c ct false k (pc + 1) ls (.int x :: st) h)
      | .iload n => mx_li ls n (fun x => mx_fw call c ct false k (pc + 2) ls (.int x :: st) h)
      | .aload_n n => mx_la ls n.val (fun x => mx_fw call c ct false k (pc + 1) ls (x :: st) h)
      | .aload n => mx_la ls n (fun x => mx_fw call c ct false k (pc + 2) ls (x :: st) h)
      | .istore_n n => mx_s1 st (fun x r => mx_fw call c ct false k (pc + 1) (mx_st ls n.val (.int x)) r h)
      | .istore n => mx_s1 st (fun x r => mx_fw call c ct false k (pc + 2) (mx_st ls n (.int x)) r h)
      | .astore_n n => mx_sa st (fun x r => mx_fw call c ct false k (pc + 1) (mx_st ls n.val x) r h)
      | .astore n => mx_sa st (fun x r => mx_fw call c ct false k (pc + 2) (mx_st ls n x) r h)
      | .iinc n _ => mx_li ls n (fun x => mx_fw call c ct false k (pc + 3) (mx_st ls n (.int (x + v))) st h)
      | .iadd => mx_s2 st (fun x y r => mx_fw call c ct false k (pc + 1) ls (.int (x + y) :: r) h)
      | .isub => mx_s2 st (fun x y r => mx_fw call c ct false k (pc + 1) ls (.int (x - y) :: r) h)
      | .imul => mx_s2 st (fun x y r => mx_fw call c ct false k (pc + 1) ls (.int (x * y) :: r) h)
      | .iand => mx_s2 st (fun x y r => mx_fw call c ct false k (pc + 1) ls (.int (x &&& y) :: r) h)
      | .ior => mx_s2 st (fun x y r => mx_fw call c ct false k (pc + 1) ls (.int (x ||| y) :: r) h)
      | .ixor => mx_s2 st (fun x y r => mx_fw call c ct false k (pc + 1) ls (.int (x ^^^ y) :: r) h)
      | .idiv => mx_s2 st (fun x y r => if y = 0 then none else mx_fw call c ct false k (pc + 1) ls (.int (x / y) :: r) h)
      | .irem => mx_s2 st (fun x y r => if y = 0 then none else mx_fw call c ct false k (pc + 1) ls (.int (mx_rm x y) :: r) h)
      | .ineg => mx_s1 st (fun x r => mx_fw call c ct false k (pc + 1) ls (.int (-x) :: r) h)
      | .ishl => mx_s2 st (fun x y r => mx_fw call c ct false k (pc + 1) ls (.int (x <<< (y &&& 31)) :: r) h)
      | .ishr => mx_s2 st (fun x y r => mx_fw call c ct false k (pc + 1) ls (.int (x >>> (y &&& 31)) :: r) h)
      | .iushr => mx_s2 st (fun x y r => mx_fw call c ct false k (pc + 1) ls (.int (mx_us x y) :: r) h)
      | .i2s => mx_s1 st (fun x r => mx_fw call c ct false k (pc + 1) ls (.int x.toInt16.toInt32 :: r) h)
      | .i2c => mx_s1 st (fun x r => mx_fw call c ct false k (pc + 1) ls (.int (x.toUInt32 % 65536).toInt32 :: r) h)
      | .dup => mx_d1 st (fun x r => mx_fw call c ct false k (pc + 1) ls (x :: x :: r) h)
      | .dup2 => mx_d2 st (fun x y r => mx_fw call c ct false k (pc + 1) ls (x :: y :: x :: y :: r) h)
      | .pop => mx_d1 st (fun _ r => mx_fw call c ct false k (pc + 1) ls r h)
      | .goto _ => mx_fw call c ct false k a ls st h
      | .if_icmp cd _ => mx_s2 st (fun x y r => mx_ic cd x y (mx_fw call c ct false k a ls r h) (mx_fw call c ct false k (pc + 3) ls r h))
      | .ifCond cd _ => mx_s1 st (fun x r => mx_ic cd x 0 (mx_fw call c ct false k a ls r h) (mx_fw call c ct false k (pc + 3) ls r h))
      | .ifnull _ => mx_sn st (fun r => mx_fw call c ct false k a ls r h) (fun r => mx_fw call c ct false k (pc + 3) ls r h)
      | .ifnonnull _ => mx_sn st (fun r => mx_fw call c ct false k (pc + 3) ls r h) (fun r => mx_fw call c ct false k a ls r h)
      | .getfield _ => mx_sr st (fun r rest => bif Nat.beq w 0 then mx_gi h r a b (fun x => mx_fw call c ct false k (pc + 3) ls (.int x :: rest) h) else mx_gr h r a b (fun x => mx_fw call c ct false k (pc + 3) ls (.ref x :: rest) h))
      | .putfield _ => bif Nat.beq w 0 then mx_ir st (fun x r rest => mx_pt h r a b (.int x) (fun h => mx_fw call c ct false k (pc + 3) ls rest h)) else bif Nat.beq w 1 then mx_rr st (fun x r rest => mx_pt h r a b (.ref x) (fun h => mx_fw call c ct false k (pc + 3) ls rest h)) else mx_ir st (fun x r rest => mx_pz h r a b x (fun h => mx_fw call c ct false k (pc + 3) ls rest h))
      | .getstatic _ => mx_fw call c ct false k (pc + 3) ls (.ref a :: st) h
      | .iaload => mx_ir st (fun i r rest => mx_ai h r 0 i (fun x => mx_fw call c ct false k (pc + 1) ls (.int x :: rest) h))
      | .baload => mx_ir st (fun i r rest => mx_ai h r 1 i (fun x => mx_fw call c ct false k (pc + 1) ls (.int x :: rest) h))
      | .caload => mx_ir st (fun i r rest => mx_ai h r 2 i (fun x => mx_fw call c ct false k (pc + 1) ls (.int x :: rest) h))
      | .iastore => mx_iir st (fun x i r rest => mx_as h r 0 i x (fun h => mx_fw call c ct false k (pc + 1) ls rest h))
      | .bastore => mx_iir st (fun x i r rest => mx_as h r 1 i (vp_nar .boolean x) (fun h => mx_fw call c ct false k (pc + 1) ls rest h))
      | .castore => mx_iir st (fun x i r rest => mx_as h r 2 i (vp_nar .char x) (fun h => mx_fw call c ct false k (pc + 1) ls rest h))
      | .aaload => mx_ir st (fun i r rest => mx_aa h r a i (fun x => mx_fw call c ct false k (pc + 1) ls (.ref x :: rest) h))
      | .aastore => mx_rir st (fun x i r rest => mx_at h r a i x b (fun h => mx_fw call c ct false k (pc + 1) ls rest h))
      | .arraylength => mx_sr st (fun r rest => mx_al h r (fun x => mx_fw call c ct false k (pc + 1) ls (.int x :: rest) h))
      | .new _ => mx_nw h a (mx_df a) (fun r h => mx_fw call c ct false k (pc + 3) ls (.ref r :: st) h)
      | .newarray _ => mx_s1 st (fun n rest => mx_na h a n (fun r h => mx_fw call c ct false k (pc + 2) ls (.ref r :: rest) h))
      | .anewarray _ => mx_s1 st (fun n rest => mx_nq h a n (fun r h => mx_fw call c ct false k (pc + 3) ls (.ref r :: rest) h))
      | .invokevirtual _ => mx_iv h st b u (fun as rest => mx_bk w (call a as h) rest (fun st h => mx_fw call c ct false k (pc + 3) ls st h))
      | .invokestatic _ => bif Nat.beq w 8 then mx_cps st (fun n dp d sp s rest => bif Nat.ble ((rest.map fun v => v.category).sum) 8 then mx_cp h s sp d dp n (fun h => mx_fw call c ct false k (pc + 3) ls rest h) else none) else mx_ss st b (fun as rest => mx_bk w (call a as h) rest (fun st h => mx_fw call c ct false k (pc + 3) ls st h))
      | .invokespecial _ => bif Nat.beq w 9 then mx_sr st (fun _ rest => bif Nat.ble ((rest.map fun v => v.category).sum) 8 then mx_fw call c ct false k (pc + 3) ls rest h else none) else mx_is st b (fun as rest => mx_bk w (call a as h) rest (fun st h => mx_fw call c ct false k (pc + 3) ls st h))
      | .ireturn => mx_ri u st h
      | .areturn => mx_ra st h
      | .return_ => mx_rv st h
      | .tableswitch _ _ _ _ => mx_s1 st (fun x r => mx_sw cs x (fun t => mx_fw call c ct false k t ls r h) (mx_fw call c ct false k a ls r h))
      | .lookupswitch _ _ => mx_s1 st (fun x r => mx_sw cs x (fun t => mx_fw call c ct false k t ls r h) (mx_fw call c ct false k a ls r h))
      | _ => none
/-- a method's body: cuts are passed as often as n says -/
def mx_rn (call : Nat → List Value → mx_H → mx_R) (c : List mx_I) : Nat → Nat → mx_L → List Value → mx_H → mx_R
  | 0, _, _, _, _ => none
  | n + 1, pc, ls, st, h => mx_fw call c (mx_rn call c n) true 4096 pc ls st h
abbrev mx_N : Nat := 100000
/-- calls, d deep -/
def mx_ev (P : List mx_M) (pr : Nat → List Value → mx_H → mx_R) : Nat → Nat → List Value → mx_H → mx_R
  | 0, _, _, _ => none
  | d + 1, j, as, h => match P[j]? with
    | some M => bif Nat.ble (lg_sl as).length M.2.2.1 then mx_rn (mx_ev P pr d) M.2.2.2.2 mx_N 0 (lv_args 0 as) [] h else none
    | none => pr j as h
end
