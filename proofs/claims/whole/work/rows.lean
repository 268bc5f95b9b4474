section
-- ===== PART A: goes FIRST, ahead of the names: the tables' words, and 'selects' of the private methods out of them =====
/-- a private method of a class that the tables say can be made, by its rows of tables_1 -/
def lw_okq (q : MethodName × Nat) : Prop := (q.1.cls ≠ "java/lang/invoke/MethodHandle" ∧ q.1.cls ≠ "java/lang/invoke/VarHandle") ∧ Cond.instantiable q.1.cls q.2 ∈ tables_1 ∧ Cond.privateMethod q.1 ∈ tables_1 ∧ Cond.instanceMethod q.1 ∈ tables_1
theorem lw_p0 : lw_okq (⟨"CreaseLines$Closet", "lawOf", "(I)LCreaseLines$Text;"⟩, 13) := ⟨⟨by decide +kernel, by decide +kernel⟩, List.mem_of_getElem? (i := 27) (by decide +kernel), List.mem_of_getElem? (i := 296) (by decide +kernel), List.mem_of_getElem? (i := 297) (by decide +kernel)⟩
theorem lw_p1 : lw_okq (⟨"CreaseLines$Closet", "wear", "(I)V"⟩, 13) := ⟨⟨by decide +kernel, by decide +kernel⟩, List.mem_of_getElem? (i := 27) (by decide +kernel), List.mem_of_getElem? (i := 409) (by decide +kernel), List.mem_of_getElem? (i := 410) (by decide +kernel)⟩
theorem lw_p2 : lw_okq (⟨"CreaseLines$Closet", "soak", "(LCreaseLines$Leg;)V"⟩, 13) := ⟨⟨by decide +kernel, by decide +kernel⟩, List.mem_of_getElem? (i := 27) (by decide +kernel), List.mem_of_getElem? (i := 416) (by decide +kernel), List.mem_of_getElem? (i := 417) (by decide +kernel)⟩
theorem lw_p3 : lw_okq (⟨"CreaseLines", "beginThought", "()LCreaseLines$Closet;"⟩, 12) := ⟨⟨by decide +kernel, by decide +kernel⟩, List.mem_of_getElem? (i := 19) (by decide +kernel), List.mem_of_getElem? (i := 443) (by decide +kernel), List.mem_of_getElem? (i := 444) (by decide +kernel)⟩
theorem lw_p4 : lw_okq (⟨"CreaseLines", "sumDifferences", "(LCreaseLines$Sheet;)V"⟩, 12) := ⟨⟨by decide +kernel, by decide +kernel⟩, List.mem_of_getElem? (i := 19) (by decide +kernel), List.mem_of_getElem? (i := 513) (by decide +kernel), List.mem_of_getElem? (i := 514) (by decide +kernel)⟩
theorem lw_p5 : lw_okq (⟨"CreaseLines", "feedFour", "(I)V"⟩, 12) := ⟨⟨by decide +kernel, by decide +kernel⟩, List.mem_of_getElem? (i := 19) (by decide +kernel), List.mem_of_getElem? (i := 550) (by decide +kernel), List.mem_of_getElem? (i := 551) (by decide +kernel)⟩
theorem lw_p6 : lw_okq (⟨"CreaseLines$Reader", "begin", "([II)V"⟩, 15) := ⟨⟨by decide +kernel, by decide +kernel⟩, List.mem_of_getElem? (i := 126) (by decide +kernel), List.mem_of_getElem? (i := 566) (by decide +kernel), List.mem_of_getElem? (i := 567) (by decide +kernel)⟩
theorem lw_p7 : lw_okq (⟨"CreaseLines$Reader", "nextWord", "()V"⟩, 15) := ⟨⟨by decide +kernel, by decide +kernel⟩, List.mem_of_getElem? (i := 126) (by decide +kernel), List.mem_of_getElem? (i := 571) (by decide +kernel), List.mem_of_getElem? (i := 572) (by decide +kernel)⟩
theorem lw_p8 : lw_okq (⟨"CreaseLines$Reader", "keyOfWord", "()I"⟩, 15) := ⟨⟨by decide +kernel, by decide +kernel⟩, List.mem_of_getElem? (i := 126) (by decide +kernel), List.mem_of_getElem? (i := 578) (by decide +kernel), List.mem_of_getElem? (i := 579) (by decide +kernel)⟩
theorem lw_p9 : lw_okq (⟨"CreaseLines$Reader", "isWord", "(Ljava/lang/String;)Z"⟩, 15) := ⟨⟨by decide +kernel, by decide +kernel⟩, List.mem_of_getElem? (i := 126) (by decide +kernel), List.mem_of_getElem? (i := 583) (by decide +kernel), List.mem_of_getElem? (i := 584) (by decide +kernel)⟩
theorem lw_p10 : lw_okq (⟨"CreaseLines$Reader", "isWhole", "()Z"⟩, 15) := ⟨⟨by decide +kernel, by decide +kernel⟩, List.mem_of_getElem? (i := 126) (by decide +kernel), List.mem_of_getElem? (i := 637) (by decide +kernel), List.mem_of_getElem? (i := 638) (by decide +kernel)⟩
theorem lw_p11 : lw_okq (⟨"CreaseLines$Reader", "takesPiece", "()Z"⟩, 15) := ⟨⟨by decide +kernel, by decide +kernel⟩, List.mem_of_getElem? (i := 126) (by decide +kernel), List.mem_of_getElem? (i := 641) (by decide +kernel), List.mem_of_getElem? (i := 642) (by decide +kernel)⟩
theorem lw_p12 : lw_okq (⟨"CreaseLines$Reader", "takesNumber", "()Z"⟩, 15) := ⟨⟨by decide +kernel, by decide +kernel⟩, List.mem_of_getElem? (i := 126) (by decide +kernel), List.mem_of_getElem? (i := 645) (by decide +kernel), List.mem_of_getElem? (i := 646) (by decide +kernel)⟩
theorem lw_p13 : lw_okq (⟨"CreaseLines$Reader", "endLeaf", "(I)V"⟩, 15) := ⟨⟨by decide +kernel, by decide +kernel⟩, List.mem_of_getElem? (i := 126) (by decide +kernel), List.mem_of_getElem? (i := 649) (by decide +kernel), List.mem_of_getElem? (i := 650) (by decide +kernel)⟩
theorem lw_p14 : lw_okq (⟨"CreaseLines$Reader", "addStep", "(I)V"⟩, 15) := ⟨⟨by decide +kernel, by decide +kernel⟩, List.mem_of_getElem? (i := 126) (by decide +kernel), List.mem_of_getElem? (i := 653) (by decide +kernel), List.mem_of_getElem? (i := 654) (by decide +kernel)⟩
theorem lw_p15 : lw_okq (⟨"CreaseLines$Reader", "endPiece", "()V"⟩, 15) := ⟨⟨by decide +kernel, by decide +kernel⟩, List.mem_of_getElem? (i := 126) (by decide +kernel), List.mem_of_getElem? (i := 657) (by decide +kernel), List.mem_of_getElem? (i := 658) (by decide +kernel)⟩
def lw_privs_1 : List (MethodName × Nat) := [(⟨"CreaseLines$Closet", "lawOf", "(I)LCreaseLines$Text;"⟩, 13), (⟨"CreaseLines$Closet", "wear", "(I)V"⟩, 13), (⟨"CreaseLines$Closet", "soak", "(LCreaseLines$Leg;)V"⟩, 13), (⟨"CreaseLines", "beginThought", "()LCreaseLines$Closet;"⟩, 12), (⟨"CreaseLines", "sumDifferences", "(LCreaseLines$Sheet;)V"⟩, 12), (⟨"CreaseLines", "feedFour", "(I)V"⟩, 12), (⟨"CreaseLines$Reader", "begin", "([II)V"⟩, 15), (⟨"CreaseLines$Reader", "nextWord", "()V"⟩, 15), (⟨"CreaseLines$Reader", "keyOfWord", "()I"⟩, 15), (⟨"CreaseLines$Reader", "isWord", "(Ljava/lang/String;)Z"⟩, 15), (⟨"CreaseLines$Reader", "isWhole", "()Z"⟩, 15), (⟨"CreaseLines$Reader", "takesPiece", "()Z"⟩, 15), (⟨"CreaseLines$Reader", "takesNumber", "()Z"⟩, 15), (⟨"CreaseLines$Reader", "endLeaf", "(I)V"⟩, 15), (⟨"CreaseLines$Reader", "addStep", "(I)V"⟩, 15), (⟨"CreaseLines$Reader", "endPiece", "()V"⟩, 15)]
theorem lw_r1 : ∀ q ∈ lw_privs_1, lw_okq q := List.forall_mem_cons.mpr ⟨lw_p0, List.forall_mem_cons.mpr ⟨lw_p1, List.forall_mem_cons.mpr ⟨lw_p2, List.forall_mem_cons.mpr ⟨lw_p3, List.forall_mem_cons.mpr ⟨lw_p4, List.forall_mem_cons.mpr ⟨lw_p5, List.forall_mem_cons.mpr ⟨lw_p6, List.forall_mem_cons.mpr ⟨lw_p7, List.forall_mem_cons.mpr ⟨lw_p8, List.forall_mem_cons.mpr ⟨lw_p9, List.forall_mem_cons.mpr ⟨lw_p10, List.forall_mem_cons.mpr ⟨lw_p11, List.forall_mem_cons.mpr ⟨lw_p12, List.forall_mem_cons.mpr ⟨lw_p13, List.forall_mem_cons.mpr ⟨lw_p14, List.forall_mem_cons.mpr ⟨lw_p15, fun _ h => absurd h List.not_mem_nil⟩⟩⟩⟩⟩⟩⟩⟩⟩⟩⟩⟩⟩⟩⟩⟩
theorem lw_p16 : lw_okq (⟨"CreaseLines$Reader", "takesName", "()Z"⟩, 15) := ⟨⟨by decide +kernel, by decide +kernel⟩, List.mem_of_getElem? (i := 126) (by decide +kernel), List.mem_of_getElem? (i := 661) (by decide +kernel), List.mem_of_getElem? (i := 662) (by decide +kernel)⟩
theorem lw_p17 : lw_okq (⟨"CreaseLines$Reader", "namesOfKey", "()Ljava/lang/String;"⟩, 15) := ⟨⟨by decide +kernel, by decide +kernel⟩, List.mem_of_getElem? (i := 126) (by decide +kernel), List.mem_of_getElem? (i := 665) (by decide +kernel), List.mem_of_getElem? (i := 666) (by decide +kernel)⟩
theorem lw_p18 : lw_okq (⟨"CreaseLines$Reader", "takesOpening", "()Z"⟩, 15) := ⟨⟨by decide +kernel, by decide +kernel⟩, List.mem_of_getElem? (i := 126) (by decide +kernel), List.mem_of_getElem? (i := 727) (by decide +kernel), List.mem_of_getElem? (i := 728) (by decide +kernel)⟩
theorem lw_p19 : lw_okq (⟨"CreaseLines$Reader", "putOnPile", "(I)V"⟩, 15) := ⟨⟨by decide +kernel, by decide +kernel⟩, List.mem_of_getElem? (i := 126) (by decide +kernel), List.mem_of_getElem? (i := 731) (by decide +kernel), List.mem_of_getElem? (i := 732) (by decide +kernel)⟩
theorem lw_p20 : lw_okq (⟨"CreaseLines$Reader", "takesSign", "()Z"⟩, 15) := ⟨⟨by decide +kernel, by decide +kernel⟩, List.mem_of_getElem? (i := 126) (by decide +kernel), List.mem_of_getElem? (i := 735) (by decide +kernel), List.mem_of_getElem? (i := 736) (by decide +kernel)⟩
theorem lw_p21 : lw_okq (⟨"CreaseLines$Reader", "takesClosing", "()Z"⟩, 15) := ⟨⟨by decide +kernel, by decide +kernel⟩, List.mem_of_getElem? (i := 126) (by decide +kernel), List.mem_of_getElem? (i := 739) (by decide +kernel), List.mem_of_getElem? (i := 740) (by decide +kernel)⟩
theorem lw_p22 : lw_okq (⟨"CreaseLines$Reader", "unpile", "(I)V"⟩, 15) := ⟨⟨by decide +kernel, by decide +kernel⟩, List.mem_of_getElem? (i := 126) (by decide +kernel), List.mem_of_getElem? (i := 743) (by decide +kernel), List.mem_of_getElem? (i := 744) (by decide +kernel)⟩
theorem lw_p23 : lw_okq (⟨"CreaseLinesModel", "comes", "(III)I"⟩, 33) := ⟨⟨by decide +kernel, by decide +kernel⟩, List.mem_of_getElem? (i := 880) (by decide +kernel), List.mem_of_getElem? (i := 996) (by decide +kernel), List.mem_of_getElem? (i := 997) (by decide +kernel)⟩
theorem lw_p24 : lw_okq (⟨"CreaseLinesModel", "put", "(III)V"⟩, 33) := ⟨⟨by decide +kernel, by decide +kernel⟩, List.mem_of_getElem? (i := 880) (by decide +kernel), List.mem_of_getElem? (i := 1000) (by decide +kernel), List.mem_of_getElem? (i := 1001) (by decide +kernel)⟩
theorem lw_p25 : lw_okq (⟨"CreaseLinesModel", "isLeg", "(I)Z"⟩, 33) := ⟨⟨by decide +kernel, by decide +kernel⟩, List.mem_of_getElem? (i := 880) (by decide +kernel), List.mem_of_getElem? (i := 1008) (by decide +kernel), List.mem_of_getElem? (i := 1009) (by decide +kernel)⟩
theorem lw_p26 : lw_okq (⟨"CreaseLinesModel", "takesBy", "(I)I"⟩, 33) := ⟨⟨by decide +kernel, by decide +kernel⟩, List.mem_of_getElem? (i := 880) (by decide +kernel), List.mem_of_getElem? (i := 1012) (by decide +kernel), List.mem_of_getElem? (i := 1013) (by decide +kernel)⟩
theorem lw_p27 : lw_okq (⟨"CreaseLinesModel", "plainPress", "(I)I"⟩, 33) := ⟨⟨by decide +kernel, by decide +kernel⟩, List.mem_of_getElem? (i := 880) (by decide +kernel), List.mem_of_getElem? (i := 1016) (by decide +kernel), List.mem_of_getElem? (i := 1017) (by decide +kernel)⟩
theorem lw_p28 : lw_okq (⟨"CreaseLinesModel", "counts", "(I)I"⟩, 33) := ⟨⟨by decide +kernel, by decide +kernel⟩, List.mem_of_getElem? (i := 880) (by decide +kernel), List.mem_of_getElem? (i := 1020) (by decide +kernel), List.mem_of_getElem? (i := 1021) (by decide +kernel)⟩
theorem lw_p29 : lw_okq (⟨"CreaseLinesModel", "of", "(II)I"⟩, 33) := ⟨⟨by decide +kernel, by decide +kernel⟩, List.mem_of_getElem? (i := 880) (by decide +kernel), List.mem_of_getElem? (i := 1024) (by decide +kernel), List.mem_of_getElem? (i := 1025) (by decide +kernel)⟩
theorem lw_p30 : lw_okq (⟨"CreaseLinesModel", "worksOut", "(I)I"⟩, 33) := ⟨⟨by decide +kernel, by decide +kernel⟩, List.mem_of_getElem? (i := 880) (by decide +kernel), List.mem_of_getElem? (i := 1028) (by decide +kernel), List.mem_of_getElem? (i := 1029) (by decide +kernel)⟩
theorem lw_p31 : lw_okq (⟨"CreaseLinesModel", "losesOf", "(I)I"⟩, 33) := ⟨⟨by decide +kernel, by decide +kernel⟩, List.mem_of_getElem? (i := 880) (by decide +kernel), List.mem_of_getElem? (i := 1038) (by decide +kernel), List.mem_of_getElem? (i := 1039) (by decide +kernel)⟩
def lw_privs_2 : List (MethodName × Nat) := [(⟨"CreaseLines$Reader", "takesName", "()Z"⟩, 15), (⟨"CreaseLines$Reader", "namesOfKey", "()Ljava/lang/String;"⟩, 15), (⟨"CreaseLines$Reader", "takesOpening", "()Z"⟩, 15), (⟨"CreaseLines$Reader", "putOnPile", "(I)V"⟩, 15), (⟨"CreaseLines$Reader", "takesSign", "()Z"⟩, 15), (⟨"CreaseLines$Reader", "takesClosing", "()Z"⟩, 15), (⟨"CreaseLines$Reader", "unpile", "(I)V"⟩, 15), (⟨"CreaseLinesModel", "comes", "(III)I"⟩, 33), (⟨"CreaseLinesModel", "put", "(III)V"⟩, 33), (⟨"CreaseLinesModel", "isLeg", "(I)Z"⟩, 33), (⟨"CreaseLinesModel", "takesBy", "(I)I"⟩, 33), (⟨"CreaseLinesModel", "plainPress", "(I)I"⟩, 33), (⟨"CreaseLinesModel", "counts", "(I)I"⟩, 33), (⟨"CreaseLinesModel", "of", "(II)I"⟩, 33), (⟨"CreaseLinesModel", "worksOut", "(I)I"⟩, 33), (⟨"CreaseLinesModel", "losesOf", "(I)I"⟩, 33)]
theorem lw_r2 : ∀ q ∈ lw_privs_2, lw_okq q := List.forall_mem_cons.mpr ⟨lw_p16, List.forall_mem_cons.mpr ⟨lw_p17, List.forall_mem_cons.mpr ⟨lw_p18, List.forall_mem_cons.mpr ⟨lw_p19, List.forall_mem_cons.mpr ⟨lw_p20, List.forall_mem_cons.mpr ⟨lw_p21, List.forall_mem_cons.mpr ⟨lw_p22, List.forall_mem_cons.mpr ⟨lw_p23, List.forall_mem_cons.mpr ⟨lw_p24, List.forall_mem_cons.mpr ⟨lw_p25, List.forall_mem_cons.mpr ⟨lw_p26, List.forall_mem_cons.mpr ⟨lw_p27, List.forall_mem_cons.mpr ⟨lw_p28, List.forall_mem_cons.mpr ⟨lw_p29, List.forall_mem_cons.mpr ⟨lw_p30, List.forall_mem_cons.mpr ⟨lw_p31, fun _ h => absurd h List.not_mem_nil⟩⟩⟩⟩⟩⟩⟩⟩⟩⟩⟩⟩⟩⟩⟩⟩
theorem lw_p32 : lw_okq (⟨"CreaseLinesModel", "bagsOf", "(I)I"⟩, 33) := ⟨⟨by decide +kernel, by decide +kernel⟩, List.mem_of_getElem? (i := 880) (by decide +kernel), List.mem_of_getElem? (i := 1042) (by decide +kernel), List.mem_of_getElem? (i := 1043) (by decide +kernel)⟩
theorem lw_p33 : lw_okq (⟨"CreaseLinesModel", "worthOf", "(I)I"⟩, 33) := ⟨⟨by decide +kernel, by decide +kernel⟩, List.mem_of_getElem? (i := 880) (by decide +kernel), List.mem_of_getElem? (i := 1046) (by decide +kernel), List.mem_of_getElem? (i := 1047) (by decide +kernel)⟩
theorem lw_p34 : lw_okq (⟨"CreaseLinesModel", "swaps", "(II)I"⟩, 33) := ⟨⟨by decide +kernel, by decide +kernel⟩, List.mem_of_getElem? (i := 880) (by decide +kernel), List.mem_of_getElem? (i := 1062) (by decide +kernel), List.mem_of_getElem? (i := 1063) (by decide +kernel)⟩
theorem lw_p35 : lw_okq (⟨"CreaseLinesModel", "presses", "(II)I"⟩, 33) := ⟨⟨by decide +kernel, by decide +kernel⟩, List.mem_of_getElem? (i := 880) (by decide +kernel), List.mem_of_getElem? (i := 1074) (by decide +kernel), List.mem_of_getElem? (i := 1075) (by decide +kernel)⟩
theorem lw_p36 : lw_okq (⟨"CreaseLinesModel", "draw", "()I"⟩, 33) := ⟨⟨by decide +kernel, by decide +kernel⟩, List.mem_of_getElem? (i := 880) (by decide +kernel), List.mem_of_getElem? (i := 1089) (by decide +kernel), List.mem_of_getElem? (i := 1090) (by decide +kernel)⟩
theorem lw_p37 : lw_okq (⟨"CreaseLinesModel", "goesOn", "(I)V"⟩, 33) := ⟨⟨by decide +kernel, by decide +kernel⟩, List.mem_of_getElem? (i := 880) (by decide +kernel), List.mem_of_getElem? (i := 1102) (by decide +kernel), List.mem_of_getElem? (i := 1103) (by decide +kernel)⟩
theorem lw_p38 : lw_okq (⟨"CreaseLinesModel", "day", "()V"⟩, 33) := ⟨⟨by decide +kernel, by decide +kernel⟩, List.mem_of_getElem? (i := 880) (by decide +kernel), List.mem_of_getElem? (i := 1106) (by decide +kernel), List.mem_of_getElem? (i := 1107) (by decide +kernel)⟩
theorem lw_p39 : lw_okq (⟨"CreaseLinesModel", "isWorn", "(I)V"⟩, 33) := ⟨⟨by decide +kernel, by decide +kernel⟩, List.mem_of_getElem? (i := 880) (by decide +kernel), List.mem_of_getElem? (i := 1110) (by decide +kernel), List.mem_of_getElem? (i := 1111) (by decide +kernel)⟩
theorem lw_p40 : lw_okq (⟨"CreaseLinesModel", "dullest", "()I"⟩, 33) := ⟨⟨by decide +kernel, by decide +kernel⟩, List.mem_of_getElem? (i := 880) (by decide +kernel), List.mem_of_getElem? (i := 1114) (by decide +kernel), List.mem_of_getElem? (i := 1115) (by decide +kernel)⟩
theorem lw_p41 : lw_okq (⟨"CreaseLinesModel", "allSharp", "()I"⟩, 33) := ⟨⟨by decide +kernel, by decide +kernel⟩, List.mem_of_getElem? (i := 880) (by decide +kernel), List.mem_of_getElem? (i := 1122) (by decide +kernel), List.mem_of_getElem? (i := 1123) (by decide +kernel)⟩
theorem lw_p42 : lw_okq (⟨"CreaseLinesModel", "doubled", "()I"⟩, 33) := ⟨⟨by decide +kernel, by decide +kernel⟩, List.mem_of_getElem? (i := 880) (by decide +kernel), List.mem_of_getElem? (i := 1126) (by decide +kernel), List.mem_of_getElem? (i := 1127) (by decide +kernel)⟩
theorem lw_p43 : lw_okq (⟨"CreaseLinesModel", "thinks", "()V"⟩, 33) := ⟨⟨by decide +kernel, by decide +kernel⟩, List.mem_of_getElem? (i := 880) (by decide +kernel), List.mem_of_getElem? (i := 1135) (by decide +kernel), List.mem_of_getElem? (i := 1136) (by decide +kernel)⟩
theorem lw_p44 : lw_okq (⟨"CreaseLinesModel", "putsBack", "()V"⟩, 33) := ⟨⟨by decide +kernel, by decide +kernel⟩, List.mem_of_getElem? (i := 880) (by decide +kernel), List.mem_of_getElem? (i := 1145) (by decide +kernel), List.mem_of_getElem? (i := 1146) (by decide +kernel)⟩
theorem lw_p45 : lw_okq (⟨"CreaseLinesModel", "isCaredFor", "(II)Z"⟩, 33) := ⟨⟨by decide +kernel, by decide +kernel⟩, List.mem_of_getElem? (i := 880) (by decide +kernel), List.mem_of_getElem? (i := 1161) (by decide +kernel), List.mem_of_getElem? (i := 1162) (by decide +kernel)⟩
theorem lw_p46 : lw_okq (⟨"CreaseLinesModel", "sharpOn", "(I)I"⟩, 33) := ⟨⟨by decide +kernel, by decide +kernel⟩, List.mem_of_getElem? (i := 880) (by decide +kernel), List.mem_of_getElem? (i := 1169) (by decide +kernel), List.mem_of_getElem? (i := 1170) (by decide +kernel)⟩
theorem lw_p47 : lw_okq (⟨"CreaseLinesModel", "go", "()V"⟩, 33) := ⟨⟨by decide +kernel, by decide +kernel⟩, List.mem_of_getElem? (i := 880) (by decide +kernel), List.mem_of_getElem? (i := 1209) (by decide +kernel), List.mem_of_getElem? (i := 1210) (by decide +kernel)⟩
def lw_privs_3 : List (MethodName × Nat) := [(⟨"CreaseLinesModel", "bagsOf", "(I)I"⟩, 33), (⟨"CreaseLinesModel", "worthOf", "(I)I"⟩, 33), (⟨"CreaseLinesModel", "swaps", "(II)I"⟩, 33), (⟨"CreaseLinesModel", "presses", "(II)I"⟩, 33), (⟨"CreaseLinesModel", "draw", "()I"⟩, 33), (⟨"CreaseLinesModel", "goesOn", "(I)V"⟩, 33), (⟨"CreaseLinesModel", "day", "()V"⟩, 33), (⟨"CreaseLinesModel", "isWorn", "(I)V"⟩, 33), (⟨"CreaseLinesModel", "dullest", "()I"⟩, 33), (⟨"CreaseLinesModel", "allSharp", "()I"⟩, 33), (⟨"CreaseLinesModel", "doubled", "()I"⟩, 33), (⟨"CreaseLinesModel", "thinks", "()V"⟩, 33), (⟨"CreaseLinesModel", "putsBack", "()V"⟩, 33), (⟨"CreaseLinesModel", "isCaredFor", "(II)Z"⟩, 33), (⟨"CreaseLinesModel", "sharpOn", "(I)I"⟩, 33), (⟨"CreaseLinesModel", "go", "()V"⟩, 33)]
theorem lw_r3 : ∀ q ∈ lw_privs_3, lw_okq q := List.forall_mem_cons.mpr ⟨lw_p32, List.forall_mem_cons.mpr ⟨lw_p33, List.forall_mem_cons.mpr ⟨lw_p34, List.forall_mem_cons.mpr ⟨lw_p35, List.forall_mem_cons.mpr ⟨lw_p36, List.forall_mem_cons.mpr ⟨lw_p37, List.forall_mem_cons.mpr ⟨lw_p38, List.forall_mem_cons.mpr ⟨lw_p39, List.forall_mem_cons.mpr ⟨lw_p40, List.forall_mem_cons.mpr ⟨lw_p41, List.forall_mem_cons.mpr ⟨lw_p42, List.forall_mem_cons.mpr ⟨lw_p43, List.forall_mem_cons.mpr ⟨lw_p44, List.forall_mem_cons.mpr ⟨lw_p45, List.forall_mem_cons.mpr ⟨lw_p46, List.forall_mem_cons.mpr ⟨lw_p47, fun _ h => absurd h List.not_mem_nil⟩⟩⟩⟩⟩⟩⟩⟩⟩⟩⟩⟩⟩⟩⟩⟩
theorem lw_p48 : lw_okq (⟨"CreaseLinesModel", "isLetter", "(I)Z"⟩, 33) := ⟨⟨by decide +kernel, by decide +kernel⟩, List.mem_of_getElem? (i := 880) (by decide +kernel), List.mem_of_getElem? (i := 1213) (by decide +kernel), List.mem_of_getElem? (i := 1214) (by decide +kernel)⟩
theorem lw_p49 : lw_okq (⟨"CreaseLinesModel", "isFigure", "(I)Z"⟩, 33) := ⟨⟨by decide +kernel, by decide +kernel⟩, List.mem_of_getElem? (i := 880) (by decide +kernel), List.mem_of_getElem? (i := 1217) (by decide +kernel), List.mem_of_getElem? (i := 1218) (by decide +kernel)⟩
theorem lw_p50 : lw_okq (⟨"CreaseLinesModel", "takesKey", "()Z"⟩, 33) := ⟨⟨by decide +kernel, by decide +kernel⟩, List.mem_of_getElem? (i := 880) (by decide +kernel), List.mem_of_getElem? (i := 1221) (by decide +kernel), List.mem_of_getElem? (i := 1222) (by decide +kernel)⟩
theorem lw_p51 : lw_okq (⟨"CreaseLinesModel", "takesE", "()Z"⟩, 33) := ⟨⟨by decide +kernel, by decide +kernel⟩, List.mem_of_getElem? (i := 880) (by decide +kernel), List.mem_of_getElem? (i := 1225) (by decide +kernel), List.mem_of_getElem? (i := 1226) (by decide +kernel)⟩
theorem lw_p52 : lw_okq (⟨"CreaseLinesModel", "takesPart", "()Z"⟩, 33) := ⟨⟨by decide +kernel, by decide +kernel⟩, List.mem_of_getElem? (i := 880) (by decide +kernel), List.mem_of_getElem? (i := 1229) (by decide +kernel), List.mem_of_getElem? (i := 1230) (by decide +kernel)⟩
theorem lw_p53 : lw_okq (⟨"CreaseLinesModel", "nameOf", "(I)I"⟩, 33) := ⟨⟨by decide +kernel, by decide +kernel⟩, List.mem_of_getElem? (i := 880) (by decide +kernel), List.mem_of_getElem? (i := 1233) (by decide +kernel), List.mem_of_getElem? (i := 1234) (by decide +kernel)⟩
theorem lw_p54 : lw_okq (⟨"CreaseLinesModel", "settle", "(I)V"⟩, 33) := ⟨⟨by decide +kernel, by decide +kernel⟩, List.mem_of_getElem? (i := 880) (by decide +kernel), List.mem_of_getElem? (i := 1237) (by decide +kernel), List.mem_of_getElem? (i := 1238) (by decide +kernel)⟩
theorem lw_p55 : lw_okq (⟨"CreaseLinesModel", "notsOpen", "()I"⟩, 33) := ⟨⟨by decide +kernel, by decide +kernel⟩, List.mem_of_getElem? (i := 880) (by decide +kernel), List.mem_of_getElem? (i := 1244) (by decide +kernel), List.mem_of_getElem? (i := 1245) (by decide +kernel)⟩
theorem lw_p56 : lw_okq (⟨"CreaseLinesModel", "signHere", "()I"⟩, 33) := ⟨⟨by decide +kernel, by decide +kernel⟩, List.mem_of_getElem? (i := 880) (by decide +kernel), List.mem_of_getElem? (i := 1248) (by decide +kernel), List.mem_of_getElem? (i := 1249) (by decide +kernel)⟩
def lw_privs_4 : List (MethodName × Nat) := [(⟨"CreaseLinesModel", "isLetter", "(I)Z"⟩, 33), (⟨"CreaseLinesModel", "isFigure", "(I)Z"⟩, 33), (⟨"CreaseLinesModel", "takesKey", "()Z"⟩, 33), (⟨"CreaseLinesModel", "takesE", "()Z"⟩, 33), (⟨"CreaseLinesModel", "takesPart", "()Z"⟩, 33), (⟨"CreaseLinesModel", "nameOf", "(I)I"⟩, 33), (⟨"CreaseLinesModel", "settle", "(I)V"⟩, 33), (⟨"CreaseLinesModel", "notsOpen", "()I"⟩, 33), (⟨"CreaseLinesModel", "signHere", "()I"⟩, 33)]
theorem lw_r4 : ∀ q ∈ lw_privs_4, lw_okq q := List.forall_mem_cons.mpr ⟨lw_p48, List.forall_mem_cons.mpr ⟨lw_p49, List.forall_mem_cons.mpr ⟨lw_p50, List.forall_mem_cons.mpr ⟨lw_p51, List.forall_mem_cons.mpr ⟨lw_p52, List.forall_mem_cons.mpr ⟨lw_p53, List.forall_mem_cons.mpr ⟨lw_p54, List.forall_mem_cons.mpr ⟨lw_p55, List.forall_mem_cons.mpr ⟨lw_p56, fun _ h => absurd h List.not_mem_nil⟩⟩⟩⟩⟩⟩⟩⟩⟩
def lw_privs : List (MethodName × Nat) := lw_privs_1 ++ (lw_privs_2 ++ (lw_privs_3 ++ (lw_privs_4)))
def lw_tbl : List Cond := k2_sels lw_privs ++ tables_1
theorem lw_privs_ok : ∀ q ∈ lw_privs, lw_okq q := by
  show ∀ q ∈ lw_privs_1 ++ (lw_privs_2 ++ (lw_privs_3 ++ (lw_privs_4))), lw_okq q
  exact List.forall_mem_append.mpr ⟨lw_r1, List.forall_mem_append.mpr ⟨lw_r2, List.forall_mem_append.mpr ⟨lw_r3, lw_r4⟩⟩⟩
end
section
def RX0 : String := "CreaseLines$Closet"
def TX0 : u_T := fun k => match k with
  | 0 => ("CreaseLines$Closet", "legs", "[LCreaseLines$Leg;", true)
  | 1 => ("CreaseLines$Closet", "size", "I", false)
  | 2 => ("CreaseLines$Closet", "rules", "[I", true)
  | 3 => ("CreaseLines$Closet", "texts", "[LCreaseLines$Text;", true)
  | 4 => ("CreaseLines$Closet", "textCount", "I", false)
  | 5 => ("CreaseLines$Closet", "counting", "[I", true)
  | 6 => ("CreaseLines$Closet", "pressed", "I", false)
  | 7 => ("CreaseLines$Closet", "twos", "I", false)
  | 8 => ("CreaseLines$Closet", "soaked", "I", false)
  | 9 => ("CreaseLines$Closet", "day", "I", false)
  | 10 => ("CreaseLines$Closet", "z", "I", false)
  | 11 => ("CreaseLines$Closet", "names", "[I", true)
  | _ => ("CreaseLines$Closet", "stack", "[I", true)
def tyX0 : Nat → FieldType := fun k => match k with
  | 0 => .array (.object "CreaseLines$Leg")
  | 1 => .int
  | 2 => .array .int
  | 3 => .array (.object "CreaseLines$Text")
  | 4 => .int
  | 5 => .array .int
  | 6 => .int
  | 7 => .int
  | 8 => .int
  | 9 => .int
  | 10 => .int
  | 11 => .array .int
  | _ => .array .int
abbrev wsX00 : List Cond := u_ws RX0 TX0 13
theorem nmX0 : ∀ a, a < 13 → ∀ b, b < 13 → a ≠ b → (TX0 a).2.1 ≠ (TX0 b).2.1 := by decide +kernel
theorem tyX0_ok : ∀ k, k < 13 → parseFieldDescriptor (TX0 k).2.2.1 = some (tyX0 k) := by decide +kernel
abbrev cX0_init : ByteArray := prog_2_method_1_code
def yX0_init : MethodName := ⟨RX0, "<init>", "()V"⟩
abbrev cX0_takeOver : ByteArray := prog_2_method_2_code
def yX0_takeOver : MethodName := ⟨RX0, "takeOver", "(LCreaseLines$Closet;)V"⟩
abbrev cX0_hasLeg : ByteArray := prog_2_method_3_code
def yX0_hasLeg : MethodName := ⟨RX0, "hasLeg", "(I)Z"⟩
abbrev cX0_addLeg : ByteArray := prog_2_method_4_code
def yX0_addLeg : MethodName := ⟨RX0, "addLeg", "(III)V"⟩
abbrev cX0_addText : ByteArray := prog_2_method_5_code
def yX0_addText : MethodName := ⟨RX0, "addText", "(LCreaseLines$Text;)V"⟩
abbrev cX0_draw : ByteArray := prog_2_method_6_code
def yX0_draw : MethodName := ⟨RX0, "draw", "()I"⟩
abbrev cX0_daysLeft : ByteArray := prog_2_method_7_code
def yX0_daysLeft : MethodName := ⟨RX0, "daysLeft", "(I)I"⟩
abbrev cX0_passDays : ByteArray := prog_2_method_8_code
def yX0_passDays : MethodName := ⟨RX0, "passDays", "(I)V"⟩
abbrev cX0_passDay : ByteArray := prog_2_method_9_code
def yX0_passDay : MethodName := ⟨RX0, "passDay", "()V"⟩
abbrev cX0_wear : ByteArray := prog_2_method_10_code
def yX0_wear : MethodName := ⟨RX0, "wear", "(I)V"⟩
abbrev cX0_soak : ByteArray := prog_2_method_11_code
def yX0_soak : MethodName := ⟨RX0, "soak", "(LCreaseLines$Leg;)V"⟩
abbrev cX0_press : ByteArray := prog_2_method_12_code
def yX0_press : MethodName := ⟨RX0, "press", "(LCreaseLines$Leg;I)Z"⟩
abbrev cX0_takenBy : ByteArray := prog_2_method_13_code
def yX0_takenBy : MethodName := ⟨RX0, "takenBy", "(LCreaseLines$Leg;)I"⟩
abbrev cX0_feeGiven : ByteArray := prog_2_method_14_code
def yX0_feeGiven : MethodName := ⟨RX0, "feeGiven", "()I"⟩
abbrev cX0_fineGiven : ByteArray := prog_2_method_15_code
def yX0_fineGiven : MethodName := ⟨RX0, "fineGiven", "(LCreaseLines$Leg;)I"⟩
abbrev cX0_lawOf : ByteArray := prog_2_method_16_code
def yX0_lawOf : MethodName := ⟨RX0, "lawOf", "(I)LCreaseLines$Text;"⟩
abbrev cX0_dullest : ByteArray := prog_2_method_17_code
def yX0_dullest : MethodName := ⟨RX0, "dullest", "()I"⟩
abbrev cX0_sharpOfAll : ByteArray := prog_2_method_18_code
def yX0_sharpOfAll : MethodName := ⟨RX0, "sharpOfAll", "()I"⟩
abbrev cX0_doubled : ByteArray := prog_2_method_19_code
def yX0_doubled : MethodName := ⟨RX0, "doubled", "()I"⟩
abbrev cX0_waxed : ByteArray := prog_2_method_20_code
def yX0_waxed : MethodName := ⟨RX0, "waxed", "()I"⟩
abbrev cX0_waxThese : ByteArray := prog_2_method_21_code
def yX0_waxThese : MethodName := ⟨RX0, "waxThese", "(I)V"⟩
abbrev cX0_hasDull : ByteArray := prog_2_method_22_code
def yX0_hasDull : MethodName := ⟨RX0, "hasDull", "()Z"⟩
def RX1 : String := "CreaseLines$Leg"
def TX1 : u_T := fun k => match k with
  | 0 => ("CreaseLines$Leg", "kind", "I", false)
  | 1 => ("CreaseLines$Leg", "place", "I", false)
  | 2 => ("CreaseLines$Leg", "sharp", "I", false)
  | 3 => ("CreaseLines$Leg", "tram", "I", false)
  | 4 => ("CreaseLines$Leg", "knee", "I", false)
  | _ => ("CreaseLines$Leg", "holds", "I", false)
def tyX1 : Nat → FieldType := fun k => match k with
  | 0 => .int
  | 1 => .int
  | 2 => .int
  | 3 => .int
  | 4 => .int
  | _ => .int
abbrev wsX10 : List Cond := u_ws RX1 TX1 6
theorem nmX1 : ∀ a, a < 6 → ∀ b, b < 6 → a ≠ b → (TX1 a).2.1 ≠ (TX1 b).2.1 := by decide +kernel
theorem tyX1_ok : ∀ k, k < 6 → parseFieldDescriptor (TX1 k).2.2.1 = some (tyX1 k) := by decide +kernel
abbrev cX1_init : ByteArray := prog_3_method_1_code
def yX1_init : MethodName := ⟨RX1, "<init>", "()V"⟩
abbrev cX1_begin : ByteArray := prog_3_method_2_code
def yX1_begin : MethodName := ⟨RX1, "begin", "(III)V"⟩
abbrev cX1_takeOver : ByteArray := prog_3_method_3_code
def yX1_takeOver : MethodName := ⟨RX1, "takeOver", "(LCreaseLines$Leg;)V"⟩
abbrev cX1_isOf : ByteArray := prog_3_method_4_code
def yX1_isOf : MethodName := ⟨RX1, "isOf", "(I)Z"⟩
abbrev cX1_takes : ByteArray := prog_3_method_5_code
def yX1_takes : MethodName := ⟨RX1, "takes", "(I)I"⟩
abbrev cX1_loses : ByteArray := prog_3_method_6_code
def yX1_loses : MethodName := ⟨RX1, "loses", "()I"⟩
abbrev cX1_bags : ByteArray := prog_3_method_7_code
def yX1_bags : MethodName := ⟨RX1, "bags", "()I"⟩
abbrev cX1_worth : ByteArray := prog_3_method_8_code
def yX1_worth : MethodName := ⟨RX1, "worth", "()I"⟩
def RX2 : String := "CreaseLines$Reader"
def TX2 : u_T := fun k => match k with
  | 0 => ("CreaseLines$Reader", "bytes", "[I", false)
  | 1 => ("CreaseLines$Reader", "length", "I", false)
  | 2 => ("CreaseLines$Reader", "sort", "I", false)
  | 3 => ("CreaseLines$Reader", "start", "I", false)
  | 4 => ("CreaseLines$Reader", "end", "I", false)
  | 5 => ("CreaseLines$Reader", "steps", "[I", true)
  | 6 => ("CreaseLines$Reader", "stepCount", "I", false)
  | 7 => ("CreaseLines$Reader", "pile", "[I", true)
  | 8 => ("CreaseLines$Reader", "pileHeight", "I", false)
  | 9 => ("CreaseLines$Reader", "compared", "[Z", true)
  | 10 => ("CreaseLines$Reader", "open", "I", false)
  | 11 => ("CreaseLines$Reader", "nots", "I", false)
  | 12 => ("CreaseLines$Reader", "wantsPiece", "Z", false)
  | 13 => ("CreaseLines$Reader", "key", "I", false)
  | _ => ("CreaseLines$Reader", "pieces", "I", false)
def tyX2 : Nat → FieldType := fun k => match k with
  | 0 => .array .int
  | 1 => .int
  | 2 => .int
  | 3 => .int
  | 4 => .int
  | 5 => .array .int
  | 6 => .int
  | 7 => .array .int
  | 8 => .int
  | 9 => .array .boolean
  | 10 => .int
  | 11 => .int
  | 12 => .boolean
  | 13 => .int
  | _ => .int
abbrev wsX20 : List Cond := u_ws RX2 TX2 15
theorem nmX2 : ∀ a, a < 15 → ∀ b, b < 15 → a ≠ b → (TX2 a).2.1 ≠ (TX2 b).2.1 := by decide +kernel
theorem tyX2_ok : ∀ k, k < 15 → parseFieldDescriptor (TX2 k).2.2.1 = some (tyX2 k) := by decide +kernel
abbrev cX2_init : ByteArray := prog_4_method_1_code
def yX2_init : MethodName := ⟨RX2, "<init>", "()V"⟩
abbrev cX2_faultOf : ByteArray := prog_4_method_2_code
def yX2_faultOf : MethodName := ⟨RX2, "faultOf", "([II)I"⟩
abbrev cX2_textRead : ByteArray := prog_4_method_3_code
def yX2_textRead : MethodName := ⟨RX2, "textRead", "()LCreaseLines$Text;"⟩
abbrev cX2_begin : ByteArray := prog_4_method_4_code
def yX2_begin : MethodName := ⟨RX2, "begin", "([II)V"⟩
abbrev cX2_isWhole : ByteArray := prog_4_method_5_code
def yX2_isWhole : MethodName := ⟨RX2, "isWhole", "()Z"⟩
abbrev cX2_nextWord : ByteArray := prog_4_method_6_code
def yX2_nextWord : MethodName := ⟨RX2, "nextWord", "()V"⟩
abbrev cX2_sortOf : ByteArray := prog_4_method_7_code
def yX2_sortOf : MethodName := ⟨RX2, "sortOf", "(I)I"⟩
abbrev cX2_keyOfWord : ByteArray := prog_4_method_8_code
def yX2_keyOfWord : MethodName := ⟨RX2, "keyOfWord", "()I"⟩
abbrev cX2_isWord : ByteArray := prog_4_method_9_code
def yX2_isWord : MethodName := ⟨RX2, "isWord", "(Ljava/lang/String;)Z"⟩
abbrev cX2_takesPiece : ByteArray := prog_4_method_10_code
def yX2_takesPiece : MethodName := ⟨RX2, "takesPiece", "()Z"⟩
abbrev cX2_takesNumber : ByteArray := prog_4_method_11_code
def yX2_takesNumber : MethodName := ⟨RX2, "takesNumber", "()Z"⟩
abbrev cX2_takesName : ByteArray := prog_4_method_12_code
def yX2_takesName : MethodName := ⟨RX2, "takesName", "()Z"⟩
abbrev cX2_namesOfKey : ByteArray := prog_4_method_13_code
def yX2_namesOfKey : MethodName := ⟨RX2, "namesOfKey", "()Ljava/lang/String;"⟩
abbrev cX2_takesOpening : ByteArray := prog_4_method_14_code
def yX2_takesOpening : MethodName := ⟨RX2, "takesOpening", "()Z"⟩
abbrev cX2_endLeaf : ByteArray := prog_4_method_15_code
def yX2_endLeaf : MethodName := ⟨RX2, "endLeaf", "(I)V"⟩
abbrev cX2_endPiece : ByteArray := prog_4_method_16_code
def yX2_endPiece : MethodName := ⟨RX2, "endPiece", "()V"⟩
abbrev cX2_takesSign : ByteArray := prog_4_method_17_code
def yX2_takesSign : MethodName := ⟨RX2, "takesSign", "()Z"⟩
abbrev cX2_takesClosing : ByteArray := prog_4_method_18_code
def yX2_takesClosing : MethodName := ⟨RX2, "takesClosing", "()Z"⟩
abbrev cX2_strengthOf : ByteArray := prog_4_method_19_code
def yX2_strengthOf : MethodName := ⟨RX2, "strengthOf", "(I)I"⟩
abbrev cX2_unpile : ByteArray := prog_4_method_20_code
def yX2_unpile : MethodName := ⟨RX2, "unpile", "(I)V"⟩
abbrev cX2_putOnPile : ByteArray := prog_4_method_21_code
def yX2_putOnPile : MethodName := ⟨RX2, "putOnPile", "(I)V"⟩
abbrev cX2_addStep : ByteArray := prog_4_method_22_code
def yX2_addStep : MethodName := ⟨RX2, "addStep", "(I)V"⟩
def RX3 : String := "CreaseLines$Sheet"
def TX3 : u_T := fun k => match k with
  | 0 => ("CreaseLines$Sheet", "sort", "I", false)
  | 1 => ("CreaseLines$Sheet", "size", "I", false)
  | _ => ("CreaseLines$Sheet", "places", "[I", true)
def tyX3 : Nat → FieldType := fun k => match k with
  | 0 => .int
  | 1 => .int
  | _ => .array .int
abbrev wsX30 : List Cond := u_ws RX3 TX3 3
theorem nmX3 : ∀ a, a < 3 → ∀ b, b < 3 → a ≠ b → (TX3 a).2.1 ≠ (TX3 b).2.1 := by decide +kernel
theorem tyX3_ok : ∀ k, k < 3 → parseFieldDescriptor (TX3 k).2.2.1 = some (tyX3 k) := by decide +kernel
abbrev cX3_init : ByteArray := prog_5_method_1_code
def yX3_init : MethodName := ⟨RX3, "<init>", "()V"⟩
abbrev cX3_begin : ByteArray := prog_5_method_2_code
def yX3_begin : MethodName := ⟨RX3, "begin", "(II)V"⟩
abbrev cX3_takeOver : ByteArray := prog_5_method_3_code
def yX3_takeOver : MethodName := ⟨RX3, "takeOver", "(LCreaseLines$Sheet;)V"⟩
abbrev cX3_isMissing : ByteArray := prog_5_method_4_code
def yX3_isMissing : MethodName := ⟨RX3, "isMissing", "()Z"⟩
abbrev cX3_hasPlace : ByteArray := prog_5_method_5_code
def yX3_hasPlace : MethodName := ⟨RX3, "hasPlace", "(I)Z"⟩
abbrev cX3_hasPlaces : ByteArray := prog_5_method_6_code
def yX3_hasPlaces : MethodName := ⟨RX3, "hasPlaces", "(II)Z"⟩
abbrev cX3_isNumber : ByteArray := prog_5_method_7_code
def yX3_isNumber : MethodName := ⟨RX3, "isNumber", "(I)Z"⟩
def RX4 : String := "CreaseLines$Slot"
def TX4 : u_T := fun k => match k with
  | 0 => ("CreaseLines$Slot", "thing", "I", false)
  | 1 => ("CreaseLines$Slot", "leg", "LCreaseLines$Leg;", true)
  | 2 => ("CreaseLines$Slot", "row", "LCreaseLines$Sheet;", true)
  | _ => ("CreaseLines$Slot", "number", "I", false)
def tyX4 : Nat → FieldType := fun k => match k with
  | 0 => .int
  | 1 => .object "CreaseLines$Leg"
  | 2 => .object "CreaseLines$Sheet"
  | _ => .int
abbrev wsX40 : List Cond := u_ws RX4 TX4 4
theorem nmX4 : ∀ a, a < 4 → ∀ b, b < 4 → a ≠ b → (TX4 a).2.1 ≠ (TX4 b).2.1 := by decide +kernel
theorem tyX4_ok : ∀ k, k < 4 → parseFieldDescriptor (TX4 k).2.2.1 = some (tyX4 k) := by decide +kernel
abbrev cX4_init : ByteArray := prog_6_method_1_code
def yX4_init : MethodName := ⟨RX4, "<init>", "()V"⟩
def RX5 : String := "CreaseLines$Text"
def TX5 : u_T := fun k => match k with
  | 0 => ("CreaseLines$Text", "key", "I", true)
  | 1 => ("CreaseLines$Text", "pieces", "I", true)
  | _ => ("CreaseLines$Text", "steps", "[I", true)
def tyX5 : Nat → FieldType := fun k => match k with
  | 0 => .int
  | 1 => .int
  | _ => .array .int
abbrev wsX50 : List Cond := u_ws RX5 TX5 3
theorem nmX5 : ∀ a, a < 3 → ∀ b, b < 3 → a ≠ b → (TX5 a).2.1 ≠ (TX5 b).2.1 := by decide +kernel
theorem tyX5_ok : ∀ k, k < 3 → parseFieldDescriptor (TX5 k).2.2.1 = some (tyX5 k) := by decide +kernel
abbrev cX5_init : ByteArray := prog_7_method_1_code
def yX5_init : MethodName := ⟨RX5, "<init>", "(II[I)V"⟩
abbrev cX5_value : ByteArray := prog_7_method_2_code
def yX5_value : MethodName := ⟨RX5, "value", "([I[I)I"⟩
abbrev cX5_joined : ByteArray := prog_7_method_3_code
def yX5_joined : MethodName := ⟨RX5, "joined", "(III)I"⟩
def RX6 : String := "CreaseLines"
def TX6 : u_T := fun k => match k with
  | 0 => ("CreaseLines", "now", "LCreaseLines$Closet;", true)
  | 1 => ("CreaseLines", "image", "LCreaseLines$Closet;", true)
  | 2 => ("CreaseLines", "thought", "LCreaseLines$Closet;", true)
  | 3 => ("CreaseLines", "imageKept", "Z", false)
  | 4 => ("CreaseLines", "differs", "[I", true)
  | 5 => ("CreaseLines", "tape", "[I", true)
  | 6 => ("CreaseLines", "tapeLength", "I", false)
  | 7 => ("CreaseLines", "reader", "LCreaseLines$Reader;", true)
  | 8 => ("CreaseLines", "sheets", "[LCreaseLines$Sheet;", true)
  | 9 => ("CreaseLines", "slots", "[LCreaseLines$Slot;", true)
  | 10 => ("CreaseLines", "waiting", "[I", true)
  | _ => ("CreaseLines", "waitingCount", "I", false)
def tyX6 : Nat → FieldType := fun k => match k with
  | 0 => .object "CreaseLines$Closet"
  | 1 => .object "CreaseLines$Closet"
  | 2 => .object "CreaseLines$Closet"
  | 3 => .boolean
  | 4 => .array .int
  | 5 => .array .int
  | 6 => .int
  | 7 => .object "CreaseLines$Reader"
  | 8 => .array (.object "CreaseLines$Sheet")
  | 9 => .array (.object "CreaseLines$Slot")
  | 10 => .array .int
  | _ => .int
abbrev wsX60 : List Cond := u_ws RX6 TX6 12
theorem nmX6 : ∀ a, a < 12 → ∀ b, b < 12 → a ≠ b → (TX6 a).2.1 ≠ (TX6 b).2.1 := by decide +kernel
theorem tyX6_ok : ∀ k, k < 12 → parseFieldDescriptor (TX6 k).2.2.1 = some (tyX6 k) := by decide +kernel
abbrev cX6_init : ByteArray := prog_1_method_1_code
def yX6_init : MethodName := ⟨RX6, "<init>", "()V"⟩
abbrev cX6_leg : ByteArray := prog_1_method_2_code
def yX6_leg : MethodName := ⟨RX6, "leg", "(III)I"⟩
abbrev cX6_told : ByteArray := prog_1_method_3_code
def yX6_told : MethodName := ⟨RX6, "told", "(II)I"⟩
abbrev cX6_as : ByteArray := prog_1_method_4_code
def yX6_as : MethodName := ⟨RX6, "as", "(II)I"⟩
abbrev cX6_turns : ByteArray := prog_1_method_5_code
def yX6_turns : MethodName := ⟨RX6, "turns", "(II)I"⟩
abbrev cX6_set : ByteArray := prog_1_method_6_code
def yX6_set : MethodName := ⟨RX6, "set", "(III)I"⟩
abbrev cX6_mostOf : ByteArray := prog_1_method_7_code
def yX6_mostOf : MethodName := ⟨RX6, "mostOf", "(I)I"⟩
abbrev cX6_irons : ByteArray := prog_1_method_8_code
def yX6_irons : MethodName := ⟨RX6, "irons", "(II)I"⟩
abbrev cX6_rule : ByteArray := prog_1_method_9_code
def yX6_rule : MethodName := ⟨RX6, "rule", "(II)I"⟩
abbrev cX6_deal : ByteArray := prog_1_method_10_code
def yX6_deal : MethodName := ⟨RX6, "deal", "(I)I"⟩
abbrev cX6_seed : ByteArray := prog_1_method_11_code
def yX6_seed : MethodName := ⟨RX6, "seed", "(I)I"⟩
abbrev cX6_days : ByteArray := prog_1_method_12_code
def yX6_days : MethodName := ⟨RX6, "days", "(I)I"⟩
abbrev cX6_closet : ByteArray := prog_1_method_13_code
def yX6_closet : MethodName := ⟨RX6, "closet", "(I)I"⟩
abbrev cX6_behind : ByteArray := prog_1_method_14_code
def yX6_behind : MethodName := ⟨RX6, "behind", "(II)I"⟩
abbrev cX6_dulls : ByteArray := prog_1_method_15_code
def yX6_dulls : MethodName := ⟨RX6, "dulls", "(II)I"⟩
abbrev cX6_doubles : ByteArray := prog_1_method_16_code
def yX6_doubles : MethodName := ⟨RX6, "doubles", "(I)I"⟩
abbrev cX6_wax : ByteArray := prog_1_method_17_code
def yX6_wax : MethodName := ⟨RX6, "wax", "(I)I"⟩
abbrev cX6_iron : ByteArray := prog_1_method_18_code
def yX6_iron : MethodName := ⟨RX6, "iron", "(II)I"⟩
abbrev cX6_first : ByteArray := prog_1_method_19_code
def yX6_first : MethodName := ⟨RX6, "first", "(II)I"⟩
abbrev cX6_becomes : ByteArray := prog_1_method_20_code
def yX6_becomes : MethodName := ⟨RX6, "becomes", "(III)I"⟩
abbrev cX6_like : ByteArray := prog_1_method_21_code
def yX6_like : MethodName := ⟨RX6, "like", "(II)I"⟩
abbrev cX6_sumDifferences : ByteArray := prog_1_method_22_code
def yX6_sumDifferences : MethodName := ⟨RX6, "sumDifferences", "(LCreaseLines$Sheet;)V"⟩
abbrev cX6_fee : ByteArray := prog_1_method_23_code
def yX6_fee : MethodName := ⟨RX6, "fee", "()I"⟩
abbrev cX6_fine : ByteArray := prog_1_method_24_code
def yX6_fine : MethodName := ⟨RX6, "fine", "(I)I"⟩
abbrev cX6_feed : ByteArray := prog_1_method_25_code
def yX6_feed : MethodName := ⟨RX6, "feed", "(III)I"⟩
abbrev cX6_feedFour : ByteArray := prog_1_method_26_code
def yX6_feedFour : MethodName := ⟨RX6, "feedFour", "(I)V"⟩
abbrev cX6_trim : ByteArray := prog_1_method_27_code
def yX6_trim : MethodName := ⟨RX6, "trim", "(I)I"⟩
abbrev cX6_text : ByteArray := prog_1_method_28_code
def yX6_text : MethodName := ⟨RX6, "text", "()I"⟩
abbrev cX6_textTold : ByteArray := prog_1_method_29_code
def yX6_textTold : MethodName := ⟨RX6, "textTold", "(II)I"⟩
abbrev cX6_why : ByteArray := prog_1_method_30_code
def yX6_why : MethodName := ⟨RX6, "why", "(I)I"⟩
abbrev cX6_sheet : ByteArray := prog_1_method_31_code
def yX6_sheet : MethodName := ⟨RX6, "sheet", "(III)I"⟩
abbrev cX6_mark : ByteArray := prog_1_method_32_code
def yX6_mark : MethodName := ⟨RX6, "mark", "(III)I"⟩
abbrev cX6_pour : ByteArray := prog_1_method_33_code
def yX6_pour : MethodName := ⟨RX6, "pour", "(I)I"⟩
abbrev cX6_reads : ByteArray := prog_1_method_34_code
def yX6_reads : MethodName := ⟨RX6, "reads", "(I)I"⟩
abbrev cX6_copy : ByteArray := prog_1_method_35_code
def yX6_copy : MethodName := ⟨RX6, "copy", "(IIIII)I"⟩
abbrev cX6_lay : ByteArray := prog_1_method_36_code
def yX6_lay : MethodName := ⟨RX6, "lay", "(III)I"⟩
abbrev cX6_ask : ByteArray := prog_1_method_37_code
def yX6_ask : MethodName := ⟨RX6, "ask", "(II)I"⟩
abbrev cX6_item : ByteArray := prog_1_method_38_code
def yX6_item : MethodName := ⟨RX6, "item", "(II)I"⟩
abbrev cX6_rest : ByteArray := prog_1_method_39_code
def yX6_rest : MethodName := ⟨RX6, "rest", "(II)I"⟩
abbrev cX6_tell : ByteArray := prog_1_method_40_code
def yX6_tell : MethodName := ⟨RX6, "tell", "(I)I"⟩
abbrev cX6_check : ByteArray := prog_1_method_41_code
def yX6_check : MethodName := ⟨RX6, "check", "(I)I"⟩
abbrev cX6_keep : ByteArray := prog_1_method_42_code
def yX6_keep : MethodName := ⟨RX6, "keep", "()I"⟩
abbrev cX6_back : ByteArray := prog_1_method_43_code
def yX6_back : MethodName := ⟨RX6, "back", "()I"⟩
abbrev cX6_count : ByteArray := prog_1_method_44_code
def yX6_count : MethodName := ⟨RX6, "count", "(I)I"⟩
abbrev cX6_beginThought : ByteArray := prog_1_method_45_code
def yX6_beginThought : MethodName := ⟨RX6, "beginThought", "()LCreaseLines$Closet;"⟩
abbrev cX6_isWithin : ByteArray := prog_1_method_46_code
def yX6_isWithin : MethodName := ⟨RX6, "isWithin", "(III)Z"⟩
abbrev cX6_isKind : ByteArray := prog_1_method_47_code
def yX6_isKind : MethodName := ⟨RX6, "isKind", "(I)Z"⟩
abbrev cX6_isSheet : ByteArray := prog_1_method_48_code
def yX6_isSheet : MethodName := ⟨RX6, "isSheet", "(I)Z"⟩
abbrev cX6_isSlot : ByteArray := prog_1_method_49_code
def yX6_isSlot : MethodName := ⟨RX6, "isSlot", "(I)Z"⟩
abbrev cX6_heldWithin : ByteArray := prog_1_method_50_code
def yX6_heldWithin : MethodName := ⟨RX6, "heldWithin", "(I)I"⟩
def RX7 : String := "CreaseLinesModel"
def TX7 : u_T := fun k => match k with
  | 0 => ("CreaseLinesModel", "now", "[I", true)
  | 1 => ("CreaseLinesModel", "image", "[I", true)
  | 2 => ("CreaseLinesModel", "aside", "[I", true)
  | 3 => ("CreaseLinesModel", "hasImage", "Z", false)
  | 4 => ("CreaseLinesModel", "unlike", "[I", true)
  | 5 => ("CreaseLinesModel", "tape", "[I", true)
  | 6 => ("CreaseLinesModel", "taped", "I", false)
  | 7 => ("CreaseLinesModel", "next", "I", false)
  | 8 => ("CreaseLinesModel", "from", "I", false)
  | 9 => ("CreaseLinesModel", "token", "I", false)
  | 10 => ("CreaseLinesModel", "value", "I", false)
  | 11 => ("CreaseLinesModel", "ended", "I", false)
  | 12 => ("CreaseLinesModel", "key", "I", false)
  | 13 => ("CreaseLinesModel", "keys", "[C", true)
  | 14 => ("CreaseLinesModel", "keyAt", "[I", true)
  | 15 => ("CreaseLinesModel", "code", "[I", true)
  | 16 => ("CreaseLinesModel", "codes", "I", false)
  | 17 => ("CreaseLinesModel", "atoms", "I", false)
  | 18 => ("CreaseLinesModel", "waits", "[I", true)
  | 19 => ("CreaseLinesModel", "held", "I", false)
  | 20 => ("CreaseLinesModel", "tested", "[Z", true)
  | 21 => ("CreaseLinesModel", "stack", "[I", true)
  | 22 => ("CreaseLinesModel", "facts", "[I", true)
  | 23 => ("CreaseLinesModel", "sorts", "[I", true)
  | 24 => ("CreaseLinesModel", "sizes", "[I", true)
  | 25 => ("CreaseLinesModel", "cells", "[I", true)
  | 26 => ("CreaseLinesModel", "holds", "[I", true)
  | 27 => ("CreaseLinesModel", "holdsA", "[I", true)
  | 28 => ("CreaseLinesModel", "holdsB", "[I", true)
  | 29 => ("CreaseLinesModel", "heldCells", "[I", true)
  | 30 => ("CreaseLinesModel", "moved", "[I", true)
  | 31 => ("CreaseLinesModel", "tells", "[I", true)
  | _ => ("CreaseLinesModel", "waiting", "I", false)
def tyX7 : Nat → FieldType := fun k => match k with
  | 0 => .array .int
  | 1 => .array .int
  | 2 => .array .int
  | 3 => .boolean
  | 4 => .array .int
  | 5 => .array .int
  | 6 => .int
  | 7 => .int
  | 8 => .int
  | 9 => .int
  | 10 => .int
  | 11 => .int
  | 12 => .int
  | 13 => .array .char
  | 14 => .array .int
  | 15 => .array .int
  | 16 => .int
  | 17 => .int
  | 18 => .array .int
  | 19 => .int
  | 20 => .array .boolean
  | 21 => .array .int
  | 22 => .array .int
  | 23 => .array .int
  | 24 => .array .int
  | 25 => .array .int
  | 26 => .array .int
  | 27 => .array .int
  | 28 => .array .int
  | 29 => .array .int
  | 30 => .array .int
  | 31 => .array .int
  | _ => .int
abbrev wsX70 : List Cond := u_ws RX7 TX7 33
theorem nmX7 : ∀ a, a < 33 → ∀ b, b < 33 → a ≠ b → (TX7 a).2.1 ≠ (TX7 b).2.1 := by decide +kernel
theorem tyX7_ok : ∀ k, k < 33 → parseFieldDescriptor (TX7 k).2.2.1 = some (tyX7 k) := by decide +kernel
abbrev cX7_init : ByteArray := prog_9_method_1_code
def yX7_init : MethodName := ⟨RX7, "<init>", "()V"⟩
abbrev cX7_in : ByteArray := prog_9_method_2_code
def yX7_in : MethodName := ⟨RX7, "in", "(III)Z"⟩
abbrev cX7_within : ByteArray := prog_9_method_3_code
def yX7_within : MethodName := ⟨RX7, "within", "(III)I"⟩
abbrev cX7_copyAll : ByteArray := prog_9_method_4_code
def yX7_copyAll : MethodName := ⟨RX7, "copyAll", "([I[I)V"⟩
abbrev cX7_bits : ByteArray := prog_9_method_5_code
def yX7_bits : MethodName := ⟨RX7, "bits", "(I)I"⟩
abbrev cX7_isLeg : ByteArray := prog_9_method_6_code
def yX7_isLeg : MethodName := ⟨RX7, "isLeg", "(I)Z"⟩
abbrev cX7_of : ByteArray := prog_9_method_7_code
def yX7_of : MethodName := ⟨RX7, "of", "(II)I"⟩
abbrev cX7_put : ByteArray := prog_9_method_8_code
def yX7_put : MethodName := ⟨RX7, "put", "(III)V"⟩
abbrev cX7_swaps : ByteArray := prog_9_method_9_code
def yX7_swaps : MethodName := ⟨RX7, "swaps", "(II)I"⟩
abbrev cX7_off : ByteArray := prog_9_method_10_code
def yX7_off : MethodName := ⟨RX7, "off", "(I)I"⟩
abbrev cX7_plainPress : ByteArray := prog_9_method_11_code
def yX7_plainPress : MethodName := ⟨RX7, "plainPress", "(I)I"⟩
abbrev cX7_takesBy : ByteArray := prog_9_method_12_code
def yX7_takesBy : MethodName := ⟨RX7, "takesBy", "(I)I"⟩
abbrev cX7_losesOf : ByteArray := prog_9_method_13_code
def yX7_losesOf : MethodName := ⟨RX7, "losesOf", "(I)I"⟩
abbrev cX7_bagsOf : ByteArray := prog_9_method_14_code
def yX7_bagsOf : MethodName := ⟨RX7, "bagsOf", "(I)I"⟩
abbrev cX7_worthOf : ByteArray := prog_9_method_15_code
def yX7_worthOf : MethodName := ⟨RX7, "worthOf", "(I)I"⟩
abbrev cX7_comes : ByteArray := prog_9_method_16_code
def yX7_comes : MethodName := ⟨RX7, "comes", "(III)I"⟩
abbrev cX7_leg : ByteArray := prog_9_method_17_code
def yX7_leg : MethodName := ⟨RX7, "leg", "(III)I"⟩
abbrev cX7_told : ByteArray := prog_9_method_18_code
def yX7_told : MethodName := ⟨RX7, "told", "(II)I"⟩
abbrev cX7_isUnder : ByteArray := prog_9_method_19_code
def yX7_isUnder : MethodName := ⟨RX7, "isUnder", "(II)Z"⟩
abbrev cX7_as : ByteArray := prog_9_method_20_code
def yX7_as : MethodName := ⟨RX7, "as", "(II)I"⟩
abbrev cX7_turns : ByteArray := prog_9_method_21_code
def yX7_turns : MethodName := ⟨RX7, "turns", "(II)I"⟩
abbrev cX7_set : ByteArray := prog_9_method_22_code
def yX7_set : MethodName := ⟨RX7, "set", "(III)I"⟩
abbrev cX7_presses : ByteArray := prog_9_method_23_code
def yX7_presses : MethodName := ⟨RX7, "presses", "(II)I"⟩
abbrev cX7_irons : ByteArray := prog_9_method_24_code
def yX7_irons : MethodName := ⟨RX7, "irons", "(II)I"⟩
abbrev cX7_rule : ByteArray := prog_9_method_25_code
def yX7_rule : MethodName := ⟨RX7, "rule", "(II)I"⟩
abbrev cX7_draw : ByteArray := prog_9_method_26_code
def yX7_draw : MethodName := ⟨RX7, "draw", "()I"⟩
abbrev cX7_deal : ByteArray := prog_9_method_27_code
def yX7_deal : MethodName := ⟨RX7, "deal", "(I)I"⟩
abbrev cX7_seed : ByteArray := prog_9_method_28_code
def yX7_seed : MethodName := ⟨RX7, "seed", "(I)I"⟩
abbrev cX7_dullest : ByteArray := prog_9_method_29_code
def yX7_dullest : MethodName := ⟨RX7, "dullest", "()I"⟩
abbrev cX7_isWorn : ByteArray := prog_9_method_30_code
def yX7_isWorn : MethodName := ⟨RX7, "isWorn", "(I)V"⟩
abbrev cX7_day : ByteArray := prog_9_method_31_code
def yX7_day : MethodName := ⟨RX7, "day", "()V"⟩
abbrev cX7_goesOn : ByteArray := prog_9_method_32_code
def yX7_goesOn : MethodName := ⟨RX7, "goesOn", "(I)V"⟩
abbrev cX7_days : ByteArray := prog_9_method_33_code
def yX7_days : MethodName := ⟨RX7, "days", "(I)I"⟩
abbrev cX7_allSharp : ByteArray := prog_9_method_34_code
def yX7_allSharp : MethodName := ⟨RX7, "allSharp", "()I"⟩
abbrev cX7_doubled : ByteArray := prog_9_method_35_code
def yX7_doubled : MethodName := ⟨RX7, "doubled", "()I"⟩
abbrev cX7_closet : ByteArray := prog_9_method_36_code
def yX7_closet : MethodName := ⟨RX7, "closet", "(I)I"⟩
abbrev cX7_thinks : ByteArray := prog_9_method_37_code
def yX7_thinks : MethodName := ⟨RX7, "thinks", "()V"⟩
abbrev cX7_putsBack : ByteArray := prog_9_method_38_code
def yX7_putsBack : MethodName := ⟨RX7, "putsBack", "()V"⟩
abbrev cX7_behind : ByteArray := prog_9_method_39_code
def yX7_behind : MethodName := ⟨RX7, "behind", "(II)I"⟩
abbrev cX7_dulls : ByteArray := prog_9_method_40_code
def yX7_dulls : MethodName := ⟨RX7, "dulls", "(II)I"⟩
abbrev cX7_doubles : ByteArray := prog_9_method_41_code
def yX7_doubles : MethodName := ⟨RX7, "doubles", "(I)I"⟩
abbrev cX7_isCaredFor : ByteArray := prog_9_method_42_code
def yX7_isCaredFor : MethodName := ⟨RX7, "isCaredFor", "(II)Z"⟩
abbrev cX7_wax : ByteArray := prog_9_method_43_code
def yX7_wax : MethodName := ⟨RX7, "wax", "(I)I"⟩
abbrev cX7_sharpOn : ByteArray := prog_9_method_44_code
def yX7_sharpOn : MethodName := ⟨RX7, "sharpOn", "(I)I"⟩
abbrev cX7_iron : ByteArray := prog_9_method_45_code
def yX7_iron : MethodName := ⟨RX7, "iron", "(II)I"⟩
abbrev cX7_first : ByteArray := prog_9_method_46_code
def yX7_first : MethodName := ⟨RX7, "first", "(II)I"⟩
abbrev cX7_becomes : ByteArray := prog_9_method_47_code
def yX7_becomes : MethodName := ⟨RX7, "becomes", "(III)I"⟩
abbrev cX7_like : ByteArray := prog_9_method_48_code
def yX7_like : MethodName := ⟨RX7, "like", "(II)I"⟩
abbrev cX7_fee : ByteArray := prog_9_method_49_code
def yX7_fee : MethodName := ⟨RX7, "fee", "()I"⟩
abbrev cX7_fine : ByteArray := prog_9_method_50_code
def yX7_fine : MethodName := ⟨RX7, "fine", "(I)I"⟩
abbrev cX7_feed : ByteArray := prog_9_method_51_code
def yX7_feed : MethodName := ⟨RX7, "feed", "(III)I"⟩
abbrev cX7_trim : ByteArray := prog_9_method_52_code
def yX7_trim : MethodName := ⟨RX7, "trim", "(I)I"⟩
abbrev cX7_isLetter : ByteArray := prog_9_method_53_code
def yX7_isLetter : MethodName := ⟨RX7, "isLetter", "(I)Z"⟩
abbrev cX7_isFigure : ByteArray := prog_9_method_54_code
def yX7_isFigure : MethodName := ⟨RX7, "isFigure", "(I)Z"⟩
abbrev cX7_go : ByteArray := prog_9_method_55_code
def yX7_go : MethodName := ⟨RX7, "go", "()V"⟩
abbrev cX7_takesKey : ByteArray := prog_9_method_56_code
def yX7_takesKey : MethodName := ⟨RX7, "takesKey", "()Z"⟩
abbrev cX7_nameOf : ByteArray := prog_9_method_57_code
def yX7_nameOf : MethodName := ⟨RX7, "nameOf", "(I)I"⟩
abbrev cX7_rank : ByteArray := prog_9_method_58_code
def yX7_rank : MethodName := ⟨RX7, "rank", "(I)I"⟩
abbrev cX7_settle : ByteArray := prog_9_method_59_code
def yX7_settle : MethodName := ⟨RX7, "settle", "(I)V"⟩
abbrev cX7_signHere : ByteArray := prog_9_method_60_code
def yX7_signHere : MethodName := ⟨RX7, "signHere", "()I"⟩
abbrev cX7_takesPart : ByteArray := prog_9_method_61_code
def yX7_takesPart : MethodName := ⟨RX7, "takesPart", "()Z"⟩
abbrev cX7_takesE : ByteArray := prog_9_method_62_code
def yX7_takesE : MethodName := ⟨RX7, "takesE", "()Z"⟩
abbrev cX7_notsOpen : ByteArray := prog_9_method_63_code
def yX7_notsOpen : MethodName := ⟨RX7, "notsOpen", "()I"⟩
abbrev cX7_text : ByteArray := prog_9_method_64_code
def yX7_text : MethodName := ⟨RX7, "text", "()I"⟩
abbrev cX7_textTold : ByteArray := prog_9_method_65_code
def yX7_textTold : MethodName := ⟨RX7, "textTold", "(II)I"⟩
abbrev cX7_counts : ByteArray := prog_9_method_66_code
def yX7_counts : MethodName := ⟨RX7, "counts", "(I)I"⟩
abbrev cX7_why : ByteArray := prog_9_method_67_code
def yX7_why : MethodName := ⟨RX7, "why", "(I)I"⟩
abbrev cX7_two : ByteArray := prog_9_method_68_code
def yX7_two : MethodName := ⟨RX7, "two", "(III)I"⟩
abbrev cX7_worksOut : ByteArray := prog_9_method_69_code
def yX7_worksOut : MethodName := ⟨RX7, "worksOut", "(I)I"⟩
abbrev cX7_isSheet : ByteArray := prog_9_method_70_code
def yX7_isSheet : MethodName := ⟨RX7, "isSheet", "(I)Z"⟩
abbrev cX7_isSlot : ByteArray := prog_9_method_71_code
def yX7_isSlot : MethodName := ⟨RX7, "isSlot", "(I)Z"⟩
abbrev cX7_sheet : ByteArray := prog_9_method_72_code
def yX7_sheet : MethodName := ⟨RX7, "sheet", "(III)I"⟩
abbrev cX7_mark : ByteArray := prog_9_method_73_code
def yX7_mark : MethodName := ⟨RX7, "mark", "(III)I"⟩
abbrev cX7_pour : ByteArray := prog_9_method_74_code
def yX7_pour : MethodName := ⟨RX7, "pour", "(I)I"⟩
abbrev cX7_reads : ByteArray := prog_9_method_75_code
def yX7_reads : MethodName := ⟨RX7, "reads", "(I)I"⟩
abbrev cX7_copy : ByteArray := prog_9_method_76_code
def yX7_copy : MethodName := ⟨RX7, "copy", "(IIIII)I"⟩
abbrev cX7_lay : ByteArray := prog_9_method_77_code
def yX7_lay : MethodName := ⟨RX7, "lay", "(III)I"⟩
abbrev cX7_ask : ByteArray := prog_9_method_78_code
def yX7_ask : MethodName := ⟨RX7, "ask", "(II)I"⟩
abbrev cX7_item : ByteArray := prog_9_method_79_code
def yX7_item : MethodName := ⟨RX7, "item", "(II)I"⟩
abbrev cX7_rest : ByteArray := prog_9_method_80_code
def yX7_rest : MethodName := ⟨RX7, "rest", "(II)I"⟩
abbrev cX7_tell : ByteArray := prog_9_method_81_code
def yX7_tell : MethodName := ⟨RX7, "tell", "(I)I"⟩
abbrev cX7_check : ByteArray := prog_9_method_82_code
def yX7_check : MethodName := ⟨RX7, "check", "(I)I"⟩
abbrev cX7_keep : ByteArray := prog_9_method_83_code
def yX7_keep : MethodName := ⟨RX7, "keep", "()I"⟩
abbrev cX7_back : ByteArray := prog_9_method_84_code
def yX7_back : MethodName := ⟨RX7, "back", "()I"⟩
abbrev cX7_count : ByteArray := prog_9_method_85_code
def yX7_count : MethodName := ⟨RX7, "count", "(I)I"⟩
def RJ11 : String := "java/lang/Character"
def TJ11 : u_T := fun k => match k with
  | _ => ("", "", "", false)
def tyJ11 : Nat → FieldType := fun k => match k with
  | _ => .int
abbrev wsJ110 : List Cond := u_ws RJ11 TJ11 0
theorem nmJ11 : ∀ a, a < 0 → ∀ b, b < 0 → a ≠ b → (TJ11 a).2.1 ≠ (TJ11 b).2.1 := by decide +kernel
theorem tyJ11_ok : ∀ k, k < 0 → parseFieldDescriptor (TJ11 k).2.2.1 = some (tyJ11 k) := by decide +kernel
abbrev cJ11_isValidCodePoint_9a6ad : ByteArray := prog_10_method_11_code
def yJ11_isValidCodePoint_9a6ad : MethodName := ⟨RJ11, "isValidCodePoint", "(I)Z"⟩
abbrev cJ11_highSurrogate_5068e : ByteArray := prog_10_method_28_code
def yJ11_highSurrogate_5068e : MethodName := ⟨RJ11, "highSurrogate", "(I)C"⟩
abbrev cJ11_lowSurrogate_5068e : ByteArray := prog_10_method_29_code
def yJ11_lowSurrogate_5068e : MethodName := ⟨RJ11, "lowSurrogate", "(I)C"⟩
def RJ6 : String := "java/lang/Integer"
def TJ6 : u_T := fun k => match k with
  | _ => ("", "", "", false)
def tyJ6 : Nat → FieldType := fun k => match k with
  | _ => .int
abbrev wsJ60 : List Cond := u_ws RJ6 TJ6 0
theorem nmJ6 : ∀ a, a < 0 → ∀ b, b < 0 → a ≠ b → (TJ6 a).2.1 ≠ (TJ6 b).2.1 := by decide +kernel
theorem tyJ6_ok : ∀ k, k < 0 → parseFieldDescriptor (TJ6 k).2.2.1 = some (tyJ6 k) := by decide +kernel
abbrev cJ6_bitCount_0f7a4 : ByteArray := prog_12_method_49_code
def yJ6_bitCount_0f7a4 : MethodName := ⟨RJ6, "bitCount", "(I)I"⟩
def RJ9 : String := "java/lang/Math"
def TJ9 : u_T := fun k => match k with
  | _ => ("", "", "", false)
def tyJ9 : Nat → FieldType := fun k => match k with
  | _ => .int
abbrev wsJ90 : List Cond := u_ws RJ9 TJ9 0
theorem nmJ9 : ∀ a, a < 0 → ∀ b, b < 0 → a ≠ b → (TJ9 a).2.1 ≠ (TJ9 b).2.1 := by decide +kernel
theorem tyJ9_ok : ∀ k, k < 0 → parseFieldDescriptor (TJ9 k).2.2.1 = some (tyJ9 k) := by decide +kernel
abbrev cJ9_floorMod_7cf53 : ByteArray := prog_13_method_50_code
def yJ9_floorMod_7cf53 : MethodName := ⟨RJ9, "floorMod", "(II)I"⟩
abbrev cJ9_abs_0f7a4 : ByteArray := prog_13_method_59_code
def yJ9_abs_0f7a4 : MethodName := ⟨RJ9, "abs", "(I)I"⟩
abbrev cJ9_max_7cf53 : ByteArray := prog_13_method_65_code
def yJ9_max_7cf53 : MethodName := ⟨RJ9, "max", "(II)I"⟩
abbrev cJ9_min_7cf53 : ByteArray := prog_13_method_69_code
def yJ9_min_7cf53 : MethodName := ⟨RJ9, "min", "(II)I"⟩
def RJ0 : String := "java/lang/String"
def TJ0 : u_T := fun k => match k with
  | _ => ("", "", "", false)
def tyJ0 : Nat → FieldType := fun k => match k with
  | _ => .int
abbrev wsJ00 : List Cond := u_ws RJ0 TJ0 0
theorem nmJ0 : ∀ a, a < 0 → ∀ b, b < 0 → a ≠ b → (TJ0 a).2.1 ≠ (TJ0 b).2.1 := by decide +kernel
theorem tyJ0_ok : ∀ k, k < 0 → parseFieldDescriptor (TJ0 k).2.2.1 = some (tyJ0 k) := by decide +kernel
abbrev cJ0_length_8abf5 : ByteArray := prog_14_method_54_code
def yJ0_length_8abf5 : MethodName := ⟨RJ0, "length", "()I"⟩
abbrev cJ0_charAt_5068e : ByteArray := prog_14_method_56_code
def yJ0_charAt_5068e : MethodName := ⟨RJ0, "charAt", "(I)C"⟩
abbrev cJ0_indexOf_0f7a4 : ByteArray := prog_14_method_79_code
def yJ0_indexOf_0f7a4 : MethodName := ⟨RJ0, "indexOf", "(I)I"⟩
abbrev cJ0_indexOf_7cf53 : ByteArray := prog_14_method_80_code
def yJ0_indexOf_7cf53 : MethodName := ⟨RJ0, "indexOf", "(II)I"⟩
abbrev cJ0_coder_7d493 : ByteArray := prog_14_method_152_code
def yJ0_coder_7d493 : MethodName := ⟨RJ0, "coder", "()B"⟩
abbrev cJ0_isLatin1_aae02 : ByteArray := prog_14_method_154_code
def yJ0_isLatin1_aae02 : MethodName := ⟨RJ0, "isLatin1", "()Z"⟩
abbrev cJ0_checkIndex_df160 : ByteArray := prog_14_method_155_code
def yJ0_checkIndex_df160 : MethodName := ⟨RJ0, "checkIndex", "(II)V"⟩
abbrev cJ0_checkBoundsBeginEnd_23922 : ByteArray := prog_14_method_158_code
def yJ0_checkBoundsBeginEnd_23922 : MethodName := ⟨RJ0, "checkBoundsBeginEnd", "(III)V"⟩
def RJ1 : String := "java/lang/StringLatin1"
def TJ1 : u_T := fun k => match k with
  | _ => ("", "", "", false)
def tyJ1 : Nat → FieldType := fun k => match k with
  | _ => .int
abbrev wsJ10 : List Cond := u_ws RJ1 TJ1 0
theorem nmJ1 : ∀ a, a < 0 → ∀ b, b < 0 → a ≠ b → (TJ1 a).2.1 ≠ (TJ1 b).2.1 := by decide +kernel
theorem tyJ1_ok : ∀ k, k < 0 → parseFieldDescriptor (TJ1 k).2.2.1 = some (tyJ1 k) := by decide +kernel
abbrev cJ1_charAt_3b067 : ByteArray := prog_15_method_2_code
def yJ1_charAt_3b067 : MethodName := ⟨RJ1, "charAt", "([BI)C"⟩
abbrev cJ1_canEncode_9a6ad : ByteArray := prog_15_method_4_code
def yJ1_canEncode_9a6ad : MethodName := ⟨RJ1, "canEncode", "(I)Z"⟩
abbrev cJ1_indexOf_4cfef : ByteArray := prog_15_method_22_code
def yJ1_indexOf_4cfef : MethodName := ⟨RJ1, "indexOf", "([BIII)I"⟩
abbrev cJ1_indexOfChar_4cfef : ByteArray := prog_15_method_23_code
def yJ1_indexOfChar_4cfef : MethodName := ⟨RJ1, "indexOfChar", "([BIII)I"⟩
def RJ2 : String := "java/lang/StringUTF16"
def TJ2 : u_T := fun k => match k with
  | _ => ("", "", "", false)
def tyJ2 : Nat → FieldType := fun k => match k with
  | _ => .int
abbrev wsJ20 : List Cond := u_ws RJ2 TJ2 0
theorem nmJ2 : ∀ a, a < 0 → ∀ b, b < 0 → a ≠ b → (TJ2 a).2.1 ≠ (TJ2 b).2.1 := by decide +kernel
theorem tyJ2_ok : ∀ k, k < 0 → parseFieldDescriptor (TJ2 k).2.2.1 = some (tyJ2 k) := by decide +kernel
abbrev cJ2_getChar_3b067 : ByteArray := prog_16_method_5_code
def yJ2_getChar_3b067 : MethodName := ⟨RJ2, "getChar", "([BI)C"⟩
abbrev cJ2_length_9d52b : ByteArray := prog_16_method_6_code
def yJ2_length_9d52b : MethodName := ⟨RJ2, "length", "([B)I"⟩
abbrev cJ2_indexOf_4cfef : ByteArray := prog_16_method_40_code
def yJ2_indexOf_4cfef : MethodName := ⟨RJ2, "indexOf", "([BIII)I"⟩
abbrev cJ2_indexOfChar_4cfef : ByteArray := prog_16_method_47_code
def yJ2_indexOfChar_4cfef : MethodName := ⟨RJ2, "indexOfChar", "([BIII)I"⟩
abbrev cJ2_indexOfCharUnsafe_4cfef : ByteArray := prog_16_method_48_code
def yJ2_indexOfCharUnsafe_4cfef : MethodName := ⟨RJ2, "indexOfCharUnsafe", "([BIII)I"⟩
abbrev cJ2_indexOfSupplementary_4cfef : ByteArray := prog_16_method_49_code
def yJ2_indexOfSupplementary_4cfef : MethodName := ⟨RJ2, "indexOfSupplementary", "([BIII)I"⟩
abbrev cJ2_charAt_3b067 : ByteArray := prog_16_method_83_code
def yJ2_charAt_3b067 : MethodName := ⟨RJ2, "charAt", "([BI)C"⟩
abbrev cJ2_checkIndex_2214a : ByteArray := prog_16_method_91_code
def yJ2_checkIndex_2214a : MethodName := ⟨RJ2, "checkIndex", "(I[B)V"⟩
abbrev cJ2_checkBoundsBeginEnd_d044e : ByteArray := prog_16_method_93_code
def yJ2_checkBoundsBeginEnd_d044e : MethodName := ⟨RJ2, "checkBoundsBeginEnd", "(II[B)V"⟩
def RJ10 : String := "java/lang/System"
def TJ10 : u_T := fun k => match k with
  | _ => ("", "", "", false)
def tyJ10 : Nat → FieldType := fun k => match k with
  | _ => .int
abbrev wsJ100 : List Cond := u_ws RJ10 TJ10 0
theorem nmJ10 : ∀ a, a < 0 → ∀ b, b < 0 → a ≠ b → (TJ10 a).2.1 ≠ (TJ10 b).2.1 := by decide +kernel
theorem tyJ10_ok : ∀ k, k < 0 → parseFieldDescriptor (TJ10 k).2.2.1 = some (tyJ10 k) := by decide +kernel
def RJ7 : String := "java/util/Arrays"
def TJ7 : u_T := fun k => match k with
  | _ => ("", "", "", false)
def tyJ7 : Nat → FieldType := fun k => match k with
  | _ => .int
abbrev wsJ70 : List Cond := u_ws RJ7 TJ7 0
theorem nmJ7 : ∀ a, a < 0 → ∀ b, b < 0 → a ≠ b → (TJ7 a).2.1 ≠ (TJ7 b).2.1 := by decide +kernel
theorem tyJ7_ok : ∀ k, k < 0 → parseFieldDescriptor (TJ7 k).2.2.1 = some (tyJ7 k) := by decide +kernel
abbrev cJ7_fill_53178 : ByteArray := prog_18_method_103_code
def yJ7_fill_53178 : MethodName := ⟨RJ7, "fill", "([II)V"⟩
abbrev cJ7_copyOf_59c91 : ByteArray := prog_18_method_123_code
def yJ7_copyOf_59c91 : MethodName := ⟨RJ7, "copyOf", "([II)[I"⟩
def RJ3 : String := "jdk/internal/util/Preconditions"
def TJ3 : u_T := fun k => match k with
  | _ => ("", "", "", false)
def tyJ3 : Nat → FieldType := fun k => match k with
  | _ => .int
abbrev wsJ30 : List Cond := u_ws RJ3 TJ3 0
theorem nmJ3 : ∀ a, a < 0 → ∀ b, b < 0 → a ≠ b → (TJ3 a).2.1 ≠ (TJ3 b).2.1 := by decide +kernel
theorem tyJ3_ok : ∀ k, k < 0 → parseFieldDescriptor (TJ3 k).2.2.1 = some (tyJ3 k) := by decide +kernel
abbrev cJ3_checkIndex_8e157 : ByteArray := prog_19_method_11_code
def yJ3_checkIndex_8e157 : MethodName := ⟨RJ3, "checkIndex", "(IILjava/util/function/BiFunction;)I"⟩
abbrev cJ3_checkFromToIndex_8c36e : ByteArray := prog_19_method_12_code
def yJ3_checkFromToIndex_8c36e : MethodName := ⟨RJ3, "checkFromToIndex", "(IIILjava/util/function/BiFunction;)I"⟩
def RL : String := "CreaseLinesLaw"
abbrev cL_law : ByteArray := code
def yL_law : MethodName := ⟨RL, "law", "([I)Z"⟩
abbrev vwCl : List vw_C := [(RX0, TX0, 13), (RX1, TX1, 6), (RX2, TX2, 15), (RX3, TX3, 3), (RX4, TX4, 4), (RX5, TX5, 3), (RX6, TX6, 12), (RX7, TX7, 33)]
end
section
/-! ===== A SMALL MACHINE over a pure heap: cells by their numbers; what it runs is tied to the JVM in part 05 ===== -/
abbrev mx_H : Type := List va_E
abbrev mx_R : Type := Option (Option Value × mx_H)
abbrev mx_L : Type := List (Nat × Value)
/-- pc, instruction, whether a walk is cut there, the locals that live there, a, b, w, u, a constant, a switch's arms -/
abbrev mx_I : Type := Nat × Instr × Bool × List Nat × Nat × Nat × Nat × Nat × Int32 × List (Int32 × Nat)
/-- name, bytes, places for locals, what it returns, its instructions -/
abbrev mx_M : Type := MethodName × ByteArray × Nat × Option FieldType × List mx_I
def mx_rm (x y : Int32) : Int32 := x - x / y * y
def mx_us (x y : Int32) : Int32 := (x.toUInt32 >>> (y.toUInt32 &&& Int32.toUInt32 31)).toInt32
def mx_ld (ls : mx_L) (i : Nat) : Option Value := match ls.find? (fun q => Nat.beq q.1 i) with
  | some q => some q.2
  | none => none
def mx_st (ls : mx_L) (i : Nat) (v : Value) : mx_L := (i, v) :: ls.filter (fun q => !(q.1 == i) && !(q.1 + 1 == i && q.2.category == 2))
def mx_li (ls : mx_L) (i : Nat) (f : Int32 → mx_R) : mx_R := match mx_ld ls i with
  | some (.int x) => f x
  | _ => none
def mx_la (ls : mx_L) (i : Nat) (f : Value → mx_R) : mx_R := match mx_ld ls i with
  | some (.ref x) => f (.ref x)
  | some .null => f .null
  | some (.retAddr x) => f (.retAddr x)
  | _ => none
def mx_s1 (st : List Value) (f : Int32 → List Value → mx_R) : mx_R := match st with
  | .int x :: r => f x r
  | _ => none
def mx_s2 (st : List Value) (f : Int32 → Int32 → List Value → mx_R) : mx_R := match st with
  | .int y :: .int x :: r => f x y r
  | _ => none
def mx_sa (st : List Value) (f : Value → List Value → mx_R) : mx_R := match st with
  | .ref x :: r => f (.ref x) r
  | .null :: r => f .null r
  | .retAddr x :: r => f (.retAddr x) r
  | _ => none
def mx_sr (st : List Value) (f : Nat → List Value → mx_R) : mx_R := match st with
  | .ref x :: r => f x r
  | _ => none
def mx_sn (st : List Value) (f0 : List Value → mx_R) (f1 : List Value → mx_R) : mx_R := match st with
  | .null :: r => f0 r
  | .ref _ :: r => f1 r
  | _ => none
def mx_d1 (st : List Value) (f : Value → List Value → mx_R) : mx_R := match st with
  | .int x :: r => f (.int x) r
  | .ref x :: r => f (.ref x) r
  | _ => none
def mx_d2 (st : List Value) (f : Value → Value → List Value → mx_R) : mx_R := match st with
  | .int x :: .ref y :: r => f (.int x) (.ref y) r
  | .int x :: .int y :: r => f (.int x) (.int y) r
  | _ => none
def mx_ir (st : List Value) (f : Int32 → Nat → List Value → mx_R) : mx_R := match st with
  | .int x :: .ref y :: r => f x y r
  | _ => none
def mx_rr (st : List Value) (f : Nat → Nat → List Value → mx_R) : mx_R := match st with
  | .ref x :: .ref y :: r => f x y r
  | _ => none
def mx_iir (st : List Value) (f : Int32 → Int32 → Nat → List Value → mx_R) : mx_R := match st with
  | .int x :: .int i :: .ref y :: r => f x i y r
  | _ => none
def mx_rir (st : List Value) (f : Nat → Int32 → Nat → List Value → mx_R) : mx_R := match st with
  | .ref x :: .int i :: .ref y :: r => f x i y r
  | _ => none
def mx_cps (st : List Value) (f : Int32 → Int32 → Nat → Int32 → Nat → List Value → mx_R) : mx_R := match st with
  | .int n :: .int dp :: .ref d :: .int sp :: .ref s :: r => f n dp d sp s r
  | _ => none
/-! the heap -/
def mx_gi (h : mx_H) (r ci k : Nat) (f : Int32 → mx_R) : mx_R := match h[r]? with
  | some (.inr (c, fs)) => if c = ci then (match fs[k]? with | some (.int x) => f x | _ => none) else none
  | _ => none
def mx_gr (h : mx_H) (r ci k : Nat) (f : Nat → mx_R) : mx_R := match h[r]? with
  | some (.inr (c, fs)) => if c = ci then (match fs[k]? with | some (.ref x) => f x | _ => none) else none
  | _ => none
def mx_pt (h : mx_H) (r ci k : Nat) (v : Value) (f : mx_H → mx_R) : mx_R := match h[r]? with
  | some (.inr (c, fs)) => if c = ci ∧ k < fs.length then f (h.set r (.inr (c, fs.set k v))) else none
  | _ => none
def mx_pz (h : mx_H) (r ci k : Nat) (v : Int32) (f : mx_H → mx_R) : mx_R := if v = 0 ∨ v = 1 then mx_pt h r ci k (.int v) f else none
def mx_ai (h : mx_H) (r t : Nat) (i : Int32) (f : Int32 → mx_R) : mx_R := match h[r]? with
  | some (.inl (c, n, .inl g)) => if c = t ∧ ¬ (i < 0 ∨ n ≤ i.toNatClampNeg) then f (g i.toNatClampNeg) else none
  | _ => none
def mx_as (h : mx_H) (r t : Nat) (i x : Int32) (f : mx_H → mx_R) : mx_R := match h[r]? with
  | some (.inl (c, n, .inl g)) => if c = t ∧ ¬ (i < 0 ∨ n ≤ i.toNatClampNeg) then f (h.set r (.inl (c, n, .inl (upd g i.toNatClampNeg x)))) else none
  | _ => none
def mx_aa (h : mx_H) (r : Nat) (i : Int32) (f : Nat → mx_R) : mx_R := match h[r]? with
  | some (.inl (c, n, .inr (.inr (.inr (.inr g))))) => if (3 ≤ c ∧ c ≤ 6) ∧ ¬ (i < 0 ∨ n ≤ i.toNatClampNeg) then (match g i.toNatClampNeg with | some a => f a | none => none) else none
  | _ => none
/-- the class of which the rows of a kind are made -/
def mx_kc : Nat → Nat
  | 3 => 1
  | 4 => 3
  | 5 => 4
  | _ => 5
def mx_at (h : mx_H) (r : Nat) (i : Int32) (v : Nat) (f : mx_H → mx_R) : mx_R := match h[r]?, h[v]? with
  | some (.inl (c, n, .inr (.inr (.inr (.inr g))))), some (.inr (c2, _)) => if (3 ≤ c ∧ c ≤ 6) ∧ c2 = mx_kc c ∧ ¬ (i < 0 ∨ n ≤ i.toNatClampNeg) then f (h.set r (.inl (c, n, .inr (.inr (.inr (.inr (va_up g i.toNatClampNeg (some v)))))))) else none
  | _, _ => none
def mx_al (h : mx_H) (r : Nat) (f : Int32 → mx_R) : mx_R := match h[r]? with
  | some (.inl (c, n, _)) => if c < 7 then f (Int32.ofNat n) else none
  | _ => none
def mx_nw (h : mx_H) (ci : Nat) (fs : List Value) (f : Nat → mx_H → mx_R) : mx_R := f h.length (h ++ [.inr (ci, fs)])
def mx_na (h : mx_H) (t : Nat) (n : Int32) (f : Nat → mx_H → mx_R) : mx_R := if ¬ n < 0 ∧ n.toNatClampNeg ≤ 4096 then f h.length (h ++ [.inl (t, n.toNatClampNeg, .inl (fun _ => 0))]) else none
def mx_nq (h : mx_H) (t : Nat) (n : Int32) (f : Nat → mx_H → mx_R) : mx_R := if ¬ n < 0 ∧ n.toNatClampNeg ≤ 4096 then f h.length (h ++ [.inl (t, n.toNatClampNeg, .inr (.inr (.inr (.inr (fun _ => none)))))]) else none
def mx_cp (h : mx_H) (s : Nat) (sp : Int32) (d : Nat) (dp n : Int32) (f : mx_H → mx_R) : mx_R := match h[s]?, h[d]? with
  | some (.inl (c0, n0, .inl f0)), some (.inl (c1, n1, .inl f1)) => if c0 = 0 ∧ c1 = 0 ∧ ¬ sp < 0 ∧ ¬ dp < 0 ∧ ¬ n < 0 ∧ sp.toNatClampNeg + n.toNatClampNeg ≤ n0 ∧ dp.toNatClampNeg + n.toNatClampNeg ≤ n1 then f (h.set d (.inl (c1, n1, .inl (va_cpy f0 f1 sp.toNatClampNeg dp.toNatClampNeg n.toNatClampNeg)))) else none
  | _, _ => none
/-! what is older than the law's call: .retAddr i is constant text i, .retAddr (100 + i) its bytes; 200, 201 the constant rows, 202 the script -/
def mx_kt (xs : List Int32) : Nat → Option (Nat × List Int32)
  | 100 => some (7, [112, 114, 101, 115, 115])
  | 101 => some (7, [102, 101, 101])
  | 102 => some (7, [102, 105, 110, 101])
  | 103 => some (7, [104, 111, 107, 116])
  | 104 => some (7, [112, 116])
  | 105 => some (7, [115, 107])
  | 200 => some (0, [-1, 0, 0, 1, 2, 0])
  | 201 => some (0, [100, 3, 99, 99])
  | 202 => some (0, xs)
  | _ => none
def mx_ck (xs : List Int32) (t r : Nat) (i : Int32) (f : Int32 → mx_R) : mx_R := match mx_kt xs r with
  | some (t', l) => if t' = t ∧ ¬ (i < 0 ∨ l.length ≤ i.toNatClampNeg) then f (l.getD i.toNatClampNeg 0) else none
  | none => none
def mx_cn (xs : List Int32) (r : Nat) (f : Int32 → mx_R) : mx_R := match mx_kt xs r with
  | some (_, l) => f (Int32.ofNat l.length)
  | none => none
def mx_gf (h : mx_H) (st : List Value) (a b w : Nat) (f : List Value → mx_R) : mx_R := match w with
  | 0 => mx_sr st (fun r rest => mx_gi h r a b (fun x => f (.int x :: rest)))
  | 1 => mx_sr st (fun r rest => mx_gr h r a b (fun x => f (.ref x :: rest)))
  | 5 => (match st with | .retAddr i :: rest => bif Nat.ble (i + 1) 6 then f (.retAddr (100 + i) :: rest) else none | _ => none)
  | _ => (match st with | .retAddr i :: rest => bif Nat.ble (i + 1) 6 then f (.int 0 :: rest) else none | _ => none)
def mx_bl (xs : List Int32) (t t' : Nat) (h : mx_H) (st : List Value) (f : List Value → mx_R) : mx_R := match st with
  | .int i :: .ref r :: rest => mx_ai h r t i (fun x => f (.int x :: rest))
  | .int i :: .retAddr r :: rest => mx_ck xs t' r i (fun x => f (.int x :: rest))
  | _ => none
def mx_ln (xs : List Int32) (h : mx_H) (st : List Value) (f : List Value → mx_R) : mx_R := match st with
  | .ref r :: rest => mx_al h r (fun x => f (.int x :: rest))
  | .retAddr r :: rest => mx_cn xs r (fun x => f (.int x :: rest))
  | _ => none
/-! calls: what comes back -/
def mx_c0 (r : mx_R) (f : mx_H → mx_R) : mx_R := match r with
  | some (none, h) => f h
  | _ => none
def mx_c1 (r : mx_R) (f : Int32 → mx_H → mx_R) : mx_R := match r with
  | some (some (.int x), h) => f x h
  | _ => none
def mx_c2 (r : mx_R) (f : Nat → mx_H → mx_R) : mx_R := match r with
  | some (some (.ref x), h) => f x h
  | _ => none
def mx_c3 (r : mx_R) (f0 : mx_H → mx_R) (f1 : Nat → mx_H → mx_R) : mx_R := match r with
  | some (some .null, h) => f0 h
  | some (some (.ref x), h) => f1 x h
  | _ => none
def mx_c4 (r : mx_R) (f : Nat → mx_H → mx_R) : mx_R := match r with
  | some (some (.retAddr x), h) => f x h
  | _ => none
def mx_cl (h : mx_H) (r ci : Nat) (f : mx_R) : mx_R := match h[r]? with
  | some (.inr (c, _)) => if c = ci then f else none
  | _ => none
def mx_bk (w : Nat) (r : mx_R) (rest : List Value) (f : List Value → mx_H → mx_R) : mx_R := match w with
  | 0 => mx_c0 r (fun h => f rest h)
  | 1 => mx_c1 r (fun x h => f (.int x :: rest) h)
  | 2 => mx_c2 r (fun x h => f (.ref x :: rest) h)
  | 3 => mx_c3 r (fun h => f (.null :: rest) h) (fun x h => f (.ref x :: rest) h)
  | _ => mx_c4 r (fun x h => f (.retAddr x :: rest) h)
def mx_iv (h : mx_H) (st : List Value) (n ci : Nat) (f : List Value → List Value → mx_R) : mx_R := match st.drop n with
  | .ref r :: rest => bif Nat.ble ((rest.map fun v => v.category).sum) 8 && Nat.beq (st.take n).length n && Nat.ble (ci + 1) 8 then mx_cl h r ci (f (.ref r :: (st.take n).reverse) rest) else none
  | .retAddr r :: rest => bif Nat.ble ((rest.map fun v => v.category).sum) 8 && Nat.beq (st.take n).length n && Nat.beq ci 99 && Nat.ble (r + 1) 6 then f (.retAddr r :: (st.take n).reverse) rest else none
  | _ => none
def mx_is (st : List Value) (n : Nat) (f : List Value → List Value → mx_R) : mx_R := match st.drop n with
  | .ref r :: rest => bif Nat.ble ((rest.map fun v => v.category).sum) 8 && Nat.beq (st.take n).length n then f (.ref r :: (st.take n).reverse) rest else none
  | _ => none
def mx_ss (st : List Value) (n : Nat) (f : List Value → List Value → mx_R) : mx_R :=
  bif Nat.ble (((st.drop n).map fun v => v.category).sum) 8 && Nat.beq (st.take n).length n then f (st.take n).reverse (st.drop n) else none
/-! ends -/
def mx_ri (u : Nat) (st : List Value) (h : mx_H) : mx_R := match st with
  | [.int x] => (match u with
    | 0 => some (some (.int x), h)
    | 1 => if x = 0 ∨ x = 1 then some (some (.int x), h) else none
    | 2 => if (x.toUInt32 % 65536).toInt32 = x then some (some (.int x), h) else none
    | _ => if x.toInt8.toInt32 = x then some (some (.int x), h) else none)
  | _ => none
def mx_ra (st : List Value) (h : mx_H) : mx_R := match st with
  | [.ref x] => some (some (.ref x), h)
  | [.null] => some (some .null, h)
  | [.retAddr x] => some (some (.retAddr x), h)
  | _ => none
def mx_rv (st : List Value) (h : mx_H) : mx_R := match st with
  | [] => some (none, h)
  | _ => none
def mx_sw : List (Int32 × Nat) → Int32 → (Nat → mx_R) → mx_R → mx_R
  | [], _, _, d => d
  | (v, t) :: cs, x, f, d => if x = v then f t else mx_sw cs x f d
def mx_ic (cd : Jvm.ClassFile.Cond) (x y : Int32) (a b : mx_R) : mx_R := match cd with
  | .eq => if x = y then a else b
  | .ne => if x = y then b else a
  | .lt => if x < y then a else b
  | .ge => if y ≤ x then a else b
  | .gt => if y < x then a else b
  | .le => if x ≤ y then a else b
/-- a new object's fields -/
def mx_df : Nat → List Value
  | 0 => [.null, .int 0, .null, .null, .int 0, .null, .int 0, .int 0, .int 0, .int 0, .int 0, .null, .null]
  | 1 => [.int 0, .int 0, .int 0, .int 0, .int 0, .int 0]
  | 2 => [.null, .int 0, .int 0, .int 0, .int 0, .null, .int 0, .null, .int 0, .null, .int 0, .int 0, .int 0, .int 0, .int 0]
  | 3 => [.int 0, .int 0, .null]
  | 4 => [.int 0, .null, .null, .int 0]
  | 5 => [.int 0, .int 0, .null]
  | 6 => [.null, .null, .null, .int 0, .null, .null, .int 0, .null, .null, .null, .null, .int 0]
  | 7 => [.null, .null, .null, .int 0, .null, .null, .int 0, .int 0, .int 0, .int 0, .int 0, .int 0, .int 0, .null, .null, .null, .int 0, .int 0, .null, .int 0, .null, .null, .null, .null, .null, .null, .null, .null, .null, .null, .null, .null, .int 0]
  | _ => []
/-- what a static holds -/
def mx_sv (w a : Nat) (v : Int32) : Value := match w with
  | 0 => .retAddr a
  | _ => .int v
/-- some of the locals, in an order -/
def mx_nm : List Nat → mx_L → mx_L
  | [], _ => []
  | i :: is, ls => match mx_ld ls i with
    | some v => (i, v) :: mx_nm is ls
    | none => mx_nm is ls
/-- a walk from one cut to the next: 'call' is what calls answer, 'ct' goes on at a cut -/
def mx_fw (xs : List Int32) (call : Nat → List Value → mx_H → mx_R) (c : List mx_I) (ct : Nat → mx_L → List Value → mx_H → mx_R) : Bool → Nat → Nat → mx_L → List Value → mx_H → mx_R
  | _, 0, _, _, _, _ => none
  | fi, k + 1, pc, ls, st, h =>
    match c.find? (fun x => Nat.beq x.1 pc) with
    | none => none
    | some (_, ins, cut, lv, a, b, w, u, v, cs) =>
      bif (!fi && cut) then ct pc (mx_nm lv ls) st h else
      match ins with
      | .iconst _ => mx_fw xs call c ct false k (pc + 1) ls (.int v :: st) h
      | .bipush _ => mx_fw xs call c ct false k (pc + 2) ls (.int v :: st) h
      | .sipush _ => mx_fw xs call c ct false k (pc + 3) ls (.int v :: st) h
      | .ldc _ => bif Nat.beq w 0 then mx_fw xs call c ct false k (pc + 2) ls (.int v :: st) h else mx_fw xs call c ct false k (pc + 2) ls (.retAddr a :: st) h
      | .ldc_w _ => mx_fw xs call c ct false k (pc + 3) ls (.int v :: st) h
      | .aconst_null => mx_fw xs call c ct false k (pc + 1) ls (.null :: st) h
      | .iload_n n => mx_li ls n.val (fun x => mx_fw xs call c ct false k (pc + 1) ls (.int x :: st) h)
      | .iload n => mx_li ls n (fun x => mx_fw xs call c ct false k (pc + 2) ls (.int x :: st) h)
      | .aload_n n => mx_la ls n.val (fun x => mx_fw xs call c ct false k (pc + 1) ls (x :: st) h)
      | .aload n => mx_la ls n (fun x => mx_fw xs call c ct false k (pc + 2) ls (x :: st) h)
      | .istore_n n => mx_s1 st (fun x r => mx_fw xs call c ct false k (pc + 1) (mx_st ls n.val (.int x)) r h)
      | .istore n => mx_s1 st (fun x r => mx_fw xs call c ct false k (pc + 2) (mx_st ls n (.int x)) r h)
      | .astore_n n => mx_sa st (fun x r => mx_fw xs call c ct false k (pc + 1) (mx_st ls n.val x) r h)
      | .astore n => mx_sa st (fun x r => mx_fw xs call c ct false k (pc + 2) (mx_st ls n x) r h)
      | .iinc n _ => mx_li ls n (fun x => mx_fw xs call c ct false k (pc + 3) (mx_st ls n (.int (x + v))) st h)
      | .iadd => mx_s2 st (fun x y r => mx_fw xs call c ct false k (pc + 1) ls (.int (x + y) :: r) h)
      | .isub => mx_s2 st (fun x y r => mx_fw xs call c ct false k (pc + 1) ls (.int (x - y) :: r) h)
      | .imul => mx_s2 st (fun x y r => mx_fw xs call c ct false k (pc + 1) ls (.int (x * y) :: r) h)
      | .iand => mx_s2 st (fun x y r => mx_fw xs call c ct false k (pc + 1) ls (.int (x &&& y) :: r) h)
      | .ior => mx_s2 st (fun x y r => mx_fw xs call c ct false k (pc + 1) ls (.int (x ||| y) :: r) h)
      | .ixor => mx_s2 st (fun x y r => mx_fw xs call c ct false k (pc + 1) ls (.int (x ^^^ y) :: r) h)
      | .idiv => mx_s2 st (fun x y r => if y = 0 then none else mx_fw xs call c ct false k (pc + 1) ls (.int (x / y) :: r) h)
      | .irem => mx_s2 st (fun x y r => if y = 0 then none else mx_fw xs call c ct false k (pc + 1) ls (.int (mx_rm x y) :: r) h)
      | .ineg => mx_s1 st (fun x r => mx_fw xs call c ct false k (pc + 1) ls (.int (-x) :: r) h)
      | .ishl => mx_s2 st (fun x y r => mx_fw xs call c ct false k (pc + 1) ls (.int (x <<< (y &&& 31)) :: r) h)
      | .ishr => mx_s2 st (fun x y r => mx_fw xs call c ct false k (pc + 1) ls (.int (x >>> (y &&& 31)) :: r) h)
      | .iushr => mx_s2 st (fun x y r => mx_fw xs call c ct false k (pc + 1) ls (.int (mx_us x y) :: r) h)
      | .i2s => mx_s1 st (fun x r => mx_fw xs call c ct false k (pc + 1) ls (.int x.toInt16.toInt32 :: r) h)
      | .i2c => mx_s1 st (fun x r => mx_fw xs call c ct false k (pc + 1) ls (.int (x.toUInt32 % 65536).toInt32 :: r) h)
      | .i2b => mx_s1 st (fun x r => mx_fw xs call c ct false k (pc + 1) ls (.int x.toInt8.toInt32 :: r) h)
      | .dup => mx_d1 st (fun x r => mx_fw xs call c ct false k (pc + 1) ls (x :: x :: r) h)
      | .dup2 => mx_d2 st (fun x y r => mx_fw xs call c ct false k (pc + 1) ls (x :: y :: x :: y :: r) h)
      | .pop => mx_d1 st (fun _ r => mx_fw xs call c ct false k (pc + 1) ls r h)
      | .goto _ => mx_fw xs call c ct false k a ls st h
      | .if_icmp cd _ => mx_s2 st (fun x y r => mx_ic cd x y (mx_fw xs call c ct false k a ls r h) (mx_fw xs call c ct false k (pc + 3) ls r h))
      | .ifCond cd _ => mx_s1 st (fun x r => mx_ic cd x 0 (mx_fw xs call c ct false k a ls r h) (mx_fw xs call c ct false k (pc + 3) ls r h))
      | .ifnull _ => mx_sn st (fun r => mx_fw xs call c ct false k a ls r h) (fun r => mx_fw xs call c ct false k (pc + 3) ls r h)
      | .ifnonnull _ => mx_sn st (fun r => mx_fw xs call c ct false k (pc + 3) ls r h) (fun r => mx_fw xs call c ct false k a ls r h)
      | .getfield _ => mx_gf h st a b w (fun st => mx_fw xs call c ct false k (pc + 3) ls st h)
      | .putfield _ => bif Nat.beq w 0 then mx_ir st (fun x r rest => mx_pt h r a b (.int x) (fun h => mx_fw xs call c ct false k (pc + 3) ls rest h)) else bif Nat.beq w 1 then mx_rr st (fun x r rest => mx_pt h r a b (.ref x) (fun h => mx_fw xs call c ct false k (pc + 3) ls rest h)) else mx_ir st (fun x r rest => mx_pz h r a b x (fun h => mx_fw xs call c ct false k (pc + 3) ls rest h))
      | .getstatic _ => mx_fw xs call c ct false k (pc + 3) ls (mx_sv w a v :: st) h
      | .iaload => mx_bl xs 0 0 h st (fun st => mx_fw xs call c ct false k (pc + 1) ls st h)
      | .baload => mx_bl xs 1 7 h st (fun st => mx_fw xs call c ct false k (pc + 1) ls st h)
      | .caload => mx_ir st (fun i r rest => mx_ai h r 2 i (fun x => mx_fw xs call c ct false k (pc + 1) ls (.int x :: rest) h))
      | .iastore => mx_iir st (fun x i r rest => mx_as h r 0 i x (fun h => mx_fw xs call c ct false k (pc + 1) ls rest h))
      | .bastore => mx_iir st (fun x i r rest => mx_as h r 1 i (vp_nar .boolean x) (fun h => mx_fw xs call c ct false k (pc + 1) ls rest h))
      | .castore => mx_iir st (fun x i r rest => mx_as h r 2 i (vp_nar .char x) (fun h => mx_fw xs call c ct false k (pc + 1) ls rest h))
      | .aaload => mx_ir st (fun i r rest => mx_aa h r i (fun x => mx_fw xs call c ct false k (pc + 1) ls (.ref x :: rest) h))
      | .aastore => mx_rir st (fun x i r rest => mx_at h r i x (fun h => mx_fw xs call c ct false k (pc + 1) ls rest h))
      | .arraylength => mx_ln xs h st (fun st => mx_fw xs call c ct false k (pc + 1) ls st h)
      | .new _ => mx_nw h a (mx_df a) (fun r h => mx_fw xs call c ct false k (pc + 3) ls (.ref r :: st) h)
      | .newarray _ => mx_s1 st (fun n rest => mx_na h a n (fun r h => mx_fw xs call c ct false k (pc + 2) ls (.ref r :: rest) h))
      | .anewarray _ => mx_s1 st (fun n rest => mx_nq h a n (fun r h => mx_fw xs call c ct false k (pc + 3) ls (.ref r :: rest) h))
      | .invokevirtual _ => mx_iv h st b u (fun as rest => mx_bk w (call a as h) rest (fun st h => mx_fw xs call c ct false k (pc + 3) ls st h))
      | .invokestatic _ => bif Nat.beq w 8 then mx_cps st (fun n dp d sp s rest => bif Nat.ble ((rest.map fun v => v.category).sum) 8 then mx_cp h s sp d dp n (fun h => mx_fw xs call c ct false k (pc + 3) ls rest h) else none) else mx_ss st b (fun as rest => mx_bk w (call a as h) rest (fun st h => mx_fw xs call c ct false k (pc + 3) ls st h))
      | .invokespecial _ => bif Nat.beq w 9 then mx_sr st (fun _ rest => bif Nat.ble ((rest.map fun v => v.category).sum) 8 then mx_fw xs call c ct false k (pc + 3) ls rest h else none) else mx_is st b (fun as rest => mx_bk w (call a as h) rest (fun st h => mx_fw xs call c ct false k (pc + 3) ls st h))
      | .ireturn => mx_ri u st h
      | .areturn => mx_ra st h
      | .return_ => mx_rv st h
      | .tableswitch _ _ _ _ => mx_s1 st (fun x r => mx_sw cs x (fun t => mx_fw xs call c ct false k t ls r h) (mx_fw xs call c ct false k a ls r h))
      | .lookupswitch _ _ => mx_s1 st (fun x r => mx_sw cs x (fun t => mx_fw xs call c ct false k t ls r h) (mx_fw xs call c ct false k a ls r h))
      | _ => none
/-- a method's body: cuts are passed as often as n says -/
def mx_rn (xs : List Int32) (call : Nat → List Value → mx_H → mx_R) (c : List mx_I) : Nat → Nat → mx_L → List Value → mx_H → mx_R
  | 0, _, _, _, _ => none
  | n + 1, pc, ls, st, h => mx_fw xs call c (mx_rn xs call c n) true 4096 pc ls st h
abbrev mx_N : Nat := 100000
/-- calls, d deep -/
def mx_ev (xs : List Int32) (P : List mx_M) : Nat → Nat → List Value → mx_H → mx_R
  | 0, _, _, _ => none
  | d + 1, j, as, h => match P[j]? with
    | some M => bif Nat.ble (lg_sl as).length M.2.2.1 then mx_rn xs (mx_ev xs P d) M.2.2.2.2 mx_N 0 (lv_args 0 as) [] h else none
    | none => none
end
section
/-! ===== the pure heap and the machine's heap ===== -/
def mx_cv (base : Nat) (sk : Nat → Value) : Value → Value
  | .ref k => .ref (base + k)
  | .retAddr i => sk i
  | .int x => .int x
  | .null => .null
  | .long x => .long x
  | .float x => .float x
  | .double x => .double x
def mx_cx (ad : Nat → Nat) : ((Nat → Int32) ⊕ (Nat → Int64) ⊕ (Nat → UInt32) ⊕ (Nat → UInt64) ⊕ (Nat → Option Nat)) → ((Nat → Int32) ⊕ (Nat → Int64) ⊕ (Nat → UInt32) ⊕ (Nat → UInt64) ⊕ (Nat → Option Nat))
  | .inr (.inr (.inr (.inr f))) => .inr (.inr (.inr (.inr (fun j => (f j).map ad))))
  | x => x
def mx_ce (base : Nat) (sk : Nat → Value) (ta : Nat → ClassId) : va_E → va_E
  | .inl (t, n, x) => .inl (ta t, n, mx_cx (fun k => base + k) x)
  | .inr (ci, fs) => .inr (ci, fs.map (mx_cv base sk))
/-- the cells, with their addresses -/
def mx_ws (base : Nat) (sk : Nat → Value) (ta : Nat → ClassId) (h : mx_H) : va_W := h.mapIdx (fun i e => (base + i, mx_ce base sk ta e))
def mx_Rl (D : va_G) (ta : Nat → ClassId) (base : Nat) (sk : Nat → Value) (h : mx_H) (H : Heap) : Prop :=
  H.size = base + h.length ∧ va_P D vwCl (mx_ws base sk ta h) H
def mx_se : va_E → Nat
  | .inl (_, n, _) => n
  | .inr (_, fs) => fs.length
def mx_sz (h : mx_H) : Nat := (h.map mx_se).sum
abbrev mx_A (base : Nat) : Nat → Prop := fun q => base ≤ q
section MXA
variable {D : va_G} {ta : Nat → ClassId} {base : Nat} {sk : Nat → Value} {h : mx_H} {H H1 : Heap} {s : State} {locs locs1 : List Loc}
theorem mx_ws_get (j : Nat) : (mx_ws base sk ta h)[j]? = (h[j]?).map (fun e => (base + j, mx_ce base sk ta e)) := by
  simp [mx_ws, List.getElem?_mapIdx]
theorem mx_ws_at {k : Nat} {e : va_E} (he : h[k]? = some e) : (mx_ws base sk ta h)[k]? = some (base + k, mx_ce base sk ta e) := by
  rw [mx_ws_get, he]
  rfl
theorem mx_ws_set {k : Nat} {e : va_E} : (mx_ws base sk ta h).set k (base + k, mx_ce base sk ta e) = mx_ws base sk ta (h.set k e) := by
  apply List.ext_getElem?
  intro j
  rw [mx_ws_get, List.getElem?_set, mx_ws_get, List.getElem?_set]
  by_cases hj : k = j
  · subst hj
    rw [if_pos rfl, if_pos rfl]
    by_cases hl : k < h.length
    · rw [if_pos (by simp [mx_ws]; omega), if_pos hl]
      rfl
    · rw [if_neg (by simp [mx_ws]; omega), if_neg hl]
      rfl
  · rw [if_neg hj, if_neg hj]
theorem mx_ws_push {e : va_E} : mx_ws base sk ta (h ++ [e]) = mx_ws base sk ta h ++ [(base + h.length, mx_ce base sk ta e)] := by
  simp [mx_ws, List.mapIdx_append]
theorem mx_ws_D : va_D (mx_A base) (mx_ws base sk ta h) := by
  refine ⟨fun i j p q hi hj hpq => ?_, fun k q hk => ?_⟩
  · rw [mx_ws_get] at hi hj
    cases h1 : h[i]? with
    | none => rw [h1] at hi; cases hi
    | some a =>
      cases h2 : h[j]? with
      | none => rw [h2] at hj; cases hj
      | some b =>
        rw [h1] at hi; rw [h2] at hj
        cases hi; cases hj
        simp only at hpq
        omega
  · rw [mx_ws_get] at hk
    cases h1 : h[k]? with
    | none => rw [h1] at hk; cases hk
    | some a => rw [h1] at hk; cases hk; exact Nat.le_add_right _ _
theorem mx_sz_set {r : Nat} {e e' : va_E} (he : h[r]? = some e) (hs : mx_se e' = mx_se e) : mx_sz (h.set r e') = mx_sz h := by
  unfold mx_sz
  congr 1
  rw [List.map_set]
  apply List.ext_getElem?
  intro j
  rw [List.getElem?_set]
  by_cases hj : r = j
  · subst hj
    have hl := (List.getElem?_eq_some_iff.mp he).1
    rw [if_pos rfl, if_pos (by simpa using hl), List.getElem?_map, he, hs]
    rfl
  · rw [if_neg hj]
theorem mx_sz_push {e : va_E} : mx_sz (h ++ [e]) = mx_sz h + mx_se e := by simp [mx_sz]
end MXA
end
section
/-! ===== cells only come ===== -/
def mx_mo (h : mx_H) (r : mx_R) : Prop := ∀ (v : Option Value) (h' : mx_H), r = some (v, h') → h.length ≤ h'.length ∧ mx_sz h ≤ mx_sz h'
section MXM
variable {h : mx_H}
theorem mo_none : mx_mo h none := fun _ _ e => by cases e
theorem mo_self {v : Option Value} : mx_mo h (some (v, h)) := fun _ _ e => by cases e; exact ⟨Nat.le_refl _, Nat.le_refl _⟩
theorem mo_tr {g : mx_H} {r : mx_R} (h1 : h.length ≤ g.length) (h2 : mx_sz h ≤ mx_sz g) (hm : mx_mo g r) : mx_mo h r := fun v h' e => ⟨Nat.le_trans h1 (hm v h' e).1, Nat.le_trans h2 (hm v h' e).2⟩
theorem mo_ite {c : Prop} [Decidable c] {a b : mx_R} (ha : mx_mo h a) (hb : mx_mo h b) : mx_mo h (if c then a else b) := by split <;> assumption
theorem mo_bif {c : Bool} {a b : mx_R} (ha : mx_mo h a) (hb : mx_mo h b) : mx_mo h (bif c then a else b) := by cases c <;> assumption
theorem mo_li {ls : mx_L} {i : Nat} {f : Int32 → mx_R} (hf : ∀ x, mx_mo h (f x)) : mx_mo h (mx_li ls i f) := by unfold mx_li; split <;> first | exact hf _ | exact mo_none
theorem mo_la {ls : mx_L} {i : Nat} {f : Value → mx_R} (hf : ∀ x, mx_mo h (f x)) : mx_mo h (mx_la ls i f) := by unfold mx_la; split <;> first | exact hf _ | exact mo_none
theorem mo_s1 {st : List Value} {f : Int32 → List Value → mx_R} (hf : ∀ x r, mx_mo h (f x r)) : mx_mo h (mx_s1 st f) := by unfold mx_s1; split <;> first | exact hf _ _ | exact mo_none
theorem mo_s2 {st : List Value} {f : Int32 → Int32 → List Value → mx_R} (hf : ∀ x y r, mx_mo h (f x y r)) : mx_mo h (mx_s2 st f) := by unfold mx_s2; split <;> first | exact hf _ _ _ | exact mo_none
theorem mo_sa {st : List Value} {f : Value → List Value → mx_R} (hf : ∀ x r, mx_mo h (f x r)) : mx_mo h (mx_sa st f) := by unfold mx_sa; split <;> first | exact hf _ _ | exact mo_none
theorem mo_sr {st : List Value} {f : Nat → List Value → mx_R} (hf : ∀ x r, mx_mo h (f x r)) : mx_mo h (mx_sr st f) := by unfold mx_sr; split <;> first | exact hf _ _ | exact mo_none
theorem mo_sn {st : List Value} {f g : List Value → mx_R} (hf : ∀ r, mx_mo h (f r)) (hg : ∀ r, mx_mo h (g r)) : mx_mo h (mx_sn st f g) := by unfold mx_sn; split <;> first | exact hf _ | exact hg _ | exact mo_none
theorem mo_d1 {st : List Value} {f : Value → List Value → mx_R} (hf : ∀ x r, mx_mo h (f x r)) : mx_mo h (mx_d1 st f) := by unfold mx_d1; split <;> first | exact hf _ _ | exact mo_none
theorem mo_d2 {st : List Value} {f : Value → Value → List Value → mx_R} (hf : ∀ x y r, mx_mo h (f x y r)) : mx_mo h (mx_d2 st f) := by unfold mx_d2; split <;> first | exact hf _ _ _ | exact mo_none
theorem mo_ir {st : List Value} {f : Int32 → Nat → List Value → mx_R} (hf : ∀ x y r, mx_mo h (f x y r)) : mx_mo h (mx_ir st f) := by unfold mx_ir; split <;> first | exact hf _ _ _ | exact mo_none
theorem mo_rr {st : List Value} {f : Nat → Nat → List Value → mx_R} (hf : ∀ x y r, mx_mo h (f x y r)) : mx_mo h (mx_rr st f) := by unfold mx_rr; split <;> first | exact hf _ _ _ | exact mo_none
theorem mo_iir {st : List Value} {f : Int32 → Int32 → Nat → List Value → mx_R} (hf : ∀ x i y r, mx_mo h (f x i y r)) : mx_mo h (mx_iir st f) := by unfold mx_iir; split <;> first | exact hf _ _ _ _ | exact mo_none
theorem mo_rir {st : List Value} {f : Nat → Int32 → Nat → List Value → mx_R} (hf : ∀ x i y r, mx_mo h (f x i y r)) : mx_mo h (mx_rir st f) := by unfold mx_rir; split <;> first | exact hf _ _ _ _ | exact mo_none
theorem mo_cps {st : List Value} {f : Int32 → Int32 → Nat → Int32 → Nat → List Value → mx_R} (hf : ∀ n dp d sp s r, mx_mo h (f n dp d sp s r)) : mx_mo h (mx_cps st f) := by unfold mx_cps; split <;> first | exact hf _ _ _ _ _ _ | exact mo_none
theorem mo_gi {r ci k : Nat} {f : Int32 → mx_R} (hf : ∀ x, mx_mo h (f x)) : mx_mo h (mx_gi h r ci k f) := by
  unfold mx_gi; split
  · split
    · split <;> first | exact hf _ | exact mo_none
    · exact mo_none
  · exact mo_none
theorem mo_gr {r ci k : Nat} {f : Nat → mx_R} (hf : ∀ x, mx_mo h (f x)) : mx_mo h (mx_gr h r ci k f) := by
  unfold mx_gr; split
  · split
    · split <;> first | exact hf _ | exact mo_none
    · exact mo_none
  · exact mo_none
theorem mo_set {r : Nat} {e e' : va_E} {x : mx_R} (he : h[r]? = some e) (hs : mx_se e' = mx_se e) (hm : mx_mo (h.set r e') x) : mx_mo h x :=
  mo_tr (by rw [List.length_set]; exact Nat.le_refl _) (by rw [mx_sz_set he hs]; exact Nat.le_refl _) hm
theorem mo_pt {r ci k : Nat} {v : Value} {f : mx_H → mx_R} (hf : ∀ g, mx_mo g (f g)) : mx_mo h (mx_pt h r ci k v f) := by
  unfold mx_pt; split
  · rename_i he
    split
    · exact mo_set he (by simp [mx_se]) (hf _)
    · exact mo_none
  · exact mo_none
theorem mo_pz {r ci k : Nat} {v : Int32} {f : mx_H → mx_R} (hf : ∀ g, mx_mo g (f g)) : mx_mo h (mx_pz h r ci k v f) := by
  unfold mx_pz; split
  · exact mo_pt hf
  · exact mo_none
theorem mo_ai {r t : Nat} {i : Int32} {f : Int32 → mx_R} (hf : ∀ x, mx_mo h (f x)) : mx_mo h (mx_ai h r t i f) := by
  unfold mx_ai; split
  · split <;> first | exact hf _ | exact mo_none
  · exact mo_none
theorem mo_as {r t : Nat} {i x : Int32} {f : mx_H → mx_R} (hf : ∀ g, mx_mo g (f g)) : mx_mo h (mx_as h r t i x f) := by
  unfold mx_as; split
  · rename_i he
    split
    · exact mo_set he (by simp [mx_se]) (hf _)
    · exact mo_none
  · exact mo_none
theorem mo_aa {r : Nat} {i : Int32} {f : Nat → mx_R} (hf : ∀ x, mx_mo h (f x)) : mx_mo h (mx_aa h r i f) := by
  unfold mx_aa; split
  · split
    · split <;> first | exact hf _ | exact mo_none
    · exact mo_none
  · exact mo_none
theorem mo_at {r : Nat} {i : Int32} {v : Nat} {f : mx_H → mx_R} (hf : ∀ g, mx_mo g (f g)) : mx_mo h (mx_at h r i v f) := by
  unfold mx_at; split
  · rename_i he _
    split
    · exact mo_set he (by simp [mx_se]) (hf _)
    · exact mo_none
  · exact mo_none
theorem mo_al {r : Nat} {f : Int32 → mx_R} (hf : ∀ x, mx_mo h (f x)) : mx_mo h (mx_al h r f) := by
  unfold mx_al; split
  · exact mo_ite (hf _) mo_none
  · exact mo_none
theorem mo_psh {e : va_E} {x : mx_R} (hm : mx_mo (h ++ [e]) x) : mx_mo h x := mo_tr (by simp) (by rw [mx_sz_push]; exact Nat.le_add_right _ _) hm
theorem mo_nw {ci : Nat} {fs : List Value} {f : Nat → mx_H → mx_R} (hf : ∀ r g, mx_mo g (f r g)) : mx_mo h (mx_nw h ci fs f) := mo_psh (hf _ _)
theorem mo_na {t : Nat} {n : Int32} {f : Nat → mx_H → mx_R} (hf : ∀ r g, mx_mo g (f r g)) : mx_mo h (mx_na h t n f) := by
  unfold mx_na; split
  · exact mo_psh (hf _ _)
  · exact mo_none
theorem mo_nq {t : Nat} {n : Int32} {f : Nat → mx_H → mx_R} (hf : ∀ r g, mx_mo g (f r g)) : mx_mo h (mx_nq h t n f) := by
  unfold mx_nq; split
  · exact mo_psh (hf _ _)
  · exact mo_none
theorem mo_cp {s d : Nat} {sp dp n : Int32} {f : mx_H → mx_R} (hf : ∀ g, mx_mo g (f g)) : mx_mo h (mx_cp h s sp d dp n f) := by
  unfold mx_cp; split
  · rename_i he
    split
    · exact mo_set he (by simp [mx_se]) (hf _)
    · exact mo_none
  · exact mo_none
theorem mo_gf {st : List Value} {a b w : Nat} {f : List Value → mx_R} (hf : ∀ x, mx_mo h (f x)) : mx_mo h (mx_gf h st a b w f) := by
  unfold mx_gf; split
  · exact mo_sr fun _ _ => mo_gi fun _ => hf _
  · exact mo_sr fun _ _ => mo_gr fun _ => hf _
  · split
    · exact mo_bif (hf _) mo_none
    · exact mo_none
  · split
    · exact mo_bif (hf _) mo_none
    · exact mo_none
theorem mo_ck {xs : List Int32} {t r : Nat} {i : Int32} {f : Int32 → mx_R} (hf : ∀ x, mx_mo h (f x)) : mx_mo h (mx_ck xs t r i f) := by
  unfold mx_ck; split
  · exact mo_ite (hf _) mo_none
  · exact mo_none
theorem mo_cn {xs : List Int32} {r : Nat} {f : Int32 → mx_R} (hf : ∀ x, mx_mo h (f x)) : mx_mo h (mx_cn xs r f) := by
  unfold mx_cn; split
  · exact hf _
  · exact mo_none
theorem mo_bl {xs : List Int32} {t t2 : Nat} {st : List Value} {f : List Value → mx_R} (hf : ∀ x, mx_mo h (f x)) : mx_mo h (mx_bl xs t t2 h st f) := by
  unfold mx_bl; split
  · exact mo_ai fun _ => hf _
  · exact mo_ck fun _ => hf _
  · exact mo_none
theorem mo_ln {xs : List Int32} {st : List Value} {f : List Value → mx_R} (hf : ∀ x, mx_mo h (f x)) : mx_mo h (mx_ln xs h st f) := by
  unfold mx_ln; split
  · exact mo_al fun _ => hf _
  · exact mo_cn fun _ => hf _
  · exact mo_none
theorem mo_on {r : mx_R} {v : Option Value} {g : mx_H} {x : mx_R} (hr : mx_mo h r) (e : r = some (v, g)) (hm : mx_mo g x) : mx_mo h x := mo_tr (hr v g e).1 (hr v g e).2 hm
theorem mo_bk {w : Nat} {r : mx_R} {rest : List Value} {f : List Value → mx_H → mx_R} (hr : mx_mo h r) (hf : ∀ x g, mx_mo g (f x g)) : mx_mo h (mx_bk w r rest f) := by
  unfold mx_bk; split
  · unfold mx_c0; split
    · exact mo_on hr rfl (hf _ _)
    · exact mo_none
  · unfold mx_c1; split
    · exact mo_on hr rfl (hf _ _)
    · exact mo_none
  · unfold mx_c2; split
    · exact mo_on hr rfl (hf _ _)
    · exact mo_none
  · unfold mx_c3; split
    · exact mo_on hr rfl (hf _ _)
    · exact mo_on hr rfl (hf _ _)
    · exact mo_none
  · unfold mx_c4; split
    · exact mo_on hr rfl (hf _ _)
    · exact mo_none
theorem mo_cl {r ci : Nat} {x : mx_R} (hx : mx_mo h x) : mx_mo h (mx_cl h r ci x) := by
  unfold mx_cl; split
  · exact mo_ite hx mo_none
  · exact mo_none
theorem mo_iv {st : List Value} {n ci : Nat} {f : List Value → List Value → mx_R} (hf : ∀ x r, mx_mo h (f x r)) : mx_mo h (mx_iv h st n ci f) := by
  unfold mx_iv; split
  · exact mo_bif (mo_cl (hf _ _)) mo_none
  · exact mo_bif (hf _ _) mo_none
  · exact mo_none
theorem mo_is {st : List Value} {n : Nat} {f : List Value → List Value → mx_R} (hf : ∀ x r, mx_mo h (f x r)) : mx_mo h (mx_is st n f) := by
  unfold mx_is; split
  · exact mo_bif (hf _ _) mo_none
  · exact mo_none
theorem mo_ss {st : List Value} {n : Nat} {f : List Value → List Value → mx_R} (hf : ∀ x r, mx_mo h (f x r)) : mx_mo h (mx_ss st n f) := mo_bif (hf _ _) mo_none
theorem mo_ri {u : Nat} {st : List Value} : mx_mo h (mx_ri u st h) := by
  unfold mx_ri; split
  · split
    · exact mo_self
    · exact mo_ite mo_self mo_none
    · exact mo_ite mo_self mo_none
    · exact mo_ite mo_self mo_none
  · exact mo_none
theorem mo_ra {st : List Value} : mx_mo h (mx_ra st h) := by unfold mx_ra; split <;> first | exact mo_self | exact mo_none
theorem mo_rv {st : List Value} : mx_mo h (mx_rv st h) := by unfold mx_rv; split <;> first | exact mo_self | exact mo_none
theorem mo_sw {x : Int32} {f : Nat → mx_R} {d : mx_R} (hf : ∀ t, mx_mo h (f t)) (hd : mx_mo h d) : ∀ cs : List (Int32 × Nat), mx_mo h (mx_sw cs x f d)
  | [] => hd
  | (_, _) :: cs => mo_ite (hf _) (mo_sw hf hd cs)
theorem mo_ic {cd : Jvm.ClassFile.Cond} {x y : Int32} {a b : mx_R} (ha : mx_mo h a) (hb : mx_mo h b) : mx_mo h (mx_ic cd x y a b) := by
  unfold mx_ic; split <;> first | exact mo_ite ha hb | exact mo_ite hb ha
end MXM
set_option maxHeartbeats 4000000 in
theorem mo_fw {xs : List Int32} {call : Nat → List Value → mx_H → mx_R} {c : List mx_I} {ct : Nat → mx_L → List Value → mx_H → mx_R} (hc : ∀ j as h, mx_mo h (call j as h)) (ht : ∀ pc ls st h, mx_mo h (ct pc ls st h)) : ∀ (k : Nat) (fi : Bool) (pc : Nat) (ls : mx_L) (st : List Value) (h : mx_H), mx_mo h (mx_fw xs call c ct fi k pc ls st h)
  | 0, _, _, _, _, _ => by unfold mx_fw; exact mo_none
  | k + 1, fi, pc, ls, st, h => by
    have ih := mo_fw (xs := xs) (c := c) hc ht k
    unfold mx_fw
    split
    · exact mo_none
    · refine mo_bif (ht _ _ _ _) ?_
      split
      all_goals first
        | exact mo_none
        | exact ih _ _ _ _ _
        | exact mo_bif (ih _ _ _ _ _) (ih _ _ _ _ _)
        | exact mo_li fun _ => ih _ _ _ _ _
        | exact mo_la fun _ => ih _ _ _ _ _
        | exact mo_s1 fun _ _ => ih _ _ _ _ _
        | exact mo_sa fun _ _ => ih _ _ _ _ _
        | exact mo_s2 fun _ _ _ => ih _ _ _ _ _
        | exact mo_s2 fun _ _ _ => mo_ite mo_none (ih _ _ _ _ _)
        | exact mo_d1 fun _ _ => ih _ _ _ _ _
        | exact mo_d2 fun _ _ _ => ih _ _ _ _ _
        | exact mo_s2 fun _ _ _ => mo_ic (ih _ _ _ _ _) (ih _ _ _ _ _)
        | exact mo_s1 fun _ _ => mo_ic (ih _ _ _ _ _) (ih _ _ _ _ _)
        | exact mo_sn (fun _ => ih _ _ _ _ _) (fun _ => ih _ _ _ _ _)
        | exact mo_gf fun _ => ih _ _ _ _ _
        | exact mo_bif (mo_ir fun _ _ _ => mo_pt fun _ => ih _ _ _ _ _) (mo_bif (mo_rr fun _ _ _ => mo_pt fun _ => ih _ _ _ _ _) (mo_ir fun _ _ _ => mo_pz fun _ => ih _ _ _ _ _))
        | exact mo_ir fun _ _ _ => mo_ai fun _ => ih _ _ _ _ _
        | exact mo_bl fun _ => ih _ _ _ _ _
        | exact mo_iir fun _ _ _ _ => mo_as fun _ => ih _ _ _ _ _
        | exact mo_ir fun _ _ _ => mo_aa fun _ => ih _ _ _ _ _
        | exact mo_rir fun _ _ _ _ => mo_at fun _ => ih _ _ _ _ _
        | exact mo_ln fun _ => ih _ _ _ _ _
        | exact mo_nw fun _ _ => ih _ _ _ _ _
        | exact mo_s1 fun _ _ => mo_na fun _ _ => ih _ _ _ _ _
        | exact mo_s1 fun _ _ => mo_nq fun _ _ => ih _ _ _ _ _
        | exact mo_iv fun _ _ => mo_bk (hc _ _ _) fun _ _ => ih _ _ _ _ _
        | exact mo_bif (mo_cps fun _ _ _ _ _ _ => mo_bif (mo_cp fun _ => ih _ _ _ _ _) mo_none) (mo_ss fun _ _ => mo_bk (hc _ _ _) fun _ _ => ih _ _ _ _ _)
        | exact mo_bif (mo_sr fun _ _ => mo_bif (ih _ _ _ _ _) mo_none) (mo_is fun _ _ => mo_bk (hc _ _ _) fun _ _ => ih _ _ _ _ _)
        | exact mo_ri
        | exact mo_ra
        | exact mo_rv
        | exact mo_s1 fun _ _ => mo_sw (fun _ => ih _ _ _ _ _) (ih _ _ _ _ _) _
theorem mo_rn {xs : List Int32} {call : Nat → List Value → mx_H → mx_R} {c : List mx_I} (hc : ∀ j as h, mx_mo h (call j as h)) : ∀ (n pc : Nat) (ls : mx_L) (st : List Value) (h : mx_H), mx_mo h (mx_rn xs call c n pc ls st h)
  | 0, _, _, _, _ => by unfold mx_rn; exact mo_none
  | n + 1, pc, ls, st, h => by unfold mx_rn; exact mo_fw hc (mo_rn hc n) _ _ _ _ _ _
theorem mo_ev {xs : List Int32} {P : List mx_M} : ∀ (d j : Nat) (as : List Value) (h : mx_H), mx_mo h (mx_ev xs P d j as h)
  | 0, _, _, _ => by unfold mx_ev; exact mo_none
  | d + 1, j, as, h => by
    unfold mx_ev
    split
    · exact mo_bif (mo_rn (mo_ev d) _ _ _ _ _) mo_none
    · exact mo_none
end
section
/-! ===== what a method's walk stands on ===== -/
def mx_tys (ta : Nat → ClassId) : List (ClassId × FieldType) := [(ta 0, .int), (ta 1, .boolean), (ta 2, .char), (ta 3, .object RX1), (ta 4, .object RX3), (ta 5, .object RX4), (ta 6, .object RX5)]
def mx_NM : List (String × Nat × MethodName) := [(RX0, 59, yX1_init), (RX0, 148, yX6_heldWithin), (RX4, 17, yX1_init), (RX4, 24, yX3_init), (RX6, 39, yX2_init), (RX6, 62, yX3_init), (RX6, 63, yX4_init)]
def mx_SL : List (Nat × String × Nat) := [(106, "press", 0), (112, "fee", 1), (114, "fine", 2), (143, "hokt", 3), (145, "pt", 4), (147, "sk", 5)]
def mx_kty : Nat → FieldType
  | 0 => .int
  | _ => .byte
def mx_C (xs : List Int32) (D : va_G) (ta : Nat → ClassId) (base : Nat) (sk : Nat → Value) (U : State) (H : Heap) : Prop :=
  va_K D vwCl (mx_tys ta) U ∧ (∀ q ∈ mx_NM, va_Nw (.methodLinkNest q.1 q.2.1 q.2.2 "CreaseLines") U) ∧ va_Nw (.fieldLinkNest "CreaseLines$Leg" 30 "CreaseLines" "ABOVE" "[I" "CreaseLines") U ∧
  (va_AO RX1 U ∧ va_AO RX3 U ∧ va_AO RX4 U ∧ va_AO RX5 U) ∧
  (va_Z "CreaseLines" "ABOVE" "[I" (sk 200) (mx_A base) U H ∧ va_Z "CreaseLines" "MOST_OF_RULE" "[I" (sk 201) (mx_A base) U H ∧ va_Z "java/lang/String" "COMPACT_STRINGS" "Z" (.int 1) (mx_A base) U H ∧ va_Z "jdk/internal/util/Preconditions" "SIOOBE_FORMATTER" "Ljava/util/function/BiFunction;" (sk 999) (mx_A base) U H) ∧
  (∀ (r t : Nat) (l : List Int32), mx_kt xs r = some (t, l) → ∃ a : Nat, sk r = .ref a ∧ va_T (mx_kty t) a l.length (fun j => .int (l.getD j 0)) (mx_A base) U H) ∧
  (∀ i : Nat, i < 6 → ∃ a : Nat, sk i = .ref a ∧ va_O "java/lang/String" a (mx_A base) U H ∧ va_OF "java/lang/String" "coder" "B" (.int 0) a (mx_A base) U H ∧ va_OF "java/lang/String" "value" "[B" (sk (100 + i)) a (mx_A base) U H) ∧
  (∀ q ∈ mx_SL, ∃ a : Nat, sk q.2.2 = .ref a ∧ vk_R RX2 q.1 q.2.1 a U)
theorem mx_C.same {xs : List Int32} {D : va_G} {ta : Nat → ClassId} {base : Nat} {sk : Nat → Value} {u U : State} {H : Heap} (hv : U.vm = u.vm) (h : mx_C xs D ta base sk u H) : mx_C xs D ta base sk U H := by
  obtain ⟨h1, h2, h3, ⟨h4, h5, h6, h7⟩, ⟨h8, h9, h10, h11⟩, h12, h13, h14⟩ := h
  have ha : u.vm.Alike U.vm := by rw [hv]; exact Vm.Alike.refl _
  refine ⟨h1.moved ha, fun q hq => (h2 q hq).same rfl hv.symm, h3.same rfl hv.symm, ⟨h4.moved ha, h5.moved ha, h6.moved ha, h7.moved ha⟩, ⟨h8.moved ha, h9.moved ha, h10.moved ha, h11.moved ha⟩, fun r t l hr => ?_, fun i hi => ?_, fun q hq => ?_⟩
  · obtain ⟨a, e, ht⟩ := h12 r t l hr
    exact ⟨a, e, ht.moved ha⟩
  · obtain ⟨a, e, x1, x2, x3⟩ := h13 i hi
    exact ⟨a, e, x1.moved ha, x2.moved ha, x3.moved ha⟩
  · obtain ⟨a, e, x1⟩ := h14 q hq
    exact ⟨a, e, x1.same hv⟩
theorem mx_C.warm {xs : List Int32} {D : va_G} {ta : Nat → ClassId} {base : Nat} {sk : Nat → Value} {s U : State} {H : Heap} (hW : s.WarmedH U.vm) (h : mx_C xs D ta base sk s H) : mx_C xs D ta base sk U H := by
  obtain ⟨h1, h2, h3, ⟨h4, h5, h6, h7⟩, ⟨h8, h9, h10, h11⟩, h12, h13, h14⟩ := h
  have ha : s.vm.Alike U.vm := hW.alike
  refine ⟨h1.moved ha, fun q hq => va_Nw.warmM hW (h2 q hq), va_Nw.warmF hW h3, ⟨h4.moved ha, h5.moved ha, h6.moved ha, h7.moved ha⟩, ⟨h8.moved ha, h9.moved ha, h10.moved ha, h11.moved ha⟩, fun r t l hr => ?_, fun i hi => ?_, fun q hq => ?_⟩
  · obtain ⟨a, e, ht⟩ := h12 r t l hr
    exact ⟨a, e, ht.moved ha⟩
  · obtain ⟨a, e, x1, x2, x3⟩ := h13 i hi
    exact ⟨a, e, x1.moved ha, x2.moved ha, x3.moved ha⟩
  · obtain ⟨a, e, x1⟩ := h14 q hq
    exact ⟨a, e, x1.warm hW⟩
theorem mx_C.kept {xs : List Int32} {D : va_G} {ta : Nat → ClassId} {base : Nat} {sk : Nat → Value} {U : State} {H H1 : Heap} (hq : ∀ a : Nat, a < H.size → ¬ mx_A base a → H1[a]? = H[a]?) (h : mx_C xs D ta base sk U H) : mx_C xs D ta base sk U H1 := by
  obtain ⟨h1, h2, h3, h4, ⟨h8, h9, h10, h11⟩, h12, h13, h14⟩ := h
  refine ⟨h1, h2, h3, h4, ⟨h8.kept hq, h9.kept hq, h10.kept hq, h11.kept hq⟩, fun r t l hr => ?_, fun i hi => ?_, h14⟩
  · obtain ⟨a, e, ht⟩ := h12 r t l hr
    exact ⟨a, e, ht.kept hq⟩
  · obtain ⟨a, e, x1, x2, x3⟩ := h13 i hi
    exact ⟨a, e, x1.kept hq, x2.kept hq, x3.kept hq⟩
/-! the classes, by number -/
def mx_T : Nat → u_T
  | 0 => TX0 | 1 => TX1 | 2 => TX2 | 3 => TX3 | 4 => TX4 | 5 => TX5 | 6 => TX6 | _ => TX7
def mx_RX : Nat → String
  | 0 => RX0 | 1 => RX1 | 2 => RX2 | 3 => RX3 | 4 => RX4 | 5 => RX5 | 6 => RX6 | _ => RX7
def mx_Nf : Nat → Nat
  | 0 => 13 | 1 => 6 | 2 => 15 | 3 => 3 | 4 => 4 | 5 => 3 | 6 => 12 | _ => 33
def mx_tyf : Nat → Nat → FieldType
  | 0 => tyX0 | 1 => tyX1 | 2 => tyX2 | 3 => tyX3 | 4 => tyX4 | 5 => tyX5 | 6 => tyX6 | _ => tyX7
def mx_WS : List Cond := wsX00 ++ (wsX10 ++ (wsX20 ++ (wsX30 ++ (wsX40 ++ (wsX50 ++ (wsX60 ++ wsX70))))))
theorem mx_cl_at {a : Nat} (h : a < 8) : vwCl[a]? = some (mx_RX a, mx_T a, mx_Nf a) := by
  match a, h with
  | 0, _ | 1, _ | 2, _ | 3, _ | 4, _ | 5, _ | 6, _ | 7, _ => rfl
  | a + 8, h => omega
theorem mx_cl_ws {a : Nat} (h : a < 8) : ∀ w ∈ u_ws (mx_RX a) (mx_T a) (mx_Nf a), w ∈ mx_WS := by
  intro w hw
  unfold mx_WS
  simp only [List.mem_append]
  match a, h, hw with
  | 0, _, hw => exact Or.inl hw
  | 1, _, hw => exact Or.inr (Or.inl hw)
  | 2, _, hw => exact Or.inr (Or.inr (Or.inl hw))
  | 3, _, hw => exact Or.inr (Or.inr (Or.inr (Or.inl hw)))
  | 4, _, hw => exact Or.inr (Or.inr (Or.inr (Or.inr (Or.inl hw))))
  | 5, _, hw => exact Or.inr (Or.inr (Or.inr (Or.inr (Or.inr (Or.inl hw)))))
  | 6, _, hw => exact Or.inr (Or.inr (Or.inr (Or.inr (Or.inr (Or.inr (Or.inl hw))))))
  | 7, _, hw => exact Or.inr (Or.inr (Or.inr (Or.inr (Or.inr (Or.inr (Or.inr hw))))))
  | a + 8, h, _ => omega
theorem mx_cl_ty {a : Nat} (h : a < 8) : ∀ k, k < mx_Nf a → parseFieldDescriptor (mx_T a k).2.2.1 = some (mx_tyf a k) := by
  match a, h with
  | 0, _ => exact tyX0_ok
  | 1, _ => exact tyX1_ok
  | 2, _ => exact tyX2_ok
  | 3, _ => exact tyX3_ok
  | 4, _ => exact tyX4_ok
  | 5, _ => exact tyX5_ok
  | 6, _ => exact tyX6_ok
  | 7, _ => exact tyX7_ok
  | a + 8, h => omega
theorem mx_cl_nm {a : Nat} (h : a < 8) : ∀ i, i < mx_Nf a → ∀ j, j < mx_Nf a → i ≠ j → (mx_T a i).2.1 ≠ (mx_T a j).2.1 := by
  match a, h with
  | 0, _ => exact nmX0
  | 1, _ => exact nmX1
  | 2, _ => exact nmX2
  | 3, _ => exact nmX3
  | 4, _ => exact nmX4
  | 5, _ => exact nmX5
  | 6, _ => exact nmX6
  | 7, _ => exact nmX7
  | a + 8, h => omega
theorem mx_cl_df {a : Nat} (h : a < 8) : (mx_df a).length = mx_Nf a ∧ ∀ (base : Nat) (sk : Nat → Value), (mx_df a).map (mx_cv base sk) = mx_df a ∧ ∀ j, j < mx_Nf a → defaultValue (mx_tyf a j) = vp_V (mx_df a) j := by
  match a, h with
  | 0, _ => exact ⟨rfl, fun _ _ => ⟨rfl, by decide +kernel⟩⟩
  | 1, _ => exact ⟨rfl, fun _ _ => ⟨rfl, by decide +kernel⟩⟩
  | 2, _ => exact ⟨rfl, fun _ _ => ⟨rfl, by decide +kernel⟩⟩
  | 3, _ => exact ⟨rfl, fun _ _ => ⟨rfl, by decide +kernel⟩⟩
  | 4, _ => exact ⟨rfl, fun _ _ => ⟨rfl, by decide +kernel⟩⟩
  | 5, _ => exact ⟨rfl, fun _ _ => ⟨rfl, by decide +kernel⟩⟩
  | 6, _ => exact ⟨rfl, fun _ _ => ⟨rfl, by decide +kernel⟩⟩
  | 7, _ => exact ⟨rfl, fun _ _ => ⟨rfl, by decide +kernel⟩⟩
  | a + 8, h => omega
/-! what each instruction needs of the tables -/
def mx_len (b : Nat) : Instr → Nat
  | .bipush _ | .ldc _ | .iload _ | .aload _ | .istore _ | .astore _ | .newarray _ => 2
  | .sipush _ | .ldc_w _ | .iinc _ _ | .goto _ | .if_icmp _ _ | .ifCond _ _ | .ifnull _ | .ifnonnull _ | .getfield _ | .putfield _ | .getstatic _ | .new _ | .anewarray _ | .invokevirtual _ | .invokestatic _ | .invokespecial _ | .checkcast _ => 3
  | .tableswitch _ _ _ _ | .lookupswitch _ _ => b
  | _ => 1
def mx_sta (w a : Nat) : String × String × String := match w with
  | 0 => (match a with | 200 => ("CreaseLines", "ABOVE", "[I") | 201 => ("CreaseLines", "MOST_OF_RULE", "[I") | _ => ("jdk/internal/util/Preconditions", "SIOOBE_FORMATTER", "Ljava/util/function/BiFunction;"))
  | _ => ("java/lang/String", "COMPACT_STRINGS", "Z")
def mx_need (P : List mx_M) (own : String) : mx_I → List Cond
  | (_, ins, _, _, a, b, w, _, v, _) => match ins with
    | .getfield i => (match w with
      | 5 => [.fieldLink own i "java/lang/String" "value" "[B"]
      | 6 => [.fieldLink own i "java/lang/String" "coder" "B"]
      | _ => [.fieldLink own i (mx_T a b).1 (mx_T a b).2.1 (mx_T a b).2.2.1])
    | .putfield i => [.fieldLink own i (mx_T a b).1 (mx_T a b).2.1 (mx_T a b).2.2.1]
    | .getstatic i => bif decide (v = 2) then [] else [.fieldLink own i (mx_sta w a).1 (mx_sta w a).2.1 (mx_sta w a).2.2]
    | .ldc i => (match w with | 0 => [.constant own i v] | _ => [])
    | .ldc_w i => [.constant own i v]
    | .new i => [.classLink own i (mx_RX a), .instantiable (mx_RX a) (mx_Nf a), .initialized (mx_RX a)]
    | .newarray t => [.arrayClass (newarray.typeOf t)]
    | .anewarray i => [.classLink own i (mx_RX (mx_kc a))]
    | .invokevirtual i => (match P[a]? with
      | some M => [.methodLink own i M.1, .instanceMethod M.1, .selects M.1.cls M.1 M.1, .initialized M.1.cls]
      | none => [])
    | .invokestatic i => (match w with
      | 8 => [.methodLink own i arraycopyName, .native arraycopyName, .static arraycopyName, .initialized "java/lang/System"]
      | _ => (match P[a]? with
        | some M => (bif decide (v = 1) then [.static M.1, .initialized M.1.cls] else [.methodLink own i M.1, .static M.1, .initialized M.1.cls])
        | none => []))
    | .invokespecial i => (match w with
      | 9 => [.methodLink own i objectInit, .instanceMethod objectInit, .code objectInit ⟨#[0xb1]⟩ 1 none]
      | _ => (match P[a]? with
        | some M => (bif decide (v = 1) then [.instanceMethod M.1, .initialized M.1.cls] else [.methodLink own i M.1, .instanceMethod M.1, .initialized M.1.cls])
        | none => []))
    | _ => []
def mx_tb (pc : Nat) : Int → List Int → List (Int32 × Nat) → Bool
  | _, [], [] => true
  | lo, o :: os, (v, t) :: cs => decide (v.toInt = lo) && decide ((pc : Int) + o = (t : Int)) && mx_tb pc (lo + 1) os cs
  | _, _, _ => false
def mx_lk (pc : Nat) : List (Int × Int) → List (Int32 × Nat) → Bool
  | [], [] => true
  | (n, o) :: ps, (v, t) :: cs => decide (v.toInt = n) && decide ((pc : Int) + o = (t : Int)) && mx_lk pc ps cs
  | _, _ => false
def mx_cal (M : mx_M) (b : Nat) : Bool := decide (M.1.cls ≠ "java/lang/invoke/MethodHandle" ∧ M.1.cls ≠ "java/lang/invoke/VarHandle" ∧ (parseMethodDescriptor M.1.desc).map (fun d => d.parameters.length) = some b) && Nat.ble M.2.2.1 9
def mx_isref : FieldType → Bool
  | .object _ => true
  | .array _ => true
  | _ => false
def mx_so (w a : Nat) (v : Int32) : Bool := match w with
  | 0 => Nat.beq a 200 || Nat.beq a 201 || Nat.beq a 999
  | _ => decide (v = 1)
/-- what is checked of an instruction, by the kernel -/
def mx_ok (P : List mx_M) (y : MethodName) (cc : ByteArray) (nL : Nat) (ret : Option FieldType) : mx_I → Bool
  | (pc, ins, _, _, a, b, w, u, v, cs) => decide (decode cc pc = .ok (ins, mx_len b ins)) && (match ins with
    | .iconst n => decide (Int32.ofInt n = v)
    | .bipush n => decide ((Int8.ofInt n).toInt32 = v)
    | .sipush n => decide ((Int16.ofInt n).toInt32 = v)
    | .ldc i => Nat.beq w 0 || (decide (y.cls = RX2) && mx_SL.any (fun q => Nat.beq q.1 i && Nat.beq q.2.2 a))
    | .istore_n n => Nat.blt n.val nL
    | .astore_n n => Nat.blt n.val nL
    | .istore n => Nat.blt n nL
    | .astore n => Nat.blt n nL
    | .iinc n x => Nat.blt n nL && decide (Int32.ofInt x = v)
    | .goto o => decide ((pc : Int) + o = (a : Int))
    | .if_icmp _ o => decide ((pc : Int) + o = (a : Int))
    | .ifCond _ o => decide ((pc : Int) + o = (a : Int))
    | .ifnull o => decide ((pc : Int) + o = (a : Int))
    | .ifnonnull o => decide ((pc : Int) + o = (a : Int))
    | .getfield _ => (match w with | 0 | 1 => Nat.blt a 8 && Nat.blt b (mx_Nf a) | 5 => true | 6 => true | _ => false)
    | .putfield _ => Nat.blt a 8 && Nat.blt b (mx_Nf a) && (match w with | 0 => decide (mx_tyf a b = .int) | 1 => mx_isref (mx_tyf a b) | _ => decide (mx_tyf a b = .boolean)) && (!(mx_T a b).2.2.2 || (decide (y.name = "<init>") && decide ((mx_T a b).1 = y.cls)))
    | .getstatic i => bif decide (v = 2) then (decide (y.cls = "CreaseLines$Leg") && Nat.beq i 30 && Nat.beq a 200 && Nat.beq w 0) else mx_so w a v
    | .new _ => Nat.blt a 8
    | .newarray t => decide ((a = 0 ∧ t = .int) ∨ (a = 1 ∧ t = .boolean) ∨ (a = 2 ∧ t = .char))
    | .anewarray _ => decide (3 ≤ a ∧ a ≤ 6)
    | .invokevirtual _ => (match P[a]? with
      | some M => mx_cal M b && (match u with | 99 => decide (M.1.cls = "java/lang/String") | _ => Nat.blt u 8 && decide (mx_RX u = M.1.cls))
      | none => true)
    | .invokestatic i => Nat.beq w 8 || (match P[a]? with
      | some M => mx_cal M b && (bif decide (v = 1) then decide ((y.cls, i, M.1) ∈ mx_NM) else true)
      | none => true)
    | .invokespecial i => Nat.beq w 9 || (match P[a]? with
      | some M => mx_cal M b && decide (M.1.name = "<init>") && decide (M.2.2.2.1 = none) && (bif decide (v = 1) then decide ((y.cls, i, M.1) ∈ mx_NM) else true)
      | none => true)
    | .ireturn => (match u with | 0 => decide (ret = some .int) | 1 => decide (ret = some .boolean) | 2 => decide (ret = some .char) | _ => decide (ret = some .byte))
    | .areturn => (match ret with | some t => mx_isref t | none => false)
    | .return_ => decide (ret = none)
    | .tableswitch d lo hi offs => decide ((pc : Int) + d = (a : Int)) && decide (hi + 1 = lo + (offs.toList.length : Int)) && mx_tb pc lo offs.toList cs
    | .lookupswitch d ps => decide ((pc : Int) + d = (a : Int)) && (ps.toList.zip (ps.toList.drop 1)).all (fun (a, next) => a.1 < next.1) && mx_lk pc ps.toList cs
    | _ => true)
end
section
/-! ===== the small machine is the JVM's: row by row ===== -/
def mx_g (base : Nat) (sk : Nat → Value) (q : Nat × Value) : Nat × Value := (q.1, mx_cv base sk q.2)
def mx_X (xs : List Int32) (P : List mx_M) (G : List Cond) (p : Program) (R : Room) (s : State) (m : MethodId) (args : Array Value) (meth : Method) (c : Code) (y : MethodName) (cc : ByteArray) (nL : Nat) (D : va_G) (ta : Nat → ClassId) (base : Nat) (sk : Nat → Value) (dd : Nat) (Ts : List Cond) (h0 : mx_H) : Prop :=
  CallFix p m c cc nL s args Ts y.cls ∧ (y.name = "<init>" → meth.name = "<init>") ∧ mx_C xs D ta base sk s s.heap ∧ s.heap.size = base + h0.length ∧ (∀ i, sk i = .null ∨ ∃ a, sk i = .ref a) ∧ (∀ w ∈ mx_WS, w ∈ Ts) ∧ (∀ (j : Nat) (M : mx_M), P[j]? = some M → GoodIn Ts (Cond.code M.1 M.2.1 M.2.2.1 M.2.2.2.1 :: G)) ∧ dd + 1 ≤ R.frames ∧ 36 * (dd + 1) ≤ R.locals
def mx_W (p : Program) (l : Launch) (e : Env) (R : Room) (s : State) (m : MethodId) (args : Array Value) (below : List Frame) (meth : Method) (c : Code) (D : va_G) (ta : Nat → ClassId) (base : Nat) (sk : Nat → Value) (h0 : mx_H) (nL : Nat) (Q : State → Prop) (pc : Nat) (ls : mx_L) (st : List Value) (h : mx_H) : Prop :=
  ∀ (H : Heap) (locs : List Loc) (lsC : Array Slot), mx_Rl D ta base sk h H → va_S (mx_A base) s.heap H locs → lv_has lsC nL (ls.map (mx_g base sk)) → h0.length ≤ h.length → mx_sz h0 ≤ mx_sz h → W p l e R s m args below meth c H locs (h.length - h0.length) (mx_sz h - mx_sz h0) Q (F0 m pc lsC (st.map (mx_cv base sk)))
/-- a reference, or null, or what is older -/
def mx_isr (v : Value) : Prop := (∃ x, v = .ref x) ∨ v = .null ∨ ∃ x, v = .retAddr x
section MXI
theorem iv_li {ls : mx_L} {i : Nat} {f : Int32 → mx_R} {q : Option Value × mx_H} (h : mx_li ls i f = some q) : ∃ x, mx_ld ls i = some (.int x) ∧ f x = some q := by
  unfold mx_li at h; split at h
  · rename_i x hx; exact ⟨x, hx, h⟩
  · cases h
theorem iv_la {ls : mx_L} {i : Nat} {f : Value → mx_R} {q : Option Value × mx_H} (h : mx_la ls i f = some q) : ∃ v, mx_ld ls i = some v ∧ mx_isr v ∧ f v = some q := by
  unfold mx_la at h; split at h
  · rename_i x hx; exact ⟨_, hx, Or.inl ⟨_, rfl⟩, h⟩
  · rename_i hx; exact ⟨_, hx, Or.inr (Or.inl rfl), h⟩
  · rename_i x hx; exact ⟨_, hx, Or.inr (Or.inr ⟨_, rfl⟩), h⟩
  · cases h
theorem iv_s1 {st : List Value} {f : Int32 → List Value → mx_R} {q : Option Value × mx_H} (h : mx_s1 st f = some q) : ∃ x r, st = .int x :: r ∧ f x r = some q := by
  unfold mx_s1 at h; split at h
  · exact ⟨_, _, rfl, h⟩
  · cases h
theorem iv_s2 {st : List Value} {f : Int32 → Int32 → List Value → mx_R} {q : Option Value × mx_H} (h : mx_s2 st f = some q) : ∃ x y r, st = .int y :: .int x :: r ∧ f x y r = some q := by
  unfold mx_s2 at h; split at h
  · exact ⟨_, _, _, rfl, h⟩
  · cases h
theorem iv_sa {st : List Value} {f : Value → List Value → mx_R} {q : Option Value × mx_H} (h : mx_sa st f = some q) : ∃ v r, st = v :: r ∧ mx_isr v ∧ f v r = some q := by
  unfold mx_sa at h; split at h
  · exact ⟨_, _, rfl, Or.inl ⟨_, rfl⟩, h⟩
  · exact ⟨_, _, rfl, Or.inr (Or.inl rfl), h⟩
  · exact ⟨_, _, rfl, Or.inr (Or.inr ⟨_, rfl⟩), h⟩
  · cases h
theorem iv_sr {st : List Value} {f : Nat → List Value → mx_R} {q : Option Value × mx_H} (h : mx_sr st f = some q) : ∃ x r, st = .ref x :: r ∧ f x r = some q := by
  unfold mx_sr at h; split at h
  · exact ⟨_, _, rfl, h⟩
  · cases h
theorem iv_sn {st : List Value} {f g : List Value → mx_R} {q : Option Value × mx_H} (h : mx_sn st f g = some q) : (∃ r, st = .null :: r ∧ f r = some q) ∨ ∃ x r, st = .ref x :: r ∧ g r = some q := by
  unfold mx_sn at h; split at h
  · exact Or.inl ⟨_, rfl, h⟩
  · exact Or.inr ⟨_, _, rfl, h⟩
  · cases h
theorem iv_d1 {st : List Value} {f : Value → List Value → mx_R} {q : Option Value × mx_H} (h : mx_d1 st f = some q) : ∃ v r, st = v :: r ∧ ((∃ x, v = .int x) ∨ ∃ x, v = .ref x) ∧ f v r = some q := by
  unfold mx_d1 at h; split at h
  · exact ⟨_, _, rfl, Or.inl ⟨_, rfl⟩, h⟩
  · exact ⟨_, _, rfl, Or.inr ⟨_, rfl⟩, h⟩
  · cases h
theorem iv_d2 {st : List Value} {f : Value → Value → List Value → mx_R} {q : Option Value × mx_H} (h : mx_d2 st f = some q) : ∃ v w r, st = v :: w :: r ∧ (∃ x, v = .int x) ∧ ((∃ x, w = .int x) ∨ ∃ x, w = .ref x) ∧ f v w r = some q := by
  unfold mx_d2 at h; split at h
  · exact ⟨_, _, _, rfl, ⟨_, rfl⟩, Or.inr ⟨_, rfl⟩, h⟩
  · exact ⟨_, _, _, rfl, ⟨_, rfl⟩, Or.inl ⟨_, rfl⟩, h⟩
  · cases h
theorem iv_ir {st : List Value} {f : Int32 → Nat → List Value → mx_R} {q : Option Value × mx_H} (h : mx_ir st f = some q) : ∃ x y r, st = .int x :: .ref y :: r ∧ f x y r = some q := by
  unfold mx_ir at h; split at h
  · exact ⟨_, _, _, rfl, h⟩
  · cases h
theorem iv_rr {st : List Value} {f : Nat → Nat → List Value → mx_R} {q : Option Value × mx_H} (h : mx_rr st f = some q) : ∃ x y r, st = .ref x :: .ref y :: r ∧ f x y r = some q := by
  unfold mx_rr at h; split at h
  · exact ⟨_, _, _, rfl, h⟩
  · cases h
theorem iv_iir {st : List Value} {f : Int32 → Int32 → Nat → List Value → mx_R} {q : Option Value × mx_H} (h : mx_iir st f = some q) : ∃ x i y r, st = .int x :: .int i :: .ref y :: r ∧ f x i y r = some q := by
  unfold mx_iir at h; split at h
  · exact ⟨_, _, _, _, rfl, h⟩
  · cases h
theorem iv_rir {st : List Value} {f : Nat → Int32 → Nat → List Value → mx_R} {q : Option Value × mx_H} (h : mx_rir st f = some q) : ∃ x i y r, st = .ref x :: .int i :: .ref y :: r ∧ f x i y r = some q := by
  unfold mx_rir at h; split at h
  · exact ⟨_, _, _, _, rfl, h⟩
  · cases h
theorem iv_cps {st : List Value} {f : Int32 → Int32 → Nat → Int32 → Nat → List Value → mx_R} {q : Option Value × mx_H} (h : mx_cps st f = some q) : ∃ n dp d sp s r, st = .int n :: .int dp :: .ref d :: .int sp :: .ref s :: r ∧ f n dp d sp s r = some q := by
  unfold mx_cps at h; split at h
  · exact ⟨_, _, _, _, _, _, rfl, h⟩
  · cases h
theorem iv_bif {b : Bool} {x : mx_R} {q : Option Value × mx_H} (h : (bif b then x else none) = some q) : b = true ∧ x = some q := by
  cases b
  · cases h
  · exact ⟨rfl, h⟩
theorem iv_gi {h : mx_H} {r ci k : Nat} {f : Int32 → mx_R} {q : Option Value × mx_H} (e : mx_gi h r ci k f = some q) : ∃ fs x, h[r]? = some (.inr (ci, fs)) ∧ fs[k]? = some (.int x) ∧ f x = some q := by
  unfold mx_gi at e; split at e
  · rename_i he
    split at e
    · rename_i hc
      subst hc
      split at e
      · rename_i hx; exact ⟨_, _, he, hx, e⟩
      · cases e
    · cases e
  · cases e
theorem iv_gr {h : mx_H} {r ci k : Nat} {f : Nat → mx_R} {q : Option Value × mx_H} (e : mx_gr h r ci k f = some q) : ∃ fs x, h[r]? = some (.inr (ci, fs)) ∧ fs[k]? = some (.ref x) ∧ f x = some q := by
  unfold mx_gr at e; split at e
  · rename_i he
    split at e
    · rename_i hc
      subst hc
      split at e
      · rename_i hx; exact ⟨_, _, he, hx, e⟩
      · cases e
    · cases e
  · cases e
theorem iv_pt {h : mx_H} {r ci k : Nat} {v : Value} {f : mx_H → mx_R} {q : Option Value × mx_H} (e : mx_pt h r ci k v f = some q) : ∃ fs, h[r]? = some (.inr (ci, fs)) ∧ k < fs.length ∧ f (h.set r (.inr (ci, fs.set k v))) = some q := by
  unfold mx_pt at e; split at e
  · rename_i he
    split at e
    · rename_i hc
      obtain ⟨rfl, hk⟩ := hc
      exact ⟨_, he, hk, e⟩
    · cases e
  · cases e
theorem iv_ai {h : mx_H} {r t : Nat} {i : Int32} {f : Int32 → mx_R} {q : Option Value × mx_H} (e : mx_ai h r t i f = some q) : ∃ n g, h[r]? = some (.inl (t, n, .inl g)) ∧ vp_in i n ∧ f (g i.toNatClampNeg) = some q := by
  unfold mx_ai at e; split at e
  · rename_i he
    split at e
    · rename_i hc
      obtain ⟨rfl, hk⟩ := hc
      exact ⟨_, _, he, hk, e⟩
    · cases e
  · cases e
theorem iv_as {h : mx_H} {r t : Nat} {i x : Int32} {f : mx_H → mx_R} {q : Option Value × mx_H} (e : mx_as h r t i x f = some q) : ∃ n g, h[r]? = some (.inl (t, n, .inl g)) ∧ vp_in i n ∧ f (h.set r (.inl (t, n, .inl (upd g i.toNatClampNeg x)))) = some q := by
  unfold mx_as at e; split at e
  · rename_i he
    split at e
    · rename_i hc
      obtain ⟨rfl, hk⟩ := hc
      exact ⟨_, _, he, hk, e⟩
    · cases e
  · cases e
theorem iv_aa {h : mx_H} {r : Nat} {i : Int32} {f : Nat → mx_R} {q : Option Value × mx_H} (e : mx_aa h r i f = some q) : ∃ c n g a, h[r]? = some (.inl (c, n, .inr (.inr (.inr (.inr g))))) ∧ (3 ≤ c ∧ c ≤ 6) ∧ vp_in i n ∧ g i.toNatClampNeg = some a ∧ f a = some q := by
  unfold mx_aa at e; split at e
  · rename_i he
    split at e
    · rename_i hc
      split at e
      · rename_i ha
        exact ⟨_, _, _, _, he, hc.1, hc.2, ha, e⟩
      · cases e
    · cases e
  · cases e
theorem iv_at {h : mx_H} {r : Nat} {i : Int32} {v : Nat} {f : mx_H → mx_R} {q : Option Value × mx_H} (e : mx_at h r i v f = some q) : ∃ c n g fs, h[r]? = some (.inl (c, n, .inr (.inr (.inr (.inr g))))) ∧ h[v]? = some (.inr (mx_kc c, fs)) ∧ (3 ≤ c ∧ c ≤ 6) ∧ vp_in i n ∧ f (h.set r (.inl (c, n, .inr (.inr (.inr (.inr (va_up g i.toNatClampNeg (some v)))))))) = some q := by
  unfold mx_at at e; split at e
  · rename_i he hv
    split at e
    · rename_i hc
      obtain ⟨h1, rfl, h2⟩ := hc
      exact ⟨_, _, _, _, he, hv, h1, h2, e⟩
    · cases e
  · cases e
theorem iv_al {h : mx_H} {r : Nat} {f : Int32 → mx_R} {q : Option Value × mx_H} (e : mx_al h r f = some q) : ∃ c n x, h[r]? = some (.inl (c, n, x)) ∧ c < 7 ∧ f (Int32.ofNat n) = some q := by
  unfold mx_al at e; split at e
  · rename_i he
    split at e
    · rename_i hc; exact ⟨_, _, _, he, hc, e⟩
    · cases e
  · cases e
theorem iv_ck {xs : List Int32} {t r : Nat} {i : Int32} {f : Int32 → mx_R} {q : Option Value × mx_H} (e : mx_ck xs t r i f = some q) : ∃ l, mx_kt xs r = some (t, l) ∧ vp_in i l.length ∧ f (l.getD i.toNatClampNeg 0) = some q := by
  unfold mx_ck at e; split at e
  · rename_i he
    split at e
    · rename_i hc
      obtain ⟨rfl, hk⟩ := hc
      exact ⟨_, he, hk, e⟩
    · cases e
  · cases e
theorem iv_cn {xs : List Int32} {r : Nat} {f : Int32 → mx_R} {q : Option Value × mx_H} (e : mx_cn xs r f = some q) : ∃ t l, mx_kt xs r = some (t, l) ∧ f (Int32.ofNat l.length) = some q := by
  unfold mx_cn at e; split at e
  · rename_i he; exact ⟨_, _, he, e⟩
  · cases e
theorem iv_cp {h : mx_H} {s d : Nat} {sp dp n : Int32} {f : mx_H → mx_R} {q : Option Value × mx_H} (e : mx_cp h s sp d dp n f = some q) : ∃ n0 f0 n1 f1, h[s]? = some (.inl (0, n0, .inl f0)) ∧ h[d]? = some (.inl (0, n1, .inl f1)) ∧ ¬ sp < 0 ∧ ¬ dp < 0 ∧ ¬ n < 0 ∧ sp.toNatClampNeg + n.toNatClampNeg ≤ n0 ∧ dp.toNatClampNeg + n.toNatClampNeg ≤ n1 ∧ f (h.set d (.inl (0, n1, .inl (va_cpy f0 f1 sp.toNatClampNeg dp.toNatClampNeg n.toNatClampNeg)))) = some q := by
  unfold mx_cp at e; split at e
  · rename_i h1 h2
    split at e
    · rename_i hc
      obtain ⟨rfl, rfl, c1, c2, c3, c4, c5⟩ := hc
      exact ⟨_, _, _, _, h1, h2, c1, c2, c3, c4, c5, e⟩
    · cases e
  · cases e
/-- what came back, and the stack with it -/
theorem iv_bk {w : Nat} {r : mx_R} {rest : List Value} {f : List Value → mx_H → mx_R} {q : Option Value × mx_H} (e : mx_bk w r rest f = some q) : ∃ v g, r = some (v, g) ∧ f (v.toList ++ rest) g = some q := by
  unfold mx_bk at e; split at e
  · unfold mx_c0 at e; split at e
    · exact ⟨_, _, rfl, e⟩
    · cases e
  · unfold mx_c1 at e; split at e
    · exact ⟨_, _, rfl, e⟩
    · cases e
  · unfold mx_c2 at e; split at e
    · exact ⟨_, _, rfl, e⟩
    · cases e
  · unfold mx_c3 at e; split at e
    · exact ⟨_, _, rfl, e⟩
    · exact ⟨_, _, rfl, e⟩
    · cases e
  · unfold mx_c4 at e; split at e
    · exact ⟨_, _, rfl, e⟩
    · cases e
theorem iv_cl {h : mx_H} {r ci : Nat} {x : mx_R} {q : Option Value × mx_H} (e : mx_cl h r ci x = some q) : ∃ fs, h[r]? = some (.inr (ci, fs)) ∧ x = some q := by
  unfold mx_cl at e; split at e
  · rename_i he
    split at e
    · rename_i hc; subst hc; exact ⟨_, he, e⟩
    · cases e
  · cases e
theorem mx_ld_mem {ls : mx_L} {i : Nat} {v : Value} (h : mx_ld ls i = some v) : (i, v) ∈ ls := by
  unfold mx_ld at h; split at h
  · rename_i q hq
    cases h
    have h1 := List.find?_some hq
    have h2 := List.mem_of_find?_eq_some hq
    have h3 : q.1 = i := Nat.eq_of_beq_eq_true h1
    rw [← h3]
    exact h2
  · cases h
theorem mx_nm_sub {ls : mx_L} : ∀ {is : List Nat} {q : Nat × Value}, q ∈ mx_nm is ls → q ∈ ls
  | [], q, h => by cases h
  | i :: is, q, h => by
    unfold mx_nm at h
    split at h
    · rename_i v hv
      rcases List.mem_cons.mp h with h | h
      · rw [h]; exact mx_ld_mem hv
      · exact mx_nm_sub h
    · exact mx_nm_sub h
theorem mx_cat {base : Nat} {sk : Nat → Value} (hs : ∀ i, sk i = .null ∨ ∃ a, sk i = .ref a) (v : Value) : (mx_cv base sk v).category = v.category := by
  cases v with
  | retAddr i =>
    show (sk i).category = 1
    rcases hs i with h | ⟨a, h⟩ <;> rw [h] <;> rfl
  | _ => rfl
theorem mx_st_map {base : Nat} {sk : Nat → Value} (hs : ∀ i, sk i = .null ∨ ∃ a, sk i = .ref a) (ls : mx_L) (i : Nat) (v : Value) : (i, mx_cv base sk v) :: (ls.map (mx_g base sk)).filter (fun q => !(q.1 == i) && !(q.1 + 1 == i && q.2.category == 2)) = (mx_st ls i v).map (mx_g base sk) := by
  unfold mx_st
  rw [List.map_cons, List.filter_map]
  congr 3
  funext q
  simp only [Function.comp, mx_g, mx_cat hs]
theorem mx_cats {base : Nat} {sk : Nat → Value} (hs : ∀ i, sk i = .null ∨ ∃ a, sk i = .ref a) (st : List Value) : ((st.map (mx_cv base sk)).map fun v => v.category) = st.map fun v => v.category := by
  rw [List.map_map]
  apply List.map_congr_left
  intro v _
  exact mx_cat hs v
theorem isr_cv {base : Nat} {sk : Nat → Value} (hs : ∀ i, sk i = .null ∨ ∃ a, sk i = .ref a) {v : Value} (h : mx_isr v) : mx_cv base sk v = .null ∨ ∃ a, mx_cv base sk v = .ref a := by
  rcases h with ⟨x, rfl⟩ | rfl | ⟨x, rfl⟩
  · exact Or.inr ⟨_, rfl⟩
  · exact Or.inl rfl
  · exact hs x
end MXI

section MXS
variable {p : Program} {l : Launch} {e : Env} {R : Room} {s : State} {m : MethodId} {args : Array Value} {below : List Frame} {meth : Method} {c : Code} {Q : State → Prop}
variable {xs : List Int32} {P : List mx_M} {G : List Cond} {y : MethodName} {cc : ByteArray} {nL : Nat} {ret : Option FieldType} {D : va_G} {ta : Nat → ClassId} {base : Nat} {sk : Nat → Value} {dd : Nat} {Ts : List Cond} {h0 : mx_H}
theorem sd_iconst {pc : Nat} {ls : mx_L} {st : List Value} {h : mx_H} (X : mx_X xs P G p R s m args meth c y cc nL D ta base sk dd Ts h0) {n : Int} {v : Int32} (hv : Int32.ofInt n = v) (hd : decode cc pc = .ok (.iconst n, 1)) (k : mx_W p l e R s m args below meth c D ta base sk h0 nL Q (pc + 1) (ls) (.int v :: st) (h)) : mx_W p l e R s m args below meth c D ta base sk h0 nL Q (pc) (ls) (st) (h) := by
  obtain ⟨⟨hx, hb, hml, hown, hts⟩, hini, hC, hz0, hsk, hWS, hGd, hfr, hlo⟩ := X
  exact fun H locs lsC hR hS hl a1 a2 => lv_iconst hx hb hd hv (k H locs lsC hR hS hl a1 a2)
theorem sd_bipush {pc : Nat} {ls : mx_L} {st : List Value} {h : mx_H} (X : mx_X xs P G p R s m args meth c y cc nL D ta base sk dd Ts h0) {n : Int} {v : Int32} (hv : (Int8.ofInt n).toInt32 = v) (hd : decode cc pc = .ok (.bipush n, 2)) (k : mx_W p l e R s m args below meth c D ta base sk h0 nL Q (pc + 2) (ls) (.int v :: st) (h)) : mx_W p l e R s m args below meth c D ta base sk h0 nL Q (pc) (ls) (st) (h) := by
  obtain ⟨⟨hx, hb, hml, hown, hts⟩, hini, hC, hz0, hsk, hWS, hGd, hfr, hlo⟩ := X
  exact fun H locs lsC hR hS hl a1 a2 => lv_bipush hx hb hd hv (k H locs lsC hR hS hl a1 a2)
theorem sd_sipush {pc : Nat} {ls : mx_L} {st : List Value} {h : mx_H} (X : mx_X xs P G p R s m args meth c y cc nL D ta base sk dd Ts h0) {n : Int} {v : Int32} (hv : (Int16.ofInt n).toInt32 = v) (hd : decode cc pc = .ok (.sipush n, 3)) (k : mx_W p l e R s m args below meth c D ta base sk h0 nL Q (pc + 3) (ls) (.int v :: st) (h)) : mx_W p l e R s m args below meth c D ta base sk h0 nL Q (pc) (ls) (st) (h) := by
  obtain ⟨⟨hx, hb, hml, hown, hts⟩, hini, hC, hz0, hsk, hWS, hGd, hfr, hlo⟩ := X
  exact fun H locs lsC hR hS hl a1 a2 => lv_sipush hx hb hd hv (k H locs lsC hR hS hl a1 a2)
theorem sd_ldc {pc : Nat} {ls : mx_L} {st : List Value} {h : mx_H} (X : mx_X xs P G p R s m args meth c y cc nL D ta base sk dd Ts h0) {i : Nat} {v : Int32} (hv : Cond.constant y.cls i v ∈ Ts) (hd : decode cc pc = .ok (.ldc i, 2)) (k : mx_W p l e R s m args below meth c D ta base sk h0 nL Q (pc + 2) (ls) (.int v :: st) (h)) : mx_W p l e R s m args below meth c D ta base sk h0 nL Q (pc) (ls) (st) (h) := by
  obtain ⟨⟨hx, hb, hml, hown, hts⟩, hini, hC, hz0, hsk, hWS, hGd, hfr, hlo⟩ := X
  exact fun H locs lsC hR hS hl a1 a2 => lv_ldc hx hb hown (hts _ hv) hd (k H locs lsC hR hS hl a1 a2)
theorem sd_ldcw {pc : Nat} {ls : mx_L} {st : List Value} {h : mx_H} (X : mx_X xs P G p R s m args meth c y cc nL D ta base sk dd Ts h0) {i : Nat} {v : Int32} (hv : Cond.constant y.cls i v ∈ Ts) (hd : decode cc pc = .ok (.ldc_w i, 3)) (k : mx_W p l e R s m args below meth c D ta base sk h0 nL Q (pc + 3) (ls) (.int v :: st) (h)) : mx_W p l e R s m args below meth c D ta base sk h0 nL Q (pc) (ls) (st) (h) := by
  obtain ⟨⟨hx, hb, hml, hown, hts⟩, hini, hC, hz0, hsk, hWS, hGd, hfr, hlo⟩ := X
  exact fun H locs lsC hR hS hl a1 a2 => lv_ldcw hx hb hown (hts _ hv) hd (k H locs lsC hR hS hl a1 a2)
theorem sd_null {pc : Nat} {ls : mx_L} {st : List Value} {h : mx_H} (X : mx_X xs P G p R s m args meth c y cc nL D ta base sk dd Ts h0)  (hd : decode cc pc = .ok (.aconst_null, 1)) (k : mx_W p l e R s m args below meth c D ta base sk h0 nL Q (pc + 1) (ls) (.null :: st) (h)) : mx_W p l e R s m args below meth c D ta base sk h0 nL Q (pc) (ls) (st) (h) := by
  obtain ⟨⟨hx, hb, hml, hown, hts⟩, hini, hC, hz0, hsk, hWS, hGd, hfr, hlo⟩ := X
  exact fun H locs lsC hR hS hl a1 a2 => lv_null hx hb hd (k H locs lsC hR hS hl a1 a2)
theorem sd_iadd {pc : Nat} {ls : mx_L} {st : List Value} {h : mx_H} (X : mx_X xs P G p R s m args meth c y cc nL D ta base sk dd Ts h0) {x z : Int32} (hd : decode cc pc = .ok (.iadd, 1)) (k : mx_W p l e R s m args below meth c D ta base sk h0 nL Q (pc + 1) (ls) (.int (x + z) :: st) (h)) : mx_W p l e R s m args below meth c D ta base sk h0 nL Q (pc) (ls) (.int z :: .int x :: st) (h) := by
  obtain ⟨⟨hx, hb, hml, hown, hts⟩, hini, hC, hz0, hsk, hWS, hGd, hfr, hlo⟩ := X
  exact fun H locs lsC hR hS hl a1 a2 => lv_iadd hx hb hd (k H locs lsC hR hS hl a1 a2)
theorem sd_isub {pc : Nat} {ls : mx_L} {st : List Value} {h : mx_H} (X : mx_X xs P G p R s m args meth c y cc nL D ta base sk dd Ts h0) {x z : Int32} (hd : decode cc pc = .ok (.isub, 1)) (k : mx_W p l e R s m args below meth c D ta base sk h0 nL Q (pc + 1) (ls) (.int (x - z) :: st) (h)) : mx_W p l e R s m args below meth c D ta base sk h0 nL Q (pc) (ls) (.int z :: .int x :: st) (h) := by
  obtain ⟨⟨hx, hb, hml, hown, hts⟩, hini, hC, hz0, hsk, hWS, hGd, hfr, hlo⟩ := X
  exact fun H locs lsC hR hS hl a1 a2 => lv_isub hx hb hd (k H locs lsC hR hS hl a1 a2)
theorem sd_imul {pc : Nat} {ls : mx_L} {st : List Value} {h : mx_H} (X : mx_X xs P G p R s m args meth c y cc nL D ta base sk dd Ts h0) {x z : Int32} (hd : decode cc pc = .ok (.imul, 1)) (k : mx_W p l e R s m args below meth c D ta base sk h0 nL Q (pc + 1) (ls) (.int (x * z) :: st) (h)) : mx_W p l e R s m args below meth c D ta base sk h0 nL Q (pc) (ls) (.int z :: .int x :: st) (h) := by
  obtain ⟨⟨hx, hb, hml, hown, hts⟩, hini, hC, hz0, hsk, hWS, hGd, hfr, hlo⟩ := X
  exact fun H locs lsC hR hS hl a1 a2 => lv_imul hx hb hd (k H locs lsC hR hS hl a1 a2)
theorem sd_iand {pc : Nat} {ls : mx_L} {st : List Value} {h : mx_H} (X : mx_X xs P G p R s m args meth c y cc nL D ta base sk dd Ts h0) {x z : Int32} (hd : decode cc pc = .ok (.iand, 1)) (k : mx_W p l e R s m args below meth c D ta base sk h0 nL Q (pc + 1) (ls) (.int (x &&& z) :: st) (h)) : mx_W p l e R s m args below meth c D ta base sk h0 nL Q (pc) (ls) (.int z :: .int x :: st) (h) := by
  obtain ⟨⟨hx, hb, hml, hown, hts⟩, hini, hC, hz0, hsk, hWS, hGd, hfr, hlo⟩ := X
  exact fun H locs lsC hR hS hl a1 a2 => lv_iand hx hb hd (k H locs lsC hR hS hl a1 a2)
theorem sd_ior {pc : Nat} {ls : mx_L} {st : List Value} {h : mx_H} (X : mx_X xs P G p R s m args meth c y cc nL D ta base sk dd Ts h0) {x z : Int32} (hd : decode cc pc = .ok (.ior, 1)) (k : mx_W p l e R s m args below meth c D ta base sk h0 nL Q (pc + 1) (ls) (.int (x ||| z) :: st) (h)) : mx_W p l e R s m args below meth c D ta base sk h0 nL Q (pc) (ls) (.int z :: .int x :: st) (h) := by
  obtain ⟨⟨hx, hb, hml, hown, hts⟩, hini, hC, hz0, hsk, hWS, hGd, hfr, hlo⟩ := X
  exact fun H locs lsC hR hS hl a1 a2 => lv_ior hx hb hd (k H locs lsC hR hS hl a1 a2)
theorem sd_ixor {pc : Nat} {ls : mx_L} {st : List Value} {h : mx_H} (X : mx_X xs P G p R s m args meth c y cc nL D ta base sk dd Ts h0) {x z : Int32} (hd : decode cc pc = .ok (.ixor, 1)) (k : mx_W p l e R s m args below meth c D ta base sk h0 nL Q (pc + 1) (ls) (.int (x ^^^ z) :: st) (h)) : mx_W p l e R s m args below meth c D ta base sk h0 nL Q (pc) (ls) (.int z :: .int x :: st) (h) := by
  obtain ⟨⟨hx, hb, hml, hown, hts⟩, hini, hC, hz0, hsk, hWS, hGd, hfr, hlo⟩ := X
  exact fun H locs lsC hR hS hl a1 a2 => lv_ixor hx hb hd (k H locs lsC hR hS hl a1 a2)
theorem sd_ishl {pc : Nat} {ls : mx_L} {st : List Value} {h : mx_H} (X : mx_X xs P G p R s m args meth c y cc nL D ta base sk dd Ts h0) {x z : Int32} (hd : decode cc pc = .ok (.ishl, 1)) (k : mx_W p l e R s m args below meth c D ta base sk h0 nL Q (pc + 1) (ls) (.int (x <<< (z &&& 31)) :: st) (h)) : mx_W p l e R s m args below meth c D ta base sk h0 nL Q (pc) (ls) (.int z :: .int x :: st) (h) := by
  obtain ⟨⟨hx, hb, hml, hown, hts⟩, hini, hC, hz0, hsk, hWS, hGd, hfr, hlo⟩ := X
  exact fun H locs lsC hR hS hl a1 a2 => lv_ishl hx hb hd (k H locs lsC hR hS hl a1 a2)
theorem sd_ishr {pc : Nat} {ls : mx_L} {st : List Value} {h : mx_H} (X : mx_X xs P G p R s m args meth c y cc nL D ta base sk dd Ts h0) {x z : Int32} (hd : decode cc pc = .ok (.ishr, 1)) (k : mx_W p l e R s m args below meth c D ta base sk h0 nL Q (pc + 1) (ls) (.int (x >>> (z &&& 31)) :: st) (h)) : mx_W p l e R s m args below meth c D ta base sk h0 nL Q (pc) (ls) (.int z :: .int x :: st) (h) := by
  obtain ⟨⟨hx, hb, hml, hown, hts⟩, hini, hC, hz0, hsk, hWS, hGd, hfr, hlo⟩ := X
  exact fun H locs lsC hR hS hl a1 a2 => lv_ishr hx hb hd (k H locs lsC hR hS hl a1 a2)
theorem sd_iushr {pc : Nat} {ls : mx_L} {st : List Value} {h : mx_H} (X : mx_X xs P G p R s m args meth c y cc nL D ta base sk dd Ts h0) {x z : Int32} (hd : decode cc pc = .ok (.iushr, 1)) (k : mx_W p l e R s m args below meth c D ta base sk h0 nL Q (pc + 1) (ls) (.int (mx_us x z) :: st) (h)) : mx_W p l e R s m args below meth c D ta base sk h0 nL Q (pc) (ls) (.int z :: .int x :: st) (h) := by
  obtain ⟨⟨hx, hb, hml, hown, hts⟩, hini, hC, hz0, hsk, hWS, hGd, hfr, hlo⟩ := X
  exact fun H locs lsC hR hS hl a1 a2 => lv_iushr hx hb hd rfl (k H locs lsC hR hS hl a1 a2)
theorem sd_idiv {pc : Nat} {ls : mx_L} {st : List Value} {h : mx_H} (X : mx_X xs P G p R s m args meth c y cc nL D ta base sk dd Ts h0) {x z : Int32} (hz : ¬ z = 0) (hd : decode cc pc = .ok (.idiv, 1)) (k : mx_W p l e R s m args below meth c D ta base sk h0 nL Q (pc + 1) (ls) (.int (x / z) :: st) (h)) : mx_W p l e R s m args below meth c D ta base sk h0 nL Q (pc) (ls) (.int z :: .int x :: st) (h) := by
  obtain ⟨⟨hx, hb, hml, hown, hts⟩, hini, hC, hz0, hsk, hWS, hGd, hfr, hlo⟩ := X
  exact fun H locs lsC hR hS hl a1 a2 => lv_idiv hx hb hd hz (k H locs lsC hR hS hl a1 a2)
theorem sd_irem {pc : Nat} {ls : mx_L} {st : List Value} {h : mx_H} (X : mx_X xs P G p R s m args meth c y cc nL D ta base sk dd Ts h0) {x z : Int32} (hz : ¬ z = 0) (hd : decode cc pc = .ok (.irem, 1)) (k : mx_W p l e R s m args below meth c D ta base sk h0 nL Q (pc + 1) (ls) (.int (mx_rm x z) :: st) (h)) : mx_W p l e R s m args below meth c D ta base sk h0 nL Q (pc) (ls) (.int z :: .int x :: st) (h) := by
  obtain ⟨⟨hx, hb, hml, hown, hts⟩, hini, hC, hz0, hsk, hWS, hGd, hfr, hlo⟩ := X
  exact fun H locs lsC hR hS hl a1 a2 => lv_irem hx hb hd hz (k H locs lsC hR hS hl a1 a2)
theorem sd_ineg {pc : Nat} {ls : mx_L} {st : List Value} {h : mx_H} (X : mx_X xs P G p R s m args meth c y cc nL D ta base sk dd Ts h0) {x : Int32} (hd : decode cc pc = .ok (.ineg, 1)) (k : mx_W p l e R s m args below meth c D ta base sk h0 nL Q (pc + 1) (ls) (.int (-x) :: st) (h)) : mx_W p l e R s m args below meth c D ta base sk h0 nL Q (pc) (ls) (.int x :: st) (h) := by
  obtain ⟨⟨hx, hb, hml, hown, hts⟩, hini, hC, hz0, hsk, hWS, hGd, hfr, hlo⟩ := X
  exact fun H locs lsC hR hS hl a1 a2 => lv_ineg hx hb hd (k H locs lsC hR hS hl a1 a2)
theorem sd_i2s {pc : Nat} {ls : mx_L} {st : List Value} {h : mx_H} (X : mx_X xs P G p R s m args meth c y cc nL D ta base sk dd Ts h0) {x : Int32} (hd : decode cc pc = .ok (.i2s, 1)) (k : mx_W p l e R s m args below meth c D ta base sk h0 nL Q (pc + 1) (ls) (.int x.toInt16.toInt32 :: st) (h)) : mx_W p l e R s m args below meth c D ta base sk h0 nL Q (pc) (ls) (.int x :: st) (h) := by
  obtain ⟨⟨hx, hb, hml, hown, hts⟩, hini, hC, hz0, hsk, hWS, hGd, hfr, hlo⟩ := X
  exact fun H locs lsC hR hS hl a1 a2 => lv_i2s hx hb hd rfl (k H locs lsC hR hS hl a1 a2)
theorem sd_i2b {pc : Nat} {ls : mx_L} {st : List Value} {h : mx_H} (X : mx_X xs P G p R s m args meth c y cc nL D ta base sk dd Ts h0) {x : Int32} (hd : decode cc pc = .ok (.i2b, 1)) (k : mx_W p l e R s m args below meth c D ta base sk h0 nL Q (pc + 1) (ls) (.int x.toInt8.toInt32 :: st) (h)) : mx_W p l e R s m args below meth c D ta base sk h0 nL Q (pc) (ls) (.int x :: st) (h) := by
  obtain ⟨⟨hx, hb, hml, hown, hts⟩, hini, hC, hz0, hsk, hWS, hGd, hfr, hlo⟩ := X
  exact fun H locs lsC hR hS hl a1 a2 => lv_i2b hx hb hd rfl (k H locs lsC hR hS hl a1 a2)
theorem sd_i2c {pc : Nat} {ls : mx_L} {st : List Value} {h : mx_H} (X : mx_X xs P G p R s m args meth c y cc nL D ta base sk dd Ts h0) {x : Int32} (hd : decode cc pc = .ok (.i2c, 1)) (k : mx_W p l e R s m args below meth c D ta base sk h0 nL Q (pc + 1) (ls) (.int (x.toUInt32 % 65536).toInt32 :: st) (h)) : mx_W p l e R s m args below meth c D ta base sk h0 nL Q (pc) (ls) (.int x :: st) (h) := by
  obtain ⟨⟨hx, hb, hml, hown, hts⟩, hini, hC, hz0, hsk, hWS, hGd, hfr, hlo⟩ := X
  exact fun H locs lsC hR hS hl a1 a2 => lv_i2c hx hb hd rfl (k H locs lsC hR hS hl a1 a2)
theorem sd_dup {pc : Nat} {ls : mx_L} {st : List Value} {h : mx_H} (X : mx_X xs P G p R s m args meth c y cc nL D ta base sk dd Ts h0) {v : Value} (hv : v.category = 1) (hd : decode cc pc = .ok (.dup, 1)) (k : mx_W p l e R s m args below meth c D ta base sk h0 nL Q (pc + 1) (ls) (v :: v :: st) (h)) : mx_W p l e R s m args below meth c D ta base sk h0 nL Q (pc) (ls) (v :: st) (h) := by
  obtain ⟨⟨hx, hb, hml, hown, hts⟩, hini, hC, hz0, hsk, hWS, hGd, hfr, hlo⟩ := X
  exact fun H locs lsC hR hS hl a1 a2 => lv_dup hx hb hd ((mx_cat hsk _).trans hv) (k H locs lsC hR hS hl a1 a2)
theorem sd_dup2 {pc : Nat} {ls : mx_L} {st : List Value} {h : mx_H} (X : mx_X xs P G p R s m args meth c y cc nL D ta base sk dd Ts h0) {v w : Value} (hv : v.category = 1) (hw : w.category = 1) (hd : decode cc pc = .ok (.dup2, 1)) (k : mx_W p l e R s m args below meth c D ta base sk h0 nL Q (pc + 1) (ls) (v :: w :: v :: w :: st) (h)) : mx_W p l e R s m args below meth c D ta base sk h0 nL Q (pc) (ls) (v :: w :: st) (h) := by
  obtain ⟨⟨hx, hb, hml, hown, hts⟩, hini, hC, hz0, hsk, hWS, hGd, hfr, hlo⟩ := X
  exact fun H locs lsC hR hS hl a1 a2 => lv_dup2_11 hx hb hd ((mx_cat hsk _).trans hv) ((mx_cat hsk _).trans hw) (k H locs lsC hR hS hl a1 a2)
theorem sd_pop {pc : Nat} {ls : mx_L} {st : List Value} {h : mx_H} (X : mx_X xs P G p R s m args meth c y cc nL D ta base sk dd Ts h0) {v : Value} (hv : v.category = 1) (hd : decode cc pc = .ok (.pop, 1)) (k : mx_W p l e R s m args below meth c D ta base sk h0 nL Q (pc + 1) (ls) (st) (h)) : mx_W p l e R s m args below meth c D ta base sk h0 nL Q (pc) (ls) (v :: st) (h) := by
  obtain ⟨⟨hx, hb, hml, hown, hts⟩, hini, hC, hz0, hsk, hWS, hGd, hfr, hlo⟩ := X
  exact fun H locs lsC hR hS hl a1 a2 => lv_pop hx hb hd ((mx_cat hsk _).trans hv) (k H locs lsC hR hS hl a1 a2)
theorem sd_iload {pc : Nat} {ls : mx_L} {st : List Value} {h : mx_H} (X : mx_X xs P G p R s m args meth c y cc nL D ta base sk dd Ts h0) {i : Nat} {x : Int32} (hv : mx_ld ls i = some (.int x)) (hd : decode cc pc = .ok (.iload i, 2)) (k : mx_W p l e R s m args below meth c D ta base sk h0 nL Q (pc + 2) (ls) (.int x :: st) (h)) : mx_W p l e R s m args below meth c D ta base sk h0 nL Q (pc) (ls) (st) (h) := by
  obtain ⟨⟨hx, hb, hml, hown, hts⟩, hini, hC, hz0, hsk, hWS, hGd, hfr, hlo⟩ := X
  exact fun H locs lsC hR hS hl a1 a2 => lv_iload hx hb hd (hl.2.2 _ (List.mem_map_of_mem (f := mx_g base sk) (mx_ld_mem hv))) (k H locs lsC hR hS hl a1 a2)
theorem sd_iload_n {pc : Nat} {ls : mx_L} {st : List Value} {h : mx_H} (X : mx_X xs P G p R s m args meth c y cc nL D ta base sk dd Ts h0) {n : Fin 4} {x : Int32} (hv : mx_ld ls n.val = some (.int x)) (hd : decode cc pc = .ok (.iload_n n, 1)) (k : mx_W p l e R s m args below meth c D ta base sk h0 nL Q (pc + 1) (ls) (.int x :: st) (h)) : mx_W p l e R s m args below meth c D ta base sk h0 nL Q (pc) (ls) (st) (h) := by
  obtain ⟨⟨hx, hb, hml, hown, hts⟩, hini, hC, hz0, hsk, hWS, hGd, hfr, hlo⟩ := X
  exact fun H locs lsC hR hS hl a1 a2 => lv_iload_n hx hb hd rfl (hl.2.2 _ (List.mem_map_of_mem (f := mx_g base sk) (mx_ld_mem hv))) (k H locs lsC hR hS hl a1 a2)
theorem sd_aload {pc : Nat} {ls : mx_L} {st : List Value} {h : mx_H} (X : mx_X xs P G p R s m args meth c y cc nL D ta base sk dd Ts h0) {i : Nat} {v : Value} (hv : mx_ld ls i = some v) (hr : mx_isr v) (hd : decode cc pc = .ok (.aload i, 2)) (k : mx_W p l e R s m args below meth c D ta base sk h0 nL Q (pc + 2) (ls) (v :: st) (h)) : mx_W p l e R s m args below meth c D ta base sk h0 nL Q (pc) (ls) (st) (h) := by
  obtain ⟨⟨hx, hb, hml, hown, hts⟩, hini, hC, hz0, hsk, hWS, hGd, hfr, hlo⟩ := X
  intro H locs lsC hR hS hl a1 a2
  have hg : lsC[i]? = some (.val (mx_cv base sk v)) := hl.2.2 _ (List.mem_map_of_mem (f := mx_g base sk) (mx_ld_mem hv))
  have k2 := k H locs lsC hR hS hl a1 a2
  rw [List.map_cons] at k2
  rcases isr_cv (base := base) hsk hr with h1 | ⟨a, h1⟩
  · rw [h1] at hg k2
    exact lv_aloadN hx hb hd hg k2
  · rw [h1] at hg k2
    exact lv_aload hx hb hd hg k2
theorem sd_aload_n {pc : Nat} {ls : mx_L} {st : List Value} {h : mx_H} (X : mx_X xs P G p R s m args meth c y cc nL D ta base sk dd Ts h0) {n : Fin 4} {v : Value} (hv : mx_ld ls n.val = some v) (hr : mx_isr v) (hd : decode cc pc = .ok (.aload_n n, 1)) (k : mx_W p l e R s m args below meth c D ta base sk h0 nL Q (pc + 1) (ls) (v :: st) (h)) : mx_W p l e R s m args below meth c D ta base sk h0 nL Q (pc) (ls) (st) (h) := by
  obtain ⟨⟨hx, hb, hml, hown, hts⟩, hini, hC, hz0, hsk, hWS, hGd, hfr, hlo⟩ := X
  intro H locs lsC hR hS hl a1 a2
  have hg : lsC[n.val]? = some (.val (mx_cv base sk v)) := hl.2.2 _ (List.mem_map_of_mem (f := mx_g base sk) (mx_ld_mem hv))
  have k2 := k H locs lsC hR hS hl a1 a2
  rw [List.map_cons] at k2
  rcases isr_cv (base := base) hsk hr with h1 | ⟨a, h1⟩
  · rw [h1] at hg k2
    exact lv_aload_nN hx hb hd rfl hg k2
  · rw [h1] at hg k2
    exact lv_aload_n hx hb hd rfl hg k2
theorem sd_istore {pc : Nat} {ls : mx_L} {st : List Value} {h : mx_H} (X : mx_X xs P G p R s m args meth c y cc nL D ta base sk dd Ts h0) {i : Nat} {x : Int32} (hn : i < nL) (hd : decode cc pc = .ok (.istore i, 2)) (k : mx_W p l e R s m args below meth c D ta base sk h0 nL Q (pc + 2) (mx_st ls i (.int x)) (st) (h)) : mx_W p l e R s m args below meth c D ta base sk h0 nL Q (pc) (ls) (.int x :: st) (h) := by
  obtain ⟨⟨hx, hb, hml, hown, hts⟩, hini, hC, hz0, hsk, hWS, hGd, hfr, hlo⟩ := X
  exact fun H locs lsC hR hS hl a1 a2 => lv_istore hx hb hd hl hn (mx_st_map hsk ls _ (.int x)) (fun ls2 hl2 => k H locs ls2 hR hS hl2 a1 a2)
theorem sd_istore_n {pc : Nat} {ls : mx_L} {st : List Value} {h : mx_H} (X : mx_X xs P G p R s m args meth c y cc nL D ta base sk dd Ts h0) {n : Fin 4} {x : Int32} (hn : n.val < nL) (hd : decode cc pc = .ok (.istore_n n, 1)) (k : mx_W p l e R s m args below meth c D ta base sk h0 nL Q (pc + 1) (mx_st ls n.val (.int x)) (st) (h)) : mx_W p l e R s m args below meth c D ta base sk h0 nL Q (pc) (ls) (.int x :: st) (h) := by
  obtain ⟨⟨hx, hb, hml, hown, hts⟩, hini, hC, hz0, hsk, hWS, hGd, hfr, hlo⟩ := X
  exact fun H locs lsC hR hS hl a1 a2 => lv_istore_n hx hb hd rfl hl hn (mx_st_map hsk ls _ (.int x)) (fun ls2 hl2 => k H locs ls2 hR hS hl2 a1 a2)
theorem sd_astore {pc : Nat} {ls : mx_L} {st : List Value} {h : mx_H} (X : mx_X xs P G p R s m args meth c y cc nL D ta base sk dd Ts h0) {i : Nat} {v : Value} (hn : i < nL) (hr : mx_isr v) (hd : decode cc pc = .ok (.astore i, 2)) (k : mx_W p l e R s m args below meth c D ta base sk h0 nL Q (pc + 2) (mx_st ls i v) (st) (h)) : mx_W p l e R s m args below meth c D ta base sk h0 nL Q (pc) (ls) (v :: st) (h) := by
  obtain ⟨⟨hx, hb, hml, hown, hts⟩, hini, hC, hz0, hsk, hWS, hGd, hfr, hlo⟩ := X
  intro H locs lsC hR hS hl a1 a2
  have hm := mx_st_map hsk ls i v (base := base)
  rw [List.map_cons]
  rcases isr_cv (base := base) hsk hr with h1 | ⟨a, h1⟩
  · rw [h1] at hm ⊢
    exact lv_astoreN hx hb hd hl hn hm (fun ls2 hl2 => k H locs ls2 hR hS hl2 a1 a2)
  · rw [h1] at hm ⊢
    exact lv_astore hx hb hd hl hn hm (fun ls2 hl2 => k H locs ls2 hR hS hl2 a1 a2)
theorem sd_astore_n {pc : Nat} {ls : mx_L} {st : List Value} {h : mx_H} (X : mx_X xs P G p R s m args meth c y cc nL D ta base sk dd Ts h0) {n : Fin 4} {v : Value} (hn : n.val < nL) (hr : mx_isr v) (hd : decode cc pc = .ok (.astore_n n, 1)) (k : mx_W p l e R s m args below meth c D ta base sk h0 nL Q (pc + 1) (mx_st ls n.val v) (st) (h)) : mx_W p l e R s m args below meth c D ta base sk h0 nL Q (pc) (ls) (v :: st) (h) := by
  obtain ⟨⟨hx, hb, hml, hown, hts⟩, hini, hC, hz0, hsk, hWS, hGd, hfr, hlo⟩ := X
  intro H locs lsC hR hS hl a1 a2
  have hm := mx_st_map hsk ls n.val v (base := base)
  rw [List.map_cons]
  rcases isr_cv (base := base) hsk hr with h1 | ⟨a, h1⟩
  · rw [h1] at hm ⊢
    exact lv_astore_nN hx hb hd rfl hl hn hm (fun ls2 hl2 => k H locs ls2 hR hS hl2 a1 a2)
  · rw [h1] at hm ⊢
    exact lv_astore_n hx hb hd rfl hl hn hm (fun ls2 hl2 => k H locs ls2 hR hS hl2 a1 a2)
theorem sd_iinc {pc : Nat} {ls : mx_L} {st : List Value} {h : mx_H} (X : mx_X xs P G p R s m args meth c y cc nL D ta base sk dd Ts h0) {i : Nat} {n : Int} {x v : Int32} (hn : i < nL) (hv : mx_ld ls i = some (.int x)) (hc : Int32.ofInt n = v) (hd : decode cc pc = .ok (.iinc i n, 3)) (k : mx_W p l e R s m args below meth c D ta base sk h0 nL Q (pc + 3) (mx_st ls i (.int (x + v))) (st) (h)) : mx_W p l e R s m args below meth c D ta base sk h0 nL Q (pc) (ls) (st) (h) := by
  obtain ⟨⟨hx, hb, hml, hown, hts⟩, hini, hC, hz0, hsk, hWS, hGd, hfr, hlo⟩ := X
  intro H locs lsC hR hS hl a1 a2
  obtain ⟨j, hj⟩ := List.getElem?_of_mem (List.mem_map_of_mem (f := mx_g base sk) (mx_ld_mem hv))
  subst hc
  exact lv_iinc hx hb hd hl hj rfl hn (mx_st_map hsk ls i (.int (x + Int32.ofInt n))) (fun ls2 hl2 => k H locs ls2 hR hS hl2 a1 a2)
theorem sd_goto {pc : Nat} {ls : mx_L} {st : List Value} {h : mx_H} (X : mx_X xs P G p R s m args meth c y cc nL D ta base sk dd Ts h0) {off : Int} {a : Nat} (ht : (pc : Int) + off = (a : Int)) (hd : decode cc pc = .ok (.goto off, 3)) (k : mx_W p l e R s m args below meth c D ta base sk h0 nL Q (a) (ls) (st) (h)) : mx_W p l e R s m args below meth c D ta base sk h0 nL Q (pc) (ls) (st) (h) := by
  obtain ⟨⟨hx, hb, hml, hown, hts⟩, hini, hC, hz0, hsk, hWS, hGd, hfr, hlo⟩ := X
  exact fun H locs lsC hR hS hl a1 a2 => lv_goto hx hb hd ht (k H locs lsC hR hS hl a1 a2)
theorem sd_icmp {pc : Nat} {ls : mx_L} {st : List Value} {h : mx_H} (X : mx_X xs P G p R s m args meth c y cc nL D ta base sk dd Ts h0) {cd : Jvm.ClassFile.Cond} {off : Int} {a : Nat} {x z : Int32} {A B : mx_R} {q : Option Value × mx_H} (ht : (pc : Int) + off = (a : Int)) (hd : decode cc pc = .ok (.if_icmp cd off, 3)) (hq : mx_ic cd x z A B = some q) (kA : A = some q → mx_W p l e R s m args below meth c D ta base sk h0 nL Q (a) (ls) (st) (h)) (kB : B = some q → mx_W p l e R s m args below meth c D ta base sk h0 nL Q (pc + 3) (ls) (st) (h)) : mx_W p l e R s m args below meth c D ta base sk h0 nL Q (pc) (ls) (.int z :: .int x :: st) (h) := by
  obtain ⟨⟨hx, hb, hml, hown, hts⟩, hini, hC, hz0, hsk, hWS, hGd, hfr, hlo⟩ := X
  intro H locs lsC hR hS hl a1 a2
  cases cd with
  | eq => exact lv_icmp_eq hx hb hd ht (fun c => kA (by simpa [mx_ic, c] using hq) H locs lsC hR hS hl a1 a2) (fun c => kB (by simpa [mx_ic, c] using hq) H locs lsC hR hS hl a1 a2)
  | ne => exact lv_icmp_ne hx hb hd ht (fun c => kA (by simpa [mx_ic, c] using hq) H locs lsC hR hS hl a1 a2) (fun c => kB (by simpa [mx_ic, c] using hq) H locs lsC hR hS hl a1 a2)
  | lt => exact lv_icmp_lt hx hb hd ht (fun c => kA (by unfold mx_ic at hq; rw [if_pos c] at hq; exact hq) H locs lsC hR hS hl a1 a2) (fun c => kB (by unfold mx_ic at hq; rw [if_neg c] at hq; exact hq) H locs lsC hR hS hl a1 a2)
  | ge => exact lv_icmp_ge hx hb hd ht (fun c => kA (by unfold mx_ic at hq; rw [if_pos c] at hq; exact hq) H locs lsC hR hS hl a1 a2) (fun c => kB (by unfold mx_ic at hq; rw [if_neg c] at hq; exact hq) H locs lsC hR hS hl a1 a2)
  | gt => exact lv_icmp_gt hx hb hd ht (fun c => kA (by unfold mx_ic at hq; rw [if_pos c] at hq; exact hq) H locs lsC hR hS hl a1 a2) (fun c => kB (by unfold mx_ic at hq; rw [if_neg c] at hq; exact hq) H locs lsC hR hS hl a1 a2)
  | le => exact lv_icmp_le hx hb hd ht (fun c => kA (by unfold mx_ic at hq; rw [if_pos c] at hq; exact hq) H locs lsC hR hS hl a1 a2) (fun c => kB (by unfold mx_ic at hq; rw [if_neg c] at hq; exact hq) H locs lsC hR hS hl a1 a2)
theorem sd_ifc {pc : Nat} {ls : mx_L} {st : List Value} {h : mx_H} (X : mx_X xs P G p R s m args meth c y cc nL D ta base sk dd Ts h0) {cd : Jvm.ClassFile.Cond} {off : Int} {a : Nat} {x : Int32} {A B : mx_R} {q : Option Value × mx_H} (ht : (pc : Int) + off = (a : Int)) (hd : decode cc pc = .ok (.ifCond cd off, 3)) (hq : mx_ic cd x 0 A B = some q) (kA : A = some q → mx_W p l e R s m args below meth c D ta base sk h0 nL Q (a) (ls) (st) (h)) (kB : B = some q → mx_W p l e R s m args below meth c D ta base sk h0 nL Q (pc + 3) (ls) (st) (h)) : mx_W p l e R s m args below meth c D ta base sk h0 nL Q (pc) (ls) (.int x :: st) (h) := by
  obtain ⟨⟨hx, hb, hml, hown, hts⟩, hini, hC, hz0, hsk, hWS, hGd, hfr, hlo⟩ := X
  intro H locs lsC hR hS hl a1 a2
  cases cd with
  | eq => exact lv_if_eq hx hb hd ht (fun c => kA (by simpa [mx_ic, c] using hq) H locs lsC hR hS hl a1 a2) (fun c => kB (by simpa [mx_ic, c] using hq) H locs lsC hR hS hl a1 a2)
  | ne => exact lv_if_ne hx hb hd ht (fun c => kA (by simpa [mx_ic, c] using hq) H locs lsC hR hS hl a1 a2) (fun c => kB (by simpa [mx_ic, c] using hq) H locs lsC hR hS hl a1 a2)
  | lt => exact lv_if_lt hx hb hd ht (fun c => kA (by unfold mx_ic at hq; rw [if_pos c] at hq; exact hq) H locs lsC hR hS hl a1 a2) (fun c => kB (by unfold mx_ic at hq; rw [if_neg c] at hq; exact hq) H locs lsC hR hS hl a1 a2)
  | ge => exact lv_if_ge hx hb hd ht (fun c => kA (by unfold mx_ic at hq; rw [if_pos c] at hq; exact hq) H locs lsC hR hS hl a1 a2) (fun c => kB (by unfold mx_ic at hq; rw [if_neg c] at hq; exact hq) H locs lsC hR hS hl a1 a2)
  | gt => exact lv_if_gt hx hb hd ht (fun c => kA (by unfold mx_ic at hq; rw [if_pos c] at hq; exact hq) H locs lsC hR hS hl a1 a2) (fun c => kB (by unfold mx_ic at hq; rw [if_neg c] at hq; exact hq) H locs lsC hR hS hl a1 a2)
  | le => exact lv_if_le hx hb hd ht (fun c => kA (by unfold mx_ic at hq; rw [if_pos c] at hq; exact hq) H locs lsC hR hS hl a1 a2) (fun c => kB (by unfold mx_ic at hq; rw [if_neg c] at hq; exact hq) H locs lsC hR hS hl a1 a2)
theorem sd_ifnull0 {pc : Nat} {ls : mx_L} {st : List Value} {h : mx_H} (X : mx_X xs P G p R s m args meth c y cc nL D ta base sk dd Ts h0) {off : Int} {a x : Nat} (ht : (pc : Int) + off = (a : Int)) (hd : decode cc pc = .ok (.ifnull off, 3)) (k : mx_W p l e R s m args below meth c D ta base sk h0 nL Q (a) (ls) (st) (h)) : mx_W p l e R s m args below meth c D ta base sk h0 nL Q (pc) (ls) (.null :: st) (h) := by
  obtain ⟨⟨hx, hb, hml, hown, hts⟩, hini, hC, hz0, hsk, hWS, hGd, hfr, hlo⟩ := X
  exact fun H locs lsC hR hS hl a1 a2 => lv_ifnullN hx hb hd ht (k H locs lsC hR hS hl a1 a2)
theorem sd_ifnull1 {pc : Nat} {ls : mx_L} {st : List Value} {h : mx_H} (X : mx_X xs P G p R s m args meth c y cc nL D ta base sk dd Ts h0) {off : Int} {a x : Nat} (ht : (pc : Int) + off = (a : Int)) (hd : decode cc pc = .ok (.ifnull off, 3)) (k : mx_W p l e R s m args below meth c D ta base sk h0 nL Q (pc + 3) (ls) (st) (h)) : mx_W p l e R s m args below meth c D ta base sk h0 nL Q (pc) (ls) (.ref x :: st) (h) := by
  obtain ⟨⟨hx, hb, hml, hown, hts⟩, hini, hC, hz0, hsk, hWS, hGd, hfr, hlo⟩ := X
  exact fun H locs lsC hR hS hl a1 a2 => lv_ifnull hx hb hd (k H locs lsC hR hS hl a1 a2)
theorem sd_ifnn0 {pc : Nat} {ls : mx_L} {st : List Value} {h : mx_H} (X : mx_X xs P G p R s m args meth c y cc nL D ta base sk dd Ts h0) {off : Int} {a x : Nat} (ht : (pc : Int) + off = (a : Int)) (hd : decode cc pc = .ok (.ifnonnull off, 3)) (k : mx_W p l e R s m args below meth c D ta base sk h0 nL Q (pc + 3) (ls) (st) (h)) : mx_W p l e R s m args below meth c D ta base sk h0 nL Q (pc) (ls) (.null :: st) (h) := by
  obtain ⟨⟨hx, hb, hml, hown, hts⟩, hini, hC, hz0, hsk, hWS, hGd, hfr, hlo⟩ := X
  exact fun H locs lsC hR hS hl a1 a2 => lv_ifnonnullN hx hb hd (k H locs lsC hR hS hl a1 a2)
theorem sd_ifnn1 {pc : Nat} {ls : mx_L} {st : List Value} {h : mx_H} (X : mx_X xs P G p R s m args meth c y cc nL D ta base sk dd Ts h0) {off : Int} {a x : Nat} (ht : (pc : Int) + off = (a : Int)) (hd : decode cc pc = .ok (.ifnonnull off, 3)) (k : mx_W p l e R s m args below meth c D ta base sk h0 nL Q (a) (ls) (st) (h)) : mx_W p l e R s m args below meth c D ta base sk h0 nL Q (pc) (ls) (.ref x :: st) (h) := by
  obtain ⟨⟨hx, hb, hml, hown, hts⟩, hini, hC, hz0, hsk, hWS, hGd, hfr, hlo⟩ := X
  exact fun H locs lsC hR hS hl a1 a2 => lv_ifnonnull hx hb hd ht (k H locs lsC hR hS hl a1 a2)
theorem sw_tb {pc : Nat} {x : Int32} {f : Nat → mx_R} {d : mx_R} {q : Option Value × mx_H} : ∀ {lo : Int} {os : List Int} {cs : List (Int32 × Nat)}, mx_tb pc lo os cs = true → mx_sw cs x f d = some q → (∃ (i : Nat) (o : Int) (t : Nat), os[i]? = some o ∧ x.toInt = lo + i ∧ (pc : Int) + o = (t : Int) ∧ f t = some q) ∨ ((x.toInt < lo ∨ lo + os.length ≤ x.toInt) ∧ d = some q)
  | lo, [], [], _, hq => Or.inr ⟨by simp; omega, hq⟩
  | lo, o :: os, (v, t) :: cs, hb, hq => by
    simp only [mx_tb, Bool.and_eq_true, decide_eq_true_eq] at hb
    unfold mx_sw at hq
    split at hq
    · rename_i hx
      exact Or.inl ⟨0, o, t, rfl, by rw [hx, hb.1.1]; simp, hb.1.2, hq⟩
    · rename_i hx
      rcases sw_tb hb.2 hq with ⟨i, o', t', h1, h2, h3, h4⟩ | ⟨h1, h2⟩
      · exact Or.inl ⟨i + 1, o', t', by simpa using h1, by rw [h2]; push_cast; omega, h3, h4⟩
      · refine Or.inr ⟨?_, h2⟩
        have hne : x.toInt ≠ lo := fun e => hx (Int32.toInt_inj.mp (by rw [e, hb.1.1]))
        simp only [List.length_cons]
        push_cast
        omega
  | _, [], _ :: _, hb, _ => by simp [mx_tb] at hb
  | _, _ :: _, [], hb, _ => by simp [mx_tb] at hb
theorem sw_lk {pc a : Nat} {dflt : Int} {x : Int32} {f : Nat → mx_R} {d : mx_R} {q : Option Value × mx_H} (ha : (pc : Int) + dflt = (a : Int)) : ∀ {ps : List (Int × Int)} {cs : List (Int32 × Nat)}, mx_lk pc ps cs = true → mx_sw cs x f d = some q → ∃ (o : Int) (t : Nat), Op.lookupswitch.offset ps dflt x.toInt = o ∧ (pc : Int) + o = (t : Int) ∧ (f t = some q ∨ (t = a ∧ d = some q))
  | [], [], _, hq => ⟨dflt, a, rfl, ha, Or.inr ⟨rfl, hq⟩⟩
  | (n, o) :: ps, (v, t) :: cs, hb, hq => by
    simp only [mx_lk, Bool.and_eq_true, decide_eq_true_eq] at hb
    unfold mx_sw at hq
    split at hq
    · rename_i hx
      exact ⟨o, t, by rw [Op.lookupswitch.offset_cons, if_pos]; rw [hx, hb.1.1], hb.1.2, Or.inl hq⟩
    · rename_i hx
      obtain ⟨o', t', h1, h2, h3⟩ := sw_lk ha hb.2 hq
      exact ⟨o', t', by rw [lv_osw hx hb.1.1]; exact h1, h2, h3⟩
  | [], _ :: _, hb, _ => by simp [mx_lk] at hb
  | _ :: _, [], hb, _ => by simp [mx_lk] at hb
theorem sd_tsw {pc : Nat} {ls : mx_L} {st : List Value} {h : mx_H} (X : mx_X xs P G p R s m args meth c y cc nL D ta base sk dd Ts h0) {dflt lo hi : Int} {offs : Array Int} {len a : Nat} {cs : List (Int32 × Nat)} {x : Int32} {f : Nat → mx_R} {d : mx_R} {q : Option Value × mx_H} (ht : (pc : Int) + dflt = (a : Int)) (hn : hi + 1 = lo + (offs.toList.length : Int)) (htb : mx_tb pc lo offs.toList cs = true) (hd : decode cc pc = .ok (.tableswitch dflt lo hi offs, len)) (hq : mx_sw cs x f d = some q) (kf : ∀ t, f t = some q → mx_W p l e R s m args below meth c D ta base sk h0 nL Q (t) (ls) (st) (h)) (kd : d = some q → mx_W p l e R s m args below meth c D ta base sk h0 nL Q (a) (ls) (st) (h)) : mx_W p l e R s m args below meth c D ta base sk h0 nL Q (pc) (ls) (.int x :: st) (h) := by
  obtain ⟨⟨hx, hb, hml, hown, hts⟩, hini, hC, hz0, hsk, hWS, hGd, hfr, hlo⟩ := X
  intro H locs lsC hR hS hl a1 a2
  rcases sw_tb htb hq with ⟨i, o, t, h1, h2, h3, h4⟩ | ⟨h1, h2⟩
  · have hi2 : i < offs.toList.length := (List.getElem?_eq_some_iff.mp h1).1
    exact lv_tableIn hx hb hd (by omega) (by omega) (by rw [show (x.toInt - lo).toNat = i by omega, ← Array.getElem?_toList]; exact h1) h3 (kf t h4 H locs lsC hR hS hl a1 a2)
  · exact lv_tableOut hx hb hd (by omega) ht (kd h2 H locs lsC hR hS hl a1 a2)
theorem sd_lsw {pc : Nat} {ls : mx_L} {st : List Value} {h : mx_H} (X : mx_X xs P G p R s m args meth c y cc nL D ta base sk dd Ts h0) {dflt : Int} {ps : Array (Int × Int)} {len a : Nat} {cs : List (Int32 × Nat)} {x : Int32} {f : Nat → mx_R} {d : mx_R} {q : Option Value × mx_H} (ht : (pc : Int) + dflt = (a : Int)) (hp : (ps.toList.zip (ps.toList.drop 1)).all (fun (a, next) => a.1 < next.1) = true) (hlk : mx_lk pc ps.toList cs = true) (hd : decode cc pc = .ok (.lookupswitch dflt ps, len)) (hq : mx_sw cs x f d = some q) (kf : ∀ t, f t = some q → mx_W p l e R s m args below meth c D ta base sk h0 nL Q (t) (ls) (st) (h)) (kd : d = some q → mx_W p l e R s m args below meth c D ta base sk h0 nL Q (a) (ls) (st) (h)) : mx_W p l e R s m args below meth c D ta base sk h0 nL Q (pc) (ls) (.int x :: st) (h) := by
  obtain ⟨⟨hx, hb, hml, hown, hts⟩, hini, hC, hz0, hsk, hWS, hGd, hfr, hlo⟩ := X
  intro H locs lsC hR hS hl a1 a2
  obtain ⟨o, t, h1, h2, h3⟩ := sw_lk ht hlk hq
  rcases h3 with h3 | ⟨rfl, h3⟩
  · exact lv_lookup hx hb hd hp h1 h2 (kf t h3 H locs lsC hR hS hl a1 a2)
  · exact lv_lookup hx hb hd hp h1 h2 (kd h3 H locs lsC hR hS hl a1 a2)
end MXS
end
section
/-! ===== the heap's rows ===== -/
theorem mx_low {D : va_G} {ta : Nat → ClassId} {base : Nat} {sk : Nat → Value} {g : mx_H} {H1 : Heap} (hP : va_P D vwCl (mx_ws base sk ta g) H1) (hg : 0 < g.length) : base + g.length ≤ H1.size := by
  have h1 : g[g.length - 1]? = some g[g.length - 1] := List.getElem?_eq_getElem (by omega)
  have h2 := (hP _ _ (mx_ws_at h1)).lt
  have h3 : base + (g.length - 1) < H1.size := h2
  omega
theorem mx_pos {h : mx_H} {r : Nat} {e : va_E} (he : h[r]? = some e) : r < h.length := (List.getElem?_eq_some_iff.mp he).1
theorem mx_fresh {D : va_G} {ta : Nat → ClassId} {base : Nat} {sk : Nat → Value} {h : mx_H} {H1 : Heap} {q : Nat} {x : va_E} (hP : va_P D vwCl (mx_ws base sk ta h ++ [(q, x)]) H1) (hD : va_D (mx_A base) (mx_ws base sk ta h ++ [(q, x)])) (hz : H1.size ≤ base + h.length + 1) : q = base + h.length ∧ H1.size = base + h.length + 1 := by
  have hl : (mx_ws base sk ta h).length = h.length := by simp [mx_ws]
  have hq : (mx_ws base sk ta h ++ [(q, x)])[h.length]? = some (q, x) := by rw [List.getElem?_append_right (by omega), hl]; simp
  have h1 : q < H1.size := (hP _ _ hq).lt
  have h2 : base ≤ q := hD.2 _ _ hq
  by_cases hc : q = base + h.length
  · exact ⟨hc, by omega⟩
  · exfalso
    have hj : q - base < h.length := by omega
    have he : h[q - base]? = some h[q - base] := List.getElem?_eq_getElem hj
    have hw : (mx_ws base sk ta h ++ [(q, x)])[q - base]? = some (base + (q - base), mx_ce base sk ta h[q - base]) := by
      rw [List.getElem?_append_left (by omega)]
      exact mx_ws_at he
    have := hD.1 _ _ _ _ hw hq (by show base + (q - base) = q; omega)
    omega
theorem mx_up {g : Nat → Option Nat} {i v base : Nat} : (fun j => (va_up g i (some v) j).map (fun k => base + k)) = va_up (fun j => (g j).map (fun k => base + k)) i (some (base + v)) := by
  funext j
  unfold va_up
  split <;> rfl
theorem mx_ty_at {ta : Nat → ClassId} {c : Nat} (h : 3 ≤ c ∧ c ≤ 6) : (mx_tys ta)[c]? = some (ta c, .object (mx_RX (mx_kc c))) ∧ mx_kc c < 8 := by
  obtain ⟨h1, h2⟩ := h
  rcases (show c = 3 ∨ c = 4 ∨ c = 5 ∨ c = 6 by omega) with rfl | rfl | rfl | rfl <;> exact ⟨rfl, by decide⟩
theorem mx_ty_any {ta : Nat → ClassId} {c : Nat} (h : c < 7) : ∃ t, (mx_tys ta)[c]? = some (ta c, t) := by
  rcases (show c = 0 ∨ c = 1 ∨ c = 2 ∨ c = 3 ∨ c = 4 ∨ c = 5 ∨ c = 6 by omega) with rfl | rfl | rfl | rfl | rfl | rfl | rfl <;> exact ⟨_, rfl⟩
section MXT
variable {p : Program} {l : Launch} {e : Env} {R : Room} {s : State} {m : MethodId} {args : Array Value} {below : List Frame} {meth : Method} {c : Code} {Q : State → Prop}
variable {xs : List Int32} {P : List mx_M} {G : List Cond} {y : MethodName} {cc : ByteArray} {nL : Nat} {ret : Option FieldType} {D : va_G} {ta : Nat → ClassId} {base : Nat} {sk : Nat → Value} {dd : Nat} {Ts : List Cond} {h0 : mx_H}
theorem mx_sized {H : Heap} {locs : List Loc} {cells slots : Nat} {g : JFrame} (k : H.size ≤ s.heap.size + cells → W p l e R s m args below meth c H locs cells slots Q g) : W p l e R s m args below meth c H locs cells slots Q g := fun T hT X => k (by rw [← hT]; exact X.heapSize) T hT X
theorem sd_get {pc : Nat} {ls : mx_L} {st : List Value} {h : mx_H} (X : mx_X xs P G p R s m args meth c y cc nL D ta base sk dd Ts h0) {a b r i : Nat} {fs : List Value} {v : Value} (ha : a < 8) (hbn : b < mx_Nf a) (hlk : Cond.fieldLink y.cls i (mx_T a b).1 (mx_T a b).2.1 (mx_T a b).2.2.1 ∈ Ts) (he : h[r]? = some (.inr (a, fs))) (hv : fs[b]? = some v) (hd : decode cc pc = .ok (.getfield i, 3)) (k : mx_W p l e R s m args below meth c D ta base sk h0 nL Q (pc + 3) (ls) (v :: st) (h)) : mx_W p l e R s m args below meth c D ta base sk h0 nL Q (pc) (ls) (.ref r :: st) (h) := by
  obtain ⟨⟨hx, hb, hml, hown, hts⟩, hini, hC, hz0, hsk, hWS, hGd, hfr, hlo⟩ := X
  exact fun H locs lsC hR hS hl a1 a2 => va_get (v := mx_cv base sk v) hx hb hts (fun w hw => hWS w (mx_cl_ws ha w hw)) hown hC.1 hR.2 r (mx_ws_at he) (mx_cl_at ha) b hbn (hts _ hlk) (fun _ h => h) (by rw [List.getElem?_map, hv]; rfl) hd (k H locs lsC hR hS hl a1 a2)
theorem sd_put {pc : Nat} {ls : mx_L} {st : List Value} {h : mx_H} (X : mx_X xs P G p R s m args meth c y cc nL D ta base sk dd Ts h0) {a b r i : Nat} {fs : List Value} {v : Value} (ha : a < 8) (hbn : b < mx_Nf a) (hlk : Cond.fieldLink y.cls i (mx_T a b).1 (mx_T a b).2.1 (mx_T a b).2.2.1 ∈ Ts) (hfin : !(mx_T a b).2.2.2 || (decide (y.name = "<init>") && decide ((mx_T a b).1 = y.cls))) (hn : narrow (mx_tyf a b) (mx_cv base sk v) = mx_cv base sk v) (hft : fits (mx_tyf a b) (mx_cv base sk v) = true) (he : h[r]? = some (.inr (a, fs))) (hl2 : b < fs.length) (hd : decode cc pc = .ok (.putfield i, 3)) (k : mx_W p l e R s m args below meth c D ta base sk h0 nL Q (pc + 3) (ls) (st) (h.set r (.inr (a, fs.set b v)))) : mx_W p l e R s m args below meth c D ta base sk h0 nL Q (pc) (ls) (v :: .ref r :: st) (h) := by
  obtain ⟨⟨hx, hb, hml, hown, hts⟩, hini, hC, hz0, hsk, hWS, hGd, hfr, hlo⟩ := X
  intro H locs lsC hR hS hl a1 a2
  have hk : ∀ (H1 : Heap) (locs1 : List Loc), va_P D vwCl ((mx_ws base sk ta h).set r (base + r, .inr (a, (fs.map (mx_cv base sk)).set b (mx_cv base sk v)))) H1 → va_D (mx_A base) ((mx_ws base sk ta h).set r (base + r, .inr (a, (fs.map (mx_cv base sk)).set b (mx_cv base sk v)))) → va_S (mx_A base) s.heap H1 locs1 → W p l e R s m args below meth c H1 locs1 (h.length - h0.length) (mx_sz h - mx_sz h0) Q (F0 m (pc + 3) lsC (st.map (mx_cv base sk))) := by
    intro H1 locs1 hP1 _ hS1
    rw [← List.map_set] at hP1
    have hP2 : va_P D vwCl (mx_ws base sk ta (h.set r (.inr (a, fs.set b v)))) H1 := by rw [← mx_ws_set]; exact hP1
    refine mx_sized fun hsz => ?_
    have e1 := mx_low hP2 (by rw [List.length_set]; exact Nat.lt_of_le_of_lt (Nat.zero_le r) (mx_pos he))
    rw [List.length_set] at e1
    have e2 : mx_sz (h.set r (.inr (a, fs.set b v))) = mx_sz h := mx_sz_set he (by simp [mx_se])
    have k2 := k H1 locs1 lsC ⟨by rw [List.length_set]; omega, hP2⟩ hS1 hl (by rw [List.length_set]; exact a1) (by rw [e2]; exact a2)
    rw [List.length_set, e2] at k2
    exact k2
  by_cases hf : (mx_T a b).2.2.2 = true
  · rw [hf] at hfin
    simp only [Bool.not_true, Bool.false_or, Bool.and_eq_true, decide_eq_true_eq] at hfin
    exact va_putF hx hb hts (fun w hw => hWS w (mx_cl_ws ha w hw)) (mx_tyf a) (mx_cl_ty ha) (mx_cl_nm ha) hown hC.1 hR.2 mx_ws_D hS r (mx_ws_at he) (mx_cl_at ha) b hbn (hts _ hlk) (fun _ h => h) hf (hini hfin.1) hfin.2 (mx_cl_ty ha b hbn) hn hft (by rw [List.length_map]; exact hl2) hd hk
  · exact va_put hx hb hts (fun w hw => hWS w (mx_cl_ws ha w hw)) (mx_tyf a) (mx_cl_ty ha) (mx_cl_nm ha) hown hC.1 hR.2 mx_ws_D hS r (mx_ws_at he) (mx_cl_at ha) b hbn (hts _ hlk) (fun _ h => h) (by simpa using hf) (mx_cl_ty ha b hbn) hn hft (by rw [List.length_map]; exact hl2) hd hk
theorem sd_iald {pc : Nat} {ls : mx_L} {st : List Value} {h : mx_H} (X : mx_X xs P G p R s m args meth c y cc nL D ta base sk dd Ts h0) {r n : Nat} {i : Int32} {g : Nat → Int32} (he : h[r]? = some (.inl (0, n, .inl g))) (hin : vp_in i n) (hd : decode cc pc = .ok (.iaload, 1)) (k : mx_W p l e R s m args below meth c D ta base sk h0 nL Q (pc + 1) (ls) (.int (g i.toNatClampNeg) :: st) (h)) : mx_W p l e R s m args below meth c D ta base sk h0 nL Q (pc) (ls) (.int i :: .ref r :: st) (h) := by
  obtain ⟨⟨hx, hb, hml, hown, hts⟩, hini, hC, hz0, hsk, hWS, hGd, hfr, hlo⟩ := X
  exact fun H locs lsC hR hS hl a1 a2 => va_iald hx hb hC.1 hR.2 r 0 (mx_ws_at he) rfl hin hd (k H locs lsC hR hS hl a1 a2)
theorem sd_zald {pc : Nat} {ls : mx_L} {st : List Value} {h : mx_H} (X : mx_X xs P G p R s m args meth c y cc nL D ta base sk dd Ts h0) {r n : Nat} {i : Int32} {g : Nat → Int32} (he : h[r]? = some (.inl (1, n, .inl g))) (hin : vp_in i n) (hd : decode cc pc = .ok (.baload, 1)) (k : mx_W p l e R s m args below meth c D ta base sk h0 nL Q (pc + 1) (ls) (.int (g i.toNatClampNeg) :: st) (h)) : mx_W p l e R s m args below meth c D ta base sk h0 nL Q (pc) (ls) (.int i :: .ref r :: st) (h) := by
  obtain ⟨⟨hx, hb, hml, hown, hts⟩, hini, hC, hz0, hsk, hWS, hGd, hfr, hlo⟩ := X
  exact fun H locs lsC hR hS hl a1 a2 => va_zald hx hb hC.1 hR.2 r 1 (mx_ws_at he) rfl hin hd (k H locs lsC hR hS hl a1 a2)
theorem sd_cald {pc : Nat} {ls : mx_L} {st : List Value} {h : mx_H} (X : mx_X xs P G p R s m args meth c y cc nL D ta base sk dd Ts h0) {r n : Nat} {i : Int32} {g : Nat → Int32} (he : h[r]? = some (.inl (2, n, .inl g))) (hin : vp_in i n) (hd : decode cc pc = .ok (.caload, 1)) (k : mx_W p l e R s m args below meth c D ta base sk h0 nL Q (pc + 1) (ls) (.int (g i.toNatClampNeg) :: st) (h)) : mx_W p l e R s m args below meth c D ta base sk h0 nL Q (pc) (ls) (.int i :: .ref r :: st) (h) := by
  obtain ⟨⟨hx, hb, hml, hown, hts⟩, hini, hC, hz0, hsk, hWS, hGd, hfr, hlo⟩ := X
  exact fun H locs lsC hR hS hl a1 a2 => va_cald hx hb hC.1 hR.2 r 2 (mx_ws_at he) rfl hin hd (k H locs lsC hR hS hl a1 a2)
theorem sd_iast {pc : Nat} {ls : mx_L} {st : List Value} {h : mx_H} (X : mx_X xs P G p R s m args meth c y cc nL D ta base sk dd Ts h0) {r n : Nat} {i x : Int32} {g : Nat → Int32} (he : h[r]? = some (.inl (0, n, .inl g))) (hin : vp_in i n) (hd : decode cc pc = .ok (.iastore, 1)) (k : mx_W p l e R s m args below meth c D ta base sk h0 nL Q (pc + 1) (ls) (st) (h.set r (.inl (0, n, .inl (upd g i.toNatClampNeg x))))) : mx_W p l e R s m args below meth c D ta base sk h0 nL Q (pc) (ls) (.int x :: .int i :: .ref r :: st) (h) := by
  obtain ⟨⟨hx, hb, hml, hown, hts⟩, hini, hC, hz0, hsk, hWS, hGd, hfr, hlo⟩ := X
  intro H locs lsC hR hS hl a1 a2
  refine va_iast hx hb hC.1 hR.2 mx_ws_D hS r 0 (mx_ws_at he) rfl hin hd (fun H1 locs1 hP1 _ hS1 => ?_)
  have hP2 : va_P D vwCl (mx_ws base sk ta (h.set r (.inl (0, n, .inl (upd g i.toNatClampNeg x))))) H1 := by rw [← mx_ws_set]; exact hP1
  refine mx_sized fun hsz => ?_
  have e1 := mx_low hP2 (by rw [List.length_set]; exact Nat.lt_of_le_of_lt (Nat.zero_le r) (mx_pos he))
  rw [List.length_set] at e1
  have e2 : mx_sz (h.set r (.inl (0, n, .inl (upd g i.toNatClampNeg x)))) = mx_sz h := mx_sz_set he (by simp [mx_se])
  have k2 := k H1 locs1 lsC ⟨by rw [List.length_set]; omega, hP2⟩ hS1 hl (by rw [List.length_set]; exact a1) (by rw [e2]; exact a2)
  rw [List.length_set, e2] at k2
  exact k2
theorem sd_zast {pc : Nat} {ls : mx_L} {st : List Value} {h : mx_H} (X : mx_X xs P G p R s m args meth c y cc nL D ta base sk dd Ts h0) {r n : Nat} {i x : Int32} {g : Nat → Int32} (he : h[r]? = some (.inl (1, n, .inl g))) (hin : vp_in i n) (hd : decode cc pc = .ok (.bastore, 1)) (k : mx_W p l e R s m args below meth c D ta base sk h0 nL Q (pc + 1) (ls) (st) (h.set r (.inl (1, n, .inl (upd g i.toNatClampNeg (vp_nar .boolean x)))))) : mx_W p l e R s m args below meth c D ta base sk h0 nL Q (pc) (ls) (.int x :: .int i :: .ref r :: st) (h) := by
  obtain ⟨⟨hx, hb, hml, hown, hts⟩, hini, hC, hz0, hsk, hWS, hGd, hfr, hlo⟩ := X
  intro H locs lsC hR hS hl a1 a2
  refine va_zast hx hb hC.1 hR.2 mx_ws_D hS r 1 (mx_ws_at he) rfl hin hd (fun H1 locs1 hP1 _ hS1 => ?_)
  have hP2 : va_P D vwCl (mx_ws base sk ta (h.set r (.inl (1, n, .inl (upd g i.toNatClampNeg (vp_nar .boolean x)))))) H1 := by rw [← mx_ws_set]; exact hP1
  refine mx_sized fun hsz => ?_
  have e1 := mx_low hP2 (by rw [List.length_set]; exact Nat.lt_of_le_of_lt (Nat.zero_le r) (mx_pos he))
  rw [List.length_set] at e1
  have e2 : mx_sz (h.set r (.inl (1, n, .inl (upd g i.toNatClampNeg (vp_nar .boolean x))))) = mx_sz h := mx_sz_set he (by simp [mx_se])
  have k2 := k H1 locs1 lsC ⟨by rw [List.length_set]; omega, hP2⟩ hS1 hl (by rw [List.length_set]; exact a1) (by rw [e2]; exact a2)
  rw [List.length_set, e2] at k2
  exact k2
theorem sd_cast {pc : Nat} {ls : mx_L} {st : List Value} {h : mx_H} (X : mx_X xs P G p R s m args meth c y cc nL D ta base sk dd Ts h0) {r n : Nat} {i x : Int32} {g : Nat → Int32} (he : h[r]? = some (.inl (2, n, .inl g))) (hin : vp_in i n) (hd : decode cc pc = .ok (.castore, 1)) (k : mx_W p l e R s m args below meth c D ta base sk h0 nL Q (pc + 1) (ls) (st) (h.set r (.inl (2, n, .inl (upd g i.toNatClampNeg (vp_nar .char x)))))) : mx_W p l e R s m args below meth c D ta base sk h0 nL Q (pc) (ls) (.int x :: .int i :: .ref r :: st) (h) := by
  obtain ⟨⟨hx, hb, hml, hown, hts⟩, hini, hC, hz0, hsk, hWS, hGd, hfr, hlo⟩ := X
  intro H locs lsC hR hS hl a1 a2
  refine va_cast hx hb hC.1 hR.2 mx_ws_D hS r 2 (mx_ws_at he) rfl hin hd (fun H1 locs1 hP1 _ hS1 => ?_)
  have hP2 : va_P D vwCl (mx_ws base sk ta (h.set r (.inl (2, n, .inl (upd g i.toNatClampNeg (vp_nar .char x)))))) H1 := by rw [← mx_ws_set]; exact hP1
  refine mx_sized fun hsz => ?_
  have e1 := mx_low hP2 (by rw [List.length_set]; exact Nat.lt_of_le_of_lt (Nat.zero_le r) (mx_pos he))
  rw [List.length_set] at e1
  have e2 : mx_sz (h.set r (.inl (2, n, .inl (upd g i.toNatClampNeg (vp_nar .char x))))) = mx_sz h := mx_sz_set he (by simp [mx_se])
  have k2 := k H1 locs1 lsC ⟨by rw [List.length_set]; omega, hP2⟩ hS1 hl (by rw [List.length_set]; exact a1) (by rw [e2]; exact a2)
  rw [List.length_set, e2] at k2
  exact k2
theorem sd_aald {pc : Nat} {ls : mx_L} {st : List Value} {h : mx_H} (X : mx_X xs P G p R s m args meth c y cc nL D ta base sk dd Ts h0) {r n a tc : Nat} {i : Int32} {g : Nat → Option Nat} (he : h[r]? = some (.inl (tc, n, .inr (.inr (.inr (.inr g)))))) (ht : 3 ≤ tc ∧ tc ≤ 6) (hin : vp_in i n) (hg : g i.toNatClampNeg = some a) (hd : decode cc pc = .ok (.aaload, 1)) (k : mx_W p l e R s m args below meth c D ta base sk h0 nL Q (pc + 1) (ls) (.ref a :: st) (h)) : mx_W p l e R s m args below meth c D ta base sk h0 nL Q (pc) (ls) (.int i :: .ref r :: st) (h) := by
  obtain ⟨⟨hx, hb, hml, hown, hts⟩, hini, hC, hz0, hsk, hWS, hGd, hfr, hlo⟩ := X
  intro H locs lsC hR hS hl a1 a2
  refine va_aldq hx hb hC.1 hR.2 r tc (mx_ws_at he) (mx_ty_at ht).1 hin hd ?_
  have e : va_rf ((g i.toNatClampNeg).map (fun k => base + k)) = .ref (base + a) := by rw [hg]; rfl
  rw [e]
  exact k H locs lsC hR hS hl a1 a2
theorem sd_aast {pc : Nat} {ls : mx_L} {st : List Value} {h : mx_H} (X : mx_X xs P G p R s m args meth c y cc nL D ta base sk dd Ts h0) {r n v tc : Nat} {i : Int32} {g : Nat → Option Nat} {fs : List Value} (he : h[r]? = some (.inl (tc, n, .inr (.inr (.inr (.inr g)))))) (hv : h[v]? = some (.inr (mx_kc tc, fs))) (ht : 3 ≤ tc ∧ tc ≤ 6) (hin : vp_in i n) (hd : decode cc pc = .ok (.aastore, 1)) (k : mx_W p l e R s m args below meth c D ta base sk h0 nL Q (pc + 1) (ls) (st) (h.set r (.inl (tc, n, .inr (.inr (.inr (.inr (va_up g i.toNatClampNeg (some v))))))))) : mx_W p l e R s m args below meth c D ta base sk h0 nL Q (pc) (ls) (.ref v :: .int i :: .ref r :: st) (h) := by
  obtain ⟨⟨hx, hb, hml, hown, hts⟩, hini, hC, hz0, hsk, hWS, hGd, hfr, hlo⟩ := X
  intro H locs lsC hR hS hl a1 a2
  refine va_astq hx hb hC.1 hR.2 mx_ws_D hS r tc v (mx_kc tc) (mx_ws_at he) (mx_ty_at ht).1 (mx_ws_at hv) (mx_cl_at (mx_ty_at (ta := ta) ht).2) hin hd (fun H1 locs1 hP1 _ hS1 => ?_)
  have hP2 : va_P D vwCl (mx_ws base sk ta (h.set r (.inl (tc, n, .inr (.inr (.inr (.inr (va_up g i.toNatClampNeg (some v))))))))) H1 := by
    rw [← mx_ws_set]
    have e : mx_ce base sk ta (.inl (tc, n, .inr (.inr (.inr (.inr (va_up g i.toNatClampNeg (some v))))))) = .inl (ta tc, n, .inr (.inr (.inr (.inr (va_up (fun j => (g j).map (fun k => base + k)) i.toNatClampNeg (some (base + v))))))) := by
      rw [← mx_up]; rfl
    rw [e]
    exact hP1
  refine mx_sized fun hsz => ?_
  have e1 := mx_low hP2 (by rw [List.length_set]; exact Nat.lt_of_le_of_lt (Nat.zero_le r) (mx_pos he))
  rw [List.length_set] at e1
  have e2 : mx_sz (h.set r (.inl (tc, n, .inr (.inr (.inr (.inr (va_up g i.toNatClampNeg (some v)))))))) = mx_sz h := mx_sz_set he (by simp [mx_se])
  have k2 := k H1 locs1 lsC ⟨by rw [List.length_set]; omega, hP2⟩ hS1 hl (by rw [List.length_set]; exact a1) (by rw [e2]; exact a2)
  rw [List.length_set, e2] at k2
  exact k2
theorem sd_alen {pc : Nat} {ls : mx_L} {st : List Value} {h : mx_H} (X : mx_X xs P G p R s m args meth c y cc nL D ta base sk dd Ts h0) {r n tc : Nat} {x : (Nat → Int32) ⊕ (Nat → Int64) ⊕ (Nat → UInt32) ⊕ (Nat → UInt64) ⊕ (Nat → Option Nat)} (he : h[r]? = some (.inl (tc, n, x))) (ht : tc < 7) (hd : decode cc pc = .ok (.arraylength, 1)) (k : mx_W p l e R s m args below meth c D ta base sk h0 nL Q (pc + 1) (ls) (.int (Int32.ofNat n) :: st) (h)) : mx_W p l e R s m args below meth c D ta base sk h0 nL Q (pc) (ls) (.ref r :: st) (h) := by
  obtain ⟨⟨hx, hb, hml, hown, hts⟩, hini, hC, hz0, hsk, hWS, hGd, hfr, hlo⟩ := X
  intro H locs lsC hR hS hl a1 a2
  obtain ⟨t, h1⟩ := mx_ty_any (ta := ta) ht
  exact va_alen hx hb hC.1 hR.2 r tc (mx_ws_at he) h1 rfl hd (k H locs lsC hR hS hl a1 a2)
theorem sd_ci {pc : Nat} {ls : mx_L} {st : List Value} {h : mx_H} (X : mx_X xs P G p R s m args meth c y cc nL D ta base sk dd Ts h0) {r : Nat} {i : Int32} {lx : List Int32} (hk : mx_kt xs r = some (0, lx)) (hin : vp_in i lx.length) (hd : decode cc pc = .ok (.iaload, 1)) (k : mx_W p l e R s m args below meth c D ta base sk h0 nL Q (pc + 1) (ls) (.int (lx.getD i.toNatClampNeg 0) :: st) (h)) : mx_W p l e R s m args below meth c D ta base sk h0 nL Q (pc) (ls) (.int i :: .retAddr r :: st) (h) := by
  obtain ⟨⟨hx, hb, hml, hown, hts⟩, hini, hC, hz0, hsk, hWS, hGd, hfr, hlo⟩ := X
  intro H locs lsC hR hS hl a1 a2
  obtain ⟨a, e1, hT⟩ := hC.2.2.2.2.2.1 r _ _ hk
  have k2 := k H locs lsC hR hS hl a1 a2
  show W p l e R s m args below meth c H locs _ _ Q (F0 m pc lsC (.int i :: sk r :: st.map (mx_cv base sk)))
  rw [e1]
  exact va_ti hx hb hT hS hin rfl hd k2
theorem sd_cb {pc : Nat} {ls : mx_L} {st : List Value} {h : mx_H} (X : mx_X xs P G p R s m args meth c y cc nL D ta base sk dd Ts h0) {r : Nat} {i : Int32} {lx : List Int32} (hk : mx_kt xs r = some (7, lx)) (hin : vp_in i lx.length) (hd : decode cc pc = .ok (.baload, 1)) (k : mx_W p l e R s m args below meth c D ta base sk h0 nL Q (pc + 1) (ls) (.int (lx.getD i.toNatClampNeg 0) :: st) (h)) : mx_W p l e R s m args below meth c D ta base sk h0 nL Q (pc) (ls) (.int i :: .retAddr r :: st) (h) := by
  obtain ⟨⟨hx, hb, hml, hown, hts⟩, hini, hC, hz0, hsk, hWS, hGd, hfr, hlo⟩ := X
  intro H locs lsC hR hS hl a1 a2
  obtain ⟨a, e1, hT⟩ := hC.2.2.2.2.2.1 r _ _ hk
  have k2 := k H locs lsC hR hS hl a1 a2
  show W p l e R s m args below meth c H locs _ _ Q (F0 m pc lsC (.int i :: sk r :: st.map (mx_cv base sk)))
  rw [e1]
  exact va_tb hx hb hT hS hin rfl hd k2
theorem sd_cn {pc : Nat} {ls : mx_L} {st : List Value} {h : mx_H} (X : mx_X xs P G p R s m args meth c y cc nL D ta base sk dd Ts h0) {r t : Nat} {lx : List Int32} (hk : mx_kt xs r = some (t, lx)) (hd : decode cc pc = .ok (.arraylength, 1)) (k : mx_W p l e R s m args below meth c D ta base sk h0 nL Q (pc + 1) (ls) (.int (Int32.ofNat lx.length) :: st) (h)) : mx_W p l e R s m args below meth c D ta base sk h0 nL Q (pc) (ls) (.retAddr r :: st) (h) := by
  obtain ⟨⟨hx, hb, hml, hown, hts⟩, hini, hC, hz0, hsk, hWS, hGd, hfr, hlo⟩ := X
  intro H locs lsC hR hS hl a1 a2
  obtain ⟨a, e1, hT⟩ := hC.2.2.2.2.2.1 r _ _ hk
  have k2 := k H locs lsC hR hS hl a1 a2
  show W p l e R s m args below meth c H locs _ _ Q (F0 m pc lsC (sk r :: st.map (mx_cv base sk)))
  rw [e1]
  exact va_tlen hx hb hT hS rfl hd k2
theorem sd_sval {pc : Nat} {ls : mx_L} {st : List Value} {h : mx_H} (X : mx_X xs P G p R s m args meth c y cc nL D ta base sk dd Ts h0) {r i : Nat} (hr : r < 6) (hlk : Cond.fieldLink y.cls i "java/lang/String" "value" "[B" ∈ Ts) (hd : decode cc pc = .ok (.getfield i, 3)) (k : mx_W p l e R s m args below meth c D ta base sk h0 nL Q (pc + 3) (ls) (.retAddr (100 + r) :: st) (h)) : mx_W p l e R s m args below meth c D ta base sk h0 nL Q (pc) (ls) (.retAddr r :: st) (h) := by
  obtain ⟨⟨hx, hb, hml, hown, hts⟩, hini, hC, hz0, hsk, hWS, hGd, hfr, hlo⟩ := X
  intro H locs lsC hR hS hl a1 a2
  obtain ⟨a, e1, -, hc, hv⟩ := hC.2.2.2.2.2.2.1 r hr
  have k2 := k H locs lsC hR hS hl a1 a2
  show W p l e R s m args below meth c H locs _ _ Q (F0 m pc lsC (sk r :: st.map (mx_cv base sk)))
  rw [e1]
  exact vk_getf hx hb hv hS hown (hts _ hlk) (fun _ h => h) hd k2
theorem sd_scod {pc : Nat} {ls : mx_L} {st : List Value} {h : mx_H} (X : mx_X xs P G p R s m args meth c y cc nL D ta base sk dd Ts h0) {r i : Nat} (hr : r < 6) (hlk : Cond.fieldLink y.cls i "java/lang/String" "coder" "B" ∈ Ts) (hd : decode cc pc = .ok (.getfield i, 3)) (k : mx_W p l e R s m args below meth c D ta base sk h0 nL Q (pc + 3) (ls) (.int 0 :: st) (h)) : mx_W p l e R s m args below meth c D ta base sk h0 nL Q (pc) (ls) (.retAddr r :: st) (h) := by
  obtain ⟨⟨hx, hb, hml, hown, hts⟩, hini, hC, hz0, hsk, hWS, hGd, hfr, hlo⟩ := X
  intro H locs lsC hR hS hl a1 a2
  obtain ⟨a, e1, -, hc, hv⟩ := hC.2.2.2.2.2.2.1 r hr
  have k2 := k H locs lsC hR hS hl a1 a2
  show W p l e R s m args below meth c H locs _ _ Q (F0 m pc lsC (sk r :: st.map (mx_cv base sk)))
  rw [e1]
  exact vk_getf hx hb hc hS hown (hts _ hlk) (fun _ h => h) hd k2
theorem sd_ldcs {pc : Nat} {ls : mx_L} {st : List Value} {h : mx_H} (X : mx_X xs P G p R s m args meth c y cc nL D ta base sk dd Ts h0) {i a : Nat} (ho : y.cls = RX2) (hq : ∃ q ∈ mx_SL, q.1 = i ∧ q.2.2 = a) (hd : decode cc pc = .ok (.ldc i, 2)) (k : mx_W p l e R s m args below meth c D ta base sk h0 nL Q (pc + 2) (ls) (.retAddr a :: st) (h)) : mx_W p l e R s m args below meth c D ta base sk h0 nL Q (pc) (ls) (st) (h) := by
  obtain ⟨⟨hx, hb, hml, hown, hts⟩, hini, hC, hz0, hsk, hWS, hGd, hfr, hlo⟩ := X
  intro H locs lsC hR hS hl a1 a2
  obtain ⟨q, hq, rfl, rfl⟩ := hq
  obtain ⟨a, e1, hZ⟩ := hC.2.2.2.2.2.2.2 q hq
  have k2 := k H locs lsC hR hS hl a1 a2
  have e2 : ((Value.retAddr q.2.2 :: st).map (mx_cv base sk)) = .ref a :: st.map (mx_cv base sk) := by rw [List.map_cons, ← e1]; rfl
  rw [e2] at k2
  rw [ho] at hown
  exact va_ldcS hx hb hown hZ hd k2
theorem sd_gets {pc : Nat} {ls : mx_L} {st : List Value} {h : mx_H} (X : mx_X xs P G p R s m args meth c y cc nL D ta base sk dd Ts h0) {i a w : Nat} {v : Int32} (hlk : Cond.fieldLink y.cls i (mx_sta w a).1 (mx_sta w a).2.1 (mx_sta w a).2.2 ∈ Ts) (ho : (w = 0 ∧ (a = 200 ∨ a = 201 ∨ a = 999)) ∨ (¬ w = 0 ∧ v = 1)) (hd : decode cc pc = .ok (.getstatic i, 3)) (k : mx_W p l e R s m args below meth c D ta base sk h0 nL Q (pc + 3) (ls) (mx_sv w a v :: st) (h)) : mx_W p l e R s m args below meth c D ta base sk h0 nL Q (pc) (ls) (st) (h) := by
  obtain ⟨⟨hx, hb, hml, hown, hts⟩, hini, hC, hz0, hsk, hWS, hGd, hfr, hlo⟩ := X
  intro H locs lsC hR hS hl a1 a2
  have k2 := k H locs lsC hR hS hl a1 a2
  obtain ⟨z1, z2, z3, z4⟩ := hC.2.2.2.2.1
  rcases ho with ⟨rfl, rfl | rfl | rfl⟩ | ⟨hw, rfl⟩
  · exact va_gets hx hb z1 hS hown (hts _ hlk) (fun _ h => h) hd k2
  · exact va_gets hx hb z2 hS hown (hts _ hlk) (fun _ h => h) hd k2
  · exact va_gets hx hb z4 hS hown (hts _ hlk) (fun _ h => h) hd k2
  · match w, hw, hlk, k2 with
    | 0, hw, _, _ => exact absurd rfl hw
    | w + 1, _, hlk, k2 => exact va_gets hx hb z3 hS hown (hts _ hlk) (fun _ h => h) hd k2
theorem sd_getsN {pc : Nat} {ls : mx_L} {st : List Value} {h : mx_H} (X : mx_X xs P G p R s m args meth c y cc nL D ta base sk dd Ts h0) (ho : y.cls = "CreaseLines$Leg") (hd : decode cc pc = .ok (.getstatic 30, 3)) (k : mx_W p l e R s m args below meth c D ta base sk h0 nL Q (pc + 3) (ls) (.retAddr 200 :: st) (h)) : mx_W p l e R s m args below meth c D ta base sk h0 nL Q (pc) (ls) (st) (h) := by
  obtain ⟨⟨hx, hb, hml, hown, hts⟩, hini, hC, hz0, hsk, hWS, hGd, hfr, hlo⟩ := X
  intro H locs lsC hR hS hl a1 a2
  have k2 := k H locs lsC hR hS hl a1 a2
  rw [ho] at hown
  exact va_getsN hx hb hC.2.2.2.2.1.1 hS hown (va_Nw.use rfl hC.2.2.1) (fun _ h => h) hd k2
end MXT
end
section
/-! ===== what makes cells; calls ===== -/
section MXU
variable {p : Program} {l : Launch} {e : Env} {R : Room} {s : State} {m : MethodId} {args : Array Value} {below : List Frame} {meth : Method} {c : Code} {Q : State → Prop}
variable {xs : List Int32} {P : List mx_M} {G : List Cond} {y : MethodName} {cc : ByteArray} {nL : Nat} {ret : Option FieldType} {D : va_G} {ta : Nat → ClassId} {base : Nat} {sk : Nat → Value} {dd : Nat} {Ts : List Cond} {h0 : mx_H}
theorem sd_new {pc : Nat} {ls : mx_L} {st : List Value} {h : mx_H} (X : mx_X xs P G p R s m args meth c y cc nL D ta base sk dd Ts h0) {a i : Nat} (ha : a < 8) (h1 : Cond.classLink y.cls i (mx_RX a) ∈ Ts) (h2 : Cond.instantiable (mx_RX a) (mx_Nf a) ∈ Ts) (h3 : Cond.initialized (mx_RX a) ∈ Ts) (hc : h.length + 1 - h0.length ≤ R.cells) (hs : mx_sz (h ++ [.inr (a, mx_df a)]) - mx_sz h0 ≤ R.slots) (hd : decode cc pc = .ok (.new i, 3)) (k : mx_W p l e R s m args below meth c D ta base sk h0 nL Q (pc + 3) (ls) (.ref h.length :: st) (h ++ [.inr (a, mx_df a)])) : mx_W p l e R s m args below meth c D ta base sk h0 nL Q (pc) (ls) (st) (h) := by
  have X0 := X
  obtain ⟨⟨hx, hb, hml, hown, hts⟩, hini, hC, hz0, hsk, hWS, hGd, hfr, hlo⟩ := X
  intro H locs lsC hR hS hl a1 a2
  have hsz0 := hR.1
  have hN : mx_se (.inr (a, mx_df a)) = mx_Nf a := (mx_cl_df ha).1
  rw [mx_sz_push, hN] at hs
  refine va_new (fs := mx_df a) hx hb hts (fun w hw => hWS w (mx_cl_ws ha w hw)) (mx_tyf a) (mx_cl_ty ha) hown (hts _ h1) (hts _ h2) (hts _ h3) hC.1 hR.2 mx_ws_D hS (fun q hq => by show base ≤ q; omega) (mx_cl_at ha) ((mx_cl_df ha).2 base sk).2 (by omega) (by omega) hd (fun q H1 hP1 hD1 hS1 => ?_)
  have e0 : mx_ce base sk ta (.inr (a, mx_df a)) = .inr (a, mx_df a) := by show Sum.inr (a, (mx_df a).map (mx_cv base sk)) = _; rw [((mx_cl_df ha).2 base sk).1]
  rw [← e0] at hP1 hD1
  refine mx_sized fun hsz => ?_
  obtain ⟨rfl, e1⟩ := mx_fresh (x := mx_ce base sk ta (.inr (a, mx_df a))) hP1 hD1 (by omega)
  have hP2 : va_P D vwCl (mx_ws base sk ta (h ++ [.inr (a, mx_df a)])) H1 := by rw [mx_ws_push]; exact hP1
  have k2 := k H1 locs lsC ⟨by rw [List.length_append]; simp; omega, hP2⟩ hS1 hl (by rw [List.length_append]; omega) (by rw [mx_sz_push]; omega)
  rw [List.length_append, mx_sz_push] at k2
  have e3 : h.length + [(.inr (a, mx_df a) : va_E)].length - h0.length = h.length - h0.length + 1 := by simp; omega
  have e4 : mx_sz h + mx_se (.inr (a, mx_df a)) - mx_sz h0 = mx_sz h - mx_sz h0 + mx_Nf a := by simp [mx_se, (mx_cl_df ha).1]; omega
  rw [e3, e4] at k2
  exact k2
theorem sd_nai {pc : Nat} {ls : mx_L} {st : List Value} {h : mx_H} (X : mx_X xs P G p R s m args meth c y cc nL D ta base sk dd Ts h0) {n : Int32} (h1 : Cond.arrayClass (newarray.typeOf .int) ∈ Ts) (hn : ¬ n < 0) (hn2 : n.toNatClampNeg ≤ 4096) (hc : h.length + 1 - h0.length ≤ R.cells) (hs : mx_sz (h ++ [.inl (0, n.toNatClampNeg, .inl (fun _ => 0))]) - mx_sz h0 ≤ R.slots) (hd : decode cc pc = .ok (.newarray .int, 2)) (k : mx_W p l e R s m args below meth c D ta base sk h0 nL Q (pc + 2) (ls) (.ref h.length :: st) (h ++ [.inl (0, n.toNatClampNeg, .inl (fun _ => 0))])) : mx_W p l e R s m args below meth c D ta base sk h0 nL Q (pc) (ls) (.int n :: st) (h) := by
  have X0 := X
  obtain ⟨⟨hx, hb, hml, hown, hts⟩, hini, hC, hz0, hsk, hWS, hGd, hfr, hlo⟩ := X
  intro H locs lsC hR hS hl a1 a2
  have hsz0 := hR.1
  rw [mx_sz_push] at hs
  have hN : mx_se (.inl (0, n.toNatClampNeg, .inl (fun _ => 0))) = n.toNatClampNeg := rfl
  rw [hN] at hs
  have hcb : componentBytes .int ≤ 4 := by decide
  refine va_newa (ty := .int) (a0 := (n.toNatClampNeg, .inl (fun _ => 0))) hx hb (hts _ h1) rfl hC.1 hR.2 mx_ws_D hS (fun q hq => by show base ≤ q; omega) (fun cA => rfl) hn rfl (Nat.le_trans (Nat.mul_le_mul hn2 hcb) (by decide)) (by omega) (by omega) hd (fun q cA H1 hK1 hP1 hD1 hS1 => ?_)
  have eA : cA = ta 0 := by
    have r1 : s.vm.findClass ("[" ++ (.int : FieldType).toString) = some cA := (hK1.2 7 (cA, .int) rfl).2
    have r2 : s.vm.findClass ("[" ++ (.int : FieldType).toString) = some (ta 0) := (hC.1.2 0 (ta 0, .int) rfl).2
    exact Option.some.inj (r1.symm.trans r2)
  subst eA
  refine mx_sized fun hsz => ?_
  obtain ⟨rfl, e1⟩ := mx_fresh (x := mx_ce base sk ta (.inl (0, n.toNatClampNeg, .inl (fun _ => 0)))) hP1 hD1 (by omega)
  have hP2 : va_P D vwCl (mx_ws base sk ta (h ++ [.inl (0, n.toNatClampNeg, .inl (fun _ => 0))])) H1 := by rw [mx_ws_push]; exact hP1
  have k2 := k H1 locs lsC ⟨by rw [List.length_append]; simp; omega, hP2⟩ hS1 hl (by rw [List.length_append]; omega) (by rw [mx_sz_push]; omega)
  rw [List.length_append, mx_sz_push] at k2
  have e3 : h.length + [(.inl (0, n.toNatClampNeg, .inl (fun _ => 0)) : va_E)].length - h0.length = h.length - h0.length + 1 := by simp; omega
  have e4 : mx_sz h + mx_se (.inl (0, n.toNatClampNeg, .inl (fun _ => 0))) - mx_sz h0 = mx_sz h - mx_sz h0 + n.toNatClampNeg := by simp [mx_se]; omega
  rw [e3, e4] at k2
  exact k2
theorem sd_naz {pc : Nat} {ls : mx_L} {st : List Value} {h : mx_H} (X : mx_X xs P G p R s m args meth c y cc nL D ta base sk dd Ts h0) {n : Int32} (h1 : Cond.arrayClass (newarray.typeOf .boolean) ∈ Ts) (hn : ¬ n < 0) (hn2 : n.toNatClampNeg ≤ 4096) (hc : h.length + 1 - h0.length ≤ R.cells) (hs : mx_sz (h ++ [.inl (1, n.toNatClampNeg, .inl (fun _ => 0))]) - mx_sz h0 ≤ R.slots) (hd : decode cc pc = .ok (.newarray .boolean, 2)) (k : mx_W p l e R s m args below meth c D ta base sk h0 nL Q (pc + 2) (ls) (.ref h.length :: st) (h ++ [.inl (1, n.toNatClampNeg, .inl (fun _ => 0))])) : mx_W p l e R s m args below meth c D ta base sk h0 nL Q (pc) (ls) (.int n :: st) (h) := by
  have X0 := X
  obtain ⟨⟨hx, hb, hml, hown, hts⟩, hini, hC, hz0, hsk, hWS, hGd, hfr, hlo⟩ := X
  intro H locs lsC hR hS hl a1 a2
  have hsz0 := hR.1
  rw [mx_sz_push] at hs
  have hN : mx_se (.inl (1, n.toNatClampNeg, .inl (fun _ => 0))) = n.toNatClampNeg := rfl
  rw [hN] at hs
  have hcb : componentBytes .boolean ≤ 4 := by decide
  refine va_newa (ty := .boolean) (a0 := (n.toNatClampNeg, .inl (fun _ => 0))) hx hb (hts _ h1) rfl hC.1 hR.2 mx_ws_D hS (fun q hq => by show base ≤ q; omega) (fun cA => rfl) hn rfl (Nat.le_trans (Nat.mul_le_mul hn2 hcb) (by decide)) (by omega) (by omega) hd (fun q cA H1 hK1 hP1 hD1 hS1 => ?_)
  have eA : cA = ta 1 := by
    have r1 : s.vm.findClass ("[" ++ (.boolean : FieldType).toString) = some cA := (hK1.2 7 (cA, .boolean) rfl).2
    have r2 : s.vm.findClass ("[" ++ (.boolean : FieldType).toString) = some (ta 1) := (hC.1.2 1 (ta 1, .boolean) rfl).2
    exact Option.some.inj (r1.symm.trans r2)
  subst eA
  refine mx_sized fun hsz => ?_
  obtain ⟨rfl, e1⟩ := mx_fresh (x := mx_ce base sk ta (.inl (1, n.toNatClampNeg, .inl (fun _ => 0)))) hP1 hD1 (by omega)
  have hP2 : va_P D vwCl (mx_ws base sk ta (h ++ [.inl (1, n.toNatClampNeg, .inl (fun _ => 0))])) H1 := by rw [mx_ws_push]; exact hP1
  have k2 := k H1 locs lsC ⟨by rw [List.length_append]; simp; omega, hP2⟩ hS1 hl (by rw [List.length_append]; omega) (by rw [mx_sz_push]; omega)
  rw [List.length_append, mx_sz_push] at k2
  have e3 : h.length + [(.inl (1, n.toNatClampNeg, .inl (fun _ => 0)) : va_E)].length - h0.length = h.length - h0.length + 1 := by simp; omega
  have e4 : mx_sz h + mx_se (.inl (1, n.toNatClampNeg, .inl (fun _ => 0))) - mx_sz h0 = mx_sz h - mx_sz h0 + n.toNatClampNeg := by simp [mx_se]; omega
  rw [e3, e4] at k2
  exact k2
theorem sd_nac {pc : Nat} {ls : mx_L} {st : List Value} {h : mx_H} (X : mx_X xs P G p R s m args meth c y cc nL D ta base sk dd Ts h0) {n : Int32} (h1 : Cond.arrayClass (newarray.typeOf .char) ∈ Ts) (hn : ¬ n < 0) (hn2 : n.toNatClampNeg ≤ 4096) (hc : h.length + 1 - h0.length ≤ R.cells) (hs : mx_sz (h ++ [.inl (2, n.toNatClampNeg, .inl (fun _ => 0))]) - mx_sz h0 ≤ R.slots) (hd : decode cc pc = .ok (.newarray .char, 2)) (k : mx_W p l e R s m args below meth c D ta base sk h0 nL Q (pc + 2) (ls) (.ref h.length :: st) (h ++ [.inl (2, n.toNatClampNeg, .inl (fun _ => 0))])) : mx_W p l e R s m args below meth c D ta base sk h0 nL Q (pc) (ls) (.int n :: st) (h) := by
  have X0 := X
  obtain ⟨⟨hx, hb, hml, hown, hts⟩, hini, hC, hz0, hsk, hWS, hGd, hfr, hlo⟩ := X
  intro H locs lsC hR hS hl a1 a2
  have hsz0 := hR.1
  rw [mx_sz_push] at hs
  have hN : mx_se (.inl (2, n.toNatClampNeg, .inl (fun _ => 0))) = n.toNatClampNeg := rfl
  rw [hN] at hs
  have hcb : componentBytes .char ≤ 4 := by decide
  refine va_newa (ty := .char) (a0 := (n.toNatClampNeg, .inl (fun _ => 0))) hx hb (hts _ h1) rfl hC.1 hR.2 mx_ws_D hS (fun q hq => by show base ≤ q; omega) (fun cA => rfl) hn rfl (Nat.le_trans (Nat.mul_le_mul hn2 hcb) (by decide)) (by omega) (by omega) hd (fun q cA H1 hK1 hP1 hD1 hS1 => ?_)
  have eA : cA = ta 2 := by
    have r1 : s.vm.findClass ("[" ++ (.char : FieldType).toString) = some cA := (hK1.2 7 (cA, .char) rfl).2
    have r2 : s.vm.findClass ("[" ++ (.char : FieldType).toString) = some (ta 2) := (hC.1.2 2 (ta 2, .char) rfl).2
    exact Option.some.inj (r1.symm.trans r2)
  subst eA
  refine mx_sized fun hsz => ?_
  obtain ⟨rfl, e1⟩ := mx_fresh (x := mx_ce base sk ta (.inl (2, n.toNatClampNeg, .inl (fun _ => 0)))) hP1 hD1 (by omega)
  have hP2 : va_P D vwCl (mx_ws base sk ta (h ++ [.inl (2, n.toNatClampNeg, .inl (fun _ => 0))])) H1 := by rw [mx_ws_push]; exact hP1
  have k2 := k H1 locs lsC ⟨by rw [List.length_append]; simp; omega, hP2⟩ hS1 hl (by rw [List.length_append]; omega) (by rw [mx_sz_push]; omega)
  rw [List.length_append, mx_sz_push] at k2
  have e3 : h.length + [(.inl (2, n.toNatClampNeg, .inl (fun _ => 0)) : va_E)].length - h0.length = h.length - h0.length + 1 := by simp; omega
  have e4 : mx_sz h + mx_se (.inl (2, n.toNatClampNeg, .inl (fun _ => 0))) - mx_sz h0 = mx_sz h - mx_sz h0 + n.toNatClampNeg := by simp [mx_se]; omega
  rw [e3, e4] at k2
  exact k2
theorem sd_nq {pc : Nat} {ls : mx_L} {st : List Value} {h : mx_H} (X : mx_X xs P G p R s m args meth c y cc nL D ta base sk dd Ts h0) {a i : Nat} {n : Int32} (ha : 3 ≤ a ∧ a ≤ 6) (h1 : Cond.classLink y.cls i (mx_RX (mx_kc a)) ∈ Ts) (hn : ¬ n < 0) (hn2 : n.toNatClampNeg ≤ 4096) (hc : h.length + 1 - h0.length ≤ R.cells) (hs : mx_sz (h ++ [.inl (a, n.toNatClampNeg, .inr (.inr (.inr (.inr (fun _ => none)))))]) - mx_sz h0 ≤ R.slots) (hd : decode cc pc = .ok (.anewarray i, 3)) (k : mx_W p l e R s m args below meth c D ta base sk h0 nL Q (pc + 3) (ls) (.ref h.length :: st) (h ++ [.inl (a, n.toNatClampNeg, .inr (.inr (.inr (.inr (fun _ => none)))))])) : mx_W p l e R s m args below meth c D ta base sk h0 nL Q (pc) (ls) (.int n :: st) (h) := by
  have X0 := X
  obtain ⟨⟨hx, hb, hml, hown, hts⟩, hini, hC, hz0, hsk, hWS, hGd, hfr, hlo⟩ := X
  intro H locs lsC hR hS hl a1 a2
  have hsz0 := hR.1
  rw [mx_sz_push] at hs
  have hN : mx_se (.inl (a, n.toNatClampNeg, .inr (.inr (.inr (.inr (fun _ => none)))))) = n.toNatClampNeg := rfl
  rw [hN] at hs
  have hAO : va_AO (mx_RX (mx_kc a)) s := by
    obtain ⟨z1, z2, z3, z4⟩ := hC.2.2.2.1
    obtain ⟨b1, b2⟩ := ha
    rcases (show a = 3 ∨ a = 4 ∨ a = 5 ∨ a = 6 by omega) with rfl | rfl | rfl | rfl
    · exact z1
    · exact z2
    · exact z3
    · exact z4
  refine va_newq hx hb hown (hts _ h1) hAO hC.1 hR.2 mx_ws_D hS (fun q hq => by show base ≤ q; omega) hn rfl (by omega) (by omega) (by omega) hd (fun q cA H1 hK1 hP1 hD1 hS1 => ?_)
  have eA : cA = ta a := by
    obtain ⟨_, _, _, _, _, r1⟩ := (hK1.2 7 (cA, .object (mx_RX (mx_kc a))) rfl).2
    obtain ⟨_, _, _, _, _, r2⟩ := (hC.1.2 a (ta a, .object (mx_RX (mx_kc a))) (mx_ty_at ha).1).2
    exact Option.some.inj (r1.symm.trans r2)
  subst eA
  refine mx_sized fun hsz => ?_
  obtain ⟨rfl, e1⟩ := mx_fresh (x := mx_ce base sk ta (.inl (a, n.toNatClampNeg, .inr (.inr (.inr (.inr (fun _ => none))))))) hP1 hD1 (by omega)
  have hP2 : va_P D vwCl (mx_ws base sk ta (h ++ [.inl (a, n.toNatClampNeg, .inr (.inr (.inr (.inr (fun _ => none)))))])) H1 := by rw [mx_ws_push]; exact hP1
  have k2 := k H1 locs lsC ⟨by rw [List.length_append]; simp; omega, hP2⟩ hS1 hl (by rw [List.length_append]; omega) (by rw [mx_sz_push]; omega)
  rw [List.length_append, mx_sz_push] at k2
  have e3 : h.length + [(.inl (a, n.toNatClampNeg, .inr (.inr (.inr (.inr (fun _ => none))))) : va_E)].length - h0.length = h.length - h0.length + 1 := by simp; omega
  have e4 : mx_sz h + mx_se (.inl (a, n.toNatClampNeg, .inr (.inr (.inr (.inr (fun _ => none)))))) - mx_sz h0 = mx_sz h - mx_sz h0 + n.toNatClampNeg := by simp [mx_se]; omega
  rw [e3, e4] at k2
  exact k2
theorem sd_cpy {pc : Nat} {ls : mx_L} {st : List Value} {h : mx_H} (X : mx_X xs P G p R s m args meth c y cc nL D ta base sk dd Ts h0) {i sa da n0 n1 : Nat} {sp dp n : Int32} {f0 f1 : Nat → Int32} (h1 : Cond.methodLink y.cls i arraycopyName ∈ Ts) (h2 : Cond.native arraycopyName ∈ Ts) (h3 : Cond.static arraycopyName ∈ Ts) (h4 : Cond.initialized "java/lang/System" ∈ Ts) (he0 : h[sa]? = some (.inl (0, n0, .inl f0))) (he1 : h[da]? = some (.inl (0, n1, .inl f1))) (c1 : ¬ sp < 0) (c2 : ¬ dp < 0) (c3 : ¬ n < 0) (c4 : sp.toNatClampNeg + n.toNatClampNeg ≤ n0) (c5 : dp.toNatClampNeg + n.toNatClampNeg ≤ n1) (hr : (st.map fun v => v.category).sum ≤ 8) (hd : decode cc pc = .ok (.invokestatic i, 3)) (k : mx_W p l e R s m args below meth c D ta base sk h0 nL Q (pc + 3) (ls) (st) (h.set da (.inl (0, n1, .inl (va_cpy f0 f1 sp.toNatClampNeg dp.toNatClampNeg n.toNatClampNeg))))) : mx_W p l e R s m args below meth c D ta base sk h0 nL Q (pc) (ls) (.int n :: .int dp :: .ref da :: .int sp :: .ref sa :: st) (h) := by
  have X0 := X
  obtain ⟨⟨hx, hb, hml, hown, hts⟩, hini, hC, hz0, hsk, hWS, hGd, hfr, hlo⟩ := X
  intro H locs lsC hR hS hl a1 a2
  have hnf : nativeFrameWords "java/lang/System" "arraycopy" 5 = 7 := by decide
  refine va_copyi (ty := .int) hx hb (hml.trans hl.1.symm) hown (hts _ h1) (hts _ h2) (hts _ h3) (hts _ h4) hC.1 hR.2 mx_ws_D hS sa da 0 0 (mx_ws_at he0) (mx_ws_at he1) rfl rfl rfl c1 c2 c3 c4 c5 (fun _ _ => rfl) (by omega) (by rw [mx_cats hsk, hnf]; omega) hd (fun H1 locs1 hP1 _ hS1 => ?_)
  have hP2 : va_P D vwCl (mx_ws base sk ta (h.set da (.inl (0, n1, .inl (va_cpy f0 f1 sp.toNatClampNeg dp.toNatClampNeg n.toNatClampNeg))))) H1 := by rw [← mx_ws_set]; exact hP1
  refine mx_sized fun hsz => ?_
  have e1 := mx_low hP2 (by rw [List.length_set]; exact Nat.lt_of_le_of_lt (Nat.zero_le da) (mx_pos he1))
  rw [List.length_set] at e1
  have e2 : mx_sz (h.set da (.inl (0, n1, .inl (va_cpy f0 f1 sp.toNatClampNeg dp.toNatClampNeg n.toNatClampNeg)))) = mx_sz h := mx_sz_set he1 (by simp [mx_se])
  have k2 := k H1 locs1 lsC ⟨by rw [List.length_set]; have := hR.1; omega, hP2⟩ hS1 hl (by rw [List.length_set]; exact a1) (by rw [e2]; exact a2)
  rw [List.length_set, e2] at k2
  exact k2
theorem sd_oinit {pc : Nat} {ls : mx_L} {st : List Value} {h : mx_H} (X : mx_X xs P G p R s m args meth c y cc nL D ta base sk dd Ts h0) {i r : Nat} (h1 : Cond.methodLink y.cls i objectInit ∈ Ts) (h2 : Cond.instanceMethod objectInit ∈ Ts) (h3 : Cond.code objectInit ⟨#[0xb1]⟩ 1 none ∈ Ts) (hr : (st.map fun v => v.category).sum ≤ 8) (hd : decode cc pc = .ok (.invokespecial i, 3)) (k : mx_W p l e R s m args below meth c D ta base sk h0 nL Q (pc + 3) (ls) (st) (h)) : mx_W p l e R s m args below meth c D ta base sk h0 nL Q (pc) (ls) (.ref r :: st) (h) := by
  have X0 := X
  obtain ⟨⟨hx, hb, hml, hown, hts⟩, hini, hC, hz0, hsk, hWS, hGd, hfr, hlo⟩ := X
  intro H locs lsC hR hS hl a1 a2
  refine W.objInit hx hb hown (hts _ h1) (hts _ h2) (hts _ h3) rfl (hl.1.trans hml.symm) rfl hd (by omega) (by
    have := lv_room (m := m) (pc := pc) (ls := lsC) (rest := (Value.ref r :: st).map (mx_cv base sk)) (st := st.map (mx_cv base sk)) (by rw [mx_cats hsk]; exact hr)
    omega) ?_
  exact k H locs lsC hR hS hl a1 a2
/-- a method's start and end, over the pure heap -/
def mx_Pc (xs : List Int32) (D : va_G) (ta : Nat → ClassId) (base : Nat) (sk : Nat → Value) (as : List Value) (h : mx_H) : Array Value → State → Prop := va_Pc (as.map (mx_cv base sk)) (fun U => mx_Rl D ta base sk h U.heap ∧ mx_C xs D ta base sk U U.heap)
def mx_Qc (D : va_G) (ta : Nat → ClassId) (base : Nat) (sk : Nat → Value) (rv : Option Value) (h' : mx_H) : Array Value → State → Outcome → State → Prop := fun _ st oc t => oc = .returned (rv.map (mx_cv base sk)) ∧ mx_Rl D ta base sk h' t.heap ∧ va_F (mx_A base) st t
def mx_room (d : Nat) (h h' : mx_H) : Room := { frames := d, cells := h'.length - h.length, slots := mx_sz h' - mx_sz h, locals := 36 * d }
def mx_Met (xs : List Int32) (l : Launch) (P : List mx_M) (G : List Cond) (D : va_G) (ta : Nat → ClassId) (base : Nat) (sk : Nat → Value) (d j : Nat) (as : List Value) (h : mx_H) (rv : Option Value) (h' : mx_H) : Prop :=
  ∃ M : mx_M, P[j]? = some M ∧ Met l M.1 (Cond.code M.1 M.2.1 M.2.2.1 M.2.2.2.1 :: G) (mx_room d h h') (mx_Pc xs D ta base sk as h) (mx_Qc D ta base sk rv h') (h'.length - h.length) (mx_sz h' - mx_sz h) (mx_A base)
theorem mx_blind {as : List Value} {h : mx_H} : FrameBlind (mx_Pc xs D ta base sk as h) := fun a U g mk q => ⟨q.1, q.2.1, mx_C.same (u := U) rfl q.2.2⟩
theorem mx_goon {H : Heap} {locs : List Loc} {cells slots mc ms pc : Nat} {ls : Array Slot} {st0 rest : List Value} {a : Array Value} {rv : Option Value} {g' : mx_H} (hr : va_Run p l e R s m args below meth c H locs cells slots mc ms (F0 m pc ls st0) rest (mx_Qc D ta base sk rv g' a) (mx_A base)) (hS : va_S (mx_A base) s.heap H locs)
    (kk : ∀ (H1 : Heap) (locs1 : List Loc), mx_Rl D ta base sk g' H1 → va_S (mx_A base) s.heap H1 locs1 → W p l e R s m args below meth c H1 locs1 (cells + mc) (slots + ms) Q (F0 m (pc + 3) ls ((rv.map (mx_cv base sk)).toList ++ rest))) : W p l e R s m args below meth c H locs cells slots Q (F0 m pc ls st0) := by
  intro T hT X
  obtain ⟨v, st₀, t, T', L, h0, X', hL, e1, e2, ⟨hv, hRl, hz, hk⟩, st⟩ := hr T hT X
  cases hv
  rw [h0] at hz hk
  obtain ⟨t2, a1, b1⟩ := kk T'.heap (locs ++ L) (by rw [e1]; exact hRl)
    ⟨Nat.le_trans hS.1 (by rw [e1]; exact hz), fun q h1 h2 => by rw [e1, hk q (Nat.lt_of_lt_of_le h1 hS.1) h2]; exact hS.2.1 q h1 h2, fun q hq => by
      rcases List.mem_append.mp hq with h | h
      · exact hS.2.2 q h
      · exact hL q h⟩ T' rfl X'
  exact ⟨t2, st t2 a1, b1⟩
theorem sd_callV {pc : Nat} {ls : mx_L} {st : List Value} {h : mx_H} (X : mx_X xs P G p R s m args meth c y cc nL D ta base sk dd Ts h0) {M' : mx_M} {i b a : Nat} {as : List Value} {rv : Option Value} {g : mx_H} (hPM : P[a]? = some M') (hcal : mx_cal M' b = true) (hb2 : as.length = b) (hst : (st.map fun v => v.category).sum ≤ 8) (hg1 : h.length ≤ g.length) (hg2 : mx_sz h ≤ mx_sz g) (hc : g.length - h0.length ≤ R.cells) (hs : mx_sz g - mx_sz h0 ≤ R.slots) (h1 : Cond.methodLink y.cls i M'.1 ∈ Ts) (h2 : Cond.instanceMethod M'.1 ∈ Ts) (h3 : Cond.selects M'.1.cls M'.1 M'.1 ∈ Ts) (h4 : Cond.initialized M'.1.cls ∈ Ts) {u r : Nat} {fs : List Value} (hu : u < 8) (hcl : mx_RX u = M'.1.cls) (he : h[r]? = some (.inr (u, fs))) (hcall : mx_Met xs l P G D ta base sk dd a (.ref r :: as) h rv g) (hd : decode cc pc = .ok (.invokevirtual i, 3)) (k : mx_W p l e R s m args below meth c D ta base sk h0 nL Q (pc + 3) (ls) (rv.toList ++ st) (g)) : mx_W p l e R s m args below meth c D ta base sk h0 nL Q (pc) (ls) (as.reverse ++ .ref r :: st) (h) := by
  have X0 := X
  obtain ⟨⟨hx, hb, hml, hown, hts⟩, hini, hC, hz0, hsk, hWS, hGd, hfr, hlo⟩ := X
  simp only [mx_cal, Bool.and_eq_true, decide_eq_true_eq] at hcal
  obtain ⟨hnm, hmx⟩ := hcal
  have hmx := Nat.le_of_ble_eq_true hmx
  intro H locs lsC hR hS hl a1 a2
  obtain ⟨M, hM, hMet⟩ := hcall
  have hM0 : M = M' := Option.some.inj (hM.symm.trans hPM)
  subst hM0
  have hnext : ∀ U : State, U.heap = H → s.WarmedH U.vm → mx_Rl D ta base sk h U.heap ∧ mx_C xs D ta base sk U U.heap := fun U hU hW => ⟨by rw [hU]; exact hR, by rw [hU]; exact (hC.kept hS.2.1).warm hW⟩
  have hroom : (mx_room dd h g).frames + 1 ≤ R.frames ∧ 8 + (M.2.2.1 + 11) + (mx_room dd h g).locals ≤ R.locals := ⟨hfr, by show 8 + (M.2.2.1 + 11) + 36 * dd ≤ R.locals; omega⟩
  have hfit : h.length - h0.length + (g.length - h.length) ≤ R.cells ∧ mx_sz h - mx_sz h0 + (mx_sz g - mx_sz h) ≤ R.slots := by omega
  have e3 : h.length - h0.length + (g.length - h.length) = g.length - h0.length := by omega
  have e4 : mx_sz h - mx_sz h0 + (mx_sz g - mx_sz h) = mx_sz g - mx_sz h0 := by omega
  have hgo : ∀ (H1 : Heap) (locs1 : List Loc), mx_Rl D ta base sk g H1 → va_S (mx_A base) s.heap H1 locs1 → W p l e R s m args below meth c H1 locs1 (h.length - h0.length + (g.length - h.length)) (mx_sz h - mx_sz h0 + (mx_sz g - mx_sz h)) Q (F0 m (pc + 3) lsC ((rv.map (mx_cv base sk)).toList ++ st.map (mx_cv base sk))) := by
    intro H1 locs1 hR1 hS1
    have k2 := k H1 locs1 lsC hR1 hS1 hl (by omega) (by omega)
    rw [e3, e4]
    cases rv with
    | none => exact k2
    | some v => exact k2
  have hrm : 2 * (F0 m pc lsC ([] : List Value)).monitorRoom + ((st.map (mx_cv base sk)).map fun v => v.category).sum ≤ 8 := lv_room (by rw [mx_cats hsk]; exact hst)
  refine mx_goon (rest := st.map (mx_cv base sk)) (va_runV (As := as.map (mx_cv base sk)) (b := base + r) (C := M.1.cls) ⟨hx, hb, hml, hown, hts⟩ hMet ⟨callB_of b hts (hGd _ _ hPM) rfl rfl rfl (hts _ h4) (hts _ h1) hnm hroom, hts _ h2, hts _ h3⟩ ⟨mx_blind, ?_, fun U hU hW => ⟨rfl, hnext U hU hW⟩⟩ rfl (by rw [List.length_map]; exact hb2) hl.1 (by simp [mx_cv]) hrm hd hfit) hS hgo
  rw [← hcl]
  exact va_recv hC.1 hR.2 (mx_cl_at hu) (mx_ws_at he)
theorem sd_callT {pc : Nat} {ls : mx_L} {st : List Value} {h : mx_H} (X : mx_X xs P G p R s m args meth c y cc nL D ta base sk dd Ts h0) {M' : mx_M} {i b a : Nat} {as : List Value} {rv : Option Value} {g : mx_H} (hPM : P[a]? = some M') (hcal : mx_cal M' b = true) (hb2 : as.length = b) (hst : (st.map fun v => v.category).sum ≤ 8) (hg1 : h.length ≤ g.length) (hg2 : mx_sz h ≤ mx_sz g) (hc : g.length - h0.length ≤ R.cells) (hs : mx_sz g - mx_sz h0 ≤ R.slots) (h1 : Cond.methodLink y.cls i M'.1 ∈ Ts) (h2 : Cond.instanceMethod M'.1 ∈ Ts) (h3 : Cond.selects M'.1.cls M'.1 M'.1 ∈ Ts) (h4 : Cond.initialized M'.1.cls ∈ Ts) {r : Nat} (hr : r < 6) (hcl : M'.1.cls = "java/lang/String") (hcall : mx_Met xs l P G D ta base sk dd a (.retAddr r :: as) h rv g) (hd : decode cc pc = .ok (.invokevirtual i, 3)) (k : mx_W p l e R s m args below meth c D ta base sk h0 nL Q (pc + 3) (ls) (rv.toList ++ st) (g)) : mx_W p l e R s m args below meth c D ta base sk h0 nL Q (pc) (ls) (as.reverse ++ .retAddr r :: st) (h) := by
  have X0 := X
  obtain ⟨⟨hx, hb, hml, hown, hts⟩, hini, hC, hz0, hsk, hWS, hGd, hfr, hlo⟩ := X
  simp only [mx_cal, Bool.and_eq_true, decide_eq_true_eq] at hcal
  obtain ⟨hnm, hmx⟩ := hcal
  have hmx := Nat.le_of_ble_eq_true hmx
  intro H locs lsC hR hS hl a1 a2
  obtain ⟨M, hM, hMet⟩ := hcall
  have hM0 : M = M' := Option.some.inj (hM.symm.trans hPM)
  subst hM0
  have hnext : ∀ U : State, U.heap = H → s.WarmedH U.vm → mx_Rl D ta base sk h U.heap ∧ mx_C xs D ta base sk U U.heap := fun U hU hW => ⟨by rw [hU]; exact hR, by rw [hU]; exact (hC.kept hS.2.1).warm hW⟩
  have hroom : (mx_room dd h g).frames + 1 ≤ R.frames ∧ 8 + (M.2.2.1 + 11) + (mx_room dd h g).locals ≤ R.locals := ⟨hfr, by show 8 + (M.2.2.1 + 11) + 36 * dd ≤ R.locals; omega⟩
  have hfit : h.length - h0.length + (g.length - h.length) ≤ R.cells ∧ mx_sz h - mx_sz h0 + (mx_sz g - mx_sz h) ≤ R.slots := by omega
  have e3 : h.length - h0.length + (g.length - h.length) = g.length - h0.length := by omega
  have e4 : mx_sz h - mx_sz h0 + (mx_sz g - mx_sz h) = mx_sz g - mx_sz h0 := by omega
  have hgo : ∀ (H1 : Heap) (locs1 : List Loc), mx_Rl D ta base sk g H1 → va_S (mx_A base) s.heap H1 locs1 → W p l e R s m args below meth c H1 locs1 (h.length - h0.length + (g.length - h.length)) (mx_sz h - mx_sz h0 + (mx_sz g - mx_sz h)) Q (F0 m (pc + 3) lsC ((rv.map (mx_cv base sk)).toList ++ st.map (mx_cv base sk))) := by
    intro H1 locs1 hR1 hS1
    have k2 := k H1 locs1 lsC hR1 hS1 hl (by omega) (by omega)
    rw [e3, e4]
    cases rv with
    | none => exact k2
    | some v => exact k2
  have hrm : 2 * (F0 m pc lsC ([] : List Value)).monitorRoom + ((st.map (mx_cv base sk)).map fun v => v.category).sum ≤ 8 := lv_room (by rw [mx_cats hsk]; exact hst)
  obtain ⟨q, e5, hO, -⟩ := hC.2.2.2.2.2.2.1 r hr
  refine mx_goon (rest := st.map (mx_cv base sk)) (va_runV (As := as.map (mx_cv base sk)) (b := q) (C := M.1.cls) ⟨hx, hb, hml, hown, hts⟩ hMet ⟨callB_of b hts (hGd _ _ hPM) rfl rfl rfl (hts _ h4) (hts _ h1) hnm hroom, hts _ h2, hts _ h3⟩ ⟨mx_blind, ?_, fun U hU hW => ⟨by rw [← e5]; rfl, hnext U hU hW⟩⟩ rfl (by rw [List.length_map]; exact hb2) hl.1 (by simp [mx_cv, e5]) hrm hd hfit) hS hgo
  rw [hcl]
  obtain ⟨cell, x1, x2, x3, -⟩ := va_O.kept hO hS.2.1
  exact ⟨cell, x1, x2, x3⟩
theorem sd_callS {pc : Nat} {ls : mx_L} {st : List Value} {h : mx_H} (X : mx_X xs P G p R s m args meth c y cc nL D ta base sk dd Ts h0) {M' : mx_M} {i b a : Nat} {as : List Value} {rv : Option Value} {g : mx_H} (hPM : P[a]? = some M') (hcal : mx_cal M' b = true) (hb2 : as.length = b) (hst : (st.map fun v => v.category).sum ≤ 8) (hg1 : h.length ≤ g.length) (hg2 : mx_sz h ≤ mx_sz g) (hc : g.length - h0.length ≤ R.cells) (hs : mx_sz g - mx_sz h0 ≤ R.slots) (h1 : Cond.methodLink y.cls i M'.1 ∈ Ts) (h2 : Cond.static M'.1 ∈ Ts) (h4 : Cond.initialized M'.1.cls ∈ Ts) (hcall : mx_Met xs l P G D ta base sk dd a as h rv g) (hd : decode cc pc = .ok (.invokestatic i, 3)) (k : mx_W p l e R s m args below meth c D ta base sk h0 nL Q (pc + 3) (ls) (rv.toList ++ st) (g)) : mx_W p l e R s m args below meth c D ta base sk h0 nL Q (pc) (ls) (as.reverse ++ st) (h) := by
  have X0 := X
  obtain ⟨⟨hx, hb, hml, hown, hts⟩, hini, hC, hz0, hsk, hWS, hGd, hfr, hlo⟩ := X
  simp only [mx_cal, Bool.and_eq_true, decide_eq_true_eq] at hcal
  obtain ⟨hnm, hmx⟩ := hcal
  have hmx := Nat.le_of_ble_eq_true hmx
  intro H locs lsC hR hS hl a1 a2
  obtain ⟨M, hM, hMet⟩ := hcall
  have hM0 : M = M' := Option.some.inj (hM.symm.trans hPM)
  subst hM0
  have hnext : ∀ U : State, U.heap = H → s.WarmedH U.vm → mx_Rl D ta base sk h U.heap ∧ mx_C xs D ta base sk U U.heap := fun U hU hW => ⟨by rw [hU]; exact hR, by rw [hU]; exact (hC.kept hS.2.1).warm hW⟩
  have hroom : (mx_room dd h g).frames + 1 ≤ R.frames ∧ 8 + (M.2.2.1 + 11) + (mx_room dd h g).locals ≤ R.locals := ⟨hfr, by show 8 + (M.2.2.1 + 11) + 36 * dd ≤ R.locals; omega⟩
  have hfit : h.length - h0.length + (g.length - h.length) ≤ R.cells ∧ mx_sz h - mx_sz h0 + (mx_sz g - mx_sz h) ≤ R.slots := by omega
  have e3 : h.length - h0.length + (g.length - h.length) = g.length - h0.length := by omega
  have e4 : mx_sz h - mx_sz h0 + (mx_sz g - mx_sz h) = mx_sz g - mx_sz h0 := by omega
  have hgo : ∀ (H1 : Heap) (locs1 : List Loc), mx_Rl D ta base sk g H1 → va_S (mx_A base) s.heap H1 locs1 → W p l e R s m args below meth c H1 locs1 (h.length - h0.length + (g.length - h.length)) (mx_sz h - mx_sz h0 + (mx_sz g - mx_sz h)) Q (F0 m (pc + 3) lsC ((rv.map (mx_cv base sk)).toList ++ st.map (mx_cv base sk))) := by
    intro H1 locs1 hR1 hS1
    have k2 := k H1 locs1 lsC hR1 hS1 hl (by omega) (by omega)
    rw [e3, e4]
    cases rv with
    | none => exact k2
    | some v => exact k2
  have hrm : 2 * (F0 m pc lsC ([] : List Value)).monitorRoom + ((st.map (mx_cv base sk)).map fun v => v.category).sum ≤ 8 := lv_room (by rw [mx_cats hsk]; exact hst)
  exact mx_goon (rest := st.map (mx_cv base sk)) (va_runS (As := as.map (mx_cv base sk)) ⟨hx, hb, hml, hown, hts⟩ hMet ⟨callB_of b hts (hGd _ _ hPM) rfl rfl rfl (hts _ h4) (hts _ h1) hnm hroom, hts _ h2⟩ ⟨mx_blind, fun U hU hW => ⟨rfl, hnext U hU hW⟩⟩ rfl (by rw [List.length_map]; exact hb2) hl.1 (by simp) hrm hd hfit) hS hgo
theorem sd_callSN {pc : Nat} {ls : mx_L} {st : List Value} {h : mx_H} (X : mx_X xs P G p R s m args meth c y cc nL D ta base sk dd Ts h0) {M' : mx_M} {i b a : Nat} {as : List Value} {rv : Option Value} {g : mx_H} (hPM : P[a]? = some M') (hcal : mx_cal M' b = true) (hb2 : as.length = b) (hst : (st.map fun v => v.category).sum ≤ 8) (hg1 : h.length ≤ g.length) (hg2 : mx_sz h ≤ mx_sz g) (hc : g.length - h0.length ≤ R.cells) (hs : mx_sz g - mx_sz h0 ≤ R.slots) (h1 : (y.cls, i, M'.1) ∈ mx_NM) (h2 : Cond.static M'.1 ∈ Ts) (h4 : Cond.initialized M'.1.cls ∈ Ts) (hcall : mx_Met xs l P G D ta base sk dd a as h rv g) (hd : decode cc pc = .ok (.invokestatic i, 3)) (k : mx_W p l e R s m args below meth c D ta base sk h0 nL Q (pc + 3) (ls) (rv.toList ++ st) (g)) : mx_W p l e R s m args below meth c D ta base sk h0 nL Q (pc) (ls) (as.reverse ++ st) (h) := by
  have X0 := X
  obtain ⟨⟨hx, hb, hml, hown, hts⟩, hini, hC, hz0, hsk, hWS, hGd, hfr, hlo⟩ := X
  simp only [mx_cal, Bool.and_eq_true, decide_eq_true_eq] at hcal
  obtain ⟨hnm, hmx⟩ := hcal
  have hmx := Nat.le_of_ble_eq_true hmx
  intro H locs lsC hR hS hl a1 a2
  obtain ⟨M, hM, hMet⟩ := hcall
  have hM0 : M = M' := Option.some.inj (hM.symm.trans hPM)
  subst hM0
  have hnext : ∀ U : State, U.heap = H → s.WarmedH U.vm → mx_Rl D ta base sk h U.heap ∧ mx_C xs D ta base sk U U.heap := fun U hU hW => ⟨by rw [hU]; exact hR, by rw [hU]; exact (hC.kept hS.2.1).warm hW⟩
  have hroom : (mx_room dd h g).frames + 1 ≤ R.frames ∧ 8 + (M.2.2.1 + 11) + (mx_room dd h g).locals ≤ R.locals := ⟨hfr, by show 8 + (M.2.2.1 + 11) + 36 * dd ≤ R.locals; omega⟩
  have hfit : h.length - h0.length + (g.length - h.length) ≤ R.cells ∧ mx_sz h - mx_sz h0 + (mx_sz g - mx_sz h) ≤ R.slots := by omega
  have e3 : h.length - h0.length + (g.length - h.length) = g.length - h0.length := by omega
  have e4 : mx_sz h - mx_sz h0 + (mx_sz g - mx_sz h) = mx_sz g - mx_sz h0 := by omega
  have hgo : ∀ (H1 : Heap) (locs1 : List Loc), mx_Rl D ta base sk g H1 → va_S (mx_A base) s.heap H1 locs1 → W p l e R s m args below meth c H1 locs1 (h.length - h0.length + (g.length - h.length)) (mx_sz h - mx_sz h0 + (mx_sz g - mx_sz h)) Q (F0 m (pc + 3) lsC ((rv.map (mx_cv base sk)).toList ++ st.map (mx_cv base sk))) := by
    intro H1 locs1 hR1 hS1
    have k2 := k H1 locs1 lsC hR1 hS1 hl (by omega) (by omega)
    rw [e3, e4]
    cases rv with
    | none => exact k2
    | some v => exact k2
  have hrm : 2 * (F0 m pc lsC ([] : List Value)).monitorRoom + ((st.map (mx_cv base sk)).map fun v => v.category).sum ≤ 8 := lv_room (by rw [mx_cats hsk]; exact hst)
  exact mx_goon (rest := st.map (mx_cv base sk)) (va_runSN (As := as.map (mx_cv base sk)) (host := "CreaseLines") ⟨hx, hb, hml, hown, hts⟩ hMet ⟨va_cnB b hts (hGd _ _ hPM) rfl rfl rfl (hC.2.1 _ h1) (hts _ h4) hnm hroom, hts _ h2, trivial⟩ ⟨mx_blind, fun U hU hW => ⟨rfl, hnext U hU hW⟩⟩ rfl (by rw [List.length_map]; exact hb2) hl.1 (by simp) hrm hd hfit) hS hgo
theorem sd_callI {pc : Nat} {ls : mx_L} {st : List Value} {h : mx_H} (X : mx_X xs P G p R s m args meth c y cc nL D ta base sk dd Ts h0) {M' : mx_M} {i b a : Nat} {as : List Value} {rv : Option Value} {g : mx_H} (hPM : P[a]? = some M') (hcal : mx_cal M' b = true) (hb2 : as.length = b) (hst : (st.map fun v => v.category).sum ≤ 8) (hg1 : h.length ≤ g.length) (hg2 : mx_sz h ≤ mx_sz g) (hc : g.length - h0.length ≤ R.cells) (hs : mx_sz g - mx_sz h0 ≤ R.slots) (hn0 : M'.1.name = "<init>") (hr0 : M'.2.2.2.1 = none) (h1 : Cond.methodLink y.cls i M'.1 ∈ Ts) (h2 : Cond.instanceMethod M'.1 ∈ Ts) (h4 : Cond.initialized M'.1.cls ∈ Ts) {r : Nat} (hcall : mx_Met xs l P G D ta base sk dd a (.ref r :: as) h rv g) (hd : decode cc pc = .ok (.invokespecial i, 3)) (k : mx_W p l e R s m args below meth c D ta base sk h0 nL Q (pc + 3) (ls) (rv.toList ++ st) (g)) : mx_W p l e R s m args below meth c D ta base sk h0 nL Q (pc) (ls) (as.reverse ++ .ref r :: st) (h) := by
  have X0 := X
  obtain ⟨⟨hx, hb, hml, hown, hts⟩, hini, hC, hz0, hsk, hWS, hGd, hfr, hlo⟩ := X
  simp only [mx_cal, Bool.and_eq_true, decide_eq_true_eq] at hcal
  obtain ⟨hnm, hmx⟩ := hcal
  have hmx := Nat.le_of_ble_eq_true hmx
  intro H locs lsC hR hS hl a1 a2
  obtain ⟨M, hM, hMet⟩ := hcall
  have hM0 : M = M' := Option.some.inj (hM.symm.trans hPM)
  subst hM0
  have hnext : ∀ U : State, U.heap = H → s.WarmedH U.vm → mx_Rl D ta base sk h U.heap ∧ mx_C xs D ta base sk U U.heap := fun U hU hW => ⟨by rw [hU]; exact hR, by rw [hU]; exact (hC.kept hS.2.1).warm hW⟩
  have hroom : (mx_room dd h g).frames + 1 ≤ R.frames ∧ 8 + (M.2.2.1 + 11) + (mx_room dd h g).locals ≤ R.locals := ⟨hfr, by show 8 + (M.2.2.1 + 11) + 36 * dd ≤ R.locals; omega⟩
  have hfit : h.length - h0.length + (g.length - h.length) ≤ R.cells ∧ mx_sz h - mx_sz h0 + (mx_sz g - mx_sz h) ≤ R.slots := by omega
  have e3 : h.length - h0.length + (g.length - h.length) = g.length - h0.length := by omega
  have e4 : mx_sz h - mx_sz h0 + (mx_sz g - mx_sz h) = mx_sz g - mx_sz h0 := by omega
  have hgo : ∀ (H1 : Heap) (locs1 : List Loc), mx_Rl D ta base sk g H1 → va_S (mx_A base) s.heap H1 locs1 → W p l e R s m args below meth c H1 locs1 (h.length - h0.length + (g.length - h.length)) (mx_sz h - mx_sz h0 + (mx_sz g - mx_sz h)) Q (F0 m (pc + 3) lsC ((rv.map (mx_cv base sk)).toList ++ st.map (mx_cv base sk))) := by
    intro H1 locs1 hR1 hS1
    have k2 := k H1 locs1 lsC hR1 hS1 hl (by omega) (by omega)
    rw [e3, e4]
    cases rv with
    | none => exact k2
    | some v => exact k2
  have hrm : 2 * (F0 m pc lsC ([] : List Value)).monitorRoom + ((st.map (mx_cv base sk)).map fun v => v.category).sum ≤ 8 := lv_room (by rw [mx_cats hsk]; exact hst)
  exact mx_goon (rest := st.map (mx_cv base sk)) (va_runI (As := as.map (mx_cv base sk)) (b := base + r) ⟨hx, hb, hml, hown, hts⟩ hMet ⟨callB_of b hts (hGd _ _ hPM) (by rw [hr0]) rfl rfl (hts _ h4) (hts _ h1) hnm hroom, hn0, hts _ h2⟩ ⟨mx_blind, fun U hU hW => ⟨rfl, hnext U hU hW⟩⟩ rfl (by rw [List.length_map]; exact hb2) hl.1 (by simp [mx_cv]) hrm hd hfit) hS hgo
theorem sd_callIN {pc : Nat} {ls : mx_L} {st : List Value} {h : mx_H} (X : mx_X xs P G p R s m args meth c y cc nL D ta base sk dd Ts h0) {M' : mx_M} {i b a : Nat} {as : List Value} {rv : Option Value} {g : mx_H} (hPM : P[a]? = some M') (hcal : mx_cal M' b = true) (hb2 : as.length = b) (hst : (st.map fun v => v.category).sum ≤ 8) (hg1 : h.length ≤ g.length) (hg2 : mx_sz h ≤ mx_sz g) (hc : g.length - h0.length ≤ R.cells) (hs : mx_sz g - mx_sz h0 ≤ R.slots) (hn0 : M'.1.name = "<init>") (hr0 : M'.2.2.2.1 = none) (h1 : (y.cls, i, M'.1) ∈ mx_NM) (h2 : Cond.instanceMethod M'.1 ∈ Ts) (h4 : Cond.initialized M'.1.cls ∈ Ts) {r : Nat} (hcall : mx_Met xs l P G D ta base sk dd a (.ref r :: as) h rv g) (hd : decode cc pc = .ok (.invokespecial i, 3)) (k : mx_W p l e R s m args below meth c D ta base sk h0 nL Q (pc + 3) (ls) (rv.toList ++ st) (g)) : mx_W p l e R s m args below meth c D ta base sk h0 nL Q (pc) (ls) (as.reverse ++ .ref r :: st) (h) := by
  have X0 := X
  obtain ⟨⟨hx, hb, hml, hown, hts⟩, hini, hC, hz0, hsk, hWS, hGd, hfr, hlo⟩ := X
  simp only [mx_cal, Bool.and_eq_true, decide_eq_true_eq] at hcal
  obtain ⟨hnm, hmx⟩ := hcal
  have hmx := Nat.le_of_ble_eq_true hmx
  intro H locs lsC hR hS hl a1 a2
  obtain ⟨M, hM, hMet⟩ := hcall
  have hM0 : M = M' := Option.some.inj (hM.symm.trans hPM)
  subst hM0
  have hnext : ∀ U : State, U.heap = H → s.WarmedH U.vm → mx_Rl D ta base sk h U.heap ∧ mx_C xs D ta base sk U U.heap := fun U hU hW => ⟨by rw [hU]; exact hR, by rw [hU]; exact (hC.kept hS.2.1).warm hW⟩
  have hroom : (mx_room dd h g).frames + 1 ≤ R.frames ∧ 8 + (M.2.2.1 + 11) + (mx_room dd h g).locals ≤ R.locals := ⟨hfr, by show 8 + (M.2.2.1 + 11) + 36 * dd ≤ R.locals; omega⟩
  have hfit : h.length - h0.length + (g.length - h.length) ≤ R.cells ∧ mx_sz h - mx_sz h0 + (mx_sz g - mx_sz h) ≤ R.slots := by omega
  have e3 : h.length - h0.length + (g.length - h.length) = g.length - h0.length := by omega
  have e4 : mx_sz h - mx_sz h0 + (mx_sz g - mx_sz h) = mx_sz g - mx_sz h0 := by omega
  have hgo : ∀ (H1 : Heap) (locs1 : List Loc), mx_Rl D ta base sk g H1 → va_S (mx_A base) s.heap H1 locs1 → W p l e R s m args below meth c H1 locs1 (h.length - h0.length + (g.length - h.length)) (mx_sz h - mx_sz h0 + (mx_sz g - mx_sz h)) Q (F0 m (pc + 3) lsC ((rv.map (mx_cv base sk)).toList ++ st.map (mx_cv base sk))) := by
    intro H1 locs1 hR1 hS1
    have k2 := k H1 locs1 lsC hR1 hS1 hl (by omega) (by omega)
    rw [e3, e4]
    cases rv with
    | none => exact k2
    | some v => exact k2
  have hrm : 2 * (F0 m pc lsC ([] : List Value)).monitorRoom + ((st.map (mx_cv base sk)).map fun v => v.category).sum ≤ 8 := lv_room (by rw [mx_cats hsk]; exact hst)
  exact mx_goon (rest := st.map (mx_cv base sk)) (va_runIN (As := as.map (mx_cv base sk)) (b := base + r) (host := "CreaseLines") ⟨hx, hb, hml, hown, hts⟩ hMet ⟨va_cnB b hts (hGd _ _ hPM) (by rw [hr0]) rfl rfl (hC.2.1 _ h1) (hts _ h4) hnm hroom, hn0, hts _ h2⟩ ⟨mx_blind, fun U hU hW => ⟨rfl, hnext U hU hW⟩⟩ rfl (by rw [List.length_map]; exact hb2) hl.1 (by simp [mx_cv]) hrm hd hfit) hS hgo
end MXU
end
section
/-! ===== a walk of the small machine is a walk of the JVM ===== -/
section MXV
variable {p : Program} {l : Launch} {e : Env} {R : Room} {s : State} {m : MethodId} {args : Array Value} {below : List Frame} {meth : Method} {c : Code} {Q : State → Prop}
variable {xs : List Int32} {P : List mx_M} {G : List Cond} {y : MethodName} {cc : ByteArray} {nL : Nat} {ret : Option FieldType} {D : va_G} {ta : Nat → ClassId} {base : Nat} {sk : Nat → Value} {dd : Nat} {Ts : List Cond} {h0 : mx_H}
theorem iv_gf5 {h : mx_H} {st : List Value} {a b : Nat} {f : List Value → mx_R} {q : Option Value × mx_H} (e : mx_gf h st a b 5 f = some q) : ∃ i rest, st = .retAddr i :: rest ∧ i < 6 ∧ f (.retAddr (100 + i) :: rest) = some q := by
  simp only [mx_gf] at e
  split at e
  · obtain ⟨h1, e⟩ := iv_bif e
    exact ⟨_, _, rfl, Nat.le_of_ble_eq_true h1, e⟩
  · cases e
theorem iv_gf6 {h : mx_H} {st : List Value} {a b : Nat} {f : List Value → mx_R} {q : Option Value × mx_H} (e : mx_gf h st a b 6 f = some q) : ∃ i rest, st = .retAddr i :: rest ∧ i < 6 ∧ f (.int 0 :: rest) = some q := by
  simp only [mx_gf] at e
  split at e
  · obtain ⟨h1, e⟩ := iv_bif e
    exact ⟨_, _, rfl, Nat.le_of_ble_eq_true h1, e⟩
  · cases e
set_option maxHeartbeats 4000000 in
set_option maxRecDepth 100000 in
theorem sd_fw (X : mx_X xs P G p R s m args meth c y cc nL D ta base sk dd Ts h0) {code : List mx_I} (hok : ∀ x ∈ code, mx_ok P y cc nL ret x = true) (hnd : ∀ x ∈ code, ∀ w ∈ mx_need P y.cls x, w ∈ Ts) {call : Nat → List Value → mx_H → mx_R} (hcm : ∀ j as h, mx_mo h (call j as h)) (hcall : ∀ j as g v g', call j as g = some (v, g') → mx_Met xs l P G D ta base sk dd j as g v g') {ct : Nat → mx_L → List Value → mx_H → mx_R} (hctm : ∀ pc ls st h, mx_mo h (ct pc ls st h)) {rv : Option Value} {h' : mx_H} (hcells : h'.length - h0.length ≤ R.cells) (hslots : mx_sz h' - mx_sz h0 ≤ R.slots)
    (hri : ∀ (pc : Nat) (ls : mx_L) (x : Int32), decode cc pc = .ok (.ireturn, 1) → rv = some (.int x) → (∃ ty, ret = some ty ∧ narrow ty (.int x) = .int x) → mx_W p l e R s m args below meth c D ta base sk h0 nL Q (pc) (ls) ([.int x]) (h'))
    (hra : ∀ (pc : Nat) (ls : mx_L) (v : Value), decode cc pc = .ok (.areturn, 1) → rv = some v → mx_isr v → (∃ ty, ret = some ty ∧ mx_isref ty = true) → mx_W p l e R s m args below meth c D ta base sk h0 nL Q (pc) (ls) ([v]) (h'))
    (hrv : ∀ (pc : Nat) (ls : mx_L), decode cc pc = .ok (.return_, 1) → rv = none → ret = none → mx_W p l e R s m args below meth c D ta base sk h0 nL Q (pc) (ls) ([]) (h'))
    (hct : ∀ (pc : Nat) (ls : mx_L) (st : List Value) (h : mx_H), ct pc ls st h = some (rv, h') → mx_W p l e R s m args below meth c D ta base sk h0 nL Q (pc) (ls) (st) (h)) :
    ∀ (k : Nat) (fi : Bool) (pc : Nat) (ls : mx_L) (st : List Value) (h : mx_H), mx_fw xs call code ct fi k pc ls st h = some (rv, h') → mx_W p l e R s m args below meth c D ta base sk h0 nL Q (pc) (ls) (st) (h)
  | 0, _, _, _, _, _, hq => by unfold mx_fw at hq; cases hq
  | k + 1, fi, pc, ls, st, h, hq => by
    have ih := sd_fw X hok hnd hcm hcall hctm hcells hslots hri hra hrv hct k
    unfold mx_fw at hq
    split at hq
    · cases hq
    · rename_i pc0 ins cut lv a b w u v cs hfind
      have hmem := List.mem_of_find?_eq_some hfind
      have hpc0 := List.find?_some hfind
      have hpc : pc0 = pc := Nat.eq_of_beq_eq_true hpc0
      subst hpc
      have ok := hok _ hmem
      have nd := hnd _ hmem
      clear hfind hmem hpc0
      cases hcut : (!fi && cut) with
      | true =>
        rw [hcut] at hq
        have k1 := hct _ _ _ _ hq
        intro H locs lsC hR hS hl a1 a2
        refine k1 H locs lsC hR hS ⟨hl.1, hl.2.1, fun q hq => ?_⟩ a1 a2
        obtain ⟨z, hz, rfl⟩ := List.mem_map.mp hq
        exact hl.2.2 _ (List.mem_map_of_mem (mx_nm_sub hz))
      | false =>
        rw [hcut] at hq
        simp only [cond_false] at hq
        unfold mx_ok at ok
        rw [Bool.and_eq_true] at ok
        obtain ⟨ok1, ok2⟩ := ok
        have hdec := of_decide_eq_true ok1
        cases ins with
        | iconst n =>
          (try dsimp only at hq)
          (try dsimp only at ok2)
          exact sd_iconst X (of_decide_eq_true ok2) hdec (ih _ _ _ _ _ hq)
        | bipush n =>
          (try dsimp only at hq)
          (try dsimp only at ok2)
          exact sd_bipush X (of_decide_eq_true ok2) hdec (ih _ _ _ _ _ hq)
        | sipush n =>
          (try dsimp only at hq)
          (try dsimp only at ok2)
          exact sd_sipush X (of_decide_eq_true ok2) hdec (ih _ _ _ _ _ hq)
        | ldc i =>
          (try dsimp only at hq)
          (try dsimp only at ok2)
          cases hw : Nat.beq w 0 with
          | true =>
            have e : w = 0 := Nat.eq_of_beq_eq_true hw
            subst e
            exact sd_ldc X (nd _ List.mem_cons_self) hdec (ih _ _ _ _ _ hq)
          | false =>
            simp only [hw, Bool.false_or, Bool.and_eq_true, decide_eq_true_eq, List.any_eq_true] at ok2
            simp only [hw, cond_false] at hq
            obtain ⟨ho, q, hm, h1, h2⟩ := ok2
            exact sd_ldcs X ho ⟨q, hm, Nat.eq_of_beq_eq_true h1, Nat.eq_of_beq_eq_true h2⟩ hdec (ih _ _ _ _ _ hq)
        | ldc_w i =>
          (try dsimp only at hq)
          (try dsimp only at ok2)
          exact sd_ldcw X (nd _ List.mem_cons_self) hdec (ih _ _ _ _ _ hq)
        | aconst_null =>
          (try dsimp only at hq)
          (try dsimp only at ok2)
          exact sd_null X hdec (ih _ _ _ _ _ hq)
        | iload_n n =>
          (try dsimp only at hq)
          (try dsimp only at ok2)
          have hz0 := iv_li hq
          clear hq
          obtain ⟨x, hv, hq⟩ := hz0
          exact sd_iload_n X hv hdec (ih _ _ _ _ _ hq)
        | iload n =>
          (try dsimp only at hq)
          (try dsimp only at ok2)
          have hz0 := iv_li hq
          clear hq
          obtain ⟨x, hv, hq⟩ := hz0
          exact sd_iload X hv hdec (ih _ _ _ _ _ hq)
        | aload_n n =>
          (try dsimp only at hq)
          (try dsimp only at ok2)
          have hz0 := iv_la hq
          clear hq
          obtain ⟨x, hv, hr, hq⟩ := hz0
          exact sd_aload_n X hv hr hdec (ih _ _ _ _ _ hq)
        | aload n =>
          (try dsimp only at hq)
          (try dsimp only at ok2)
          have hz0 := iv_la hq
          clear hq
          obtain ⟨x, hv, hr, hq⟩ := hz0
          exact sd_aload X hv hr hdec (ih _ _ _ _ _ hq)
        | istore_n n =>
          (try dsimp only at hq)
          (try dsimp only at ok2)
          have hz0 := iv_s1 hq
          clear hq
          obtain ⟨x, r, rfl, hq⟩ := hz0
          exact sd_istore_n X (Nat.le_of_ble_eq_true ok2) hdec (ih _ _ _ _ _ hq)
        | istore n =>
          (try dsimp only at hq)
          (try dsimp only at ok2)
          have hz0 := iv_s1 hq
          clear hq
          obtain ⟨x, r, rfl, hq⟩ := hz0
          exact sd_istore X (Nat.le_of_ble_eq_true ok2) hdec (ih _ _ _ _ _ hq)
        | astore_n n =>
          (try dsimp only at hq)
          (try dsimp only at ok2)
          have hz0 := iv_sa hq
          clear hq
          obtain ⟨x, r, rfl, hr, hq⟩ := hz0
          exact sd_astore_n X (Nat.le_of_ble_eq_true ok2) hr hdec (ih _ _ _ _ _ hq)
        | astore n =>
          (try dsimp only at hq)
          (try dsimp only at ok2)
          have hz0 := iv_sa hq
          clear hq
          obtain ⟨x, r, rfl, hr, hq⟩ := hz0
          exact sd_astore X (Nat.le_of_ble_eq_true ok2) hr hdec (ih _ _ _ _ _ hq)
        | iinc n d =>
          (try dsimp only at hq)
          (try dsimp only at ok2)
          simp only [Bool.and_eq_true, decide_eq_true_eq] at ok2
          have hz0 := iv_li hq
          clear hq
          obtain ⟨x, hv, hq⟩ := hz0
          exact sd_iinc X (Nat.le_of_ble_eq_true ok2.1) hv ok2.2 hdec (ih _ _ _ _ _ hq)
        | iadd =>
          (try dsimp only at hq)
          (try dsimp only at ok2)
          have hz0 := iv_s2 hq
          clear hq
          obtain ⟨x, z, r, rfl, hq⟩ := hz0
          exact sd_iadd X hdec (ih _ _ _ _ _ hq)
        | isub =>
          (try dsimp only at hq)
          (try dsimp only at ok2)
          have hz0 := iv_s2 hq
          clear hq
          obtain ⟨x, z, r, rfl, hq⟩ := hz0
          exact sd_isub X hdec (ih _ _ _ _ _ hq)
        | imul =>
          (try dsimp only at hq)
          (try dsimp only at ok2)
          have hz0 := iv_s2 hq
          clear hq
          obtain ⟨x, z, r, rfl, hq⟩ := hz0
          exact sd_imul X hdec (ih _ _ _ _ _ hq)
        | iand =>
          (try dsimp only at hq)
          (try dsimp only at ok2)
          have hz0 := iv_s2 hq
          clear hq
          obtain ⟨x, z, r, rfl, hq⟩ := hz0
          exact sd_iand X hdec (ih _ _ _ _ _ hq)
        | ior =>
          (try dsimp only at hq)
          (try dsimp only at ok2)
          have hz0 := iv_s2 hq
          clear hq
          obtain ⟨x, z, r, rfl, hq⟩ := hz0
          exact sd_ior X hdec (ih _ _ _ _ _ hq)
        | ixor =>
          (try dsimp only at hq)
          (try dsimp only at ok2)
          have hz0 := iv_s2 hq
          clear hq
          obtain ⟨x, z, r, rfl, hq⟩ := hz0
          exact sd_ixor X hdec (ih _ _ _ _ _ hq)
        | ishl =>
          (try dsimp only at hq)
          (try dsimp only at ok2)
          have hz0 := iv_s2 hq
          clear hq
          obtain ⟨x, z, r, rfl, hq⟩ := hz0
          exact sd_ishl X hdec (ih _ _ _ _ _ hq)
        | ishr =>
          (try dsimp only at hq)
          (try dsimp only at ok2)
          have hz0 := iv_s2 hq
          clear hq
          obtain ⟨x, z, r, rfl, hq⟩ := hz0
          exact sd_ishr X hdec (ih _ _ _ _ _ hq)
        | iushr =>
          (try dsimp only at hq)
          (try dsimp only at ok2)
          have hz0 := iv_s2 hq
          clear hq
          obtain ⟨x, z, r, rfl, hq⟩ := hz0
          exact sd_iushr X hdec (ih _ _ _ _ _ hq)
        | idiv =>
          (try dsimp only at hq)
          (try dsimp only at ok2)
          have hz0 := iv_s2 hq
          clear hq
          obtain ⟨x, z, r, rfl, hq⟩ := hz0
          split at hq
          · cases hq
          · rename_i hz
            exact sd_idiv X hz hdec (ih _ _ _ _ _ hq)
        | irem =>
          (try dsimp only at hq)
          (try dsimp only at ok2)
          have hz0 := iv_s2 hq
          clear hq
          obtain ⟨x, z, r, rfl, hq⟩ := hz0
          split at hq
          · cases hq
          · rename_i hz
            exact sd_irem X hz hdec (ih _ _ _ _ _ hq)
        | ineg =>
          (try dsimp only at hq)
          (try dsimp only at ok2)
          have hz0 := iv_s1 hq
          clear hq
          obtain ⟨x, r, rfl, hq⟩ := hz0
          exact sd_ineg X hdec (ih _ _ _ _ _ hq)
        | i2s =>
          (try dsimp only at hq)
          (try dsimp only at ok2)
          have hz0 := iv_s1 hq
          clear hq
          obtain ⟨x, r, rfl, hq⟩ := hz0
          exact sd_i2s X hdec (ih _ _ _ _ _ hq)
        | i2c =>
          (try dsimp only at hq)
          (try dsimp only at ok2)
          have hz0 := iv_s1 hq
          clear hq
          obtain ⟨x, r, rfl, hq⟩ := hz0
          exact sd_i2c X hdec (ih _ _ _ _ _ hq)
        | i2b =>
          (try dsimp only at hq)
          (try dsimp only at ok2)
          have hz0 := iv_s1 hq
          clear hq
          obtain ⟨x, r, rfl, hq⟩ := hz0
          exact sd_i2b X hdec (ih _ _ _ _ _ hq)
        | dup =>
          (try dsimp only at hq)
          (try dsimp only at ok2)
          have hz0 := iv_d1 hq
          clear hq
          obtain ⟨v, r, rfl, hv, hq⟩ := hz0
          exact sd_dup X (by rcases hv with ⟨x, rfl⟩ | ⟨x, rfl⟩ <;> rfl) hdec (ih _ _ _ _ _ hq)
        | pop =>
          (try dsimp only at hq)
          (try dsimp only at ok2)
          have hz0 := iv_d1 hq
          clear hq
          obtain ⟨v, r, rfl, hv, hq⟩ := hz0
          exact sd_pop X (by rcases hv with ⟨x, rfl⟩ | ⟨x, rfl⟩ <;> rfl) hdec (ih _ _ _ _ _ hq)
        | dup2 =>
          (try dsimp only at hq)
          (try dsimp only at ok2)
          have hz0 := iv_d2 hq
          clear hq
          obtain ⟨v, z, r, rfl, ⟨x, rfl⟩, hw, hq⟩ := hz0
          exact sd_dup2 X rfl (by rcases hw with ⟨x, rfl⟩ | ⟨x, rfl⟩ <;> rfl) hdec (ih _ _ _ _ _ hq)
        | goto off =>
          (try dsimp only at hq)
          (try dsimp only at ok2)
          exact sd_goto X (of_decide_eq_true ok2) hdec (ih _ _ _ _ _ hq)
        | if_icmp cd off =>
          (try dsimp only at hq)
          (try dsimp only at ok2)
          have hz0 := iv_s2 hq
          clear hq
          obtain ⟨x, z, r, rfl, hq⟩ := hz0
          exact sd_icmp X (of_decide_eq_true ok2) hdec hq (fun hq => ih _ _ _ _ _ hq) (fun hq => ih _ _ _ _ _ hq)
        | ifCond cd off =>
          (try dsimp only at hq)
          (try dsimp only at ok2)
          have hz0 := iv_s1 hq
          clear hq
          obtain ⟨x, r, rfl, hq⟩ := hz0
          exact sd_ifc X (of_decide_eq_true ok2) hdec hq (fun hq => ih _ _ _ _ _ hq) (fun hq => ih _ _ _ _ _ hq)
        | ifnull off =>
          (try dsimp only at hq)
          (try dsimp only at ok2)
          have hz0 := iv_sn hq
          clear hq
          rcases hz0 with ⟨r, rfl, hq⟩ | ⟨x, r, rfl, hq⟩
          · exact sd_ifnull0 (x := 0) X (of_decide_eq_true ok2) hdec (ih _ _ _ _ _ hq)
          · exact sd_ifnull1 X (of_decide_eq_true ok2) hdec (ih _ _ _ _ _ hq)
        | ifnonnull off =>
          (try dsimp only at hq)
          (try dsimp only at ok2)
          have hz0 := iv_sn hq
          clear hq
          rcases hz0 with ⟨r, rfl, hq⟩ | ⟨x, r, rfl, hq⟩
          · exact sd_ifnn0 (x := 0) X (of_decide_eq_true ok2) hdec (ih _ _ _ _ _ hq)
          · exact sd_ifnn1 X (of_decide_eq_true ok2) hdec (ih _ _ _ _ _ hq)
        | getfield i =>
          (try dsimp only at hq)
          (try dsimp only at ok2)
          match w, ok2, nd, hq with
          | 0, ok2, nd, hqq =>
            clear hq
            have hq := hqq
            clear hqq
            simp only [Bool.and_eq_true] at ok2
            have hz0 := iv_sr hq
            clear hq
            obtain ⟨r, rest, rfl, hq⟩ := hz0
            have hz0 := iv_gi hq
            clear hq
            obtain ⟨fs, x, he, hv, hq⟩ := hz0
            exact sd_get X (Nat.le_of_ble_eq_true ok2.1) (Nat.le_of_ble_eq_true ok2.2) (nd _ List.mem_cons_self) he hv hdec (ih _ _ _ _ _ hq)
          | 1, ok2, nd, hqq =>
            clear hq
            have hq := hqq
            clear hqq
            simp only [Bool.and_eq_true] at ok2
            have hz0 := iv_sr hq
            clear hq
            obtain ⟨r, rest, rfl, hq⟩ := hz0
            have hz0 := iv_gr hq
            clear hq
            obtain ⟨fs, x, he, hv, hq⟩ := hz0
            exact sd_get X (Nat.le_of_ble_eq_true ok2.1) (Nat.le_of_ble_eq_true ok2.2) (nd _ List.mem_cons_self) he hv hdec (ih _ _ _ _ _ hq)
          | 5, ok2, nd, hqq =>
            clear hq
            have hq := hqq
            clear hqq
            have hz0 := iv_gf5 hq
            clear hq
            obtain ⟨j, rest, rfl, hj, hq⟩ := hz0
            exact sd_sval X hj (nd _ List.mem_cons_self) hdec (ih _ _ _ _ _ hq)
          | 6, ok2, nd, hqq =>
            clear hq
            have hq := hqq
            clear hqq
            have hz0 := iv_gf6 hq
            clear hq
            obtain ⟨j, rest, rfl, hj, hq⟩ := hz0
            exact sd_scod X hj (nd _ List.mem_cons_self) hdec (ih _ _ _ _ _ hq)
          | 2, ok2, _, _ => cases ok2
          | 3, ok2, _, _ => cases ok2
          | 4, ok2, _, _ => cases ok2
          | w + 7, ok2, _, _ => cases ok2
        | putfield i =>
          (try dsimp only at hq)
          (try dsimp only at ok2)
          simp only [Bool.and_eq_true] at ok2
          obtain ⟨⟨⟨o1, o2⟩, o3⟩, o4⟩ := ok2
          have o1 := Nat.le_of_ble_eq_true o1
          have o2 := Nat.le_of_ble_eq_true o2
          match w, o3, hq with
          | 0, o3, hqq =>
            clear hq
            have hq := hqq
            clear hqq
            have o3 : mx_tyf a b = .int := of_decide_eq_true o3
            have hz0 := iv_ir hq
            clear hq
            obtain ⟨x, r, rest, rfl, hq⟩ := hz0
            have hz0 := iv_pt hq
            clear hq
            obtain ⟨fs, he, hl, hq⟩ := hz0
            exact sd_put X o1 o2 (nd _ List.mem_cons_self) o4 (by rw [o3]; rfl) (by rw [o3]; rfl) he hl hdec (ih _ _ _ _ _ hq)
          | 1, o3, hqq =>
            clear hq
            have hq := hqq
            clear hqq
            have hz0 := iv_rr hq
            clear hq
            obtain ⟨x, r, rest, rfl, hq⟩ := hz0
            have hz0 := iv_pt hq
            clear hq
            obtain ⟨fs, he, hl, hq⟩ := hz0
            exact sd_put X o1 o2 (nd _ List.mem_cons_self) o4 (by
              cases ht : mx_tyf a b with
              | object n => rfl
              | array t => rfl
              | _ => rw [ht] at o3; cases o3) (by
              cases ht : mx_tyf a b with
              | object n => rfl
              | array t => rfl
              | _ => rw [ht] at o3; cases o3) he hl hdec (ih _ _ _ _ _ hq)
          | w + 2, o3, hqq =>
            clear hq
            have hq := hqq
            clear hqq
            have o3 : mx_tyf a b = .boolean := of_decide_eq_true o3
            have hz0 := iv_ir hq
            clear hq
            obtain ⟨x, r, rest, rfl, hq⟩ := hz0
            unfold mx_pz at hq
            split at hq
            · rename_i hx
              have hz0 := iv_pt hq
              clear hq
              obtain ⟨fs, he, hl, hq⟩ := hz0
              refine sd_put X o1 o2 (nd _ List.mem_cons_self) o4 ?_ ?_ he hl hdec (ih _ _ _ _ _ hq)
              · rw [o3]; rcases hx with rfl | rfl <;> rfl
              · rw [o3]; rcases hx with rfl | rfl <;> rfl
            · cases hq
        | getstatic i =>
          (try dsimp only at hq)
          (try dsimp only at ok2)
          by_cases hv2 : v = 2
          · subst hv2
            have ok2 : (decide (y.cls = "CreaseLines$Leg") && Nat.beq i 30 && Nat.beq a 200 && Nat.beq w 0) = true := ok2
            simp only [Bool.and_eq_true, decide_eq_true_eq] at ok2
            obtain ⟨⟨⟨o1, o2⟩, o3⟩, o4⟩ := ok2
            have o2 : i = 30 := Nat.eq_of_beq_eq_true o2
            have o3 : a = 200 := Nat.eq_of_beq_eq_true o3
            have o4 : w = 0 := Nat.eq_of_beq_eq_true o4
            subst o2; subst o3; subst o4
            exact sd_getsN X o1 hdec (ih _ _ _ _ _ hq)
          · simp only [hv2, decide_false, cond_false] at ok2
            have nd3 : Cond.fieldLink y.cls i (mx_sta w a).1 (mx_sta w a).2.1 (mx_sta w a).2.2 ∈ Ts := by
              refine nd _ ?_
              simp [mx_need, hv2]
            refine sd_gets X nd3 ?_ hdec (ih _ _ _ _ _ hq)
            cases w with
            | zero =>
              simp only [mx_so, Bool.or_eq_true] at ok2
              rcases ok2 with (h1 | h1) | h1
              · exact Or.inl ⟨rfl, Or.inl (Nat.eq_of_beq_eq_true h1)⟩
              · exact Or.inl ⟨rfl, Or.inr (Or.inl (Nat.eq_of_beq_eq_true h1))⟩
              · exact Or.inl ⟨rfl, Or.inr (Or.inr (Nat.eq_of_beq_eq_true h1))⟩
            | succ w => exact Or.inr ⟨by omega, of_decide_eq_true ok2⟩
        | iaload =>
          (try dsimp only at hq)
          (try dsimp only at ok2)
          unfold mx_bl at hq
          split at hq
          · have hz0 := iv_ai hq
            clear hq
            obtain ⟨n, g, he, hin, hq⟩ := hz0
            exact sd_iald X he hin hdec (ih _ _ _ _ _ hq)
          · have hz0 := iv_ck hq
            clear hq
            obtain ⟨lx, hk, hin, hq⟩ := hz0
            exact sd_ci X hk hin hdec (ih _ _ _ _ _ hq)
          · cases hq
        | baload =>
          (try dsimp only at hq)
          (try dsimp only at ok2)
          unfold mx_bl at hq
          split at hq
          · have hz0 := iv_ai hq
            clear hq
            obtain ⟨n, g, he, hin, hq⟩ := hz0
            exact sd_zald X he hin hdec (ih _ _ _ _ _ hq)
          · have hz0 := iv_ck hq
            clear hq
            obtain ⟨lx, hk, hin, hq⟩ := hz0
            exact sd_cb X hk hin hdec (ih _ _ _ _ _ hq)
          · cases hq
        | caload =>
          (try dsimp only at hq)
          (try dsimp only at ok2)
          have hz0 := iv_ir hq
          clear hq
          obtain ⟨x, r, rest, rfl, hq⟩ := hz0
          have hz0 := iv_ai hq
          clear hq
          obtain ⟨n, g, he, hin, hq⟩ := hz0
          exact sd_cald X he hin hdec (ih _ _ _ _ _ hq)
        | iastore =>
          (try dsimp only at hq)
          (try dsimp only at ok2)
          have hz0 := iv_iir hq
          clear hq
          obtain ⟨x, j, r, rest, rfl, hq⟩ := hz0
          have hz0 := iv_as hq
          clear hq
          obtain ⟨n, g, he, hin, hq⟩ := hz0
          exact sd_iast X he hin hdec (ih _ _ _ _ _ hq)
        | bastore =>
          (try dsimp only at hq)
          (try dsimp only at ok2)
          have hz0 := iv_iir hq
          clear hq
          obtain ⟨x, j, r, rest, rfl, hq⟩ := hz0
          have hz0 := iv_as hq
          clear hq
          obtain ⟨n, g, he, hin, hq⟩ := hz0
          exact sd_zast X he hin hdec (ih _ _ _ _ _ hq)
        | castore =>
          (try dsimp only at hq)
          (try dsimp only at ok2)
          have hz0 := iv_iir hq
          clear hq
          obtain ⟨x, j, r, rest, rfl, hq⟩ := hz0
          have hz0 := iv_as hq
          clear hq
          obtain ⟨n, g, he, hin, hq⟩ := hz0
          exact sd_cast X he hin hdec (ih _ _ _ _ _ hq)
        | aaload =>
          (try dsimp only at hq)
          (try dsimp only at ok2)
          have hz0 := iv_ir hq
          clear hq
          obtain ⟨x, r, rest, rfl, hq⟩ := hz0
          have hz0 := iv_aa hq
          clear hq
          obtain ⟨tc, n, g, a2, he, ht, hin, hg, hq⟩ := hz0
          exact sd_aald X he ht hin hg hdec (ih _ _ _ _ _ hq)
        | aastore =>
          (try dsimp only at hq)
          (try dsimp only at ok2)
          have hz0 := iv_rir hq
          clear hq
          obtain ⟨x, j, r, rest, rfl, hq⟩ := hz0
          have hz0 := iv_at hq
          clear hq
          obtain ⟨tc, n, g, fs, he, hv, ht, hin, hq⟩ := hz0
          exact sd_aast X he hv ht hin hdec (ih _ _ _ _ _ hq)
        | arraylength =>
          (try dsimp only at hq)
          (try dsimp only at ok2)
          unfold mx_ln at hq
          split at hq
          · have hz0 := iv_al hq
            clear hq
            obtain ⟨tc, n, x, he, ht, hq⟩ := hz0
            exact sd_alen X he ht hdec (ih _ _ _ _ _ hq)
          · have hz0 := iv_cn hq
            clear hq
            obtain ⟨t, lx, hk, hq⟩ := hz0
            exact sd_cn X hk hdec (ih _ _ _ _ _ hq)
          · cases hq
        | new i =>
          (try dsimp only at hq)
          (try dsimp only at ok2)
          unfold mx_nw at hq
          have hm := mo_fw (xs := xs) (c := code) hcm hctm k _ _ _ _ _ _ _ hq
          have b1 := hm.1
          have b2 := hm.2
          rw [List.length_append] at b1
          exact sd_new X (Nat.le_of_ble_eq_true ok2) (nd _ List.mem_cons_self) (nd _ (List.mem_cons_of_mem _ List.mem_cons_self)) (nd _ (List.mem_cons_of_mem _ (List.mem_cons_of_mem _ List.mem_cons_self))) (by simp at b1; omega) (by omega) hdec (ih _ _ _ _ _ hq)
        | newarray t =>
          (try dsimp only at hq)
          (try dsimp only at ok2)
          have hz0 := iv_s1 hq
          clear hq
          obtain ⟨n, r, rfl, hq⟩ := hz0
          unfold mx_na at hq
          split at hq
          · rename_i hn
            have hm := mo_fw (xs := xs) (c := code) hcm hctm k _ _ _ _ _ _ _ hq
            have b1 := hm.1
            have b2 := hm.2
            rw [List.length_append] at b1
            rcases (of_decide_eq_true ok2 : (a = 0 ∧ t = .int) ∨ (a = 1 ∧ t = .boolean) ∨ (a = 2 ∧ t = .char)) with ⟨rfl, rfl⟩ | ⟨rfl, rfl⟩ | ⟨rfl, rfl⟩
            · exact sd_nai X (nd _ List.mem_cons_self) hn.1 hn.2 (by simp at b1; omega) (by omega) hdec (ih _ _ _ _ _ hq)
            · exact sd_naz X (nd _ List.mem_cons_self) hn.1 hn.2 (by simp at b1; omega) (by omega) hdec (ih _ _ _ _ _ hq)
            · exact sd_nac X (nd _ List.mem_cons_self) hn.1 hn.2 (by simp at b1; omega) (by omega) hdec (ih _ _ _ _ _ hq)
          · cases hq
        | anewarray i =>
          (try dsimp only at hq)
          (try dsimp only at ok2)
          have hz0 := iv_s1 hq
          clear hq
          obtain ⟨n, r, rfl, hq⟩ := hz0
          unfold mx_nq at hq
          split at hq
          · rename_i hn
            have hm := mo_fw (xs := xs) (c := code) hcm hctm k _ _ _ _ _ _ _ hq
            have b1 := hm.1
            have b2 := hm.2
            rw [List.length_append] at b1
            exact sd_nq X (of_decide_eq_true ok2) (nd _ List.mem_cons_self) hn.1 hn.2 (by simp at b1; omega) (by omega) hdec (ih _ _ _ _ _ hq)
          · cases hq
        | invokevirtual i =>
          (try dsimp only at hq)
          (try dsimp only at ok2)
          unfold mx_iv at hq
          split at hq
          · rename_i r rest hst
            have hz0 := iv_bif hq
            clear hq
            obtain ⟨hb1, hq⟩ := hz0
            simp only [Bool.and_eq_true] at hb1
            have hz0 := iv_cl hq
            clear hq
            obtain ⟨fs, he, hq⟩ := hz0
            have hz0 := iv_bk hq
            clear hq
            obtain ⟨rv2, g, hcl, hq⟩ := hz0
            have hmet := hcall _ _ _ _ _ hcl
            have hm1 := hcm _ _ _ _ _ hcl
            have hm2 := mo_fw (xs := xs) (c := code) hcm hctm k _ _ _ _ _ _ _ hq
            obtain ⟨M, hPM, -⟩ := id hmet
            simp only [hPM, Bool.and_eq_true] at ok2
            have nd2 : ∀ w ∈ ([.methodLink y.cls i M.1, .instanceMethod M.1, .selects M.1.cls M.1 M.1, .initialized M.1.cls] : List Cond), w ∈ Ts := fun w hw => nd w (by show w ∈ (match P[a]? with | some M => _ | none => _); rw [hPM]; exact hw)
            have est : st = (st.take b).reverse.reverse ++ .ref r :: rest := by rw [List.reverse_reverse, ← hst, List.take_append_drop]
            have elen : ((st.take b).reverse).length = b := by rw [List.length_reverse]; exact Nat.eq_of_beq_eq_true hb1.1.2
            have hu8 : u < 8 := Nat.le_of_ble_eq_true hb1.2
            have hu : u < 8 ∧ mx_RX u = M.1.cls := by
              have o2 := ok2.2
              split at o2
              · omega
              · simp only [Bool.and_eq_true, decide_eq_true_eq] at o2
                exact ⟨hu8, o2.2⟩
            rw [est]
            exact sd_callV X hPM ok2.1 elen (Nat.le_of_ble_eq_true hb1.1.1) hm1.1 hm1.2 (by omega) (by omega) (nd2 _ (by simp)) (nd2 _ (by simp)) (nd2 _ (by simp)) (nd2 _ (by simp)) hu.1 hu.2 he hmet hdec (ih _ _ _ _ _ hq)
          · rename_i r rest hst
            have hz0 := iv_bif hq
            clear hq
            obtain ⟨hb1, hq⟩ := hz0
            simp only [Bool.and_eq_true] at hb1
            have hz0 := iv_bk hq
            clear hq
            obtain ⟨rv2, g, hcl, hq⟩ := hz0
            have hmet := hcall _ _ _ _ _ hcl
            have hm1 := hcm _ _ _ _ _ hcl
            have hm2 := mo_fw (xs := xs) (c := code) hcm hctm k _ _ _ _ _ _ _ hq
            obtain ⟨M, hPM, -⟩ := id hmet
            simp only [hPM, Bool.and_eq_true] at ok2
            have hu : u = 99 := Nat.eq_of_beq_eq_true hb1.1.2
            subst hu
            have nd2 : ∀ w ∈ ([.methodLink y.cls i M.1, .instanceMethod M.1, .selects M.1.cls M.1 M.1, .initialized M.1.cls] : List Cond), w ∈ Ts := fun w hw => nd w (by show w ∈ (match P[a]? with | some M => _ | none => _); rw [hPM]; exact hw)
            have est : st = (st.take b).reverse.reverse ++ .retAddr r :: rest := by rw [List.reverse_reverse, ← hst, List.take_append_drop]
            have elen : ((st.take b).reverse).length = b := by rw [List.length_reverse]; exact Nat.eq_of_beq_eq_true hb1.1.1.2
            rw [est]
            exact sd_callT X hPM ok2.1 elen (Nat.le_of_ble_eq_true hb1.1.1.1) hm1.1 hm1.2 (by omega) (by omega) (nd2 _ (by simp)) (nd2 _ (by simp)) (nd2 _ (by simp)) (nd2 _ (by simp)) (Nat.le_of_ble_eq_true hb1.2) (of_decide_eq_true ok2.2) hmet hdec (ih _ _ _ _ _ hq)
          · cases hq
        | invokestatic i =>
          (try dsimp only at hq)
          (try dsimp only at ok2)
          cases hw : Nat.beq w 8 with
          | true =>
            have e : w = 8 := Nat.eq_of_beq_eq_true hw
            subst e
            have hz0 := iv_cps hq
            clear hq
            obtain ⟨n, dp, d, sp, sa, rest, rfl, hq⟩ := hz0
            have hz0 := iv_bif hq
            clear hq
            obtain ⟨hb1, hq⟩ := hz0
            have hz0 := iv_cp hq
            clear hq
            obtain ⟨n0, f0, n1, f1, e0, e1, c1, c2, c3, c4, c5, hq⟩ := hz0
            exact sd_cpy X (nd _ (by simp [mx_need])) (nd _ (by simp [mx_need])) (nd _ (by simp [mx_need])) (nd _ (by simp [mx_need])) e0 e1 c1 c2 c3 c4 c5 (Nat.le_of_ble_eq_true hb1) hdec (ih _ _ _ _ _ hq)
          | false =>
            simp only [hw, Bool.false_or] at ok2
            simp only [hw, cond_false] at hq
            have hz0 := iv_bif hq
            clear hq
            obtain ⟨hb1, hq⟩ := hz0
            simp only [Bool.and_eq_true] at hb1
            have hz0 := iv_bk hq
            clear hq
            obtain ⟨rv2, g, hcl, hq⟩ := hz0
            have hmet := hcall _ _ _ _ _ hcl
            have hm1 := hcm _ _ _ _ _ hcl
            have hm2 := mo_fw (xs := xs) (c := code) hcm hctm k _ _ _ _ _ _ _ hq
            obtain ⟨M, hPM, -⟩ := id hmet
            simp only [hPM, Bool.and_eq_true] at ok2
            have hw8 : ¬ w = 8 := fun e => by rw [e] at hw; cases hw
            have est : st = (st.take b).reverse.reverse ++ st.drop b := by rw [List.reverse_reverse, List.take_append_drop]
            have elen : ((st.take b).reverse).length = b := by rw [List.length_reverse]; exact Nat.eq_of_beq_eq_true hb1.2
            have nd2 : ∀ w' ∈ (bif decide (v = 1) then [.static M.1, .initialized M.1.cls] else [.methodLink y.cls i M.1, .static M.1, .initialized M.1.cls] : List Cond), w' ∈ Ts := fun w' hw' => nd w' (by
              show w' ∈ (match w with | 8 => _ | _ => (match P[a]? with | some M => _ | none => _))
              split
              · exact absurd rfl hw8
              · rw [hPM]; exact hw')
            rw [est]
            have ih2 := fun hq => ih false (pc0 + 3) ls (rv2.toList ++ st.drop b) g hq
            by_cases hv1 : v = 1
            · subst hv1
              exact sd_callSN X hPM ok2.1 elen (Nat.le_of_ble_eq_true hb1.1) hm1.1 hm1.2 (by omega) (by omega) (of_decide_eq_true ok2.2) (nd2 _ (by simp)) (nd2 _ (by simp)) hmet hdec (ih2 hq)
            · simp only [hv1, decide_false, cond_false] at nd2
              exact sd_callS X hPM ok2.1 elen (Nat.le_of_ble_eq_true hb1.1) hm1.1 hm1.2 (by omega) (by omega) (nd2 _ (by simp)) (nd2 _ (by simp)) (nd2 _ (by simp)) hmet hdec (ih2 hq)
        | invokespecial i =>
          (try dsimp only at hq)
          (try dsimp only at ok2)
          cases hw : Nat.beq w 9 with
          | true =>
            have e : w = 9 := Nat.eq_of_beq_eq_true hw
            subst e
            have hz0 := iv_sr hq
            clear hq
            obtain ⟨r, rest, rfl, hq⟩ := hz0
            have hz0 := iv_bif hq
            clear hq
            obtain ⟨hb1, hq⟩ := hz0
            exact sd_oinit X (nd _ (by simp [mx_need])) (nd _ (by simp [mx_need])) (nd _ (by simp [mx_need])) (Nat.le_of_ble_eq_true hb1) hdec (ih _ _ _ _ _ hq)
          | false =>
            simp only [hw, Bool.false_or] at ok2
            simp only [hw, cond_false] at hq
            unfold mx_is at hq
            split at hq
            · rename_i r rest hst
              have hz0 := iv_bif hq
              clear hq
              obtain ⟨hb1, hq⟩ := hz0
              simp only [Bool.and_eq_true] at hb1
              have hz0 := iv_bk hq
              clear hq
              obtain ⟨rv2, g, hcl, hq⟩ := hz0
              have hmet := hcall _ _ _ _ _ hcl
              have hm1 := hcm _ _ _ _ _ hcl
              have hm2 := mo_fw (xs := xs) (c := code) hcm hctm k _ _ _ _ _ _ _ hq
              obtain ⟨M, hPM, -⟩ := id hmet
              simp only [hPM, Bool.and_eq_true, decide_eq_true_eq] at ok2
              have hw9 : ¬ w = 9 := fun e => by rw [e] at hw; cases hw
              have est : st = (st.take b).reverse.reverse ++ .ref r :: rest := by rw [List.reverse_reverse, ← hst, List.take_append_drop]
              have elen : ((st.take b).reverse).length = b := by rw [List.length_reverse]; exact Nat.eq_of_beq_eq_true hb1.2
              have nd2 : ∀ w' ∈ (bif decide (v = 1) then [.instanceMethod M.1, .initialized M.1.cls] else [.methodLink y.cls i M.1, .instanceMethod M.1, .initialized M.1.cls] : List Cond), w' ∈ Ts := fun w' hw' => nd w' (by
                show w' ∈ (match w with | 9 => _ | _ => (match P[a]? with | some M => _ | none => _))
                split
                · exact absurd rfl hw9
                · rw [hPM]; exact hw')
              rw [est]
              by_cases hv1 : v = 1
              · subst hv1
                exact sd_callIN X hPM ok2.1.1.1 elen (Nat.le_of_ble_eq_true hb1.1) hm1.1 hm1.2 (by omega) (by omega) ok2.1.1.2 ok2.1.2 (of_decide_eq_true ok2.2) (nd2 _ (by simp)) (nd2 _ (by simp)) hmet hdec (ih _ _ _ _ _ hq)
              · simp only [hv1, decide_false, cond_false] at nd2
                exact sd_callI X hPM ok2.1.1.1 elen (Nat.le_of_ble_eq_true hb1.1) hm1.1 hm1.2 (by omega) (by omega) ok2.1.1.2 ok2.1.2 (nd2 _ (by simp)) (nd2 _ (by simp)) (nd2 _ (by simp)) hmet hdec (ih _ _ _ _ _ hq)
            · cases hq
        | ireturn =>
          (try dsimp only at hq)
          (try dsimp only at ok2)
          unfold mx_ri at hq
          split at hq
          · rename_i x
            match u, ok2, hq with
            | 0, ok2, hq => cases hq; exact hri _ _ _ hdec rfl ⟨.int, of_decide_eq_true ok2, rfl⟩
            | 1, ok2, hq =>
              simp only at hq
              split at hq
              · rename_i hx
                cases hq
                exact hri _ _ _ hdec rfl ⟨.boolean, of_decide_eq_true ok2, by rcases hx with rfl | rfl <;> rfl⟩
              · cases hq
            | 2, ok2, hq =>
              simp only at hq
              split at hq
              · rename_i hx
                cases hq
                exact hri _ _ _ hdec rfl ⟨.char, of_decide_eq_true ok2, by rw [← hx]; exact pk_nc x⟩
              · cases hq
            | u + 3, ok2, hq =>
              simp only at hq
              split at hq
              · rename_i hx
                cases hq
                exact hri _ _ _ hdec rfl ⟨.byte, of_decide_eq_true ok2, by rw [← hx]; exact pk_nb x⟩
              · cases hq
          · cases hq
        | areturn =>
          (try dsimp only at hq)
          (try dsimp only at ok2)
          have o2 : ∃ t, ret = some t ∧ mx_isref t = true := by
            revert ok2
            cases ret with
            | none => intro h; cases h
            | some t => intro h; exact ⟨t, rfl, h⟩
          unfold mx_ra at hq
          split at hq
          · cases hq; exact hra _ _ _ hdec rfl (Or.inl ⟨_, rfl⟩) o2
          · cases hq; exact hra _ _ _ hdec rfl (Or.inr (Or.inl rfl)) o2
          · cases hq; exact hra _ _ _ hdec rfl (Or.inr (Or.inr ⟨_, rfl⟩)) o2
          · cases hq
        | return_ =>
          (try dsimp only at hq)
          (try dsimp only at ok2)
          unfold mx_rv at hq
          split at hq
          · cases hq; exact hrv _ _ hdec rfl (of_decide_eq_true ok2)
          · cases hq
        | tableswitch d lo hi offs =>
          (try dsimp only at hq)
          (try dsimp only at ok2)
          simp only [Bool.and_eq_true, decide_eq_true_eq] at ok2
          have hz0 := iv_s1 hq
          clear hq
          obtain ⟨x, r, rfl, hq⟩ := hz0
          exact sd_tsw X ok2.1.1 ok2.1.2 ok2.2 hdec hq (fun t hq => ih _ _ _ _ _ hq) (fun hq => ih _ _ _ _ _ hq)
        | lookupswitch d ps =>
          (try dsimp only at hq)
          (try dsimp only at ok2)
          simp only [Bool.and_eq_true, decide_eq_true_eq] at ok2
          have hz0 := iv_s1 hq
          clear hq
          obtain ⟨x, r, rfl, hq⟩ := hz0
          exact sd_lsw X ok2.1.1 ok2.1.2 ok2.2 hdec hq (fun t hq => ih _ _ _ _ _ hq) (fun hq => ih _ _ _ _ _ hq)
        | _ => cases hq
end MXV
end
section
/-! ===== every answer of the small machine is a contract ===== -/
section MXY
variable {p : Program} {l : Launch} {e : Env} {R : Room} {s : State} {m : MethodId} {args : Array Value} {below : List Frame} {meth : Method} {c : Code} {Q : State → Prop}
variable {xs : List Int32} {P : List mx_M} {G : List Cond} {y : MethodName} {cc : ByteArray} {nL : Nat} {ret : Option FieldType} {D : va_G} {ta : Nat → ClassId} {base : Nat} {sk : Nat → Value} {dd : Nat} {Ts : List Cond} {h0 : mx_H}
theorem sd_rn (X : mx_X xs P G p R s m args meth c y cc nL D ta base sk dd Ts h0) {code : List mx_I} (hok : ∀ x ∈ code, mx_ok P y cc nL ret x = true) (hnd : ∀ x ∈ code, ∀ w ∈ mx_need P y.cls x, w ∈ Ts) {call : Nat → List Value → mx_H → mx_R} (hcm : ∀ j as h, mx_mo h (call j as h)) (hcall : ∀ j as g v g', call j as g = some (v, g') → mx_Met xs l P G D ta base sk dd j as g v g') {rv : Option Value} {h' : mx_H} (hcells : h'.length - h0.length ≤ R.cells) (hslots : mx_sz h' - mx_sz h0 ≤ R.slots)
    (hri : ∀ (pc : Nat) (ls : mx_L) (x : Int32), decode cc pc = .ok (.ireturn, 1) → rv = some (.int x) → (∃ ty, ret = some ty ∧ narrow ty (.int x) = .int x) → mx_W p l e R s m args below meth c D ta base sk h0 nL Q (pc) (ls) ([.int x]) (h'))
    (hra : ∀ (pc : Nat) (ls : mx_L) (v : Value), decode cc pc = .ok (.areturn, 1) → rv = some v → mx_isr v → (∃ ty, ret = some ty ∧ mx_isref ty = true) → mx_W p l e R s m args below meth c D ta base sk h0 nL Q (pc) (ls) ([v]) (h'))
    (hrv : ∀ (pc : Nat) (ls : mx_L), decode cc pc = .ok (.return_, 1) → rv = none → ret = none → mx_W p l e R s m args below meth c D ta base sk h0 nL Q (pc) (ls) ([]) (h')) :
    ∀ (n pc : Nat) (ls : mx_L) (st : List Value) (h : mx_H), mx_rn xs call code n pc ls st h = some (rv, h') → mx_W p l e R s m args below meth c D ta base sk h0 nL Q (pc) (ls) (st) (h)
  | 0, _, _, _, _, hq => by unfold mx_rn at hq; cases hq
  | n + 1, pc, ls, st, h, hq => by
    unfold mx_rn at hq
    exact sd_fw X hok hnd hcm hcall (mo_rn hcm n) hcells hslots hri hra hrv (sd_rn X hok hnd hcm hcall hcells hslots hri hra hrv n) _ _ _ _ _ _ hq
end MXY
theorem mx_sl_len {base : Nat} {sk : Nat → Value} (hs : ∀ i, sk i = .null ∨ ∃ a, sk i = .ref a) : ∀ as : List Value, (lg_sl (as.map (mx_cv base sk))).length = (lg_sl as).length
  | [] => rfl
  | v :: as => by
    have ih := mx_sl_len (base := base) hs as
    unfold lg_sl at ih ⊢
    simp only [List.map_cons, List.flatMap_cons, List.length_append, mx_cat hs]
    rw [ih]
    congr 1
    split <;> rfl
theorem mx_args {base : Nat} {sk : Nat → Value} (hs : ∀ i, sk i = .null ∨ ∃ a, sk i = .ref a) : ∀ (as : List Value) (i : Nat), lv_args i (as.map (mx_cv base sk)) = (lv_args i as).map (mx_g base sk)
  | [], _ => rfl
  | v :: as, i => by
    simp only [List.map_cons, lv_args, mx_cat hs]
    rw [mx_args hs as]
    rfl
/-- what the program's table must be for that: checked by the kernel, method by method -/
def mx_Pok (P : List mx_M) (G : List Cond) : Prop := (∀ w ∈ mx_WS, w ∈ G) ∧ (∀ w ∈ G, (w.onTables && w.keeps) = true ∨ ∃ ty, w = .arrayClass ty) ∧
  ∀ (j : Nat) (M : mx_M), P[j]? = some M → plainFor M.1 = true ∧ Cond.code M.1 M.2.1 M.2.2.1 M.2.2.2.1 ∈ G ∧ (∀ x ∈ M.2.2.2.2, mx_ok P M.1 M.2.1 M.2.2.1 M.2.2.2.1 x = true) ∧ (∀ x ∈ M.2.2.2.2, ∀ w ∈ mx_need P M.1.cls x, w ∈ G)
theorem mx_good {P : List mx_M} {G Ts : List Cond} (hP : mx_Pok P G) (hG : ∀ w ∈ G, w ∈ Ts) : ∀ (j : Nat) (M : mx_M), P[j]? = some M → GoodIn Ts (Cond.code M.1 M.2.1 M.2.2.1 M.2.2.2.1 :: G) := by
  intro j M hM w hw
  rcases List.mem_cons.mp hw with rfl | hw
  · exact ⟨hG _ (hP.2.2 j M hM).2.1, hP.2.1 _ (hP.2.2 j M hM).2.1⟩
  · exact ⟨hG _ hw, hP.2.1 _ hw⟩
set_option maxHeartbeats 4000000 in
theorem mx_sound (xs : List Int32) (l : Launch) (P : List mx_M) (G : List Cond) (hP : mx_Pok P G) (D : va_G) (ta : Nat → ClassId) (base : Nat) (sk : Nat → Value) (hsk : ∀ i, sk i = .null ∨ ∃ a, sk i = .ref a) : ∀ (d j : Nat) (as : List Value) (h : mx_H) (rv : Option Value) (h' : mx_H), mx_ev xs P d j as h = some (rv, h') → mx_Met xs l P G D ta base sk d j as h rv h'
  | 0, _, _, _, _, _, hq => by unfold mx_ev at hq; cases hq
  | d + 1, j, as, h, rv, h', hq => by
    have ih := mx_sound xs l P G hP D ta base sk hsk d
    have hmo := mo_ev (xs := xs) (P := P) (d + 1) j as h rv h' hq
    unfold mx_ev at hq
    split at hq
    · rename_i M hM
      obtain ⟨hlen, hq⟩ := iv_bif hq
      obtain ⟨hplain, hcode, hok, hnd⟩ := hP.2.2 j M hM
      refine ⟨M, hM, va_MetF (cc := M.2.1) (maxL := M.2.2.1) (ret := M.2.2.2.1) hplain rfl ?_⟩
      intro p e s m args below meth c s₁ B hml hv
      obtain ⟨rfl, hRl, hC⟩ := hv
      have hx := B.exec
      have hb := B.bytes
      have hr := B.returns
      have hts := atoms_spec (ws := Cond.code M.1 M.2.1 M.2.2.1 M.2.2.2.1 :: G) B.pre
      have hown : s.vm.findClass M.1.cls = some m.cls := findClass_of_methodNamed B.named
      have hlocks := B.notSynchronized
      have hin : meth.name = M.1.name := (name_of_methodNamed B.named B.method).1
      have X : mx_X xs P G p (mx_room (d + 1) h h') s m (as.map (mx_cv base sk)).toArray meth c M.1 M.2.1 M.2.2.1 D ta base sk d (Cond.code M.1 M.2.1 M.2.2.1 M.2.2.2.1 :: G) h := by
        refine ⟨⟨hx, hb, hml, hown, hts⟩, fun e => hin.trans e, hC, hRl.1, hsk, fun w hw => List.mem_cons_of_mem _ (hP.1 w hw), mx_good hP (fun w hw => List.mem_cons_of_mem _ hw), Nat.le_refl _, Nat.le_refl _⟩
      have hW := sd_rn (l := l) (e := e) (below := below) (Q := MQ below (mx_Qc D ta base sk rv h') (as.map (mx_cv base sk)).toArray s (h'.length - h.length) (mx_sz h' - mx_sz h) (mx_A base)) X hok (fun x hx w hw => List.mem_cons_of_mem _ (hnd x hx w hw)) (mo_ev (xs := xs) (P := P) d) (fun j as g v g' hg => ih j as g v g' hg) (rv := rv) (h' := h') (Nat.le_refl _) (Nat.le_refl _) ?_ ?_ ?_ mx_N 0 (lv_args 0 as) [] h hq
      · have hl := lv_entry (as.map (mx_cv base sk)) (n := M.2.2.1) (by rw [mx_sl_len hsk]; exact Nat.le_of_ble_eq_true hlen)
        rw [mx_args hsk] at hl
        rw [lg_entry_eq]
        have hW2 := hW s.heap [] _ hRl va_S.rf hl (Nat.le_refl _) (Nat.le_refl _)
        rw [Nat.sub_self, Nat.sub_self] at hW2
        exact hW2
      · intro pc ls x hd he hty
        subst he
        obtain ⟨ty, h1, h2⟩ := hty
        intro H locs lsC hR hS hl a1 a2
        exact W.zret hx hb (hr.trans h1) h2 (fun t ht hW => ⟨rfl, by rw [ht]; exact hR, hS.F ht⟩) hS.2.2 hd
      · intro pc ls v hd he hv hty
        subst he
        obtain ⟨ty, h1, h2⟩ := hty
        intro H locs lsC hR hS hl a1 a2
        refine W.aret hx hb (hr.trans h1) ?_ (isr_cv hsk hv) (fun t ht hW => ⟨rfl, by rw [ht]; exact hR, hS.F ht⟩) hS.2.2 hd
        cases ty with
        | object n => exact Or.inl ⟨n, rfl⟩
        | array t => exact Or.inr ⟨t, rfl⟩
        | _ => cases h2
      · intro pc ls hd he h1
        subst he
        intro H locs lsC hR hS hl a1 a2
        exact W.vret hx hb (hr.trans h1) (fun t ht hW => ⟨rfl, by rw [ht]; exact hR, hS.F ht⟩) hS.2.2 hd
    · cases hq
end
section
/-! ===== the program: printed by wip/whole/gen3.py out of the claim's own names ===== -/
def kk_J9_floorMod_7cf53 : List mx_I := [
  (0, .iload_n 0, false, [], 0, 0, 0, 0, 0, []),
  (1, .iload_n 1, false, [], 0, 0, 0, 0, 0, []),
  (2, .irem, false, [], 0, 0, 0, 0, 0, []),
  (3, .istore_n 2, false, [], 0, 0, 0, 0, 0, []),
  (4, .iload_n 0, false, [], 0, 0, 0, 0, 0, []),
  (5, .iload_n 1, false, [], 0, 0, 0, 0, 0, []),
  (6, .ixor, false, [], 0, 0, 0, 0, 0, []),
  (7, .ifCond .ge 11, false, [], 18, 0, 0, 0, 0, []),
  (10, .iload_n 2, false, [], 0, 0, 0, 0, 0, []),
  (11, .ifCond .eq 7, false, [], 18, 0, 0, 0, 0, []),
  (14, .iload_n 2, false, [], 0, 0, 0, 0, 0, []),
  (15, .iload_n 1, false, [], 0, 0, 0, 0, 0, []),
  (16, .iadd, false, [], 0, 0, 0, 0, 0, []),
  (17, .ireturn, false, [], 0, 0, 0, 0, 0, []),
  (18, .iload_n 2, false, [], 0, 0, 0, 0, 0, []),
  (19, .ireturn, false, [], 0, 0, 0, 0, 0, [])]
def kk_J9_abs_0f7a4 : List mx_I := [
  (0, .iload_n 0, false, [], 0, 0, 0, 0, 0, []),
  (1, .ifCond .ge 8, false, [], 9, 0, 0, 0, 0, []),
  (4, .iload_n 0, false, [], 0, 0, 0, 0, 0, []),
  (5, .ineg, false, [], 0, 0, 0, 0, 0, []),
  (6, .goto 4, false, [], 10, 0, 0, 0, 0, []),
  (9, .iload_n 0, false, [], 0, 0, 0, 0, 0, []),
  (10, .ireturn, false, [], 0, 0, 0, 0, 0, [])]
def kk_J9_max_7cf53 : List mx_I := [
  (0, .iload_n 0, false, [], 0, 0, 0, 0, 0, []),
  (1, .iload_n 1, false, [], 0, 0, 0, 0, 0, []),
  (2, .if_icmp .lt 7, false, [], 9, 0, 0, 0, 0, []),
  (5, .iload_n 0, false, [], 0, 0, 0, 0, 0, []),
  (6, .goto 4, false, [], 10, 0, 0, 0, 0, []),
  (9, .iload_n 1, false, [], 0, 0, 0, 0, 0, []),
  (10, .ireturn, false, [], 0, 0, 0, 0, 0, [])]
def kk_J9_min_7cf53 : List mx_I := [
  (0, .iload_n 0, false, [], 0, 0, 0, 0, 0, []),
  (1, .iload_n 1, false, [], 0, 0, 0, 0, 0, []),
  (2, .if_icmp .gt 7, false, [], 9, 0, 0, 0, 0, []),
  (5, .iload_n 0, false, [], 0, 0, 0, 0, 0, []),
  (6, .goto 4, false, [], 10, 0, 0, 0, 0, []),
  (9, .iload_n 1, false, [], 0, 0, 0, 0, 0, []),
  (10, .ireturn, false, [], 0, 0, 0, 0, 0, [])]
def kk_J6_bitCount_0f7a4 : List mx_I := [
  (0, .iload_n 0, false, [], 0, 0, 0, 0, 0, []),
  (1, .iload_n 0, false, [], 0, 0, 0, 0, 0, []),
  (2, .iconst 1, false, [], 0, 0, 0, 0, 1, []),
  (3, .iushr, false, [], 0, 0, 0, 0, 0, []),
  (4, .ldc_w 265, false, [], 0, 0, 0, 0, 1431655765, []),
  (7, .iand, false, [], 0, 0, 0, 0, 0, []),
  (8, .isub, false, [], 0, 0, 0, 0, 0, []),
  (9, .istore_n 0, false, [], 0, 0, 0, 0, 0, []),
  (10, .iload_n 0, false, [], 0, 0, 0, 0, 0, []),
  (11, .ldc_w 266, false, [], 0, 0, 0, 0, 858993459, []),
  (14, .iand, false, [], 0, 0, 0, 0, 0, []),
  (15, .iload_n 0, false, [], 0, 0, 0, 0, 0, []),
  (16, .iconst 2, false, [], 0, 0, 0, 0, 2, []),
  (17, .iushr, false, [], 0, 0, 0, 0, 0, []),
  (18, .ldc_w 266, false, [], 0, 0, 0, 0, 858993459, []),
  (21, .iand, false, [], 0, 0, 0, 0, 0, []),
  (22, .iadd, false, [], 0, 0, 0, 0, 0, []),
  (23, .istore_n 0, false, [], 0, 0, 0, 0, 0, []),
  (24, .iload_n 0, false, [], 0, 0, 0, 0, 0, []),
  (25, .iload_n 0, false, [], 0, 0, 0, 0, 0, []),
  (26, .iconst 4, false, [], 0, 0, 0, 0, 4, []),
  (27, .iushr, false, [], 0, 0, 0, 0, 0, []),
  (28, .iadd, false, [], 0, 0, 0, 0, 0, []),
  (29, .ldc_w 267, false, [], 0, 0, 0, 0, 252645135, []),
  (32, .iand, false, [], 0, 0, 0, 0, 0, []),
  (33, .istore_n 0, false, [], 0, 0, 0, 0, 0, []),
  (34, .iload_n 0, false, [], 0, 0, 0, 0, 0, []),
  (35, .iload_n 0, false, [], 0, 0, 0, 0, 0, []),
  (36, .bipush 8, false, [], 0, 0, 0, 0, 8, []),
  (38, .iushr, false, [], 0, 0, 0, 0, 0, []),
  (39, .iadd, false, [], 0, 0, 0, 0, 0, []),
  (40, .istore_n 0, false, [], 0, 0, 0, 0, 0, []),
  (41, .iload_n 0, false, [], 0, 0, 0, 0, 0, []),
  (42, .iload_n 0, false, [], 0, 0, 0, 0, 0, []),
  (43, .bipush 16, false, [], 0, 0, 0, 0, 16, []),
  (45, .iushr, false, [], 0, 0, 0, 0, 0, []),
  (46, .iadd, false, [], 0, 0, 0, 0, 0, []),
  (47, .istore_n 0, false, [], 0, 0, 0, 0, 0, []),
  (48, .iload_n 0, false, [], 0, 0, 0, 0, 0, []),
  (49, .bipush 63, false, [], 0, 0, 0, 0, 63, []),
  (51, .iand, false, [], 0, 0, 0, 0, 0, []),
  (52, .ireturn, false, [], 0, 0, 0, 0, 0, [])]
def kk_J7_fill_53178 : List mx_I := [
  (0, .iconst 0, false, [], 0, 0, 0, 0, 0, []),
  (1, .istore_n 2, false, [], 0, 0, 0, 0, 0, []),
  (2, .aload_n 0, false, [], 0, 0, 0, 0, 0, []),
  (3, .arraylength, false, [], 0, 0, 0, 0, 0, []),
  (4, .istore_n 3, false, [], 0, 0, 0, 0, 0, []),
  (5, .iload_n 2, true, [0, 1, 2, 3], 0, 0, 0, 0, 0, []),
  (6, .iload_n 3, false, [], 0, 0, 0, 0, 0, []),
  (7, .if_icmp .ge 13, false, [], 20, 0, 0, 0, 0, []),
  (10, .aload_n 0, false, [], 0, 0, 0, 0, 0, []),
  (11, .iload_n 2, false, [], 0, 0, 0, 0, 0, []),
  (12, .iload_n 1, false, [], 0, 0, 0, 0, 0, []),
  (13, .iastore, false, [], 0, 0, 0, 0, 0, []),
  (14, .iinc 2 1, false, [], 0, 0, 0, 0, 1, []),
  (17, .goto (-12), false, [], 5, 0, 0, 0, 0, []),
  (20, .return_, false, [], 0, 0, 0, 0, 0, [])]
def kk_J7_copyOf_59c91 : List mx_I := [
  (0, .iload_n 1, false, [], 0, 0, 0, 0, 0, []),
  (1, .aload_n 0, false, [], 0, 0, 0, 0, 0, []),
  (2, .arraylength, false, [], 0, 0, 0, 0, 0, []),
  (3, .if_icmp .ne 11, false, [], 14, 0, 0, 0, 0, []),
  (6, .aload_n 0, false, [], 0, 0, 0, 0, 0, []),
  (7, .invokevirtual 316, false, [], 9999, 0, 0, 0, 0, []),
  (10, .checkcast 317, false, [], 0, 0, 0, 0, 0, []),
  (13, .areturn, false, [], 0, 0, 0, 0, 0, []),
  (14, .iload_n 1, false, [], 0, 0, 0, 0, 0, []),
  (15, .newarray .int, false, [], 0, 0, 0, 0, 0, []),
  (17, .astore_n 2, false, [], 0, 0, 0, 0, 0, []),
  (18, .aload_n 0, false, [], 0, 0, 0, 0, 0, []),
  (19, .iconst 0, false, [], 0, 0, 0, 0, 0, []),
  (20, .aload_n 2, false, [], 0, 0, 0, 0, 0, []),
  (21, .iconst 0, false, [], 0, 0, 0, 0, 0, []),
  (22, .aload_n 0, false, [], 0, 0, 0, 0, 0, []),
  (23, .arraylength, false, [], 0, 0, 0, 0, 0, []),
  (24, .iload_n 1, false, [], 0, 0, 0, 0, 0, []),
  (25, .invokestatic 304, false, [], 3, 2, 1, 0, 0, []),
  (28, .invokestatic 150, false, [], 0, 0, 8, 0, 0, []),
  (31, .aload_n 2, false, [], 0, 0, 0, 0, 0, []),
  (32, .areturn, false, [], 0, 0, 0, 0, 0, [])]
def kk_J0_length_8abf5 : List mx_I := [
  (0, .aload_n 0, false, [], 0, 0, 0, 0, 0, []),
  (1, .getfield 9, false, [], 0, 0, 5, 0, 0, []),
  (4, .arraylength, false, [], 0, 0, 0, 0, 0, []),
  (5, .aload_n 0, false, [], 0, 0, 0, 0, 0, []),
  (6, .invokevirtual 335, false, [], 11, 0, 1, 99, 0, []),
  (9, .ishr, false, [], 0, 0, 0, 0, 0, []),
  (10, .ireturn, false, [], 0, 0, 0, 0, 0, [])]
def kk_J0_charAt_5068e : List mx_I := [
  (0, .aload_n 0, false, [], 0, 0, 0, 0, 0, []),
  (1, .invokevirtual 492, false, [], 12, 0, 1, 99, 0, []),
  (4, .ifCond .eq 12, false, [], 16, 0, 0, 0, 0, []),
  (7, .aload_n 0, false, [], 0, 0, 0, 0, 0, []),
  (8, .getfield 9, false, [], 0, 0, 5, 0, 0, []),
  (11, .iload_n 1, false, [], 0, 0, 0, 0, 0, []),
  (12, .invokestatic 495, false, [], 14, 2, 1, 0, 0, []),
  (15, .ireturn, false, [], 0, 0, 0, 2, 0, []),
  (16, .aload_n 0, false, [], 0, 0, 0, 0, 0, []),
  (17, .getfield 9, false, [], 0, 0, 5, 0, 0, []),
  (20, .iload_n 1, false, [], 0, 0, 0, 0, 0, []),
  (21, .invokestatic 498, false, [], 9999, 0, 0, 0, 0, []),
  (24, .ireturn, false, [], 0, 0, 0, 2, 0, [])]
def kk_J0_indexOf_0f7a4 : List mx_I := [
  (0, .aload_n 0, false, [], 0, 0, 0, 0, 0, []),
  (1, .iload_n 1, false, [], 0, 0, 0, 0, 0, []),
  (2, .iconst 0, false, [], 0, 0, 0, 0, 0, []),
  (3, .invokevirtual 633, false, [], 10, 2, 1, 99, 0, []),
  (6, .ireturn, false, [], 0, 0, 0, 0, 0, [])]
def kk_J0_indexOf_7cf53 : List mx_I := [
  (0, .aload_n 0, false, [], 0, 0, 0, 0, 0, []),
  (1, .invokevirtual 492, false, [], 12, 0, 1, 99, 0, []),
  (4, .ifCond .eq 19, false, [], 23, 0, 0, 0, 0, []),
  (7, .aload_n 0, false, [], 0, 0, 0, 0, 0, []),
  (8, .getfield 9, false, [], 0, 0, 5, 0, 0, []),
  (11, .iload_n 1, false, [], 0, 0, 0, 0, 0, []),
  (12, .iload_n 2, false, [], 0, 0, 0, 0, 0, []),
  (13, .aload_n 0, false, [], 0, 0, 0, 0, 0, []),
  (14, .invokevirtual 505, false, [], 7, 0, 1, 99, 0, []),
  (17, .invokestatic 637, false, [], 16, 4, 1, 0, 0, []),
  (20, .goto 16, false, [], 36, 0, 0, 0, 0, []),
  (23, .aload_n 0, false, [], 0, 0, 0, 0, 0, []),
  (24, .getfield 9, false, [], 0, 0, 5, 0, 0, []),
  (27, .iload_n 1, false, [], 0, 0, 0, 0, 0, []),
  (28, .iload_n 2, false, [], 0, 0, 0, 0, 0, []),
  (29, .aload_n 0, false, [], 0, 0, 0, 0, 0, []),
  (30, .invokevirtual 505, false, [], 7, 0, 1, 99, 0, []),
  (33, .invokestatic 640, false, [], 9999, 0, 0, 0, 0, []),
  (36, .ireturn, false, [], 0, 0, 0, 0, 0, [])]
def kk_J0_coder_7d493 : List mx_I := [
  (0, .getstatic 38, false, [], 0, 0, 1, 0, 1, []),
  (3, .ifCond .eq 10, false, [], 13, 0, 0, 0, 0, []),
  (6, .aload_n 0, false, [], 0, 0, 0, 0, 0, []),
  (7, .getfield 15, false, [], 0, 0, 6, 0, 0, []),
  (10, .goto 4, false, [], 14, 0, 0, 0, 0, []),
  (13, .iconst 1, false, [], 0, 0, 0, 0, 1, []),
  (14, .ireturn, false, [], 0, 0, 0, 3, 0, [])]
def kk_J0_isLatin1_aae02 : List mx_I := [
  (0, .getstatic 38, false, [], 0, 0, 1, 0, 1, []),
  (3, .ifCond .eq 14, false, [], 17, 0, 0, 0, 0, []),
  (6, .aload_n 0, false, [], 0, 0, 0, 0, 0, []),
  (7, .getfield 15, false, [], 0, 0, 6, 0, 0, []),
  (10, .ifCond .ne 7, false, [], 17, 0, 0, 0, 0, []),
  (13, .iconst 1, false, [], 0, 0, 0, 0, 1, []),
  (14, .goto 4, false, [], 18, 0, 0, 0, 0, []),
  (17, .iconst 0, false, [], 0, 0, 0, 0, 0, []),
  (18, .ireturn, false, [], 0, 0, 0, 1, 0, [])]
def kk_J0_checkIndex_df160 : List mx_I := [
  (0, .iload_n 0, false, [], 0, 0, 0, 0, 0, []),
  (1, .iload_n 1, false, [], 0, 0, 0, 0, 0, []),
  (2, .getstatic 1053, false, [], 999, 0, 0, 0, 0, []),
  (5, .invokestatic 1059, false, [], 18, 3, 1, 0, 0, []),
  (8, .pop, false, [], 0, 0, 0, 0, 0, []),
  (9, .return_, false, [], 0, 0, 0, 0, 0, [])]
def kk_J1_charAt_3b067 : List mx_I := [
  (0, .iload_n 1, false, [], 0, 0, 0, 0, 0, []),
  (1, .aload_n 0, false, [], 0, 0, 0, 0, 0, []),
  (2, .arraylength, false, [], 0, 0, 0, 0, 0, []),
  (3, .invokestatic 9, false, [], 13, 2, 0, 0, 0, []),
  (6, .aload_n 0, false, [], 0, 0, 0, 0, 0, []),
  (7, .iload_n 1, false, [], 0, 0, 0, 0, 0, []),
  (8, .baload, false, [], 0, 0, 0, 0, 0, []),
  (9, .sipush 255, false, [], 0, 0, 0, 0, 255, []),
  (12, .iand, false, [], 0, 0, 0, 0, 0, []),
  (13, .i2c, false, [], 0, 0, 0, 0, 0, []),
  (14, .ireturn, false, [], 0, 0, 0, 2, 0, [])]
def kk_J1_canEncode_9a6ad : List mx_I := [
  (0, .iload_n 0, false, [], 0, 0, 0, 0, 0, []),
  (1, .ifCond .lt 14, false, [], 15, 0, 0, 0, 0, []),
  (4, .iload_n 0, false, [], 0, 0, 0, 0, 0, []),
  (5, .sipush 255, false, [], 0, 0, 0, 0, 255, []),
  (8, .if_icmp .gt 7, false, [], 15, 0, 0, 0, 0, []),
  (11, .iconst 1, false, [], 0, 0, 0, 0, 1, []),
  (12, .goto 4, false, [], 16, 0, 0, 0, 0, []),
  (15, .iconst 0, false, [], 0, 0, 0, 0, 0, []),
  (16, .ireturn, false, [], 0, 0, 0, 1, 0, [])]
def kk_J1_indexOf_4cfef : List mx_I := [
  (0, .iload_n 1, false, [], 0, 0, 0, 0, 0, []),
  (1, .invokestatic 88, false, [], 15, 1, 1, 0, 0, []),
  (4, .ifCond .ne 5, false, [], 9, 0, 0, 0, 0, []),
  (7, .iconst (-1), false, [], 0, 0, 0, 0, (-1), []),
  (8, .ireturn, false, [], 0, 0, 0, 0, 0, []),
  (9, .iload_n 2, false, [], 0, 0, 0, 0, 0, []),
  (10, .iconst 0, false, [], 0, 0, 0, 0, 0, []),
  (11, .invokestatic 92, false, [], 2, 2, 1, 0, 0, []),
  (14, .istore_n 2, false, [], 0, 0, 0, 0, 0, []),
  (15, .iload_n 3, false, [], 0, 0, 0, 0, 0, []),
  (16, .aload_n 0, false, [], 0, 0, 0, 0, 0, []),
  (17, .arraylength, false, [], 0, 0, 0, 0, 0, []),
  (18, .invokestatic 38, false, [], 3, 2, 1, 0, 0, []),
  (21, .istore_n 3, false, [], 0, 0, 0, 0, 0, []),
  (22, .iload_n 2, false, [], 0, 0, 0, 0, 0, []),
  (23, .iload_n 3, false, [], 0, 0, 0, 0, 0, []),
  (24, .if_icmp .lt 5, false, [], 29, 0, 0, 0, 0, []),
  (27, .iconst (-1), false, [], 0, 0, 0, 0, (-1), []),
  (28, .ireturn, false, [], 0, 0, 0, 0, 0, []),
  (29, .aload_n 0, false, [], 0, 0, 0, 0, 0, []),
  (30, .iload_n 1, false, [], 0, 0, 0, 0, 0, []),
  (31, .iload_n 2, false, [], 0, 0, 0, 0, 0, []),
  (32, .iload_n 3, false, [], 0, 0, 0, 0, 0, []),
  (33, .invokestatic 95, false, [], 17, 4, 1, 0, 0, []),
  (36, .ireturn, false, [], 0, 0, 0, 0, 0, [])]
def kk_J1_indexOfChar_4cfef : List mx_I := [
  (0, .iload_n 1, false, [], 0, 0, 0, 0, 0, []),
  (1, .i2b, false, [], 0, 0, 0, 0, 0, []),
  (2, .istore 4, false, [], 0, 0, 0, 0, 0, []),
  (4, .iload_n 2, false, [], 0, 0, 0, 0, 0, []),
  (5, .istore 5, false, [], 0, 0, 0, 0, 0, []),
  (7, .iload 5, true, [0, 3, 4, 5], 0, 0, 0, 0, 0, []),
  (9, .iload_n 3, false, [], 0, 0, 0, 0, 0, []),
  (10, .if_icmp .ge 21, false, [], 31, 0, 0, 0, 0, []),
  (13, .aload_n 0, false, [], 0, 0, 0, 0, 0, []),
  (14, .iload 5, false, [], 0, 0, 0, 0, 0, []),
  (16, .baload, false, [], 0, 0, 0, 0, 0, []),
  (17, .iload 4, false, [], 0, 0, 0, 0, 0, []),
  (19, .if_icmp .ne 6, false, [], 25, 0, 0, 0, 0, []),
  (22, .iload 5, false, [], 0, 0, 0, 0, 0, []),
  (24, .ireturn, false, [], 0, 0, 0, 0, 0, []),
  (25, .iinc 5 1, false, [], 0, 0, 0, 0, 1, []),
  (28, .goto (-21), false, [], 7, 0, 0, 0, 0, []),
  (31, .iconst (-1), false, [], 0, 0, 0, 0, (-1), []),
  (32, .ireturn, false, [], 0, 0, 0, 0, 0, [])]
def kk_J3_checkIndex_8e157 : List mx_I := [
  (0, .iload_n 0, false, [], 0, 0, 0, 0, 0, []),
  (1, .ifCond .lt 8, false, [], 9, 0, 0, 0, 0, []),
  (4, .iload_n 0, false, [], 0, 0, 0, 0, 0, []),
  (5, .iload_n 1, false, [], 0, 0, 0, 0, 0, []),
  (6, .if_icmp .lt 10, false, [], 16, 0, 0, 0, 0, []),
  (9, .aload_n 2, false, [], 0, 0, 0, 0, 0, []),
  (10, .iload_n 0, false, [], 0, 0, 0, 0, 0, []),
  (11, .iload_n 1, false, [], 0, 0, 0, 0, 0, []),
  (12, .invokestatic 95, false, [], 9999, 0, 0, 0, 0, []),
  (15, .athrow, false, [], 0, 0, 0, 0, 0, []),
  (16, .iload_n 0, false, [], 0, 0, 0, 0, 0, []),
  (17, .ireturn, false, [], 0, 0, 0, 0, 0, [])]
def kk_X0_init : List mx_I := [
  (0, .aload_n 0, false, [], 0, 0, 0, 0, 0, []),
  (1, .invokespecial 3, false, [], 0, 0, 9, 0, 0, []),
  (4, .aload_n 0, false, [], 0, 0, 0, 0, 0, []),
  (5, .bipush 10, false, [], 0, 0, 0, 0, 10, []),
  (7, .anewarray 9, false, [], 3, 0, 0, 0, 0, []),
  (10, .putfield 11, false, [], 0, 0, 1, 0, 0, []),
  (13, .aload_n 0, false, [], 0, 0, 0, 0, 0, []),
  (14, .iconst 0, false, [], 0, 0, 0, 0, 0, []),
  (15, .putfield 17, false, [], 0, 1, 0, 0, 0, []),
  (18, .aload_n 0, false, [], 0, 0, 0, 0, 0, []),
  (19, .iconst 4, false, [], 0, 0, 0, 0, 4, []),
  (20, .newarray .int, false, [], 0, 0, 0, 0, 0, []),
  (22, .dup, false, [], 0, 0, 0, 0, 0, []),
  (23, .iconst 0, false, [], 0, 0, 0, 0, 0, []),
  (24, .bipush 20, false, [], 0, 0, 0, 0, 20, []),
  (26, .iastore, false, [], 0, 0, 0, 0, 0, []),
  (27, .dup, false, [], 0, 0, 0, 0, 0, []),
  (28, .iconst 1, false, [], 0, 0, 0, 0, 1, []),
  (29, .iconst 1, false, [], 0, 0, 0, 0, 1, []),
  (30, .iastore, false, [], 0, 0, 0, 0, 0, []),
  (31, .dup, false, [], 0, 0, 0, 0, 0, []),
  (32, .iconst 2, false, [], 0, 0, 0, 0, 2, []),
  (33, .bipush 40, false, [], 0, 0, 0, 0, 40, []),
  (35, .iastore, false, [], 0, 0, 0, 0, 0, []),
  (36, .dup, false, [], 0, 0, 0, 0, 0, []),
  (37, .iconst 3, false, [], 0, 0, 0, 0, 3, []),
  (38, .bipush 60, false, [], 0, 0, 0, 0, 60, []),
  (40, .iastore, false, [], 0, 0, 0, 0, 0, []),
  (41, .putfield 21, false, [], 0, 2, 1, 0, 0, []),
  (44, .aload_n 0, false, [], 0, 0, 0, 0, 0, []),
  (45, .bipush 14, false, [], 0, 0, 0, 0, 14, []),
  (47, .anewarray 25, false, [], 6, 0, 0, 0, 0, []),
  (50, .putfield 27, false, [], 0, 3, 1, 0, 0, []),
  (53, .aload_n 0, false, [], 0, 0, 0, 0, 0, []),
  (54, .iconst 0, false, [], 0, 0, 0, 0, 0, []),
  (55, .putfield 31, false, [], 0, 4, 0, 0, 0, []),
  (58, .aload_n 0, false, [], 0, 0, 0, 0, 0, []),
  (59, .iconst 3, false, [], 0, 0, 0, 0, 3, []),
  (60, .newarray .int, false, [], 0, 0, 0, 0, 0, []),
  (62, .dup, false, [], 0, 0, 0, 0, 0, []),
  (63, .iconst 0, false, [], 0, 0, 0, 0, 0, []),
  (64, .ldc 34, false, [], 0, 0, 0, 0, (-1000000005), []),
  (66, .iastore, false, [], 0, 0, 0, 0, 0, []),
  (67, .dup, false, [], 0, 0, 0, 0, 0, []),
  (68, .iconst 1, false, [], 0, 0, 0, 0, 1, []),
  (69, .ldc 34, false, [], 0, 0, 0, 0, (-1000000005), []),
  (71, .iastore, false, [], 0, 0, 0, 0, 0, []),
  (72, .dup, false, [], 0, 0, 0, 0, 0, []),
  (73, .iconst 2, false, [], 0, 0, 0, 0, 2, []),
  (74, .ldc 34, false, [], 0, 0, 0, 0, (-1000000005), []),
  (76, .iastore, false, [], 0, 0, 0, 0, 0, []),
  (77, .putfield 35, false, [], 0, 5, 1, 0, 0, []),
  (80, .aload_n 0, false, [], 0, 0, 0, 0, 0, []),
  (81, .iconst 0, false, [], 0, 0, 0, 0, 0, []),
  (82, .putfield 38, false, [], 0, 6, 0, 0, 0, []),
  (85, .aload_n 0, false, [], 0, 0, 0, 0, 0, []),
  (86, .iconst 0, false, [], 0, 0, 0, 0, 0, []),
  (87, .putfield 41, false, [], 0, 7, 0, 0, 0, []),
  (90, .aload_n 0, false, [], 0, 0, 0, 0, 0, []),
  (91, .iconst 0, false, [], 0, 0, 0, 0, 0, []),
  (92, .putfield 44, false, [], 0, 8, 0, 0, 0, []),
  (95, .aload_n 0, false, [], 0, 0, 0, 0, 0, []),
  (96, .iconst 0, false, [], 0, 0, 0, 0, 0, []),
  (97, .putfield 47, false, [], 0, 9, 0, 0, 0, []),
  (100, .aload_n 0, false, [], 0, 0, 0, 0, 0, []),
  (101, .iconst 1, false, [], 0, 0, 0, 0, 1, []),
  (102, .putfield 50, false, [], 0, 10, 0, 0, 0, []),
  (105, .aload_n 0, false, [], 0, 0, 0, 0, 0, []),
  (106, .iconst 4, false, [], 0, 0, 0, 0, 4, []),
  (107, .newarray .int, false, [], 0, 0, 0, 0, 0, []),
  (109, .putfield 53, false, [], 0, 11, 1, 0, 0, []),
  (112, .aload_n 0, false, [], 0, 0, 0, 0, 0, []),
  (113, .bipush 96, false, [], 0, 0, 0, 0, 96, []),
  (115, .newarray .int, false, [], 0, 0, 0, 0, 0, []),
  (117, .putfield 56, false, [], 0, 12, 1, 0, 0, []),
  (120, .iconst 0, false, [], 0, 0, 0, 0, 0, []),
  (121, .istore_n 1, false, [], 0, 0, 0, 0, 0, []),
  (122, .iload_n 1, true, [0, 1], 0, 0, 0, 0, 0, []),
  (123, .bipush 10, false, [], 0, 0, 0, 0, 10, []),
  (125, .if_icmp .ge 22, false, [], 147, 0, 0, 0, 0, []),
  (128, .aload_n 0, false, [], 0, 0, 0, 0, 0, []),
  (129, .getfield 11, false, [], 0, 0, 1, 0, 0, []),
  (132, .iload_n 1, false, [], 0, 0, 0, 0, 0, []),
  (133, .new 9, false, [], 1, 0, 0, 0, 0, []),
  (136, .dup, false, [], 0, 0, 0, 0, 0, []),
  (137, .invokespecial 59, false, [], 41, 0, 0, 0, 1, []),
  (140, .aastore, false, [], 0, 0, 0, 0, 0, []),
  (141, .iinc 1 1, false, [], 0, 0, 0, 0, 1, []),
  (144, .goto (-22), false, [], 122, 0, 0, 0, 0, []),
  (147, .return_, false, [], 0, 0, 0, 0, 0, [])]
def kk_X0_takeOver : List mx_I := [
  (0, .aload_n 0, false, [], 0, 0, 0, 0, 0, []),
  (1, .aload_n 1, false, [], 0, 0, 0, 0, 0, []),
  (2, .getfield 17, false, [], 0, 1, 0, 0, 0, []),
  (5, .putfield 17, false, [], 0, 1, 0, 0, 0, []),
  (8, .iconst 0, false, [], 0, 0, 0, 0, 0, []),
  (9, .istore_n 2, false, [], 0, 0, 0, 0, 0, []),
  (10, .iload_n 2, true, [0, 1, 2], 0, 0, 0, 0, 0, []),
  (11, .aload_n 0, false, [], 0, 0, 0, 0, 0, []),
  (12, .getfield 17, false, [], 0, 1, 0, 0, 0, []),
  (15, .if_icmp .ge 24, false, [], 39, 0, 0, 0, 0, []),
  (18, .aload_n 0, false, [], 0, 0, 0, 0, 0, []),
  (19, .getfield 11, false, [], 0, 0, 1, 0, 0, []),
  (22, .iload_n 2, false, [], 0, 0, 0, 0, 0, []),
  (23, .aaload, false, [], 0, 0, 0, 0, 0, []),
  (24, .aload_n 1, false, [], 0, 0, 0, 0, 0, []),
  (25, .getfield 11, false, [], 0, 0, 1, 0, 0, []),
  (28, .iload_n 2, false, [], 0, 0, 0, 0, 0, []),
  (29, .aaload, false, [], 0, 0, 0, 0, 0, []),
  (30, .invokevirtual 60, false, [], 43, 1, 0, 1, 0, []),
  (33, .iinc 2 1, false, [], 0, 0, 0, 0, 1, []),
  (36, .goto (-26), false, [], 10, 0, 0, 0, 0, []),
  (39, .aload_n 1, false, [], 0, 0, 0, 0, 0, []),
  (40, .getfield 21, false, [], 0, 2, 1, 0, 0, []),
  (43, .iconst 0, false, [], 0, 0, 0, 0, 0, []),
  (44, .aload_n 0, false, [], 0, 0, 0, 0, 0, []),
  (45, .getfield 21, false, [], 0, 2, 1, 0, 0, []),
  (48, .iconst 0, false, [], 0, 0, 0, 0, 0, []),
  (49, .iconst 4, false, [], 0, 0, 0, 0, 4, []),
  (50, .invokestatic 64, false, [], 0, 0, 8, 0, 0, []),
  (53, .aload_n 0, false, [], 0, 0, 0, 0, 0, []),
  (54, .aload_n 1, false, [], 0, 0, 0, 0, 0, []),
  (55, .getfield 31, false, [], 0, 4, 0, 0, 0, []),
  (58, .putfield 31, false, [], 0, 4, 0, 0, 0, []),
  (61, .iconst 0, false, [], 0, 0, 0, 0, 0, []),
  (62, .istore_n 2, false, [], 0, 0, 0, 0, 0, []),
  (63, .iload_n 2, true, [0, 1, 2], 0, 0, 0, 0, 0, []),
  (64, .aload_n 0, false, [], 0, 0, 0, 0, 0, []),
  (65, .getfield 31, false, [], 0, 4, 0, 0, 0, []),
  (68, .if_icmp .ge 21, false, [], 89, 0, 0, 0, 0, []),
  (71, .aload_n 0, false, [], 0, 0, 0, 0, 0, []),
  (72, .getfield 27, false, [], 0, 3, 1, 0, 0, []),
  (75, .iload_n 2, false, [], 0, 0, 0, 0, 0, []),
  (76, .aload_n 1, false, [], 0, 0, 0, 0, 0, []),
  (77, .getfield 27, false, [], 0, 3, 1, 0, 0, []),
  (80, .iload_n 2, false, [], 0, 0, 0, 0, 0, []),
  (81, .aaload, false, [], 0, 0, 0, 0, 0, []),
  (82, .aastore, false, [], 0, 0, 0, 0, 0, []),
  (83, .iinc 2 1, false, [], 0, 0, 0, 0, 1, []),
  (86, .goto (-23), false, [], 63, 0, 0, 0, 0, []),
  (89, .aload_n 1, false, [], 0, 0, 0, 0, 0, []),
  (90, .getfield 35, false, [], 0, 5, 1, 0, 0, []),
  (93, .iconst 0, false, [], 0, 0, 0, 0, 0, []),
  (94, .aload_n 0, false, [], 0, 0, 0, 0, 0, []),
  (95, .getfield 35, false, [], 0, 5, 1, 0, 0, []),
  (98, .iconst 0, false, [], 0, 0, 0, 0, 0, []),
  (99, .iconst 3, false, [], 0, 0, 0, 0, 3, []),
  (100, .invokestatic 64, false, [], 0, 0, 8, 0, 0, []),
  (103, .aload_n 0, false, [], 0, 0, 0, 0, 0, []),
  (104, .aload_n 1, false, [], 0, 0, 0, 0, 0, []),
  (105, .getfield 38, false, [], 0, 6, 0, 0, 0, []),
  (108, .putfield 38, false, [], 0, 6, 0, 0, 0, []),
  (111, .aload_n 0, false, [], 0, 0, 0, 0, 0, []),
  (112, .aload_n 1, false, [], 0, 0, 0, 0, 0, []),
  (113, .getfield 41, false, [], 0, 7, 0, 0, 0, []),
  (116, .putfield 41, false, [], 0, 7, 0, 0, 0, []),
  (119, .aload_n 0, false, [], 0, 0, 0, 0, 0, []),
  (120, .aload_n 1, false, [], 0, 0, 0, 0, 0, []),
  (121, .getfield 44, false, [], 0, 8, 0, 0, 0, []),
  (124, .putfield 44, false, [], 0, 8, 0, 0, 0, []),
  (127, .aload_n 0, false, [], 0, 0, 0, 0, 0, []),
  (128, .aload_n 1, false, [], 0, 0, 0, 0, 0, []),
  (129, .getfield 47, false, [], 0, 9, 0, 0, 0, []),
  (132, .putfield 47, false, [], 0, 9, 0, 0, 0, []),
  (135, .aload_n 0, false, [], 0, 0, 0, 0, 0, []),
  (136, .aload_n 1, false, [], 0, 0, 0, 0, 0, []),
  (137, .getfield 50, false, [], 0, 10, 0, 0, 0, []),
  (140, .putfield 50, false, [], 0, 10, 0, 0, 0, []),
  (143, .return_, false, [], 0, 0, 0, 0, 0, [])]
def kk_X0_hasLeg : List mx_I := [
  (0, .iload_n 1, false, [], 0, 0, 0, 0, 0, []),
  (1, .ifCond .lt 15, false, [], 16, 0, 0, 0, 0, []),
  (4, .iload_n 1, false, [], 0, 0, 0, 0, 0, []),
  (5, .aload_n 0, false, [], 0, 0, 0, 0, 0, []),
  (6, .getfield 17, false, [], 0, 1, 0, 0, 0, []),
  (9, .if_icmp .ge 7, false, [], 16, 0, 0, 0, 0, []),
  (12, .iconst 1, false, [], 0, 0, 0, 0, 1, []),
  (13, .goto 4, false, [], 17, 0, 0, 0, 0, []),
  (16, .iconst 0, false, [], 0, 0, 0, 0, 0, []),
  (17, .ireturn, false, [], 0, 0, 0, 1, 0, [])]
def kk_X0_addLeg : List mx_I := [
  (0, .aload_n 0, false, [], 0, 0, 0, 0, 0, []),
  (1, .getfield 17, false, [], 0, 1, 0, 0, 0, []),
  (4, .bipush 10, false, [], 0, 0, 0, 0, 10, []),
  (6, .if_icmp .ge 28, false, [], 34, 0, 0, 0, 0, []),
  (9, .aload_n 0, false, [], 0, 0, 0, 0, 0, []),
  (10, .getfield 11, false, [], 0, 0, 1, 0, 0, []),
  (13, .aload_n 0, false, [], 0, 0, 0, 0, 0, []),
  (14, .getfield 17, false, [], 0, 1, 0, 0, 0, []),
  (17, .aaload, false, [], 0, 0, 0, 0, 0, []),
  (18, .iload_n 1, false, [], 0, 0, 0, 0, 0, []),
  (19, .iload_n 2, false, [], 0, 0, 0, 0, 0, []),
  (20, .iload_n 3, false, [], 0, 0, 0, 0, 0, []),
  (21, .invokevirtual 70, false, [], 42, 3, 0, 1, 0, []),
  (24, .aload_n 0, false, [], 0, 0, 0, 0, 0, []),
  (25, .dup, false, [], 0, 0, 0, 0, 0, []),
  (26, .getfield 17, false, [], 0, 1, 0, 0, 0, []),
  (29, .iconst 1, false, [], 0, 0, 0, 0, 1, []),
  (30, .iadd, false, [], 0, 0, 0, 0, 0, []),
  (31, .putfield 17, false, [], 0, 1, 0, 0, 0, []),
  (34, .return_, false, [], 0, 0, 0, 0, 0, [])]
def kk_X0_addText : List mx_I := [
  (0, .aload_n 0, false, [], 0, 0, 0, 0, 0, []),
  (1, .getfield 31, false, [], 0, 4, 0, 0, 0, []),
  (4, .bipush 14, false, [], 0, 0, 0, 0, 14, []),
  (6, .if_icmp .ge 36, false, [], 42, 0, 0, 0, 0, []),
  (9, .aload_n 0, false, [], 0, 0, 0, 0, 0, []),
  (10, .getfield 27, false, [], 0, 3, 1, 0, 0, []),
  (13, .aload_n 0, false, [], 0, 0, 0, 0, 0, []),
  (14, .getfield 31, false, [], 0, 4, 0, 0, 0, []),
  (17, .aload_n 1, false, [], 0, 0, 0, 0, 0, []),
  (18, .aastore, false, [], 0, 0, 0, 0, 0, []),
  (19, .aload_n 0, false, [], 0, 0, 0, 0, 0, []),
  (20, .getfield 35, false, [], 0, 5, 1, 0, 0, []),
  (23, .aload_n 1, false, [], 0, 0, 0, 0, 0, []),
  (24, .getfield 74, false, [], 5, 0, 0, 0, 0, []),
  (27, .aload_n 0, false, [], 0, 0, 0, 0, 0, []),
  (28, .getfield 31, false, [], 0, 4, 0, 0, 0, []),
  (31, .iastore, false, [], 0, 0, 0, 0, 0, []),
  (32, .aload_n 0, false, [], 0, 0, 0, 0, 0, []),
  (33, .dup, false, [], 0, 0, 0, 0, 0, []),
  (34, .getfield 31, false, [], 0, 4, 0, 0, 0, []),
  (37, .iconst 1, false, [], 0, 0, 0, 0, 1, []),
  (38, .iadd, false, [], 0, 0, 0, 0, 0, []),
  (39, .putfield 31, false, [], 0, 4, 0, 0, 0, []),
  (42, .return_, false, [], 0, 0, 0, 0, 0, [])]
def kk_X0_draw : List mx_I := [
  (0, .aload_n 0, false, [], 0, 0, 0, 0, 0, []),
  (1, .aload_n 0, false, [], 0, 0, 0, 0, 0, []),
  (2, .getfield 50, false, [], 0, 10, 0, 0, 0, []),
  (5, .ldc 77, false, [], 0, 0, 0, 0, 1103515245, []),
  (7, .imul, false, [], 0, 0, 0, 0, 0, []),
  (8, .sipush 12345, false, [], 0, 0, 0, 0, 12345, []),
  (11, .iadd, false, [], 0, 0, 0, 0, 0, []),
  (12, .putfield 50, false, [], 0, 10, 0, 0, 0, []),
  (15, .aload_n 0, false, [], 0, 0, 0, 0, 0, []),
  (16, .getfield 50, false, [], 0, 10, 0, 0, 0, []),
  (19, .bipush 8, false, [], 0, 0, 0, 0, 8, []),
  (21, .iushr, false, [], 0, 0, 0, 0, 0, []),
  (22, .ireturn, false, [], 0, 0, 0, 0, 0, [])]
def kk_X0_daysLeft : List mx_I := [
  (0, .iload_n 1, false, [], 0, 0, 0, 0, 0, []),
  (1, .sipush 9999, false, [], 0, 0, 0, 0, 9999, []),
  (4, .aload_n 0, false, [], 0, 0, 0, 0, 0, []),
  (5, .getfield 47, false, [], 0, 9, 0, 0, 0, []),
  (8, .isub, false, [], 0, 0, 0, 0, 0, []),
  (9, .invokestatic 78, false, [], 3, 2, 1, 0, 0, []),
  (12, .ireturn, false, [], 0, 0, 0, 0, 0, [])]
def kk_X0_passDays : List mx_I := [
  (0, .iconst 0, false, [], 0, 0, 0, 0, 0, []),
  (1, .istore_n 2, false, [], 0, 0, 0, 0, 0, []),
  (2, .iload_n 2, true, [0, 1, 2], 0, 0, 0, 0, 0, []),
  (3, .iload_n 1, false, [], 0, 0, 0, 0, 0, []),
  (4, .if_icmp .ge 13, false, [], 17, 0, 0, 0, 0, []),
  (7, .aload_n 0, false, [], 0, 0, 0, 0, 0, []),
  (8, .invokevirtual 84, false, [], 27, 0, 0, 0, 0, []),
  (11, .iinc 2 1, false, [], 0, 0, 0, 0, 1, []),
  (14, .goto (-12), false, [], 2, 0, 0, 0, 0, []),
  (17, .return_, false, [], 0, 0, 0, 0, 0, [])]
def kk_X0_passDay : List mx_I := [
  (0, .aload_n 0, false, [], 0, 0, 0, 0, 0, []),
  (1, .getfield 17, false, [], 0, 1, 0, 0, 0, []),
  (4, .ifCond .ne 19, false, [], 23, 0, 0, 0, 0, []),
  (7, .aload_n 0, false, [], 0, 0, 0, 0, 0, []),
  (8, .invokevirtual 87, false, [], 24, 0, 1, 0, 0, []),
  (11, .pop, false, [], 0, 0, 0, 0, 0, []),
  (12, .aload_n 0, false, [], 0, 0, 0, 0, 0, []),
  (13, .dup, false, [], 0, 0, 0, 0, 0, []),
  (14, .getfield 47, false, [], 0, 9, 0, 0, 0, []),
  (17, .iconst 1, false, [], 0, 0, 0, 0, 1, []),
  (18, .iadd, false, [], 0, 0, 0, 0, 0, []),
  (19, .putfield 47, false, [], 0, 9, 0, 0, 0, []),
  (22, .return_, false, [], 0, 0, 0, 0, 0, []),
  (23, .aload_n 0, false, [], 0, 0, 0, 0, 0, []),
  (24, .getfield 47, false, [], 0, 9, 0, 0, 0, []),
  (27, .aload_n 0, false, [], 0, 0, 0, 0, 0, []),
  (28, .getfield 17, false, [], 0, 1, 0, 0, 0, []),
  (31, .irem, false, [], 0, 0, 0, 0, 0, []),
  (32, .istore_n 1, false, [], 0, 0, 0, 0, 0, []),
  (33, .aload_n 0, false, [], 0, 0, 0, 0, 0, []),
  (34, .iload_n 1, false, [], 0, 0, 0, 0, 0, []),
  (35, .invokevirtual 91, false, [], 28, 1, 0, 0, 0, []),
  (38, .aload_n 0, false, [], 0, 0, 0, 0, 0, []),
  (39, .invokevirtual 87, false, [], 24, 0, 1, 0, 0, []),
  (42, .bipush 100, false, [], 0, 0, 0, 0, 100, []),
  (44, .irem, false, [], 0, 0, 0, 0, 0, []),
  (45, .aload_n 0, false, [], 0, 0, 0, 0, 0, []),
  (46, .getfield 21, false, [], 0, 2, 1, 0, 0, []),
  (49, .iconst 0, false, [], 0, 0, 0, 0, 0, []),
  (50, .iaload, false, [], 0, 0, 0, 0, 0, []),
  (51, .if_icmp .ge 13, false, [], 64, 0, 0, 0, 0, []),
  (54, .aload_n 0, false, [], 0, 0, 0, 0, 0, []),
  (55, .aload_n 0, false, [], 0, 0, 0, 0, 0, []),
  (56, .getfield 11, false, [], 0, 0, 1, 0, 0, []),
  (59, .iload_n 1, false, [], 0, 0, 0, 0, 0, []),
  (60, .aaload, false, [], 0, 0, 0, 0, 0, []),
  (61, .invokevirtual 95, false, [], 29, 1, 0, 0, 0, []),
  (64, .aload_n 0, false, [], 0, 0, 0, 0, 0, []),
  (65, .getfield 11, false, [], 0, 0, 1, 0, 0, []),
  (68, .aload_n 0, false, [], 0, 0, 0, 0, 0, []),
  (69, .invokevirtual 98, false, [], 35, 0, 1, 0, 0, []),
  (72, .aaload, false, [], 0, 0, 0, 0, 0, []),
  (73, .astore_n 2, false, [], 0, 0, 0, 0, 0, []),
  (74, .aload_n 2, false, [], 0, 0, 0, 0, 0, []),
  (75, .getfield 101, false, [], 1, 2, 0, 0, 0, []),
  (78, .aload_n 0, false, [], 0, 0, 0, 0, 0, []),
  (79, .getfield 21, false, [], 0, 2, 1, 0, 0, []),
  (82, .iconst 2, false, [], 0, 0, 0, 0, 2, []),
  (83, .iaload, false, [], 0, 0, 0, 0, 0, []),
  (84, .if_icmp .ge 18, false, [], 102, 0, 0, 0, 0, []),
  (87, .aload_n 0, false, [], 0, 0, 0, 0, 0, []),
  (88, .aload_n 2, false, [], 0, 0, 0, 0, 0, []),
  (89, .aload_n 0, false, [], 0, 0, 0, 0, 0, []),
  (90, .invokevirtual 87, false, [], 24, 0, 1, 0, 0, []),
  (93, .bipush 7, false, [], 0, 0, 0, 0, 7, []),
  (95, .irem, false, [], 0, 0, 0, 0, 0, []),
  (96, .iconst 3, false, [], 0, 0, 0, 0, 3, []),
  (97, .isub, false, [], 0, 0, 0, 0, 0, []),
  (98, .invokevirtual 104, false, [], 30, 2, 1, 0, 0, []),
  (101, .pop, false, [], 0, 0, 0, 0, 0, []),
  (102, .aload_n 0, false, [], 0, 0, 0, 0, 0, []),
  (103, .dup, false, [], 0, 0, 0, 0, 0, []),
  (104, .getfield 47, false, [], 0, 9, 0, 0, 0, []),
  (107, .iconst 1, false, [], 0, 0, 0, 0, 1, []),
  (108, .iadd, false, [], 0, 0, 0, 0, 0, []),
  (109, .putfield 47, false, [], 0, 9, 0, 0, 0, []),
  (112, .return_, false, [], 0, 0, 0, 0, 0, [])]
def kk_X0_wear : List mx_I := [
  (0, .iconst 0, false, [], 0, 0, 0, 0, 0, []),
  (1, .istore_n 2, false, [], 0, 0, 0, 0, 0, []),
  (2, .iload_n 2, true, [0, 1, 2], 0, 0, 0, 0, 0, []),
  (3, .aload_n 0, false, [], 0, 0, 0, 0, 0, []),
  (4, .getfield 17, false, [], 0, 1, 0, 0, 0, []),
  (7, .if_icmp .ge 73, false, [], 80, 0, 0, 0, 0, []),
  (10, .aload_n 0, false, [], 0, 0, 0, 0, 0, []),
  (11, .getfield 11, false, [], 0, 0, 1, 0, 0, []),
  (14, .iload_n 2, false, [], 0, 0, 0, 0, 0, []),
  (15, .aaload, false, [], 0, 0, 0, 0, 0, []),
  (16, .astore_n 3, false, [], 0, 0, 0, 0, 0, []),
  (17, .iload_n 2, false, [], 0, 0, 0, 0, 0, []),
  (18, .iload_n 1, false, [], 0, 0, 0, 0, 0, []),
  (19, .if_icmp .ne 41, false, [], 60, 0, 0, 0, 0, []),
  (22, .aload_n 3, false, [], 0, 0, 0, 0, 0, []),
  (23, .iconst 0, false, [], 0, 0, 0, 0, 0, []),
  (24, .aload_n 3, false, [], 0, 0, 0, 0, 0, []),
  (25, .getfield 101, false, [], 1, 2, 0, 0, 0, []),
  (28, .aload_n 3, false, [], 0, 0, 0, 0, 0, []),
  (29, .invokevirtual 108, false, [], 46, 0, 1, 1, 0, []),
  (32, .isub, false, [], 0, 0, 0, 0, 0, []),
  (33, .invokestatic 111, false, [], 2, 2, 1, 0, 0, []),
  (36, .putfield 101, false, [], 1, 2, 0, 0, 0, []),
  (39, .aload_n 3, false, [], 0, 0, 0, 0, 0, []),
  (40, .bipush 99, false, [], 0, 0, 0, 0, 99, []),
  (42, .aload_n 3, false, [], 0, 0, 0, 0, 0, []),
  (43, .getfield 114, false, [], 1, 4, 0, 0, 0, []),
  (46, .aload_n 3, false, [], 0, 0, 0, 0, 0, []),
  (47, .invokevirtual 117, false, [], 47, 0, 1, 1, 0, []),
  (50, .iadd, false, [], 0, 0, 0, 0, 0, []),
  (51, .invokestatic 78, false, [], 3, 2, 1, 0, 0, []),
  (54, .putfield 114, false, [], 1, 4, 0, 0, 0, []),
  (57, .goto 17, false, [], 74, 0, 0, 0, 0, []),
  (60, .aload_n 3, false, [], 0, 0, 0, 0, 0, []),
  (61, .iconst 0, false, [], 0, 0, 0, 0, 0, []),
  (62, .aload_n 3, false, [], 0, 0, 0, 0, 0, []),
  (63, .getfield 114, false, [], 1, 4, 0, 0, 0, []),
  (66, .iconst 2, false, [], 0, 0, 0, 0, 2, []),
  (67, .isub, false, [], 0, 0, 0, 0, 0, []),
  (68, .invokestatic 111, false, [], 2, 2, 1, 0, 0, []),
  (71, .putfield 114, false, [], 1, 4, 0, 0, 0, []),
  (74, .iinc 2 1, false, [], 0, 0, 0, 0, 1, []),
  (77, .goto (-75), false, [], 2, 0, 0, 0, 0, []),
  (80, .return_, false, [], 0, 0, 0, 0, 0, [])]
def kk_X0_soak : List mx_I := [
  (0, .aload_n 1, false, [], 0, 0, 0, 0, 0, []),
  (1, .dup, false, [], 0, 0, 0, 0, 0, []),
  (2, .getfield 101, false, [], 1, 2, 0, 0, 0, []),
  (5, .iconst 2, false, [], 0, 0, 0, 0, 2, []),
  (6, .idiv, false, [], 0, 0, 0, 0, 0, []),
  (7, .putfield 101, false, [], 1, 2, 0, 0, 0, []),
  (10, .aload_n 1, false, [], 0, 0, 0, 0, 0, []),
  (11, .dup, false, [], 0, 0, 0, 0, 0, []),
  (12, .getfield 120, false, [], 1, 3, 0, 0, 0, []),
  (15, .iconst 2, false, [], 0, 0, 0, 0, 2, []),
  (16, .idiv, false, [], 0, 0, 0, 0, 0, []),
  (17, .putfield 120, false, [], 1, 3, 0, 0, 0, []),
  (20, .aload_n 0, false, [], 0, 0, 0, 0, 0, []),
  (21, .dup, false, [], 0, 0, 0, 0, 0, []),
  (22, .getfield 44, false, [], 0, 8, 0, 0, 0, []),
  (25, .iconst 1, false, [], 0, 0, 0, 0, 1, []),
  (26, .iadd, false, [], 0, 0, 0, 0, 0, []),
  (27, .putfield 44, false, [], 0, 8, 0, 0, 0, []),
  (30, .return_, false, [], 0, 0, 0, 0, 0, [])]
def kk_X0_press : List mx_I := [
  (0, .aload_n 0, false, [], 0, 0, 0, 0, 0, []),
  (1, .aload_n 1, false, [], 0, 0, 0, 0, 0, []),
  (2, .invokevirtual 123, false, [], 31, 1, 1, 0, 0, []),
  (5, .istore_n 3, false, [], 0, 0, 0, 0, 0, []),
  (6, .iload_n 2, false, [], 0, 0, 0, 0, 0, []),
  (7, .invokestatic 127, false, [], 1, 1, 1, 0, 0, []),
  (10, .aload_n 0, false, [], 0, 0, 0, 0, 0, []),
  (11, .getfield 21, false, [], 0, 2, 1, 0, 0, []),
  (14, .iconst 1, false, [], 0, 0, 0, 0, 1, []),
  (15, .iaload, false, [], 0, 0, 0, 0, 0, []),
  (16, .if_icmp .gt 7, false, [], 23, 0, 0, 0, 0, []),
  (19, .iconst 1, false, [], 0, 0, 0, 0, 1, []),
  (20, .goto 4, false, [], 24, 0, 0, 0, 0, []),
  (23, .iconst 0, false, [], 0, 0, 0, 0, 0, []),
  (24, .istore 4, false, [], 0, 0, 0, 0, 0, []),
  (26, .iload 4, false, [], 0, 0, 0, 0, 0, []),
  (28, .ifCond .eq 31, false, [], 59, 0, 0, 0, 0, []),
  (31, .aload_n 1, false, [], 0, 0, 0, 0, 0, []),
  (32, .dup, false, [], 0, 0, 0, 0, 0, []),
  (33, .getfield 120, false, [], 1, 3, 0, 0, 0, []),
  (36, .iconst 2, false, [], 0, 0, 0, 0, 2, []),
  (37, .idiv, false, [], 0, 0, 0, 0, 0, []),
  (38, .putfield 120, false, [], 1, 3, 0, 0, 0, []),
  (41, .aload_n 1, false, [], 0, 0, 0, 0, 0, []),
  (42, .bipush 9, false, [], 0, 0, 0, 0, 9, []),
  (44, .aload_n 1, false, [], 0, 0, 0, 0, 0, []),
  (45, .getfield 131, false, [], 1, 5, 0, 0, 0, []),
  (48, .iconst 1, false, [], 0, 0, 0, 0, 1, []),
  (49, .iadd, false, [], 0, 0, 0, 0, 0, []),
  (50, .invokestatic 78, false, [], 3, 2, 1, 0, 0, []),
  (53, .putfield 131, false, [], 1, 5, 0, 0, 0, []),
  (56, .goto 41, false, [], 97, 0, 0, 0, 0, []),
  (59, .aload_n 1, false, [], 0, 0, 0, 0, 0, []),
  (60, .aload_n 1, false, [], 0, 0, 0, 0, 0, []),
  (61, .getfield 101, false, [], 1, 2, 0, 0, 0, []),
  (64, .putfield 120, false, [], 1, 3, 0, 0, 0, []),
  (67, .aload_n 1, false, [], 0, 0, 0, 0, 0, []),
  (68, .aload_n 1, false, [], 0, 0, 0, 0, 0, []),
  (69, .getfield 134, false, [], 1, 1, 0, 0, 0, []),
  (72, .iload_n 2, false, [], 0, 0, 0, 0, 0, []),
  (73, .iadd, false, [], 0, 0, 0, 0, 0, []),
  (74, .bipush 60, false, [], 0, 0, 0, 0, 60, []),
  (76, .invokestatic 137, false, [], 0, 2, 1, 0, 0, []),
  (79, .putfield 134, false, [], 1, 1, 0, 0, 0, []),
  (82, .aload_n 1, false, [], 0, 0, 0, 0, 0, []),
  (83, .iconst 1, false, [], 0, 0, 0, 0, 1, []),
  (84, .putfield 131, false, [], 1, 5, 0, 0, 0, []),
  (87, .aload_n 0, false, [], 0, 0, 0, 0, 0, []),
  (88, .dup, false, [], 0, 0, 0, 0, 0, []),
  (89, .getfield 41, false, [], 0, 7, 0, 0, 0, []),
  (92, .iconst 1, false, [], 0, 0, 0, 0, 1, []),
  (93, .iadd, false, [], 0, 0, 0, 0, 0, []),
  (94, .putfield 41, false, [], 0, 7, 0, 0, 0, []),
  (97, .aload_n 1, false, [], 0, 0, 0, 0, 0, []),
  (98, .iload_n 3, false, [], 0, 0, 0, 0, 0, []),
  (99, .putfield 101, false, [], 1, 2, 0, 0, 0, []),
  (102, .aload_n 1, false, [], 0, 0, 0, 0, 0, []),
  (103, .dup, false, [], 0, 0, 0, 0, 0, []),
  (104, .getfield 114, false, [], 1, 4, 0, 0, 0, []),
  (107, .iconst 2, false, [], 0, 0, 0, 0, 2, []),
  (108, .idiv, false, [], 0, 0, 0, 0, 0, []),
  (109, .putfield 114, false, [], 1, 4, 0, 0, 0, []),
  (112, .aload_n 0, false, [], 0, 0, 0, 0, 0, []),
  (113, .dup, false, [], 0, 0, 0, 0, 0, []),
  (114, .getfield 38, false, [], 0, 6, 0, 0, 0, []),
  (117, .iconst 1, false, [], 0, 0, 0, 0, 1, []),
  (118, .iadd, false, [], 0, 0, 0, 0, 0, []),
  (119, .putfield 38, false, [], 0, 6, 0, 0, 0, []),
  (122, .iload 4, false, [], 0, 0, 0, 0, 0, []),
  (124, .ireturn, false, [], 0, 0, 0, 1, 0, [])]
def kk_X0_takenBy : List mx_I := [
  (0, .aload_n 0, false, [], 0, 0, 0, 0, 0, []),
  (1, .getfield 21, false, [], 0, 2, 1, 0, 0, []),
  (4, .iconst 3, false, [], 0, 0, 0, 0, 3, []),
  (5, .iaload, false, [], 0, 0, 0, 0, 0, []),
  (6, .iconst 3, false, [], 0, 0, 0, 0, 3, []),
  (7, .aload_n 1, false, [], 0, 0, 0, 0, 0, []),
  (8, .getfield 131, false, [], 1, 5, 0, 0, 0, []),
  (11, .imul, false, [], 0, 0, 0, 0, 0, []),
  (12, .iadd, false, [], 0, 0, 0, 0, 0, []),
  (13, .istore_n 2, false, [], 0, 0, 0, 0, 0, []),
  (14, .aload_n 0, false, [], 0, 0, 0, 0, 0, []),
  (15, .iconst 0, false, [], 0, 0, 0, 0, 0, []),
  (16, .invokevirtual 140, false, [], 34, 1, 3, 0, 0, []),
  (19, .astore_n 3, false, [], 0, 0, 0, 0, 0, []),
  (20, .aload_n 3, false, [], 0, 0, 0, 0, 0, []),
  (21, .ifnull 58, false, [], 79, 0, 0, 0, 0, []),
  (24, .aload_n 0, false, [], 0, 0, 0, 0, 0, []),
  (25, .getfield 53, false, [], 0, 11, 1, 0, 0, []),
  (28, .iconst 0, false, [], 0, 0, 0, 0, 0, []),
  (29, .aload_n 0, false, [], 0, 0, 0, 0, 0, []),
  (30, .getfield 21, false, [], 0, 2, 1, 0, 0, []),
  (33, .iconst 3, false, [], 0, 0, 0, 0, 3, []),
  (34, .iaload, false, [], 0, 0, 0, 0, 0, []),
  (35, .iastore, false, [], 0, 0, 0, 0, 0, []),
  (36, .aload_n 0, false, [], 0, 0, 0, 0, 0, []),
  (37, .getfield 53, false, [], 0, 11, 1, 0, 0, []),
  (40, .iconst 1, false, [], 0, 0, 0, 0, 1, []),
  (41, .aload_n 1, false, [], 0, 0, 0, 0, 0, []),
  (42, .getfield 131, false, [], 1, 5, 0, 0, 0, []),
  (45, .iastore, false, [], 0, 0, 0, 0, 0, []),
  (46, .aload_n 0, false, [], 0, 0, 0, 0, 0, []),
  (47, .getfield 53, false, [], 0, 11, 1, 0, 0, []),
  (50, .iconst 2, false, [], 0, 0, 0, 0, 2, []),
  (51, .aload_n 1, false, [], 0, 0, 0, 0, 0, []),
  (52, .getfield 114, false, [], 1, 4, 0, 0, 0, []),
  (55, .iastore, false, [], 0, 0, 0, 0, 0, []),
  (56, .aload_n 0, false, [], 0, 0, 0, 0, 0, []),
  (57, .getfield 53, false, [], 0, 11, 1, 0, 0, []),
  (60, .iconst 3, false, [], 0, 0, 0, 0, 3, []),
  (61, .aload_n 1, false, [], 0, 0, 0, 0, 0, []),
  (62, .getfield 120, false, [], 1, 3, 0, 0, 0, []),
  (65, .iastore, false, [], 0, 0, 0, 0, 0, []),
  (66, .aload_n 3, false, [], 0, 0, 0, 0, 0, []),
  (67, .aload_n 0, false, [], 0, 0, 0, 0, 0, []),
  (68, .getfield 53, false, [], 0, 11, 1, 0, 0, []),
  (71, .aload_n 0, false, [], 0, 0, 0, 0, 0, []),
  (72, .getfield 56, false, [], 0, 12, 1, 0, 0, []),
  (75, .invokevirtual 144, false, [], 80, 2, 1, 5, 0, []),
  (78, .istore_n 2, false, [], 0, 0, 0, 0, 0, []),
  (79, .aload_n 1, false, [], 0, 0, 0, 0, 0, []),
  (80, .iload_n 2, false, [], 0, 0, 0, 0, 0, []),
  (81, .invokestatic 148, false, [], 131, 1, 1, 0, 1, []),
  (84, .invokevirtual 151, false, [], 45, 1, 1, 1, 0, []),
  (87, .ireturn, false, [], 0, 0, 0, 0, 0, [])]
def kk_X0_feeGiven : List mx_I := [
  (0, .aload_n 0, false, [], 0, 0, 0, 0, 0, []),
  (1, .iconst 1, false, [], 0, 0, 0, 0, 1, []),
  (2, .invokevirtual 140, false, [], 34, 1, 3, 0, 0, []),
  (5, .astore_n 1, false, [], 0, 0, 0, 0, 0, []),
  (6, .aload_n 1, false, [], 0, 0, 0, 0, 0, []),
  (7, .ifnonnull 8, false, [], 15, 0, 0, 0, 0, []),
  (10, .aload_n 0, false, [], 0, 0, 0, 0, 0, []),
  (11, .getfield 38, false, [], 0, 6, 0, 0, 0, []),
  (14, .ireturn, false, [], 0, 0, 0, 0, 0, []),
  (15, .aload_n 0, false, [], 0, 0, 0, 0, 0, []),
  (16, .getfield 53, false, [], 0, 11, 1, 0, 0, []),
  (19, .iconst 0, false, [], 0, 0, 0, 0, 0, []),
  (20, .aload_n 0, false, [], 0, 0, 0, 0, 0, []),
  (21, .getfield 38, false, [], 0, 6, 0, 0, 0, []),
  (24, .iastore, false, [], 0, 0, 0, 0, 0, []),
  (25, .aload_n 0, false, [], 0, 0, 0, 0, 0, []),
  (26, .getfield 53, false, [], 0, 11, 1, 0, 0, []),
  (29, .iconst 1, false, [], 0, 0, 0, 0, 1, []),
  (30, .aload_n 0, false, [], 0, 0, 0, 0, 0, []),
  (31, .getfield 41, false, [], 0, 7, 0, 0, 0, []),
  (34, .iastore, false, [], 0, 0, 0, 0, 0, []),
  (35, .aload_n 1, false, [], 0, 0, 0, 0, 0, []),
  (36, .aload_n 0, false, [], 0, 0, 0, 0, 0, []),
  (37, .getfield 53, false, [], 0, 11, 1, 0, 0, []),
  (40, .aload_n 0, false, [], 0, 0, 0, 0, 0, []),
  (41, .getfield 56, false, [], 0, 12, 1, 0, 0, []),
  (44, .invokevirtual 144, false, [], 80, 2, 1, 5, 0, []),
  (47, .ireturn, false, [], 0, 0, 0, 0, 0, [])]
def kk_X0_fineGiven : List mx_I := [
  (0, .aload_n 0, false, [], 0, 0, 0, 0, 0, []),
  (1, .iconst 2, false, [], 0, 0, 0, 0, 2, []),
  (2, .invokevirtual 140, false, [], 34, 1, 3, 0, 0, []),
  (5, .astore_n 2, false, [], 0, 0, 0, 0, 0, []),
  (6, .aload_n 2, false, [], 0, 0, 0, 0, 0, []),
  (7, .ifnonnull 8, false, [], 15, 0, 0, 0, 0, []),
  (10, .aload_n 1, false, [], 0, 0, 0, 0, 0, []),
  (11, .getfield 101, false, [], 1, 2, 0, 0, 0, []),
  (14, .ireturn, false, [], 0, 0, 0, 0, 0, []),
  (15, .aload_n 0, false, [], 0, 0, 0, 0, 0, []),
  (16, .getfield 53, false, [], 0, 11, 1, 0, 0, []),
  (19, .iconst 0, false, [], 0, 0, 0, 0, 0, []),
  (20, .aload_n 1, false, [], 0, 0, 0, 0, 0, []),
  (21, .getfield 101, false, [], 1, 2, 0, 0, 0, []),
  (24, .iastore, false, [], 0, 0, 0, 0, 0, []),
  (25, .aload_n 0, false, [], 0, 0, 0, 0, 0, []),
  (26, .getfield 53, false, [], 0, 11, 1, 0, 0, []),
  (29, .iconst 1, false, [], 0, 0, 0, 0, 1, []),
  (30, .aload_n 1, false, [], 0, 0, 0, 0, 0, []),
  (31, .getfield 114, false, [], 1, 4, 0, 0, 0, []),
  (34, .iastore, false, [], 0, 0, 0, 0, 0, []),
  (35, .aload_n 2, false, [], 0, 0, 0, 0, 0, []),
  (36, .aload_n 0, false, [], 0, 0, 0, 0, 0, []),
  (37, .getfield 53, false, [], 0, 11, 1, 0, 0, []),
  (40, .aload_n 0, false, [], 0, 0, 0, 0, 0, []),
  (41, .getfield 56, false, [], 0, 12, 1, 0, 0, []),
  (44, .invokevirtual 144, false, [], 80, 2, 1, 5, 0, []),
  (47, .ireturn, false, [], 0, 0, 0, 0, 0, [])]
def kk_X0_lawOf : List mx_I := [
  (0, .aload_n 0, false, [], 0, 0, 0, 0, 0, []),
  (1, .getfield 35, false, [], 0, 5, 1, 0, 0, []),
  (4, .iload_n 1, false, [], 0, 0, 0, 0, 0, []),
  (5, .iaload, false, [], 0, 0, 0, 0, 0, []),
  (6, .ldc 34, false, [], 0, 0, 0, 0, (-1000000005), []),
  (8, .if_icmp .ne 7, false, [], 15, 0, 0, 0, 0, []),
  (11, .aconst_null, false, [], 0, 0, 0, 0, 0, []),
  (12, .goto 14, false, [], 26, 0, 0, 0, 0, []),
  (15, .aload_n 0, false, [], 0, 0, 0, 0, 0, []),
  (16, .getfield 27, false, [], 0, 3, 1, 0, 0, []),
  (19, .aload_n 0, false, [], 0, 0, 0, 0, 0, []),
  (20, .getfield 35, false, [], 0, 5, 1, 0, 0, []),
  (23, .iload_n 1, false, [], 0, 0, 0, 0, 0, []),
  (24, .iaload, false, [], 0, 0, 0, 0, 0, []),
  (25, .aaload, false, [], 0, 0, 0, 0, 0, []),
  (26, .areturn, false, [], 0, 0, 0, 0, 0, [])]
def kk_X0_dullest : List mx_I := [
  (0, .iconst 0, false, [], 0, 0, 0, 0, 0, []),
  (1, .istore_n 1, false, [], 0, 0, 0, 0, 0, []),
  (2, .iconst 1, false, [], 0, 0, 0, 0, 1, []),
  (3, .istore_n 2, false, [], 0, 0, 0, 0, 0, []),
  (4, .iload_n 2, true, [0, 1, 2], 0, 0, 0, 0, 0, []),
  (5, .aload_n 0, false, [], 0, 0, 0, 0, 0, []),
  (6, .getfield 17, false, [], 0, 1, 0, 0, 0, []),
  (9, .if_icmp .ge 32, false, [], 41, 0, 0, 0, 0, []),
  (12, .aload_n 0, false, [], 0, 0, 0, 0, 0, []),
  (13, .getfield 11, false, [], 0, 0, 1, 0, 0, []),
  (16, .iload_n 2, false, [], 0, 0, 0, 0, 0, []),
  (17, .aaload, false, [], 0, 0, 0, 0, 0, []),
  (18, .getfield 101, false, [], 1, 2, 0, 0, 0, []),
  (21, .aload_n 0, false, [], 0, 0, 0, 0, 0, []),
  (22, .getfield 11, false, [], 0, 0, 1, 0, 0, []),
  (25, .iload_n 1, false, [], 0, 0, 0, 0, 0, []),
  (26, .aaload, false, [], 0, 0, 0, 0, 0, []),
  (27, .getfield 101, false, [], 1, 2, 0, 0, 0, []),
  (30, .if_icmp .ge 5, false, [], 35, 0, 0, 0, 0, []),
  (33, .iload_n 2, false, [], 0, 0, 0, 0, 0, []),
  (34, .istore_n 1, false, [], 0, 0, 0, 0, 0, []),
  (35, .iinc 2 1, false, [], 0, 0, 0, 0, 1, []),
  (38, .goto (-34), false, [], 4, 0, 0, 0, 0, []),
  (41, .iload_n 1, false, [], 0, 0, 0, 0, 0, []),
  (42, .ireturn, false, [], 0, 0, 0, 0, 0, [])]
def kk_X0_sharpOfAll : List mx_I := [
  (0, .iconst 0, false, [], 0, 0, 0, 0, 0, []),
  (1, .istore_n 1, false, [], 0, 0, 0, 0, 0, []),
  (2, .iconst 0, false, [], 0, 0, 0, 0, 0, []),
  (3, .istore_n 2, false, [], 0, 0, 0, 0, 0, []),
  (4, .iload_n 2, true, [0, 1, 2], 0, 0, 0, 0, 0, []),
  (5, .aload_n 0, false, [], 0, 0, 0, 0, 0, []),
  (6, .getfield 17, false, [], 0, 1, 0, 0, 0, []),
  (9, .if_icmp .ge 21, false, [], 30, 0, 0, 0, 0, []),
  (12, .iload_n 1, false, [], 0, 0, 0, 0, 0, []),
  (13, .aload_n 0, false, [], 0, 0, 0, 0, 0, []),
  (14, .getfield 11, false, [], 0, 0, 1, 0, 0, []),
  (17, .iload_n 2, false, [], 0, 0, 0, 0, 0, []),
  (18, .aaload, false, [], 0, 0, 0, 0, 0, []),
  (19, .getfield 101, false, [], 1, 2, 0, 0, 0, []),
  (22, .iadd, false, [], 0, 0, 0, 0, 0, []),
  (23, .istore_n 1, false, [], 0, 0, 0, 0, 0, []),
  (24, .iinc 2 1, false, [], 0, 0, 0, 0, 1, []),
  (27, .goto (-23), false, [], 4, 0, 0, 0, 0, []),
  (30, .iload_n 1, false, [], 0, 0, 0, 0, 0, []),
  (31, .ireturn, false, [], 0, 0, 0, 0, 0, [])]
def kk_X0_doubled : List mx_I := [
  (0, .iconst 0, false, [], 0, 0, 0, 0, 0, []),
  (1, .istore_n 1, false, [], 0, 0, 0, 0, 0, []),
  (2, .iconst 0, false, [], 0, 0, 0, 0, 0, []),
  (3, .istore_n 2, false, [], 0, 0, 0, 0, 0, []),
  (4, .iload_n 2, true, [0, 1, 2], 0, 0, 0, 0, 0, []),
  (5, .aload_n 0, false, [], 0, 0, 0, 0, 0, []),
  (6, .getfield 17, false, [], 0, 1, 0, 0, 0, []),
  (9, .if_icmp .ge 27, false, [], 36, 0, 0, 0, 0, []),
  (12, .aload_n 0, false, [], 0, 0, 0, 0, 0, []),
  (13, .getfield 11, false, [], 0, 0, 1, 0, 0, []),
  (16, .iload_n 2, false, [], 0, 0, 0, 0, 0, []),
  (17, .aaload, false, [], 0, 0, 0, 0, 0, []),
  (18, .getfield 120, false, [], 1, 3, 0, 0, 0, []),
  (21, .ifCond .le 9, false, [], 30, 0, 0, 0, 0, []),
  (24, .iload_n 1, false, [], 0, 0, 0, 0, 0, []),
  (25, .iconst 1, false, [], 0, 0, 0, 0, 1, []),
  (26, .iload_n 2, false, [], 0, 0, 0, 0, 0, []),
  (27, .ishl, false, [], 0, 0, 0, 0, 0, []),
  (28, .ior, false, [], 0, 0, 0, 0, 0, []),
  (29, .istore_n 1, false, [], 0, 0, 0, 0, 0, []),
  (30, .iinc 2 1, false, [], 0, 0, 0, 0, 1, []),
  (33, .goto (-29), false, [], 4, 0, 0, 0, 0, []),
  (36, .iload_n 1, false, [], 0, 0, 0, 0, 0, []),
  (37, .ireturn, false, [], 0, 0, 0, 0, 0, [])]
def kk_X0_waxed : List mx_I := [
  (0, .iconst 0, false, [], 0, 0, 0, 0, 0, []),
  (1, .istore_n 1, false, [], 0, 0, 0, 0, 0, []),
  (2, .iconst 0, false, [], 0, 0, 0, 0, 0, []),
  (3, .istore_n 2, false, [], 0, 0, 0, 0, 0, []),
  (4, .iload_n 2, true, [0, 1, 2], 0, 0, 0, 0, 0, []),
  (5, .aload_n 0, false, [], 0, 0, 0, 0, 0, []),
  (6, .getfield 17, false, [], 0, 1, 0, 0, 0, []),
  (9, .if_icmp .ge 28, false, [], 37, 0, 0, 0, 0, []),
  (12, .aload_n 0, false, [], 0, 0, 0, 0, 0, []),
  (13, .getfield 11, false, [], 0, 0, 1, 0, 0, []),
  (16, .iload_n 2, false, [], 0, 0, 0, 0, 0, []),
  (17, .aaload, false, [], 0, 0, 0, 0, 0, []),
  (18, .getfield 154, false, [], 1, 0, 0, 0, 0, []),
  (21, .iconst 3, false, [], 0, 0, 0, 0, 3, []),
  (22, .if_icmp .ne 9, false, [], 31, 0, 0, 0, 0, []),
  (25, .iload_n 1, false, [], 0, 0, 0, 0, 0, []),
  (26, .iconst 1, false, [], 0, 0, 0, 0, 1, []),
  (27, .iload_n 2, false, [], 0, 0, 0, 0, 0, []),
  (28, .ishl, false, [], 0, 0, 0, 0, 0, []),
  (29, .ior, false, [], 0, 0, 0, 0, 0, []),
  (30, .istore_n 1, false, [], 0, 0, 0, 0, 0, []),
  (31, .iinc 2 1, false, [], 0, 0, 0, 0, 1, []),
  (34, .goto (-30), false, [], 4, 0, 0, 0, 0, []),
  (37, .iload_n 1, false, [], 0, 0, 0, 0, 0, []),
  (38, .ireturn, false, [], 0, 0, 0, 0, 0, [])]
def kk_X0_waxThese : List mx_I := [
  (0, .iconst 0, false, [], 0, 0, 0, 0, 0, []),
  (1, .istore_n 2, false, [], 0, 0, 0, 0, 0, []),
  (2, .iload_n 2, true, [0, 1, 2], 0, 0, 0, 0, 0, []),
  (3, .aload_n 0, false, [], 0, 0, 0, 0, 0, []),
  (4, .getfield 17, false, [], 0, 1, 0, 0, 0, []),
  (7, .if_icmp .ge 27, false, [], 34, 0, 0, 0, 0, []),
  (10, .iload_n 1, false, [], 0, 0, 0, 0, 0, []),
  (11, .iload_n 2, false, [], 0, 0, 0, 0, 0, []),
  (12, .ishr, false, [], 0, 0, 0, 0, 0, []),
  (13, .iconst 1, false, [], 0, 0, 0, 0, 1, []),
  (14, .iand, false, [], 0, 0, 0, 0, 0, []),
  (15, .ifCond .eq 13, false, [], 28, 0, 0, 0, 0, []),
  (18, .aload_n 0, false, [], 0, 0, 0, 0, 0, []),
  (19, .getfield 11, false, [], 0, 0, 1, 0, 0, []),
  (22, .iload_n 2, false, [], 0, 0, 0, 0, 0, []),
  (23, .aaload, false, [], 0, 0, 0, 0, 0, []),
  (24, .iconst 3, false, [], 0, 0, 0, 0, 3, []),
  (25, .putfield 154, false, [], 1, 0, 0, 0, 0, []),
  (28, .iinc 2 1, false, [], 0, 0, 0, 0, 1, []),
  (31, .goto (-29), false, [], 2, 0, 0, 0, 0, []),
  (34, .return_, false, [], 0, 0, 0, 0, 0, [])]
def kk_X0_hasDull : List mx_I := [
  (0, .aload_n 0, false, [], 0, 0, 0, 0, 0, []),
  (1, .getfield 17, false, [], 0, 1, 0, 0, 0, []),
  (4, .ifCond .le 28, false, [], 32, 0, 0, 0, 0, []),
  (7, .aload_n 0, false, [], 0, 0, 0, 0, 0, []),
  (8, .getfield 11, false, [], 0, 0, 1, 0, 0, []),
  (11, .aload_n 0, false, [], 0, 0, 0, 0, 0, []),
  (12, .invokevirtual 98, false, [], 35, 0, 1, 0, 0, []),
  (15, .aaload, false, [], 0, 0, 0, 0, 0, []),
  (16, .getfield 101, false, [], 1, 2, 0, 0, 0, []),
  (19, .aload_n 0, false, [], 0, 0, 0, 0, 0, []),
  (20, .getfield 21, false, [], 0, 2, 1, 0, 0, []),
  (23, .iconst 2, false, [], 0, 0, 0, 0, 2, []),
  (24, .iaload, false, [], 0, 0, 0, 0, 0, []),
  (25, .if_icmp .ge 7, false, [], 32, 0, 0, 0, 0, []),
  (28, .iconst 1, false, [], 0, 0, 0, 0, 1, []),
  (29, .goto 4, false, [], 33, 0, 0, 0, 0, []),
  (32, .iconst 0, false, [], 0, 0, 0, 0, 0, []),
  (33, .ireturn, false, [], 0, 0, 0, 1, 0, [])]
def kk_X1_init : List mx_I := [
  (0, .aload_n 0, false, [], 0, 0, 0, 0, 0, []),
  (1, .invokespecial 3, false, [], 0, 0, 9, 0, 0, []),
  (4, .return_, false, [], 0, 0, 0, 0, 0, [])]
def kk_X1_begin : List mx_I := [
  (0, .aload_n 0, false, [], 0, 0, 0, 0, 0, []),
  (1, .iload_n 1, false, [], 0, 0, 0, 0, 0, []),
  (2, .putfield 9, false, [], 1, 0, 0, 0, 0, []),
  (5, .aload_n 0, false, [], 0, 0, 0, 0, 0, []),
  (6, .iload_n 2, false, [], 0, 0, 0, 0, 0, []),
  (7, .putfield 15, false, [], 1, 1, 0, 0, 0, []),
  (10, .aload_n 0, false, [], 0, 0, 0, 0, 0, []),
  (11, .iload_n 3, false, [], 0, 0, 0, 0, 0, []),
  (12, .putfield 18, false, [], 1, 2, 0, 0, 0, []),
  (15, .aload_n 0, false, [], 0, 0, 0, 0, 0, []),
  (16, .iconst 0, false, [], 0, 0, 0, 0, 0, []),
  (17, .putfield 21, false, [], 1, 3, 0, 0, 0, []),
  (20, .aload_n 0, false, [], 0, 0, 0, 0, 0, []),
  (21, .iconst 0, false, [], 0, 0, 0, 0, 0, []),
  (22, .putfield 24, false, [], 1, 4, 0, 0, 0, []),
  (25, .aload_n 0, false, [], 0, 0, 0, 0, 0, []),
  (26, .iconst 0, false, [], 0, 0, 0, 0, 0, []),
  (27, .putfield 27, false, [], 1, 5, 0, 0, 0, []),
  (30, .return_, false, [], 0, 0, 0, 0, 0, [])]
def kk_X1_takeOver : List mx_I := [
  (0, .aload_n 0, false, [], 0, 0, 0, 0, 0, []),
  (1, .aload_n 1, false, [], 0, 0, 0, 0, 0, []),
  (2, .getfield 9, false, [], 1, 0, 0, 0, 0, []),
  (5, .putfield 9, false, [], 1, 0, 0, 0, 0, []),
  (8, .aload_n 0, false, [], 0, 0, 0, 0, 0, []),
  (9, .aload_n 1, false, [], 0, 0, 0, 0, 0, []),
  (10, .getfield 15, false, [], 1, 1, 0, 0, 0, []),
  (13, .putfield 15, false, [], 1, 1, 0, 0, 0, []),
  (16, .aload_n 0, false, [], 0, 0, 0, 0, 0, []),
  (17, .aload_n 1, false, [], 0, 0, 0, 0, 0, []),
  (18, .getfield 18, false, [], 1, 2, 0, 0, 0, []),
  (21, .putfield 18, false, [], 1, 2, 0, 0, 0, []),
  (24, .aload_n 0, false, [], 0, 0, 0, 0, 0, []),
  (25, .aload_n 1, false, [], 0, 0, 0, 0, 0, []),
  (26, .getfield 21, false, [], 1, 3, 0, 0, 0, []),
  (29, .putfield 21, false, [], 1, 3, 0, 0, 0, []),
  (32, .aload_n 0, false, [], 0, 0, 0, 0, 0, []),
  (33, .aload_n 1, false, [], 0, 0, 0, 0, 0, []),
  (34, .getfield 24, false, [], 1, 4, 0, 0, 0, []),
  (37, .putfield 24, false, [], 1, 4, 0, 0, 0, []),
  (40, .aload_n 0, false, [], 0, 0, 0, 0, 0, []),
  (41, .aload_n 1, false, [], 0, 0, 0, 0, 0, []),
  (42, .getfield 27, false, [], 1, 5, 0, 0, 0, []),
  (45, .putfield 27, false, [], 1, 5, 0, 0, 0, []),
  (48, .return_, false, [], 0, 0, 0, 0, 0, [])]
def kk_X1_isOf : List mx_I := [
  (0, .aload_n 0, false, [], 0, 0, 0, 0, 0, []),
  (1, .getfield 9, false, [], 1, 0, 0, 0, 0, []),
  (4, .istore_n 2, false, [], 0, 0, 0, 0, 0, []),
  (5, .iconst 0, false, [], 0, 0, 0, 0, 0, []),
  (6, .istore_n 3, false, [], 0, 0, 0, 0, 0, []),
  (7, .iload_n 3, true, [1, 2, 3], 0, 0, 0, 0, 0, []),
  (8, .bipush 6, false, [], 0, 0, 0, 0, 6, []),
  (10, .if_icmp .ge 26, false, [], 36, 0, 0, 0, 0, []),
  (13, .iload_n 2, false, [], 0, 0, 0, 0, 0, []),
  (14, .ifCond .lt 22, false, [], 36, 0, 0, 0, 0, []),
  (17, .iload_n 2, false, [], 0, 0, 0, 0, 0, []),
  (18, .iload_n 1, false, [], 0, 0, 0, 0, 0, []),
  (19, .if_icmp .ne 5, false, [], 24, 0, 0, 0, 0, []),
  (22, .iconst 1, false, [], 0, 0, 0, 0, 1, []),
  (23, .ireturn, false, [], 0, 0, 0, 1, 0, []),
  (24, .getstatic 30, false, [], 200, 0, 0, 0, 2, []),
  (27, .iload_n 2, false, [], 0, 0, 0, 0, 0, []),
  (28, .iaload, false, [], 0, 0, 0, 0, 0, []),
  (29, .istore_n 2, false, [], 0, 0, 0, 0, 0, []),
  (30, .iinc 3 1, false, [], 0, 0, 0, 0, 1, []),
  (33, .goto (-26), false, [], 7, 0, 0, 0, 0, []),
  (36, .iconst 0, false, [], 0, 0, 0, 0, 0, []),
  (37, .ireturn, false, [], 0, 0, 0, 1, 0, [])]
def kk_X1_takes : List mx_I := [
  (0, .bipush 99, false, [], 0, 0, 0, 0, 99, []),
  (2, .iload_n 1, false, [], 0, 0, 0, 0, 0, []),
  (3, .bipush 10, false, [], 0, 0, 0, 0, 10, []),
  (5, .iadd, false, [], 0, 0, 0, 0, 0, []),
  (6, .invokestatic 34, false, [], 3, 2, 1, 0, 0, []),
  (9, .istore_n 2, false, [], 0, 0, 0, 0, 0, []),
  (10, .iload_n 1, false, [], 0, 0, 0, 0, 0, []),
  (11, .iconst 2, false, [], 0, 0, 0, 0, 2, []),
  (12, .idiv, false, [], 0, 0, 0, 0, 0, []),
  (13, .istore_n 3, false, [], 0, 0, 0, 0, 0, []),
  (14, .aload_n 0, false, [], 0, 0, 0, 0, 0, []),
  (15, .getfield 9, false, [], 1, 0, 0, 0, 0, []),
  (18, .tableswitch 62 1 5 #[34, 50, 36, 52, 59], false, [], 80, 34, 0, 0, 0, [(1, 52), (2, 68), (3, 54), (4, 70), (5, 77)]),
  (52, .iload_n 2, false, [], 0, 0, 0, 0, 0, []),
  (53, .ireturn, false, [], 0, 0, 0, 0, 0, []),
  (54, .bipush 99, false, [], 0, 0, 0, 0, 99, []),
  (56, .iload_n 2, false, [], 0, 0, 0, 0, 0, []),
  (57, .iconst 2, false, [], 0, 0, 0, 0, 2, []),
  (58, .aload_n 0, false, [], 0, 0, 0, 0, 0, []),
  (59, .getfield 27, false, [], 1, 5, 0, 0, 0, []),
  (62, .imul, false, [], 0, 0, 0, 0, 0, []),
  (63, .iadd, false, [], 0, 0, 0, 0, 0, []),
  (64, .invokestatic 34, false, [], 3, 2, 1, 0, 0, []),
  (67, .ireturn, false, [], 0, 0, 0, 0, 0, []),
  (68, .iload_n 3, false, [], 0, 0, 0, 0, 0, []),
  (69, .ireturn, false, [], 0, 0, 0, 0, 0, []),
  (70, .bipush 30, false, [], 0, 0, 0, 0, 30, []),
  (72, .iload_n 3, false, [], 0, 0, 0, 0, 0, []),
  (73, .invokestatic 40, false, [], 2, 2, 1, 0, 0, []),
  (76, .ireturn, false, [], 0, 0, 0, 0, 0, []),
  (77, .bipush 20, false, [], 0, 0, 0, 0, 20, []),
  (79, .ireturn, false, [], 0, 0, 0, 0, 0, []),
  (80, .iload_n 1, false, [], 0, 0, 0, 0, 0, []),
  (81, .ireturn, false, [], 0, 0, 0, 0, 0, [])]
def kk_X1_loses : List mx_I := [
  (0, .iconst 5, false, [], 0, 0, 0, 0, 5, []),
  (1, .istore_n 1, false, [], 0, 0, 0, 0, 0, []),
  (2, .iload_n 1, false, [], 0, 0, 0, 0, 0, []),
  (3, .iconst 2, false, [], 0, 0, 0, 0, 2, []),
  (4, .isub, false, [], 0, 0, 0, 0, 0, []),
  (5, .istore_n 2, false, [], 0, 0, 0, 0, 0, []),
  (6, .iload_n 1, false, [], 0, 0, 0, 0, 0, []),
  (7, .aload_n 0, false, [], 0, 0, 0, 0, 0, []),
  (8, .getfield 24, false, [], 1, 4, 0, 0, 0, []),
  (11, .bipush 10, false, [], 0, 0, 0, 0, 10, []),
  (13, .idiv, false, [], 0, 0, 0, 0, 0, []),
  (14, .iadd, false, [], 0, 0, 0, 0, 0, []),
  (15, .istore_n 3, false, [], 0, 0, 0, 0, 0, []),
  (16, .aload_n 0, false, [], 0, 0, 0, 0, 0, []),
  (17, .getfield 9, false, [], 1, 0, 0, 0, 0, []),
  (20, .tableswitch 50 1 5 #[36, 42, 38, 44, 48], false, [], 70, 36, 0, 0, 0, [(1, 56), (2, 62), (3, 58), (4, 64), (5, 68)]),
  (56, .iload_n 2, false, [], 0, 0, 0, 0, 0, []),
  (57, .ireturn, false, [], 0, 0, 0, 0, 0, []),
  (58, .iload_n 2, false, [], 0, 0, 0, 0, 0, []),
  (59, .iconst 2, false, [], 0, 0, 0, 0, 2, []),
  (60, .idiv, false, [], 0, 0, 0, 0, 0, []),
  (61, .ireturn, false, [], 0, 0, 0, 0, 0, []),
  (62, .iload_n 3, false, [], 0, 0, 0, 0, 0, []),
  (63, .ireturn, false, [], 0, 0, 0, 0, 0, []),
  (64, .iconst 2, false, [], 0, 0, 0, 0, 2, []),
  (65, .iload_n 3, false, [], 0, 0, 0, 0, 0, []),
  (66, .imul, false, [], 0, 0, 0, 0, 0, []),
  (67, .ireturn, false, [], 0, 0, 0, 0, 0, []),
  (68, .iconst 1, false, [], 0, 0, 0, 0, 1, []),
  (69, .ireturn, false, [], 0, 0, 0, 0, 0, []),
  (70, .iload_n 1, false, [], 0, 0, 0, 0, 0, []),
  (71, .ireturn, false, [], 0, 0, 0, 0, 0, [])]
def kk_X1_bags : List mx_I := [
  (0, .bipush 6, false, [], 0, 0, 0, 0, 6, []),
  (2, .istore_n 1, false, [], 0, 0, 0, 0, 0, []),
  (3, .iconst 2, false, [], 0, 0, 0, 0, 2, []),
  (4, .iload_n 1, false, [], 0, 0, 0, 0, 0, []),
  (5, .imul, false, [], 0, 0, 0, 0, 0, []),
  (6, .istore_n 2, false, [], 0, 0, 0, 0, 0, []),
  (7, .aload_n 0, false, [], 0, 0, 0, 0, 0, []),
  (8, .getfield 9, false, [], 1, 0, 0, 0, 0, []),
  (11, .tableswitch 47 1 5 #[33, 37, 33, 39, 43], false, [], 58, 33, 0, 0, 0, [(1, 44), (2, 48), (3, 44), (4, 50), (5, 54)]),
  (44, .iload_n 1, false, [], 0, 0, 0, 0, 0, []),
  (45, .iconst 1, false, [], 0, 0, 0, 0, 1, []),
  (46, .isub, false, [], 0, 0, 0, 0, 0, []),
  (47, .ireturn, false, [], 0, 0, 0, 0, 0, []),
  (48, .iload_n 2, false, [], 0, 0, 0, 0, 0, []),
  (49, .ireturn, false, [], 0, 0, 0, 0, 0, []),
  (50, .iload_n 2, false, [], 0, 0, 0, 0, 0, []),
  (51, .iconst 4, false, [], 0, 0, 0, 0, 4, []),
  (52, .isub, false, [], 0, 0, 0, 0, 0, []),
  (53, .ireturn, false, [], 0, 0, 0, 0, 0, []),
  (54, .iload_n 1, false, [], 0, 0, 0, 0, 0, []),
  (55, .iconst 4, false, [], 0, 0, 0, 0, 4, []),
  (56, .isub, false, [], 0, 0, 0, 0, 0, []),
  (57, .ireturn, false, [], 0, 0, 0, 0, 0, []),
  (58, .iload_n 1, false, [], 0, 0, 0, 0, 0, []),
  (59, .ireturn, false, [], 0, 0, 0, 0, 0, [])]
def kk_X1_worth : List mx_I := [
  (0, .iconst 0, false, [], 0, 0, 0, 0, 0, []),
  (1, .aload_n 0, false, [], 0, 0, 0, 0, 0, []),
  (2, .getfield 18, false, [], 1, 2, 0, 0, 0, []),
  (5, .aload_n 0, false, [], 0, 0, 0, 0, 0, []),
  (6, .getfield 21, false, [], 1, 3, 0, 0, 0, []),
  (9, .isub, false, [], 0, 0, 0, 0, 0, []),
  (10, .invokestatic 40, false, [], 2, 2, 1, 0, 0, []),
  (13, .istore_n 1, false, [], 0, 0, 0, 0, 0, []),
  (14, .iload_n 1, false, [], 0, 0, 0, 0, 0, []),
  (15, .aload_n 0, false, [], 0, 0, 0, 0, 0, []),
  (16, .getfield 27, false, [], 1, 5, 0, 0, 0, []),
  (19, .iadd, false, [], 0, 0, 0, 0, 0, []),
  (20, .istore_n 2, false, [], 0, 0, 0, 0, 0, []),
  (21, .bipush 99, false, [], 0, 0, 0, 0, 99, []),
  (23, .aload_n 0, false, [], 0, 0, 0, 0, 0, []),
  (24, .getfield 24, false, [], 1, 4, 0, 0, 0, []),
  (27, .isub, false, [], 0, 0, 0, 0, 0, []),
  (28, .istore_n 3, false, [], 0, 0, 0, 0, 0, []),
  (29, .aload_n 0, false, [], 0, 0, 0, 0, 0, []),
  (30, .getfield 9, false, [], 1, 0, 0, 0, 0, []),
  (33, .tableswitch 52 1 5 #[35, 41, 37, 43, 47], false, [], 85, 35, 0, 0, 0, [(1, 68), (2, 74), (3, 70), (4, 76), (5, 80)]),
  (68, .iload_n 2, false, [], 0, 0, 0, 0, 0, []),
  (69, .ireturn, false, [], 0, 0, 0, 0, 0, []),
  (70, .iconst 2, false, [], 0, 0, 0, 0, 2, []),
  (71, .iload_n 2, false, [], 0, 0, 0, 0, 0, []),
  (72, .imul, false, [], 0, 0, 0, 0, 0, []),
  (73, .ireturn, false, [], 0, 0, 0, 0, 0, []),
  (74, .iload_n 3, false, [], 0, 0, 0, 0, 0, []),
  (75, .ireturn, false, [], 0, 0, 0, 0, 0, []),
  (76, .iload_n 3, false, [], 0, 0, 0, 0, 0, []),
  (77, .iconst 2, false, [], 0, 0, 0, 0, 2, []),
  (78, .idiv, false, [], 0, 0, 0, 0, 0, []),
  (79, .ireturn, false, [], 0, 0, 0, 0, 0, []),
  (80, .aload_n 0, false, [], 0, 0, 0, 0, 0, []),
  (81, .getfield 24, false, [], 1, 4, 0, 0, 0, []),
  (84, .ireturn, false, [], 0, 0, 0, 0, 0, []),
  (85, .iload_n 1, false, [], 0, 0, 0, 0, 0, []),
  (86, .ireturn, false, [], 0, 0, 0, 0, 0, [])]
def kk_X2_init : List mx_I := [
  (0, .aload_n 0, false, [], 0, 0, 0, 0, 0, []),
  (1, .invokespecial 3, false, [], 0, 0, 9, 0, 0, []),
  (4, .aload_n 0, false, [], 0, 0, 0, 0, 0, []),
  (5, .iconst 0, false, [], 0, 0, 0, 0, 0, []),
  (6, .newarray .int, false, [], 0, 0, 0, 0, 0, []),
  (8, .putfield 9, false, [], 2, 0, 1, 0, 0, []),
  (11, .aload_n 0, false, [], 0, 0, 0, 0, 0, []),
  (12, .bipush 96, false, [], 0, 0, 0, 0, 96, []),
  (14, .newarray .int, false, [], 0, 0, 0, 0, 0, []),
  (16, .putfield 15, false, [], 2, 5, 1, 0, 0, []),
  (19, .aload_n 0, false, [], 0, 0, 0, 0, 0, []),
  (20, .bipush 96, false, [], 0, 0, 0, 0, 96, []),
  (22, .newarray .int, false, [], 0, 0, 0, 0, 0, []),
  (24, .putfield 18, false, [], 2, 7, 1, 0, 0, []),
  (27, .aload_n 0, false, [], 0, 0, 0, 0, 0, []),
  (28, .bipush 9, false, [], 0, 0, 0, 0, 9, []),
  (30, .newarray .boolean, false, [], 1, 0, 0, 0, 0, []),
  (32, .putfield 21, false, [], 2, 9, 1, 0, 0, []),
  (35, .return_, false, [], 0, 0, 0, 0, 0, [])]
def kk_X2_faultOf : List mx_I := [
  (0, .aload_n 0, false, [], 0, 0, 0, 0, 0, []),
  (1, .aload_n 1, false, [], 0, 0, 0, 0, 0, []),
  (2, .iload_n 2, false, [], 0, 0, 0, 0, 0, []),
  (3, .invokevirtual 25, false, [], 52, 2, 0, 2, 0, []),
  (6, .aload_n 0, false, [], 0, 0, 0, 0, 0, []),
  (7, .invokevirtual 29, false, [], 54, 0, 0, 2, 0, []),
  (10, .aload_n 0, false, [], 0, 0, 0, 0, 0, []),
  (11, .aload_n 0, false, [], 0, 0, 0, 0, 0, []),
  (12, .invokevirtual 32, false, [], 56, 0, 1, 2, 0, []),
  (15, .putfield 36, false, [], 2, 13, 0, 0, 0, []),
  (18, .aload_n 0, false, [], 0, 0, 0, 0, 0, []),
  (19, .getfield 36, false, [], 2, 13, 0, 0, 0, []),
  (22, .ifCond .ge 8, false, [], 30, 0, 0, 0, 0, []),
  (25, .aload_n 0, false, [], 0, 0, 0, 0, 0, []),
  (26, .getfield 40, false, [], 2, 3, 0, 0, 0, []),
  (29, .ireturn, false, [], 0, 0, 0, 0, 0, []),
  (30, .aload_n 0, false, [], 0, 0, 0, 0, 0, []),
  (31, .invokevirtual 29, false, [], 54, 0, 0, 2, 0, []),
  (34, .iconst 0, false, [], 0, 0, 0, 0, 0, []),
  (35, .istore_n 3, false, [], 0, 0, 0, 0, 0, []),
  (36, .iload_n 3, true, [0, 3], 0, 0, 0, 0, 0, []),
  (37, .aload_n 0, false, [], 0, 0, 0, 0, 0, []),
  (38, .getfield 43, false, [], 2, 1, 0, 0, 0, []),
  (41, .if_icmp .gt 50, false, [], 91, 0, 0, 0, 0, []),
  (44, .aload_n 0, false, [], 0, 0, 0, 0, 0, []),
  (45, .invokevirtual 46, false, [], 53, 0, 1, 2, 0, []),
  (48, .ifCond .ne 43, false, [], 91, 0, 0, 0, 0, []),
  (51, .aload_n 0, false, [], 0, 0, 0, 0, 0, []),
  (52, .getfield 50, false, [], 2, 12, 0, 0, 0, []),
  (55, .ifCond .eq 10, false, [], 65, 0, 0, 0, 0, []),
  (58, .aload_n 0, false, [], 0, 0, 0, 0, 0, []),
  (59, .invokevirtual 54, false, [], 58, 0, 1, 2, 0, []),
  (62, .goto 7, false, [], 69, 0, 0, 0, 0, []),
  (65, .aload_n 0, false, [], 0, 0, 0, 0, 0, []),
  (66, .invokevirtual 57, false, [], 65, 0, 1, 2, 0, []),
  (69, .istore 4, false, [], 0, 0, 0, 0, 0, []),
  (71, .iload 4, false, [], 0, 0, 0, 0, 0, []),
  (73, .ifCond .ne 8, false, [], 81, 0, 0, 0, 0, []),
  (76, .aload_n 0, false, [], 0, 0, 0, 0, 0, []),
  (77, .getfield 40, false, [], 2, 3, 0, 0, 0, []),
  (80, .ireturn, false, [], 0, 0, 0, 0, 0, []),
  (81, .aload_n 0, false, [], 0, 0, 0, 0, 0, []),
  (82, .invokevirtual 29, false, [], 54, 0, 0, 2, 0, []),
  (85, .iinc 3 1, false, [], 0, 0, 0, 0, 1, []),
  (88, .goto (-52), false, [], 36, 0, 0, 0, 0, []),
  (91, .aload_n 0, false, [], 0, 0, 0, 0, 0, []),
  (92, .iconst 1, false, [], 0, 0, 0, 0, 1, []),
  (93, .invokevirtual 60, false, [], 68, 1, 0, 2, 0, []),
  (96, .iconst (-1), false, [], 0, 0, 0, 0, (-1), []),
  (97, .ireturn, false, [], 0, 0, 0, 0, 0, [])]
def kk_X2_textRead : List mx_I := [
  (0, .new 64, false, [], 5, 0, 0, 0, 0, []),
  (3, .dup, false, [], 0, 0, 0, 0, 0, []),
  (4, .aload_n 0, false, [], 0, 0, 0, 0, 0, []),
  (5, .getfield 36, false, [], 2, 13, 0, 0, 0, []),
  (8, .aload_n 0, false, [], 0, 0, 0, 0, 0, []),
  (9, .getfield 66, false, [], 2, 14, 0, 0, 0, []),
  (12, .aload_n 0, false, [], 0, 0, 0, 0, 0, []),
  (13, .getfield 15, false, [], 2, 5, 1, 0, 0, []),
  (16, .aload_n 0, false, [], 0, 0, 0, 0, 0, []),
  (17, .getfield 69, false, [], 2, 6, 0, 0, 0, []),
  (20, .invokestatic 72, false, [], 6, 2, 2, 0, 0, []),
  (23, .invokespecial 78, false, [], 79, 3, 0, 0, 0, []),
  (26, .areturn, false, [], 0, 0, 0, 0, 0, [])]
def kk_X2_begin : List mx_I := [
  (0, .aload_n 0, false, [], 0, 0, 0, 0, 0, []),
  (1, .aload_n 1, false, [], 0, 0, 0, 0, 0, []),
  (2, .putfield 9, false, [], 2, 0, 1, 0, 0, []),
  (5, .aload_n 0, false, [], 0, 0, 0, 0, 0, []),
  (6, .iload_n 2, false, [], 0, 0, 0, 0, 0, []),
  (7, .aload_n 1, false, [], 0, 0, 0, 0, 0, []),
  (8, .arraylength, false, [], 0, 0, 0, 0, 0, []),
  (9, .invokestatic 81, false, [], 3, 2, 1, 0, 0, []),
  (12, .putfield 43, false, [], 2, 1, 0, 0, 0, []),
  (15, .aload_n 0, false, [], 0, 0, 0, 0, 0, []),
  (16, .iconst 3, false, [], 0, 0, 0, 0, 3, []),
  (17, .putfield 87, false, [], 2, 2, 0, 0, 0, []),
  (20, .aload_n 0, false, [], 0, 0, 0, 0, 0, []),
  (21, .iconst 0, false, [], 0, 0, 0, 0, 0, []),
  (22, .putfield 40, false, [], 2, 3, 0, 0, 0, []),
  (25, .aload_n 0, false, [], 0, 0, 0, 0, 0, []),
  (26, .iconst 0, false, [], 0, 0, 0, 0, 0, []),
  (27, .putfield 90, false, [], 2, 4, 0, 0, 0, []),
  (30, .aload_n 0, false, [], 0, 0, 0, 0, 0, []),
  (31, .iconst 0, false, [], 0, 0, 0, 0, 0, []),
  (32, .putfield 69, false, [], 2, 6, 0, 0, 0, []),
  (35, .aload_n 0, false, [], 0, 0, 0, 0, 0, []),
  (36, .iconst 0, false, [], 0, 0, 0, 0, 0, []),
  (37, .putfield 93, false, [], 2, 8, 0, 0, 0, []),
  (40, .aload_n 0, false, [], 0, 0, 0, 0, 0, []),
  (41, .getfield 21, false, [], 2, 9, 1, 0, 0, []),
  (44, .iconst 0, false, [], 0, 0, 0, 0, 0, []),
  (45, .iconst 0, false, [], 0, 0, 0, 0, 0, []),
  (46, .bastore, false, [], 0, 0, 0, 0, 0, []),
  (47, .aload_n 0, false, [], 0, 0, 0, 0, 0, []),
  (48, .iconst 0, false, [], 0, 0, 0, 0, 0, []),
  (49, .putfield 96, false, [], 2, 10, 0, 0, 0, []),
  (52, .aload_n 0, false, [], 0, 0, 0, 0, 0, []),
  (53, .iconst 0, false, [], 0, 0, 0, 0, 0, []),
  (54, .putfield 99, false, [], 2, 11, 0, 0, 0, []),
  (57, .aload_n 0, false, [], 0, 0, 0, 0, 0, []),
  (58, .iconst 1, false, [], 0, 0, 0, 0, 1, []),
  (59, .putfield 50, false, [], 2, 12, 2, 0, 0, []),
  (62, .aload_n 0, false, [], 0, 0, 0, 0, 0, []),
  (63, .iconst 0, false, [], 0, 0, 0, 0, 0, []),
  (64, .putfield 66, false, [], 2, 14, 0, 0, 0, []),
  (67, .return_, false, [], 0, 0, 0, 0, 0, [])]
def kk_X2_isWhole : List mx_I := [
  (0, .aload_n 0, false, [], 0, 0, 0, 0, 0, []),
  (1, .getfield 87, false, [], 2, 2, 0, 0, 0, []),
  (4, .ifCond .ne 21, false, [], 25, 0, 0, 0, 0, []),
  (7, .aload_n 0, false, [], 0, 0, 0, 0, 0, []),
  (8, .getfield 50, false, [], 2, 12, 0, 0, 0, []),
  (11, .ifCond .ne 14, false, [], 25, 0, 0, 0, 0, []),
  (14, .aload_n 0, false, [], 0, 0, 0, 0, 0, []),
  (15, .getfield 96, false, [], 2, 10, 0, 0, 0, []),
  (18, .ifCond .ne 7, false, [], 25, 0, 0, 0, 0, []),
  (21, .iconst 1, false, [], 0, 0, 0, 0, 1, []),
  (22, .goto 4, false, [], 26, 0, 0, 0, 0, []),
  (25, .iconst 0, false, [], 0, 0, 0, 0, 0, []),
  (26, .ireturn, false, [], 0, 0, 0, 1, 0, [])]
def kk_X2_nextWord : List mx_I := [
  (0, .aload_n 0, false, [], 0, 0, 0, 0, 0, []),
  (1, .getfield 87, false, [], 2, 2, 0, 0, 0, []),
  (4, .iconst 1, false, [], 0, 0, 0, 0, 1, []),
  (5, .if_icmp .eq 11, false, [], 16, 0, 0, 0, 0, []),
  (8, .aload_n 0, false, [], 0, 0, 0, 0, 0, []),
  (9, .getfield 87, false, [], 2, 2, 0, 0, 0, []),
  (12, .iconst 2, false, [], 0, 0, 0, 0, 2, []),
  (13, .if_icmp .ne 7, false, [], 20, 0, 0, 0, 0, []),
  (16, .iconst 1, false, [], 0, 0, 0, 0, 1, []),
  (17, .goto 4, false, [], 21, 0, 0, 0, 0, []),
  (20, .iconst 0, false, [], 0, 0, 0, 0, 0, []),
  (21, .istore_n 1, false, [], 0, 0, 0, 0, 0, []),
  (22, .aload_n 0, false, [], 0, 0, 0, 0, 0, []),
  (23, .aload_n 0, false, [], 0, 0, 0, 0, 0, []),
  (24, .getfield 90, false, [], 2, 4, 0, 0, 0, []),
  (27, .putfield 40, false, [], 2, 3, 0, 0, 0, []),
  (30, .aload_n 0, true, [0, 1], 0, 0, 0, 0, 0, []),
  (31, .getfield 40, false, [], 2, 3, 0, 0, 0, []),
  (34, .aload_n 0, false, [], 0, 0, 0, 0, 0, []),
  (35, .getfield 43, false, [], 2, 1, 0, 0, 0, []),
  (38, .if_icmp .ge 30, false, [], 68, 0, 0, 0, 0, []),
  (41, .aload_n 0, false, [], 0, 0, 0, 0, 0, []),
  (42, .getfield 9, false, [], 2, 0, 1, 0, 0, []),
  (45, .aload_n 0, false, [], 0, 0, 0, 0, 0, []),
  (46, .getfield 40, false, [], 2, 3, 0, 0, 0, []),
  (49, .iaload, false, [], 0, 0, 0, 0, 0, []),
  (50, .bipush 32, false, [], 0, 0, 0, 0, 32, []),
  (52, .if_icmp .ne 16, false, [], 68, 0, 0, 0, 0, []),
  (55, .aload_n 0, false, [], 0, 0, 0, 0, 0, []),
  (56, .dup, false, [], 0, 0, 0, 0, 0, []),
  (57, .getfield 40, false, [], 2, 3, 0, 0, 0, []),
  (60, .iconst 1, false, [], 0, 0, 0, 0, 1, []),
  (61, .iadd, false, [], 0, 0, 0, 0, 0, []),
  (62, .putfield 40, false, [], 2, 3, 0, 0, 0, []),
  (65, .goto (-35), false, [], 30, 0, 0, 0, 0, []),
  (68, .aload_n 0, false, [], 0, 0, 0, 0, 0, []),
  (69, .getfield 40, false, [], 2, 3, 0, 0, 0, []),
  (72, .aload_n 0, false, [], 0, 0, 0, 0, 0, []),
  (73, .getfield 43, false, [], 2, 1, 0, 0, 0, []),
  (76, .if_icmp .lt 17, false, [], 93, 0, 0, 0, 0, []),
  (79, .aload_n 0, false, [], 0, 0, 0, 0, 0, []),
  (80, .iconst 0, false, [], 0, 0, 0, 0, 0, []),
  (81, .putfield 87, false, [], 2, 2, 0, 0, 0, []),
  (84, .aload_n 0, false, [], 0, 0, 0, 0, 0, []),
  (85, .aload_n 0, false, [], 0, 0, 0, 0, 0, []),
  (86, .getfield 40, false, [], 2, 3, 0, 0, 0, []),
  (89, .putfield 90, false, [], 2, 4, 0, 0, 0, []),
  (92, .return_, false, [], 0, 0, 0, 0, 0, []),
  (93, .aload_n 0, false, [], 0, 0, 0, 0, 0, []),
  (94, .getfield 40, false, [], 2, 3, 0, 0, 0, []),
  (97, .aload_n 0, false, [], 0, 0, 0, 0, 0, []),
  (98, .getfield 90, false, [], 2, 4, 0, 0, 0, []),
  (101, .if_icmp .le 7, false, [], 108, 0, 0, 0, 0, []),
  (104, .iconst 1, false, [], 0, 0, 0, 0, 1, []),
  (105, .goto 4, false, [], 109, 0, 0, 0, 0, []),
  (108, .iconst 0, false, [], 0, 0, 0, 0, 0, []),
  (109, .istore_n 2, false, [], 0, 0, 0, 0, 0, []),
  (110, .aload_n 0, false, [], 0, 0, 0, 0, 0, []),
  (111, .aload_n 0, false, [], 0, 0, 0, 0, 0, []),
  (112, .getfield 9, false, [], 2, 0, 1, 0, 0, []),
  (115, .aload_n 0, false, [], 0, 0, 0, 0, 0, []),
  (116, .getfield 40, false, [], 2, 3, 0, 0, 0, []),
  (119, .iaload, false, [], 0, 0, 0, 0, 0, []),
  (120, .invokestatic 102, false, [], 55, 1, 1, 0, 0, []),
  (123, .putfield 87, false, [], 2, 2, 0, 0, 0, []),
  (126, .aload_n 0, false, [], 0, 0, 0, 0, 0, []),
  (127, .aload_n 0, false, [], 0, 0, 0, 0, 0, []),
  (128, .getfield 40, false, [], 2, 3, 0, 0, 0, []),
  (131, .iconst 1, false, [], 0, 0, 0, 0, 1, []),
  (132, .iadd, false, [], 0, 0, 0, 0, 0, []),
  (133, .putfield 90, false, [], 2, 4, 0, 0, 0, []),
  (136, .aload_n 0, false, [], 0, 0, 0, 0, 0, []),
  (137, .getfield 87, false, [], 2, 2, 0, 0, 0, []),
  (140, .iconst 3, false, [], 0, 0, 0, 0, 3, []),
  (141, .if_icmp .ne 4, false, [], 145, 0, 0, 0, 0, []),
  (144, .return_, false, [], 0, 0, 0, 0, 0, []),
  (145, .aload_n 0, true, [0, 1, 2], 0, 0, 0, 0, 0, []),
  (146, .getfield 90, false, [], 2, 4, 0, 0, 0, []),
  (149, .aload_n 0, false, [], 0, 0, 0, 0, 0, []),
  (150, .getfield 43, false, [], 2, 1, 0, 0, 0, []),
  (153, .if_icmp .ge 35, false, [], 188, 0, 0, 0, 0, []),
  (156, .aload_n 0, false, [], 0, 0, 0, 0, 0, []),
  (157, .getfield 9, false, [], 2, 0, 1, 0, 0, []),
  (160, .aload_n 0, false, [], 0, 0, 0, 0, 0, []),
  (161, .getfield 90, false, [], 2, 4, 0, 0, 0, []),
  (164, .iaload, false, [], 0, 0, 0, 0, 0, []),
  (165, .invokestatic 102, false, [], 55, 1, 1, 0, 0, []),
  (168, .aload_n 0, false, [], 0, 0, 0, 0, 0, []),
  (169, .getfield 87, false, [], 2, 2, 0, 0, 0, []),
  (172, .if_icmp .ne 16, false, [], 188, 0, 0, 0, 0, []),
  (175, .aload_n 0, false, [], 0, 0, 0, 0, 0, []),
  (176, .dup, false, [], 0, 0, 0, 0, 0, []),
  (177, .getfield 90, false, [], 2, 4, 0, 0, 0, []),
  (180, .iconst 1, false, [], 0, 0, 0, 0, 1, []),
  (181, .iadd, false, [], 0, 0, 0, 0, 0, []),
  (182, .putfield 90, false, [], 2, 4, 0, 0, 0, []),
  (185, .goto (-40), false, [], 145, 0, 0, 0, 0, []),
  (188, .iload_n 1, false, [], 0, 0, 0, 0, 0, []),
  (189, .ifCond .eq 12, false, [], 201, 0, 0, 0, 0, []),
  (192, .iload_n 2, false, [], 0, 0, 0, 0, 0, []),
  (193, .ifCond .ne 8, false, [], 201, 0, 0, 0, 0, []),
  (196, .aload_n 0, false, [], 0, 0, 0, 0, 0, []),
  (197, .iconst 4, false, [], 0, 0, 0, 0, 4, []),
  (198, .putfield 87, false, [], 2, 2, 0, 0, 0, []),
  (201, .return_, false, [], 0, 0, 0, 0, 0, [])]
def kk_X2_sortOf : List mx_I := [
  (0, .iload_n 0, false, [], 0, 0, 0, 0, 0, []),
  (1, .bipush 97, false, [], 0, 0, 0, 0, 97, []),
  (3, .if_icmp .lt 11, false, [], 14, 0, 0, 0, 0, []),
  (6, .iload_n 0, false, [], 0, 0, 0, 0, 0, []),
  (7, .bipush 122, false, [], 0, 0, 0, 0, 122, []),
  (9, .if_icmp .gt 5, false, [], 14, 0, 0, 0, 0, []),
  (12, .iconst 1, false, [], 0, 0, 0, 0, 1, []),
  (13, .ireturn, false, [], 0, 0, 0, 0, 0, []),
  (14, .iload_n 0, false, [], 0, 0, 0, 0, 0, []),
  (15, .bipush 48, false, [], 0, 0, 0, 0, 48, []),
  (17, .if_icmp .lt 13, false, [], 30, 0, 0, 0, 0, []),
  (20, .iload_n 0, false, [], 0, 0, 0, 0, 0, []),
  (21, .bipush 57, false, [], 0, 0, 0, 0, 57, []),
  (23, .if_icmp .gt 7, false, [], 30, 0, 0, 0, 0, []),
  (26, .iconst 2, false, [], 0, 0, 0, 0, 2, []),
  (27, .goto 4, false, [], 31, 0, 0, 0, 0, []),
  (30, .iconst 3, false, [], 0, 0, 0, 0, 3, []),
  (31, .ireturn, false, [], 0, 0, 0, 0, 0, [])]
def kk_X2_keyOfWord : List mx_I := [
  (0, .aload_n 0, false, [], 0, 0, 0, 0, 0, []),
  (1, .ldc 106, false, [], 0, 0, 1, 0, 0, []),
  (3, .invokevirtual 108, false, [], 57, 1, 1, 2, 0, []),
  (6, .ifCond .eq 5, false, [], 11, 0, 0, 0, 0, []),
  (9, .iconst 0, false, [], 0, 0, 0, 0, 0, []),
  (10, .ireturn, false, [], 0, 0, 0, 0, 0, []),
  (11, .aload_n 0, false, [], 0, 0, 0, 0, 0, []),
  (12, .ldc 112, false, [], 1, 0, 1, 0, 0, []),
  (14, .invokevirtual 108, false, [], 57, 1, 1, 2, 0, []),
  (17, .ifCond .eq 5, false, [], 22, 0, 0, 0, 0, []),
  (20, .iconst 1, false, [], 0, 0, 0, 0, 1, []),
  (21, .ireturn, false, [], 0, 0, 0, 0, 0, []),
  (22, .aload_n 0, false, [], 0, 0, 0, 0, 0, []),
  (23, .ldc 114, false, [], 2, 0, 1, 0, 0, []),
  (25, .invokevirtual 108, false, [], 57, 1, 1, 2, 0, []),
  (28, .ifCond .eq 7, false, [], 35, 0, 0, 0, 0, []),
  (31, .iconst 2, false, [], 0, 0, 0, 0, 2, []),
  (32, .goto 4, false, [], 36, 0, 0, 0, 0, []),
  (35, .iconst (-1), false, [], 0, 0, 0, 0, (-1), []),
  (36, .ireturn, false, [], 0, 0, 0, 0, 0, [])]
def kk_X2_isWord : List mx_I := [
  (0, .aload_n 0, false, [], 0, 0, 0, 0, 0, []),
  (1, .getfield 87, false, [], 2, 2, 0, 0, 0, []),
  (4, .iconst 1, false, [], 0, 0, 0, 0, 1, []),
  (5, .if_icmp .ne 19, false, [], 24, 0, 0, 0, 0, []),
  (8, .aload_n 0, false, [], 0, 0, 0, 0, 0, []),
  (9, .getfield 90, false, [], 2, 4, 0, 0, 0, []),
  (12, .aload_n 0, false, [], 0, 0, 0, 0, 0, []),
  (13, .getfield 40, false, [], 2, 3, 0, 0, 0, []),
  (16, .isub, false, [], 0, 0, 0, 0, 0, []),
  (17, .aload_n 1, false, [], 0, 0, 0, 0, 0, []),
  (18, .invokevirtual 116, false, [], 7, 0, 1, 99, 0, []),
  (21, .if_icmp .eq 5, false, [], 26, 0, 0, 0, 0, []),
  (24, .iconst 0, false, [], 0, 0, 0, 0, 0, []),
  (25, .ireturn, false, [], 0, 0, 0, 1, 0, []),
  (26, .iconst 0, false, [], 0, 0, 0, 0, 0, []),
  (27, .istore_n 2, false, [], 0, 0, 0, 0, 0, []),
  (28, .iload_n 2, true, [0, 1, 2], 0, 0, 0, 0, 0, []),
  (29, .aload_n 1, false, [], 0, 0, 0, 0, 0, []),
  (30, .invokevirtual 116, false, [], 7, 0, 1, 99, 0, []),
  (33, .if_icmp .ge 30, false, [], 63, 0, 0, 0, 0, []),
  (36, .aload_n 0, false, [], 0, 0, 0, 0, 0, []),
  (37, .getfield 9, false, [], 2, 0, 1, 0, 0, []),
  (40, .aload_n 0, false, [], 0, 0, 0, 0, 0, []),
  (41, .getfield 40, false, [], 2, 3, 0, 0, 0, []),
  (44, .iload_n 2, false, [], 0, 0, 0, 0, 0, []),
  (45, .iadd, false, [], 0, 0, 0, 0, 0, []),
  (46, .iaload, false, [], 0, 0, 0, 0, 0, []),
  (47, .aload_n 1, false, [], 0, 0, 0, 0, 0, []),
  (48, .iload_n 2, false, [], 0, 0, 0, 0, 0, []),
  (49, .invokevirtual 120, false, [], 8, 1, 1, 99, 0, []),
  (52, .if_icmp .eq 5, false, [], 57, 0, 0, 0, 0, []),
  (55, .iconst 0, false, [], 0, 0, 0, 0, 0, []),
  (56, .ireturn, false, [], 0, 0, 0, 1, 0, []),
  (57, .iinc 2 1, false, [], 0, 0, 0, 0, 1, []),
  (60, .goto (-32), false, [], 28, 0, 0, 0, 0, []),
  (63, .iconst 1, false, [], 0, 0, 0, 0, 1, []),
  (64, .ireturn, false, [], 0, 0, 0, 1, 0, [])]
def kk_X2_takesPiece : List mx_I := [
  (0, .aload_n 0, false, [], 0, 0, 0, 0, 0, []),
  (1, .getfield 87, false, [], 2, 2, 0, 0, 0, []),
  (4, .tableswitch 43 1 3 #[33, 28, 38], false, [], 47, 28, 0, 0, 0, [(1, 37), (2, 32), (3, 42)]),
  (32, .aload_n 0, false, [], 0, 0, 0, 0, 0, []),
  (33, .invokevirtual 124, false, [], 59, 0, 1, 2, 0, []),
  (36, .ireturn, false, [], 0, 0, 0, 1, 0, []),
  (37, .aload_n 0, false, [], 0, 0, 0, 0, 0, []),
  (38, .invokevirtual 127, false, [], 60, 0, 1, 2, 0, []),
  (41, .ireturn, false, [], 0, 0, 0, 1, 0, []),
  (42, .aload_n 0, false, [], 0, 0, 0, 0, 0, []),
  (43, .invokevirtual 130, false, [], 62, 0, 1, 2, 0, []),
  (46, .ireturn, false, [], 0, 0, 0, 1, 0, []),
  (47, .iconst 0, false, [], 0, 0, 0, 0, 0, []),
  (48, .ireturn, false, [], 0, 0, 0, 1, 0, [])]
def kk_X2_takesNumber : List mx_I := [
  (0, .aload_n 0, false, [], 0, 0, 0, 0, 0, []),
  (1, .getfield 90, false, [], 2, 4, 0, 0, 0, []),
  (4, .aload_n 0, false, [], 0, 0, 0, 0, 0, []),
  (5, .getfield 40, false, [], 2, 3, 0, 0, 0, []),
  (8, .isub, false, [], 0, 0, 0, 0, 0, []),
  (9, .iconst 4, false, [], 0, 0, 0, 0, 4, []),
  (10, .if_icmp .le 5, false, [], 15, 0, 0, 0, 0, []),
  (13, .iconst 0, false, [], 0, 0, 0, 0, 0, []),
  (14, .ireturn, false, [], 0, 0, 0, 1, 0, []),
  (15, .iconst 0, false, [], 0, 0, 0, 0, 0, []),
  (16, .istore_n 1, false, [], 0, 0, 0, 0, 0, []),
  (17, .aload_n 0, false, [], 0, 0, 0, 0, 0, []),
  (18, .getfield 40, false, [], 2, 3, 0, 0, 0, []),
  (21, .istore_n 2, false, [], 0, 0, 0, 0, 0, []),
  (22, .iload_n 2, true, [0, 1, 2], 0, 0, 0, 0, 0, []),
  (23, .aload_n 0, false, [], 0, 0, 0, 0, 0, []),
  (24, .getfield 90, false, [], 2, 4, 0, 0, 0, []),
  (27, .if_icmp .ge 24, false, [], 51, 0, 0, 0, 0, []),
  (30, .iload_n 1, false, [], 0, 0, 0, 0, 0, []),
  (31, .bipush 10, false, [], 0, 0, 0, 0, 10, []),
  (33, .imul, false, [], 0, 0, 0, 0, 0, []),
  (34, .aload_n 0, false, [], 0, 0, 0, 0, 0, []),
  (35, .getfield 9, false, [], 2, 0, 1, 0, 0, []),
  (38, .iload_n 2, false, [], 0, 0, 0, 0, 0, []),
  (39, .iaload, false, [], 0, 0, 0, 0, 0, []),
  (40, .iadd, false, [], 0, 0, 0, 0, 0, []),
  (41, .bipush 48, false, [], 0, 0, 0, 0, 48, []),
  (43, .isub, false, [], 0, 0, 0, 0, 0, []),
  (44, .istore_n 1, false, [], 0, 0, 0, 0, 0, []),
  (45, .iinc 2 1, false, [], 0, 0, 0, 0, 1, []),
  (48, .goto (-26), false, [], 22, 0, 0, 0, 0, []),
  (51, .aload_n 0, false, [], 0, 0, 0, 0, 0, []),
  (52, .iload_n 1, false, [], 0, 0, 0, 0, 0, []),
  (53, .invokevirtual 133, false, [], 63, 1, 0, 2, 0, []),
  (56, .iconst 1, false, [], 0, 0, 0, 0, 1, []),
  (57, .ireturn, false, [], 0, 0, 0, 1, 0, [])]
def kk_X2_takesName : List mx_I := [
  (0, .aload_n 0, false, [], 0, 0, 0, 0, 0, []),
  (1, .invokevirtual 136, false, [], 61, 0, 4, 2, 0, []),
  (4, .aload_n 0, false, [], 0, 0, 0, 0, 0, []),
  (5, .getfield 9, false, [], 2, 0, 1, 0, 0, []),
  (8, .aload_n 0, false, [], 0, 0, 0, 0, 0, []),
  (9, .getfield 40, false, [], 2, 3, 0, 0, 0, []),
  (12, .iaload, false, [], 0, 0, 0, 0, 0, []),
  (13, .i2c, false, [], 0, 0, 0, 0, 0, []),
  (14, .invokevirtual 140, false, [], 9, 1, 1, 99, 0, []),
  (17, .istore_n 1, false, [], 0, 0, 0, 0, 0, []),
  (18, .aload_n 0, false, [], 0, 0, 0, 0, 0, []),
  (19, .getfield 90, false, [], 2, 4, 0, 0, 0, []),
  (22, .aload_n 0, false, [], 0, 0, 0, 0, 0, []),
  (23, .getfield 40, false, [], 2, 3, 0, 0, 0, []),
  (26, .isub, false, [], 0, 0, 0, 0, 0, []),
  (27, .iconst 1, false, [], 0, 0, 0, 0, 1, []),
  (28, .if_icmp .ne 7, false, [], 35, 0, 0, 0, 0, []),
  (31, .iload_n 1, false, [], 0, 0, 0, 0, 0, []),
  (32, .ifCond .ge 5, false, [], 37, 0, 0, 0, 0, []),
  (35, .iconst 0, false, [], 0, 0, 0, 0, 0, []),
  (36, .ireturn, false, [], 0, 0, 0, 1, 0, []),
  (37, .aload_n 0, false, [], 0, 0, 0, 0, 0, []),
  (38, .sipush 10000, false, [], 0, 0, 0, 0, 10000, []),
  (41, .iload_n 1, false, [], 0, 0, 0, 0, 0, []),
  (42, .iadd, false, [], 0, 0, 0, 0, 0, []),
  (43, .invokevirtual 133, false, [], 63, 1, 0, 2, 0, []),
  (46, .iconst 1, false, [], 0, 0, 0, 0, 1, []),
  (47, .ireturn, false, [], 0, 0, 0, 1, 0, [])]
def kk_X2_namesOfKey : List mx_I := [
  (0, .aload_n 0, false, [], 0, 0, 0, 0, 0, []),
  (1, .getfield 36, false, [], 2, 13, 0, 0, 0, []),
  (4, .lookupswitch 34 #[(0, 28), (1, 31)], false, [], 38, 28, 0, 0, 0, [(0, 32), (1, 35)]),
  (32, .ldc 143, false, [], 3, 0, 1, 0, 0, []),
  (34, .areturn, false, [], 0, 0, 0, 0, 0, []),
  (35, .ldc 145, false, [], 4, 0, 1, 0, 0, []),
  (37, .areturn, false, [], 0, 0, 0, 0, 0, []),
  (38, .ldc 147, false, [], 5, 0, 1, 0, 0, []),
  (40, .areturn, false, [], 0, 0, 0, 0, 0, [])]
def kk_X2_takesOpening : List mx_I := [
  (0, .aload_n 0, false, [], 0, 0, 0, 0, 0, []),
  (1, .getfield 9, false, [], 2, 0, 1, 0, 0, []),
  (4, .aload_n 0, false, [], 0, 0, 0, 0, 0, []),
  (5, .getfield 40, false, [], 2, 3, 0, 0, 0, []),
  (8, .iaload, false, [], 0, 0, 0, 0, 0, []),
  (9, .istore_n 1, false, [], 0, 0, 0, 0, 0, []),
  (10, .iload_n 1, false, [], 0, 0, 0, 0, 0, []),
  (11, .bipush 33, false, [], 0, 0, 0, 0, 33, []),
  (13, .if_icmp .ne 29, false, [], 42, 0, 0, 0, 0, []),
  (16, .aload_n 0, false, [], 0, 0, 0, 0, 0, []),
  (17, .getfield 99, false, [], 2, 11, 0, 0, 0, []),
  (20, .bipush 8, false, [], 0, 0, 0, 0, 8, []),
  (22, .if_icmp .ge 20, false, [], 42, 0, 0, 0, 0, []),
  (25, .aload_n 0, false, [], 0, 0, 0, 0, 0, []),
  (26, .dup, false, [], 0, 0, 0, 0, 0, []),
  (27, .getfield 99, false, [], 2, 11, 0, 0, 0, []),
  (30, .iconst 1, false, [], 0, 0, 0, 0, 1, []),
  (31, .iadd, false, [], 0, 0, 0, 0, 0, []),
  (32, .putfield 99, false, [], 2, 11, 0, 0, 0, []),
  (35, .aload_n 0, false, [], 0, 0, 0, 0, 0, []),
  (36, .iload_n 1, false, [], 0, 0, 0, 0, 0, []),
  (37, .invokevirtual 149, false, [], 69, 1, 0, 2, 0, []),
  (40, .iconst 1, false, [], 0, 0, 0, 0, 1, []),
  (41, .ireturn, false, [], 0, 0, 0, 1, 0, []),
  (42, .iload_n 1, false, [], 0, 0, 0, 0, 0, []),
  (43, .bipush 40, false, [], 0, 0, 0, 0, 40, []),
  (45, .if_icmp .ne 39, false, [], 84, 0, 0, 0, 0, []),
  (48, .aload_n 0, false, [], 0, 0, 0, 0, 0, []),
  (49, .getfield 96, false, [], 2, 10, 0, 0, 0, []),
  (52, .bipush 8, false, [], 0, 0, 0, 0, 8, []),
  (54, .if_icmp .ge 30, false, [], 84, 0, 0, 0, 0, []),
  (57, .aload_n 0, false, [], 0, 0, 0, 0, 0, []),
  (58, .dup, false, [], 0, 0, 0, 0, 0, []),
  (59, .getfield 96, false, [], 2, 10, 0, 0, 0, []),
  (62, .iconst 1, false, [], 0, 0, 0, 0, 1, []),
  (63, .iadd, false, [], 0, 0, 0, 0, 0, []),
  (64, .putfield 96, false, [], 2, 10, 0, 0, 0, []),
  (67, .aload_n 0, false, [], 0, 0, 0, 0, 0, []),
  (68, .getfield 21, false, [], 2, 9, 1, 0, 0, []),
  (71, .aload_n 0, false, [], 0, 0, 0, 0, 0, []),
  (72, .getfield 96, false, [], 2, 10, 0, 0, 0, []),
  (75, .iconst 0, false, [], 0, 0, 0, 0, 0, []),
  (76, .bastore, false, [], 0, 0, 0, 0, 0, []),
  (77, .aload_n 0, false, [], 0, 0, 0, 0, 0, []),
  (78, .iload_n 1, false, [], 0, 0, 0, 0, 0, []),
  (79, .invokevirtual 149, false, [], 69, 1, 0, 2, 0, []),
  (82, .iconst 1, false, [], 0, 0, 0, 0, 1, []),
  (83, .ireturn, false, [], 0, 0, 0, 1, 0, []),
  (84, .iconst 0, false, [], 0, 0, 0, 0, 0, []),
  (85, .ireturn, false, [], 0, 0, 0, 1, 0, [])]
def kk_X2_endLeaf : List mx_I := [
  (0, .aload_n 0, false, [], 0, 0, 0, 0, 0, []),
  (1, .dup, false, [], 0, 0, 0, 0, 0, []),
  (2, .getfield 66, false, [], 2, 14, 0, 0, 0, []),
  (5, .iconst 1, false, [], 0, 0, 0, 0, 1, []),
  (6, .iadd, false, [], 0, 0, 0, 0, 0, []),
  (7, .putfield 66, false, [], 2, 14, 0, 0, 0, []),
  (10, .aload_n 0, false, [], 0, 0, 0, 0, 0, []),
  (11, .iload_n 1, false, [], 0, 0, 0, 0, 0, []),
  (12, .invokevirtual 152, false, [], 70, 1, 0, 2, 0, []),
  (15, .aload_n 0, false, [], 0, 0, 0, 0, 0, []),
  (16, .invokevirtual 155, false, [], 64, 0, 0, 2, 0, []),
  (19, .return_, false, [], 0, 0, 0, 0, 0, [])]
def kk_X2_endPiece : List mx_I := [
  (0, .aload_n 0, false, [], 0, 0, 0, 0, 0, []),
  (1, .iconst 0, false, [], 0, 0, 0, 0, 0, []),
  (2, .putfield 50, false, [], 2, 12, 2, 0, 0, []),
  (5, .aload_n 0, true, [0], 0, 0, 0, 0, 0, []),
  (6, .getfield 93, false, [], 2, 8, 0, 0, 0, []),
  (9, .ifCond .le 48, false, [], 57, 0, 0, 0, 0, []),
  (12, .aload_n 0, false, [], 0, 0, 0, 0, 0, []),
  (13, .getfield 18, false, [], 2, 7, 1, 0, 0, []),
  (16, .aload_n 0, false, [], 0, 0, 0, 0, 0, []),
  (17, .getfield 93, false, [], 2, 8, 0, 0, 0, []),
  (20, .iconst 1, false, [], 0, 0, 0, 0, 1, []),
  (21, .isub, false, [], 0, 0, 0, 0, 0, []),
  (22, .iaload, false, [], 0, 0, 0, 0, 0, []),
  (23, .bipush 33, false, [], 0, 0, 0, 0, 33, []),
  (25, .if_icmp .ne 32, false, [], 57, 0, 0, 0, 0, []),
  (28, .aload_n 0, false, [], 0, 0, 0, 0, 0, []),
  (29, .dup, false, [], 0, 0, 0, 0, 0, []),
  (30, .getfield 93, false, [], 2, 8, 0, 0, 0, []),
  (33, .iconst 1, false, [], 0, 0, 0, 0, 1, []),
  (34, .isub, false, [], 0, 0, 0, 0, 0, []),
  (35, .putfield 93, false, [], 2, 8, 0, 0, 0, []),
  (38, .aload_n 0, false, [], 0, 0, 0, 0, 0, []),
  (39, .dup, false, [], 0, 0, 0, 0, 0, []),
  (40, .getfield 99, false, [], 2, 11, 0, 0, 0, []),
  (43, .iconst 1, false, [], 0, 0, 0, 0, 1, []),
  (44, .isub, false, [], 0, 0, 0, 0, 0, []),
  (45, .putfield 99, false, [], 2, 11, 0, 0, 0, []),
  (48, .aload_n 0, false, [], 0, 0, 0, 0, 0, []),
  (49, .bipush (-33), false, [], 0, 0, 0, 0, (-33), []),
  (51, .invokevirtual 152, false, [], 70, 1, 0, 2, 0, []),
  (54, .goto (-49), false, [], 5, 0, 0, 0, 0, []),
  (57, .return_, false, [], 0, 0, 0, 0, 0, [])]
def kk_X2_takesSign : List mx_I := [
  (0, .aload_n 0, false, [], 0, 0, 0, 0, 0, []),
  (1, .getfield 87, false, [], 2, 2, 0, 0, 0, []),
  (4, .iconst 3, false, [], 0, 0, 0, 0, 3, []),
  (5, .if_icmp .eq 5, false, [], 10, 0, 0, 0, 0, []),
  (8, .iconst 0, false, [], 0, 0, 0, 0, 0, []),
  (9, .ireturn, false, [], 0, 0, 0, 1, 0, []),
  (10, .aload_n 0, false, [], 0, 0, 0, 0, 0, []),
  (11, .getfield 9, false, [], 2, 0, 1, 0, 0, []),
  (14, .aload_n 0, false, [], 0, 0, 0, 0, 0, []),
  (15, .getfield 40, false, [], 2, 3, 0, 0, 0, []),
  (18, .iaload, false, [], 0, 0, 0, 0, 0, []),
  (19, .istore_n 1, false, [], 0, 0, 0, 0, 0, []),
  (20, .iload_n 1, false, [], 0, 0, 0, 0, 0, []),
  (21, .bipush 41, false, [], 0, 0, 0, 0, 41, []),
  (23, .if_icmp .ne 8, false, [], 31, 0, 0, 0, 0, []),
  (26, .aload_n 0, false, [], 0, 0, 0, 0, 0, []),
  (27, .invokevirtual 158, false, [], 66, 0, 1, 2, 0, []),
  (30, .ireturn, false, [], 0, 0, 0, 1, 0, []),
  (31, .iload_n 1, false, [], 0, 0, 0, 0, 0, []),
  (32, .invokestatic 161, false, [], 67, 1, 1, 0, 0, []),
  (35, .istore_n 2, false, [], 0, 0, 0, 0, 0, []),
  (36, .iload_n 2, false, [], 0, 0, 0, 0, 0, []),
  (37, .ifCond .eq 20, false, [], 57, 0, 0, 0, 0, []),
  (40, .iload_n 2, false, [], 0, 0, 0, 0, 0, []),
  (41, .iconst 3, false, [], 0, 0, 0, 0, 3, []),
  (42, .if_icmp .ne 17, false, [], 59, 0, 0, 0, 0, []),
  (45, .aload_n 0, false, [], 0, 0, 0, 0, 0, []),
  (46, .getfield 21, false, [], 2, 9, 1, 0, 0, []),
  (49, .aload_n 0, false, [], 0, 0, 0, 0, 0, []),
  (50, .getfield 96, false, [], 2, 10, 0, 0, 0, []),
  (53, .baload, false, [], 0, 0, 0, 0, 0, []),
  (54, .ifCond .eq 5, false, [], 59, 0, 0, 0, 0, []),
  (57, .iconst 0, false, [], 0, 0, 0, 0, 0, []),
  (58, .ireturn, false, [], 0, 0, 0, 1, 0, []),
  (59, .iload_n 2, false, [], 0, 0, 0, 0, 0, []),
  (60, .iconst 3, false, [], 0, 0, 0, 0, 3, []),
  (61, .if_icmp .gt 22, false, [], 83, 0, 0, 0, 0, []),
  (64, .aload_n 0, false, [], 0, 0, 0, 0, 0, []),
  (65, .getfield 21, false, [], 2, 9, 1, 0, 0, []),
  (68, .aload_n 0, false, [], 0, 0, 0, 0, 0, []),
  (69, .getfield 96, false, [], 2, 10, 0, 0, 0, []),
  (72, .iload_n 2, false, [], 0, 0, 0, 0, 0, []),
  (73, .iconst 3, false, [], 0, 0, 0, 0, 3, []),
  (74, .if_icmp .ne 7, false, [], 81, 0, 0, 0, 0, []),
  (77, .iconst 1, false, [], 0, 0, 0, 0, 1, []),
  (78, .goto 4, false, [], 82, 0, 0, 0, 0, []),
  (81, .iconst 0, false, [], 0, 0, 0, 0, 0, []),
  (82, .bastore, false, [], 0, 0, 0, 0, 0, []),
  (83, .aload_n 0, false, [], 0, 0, 0, 0, 0, []),
  (84, .iload_n 2, false, [], 0, 0, 0, 0, 0, []),
  (85, .invokevirtual 60, false, [], 68, 1, 0, 2, 0, []),
  (88, .aload_n 0, false, [], 0, 0, 0, 0, 0, []),
  (89, .iload_n 1, false, [], 0, 0, 0, 0, 0, []),
  (90, .invokevirtual 149, false, [], 69, 1, 0, 2, 0, []),
  (93, .aload_n 0, false, [], 0, 0, 0, 0, 0, []),
  (94, .iconst 1, false, [], 0, 0, 0, 0, 1, []),
  (95, .putfield 50, false, [], 2, 12, 2, 0, 0, []),
  (98, .iconst 1, false, [], 0, 0, 0, 0, 1, []),
  (99, .ireturn, false, [], 0, 0, 0, 1, 0, [])]
def kk_X2_takesClosing : List mx_I := [
  (0, .aload_n 0, false, [], 0, 0, 0, 0, 0, []),
  (1, .getfield 96, false, [], 2, 10, 0, 0, 0, []),
  (4, .ifCond .ne 5, false, [], 9, 0, 0, 0, 0, []),
  (7, .iconst 0, false, [], 0, 0, 0, 0, 0, []),
  (8, .ireturn, false, [], 0, 0, 0, 1, 0, []),
  (9, .aload_n 0, false, [], 0, 0, 0, 0, 0, []),
  (10, .iconst 1, false, [], 0, 0, 0, 0, 1, []),
  (11, .invokevirtual 60, false, [], 68, 1, 0, 2, 0, []),
  (14, .aload_n 0, false, [], 0, 0, 0, 0, 0, []),
  (15, .getfield 93, false, [], 2, 8, 0, 0, 0, []),
  (18, .ifCond .le 13, false, [], 31, 0, 0, 0, 0, []),
  (21, .aload_n 0, false, [], 0, 0, 0, 0, 0, []),
  (22, .dup, false, [], 0, 0, 0, 0, 0, []),
  (23, .getfield 93, false, [], 2, 8, 0, 0, 0, []),
  (26, .iconst 1, false, [], 0, 0, 0, 0, 1, []),
  (27, .isub, false, [], 0, 0, 0, 0, 0, []),
  (28, .putfield 93, false, [], 2, 8, 0, 0, 0, []),
  (31, .aload_n 0, false, [], 0, 0, 0, 0, 0, []),
  (32, .dup, false, [], 0, 0, 0, 0, 0, []),
  (33, .getfield 96, false, [], 2, 10, 0, 0, 0, []),
  (36, .iconst 1, false, [], 0, 0, 0, 0, 1, []),
  (37, .isub, false, [], 0, 0, 0, 0, 0, []),
  (38, .putfield 96, false, [], 2, 10, 0, 0, 0, []),
  (41, .aload_n 0, false, [], 0, 0, 0, 0, 0, []),
  (42, .invokevirtual 155, false, [], 64, 0, 0, 2, 0, []),
  (45, .iconst 1, false, [], 0, 0, 0, 0, 1, []),
  (46, .ireturn, false, [], 0, 0, 0, 1, 0, [])]
def kk_X2_strengthOf : List mx_I := [
  (0, .iload_n 0, false, [], 0, 0, 0, 0, 0, []),
  (1, .lookupswitch 93 #[(38, 85), (42, 91), (43, 89), (45, 89), (47, 91), (60, 87), (61, 87), (62, 87), (124, 83)], false, [], 94, 83, 0, 0, 0, [(38, 86), (42, 92), (43, 90), (45, 90), (47, 92), (60, 88), (61, 88), (62, 88), (124, 84)]),
  (84, .iconst 1, false, [], 0, 0, 0, 0, 1, []),
  (85, .ireturn, false, [], 0, 0, 0, 0, 0, []),
  (86, .iconst 2, false, [], 0, 0, 0, 0, 2, []),
  (87, .ireturn, false, [], 0, 0, 0, 0, 0, []),
  (88, .iconst 3, false, [], 0, 0, 0, 0, 3, []),
  (89, .ireturn, false, [], 0, 0, 0, 0, 0, []),
  (90, .iconst 4, false, [], 0, 0, 0, 0, 4, []),
  (91, .ireturn, false, [], 0, 0, 0, 0, 0, []),
  (92, .iconst 5, false, [], 0, 0, 0, 0, 5, []),
  (93, .ireturn, false, [], 0, 0, 0, 0, 0, []),
  (94, .iconst 0, false, [], 0, 0, 0, 0, 0, []),
  (95, .ireturn, false, [], 0, 0, 0, 0, 0, [])]
def kk_X2_unpile : List mx_I := [
  (0, .aload_n 0, true, [0, 1], 0, 0, 0, 0, 0, []),
  (1, .getfield 93, false, [], 2, 8, 0, 0, 0, []),
  (4, .ifCond .le 48, false, [], 52, 0, 0, 0, 0, []),
  (7, .aload_n 0, false, [], 0, 0, 0, 0, 0, []),
  (8, .getfield 18, false, [], 2, 7, 1, 0, 0, []),
  (11, .aload_n 0, false, [], 0, 0, 0, 0, 0, []),
  (12, .getfield 93, false, [], 2, 8, 0, 0, 0, []),
  (15, .iconst 1, false, [], 0, 0, 0, 0, 1, []),
  (16, .isub, false, [], 0, 0, 0, 0, 0, []),
  (17, .iaload, false, [], 0, 0, 0, 0, 0, []),
  (18, .invokestatic 161, false, [], 67, 1, 1, 0, 0, []),
  (21, .iload_n 1, false, [], 0, 0, 0, 0, 0, []),
  (22, .if_icmp .lt 30, false, [], 52, 0, 0, 0, 0, []),
  (25, .aload_n 0, false, [], 0, 0, 0, 0, 0, []),
  (26, .dup, false, [], 0, 0, 0, 0, 0, []),
  (27, .getfield 93, false, [], 2, 8, 0, 0, 0, []),
  (30, .iconst 1, false, [], 0, 0, 0, 0, 1, []),
  (31, .isub, false, [], 0, 0, 0, 0, 0, []),
  (32, .putfield 93, false, [], 2, 8, 0, 0, 0, []),
  (35, .aload_n 0, false, [], 0, 0, 0, 0, 0, []),
  (36, .aload_n 0, false, [], 0, 0, 0, 0, 0, []),
  (37, .getfield 18, false, [], 2, 7, 1, 0, 0, []),
  (40, .aload_n 0, false, [], 0, 0, 0, 0, 0, []),
  (41, .getfield 93, false, [], 2, 8, 0, 0, 0, []),
  (44, .iaload, false, [], 0, 0, 0, 0, 0, []),
  (45, .ineg, false, [], 0, 0, 0, 0, 0, []),
  (46, .invokevirtual 152, false, [], 70, 1, 0, 2, 0, []),
  (49, .goto (-49), false, [], 0, 0, 0, 0, 0, []),
  (52, .return_, false, [], 0, 0, 0, 0, 0, [])]
def kk_X2_putOnPile : List mx_I := [
  (0, .aload_n 0, false, [], 0, 0, 0, 0, 0, []),
  (1, .getfield 93, false, [], 2, 8, 0, 0, 0, []),
  (4, .bipush 96, false, [], 0, 0, 0, 0, 96, []),
  (6, .if_icmp .ge 23, false, [], 29, 0, 0, 0, 0, []),
  (9, .aload_n 0, false, [], 0, 0, 0, 0, 0, []),
  (10, .getfield 18, false, [], 2, 7, 1, 0, 0, []),
  (13, .aload_n 0, false, [], 0, 0, 0, 0, 0, []),
  (14, .getfield 93, false, [], 2, 8, 0, 0, 0, []),
  (17, .iload_n 1, false, [], 0, 0, 0, 0, 0, []),
  (18, .iastore, false, [], 0, 0, 0, 0, 0, []),
  (19, .aload_n 0, false, [], 0, 0, 0, 0, 0, []),
  (20, .dup, false, [], 0, 0, 0, 0, 0, []),
  (21, .getfield 93, false, [], 2, 8, 0, 0, 0, []),
  (24, .iconst 1, false, [], 0, 0, 0, 0, 1, []),
  (25, .iadd, false, [], 0, 0, 0, 0, 0, []),
  (26, .putfield 93, false, [], 2, 8, 0, 0, 0, []),
  (29, .return_, false, [], 0, 0, 0, 0, 0, [])]
def kk_X2_addStep : List mx_I := [
  (0, .aload_n 0, false, [], 0, 0, 0, 0, 0, []),
  (1, .getfield 69, false, [], 2, 6, 0, 0, 0, []),
  (4, .bipush 96, false, [], 0, 0, 0, 0, 96, []),
  (6, .if_icmp .ge 23, false, [], 29, 0, 0, 0, 0, []),
  (9, .aload_n 0, false, [], 0, 0, 0, 0, 0, []),
  (10, .getfield 15, false, [], 2, 5, 1, 0, 0, []),
  (13, .aload_n 0, false, [], 0, 0, 0, 0, 0, []),
  (14, .getfield 69, false, [], 2, 6, 0, 0, 0, []),
  (17, .iload_n 1, false, [], 0, 0, 0, 0, 0, []),
  (18, .iastore, false, [], 0, 0, 0, 0, 0, []),
  (19, .aload_n 0, false, [], 0, 0, 0, 0, 0, []),
  (20, .dup, false, [], 0, 0, 0, 0, 0, []),
  (21, .getfield 69, false, [], 2, 6, 0, 0, 0, []),
  (24, .iconst 1, false, [], 0, 0, 0, 0, 1, []),
  (25, .iadd, false, [], 0, 0, 0, 0, 0, []),
  (26, .putfield 69, false, [], 2, 6, 0, 0, 0, []),
  (29, .return_, false, [], 0, 0, 0, 0, 0, [])]
def kk_X3_init : List mx_I := [
  (0, .aload_n 0, false, [], 0, 0, 0, 0, 0, []),
  (1, .invokespecial 3, false, [], 0, 0, 9, 0, 0, []),
  (4, .aload_n 0, false, [], 0, 0, 0, 0, 0, []),
  (5, .iconst (-1), false, [], 0, 0, 0, 0, (-1), []),
  (6, .putfield 9, false, [], 3, 0, 0, 0, 0, []),
  (9, .aload_n 0, false, [], 0, 0, 0, 0, 0, []),
  (10, .iconst 0, false, [], 0, 0, 0, 0, 0, []),
  (11, .putfield 15, false, [], 3, 1, 0, 0, 0, []),
  (14, .aload_n 0, false, [], 0, 0, 0, 0, 0, []),
  (15, .bipush 24, false, [], 0, 0, 0, 0, 24, []),
  (17, .newarray .int, false, [], 0, 0, 0, 0, 0, []),
  (19, .putfield 18, false, [], 3, 2, 1, 0, 0, []),
  (22, .return_, false, [], 0, 0, 0, 0, 0, [])]
def kk_X3_begin : List mx_I := [
  (0, .aload_n 0, false, [], 0, 0, 0, 0, 0, []),
  (1, .iload_n 1, false, [], 0, 0, 0, 0, 0, []),
  (2, .putfield 9, false, [], 3, 0, 0, 0, 0, []),
  (5, .aload_n 0, false, [], 0, 0, 0, 0, 0, []),
  (6, .iload_n 2, false, [], 0, 0, 0, 0, 0, []),
  (7, .putfield 15, false, [], 3, 1, 0, 0, 0, []),
  (10, .aload_n 0, false, [], 0, 0, 0, 0, 0, []),
  (11, .getfield 18, false, [], 3, 2, 1, 0, 0, []),
  (14, .iconst 0, false, [], 0, 0, 0, 0, 0, []),
  (15, .invokestatic 22, false, [], 5, 2, 0, 0, 0, []),
  (18, .return_, false, [], 0, 0, 0, 0, 0, [])]
def kk_X3_takeOver : List mx_I := [
  (0, .aload_n 0, false, [], 0, 0, 0, 0, 0, []),
  (1, .aload_n 1, false, [], 0, 0, 0, 0, 0, []),
  (2, .getfield 9, false, [], 3, 0, 0, 0, 0, []),
  (5, .putfield 9, false, [], 3, 0, 0, 0, 0, []),
  (8, .aload_n 0, false, [], 0, 0, 0, 0, 0, []),
  (9, .aload_n 1, false, [], 0, 0, 0, 0, 0, []),
  (10, .getfield 15, false, [], 3, 1, 0, 0, 0, []),
  (13, .putfield 15, false, [], 3, 1, 0, 0, 0, []),
  (16, .aload_n 1, false, [], 0, 0, 0, 0, 0, []),
  (17, .getfield 18, false, [], 3, 2, 1, 0, 0, []),
  (20, .iconst 0, false, [], 0, 0, 0, 0, 0, []),
  (21, .aload_n 0, false, [], 0, 0, 0, 0, 0, []),
  (22, .getfield 18, false, [], 3, 2, 1, 0, 0, []),
  (25, .iconst 0, false, [], 0, 0, 0, 0, 0, []),
  (26, .bipush 24, false, [], 0, 0, 0, 0, 24, []),
  (28, .invokestatic 28, false, [], 0, 0, 8, 0, 0, []),
  (31, .return_, false, [], 0, 0, 0, 0, 0, [])]
def kk_X3_isMissing : List mx_I := [
  (0, .aload_n 0, false, [], 0, 0, 0, 0, 0, []),
  (1, .getfield 9, false, [], 3, 0, 0, 0, 0, []),
  (4, .iconst (-1), false, [], 0, 0, 0, 0, (-1), []),
  (5, .if_icmp .ne 7, false, [], 12, 0, 0, 0, 0, []),
  (8, .iconst 1, false, [], 0, 0, 0, 0, 1, []),
  (9, .goto 4, false, [], 13, 0, 0, 0, 0, []),
  (12, .iconst 0, false, [], 0, 0, 0, 0, 0, []),
  (13, .ireturn, false, [], 0, 0, 0, 1, 0, [])]
def kk_X3_hasPlace : List mx_I := [
  (0, .iload_n 1, false, [], 0, 0, 0, 0, 0, []),
  (1, .ifCond .lt 15, false, [], 16, 0, 0, 0, 0, []),
  (4, .iload_n 1, false, [], 0, 0, 0, 0, 0, []),
  (5, .aload_n 0, false, [], 0, 0, 0, 0, 0, []),
  (6, .getfield 15, false, [], 3, 1, 0, 0, 0, []),
  (9, .if_icmp .ge 7, false, [], 16, 0, 0, 0, 0, []),
  (12, .iconst 1, false, [], 0, 0, 0, 0, 1, []),
  (13, .goto 4, false, [], 17, 0, 0, 0, 0, []),
  (16, .iconst 0, false, [], 0, 0, 0, 0, 0, []),
  (17, .ireturn, false, [], 0, 0, 0, 1, 0, [])]
def kk_X3_hasPlaces : List mx_I := [
  (0, .iload_n 1, false, [], 0, 0, 0, 0, 0, []),
  (1, .ifCond .lt 29, false, [], 30, 0, 0, 0, 0, []),
  (4, .iload_n 2, false, [], 0, 0, 0, 0, 0, []),
  (5, .ifCond .lt 25, false, [], 30, 0, 0, 0, 0, []),
  (8, .iload_n 1, false, [], 0, 0, 0, 0, 0, []),
  (9, .aload_n 0, false, [], 0, 0, 0, 0, 0, []),
  (10, .getfield 15, false, [], 3, 1, 0, 0, 0, []),
  (13, .if_icmp .gt 17, false, [], 30, 0, 0, 0, 0, []),
  (16, .iload_n 2, false, [], 0, 0, 0, 0, 0, []),
  (17, .aload_n 0, false, [], 0, 0, 0, 0, 0, []),
  (18, .getfield 15, false, [], 3, 1, 0, 0, 0, []),
  (21, .iload_n 1, false, [], 0, 0, 0, 0, 0, []),
  (22, .isub, false, [], 0, 0, 0, 0, 0, []),
  (23, .if_icmp .gt 7, false, [], 30, 0, 0, 0, 0, []),
  (26, .iconst 1, false, [], 0, 0, 0, 0, 1, []),
  (27, .goto 4, false, [], 31, 0, 0, 0, 0, []),
  (30, .iconst 0, false, [], 0, 0, 0, 0, 0, []),
  (31, .ireturn, false, [], 0, 0, 0, 1, 0, [])]
def kk_X3_isNumber : List mx_I := [
  (0, .aload_n 0, false, [], 0, 0, 0, 0, 0, []),
  (1, .iload_n 1, false, [], 0, 0, 0, 0, 0, []),
  (2, .invokevirtual 34, false, [], 75, 1, 1, 3, 0, []),
  (5, .ifCond .eq 18, false, [], 23, 0, 0, 0, 0, []),
  (8, .aload_n 0, false, [], 0, 0, 0, 0, 0, []),
  (9, .getfield 18, false, [], 3, 2, 1, 0, 0, []),
  (12, .iload_n 1, false, [], 0, 0, 0, 0, 0, []),
  (13, .iaload, false, [], 0, 0, 0, 0, 0, []),
  (14, .ldc 38, false, [], 0, 0, 0, 0, (-1000000005), []),
  (16, .if_icmp .eq 7, false, [], 23, 0, 0, 0, 0, []),
  (19, .iconst 1, false, [], 0, 0, 0, 0, 1, []),
  (20, .goto 4, false, [], 24, 0, 0, 0, 0, []),
  (23, .iconst 0, false, [], 0, 0, 0, 0, 0, []),
  (24, .ireturn, false, [], 0, 0, 0, 1, 0, [])]
def kk_X4_init : List mx_I := [
  (0, .aload_n 0, false, [], 0, 0, 0, 0, 0, []),
  (1, .invokespecial 3, false, [], 0, 0, 9, 0, 0, []),
  (4, .aload_n 0, false, [], 0, 0, 0, 0, 0, []),
  (5, .iconst 0, false, [], 0, 0, 0, 0, 0, []),
  (6, .putfield 9, false, [], 4, 0, 0, 0, 0, []),
  (9, .aload_n 0, false, [], 0, 0, 0, 0, 0, []),
  (10, .new 15, false, [], 1, 0, 0, 0, 0, []),
  (13, .dup, false, [], 0, 0, 0, 0, 0, []),
  (14, .invokespecial 17, false, [], 41, 0, 0, 0, 1, []),
  (17, .putfield 18, false, [], 4, 1, 1, 0, 0, []),
  (20, .aload_n 0, false, [], 0, 0, 0, 0, 0, []),
  (21, .new 22, false, [], 3, 0, 0, 0, 0, []),
  (24, .dup, false, [], 0, 0, 0, 0, 0, []),
  (25, .invokespecial 24, false, [], 71, 0, 0, 0, 1, []),
  (28, .putfield 25, false, [], 4, 2, 1, 0, 0, []),
  (31, .aload_n 0, false, [], 0, 0, 0, 0, 0, []),
  (32, .iconst 0, false, [], 0, 0, 0, 0, 0, []),
  (33, .putfield 29, false, [], 4, 3, 0, 0, 0, []),
  (36, .return_, false, [], 0, 0, 0, 0, 0, [])]
def kk_X5_init : List mx_I := [
  (0, .aload_n 0, false, [], 0, 0, 0, 0, 0, []),
  (1, .invokespecial 1, false, [], 0, 0, 9, 0, 0, []),
  (4, .aload_n 0, false, [], 0, 0, 0, 0, 0, []),
  (5, .iload_n 1, false, [], 0, 0, 0, 0, 0, []),
  (6, .putfield 7, false, [], 5, 0, 0, 0, 0, []),
  (9, .aload_n 0, false, [], 0, 0, 0, 0, 0, []),
  (10, .iload_n 2, false, [], 0, 0, 0, 0, 0, []),
  (11, .putfield 13, false, [], 5, 1, 0, 0, 0, []),
  (14, .aload_n 0, false, [], 0, 0, 0, 0, 0, []),
  (15, .aload_n 3, false, [], 0, 0, 0, 0, 0, []),
  (16, .putfield 16, false, [], 5, 2, 1, 0, 0, []),
  (19, .return_, false, [], 0, 0, 0, 0, 0, [])]
def kk_X5_value : List mx_I := [
  (0, .iconst 0, false, [], 0, 0, 0, 0, 0, []),
  (1, .istore_n 3, false, [], 0, 0, 0, 0, 0, []),
  (2, .iconst 0, false, [], 0, 0, 0, 0, 0, []),
  (3, .istore 4, false, [], 0, 0, 0, 0, 0, []),
  (5, .iload 4, true, [0, 1, 2, 3, 4], 0, 0, 0, 0, 0, []),
  (7, .aload_n 0, false, [], 0, 0, 0, 0, 0, []),
  (8, .getfield 16, false, [], 5, 2, 1, 0, 0, []),
  (11, .arraylength, false, [], 0, 0, 0, 0, 0, []),
  (12, .if_icmp .ge 129, false, [], 141, 0, 0, 0, 0, []),
  (15, .aload_n 0, false, [], 0, 0, 0, 0, 0, []),
  (16, .getfield 16, false, [], 5, 2, 1, 0, 0, []),
  (19, .iload 4, false, [], 0, 0, 0, 0, 0, []),
  (21, .iaload, false, [], 0, 0, 0, 0, 0, []),
  (22, .istore 5, false, [], 0, 0, 0, 0, 0, []),
  (24, .iload 5, false, [], 0, 0, 0, 0, 0, []),
  (26, .bipush (-33), false, [], 0, 0, 0, 0, (-33), []),
  (28, .if_icmp .ne 29, false, [], 57, 0, 0, 0, 0, []),
  (31, .iload_n 3, false, [], 0, 0, 0, 0, 0, []),
  (32, .iconst 1, false, [], 0, 0, 0, 0, 1, []),
  (33, .if_icmp .lt 102, false, [], 135, 0, 0, 0, 0, []),
  (36, .aload_n 2, false, [], 0, 0, 0, 0, 0, []),
  (37, .iload_n 3, false, [], 0, 0, 0, 0, 0, []),
  (38, .iconst 1, false, [], 0, 0, 0, 0, 1, []),
  (39, .isub, false, [], 0, 0, 0, 0, 0, []),
  (40, .aload_n 2, false, [], 0, 0, 0, 0, 0, []),
  (41, .iload_n 3, false, [], 0, 0, 0, 0, 0, []),
  (42, .iconst 1, false, [], 0, 0, 0, 0, 1, []),
  (43, .isub, false, [], 0, 0, 0, 0, 0, []),
  (44, .iaload, false, [], 0, 0, 0, 0, 0, []),
  (45, .ifCond .ne 7, false, [], 52, 0, 0, 0, 0, []),
  (48, .iconst 1, false, [], 0, 0, 0, 0, 1, []),
  (49, .goto 4, false, [], 53, 0, 0, 0, 0, []),
  (52, .iconst 0, false, [], 0, 0, 0, 0, 0, []),
  (53, .iastore, false, [], 0, 0, 0, 0, 0, []),
  (54, .goto 81, false, [], 135, 0, 0, 0, 0, []),
  (57, .iload 5, false, [], 0, 0, 0, 0, 0, []),
  (59, .ifCond .ge 35, false, [], 94, 0, 0, 0, 0, []),
  (62, .iload_n 3, false, [], 0, 0, 0, 0, 0, []),
  (63, .iconst 2, false, [], 0, 0, 0, 0, 2, []),
  (64, .if_icmp .lt 71, false, [], 135, 0, 0, 0, 0, []),
  (67, .aload_n 2, false, [], 0, 0, 0, 0, 0, []),
  (68, .iload_n 3, false, [], 0, 0, 0, 0, 0, []),
  (69, .iconst 2, false, [], 0, 0, 0, 0, 2, []),
  (70, .isub, false, [], 0, 0, 0, 0, 0, []),
  (71, .iload 5, false, [], 0, 0, 0, 0, 0, []),
  (73, .ineg, false, [], 0, 0, 0, 0, 0, []),
  (74, .aload_n 2, false, [], 0, 0, 0, 0, 0, []),
  (75, .iload_n 3, false, [], 0, 0, 0, 0, 0, []),
  (76, .iconst 2, false, [], 0, 0, 0, 0, 2, []),
  (77, .isub, false, [], 0, 0, 0, 0, 0, []),
  (78, .iaload, false, [], 0, 0, 0, 0, 0, []),
  (79, .aload_n 2, false, [], 0, 0, 0, 0, 0, []),
  (80, .iload_n 3, false, [], 0, 0, 0, 0, 0, []),
  (81, .iconst 1, false, [], 0, 0, 0, 0, 1, []),
  (82, .isub, false, [], 0, 0, 0, 0, 0, []),
  (83, .iaload, false, [], 0, 0, 0, 0, 0, []),
  (84, .invokestatic 20, false, [], 81, 3, 1, 0, 0, []),
  (87, .iastore, false, [], 0, 0, 0, 0, 0, []),
  (88, .iinc 3 (-1), false, [], 0, 0, 0, 0, (-1), []),
  (91, .goto 44, false, [], 135, 0, 0, 0, 0, []),
  (94, .iload_n 3, false, [], 0, 0, 0, 0, 0, []),
  (95, .aload_n 2, false, [], 0, 0, 0, 0, 0, []),
  (96, .arraylength, false, [], 0, 0, 0, 0, 0, []),
  (97, .if_icmp .ge 38, false, [], 135, 0, 0, 0, 0, []),
  (100, .iload 5, false, [], 0, 0, 0, 0, 0, []),
  (102, .sipush 10000, false, [], 0, 0, 0, 0, 10000, []),
  (105, .isub, false, [], 0, 0, 0, 0, 0, []),
  (106, .istore 6, false, [], 0, 0, 0, 0, 0, []),
  (108, .aload_n 2, false, [], 0, 0, 0, 0, 0, []),
  (109, .iload_n 3, false, [], 0, 0, 0, 0, 0, []),
  (110, .iload 6, false, [], 0, 0, 0, 0, 0, []),
  (112, .ifCond .lt 17, false, [], 129, 0, 0, 0, 0, []),
  (115, .iload 6, false, [], 0, 0, 0, 0, 0, []),
  (117, .aload_n 1, false, [], 0, 0, 0, 0, 0, []),
  (118, .arraylength, false, [], 0, 0, 0, 0, 0, []),
  (119, .if_icmp .ge 10, false, [], 129, 0, 0, 0, 0, []),
  (122, .aload_n 1, false, [], 0, 0, 0, 0, 0, []),
  (123, .iload 6, false, [], 0, 0, 0, 0, 0, []),
  (125, .iaload, false, [], 0, 0, 0, 0, 0, []),
  (126, .goto 5, false, [], 131, 0, 0, 0, 0, []),
  (129, .iload 5, false, [], 0, 0, 0, 0, 0, []),
  (131, .iastore, false, [], 0, 0, 0, 0, 0, []),
  (132, .iinc 3 1, false, [], 0, 0, 0, 0, 1, []),
  (135, .iinc 4 1, false, [], 0, 0, 0, 0, 1, []),
  (138, .goto (-133), false, [], 5, 0, 0, 0, 0, []),
  (141, .iload_n 3, false, [], 0, 0, 0, 0, 0, []),
  (142, .iconst 1, false, [], 0, 0, 0, 0, 1, []),
  (143, .if_icmp .lt 9, false, [], 152, 0, 0, 0, 0, []),
  (146, .aload_n 2, false, [], 0, 0, 0, 0, 0, []),
  (147, .iconst 0, false, [], 0, 0, 0, 0, 0, []),
  (148, .iaload, false, [], 0, 0, 0, 0, 0, []),
  (149, .goto 4, false, [], 153, 0, 0, 0, 0, []),
  (152, .iconst 0, false, [], 0, 0, 0, 0, 0, []),
  (153, .ireturn, false, [], 0, 0, 0, 0, 0, [])]
def kk_X5_joined : List mx_I := [
  (0, .iload_n 0, false, [], 0, 0, 0, 0, 0, []),
  (1, .lookupswitch 148 #[(38, 89), (42, 144), (43, 136), (45, 140), (60, 103), (61, 114), (62, 125), (124, 75)], false, [], 149, 75, 0, 0, 0, [(38, 90), (42, 145), (43, 137), (45, 141), (60, 104), (61, 115), (62, 126), (124, 76)]),
  (76, .iload_n 1, false, [], 0, 0, 0, 0, 0, []),
  (77, .ifCond .ne 7, false, [], 84, 0, 0, 0, 0, []),
  (80, .iload_n 2, false, [], 0, 0, 0, 0, 0, []),
  (81, .ifCond .eq 7, false, [], 88, 0, 0, 0, 0, []),
  (84, .iconst 1, false, [], 0, 0, 0, 0, 1, []),
  (85, .goto 4, false, [], 89, 0, 0, 0, 0, []),
  (88, .iconst 0, false, [], 0, 0, 0, 0, 0, []),
  (89, .ireturn, false, [], 0, 0, 0, 0, 0, []),
  (90, .iload_n 1, false, [], 0, 0, 0, 0, 0, []),
  (91, .ifCond .eq 11, false, [], 102, 0, 0, 0, 0, []),
  (94, .iload_n 2, false, [], 0, 0, 0, 0, 0, []),
  (95, .ifCond .eq 7, false, [], 102, 0, 0, 0, 0, []),
  (98, .iconst 1, false, [], 0, 0, 0, 0, 1, []),
  (99, .goto 4, false, [], 103, 0, 0, 0, 0, []),
  (102, .iconst 0, false, [], 0, 0, 0, 0, 0, []),
  (103, .ireturn, false, [], 0, 0, 0, 0, 0, []),
  (104, .iload_n 1, false, [], 0, 0, 0, 0, 0, []),
  (105, .iload_n 2, false, [], 0, 0, 0, 0, 0, []),
  (106, .if_icmp .ge 7, false, [], 113, 0, 0, 0, 0, []),
  (109, .iconst 1, false, [], 0, 0, 0, 0, 1, []),
  (110, .goto 4, false, [], 114, 0, 0, 0, 0, []),
  (113, .iconst 0, false, [], 0, 0, 0, 0, 0, []),
  (114, .ireturn, false, [], 0, 0, 0, 0, 0, []),
  (115, .iload_n 1, false, [], 0, 0, 0, 0, 0, []),
  (116, .iload_n 2, false, [], 0, 0, 0, 0, 0, []),
  (117, .if_icmp .ne 7, false, [], 124, 0, 0, 0, 0, []),
  (120, .iconst 1, false, [], 0, 0, 0, 0, 1, []),
  (121, .goto 4, false, [], 125, 0, 0, 0, 0, []),
  (124, .iconst 0, false, [], 0, 0, 0, 0, 0, []),
  (125, .ireturn, false, [], 0, 0, 0, 0, 0, []),
  (126, .iload_n 1, false, [], 0, 0, 0, 0, 0, []),
  (127, .iload_n 2, false, [], 0, 0, 0, 0, 0, []),
  (128, .if_icmp .le 7, false, [], 135, 0, 0, 0, 0, []),
  (131, .iconst 1, false, [], 0, 0, 0, 0, 1, []),
  (132, .goto 4, false, [], 136, 0, 0, 0, 0, []),
  (135, .iconst 0, false, [], 0, 0, 0, 0, 0, []),
  (136, .ireturn, false, [], 0, 0, 0, 0, 0, []),
  (137, .iload_n 1, false, [], 0, 0, 0, 0, 0, []),
  (138, .iload_n 2, false, [], 0, 0, 0, 0, 0, []),
  (139, .iadd, false, [], 0, 0, 0, 0, 0, []),
  (140, .ireturn, false, [], 0, 0, 0, 0, 0, []),
  (141, .iload_n 1, false, [], 0, 0, 0, 0, 0, []),
  (142, .iload_n 2, false, [], 0, 0, 0, 0, 0, []),
  (143, .isub, false, [], 0, 0, 0, 0, 0, []),
  (144, .ireturn, false, [], 0, 0, 0, 0, 0, []),
  (145, .iload_n 1, false, [], 0, 0, 0, 0, 0, []),
  (146, .iload_n 2, false, [], 0, 0, 0, 0, 0, []),
  (147, .imul, false, [], 0, 0, 0, 0, 0, []),
  (148, .ireturn, false, [], 0, 0, 0, 0, 0, []),
  (149, .iload_n 2, false, [], 0, 0, 0, 0, 0, []),
  (150, .ifCond .ne 7, false, [], 157, 0, 0, 0, 0, []),
  (153, .iconst 0, false, [], 0, 0, 0, 0, 0, []),
  (154, .goto 6, false, [], 160, 0, 0, 0, 0, []),
  (157, .iload_n 1, false, [], 0, 0, 0, 0, 0, []),
  (158, .iload_n 2, false, [], 0, 0, 0, 0, 0, []),
  (159, .idiv, false, [], 0, 0, 0, 0, 0, []),
  (160, .ireturn, false, [], 0, 0, 0, 0, 0, [])]
def kk_X6_init : List mx_I := [
  (0, .aload_n 0, false, [], 0, 0, 0, 0, 0, []),
  (1, .invokespecial 1, false, [], 0, 0, 9, 0, 0, []),
  (4, .aload_n 0, false, [], 0, 0, 0, 0, 0, []),
  (5, .new 7, false, [], 0, 0, 0, 0, 0, []),
  (8, .dup, false, [], 0, 0, 0, 0, 0, []),
  (9, .invokespecial 9, false, [], 19, 0, 0, 0, 0, []),
  (12, .putfield 10, false, [], 6, 0, 1, 0, 0, []),
  (15, .aload_n 0, false, [], 0, 0, 0, 0, 0, []),
  (16, .new 7, false, [], 0, 0, 0, 0, 0, []),
  (19, .dup, false, [], 0, 0, 0, 0, 0, []),
  (20, .invokespecial 9, false, [], 19, 0, 0, 0, 0, []),
  (23, .putfield 16, false, [], 6, 1, 1, 0, 0, []),
  (26, .aload_n 0, false, [], 0, 0, 0, 0, 0, []),
  (27, .new 7, false, [], 0, 0, 0, 0, 0, []),
  (30, .dup, false, [], 0, 0, 0, 0, 0, []),
  (31, .invokespecial 9, false, [], 19, 0, 0, 0, 0, []),
  (34, .putfield 19, false, [], 6, 2, 1, 0, 0, []),
  (37, .aload_n 0, false, [], 0, 0, 0, 0, 0, []),
  (38, .iconst 0, false, [], 0, 0, 0, 0, 0, []),
  (39, .putfield 22, false, [], 6, 3, 2, 0, 0, []),
  (42, .aload_n 0, false, [], 0, 0, 0, 0, 0, []),
  (43, .bipush 10, false, [], 0, 0, 0, 0, 10, []),
  (45, .newarray .int, false, [], 0, 0, 0, 0, 0, []),
  (47, .putfield 26, false, [], 6, 4, 1, 0, 0, []),
  (50, .aload_n 0, false, [], 0, 0, 0, 0, 0, []),
  (51, .bipush 96, false, [], 0, 0, 0, 0, 96, []),
  (53, .newarray .int, false, [], 0, 0, 0, 0, 0, []),
  (55, .putfield 30, false, [], 6, 5, 1, 0, 0, []),
  (58, .aload_n 0, false, [], 0, 0, 0, 0, 0, []),
  (59, .iconst 0, false, [], 0, 0, 0, 0, 0, []),
  (60, .putfield 33, false, [], 6, 6, 0, 0, 0, []),
  (63, .aload_n 0, false, [], 0, 0, 0, 0, 0, []),
  (64, .new 37, false, [], 2, 0, 0, 0, 0, []),
  (67, .dup, false, [], 0, 0, 0, 0, 0, []),
  (68, .invokespecial 39, false, [], 49, 0, 0, 0, 1, []),
  (71, .putfield 40, false, [], 6, 7, 1, 0, 0, []),
  (74, .aload_n 0, false, [], 0, 0, 0, 0, 0, []),
  (75, .iconst 4, false, [], 0, 0, 0, 0, 4, []),
  (76, .anewarray 44, false, [], 4, 0, 0, 0, 0, []),
  (79, .putfield 46, false, [], 6, 8, 1, 0, 0, []),
  (82, .aload_n 0, false, [], 0, 0, 0, 0, 0, []),
  (83, .iconst 5, false, [], 0, 0, 0, 0, 5, []),
  (84, .anewarray 50, false, [], 5, 0, 0, 0, 0, []),
  (87, .putfield 52, false, [], 6, 9, 1, 0, 0, []),
  (90, .aload_n 0, false, [], 0, 0, 0, 0, 0, []),
  (91, .bipush 60, false, [], 0, 0, 0, 0, 60, []),
  (93, .newarray .int, false, [], 0, 0, 0, 0, 0, []),
  (95, .putfield 56, false, [], 6, 10, 1, 0, 0, []),
  (98, .aload_n 0, false, [], 0, 0, 0, 0, 0, []),
  (99, .iconst 0, false, [], 0, 0, 0, 0, 0, []),
  (100, .putfield 59, false, [], 6, 11, 0, 0, 0, []),
  (103, .iconst 0, false, [], 0, 0, 0, 0, 0, []),
  (104, .istore_n 1, false, [], 0, 0, 0, 0, 0, []),
  (105, .iload_n 1, true, [0, 1], 0, 0, 0, 0, 0, []),
  (106, .iconst 4, false, [], 0, 0, 0, 0, 4, []),
  (107, .if_icmp .ge 22, false, [], 129, 0, 0, 0, 0, []),
  (110, .aload_n 0, false, [], 0, 0, 0, 0, 0, []),
  (111, .getfield 46, false, [], 6, 8, 1, 0, 0, []),
  (114, .iload_n 1, false, [], 0, 0, 0, 0, 0, []),
  (115, .new 44, false, [], 3, 0, 0, 0, 0, []),
  (118, .dup, false, [], 0, 0, 0, 0, 0, []),
  (119, .invokespecial 62, false, [], 71, 0, 0, 0, 1, []),
  (122, .aastore, false, [], 0, 0, 0, 0, 0, []),
  (123, .iinc 1 1, false, [], 0, 0, 0, 0, 1, []),
  (126, .goto (-21), false, [], 105, 0, 0, 0, 0, []),
  (129, .iconst 0, false, [], 0, 0, 0, 0, 0, []),
  (130, .istore_n 1, false, [], 0, 0, 0, 0, 0, []),
  (131, .iload_n 1, true, [0, 1], 0, 0, 0, 0, 0, []),
  (132, .iconst 5, false, [], 0, 0, 0, 0, 5, []),
  (133, .if_icmp .ge 22, false, [], 155, 0, 0, 0, 0, []),
  (136, .aload_n 0, false, [], 0, 0, 0, 0, 0, []),
  (137, .getfield 52, false, [], 6, 9, 1, 0, 0, []),
  (140, .iload_n 1, false, [], 0, 0, 0, 0, 0, []),
  (141, .new 50, false, [], 4, 0, 0, 0, 0, []),
  (144, .dup, false, [], 0, 0, 0, 0, 0, []),
  (145, .invokespecial 63, false, [], 78, 0, 0, 0, 1, []),
  (148, .aastore, false, [], 0, 0, 0, 0, 0, []),
  (149, .iinc 1 1, false, [], 0, 0, 0, 0, 1, []),
  (152, .goto (-21), false, [], 131, 0, 0, 0, 0, []),
  (155, .return_, false, [], 0, 0, 0, 0, 0, [])]
def kk_X6_leg : List mx_I := [
  (0, .iload_n 1, false, [], 0, 0, 0, 0, 0, []),
  (1, .invokestatic 64, false, [], 128, 1, 1, 0, 0, []),
  (4, .ifCond .eq 23, false, [], 27, 0, 0, 0, 0, []),
  (7, .iload_n 2, false, [], 0, 0, 0, 0, 0, []),
  (8, .iconst 0, false, [], 0, 0, 0, 0, 0, []),
  (9, .bipush 59, false, [], 0, 0, 0, 0, 59, []),
  (11, .invokestatic 68, false, [], 127, 3, 1, 0, 0, []),
  (14, .ifCond .eq 13, false, [], 27, 0, 0, 0, 0, []),
  (17, .iload_n 3, false, [], 0, 0, 0, 0, 0, []),
  (18, .iconst 0, false, [], 0, 0, 0, 0, 0, []),
  (19, .bipush 99, false, [], 0, 0, 0, 0, 99, []),
  (21, .invokestatic 68, false, [], 127, 3, 1, 0, 0, []),
  (24, .ifCond .ne 6, false, [], 30, 0, 0, 0, 0, []),
  (27, .ldc 72, false, [], 0, 0, 0, 0, (-1000000001), []),
  (29, .ireturn, false, [], 0, 0, 0, 0, 0, []),
  (30, .aload_n 0, false, [], 0, 0, 0, 0, 0, []),
  (31, .getfield 10, false, [], 6, 0, 1, 0, 0, []),
  (34, .getfield 73, false, [], 0, 1, 0, 0, 0, []),
  (37, .bipush 10, false, [], 0, 0, 0, 0, 10, []),
  (39, .if_icmp .lt 6, false, [], 45, 0, 0, 0, 0, []),
  (42, .ldc 76, false, [], 0, 0, 0, 0, (-1000000003), []),
  (44, .ireturn, false, [], 0, 0, 0, 0, 0, []),
  (45, .aload_n 0, false, [], 0, 0, 0, 0, 0, []),
  (46, .getfield 10, false, [], 6, 0, 1, 0, 0, []),
  (49, .iload_n 1, false, [], 0, 0, 0, 0, 0, []),
  (50, .iload_n 2, false, [], 0, 0, 0, 0, 0, []),
  (51, .iload_n 3, false, [], 0, 0, 0, 0, 0, []),
  (52, .invokevirtual 77, false, [], 22, 3, 0, 0, 0, []),
  (55, .aload_n 0, false, [], 0, 0, 0, 0, 0, []),
  (56, .getfield 10, false, [], 6, 0, 1, 0, 0, []),
  (59, .getfield 73, false, [], 0, 1, 0, 0, 0, []),
  (62, .iconst 1, false, [], 0, 0, 0, 0, 1, []),
  (63, .isub, false, [], 0, 0, 0, 0, 0, []),
  (64, .ireturn, false, [], 0, 0, 0, 0, 0, [])]
def kk_X6_told : List mx_I := [
  (0, .aload_n 0, false, [], 0, 0, 0, 0, 0, []),
  (1, .getfield 10, false, [], 6, 0, 1, 0, 0, []),
  (4, .iload_n 1, false, [], 0, 0, 0, 0, 0, []),
  (5, .invokevirtual 81, false, [], 21, 1, 1, 0, 0, []),
  (8, .ifCond .ne 6, false, [], 14, 0, 0, 0, 0, []),
  (11, .ldc 72, false, [], 0, 0, 0, 0, (-1000000001), []),
  (13, .ireturn, false, [], 0, 0, 0, 0, 0, []),
  (14, .aload_n 0, false, [], 0, 0, 0, 0, 0, []),
  (15, .getfield 10, false, [], 6, 0, 1, 0, 0, []),
  (18, .getfield 84, false, [], 0, 0, 1, 0, 0, []),
  (21, .iload_n 1, false, [], 0, 0, 0, 0, 0, []),
  (22, .aaload, false, [], 0, 0, 0, 0, 0, []),
  (23, .astore_n 3, false, [], 0, 0, 0, 0, 0, []),
  (24, .iload_n 2, false, [], 0, 0, 0, 0, 0, []),
  (25, .tableswitch 109 0 9 #[55, 60, 65, 70, 75, 80, 85, 94, 99, 104], false, [], 134, 55, 0, 0, 0, [(0, 80), (1, 85), (2, 90), (3, 95), (4, 100), (5, 105), (6, 110), (7, 119), (8, 124), (9, 129)]),
  (80, .aload_n 3, false, [], 0, 0, 0, 0, 0, []),
  (81, .getfield 88, false, [], 1, 0, 0, 0, 0, []),
  (84, .ireturn, false, [], 0, 0, 0, 0, 0, []),
  (85, .aload_n 3, false, [], 0, 0, 0, 0, 0, []),
  (86, .getfield 93, false, [], 1, 1, 0, 0, 0, []),
  (89, .ireturn, false, [], 0, 0, 0, 0, 0, []),
  (90, .aload_n 3, false, [], 0, 0, 0, 0, 0, []),
  (91, .getfield 96, false, [], 1, 2, 0, 0, 0, []),
  (94, .ireturn, false, [], 0, 0, 0, 0, 0, []),
  (95, .aload_n 3, false, [], 0, 0, 0, 0, 0, []),
  (96, .getfield 99, false, [], 1, 3, 0, 0, 0, []),
  (99, .ireturn, false, [], 0, 0, 0, 0, 0, []),
  (100, .aload_n 3, false, [], 0, 0, 0, 0, 0, []),
  (101, .getfield 102, false, [], 1, 4, 0, 0, 0, []),
  (104, .ireturn, false, [], 0, 0, 0, 0, 0, []),
  (105, .aload_n 3, false, [], 0, 0, 0, 0, 0, []),
  (106, .getfield 105, false, [], 1, 5, 0, 0, 0, []),
  (109, .ireturn, false, [], 0, 0, 0, 0, 0, []),
  (110, .aload_n 0, false, [], 0, 0, 0, 0, 0, []),
  (111, .getfield 10, false, [], 6, 0, 1, 0, 0, []),
  (114, .aload_n 3, false, [], 0, 0, 0, 0, 0, []),
  (115, .invokevirtual 108, false, [], 31, 1, 1, 0, 0, []),
  (118, .ireturn, false, [], 0, 0, 0, 0, 0, []),
  (119, .aload_n 3, false, [], 0, 0, 0, 0, 0, []),
  (120, .invokevirtual 112, false, [], 46, 0, 1, 1, 0, []),
  (123, .ireturn, false, [], 0, 0, 0, 0, 0, []),
  (124, .aload_n 3, false, [], 0, 0, 0, 0, 0, []),
  (125, .invokevirtual 116, false, [], 47, 0, 1, 1, 0, []),
  (128, .ireturn, false, [], 0, 0, 0, 0, 0, []),
  (129, .aload_n 3, false, [], 0, 0, 0, 0, 0, []),
  (130, .invokevirtual 119, false, [], 48, 0, 1, 1, 0, []),
  (133, .ireturn, false, [], 0, 0, 0, 0, 0, []),
  (134, .ldc 72, false, [], 0, 0, 0, 0, (-1000000001), []),
  (136, .ireturn, false, [], 0, 0, 0, 0, 0, [])]
def kk_X6_as : List mx_I := [
  (0, .aload_n 0, false, [], 0, 0, 0, 0, 0, []),
  (1, .getfield 10, false, [], 6, 0, 1, 0, 0, []),
  (4, .iload_n 1, false, [], 0, 0, 0, 0, 0, []),
  (5, .invokevirtual 81, false, [], 21, 1, 1, 0, 0, []),
  (8, .ifCond .eq 10, false, [], 18, 0, 0, 0, 0, []),
  (11, .iload_n 2, false, [], 0, 0, 0, 0, 0, []),
  (12, .invokestatic 64, false, [], 128, 1, 1, 0, 0, []),
  (15, .ifCond .ne 6, false, [], 21, 0, 0, 0, 0, []),
  (18, .ldc 72, false, [], 0, 0, 0, 0, (-1000000001), []),
  (20, .ireturn, false, [], 0, 0, 0, 0, 0, []),
  (21, .aload_n 0, false, [], 0, 0, 0, 0, 0, []),
  (22, .getfield 10, false, [], 6, 0, 1, 0, 0, []),
  (25, .getfield 84, false, [], 0, 0, 1, 0, 0, []),
  (28, .iload_n 1, false, [], 0, 0, 0, 0, 0, []),
  (29, .aaload, false, [], 0, 0, 0, 0, 0, []),
  (30, .iload_n 2, false, [], 0, 0, 0, 0, 0, []),
  (31, .invokevirtual 122, false, [], 44, 1, 1, 1, 0, []),
  (34, .ifCond .eq 18, false, [], 52, 0, 0, 0, 0, []),
  (37, .aload_n 0, false, [], 0, 0, 0, 0, 0, []),
  (38, .getfield 10, false, [], 6, 0, 1, 0, 0, []),
  (41, .getfield 84, false, [], 0, 0, 1, 0, 0, []),
  (44, .iload_n 1, false, [], 0, 0, 0, 0, 0, []),
  (45, .aaload, false, [], 0, 0, 0, 0, 0, []),
  (46, .getfield 93, false, [], 1, 1, 0, 0, 0, []),
  (49, .goto 5, false, [], 54, 0, 0, 0, 0, []),
  (52, .ldc 125, false, [], 0, 0, 0, 0, (-1000000012), []),
  (54, .ireturn, false, [], 0, 0, 0, 0, 0, [])]
def kk_X6_turns : List mx_I := [
  (0, .aload_n 0, false, [], 0, 0, 0, 0, 0, []),
  (1, .getfield 10, false, [], 6, 0, 1, 0, 0, []),
  (4, .iload_n 1, false, [], 0, 0, 0, 0, 0, []),
  (5, .invokevirtual 81, false, [], 21, 1, 1, 0, 0, []),
  (8, .ifCond .eq 10, false, [], 18, 0, 0, 0, 0, []),
  (11, .iload_n 2, false, [], 0, 0, 0, 0, 0, []),
  (12, .invokestatic 64, false, [], 128, 1, 1, 0, 0, []),
  (15, .ifCond .ne 6, false, [], 21, 0, 0, 0, 0, []),
  (18, .ldc 72, false, [], 0, 0, 0, 0, (-1000000001), []),
  (20, .ireturn, false, [], 0, 0, 0, 0, 0, []),
  (21, .aload_n 0, false, [], 0, 0, 0, 0, 0, []),
  (22, .getfield 10, false, [], 6, 0, 1, 0, 0, []),
  (25, .getfield 84, false, [], 0, 0, 1, 0, 0, []),
  (28, .iload_n 1, false, [], 0, 0, 0, 0, 0, []),
  (29, .aaload, false, [], 0, 0, 0, 0, 0, []),
  (30, .getfield 88, false, [], 1, 0, 0, 0, 0, []),
  (33, .istore_n 3, false, [], 0, 0, 0, 0, 0, []),
  (34, .aload_n 0, false, [], 0, 0, 0, 0, 0, []),
  (35, .getfield 10, false, [], 6, 0, 1, 0, 0, []),
  (38, .getfield 84, false, [], 0, 0, 1, 0, 0, []),
  (41, .iload_n 1, false, [], 0, 0, 0, 0, 0, []),
  (42, .aaload, false, [], 0, 0, 0, 0, 0, []),
  (43, .iload_n 2, false, [], 0, 0, 0, 0, 0, []),
  (44, .putfield 88, false, [], 1, 0, 0, 0, 0, []),
  (47, .iload_n 3, false, [], 0, 0, 0, 0, 0, []),
  (48, .ireturn, false, [], 0, 0, 0, 0, 0, [])]
def kk_X6_set : List mx_I := [
  (0, .aload_n 0, false, [], 0, 0, 0, 0, 0, []),
  (1, .getfield 10, false, [], 6, 0, 1, 0, 0, []),
  (4, .iload_n 1, false, [], 0, 0, 0, 0, 0, []),
  (5, .invokevirtual 81, false, [], 21, 1, 1, 0, 0, []),
  (8, .ifCond .eq 24, false, [], 32, 0, 0, 0, 0, []),
  (11, .iload_n 2, false, [], 0, 0, 0, 0, 0, []),
  (12, .iconst 1, false, [], 0, 0, 0, 0, 1, []),
  (13, .iconst 5, false, [], 0, 0, 0, 0, 5, []),
  (14, .invokestatic 68, false, [], 127, 3, 1, 0, 0, []),
  (17, .ifCond .eq 15, false, [], 32, 0, 0, 0, 0, []),
  (20, .iload_n 3, false, [], 0, 0, 0, 0, 0, []),
  (21, .iconst 0, false, [], 0, 0, 0, 0, 0, []),
  (22, .iload_n 2, false, [], 0, 0, 0, 0, 0, []),
  (23, .invokestatic 126, false, [], 88, 1, 1, 0, 0, []),
  (26, .invokestatic 68, false, [], 127, 3, 1, 0, 0, []),
  (29, .ifCond .ne 6, false, [], 35, 0, 0, 0, 0, []),
  (32, .ldc 72, false, [], 0, 0, 0, 0, (-1000000001), []),
  (34, .ireturn, false, [], 0, 0, 0, 0, 0, []),
  (35, .aload_n 0, false, [], 0, 0, 0, 0, 0, []),
  (36, .iload_n 1, false, [], 0, 0, 0, 0, 0, []),
  (37, .iload_n 2, false, [], 0, 0, 0, 0, 0, []),
  (38, .invokevirtual 130, false, [], 84, 2, 1, 6, 0, []),
  (41, .istore 4, false, [], 0, 0, 0, 0, 0, []),
  (43, .aload_n 0, false, [], 0, 0, 0, 0, 0, []),
  (44, .getfield 10, false, [], 6, 0, 1, 0, 0, []),
  (47, .getfield 84, false, [], 0, 0, 1, 0, 0, []),
  (50, .iload_n 1, false, [], 0, 0, 0, 0, 0, []),
  (51, .aaload, false, [], 0, 0, 0, 0, 0, []),
  (52, .astore 5, false, [], 0, 0, 0, 0, 0, []),
  (54, .iload_n 2, false, [], 0, 0, 0, 0, 0, []),
  (55, .tableswitch 65 1 4 #[29, 38, 47, 56], false, [], 120, 29, 0, 0, 0, [(1, 84), (2, 93), (3, 102), (4, 111)]),
  (84, .aload 5, false, [], 0, 0, 0, 0, 0, []),
  (86, .iload_n 3, false, [], 0, 0, 0, 0, 0, []),
  (87, .putfield 93, false, [], 1, 1, 0, 0, 0, []),
  (90, .goto 36, false, [], 126, 0, 0, 0, 0, []),
  (93, .aload 5, false, [], 0, 0, 0, 0, 0, []),
  (95, .iload_n 3, false, [], 0, 0, 0, 0, 0, []),
  (96, .putfield 96, false, [], 1, 2, 0, 0, 0, []),
  (99, .goto 27, false, [], 126, 0, 0, 0, 0, []),
  (102, .aload 5, false, [], 0, 0, 0, 0, 0, []),
  (104, .iload_n 3, false, [], 0, 0, 0, 0, 0, []),
  (105, .putfield 99, false, [], 1, 3, 0, 0, 0, []),
  (108, .goto 18, false, [], 126, 0, 0, 0, 0, []),
  (111, .aload 5, false, [], 0, 0, 0, 0, 0, []),
  (113, .iload_n 3, false, [], 0, 0, 0, 0, 0, []),
  (114, .putfield 102, false, [], 1, 4, 0, 0, 0, []),
  (117, .goto 9, false, [], 126, 0, 0, 0, 0, []),
  (120, .aload 5, false, [], 0, 0, 0, 0, 0, []),
  (122, .iload_n 3, false, [], 0, 0, 0, 0, 0, []),
  (123, .putfield 105, false, [], 1, 5, 0, 0, 0, []),
  (126, .iload 4, false, [], 0, 0, 0, 0, 0, []),
  (128, .ireturn, false, [], 0, 0, 0, 0, 0, [])]
def kk_X6_mostOf : List mx_I := [
  (0, .iload_n 0, false, [], 0, 0, 0, 0, 0, []),
  (1, .iconst 1, false, [], 0, 0, 0, 0, 1, []),
  (2, .if_icmp .ne 6, false, [], 8, 0, 0, 0, 0, []),
  (5, .bipush 59, false, [], 0, 0, 0, 0, 59, []),
  (7, .ireturn, false, [], 0, 0, 0, 0, 0, []),
  (8, .iload_n 0, false, [], 0, 0, 0, 0, 0, []),
  (9, .iconst 5, false, [], 0, 0, 0, 0, 5, []),
  (10, .if_icmp .ne 8, false, [], 18, 0, 0, 0, 0, []),
  (13, .bipush 9, false, [], 0, 0, 0, 0, 9, []),
  (15, .goto 5, false, [], 20, 0, 0, 0, 0, []),
  (18, .bipush 99, false, [], 0, 0, 0, 0, 99, []),
  (20, .ireturn, false, [], 0, 0, 0, 0, 0, [])]
def kk_X6_irons : List mx_I := [
  (0, .aload_n 0, false, [], 0, 0, 0, 0, 0, []),
  (1, .getfield 10, false, [], 6, 0, 1, 0, 0, []),
  (4, .iload_n 1, false, [], 0, 0, 0, 0, 0, []),
  (5, .invokevirtual 81, false, [], 21, 1, 1, 0, 0, []),
  (8, .ifCond .eq 13, false, [], 21, 0, 0, 0, 0, []),
  (11, .iload_n 2, false, [], 0, 0, 0, 0, 0, []),
  (12, .bipush (-3), false, [], 0, 0, 0, 0, (-3), []),
  (14, .iconst 3, false, [], 0, 0, 0, 0, 3, []),
  (15, .invokestatic 68, false, [], 127, 3, 1, 0, 0, []),
  (18, .ifCond .ne 6, false, [], 24, 0, 0, 0, 0, []),
  (21, .ldc 72, false, [], 0, 0, 0, 0, (-1000000001), []),
  (23, .ireturn, false, [], 0, 0, 0, 0, 0, []),
  (24, .aload_n 0, false, [], 0, 0, 0, 0, 0, []),
  (25, .getfield 10, false, [], 6, 0, 1, 0, 0, []),
  (28, .aload_n 0, false, [], 0, 0, 0, 0, 0, []),
  (29, .getfield 10, false, [], 6, 0, 1, 0, 0, []),
  (32, .getfield 84, false, [], 0, 0, 1, 0, 0, []),
  (35, .iload_n 1, false, [], 0, 0, 0, 0, 0, []),
  (36, .aaload, false, [], 0, 0, 0, 0, 0, []),
  (37, .iload_n 2, false, [], 0, 0, 0, 0, 0, []),
  (38, .invokevirtual 134, false, [], 30, 2, 1, 0, 0, []),
  (41, .ifCond .eq 7, false, [], 48, 0, 0, 0, 0, []),
  (44, .iconst 1, false, [], 0, 0, 0, 0, 1, []),
  (45, .goto 4, false, [], 49, 0, 0, 0, 0, []),
  (48, .iconst 0, false, [], 0, 0, 0, 0, 0, []),
  (49, .ireturn, false, [], 0, 0, 0, 0, 0, [])]
def kk_X6_rule : List mx_I := [
  (0, .iload_n 1, false, [], 0, 0, 0, 0, 0, []),
  (1, .iconst 0, false, [], 0, 0, 0, 0, 0, []),
  (2, .iconst 3, false, [], 0, 0, 0, 0, 3, []),
  (3, .invokestatic 68, false, [], 127, 3, 1, 0, 0, []),
  (6, .ifCond .eq 16, false, [], 22, 0, 0, 0, 0, []),
  (9, .iload_n 2, false, [], 0, 0, 0, 0, 0, []),
  (10, .iconst 0, false, [], 0, 0, 0, 0, 0, []),
  (11, .getstatic 138, false, [], 201, 0, 0, 0, 0, []),
  (14, .iload_n 1, false, [], 0, 0, 0, 0, 0, []),
  (15, .iaload, false, [], 0, 0, 0, 0, 0, []),
  (16, .invokestatic 68, false, [], 127, 3, 1, 0, 0, []),
  (19, .ifCond .ne 6, false, [], 25, 0, 0, 0, 0, []),
  (22, .ldc 72, false, [], 0, 0, 0, 0, (-1000000001), []),
  (24, .ireturn, false, [], 0, 0, 0, 0, 0, []),
  (25, .aload_n 0, false, [], 0, 0, 0, 0, 0, []),
  (26, .getfield 10, false, [], 6, 0, 1, 0, 0, []),
  (29, .getfield 141, false, [], 0, 2, 1, 0, 0, []),
  (32, .iload_n 1, false, [], 0, 0, 0, 0, 0, []),
  (33, .iaload, false, [], 0, 0, 0, 0, 0, []),
  (34, .istore_n 3, false, [], 0, 0, 0, 0, 0, []),
  (35, .aload_n 0, false, [], 0, 0, 0, 0, 0, []),
  (36, .getfield 10, false, [], 6, 0, 1, 0, 0, []),
  (39, .getfield 141, false, [], 0, 2, 1, 0, 0, []),
  (42, .iload_n 1, false, [], 0, 0, 0, 0, 0, []),
  (43, .iload_n 2, false, [], 0, 0, 0, 0, 0, []),
  (44, .iastore, false, [], 0, 0, 0, 0, 0, []),
  (45, .iload_n 3, false, [], 0, 0, 0, 0, 0, []),
  (46, .ireturn, false, [], 0, 0, 0, 0, 0, [])]
def kk_X6_deal : List mx_I := [
  (0, .iload_n 1, false, [], 0, 0, 0, 0, 0, []),
  (1, .iconst 1, false, [], 0, 0, 0, 0, 1, []),
  (2, .bipush 10, false, [], 0, 0, 0, 0, 10, []),
  (4, .invokestatic 68, false, [], 127, 3, 1, 0, 0, []),
  (7, .ifCond .ne 6, false, [], 13, 0, 0, 0, 0, []),
  (10, .ldc 72, false, [], 0, 0, 0, 0, (-1000000001), []),
  (12, .ireturn, false, [], 0, 0, 0, 0, 0, []),
  (13, .iload_n 1, false, [], 0, 0, 0, 0, 0, []),
  (14, .bipush 10, false, [], 0, 0, 0, 0, 10, []),
  (16, .aload_n 0, false, [], 0, 0, 0, 0, 0, []),
  (17, .getfield 10, false, [], 6, 0, 1, 0, 0, []),
  (20, .getfield 73, false, [], 0, 1, 0, 0, 0, []),
  (23, .isub, false, [], 0, 0, 0, 0, 0, []),
  (24, .invokestatic 144, false, [], 3, 2, 1, 0, 0, []),
  (27, .istore_n 2, false, [], 0, 0, 0, 0, 0, []),
  (28, .iconst 0, false, [], 0, 0, 0, 0, 0, []),
  (29, .istore_n 3, false, [], 0, 0, 0, 0, 0, []),
  (30, .iload_n 3, true, [0, 2, 3], 0, 0, 0, 0, 0, []),
  (31, .iload_n 2, false, [], 0, 0, 0, 0, 0, []),
  (32, .if_icmp .ge 58, false, [], 90, 0, 0, 0, 0, []),
  (35, .aload_n 0, false, [], 0, 0, 0, 0, 0, []),
  (36, .getfield 10, false, [], 6, 0, 1, 0, 0, []),
  (39, .invokevirtual 149, false, [], 24, 0, 1, 0, 0, []),
  (42, .bipush 6, false, [], 0, 0, 0, 0, 6, []),
  (44, .irem, false, [], 0, 0, 0, 0, 0, []),
  (45, .istore 4, false, [], 0, 0, 0, 0, 0, []),
  (47, .aload_n 0, false, [], 0, 0, 0, 0, 0, []),
  (48, .getfield 10, false, [], 6, 0, 1, 0, 0, []),
  (51, .invokevirtual 149, false, [], 24, 0, 1, 0, 0, []),
  (54, .bipush 60, false, [], 0, 0, 0, 0, 60, []),
  (56, .irem, false, [], 0, 0, 0, 0, 0, []),
  (57, .istore 5, false, [], 0, 0, 0, 0, 0, []),
  (59, .aload_n 0, false, [], 0, 0, 0, 0, 0, []),
  (60, .getfield 10, false, [], 6, 0, 1, 0, 0, []),
  (63, .invokevirtual 149, false, [], 24, 0, 1, 0, 0, []),
  (66, .bipush 100, false, [], 0, 0, 0, 0, 100, []),
  (68, .irem, false, [], 0, 0, 0, 0, 0, []),
  (69, .istore 6, false, [], 0, 0, 0, 0, 0, []),
  (71, .aload_n 0, false, [], 0, 0, 0, 0, 0, []),
  (72, .getfield 10, false, [], 6, 0, 1, 0, 0, []),
  (75, .iload 4, false, [], 0, 0, 0, 0, 0, []),
  (77, .iload 5, false, [], 0, 0, 0, 0, 0, []),
  (79, .iload 6, false, [], 0, 0, 0, 0, 0, []),
  (81, .invokevirtual 77, false, [], 22, 3, 0, 0, 0, []),
  (84, .iinc 3 1, false, [], 0, 0, 0, 0, 1, []),
  (87, .goto (-57), false, [], 30, 0, 0, 0, 0, []),
  (90, .iload_n 2, false, [], 0, 0, 0, 0, 0, []),
  (91, .ireturn, false, [], 0, 0, 0, 0, 0, [])]
def kk_X6_seed : List mx_I := [
  (0, .aload_n 0, false, [], 0, 0, 0, 0, 0, []),
  (1, .getfield 10, false, [], 6, 0, 1, 0, 0, []),
  (4, .getfield 152, false, [], 0, 10, 0, 0, 0, []),
  (7, .istore_n 2, false, [], 0, 0, 0, 0, 0, []),
  (8, .aload_n 0, false, [], 0, 0, 0, 0, 0, []),
  (9, .getfield 10, false, [], 6, 0, 1, 0, 0, []),
  (12, .iload_n 1, false, [], 0, 0, 0, 0, 0, []),
  (13, .putfield 152, false, [], 0, 10, 0, 0, 0, []),
  (16, .iload_n 2, false, [], 0, 0, 0, 0, 0, []),
  (17, .ireturn, false, [], 0, 0, 0, 0, 0, [])]
def kk_X6_days : List mx_I := [
  (0, .iload_n 1, false, [], 0, 0, 0, 0, 0, []),
  (1, .iconst 1, false, [], 0, 0, 0, 0, 1, []),
  (2, .bipush 100, false, [], 0, 0, 0, 0, 100, []),
  (4, .invokestatic 68, false, [], 127, 3, 1, 0, 0, []),
  (7, .ifCond .ne 6, false, [], 13, 0, 0, 0, 0, []),
  (10, .ldc 72, false, [], 0, 0, 0, 0, (-1000000001), []),
  (12, .ireturn, false, [], 0, 0, 0, 0, 0, []),
  (13, .aload_n 0, false, [], 0, 0, 0, 0, 0, []),
  (14, .getfield 10, false, [], 6, 0, 1, 0, 0, []),
  (17, .getfield 155, false, [], 0, 6, 0, 0, 0, []),
  (20, .istore_n 2, false, [], 0, 0, 0, 0, 0, []),
  (21, .aload_n 0, false, [], 0, 0, 0, 0, 0, []),
  (22, .getfield 10, false, [], 6, 0, 1, 0, 0, []),
  (25, .aload_n 0, false, [], 0, 0, 0, 0, 0, []),
  (26, .getfield 10, false, [], 6, 0, 1, 0, 0, []),
  (29, .iload_n 1, false, [], 0, 0, 0, 0, 0, []),
  (30, .invokevirtual 158, false, [], 25, 1, 1, 0, 0, []),
  (33, .invokevirtual 161, false, [], 26, 1, 0, 0, 0, []),
  (36, .aload_n 0, false, [], 0, 0, 0, 0, 0, []),
  (37, .getfield 10, false, [], 6, 0, 1, 0, 0, []),
  (40, .getfield 155, false, [], 0, 6, 0, 0, 0, []),
  (43, .iload_n 2, false, [], 0, 0, 0, 0, 0, []),
  (44, .isub, false, [], 0, 0, 0, 0, 0, []),
  (45, .ireturn, false, [], 0, 0, 0, 0, 0, [])]
def kk_X6_closet : List mx_I := [
  (0, .iload_n 1, false, [], 0, 0, 0, 0, 0, []),
  (1, .tableswitch 102 0 5 #[39, 47, 55, 63, 71, 79], false, [], 103, 39, 0, 0, 0, [(0, 40), (1, 48), (2, 56), (3, 64), (4, 72), (5, 80)]),
  (40, .aload_n 0, false, [], 0, 0, 0, 0, 0, []),
  (41, .getfield 10, false, [], 6, 0, 1, 0, 0, []),
  (44, .getfield 155, false, [], 0, 6, 0, 0, 0, []),
  (47, .ireturn, false, [], 0, 0, 0, 0, 0, []),
  (48, .aload_n 0, false, [], 0, 0, 0, 0, 0, []),
  (49, .getfield 10, false, [], 6, 0, 1, 0, 0, []),
  (52, .getfield 165, false, [], 0, 7, 0, 0, 0, []),
  (55, .ireturn, false, [], 0, 0, 0, 0, 0, []),
  (56, .aload_n 0, false, [], 0, 0, 0, 0, 0, []),
  (57, .getfield 10, false, [], 6, 0, 1, 0, 0, []),
  (60, .getfield 168, false, [], 0, 8, 0, 0, 0, []),
  (63, .ireturn, false, [], 0, 0, 0, 0, 0, []),
  (64, .aload_n 0, false, [], 0, 0, 0, 0, 0, []),
  (65, .getfield 10, false, [], 6, 0, 1, 0, 0, []),
  (68, .invokevirtual 171, false, [], 36, 0, 1, 0, 0, []),
  (71, .ireturn, false, [], 0, 0, 0, 0, 0, []),
  (72, .aload_n 0, false, [], 0, 0, 0, 0, 0, []),
  (73, .getfield 10, false, [], 6, 0, 1, 0, 0, []),
  (76, .invokevirtual 174, false, [], 37, 0, 1, 0, 0, []),
  (79, .ireturn, false, [], 0, 0, 0, 0, 0, []),
  (80, .aload_n 0, false, [], 0, 0, 0, 0, 0, []),
  (81, .getfield 10, false, [], 6, 0, 1, 0, 0, []),
  (84, .getfield 73, false, [], 0, 1, 0, 0, 0, []),
  (87, .ifCond .ne 8, false, [], 95, 0, 0, 0, 0, []),
  (90, .ldc 177, false, [], 0, 0, 0, 0, (-1000000005), []),
  (92, .goto 10, false, [], 102, 0, 0, 0, 0, []),
  (95, .aload_n 0, false, [], 0, 0, 0, 0, 0, []),
  (96, .getfield 10, false, [], 6, 0, 1, 0, 0, []),
  (99, .invokevirtual 178, false, [], 35, 0, 1, 0, 0, []),
  (102, .ireturn, false, [], 0, 0, 0, 0, 0, []),
  (103, .ldc 72, false, [], 0, 0, 0, 0, (-1000000001), []),
  (105, .ireturn, false, [], 0, 0, 0, 0, 0, [])]
def kk_X6_behind : List mx_I := [
  (0, .iload_n 1, false, [], 0, 0, 0, 0, 0, []),
  (1, .iconst 0, false, [], 0, 0, 0, 0, 0, []),
  (2, .bipush 100, false, [], 0, 0, 0, 0, 100, []),
  (4, .invokestatic 68, false, [], 127, 3, 1, 0, 0, []),
  (7, .ifCond .eq 25, false, [], 32, 0, 0, 0, 0, []),
  (10, .iload_n 2, false, [], 0, 0, 0, 0, 0, []),
  (11, .ifCond .lt 21, false, [], 32, 0, 0, 0, 0, []),
  (14, .iload_n 2, false, [], 0, 0, 0, 0, 0, []),
  (15, .iconst 2, false, [], 0, 0, 0, 0, 2, []),
  (16, .if_icmp .le 19, false, [], 35, 0, 0, 0, 0, []),
  (19, .aload_n 0, false, [], 0, 0, 0, 0, 0, []),
  (20, .getfield 10, false, [], 6, 0, 1, 0, 0, []),
  (23, .iload_n 2, false, [], 0, 0, 0, 0, 0, []),
  (24, .iconst 3, false, [], 0, 0, 0, 0, 3, []),
  (25, .isub, false, [], 0, 0, 0, 0, 0, []),
  (26, .invokevirtual 81, false, [], 21, 1, 1, 0, 0, []),
  (29, .ifCond .ne 6, false, [], 35, 0, 0, 0, 0, []),
  (32, .ldc 72, false, [], 0, 0, 0, 0, (-1000000001), []),
  (34, .ireturn, false, [], 0, 0, 0, 0, 0, []),
  (35, .aload_n 0, false, [], 0, 0, 0, 0, 0, []),
  (36, .invokevirtual 181, false, [], 126, 0, 2, 6, 0, []),
  (39, .astore_n 3, false, [], 0, 0, 0, 0, 0, []),
  (40, .aload_n 3, false, [], 0, 0, 0, 0, 0, []),
  (41, .iload_n 1, false, [], 0, 0, 0, 0, 0, []),
  (42, .invokevirtual 161, false, [], 26, 1, 0, 0, 0, []),
  (45, .iload_n 2, false, [], 0, 0, 0, 0, 0, []),
  (46, .tableswitch 44 0 2 #[26, 31, 36], false, [], 90, 26, 0, 0, 0, [(0, 72), (1, 77), (2, 82)]),
  (72, .aload_n 3, false, [], 0, 0, 0, 0, 0, []),
  (73, .getfield 155, false, [], 0, 6, 0, 0, 0, []),
  (76, .ireturn, false, [], 0, 0, 0, 0, 0, []),
  (77, .aload_n 3, false, [], 0, 0, 0, 0, 0, []),
  (78, .getfield 165, false, [], 0, 7, 0, 0, 0, []),
  (81, .ireturn, false, [], 0, 0, 0, 0, 0, []),
  (82, .aload_n 3, false, [], 0, 0, 0, 0, 0, []),
  (83, .invokevirtual 174, false, [], 37, 0, 1, 0, 0, []),
  (86, .invokestatic 185, false, [], 4, 1, 1, 0, 0, []),
  (89, .ireturn, false, [], 0, 0, 0, 0, 0, []),
  (90, .aload_n 3, false, [], 0, 0, 0, 0, 0, []),
  (91, .getfield 84, false, [], 0, 0, 1, 0, 0, []),
  (94, .iload_n 2, false, [], 0, 0, 0, 0, 0, []),
  (95, .iconst 3, false, [], 0, 0, 0, 0, 3, []),
  (96, .isub, false, [], 0, 0, 0, 0, 0, []),
  (97, .aaload, false, [], 0, 0, 0, 0, 0, []),
  (98, .getfield 96, false, [], 1, 2, 0, 0, 0, []),
  (101, .ireturn, false, [], 0, 0, 0, 0, 0, [])]
def kk_X6_dulls : List mx_I := [
  (0, .aload_n 0, false, [], 0, 0, 0, 0, 0, []),
  (1, .getfield 10, false, [], 6, 0, 1, 0, 0, []),
  (4, .iload_n 1, false, [], 0, 0, 0, 0, 0, []),
  (5, .invokevirtual 81, false, [], 21, 1, 1, 0, 0, []),
  (8, .ifCond .eq 13, false, [], 21, 0, 0, 0, 0, []),
  (11, .iload_n 2, false, [], 0, 0, 0, 0, 0, []),
  (12, .iconst 0, false, [], 0, 0, 0, 0, 0, []),
  (13, .bipush 99, false, [], 0, 0, 0, 0, 99, []),
  (15, .invokestatic 68, false, [], 127, 3, 1, 0, 0, []),
  (18, .ifCond .ne 6, false, [], 24, 0, 0, 0, 0, []),
  (21, .ldc 72, false, [], 0, 0, 0, 0, (-1000000001), []),
  (23, .ireturn, false, [], 0, 0, 0, 0, 0, []),
  (24, .aload_n 0, false, [], 0, 0, 0, 0, 0, []),
  (25, .invokevirtual 181, false, [], 126, 0, 2, 6, 0, []),
  (28, .astore_n 3, false, [], 0, 0, 0, 0, 0, []),
  (29, .iconst 0, false, [], 0, 0, 0, 0, 0, []),
  (30, .istore 4, false, [], 0, 0, 0, 0, 0, []),
  (32, .iload 4, true, [1, 2, 3, 4], 0, 0, 0, 0, 0, []),
  (34, .sipush 200, false, [], 0, 0, 0, 0, 200, []),
  (37, .if_icmp .gt 29, false, [], 66, 0, 0, 0, 0, []),
  (40, .aload_n 3, false, [], 0, 0, 0, 0, 0, []),
  (41, .getfield 84, false, [], 0, 0, 1, 0, 0, []),
  (44, .iload_n 1, false, [], 0, 0, 0, 0, 0, []),
  (45, .aaload, false, [], 0, 0, 0, 0, 0, []),
  (46, .getfield 96, false, [], 1, 2, 0, 0, 0, []),
  (49, .iload_n 2, false, [], 0, 0, 0, 0, 0, []),
  (50, .if_icmp .ge 6, false, [], 56, 0, 0, 0, 0, []),
  (53, .iload 4, false, [], 0, 0, 0, 0, 0, []),
  (55, .ireturn, false, [], 0, 0, 0, 0, 0, []),
  (56, .aload_n 3, false, [], 0, 0, 0, 0, 0, []),
  (57, .invokevirtual 190, false, [], 27, 0, 0, 0, 0, []),
  (60, .iinc 4 1, false, [], 0, 0, 0, 0, 1, []),
  (63, .goto (-31), false, [], 32, 0, 0, 0, 0, []),
  (66, .ldc 177, false, [], 0, 0, 0, 0, (-1000000005), []),
  (68, .ireturn, false, [], 0, 0, 0, 0, 0, [])]
def kk_X6_doubles : List mx_I := [
  (0, .aload_n 0, false, [], 0, 0, 0, 0, 0, []),
  (1, .getfield 10, false, [], 6, 0, 1, 0, 0, []),
  (4, .iload_n 1, false, [], 0, 0, 0, 0, 0, []),
  (5, .invokevirtual 81, false, [], 21, 1, 1, 0, 0, []),
  (8, .ifCond .ne 6, false, [], 14, 0, 0, 0, 0, []),
  (11, .ldc 72, false, [], 0, 0, 0, 0, (-1000000001), []),
  (13, .ireturn, false, [], 0, 0, 0, 0, 0, []),
  (14, .aload_n 0, false, [], 0, 0, 0, 0, 0, []),
  (15, .invokevirtual 181, false, [], 126, 0, 2, 6, 0, []),
  (18, .astore_n 2, false, [], 0, 0, 0, 0, 0, []),
  (19, .iconst 0, false, [], 0, 0, 0, 0, 0, []),
  (20, .istore_n 3, false, [], 0, 0, 0, 0, 0, []),
  (21, .iload_n 3, true, [1, 2, 3], 0, 0, 0, 0, 0, []),
  (22, .sipush 200, false, [], 0, 0, 0, 0, 200, []),
  (25, .if_icmp .gt 27, false, [], 52, 0, 0, 0, 0, []),
  (28, .aload_n 2, false, [], 0, 0, 0, 0, 0, []),
  (29, .getfield 84, false, [], 0, 0, 1, 0, 0, []),
  (32, .iload_n 1, false, [], 0, 0, 0, 0, 0, []),
  (33, .aaload, false, [], 0, 0, 0, 0, 0, []),
  (34, .getfield 99, false, [], 1, 3, 0, 0, 0, []),
  (37, .ifCond .le 5, false, [], 42, 0, 0, 0, 0, []),
  (40, .iload_n 3, false, [], 0, 0, 0, 0, 0, []),
  (41, .ireturn, false, [], 0, 0, 0, 0, 0, []),
  (42, .aload_n 2, false, [], 0, 0, 0, 0, 0, []),
  (43, .invokevirtual 190, false, [], 27, 0, 0, 0, 0, []),
  (46, .iinc 3 1, false, [], 0, 0, 0, 0, 1, []),
  (49, .goto (-28), false, [], 21, 0, 0, 0, 0, []),
  (52, .ldc 177, false, [], 0, 0, 0, 0, (-1000000005), []),
  (54, .ireturn, false, [], 0, 0, 0, 0, 0, [])]
def kk_X6_wax : List mx_I := [
  (0, .iload_n 1, false, [], 0, 0, 0, 0, 0, []),
  (1, .iconst 0, false, [], 0, 0, 0, 0, 0, []),
  (2, .bipush 20, false, [], 0, 0, 0, 0, 20, []),
  (4, .invokestatic 68, false, [], 127, 3, 1, 0, 0, []),
  (7, .ifCond .ne 6, false, [], 13, 0, 0, 0, 0, []),
  (10, .ldc 72, false, [], 0, 0, 0, 0, (-1000000001), []),
  (12, .ireturn, false, [], 0, 0, 0, 0, 0, []),
  (13, .aload_n 0, false, [], 0, 0, 0, 0, 0, []),
  (14, .getfield 10, false, [], 6, 0, 1, 0, 0, []),
  (17, .invokevirtual 193, false, [], 38, 0, 1, 0, 0, []),
  (20, .istore_n 2, false, [], 0, 0, 0, 0, 0, []),
  (21, .iconst 1, false, [], 0, 0, 0, 0, 1, []),
  (22, .aload_n 0, false, [], 0, 0, 0, 0, 0, []),
  (23, .getfield 10, false, [], 6, 0, 1, 0, 0, []),
  (26, .getfield 73, false, [], 0, 1, 0, 0, 0, []),
  (29, .ishl, false, [], 0, 0, 0, 0, 0, []),
  (30, .istore_n 3, false, [], 0, 0, 0, 0, 0, []),
  (31, .iconst 0, false, [], 0, 0, 0, 0, 0, []),
  (32, .istore 4, false, [], 0, 0, 0, 0, 0, []),
  (34, .iload 4, true, [0, 1, 2, 3, 4], 0, 0, 0, 0, 0, []),
  (36, .aload_n 0, false, [], 0, 0, 0, 0, 0, []),
  (37, .getfield 10, false, [], 6, 0, 1, 0, 0, []),
  (40, .getfield 73, false, [], 0, 1, 0, 0, 0, []),
  (43, .if_icmp .gt 71, false, [], 114, 0, 0, 0, 0, []),
  (46, .iconst 0, false, [], 0, 0, 0, 0, 0, []),
  (47, .istore 5, false, [], 0, 0, 0, 0, 0, []),
  (49, .iload 5, true, [0, 1, 2, 3, 4, 5], 0, 0, 0, 0, 0, []),
  (51, .iload_n 3, false, [], 0, 0, 0, 0, 0, []),
  (52, .if_icmp .ge 56, false, [], 108, 0, 0, 0, 0, []),
  (55, .iload 5, false, [], 0, 0, 0, 0, 0, []),
  (57, .invokestatic 185, false, [], 4, 1, 1, 0, 0, []),
  (60, .iload 4, false, [], 0, 0, 0, 0, 0, []),
  (62, .if_icmp .ne 40, false, [], 102, 0, 0, 0, 0, []),
  (65, .iload 5, false, [], 0, 0, 0, 0, 0, []),
  (67, .iload_n 2, false, [], 0, 0, 0, 0, 0, []),
  (68, .iand, false, [], 0, 0, 0, 0, 0, []),
  (69, .ifCond .ne 33, false, [], 102, 0, 0, 0, 0, []),
  (72, .aload_n 0, false, [], 0, 0, 0, 0, 0, []),
  (73, .invokevirtual 181, false, [], 126, 0, 2, 6, 0, []),
  (76, .astore 6, false, [], 0, 0, 0, 0, 0, []),
  (78, .aload 6, false, [], 0, 0, 0, 0, 0, []),
  (80, .iload 5, false, [], 0, 0, 0, 0, 0, []),
  (82, .invokevirtual 196, false, [], 39, 1, 0, 0, 0, []),
  (85, .aload 6, false, [], 0, 0, 0, 0, 0, []),
  (87, .iload_n 1, false, [], 0, 0, 0, 0, 0, []),
  (88, .invokevirtual 161, false, [], 26, 1, 0, 0, 0, []),
  (91, .aload 6, false, [], 0, 0, 0, 0, 0, []),
  (93, .invokevirtual 199, false, [], 40, 0, 1, 0, 0, []),
  (96, .ifCond .ne 6, false, [], 102, 0, 0, 0, 0, []),
  (99, .iload 5, false, [], 0, 0, 0, 0, 0, []),
  (101, .ireturn, false, [], 0, 0, 0, 0, 0, []),
  (102, .iinc 5 1, false, [], 0, 0, 0, 0, 1, []),
  (105, .goto (-56), false, [], 49, 0, 0, 0, 0, []),
  (108, .iinc 4 1, false, [], 0, 0, 0, 0, 1, []),
  (111, .goto (-77), false, [], 34, 0, 0, 0, 0, []),
  (114, .ldc 177, false, [], 0, 0, 0, 0, (-1000000005), []),
  (116, .ireturn, false, [], 0, 0, 0, 0, 0, [])]
def kk_X6_iron : List mx_I := [
  (0, .iload_n 1, false, [], 0, 0, 0, 0, 0, []),
  (1, .iconst 0, false, [], 0, 0, 0, 0, 0, []),
  (2, .bipush 30, false, [], 0, 0, 0, 0, 30, []),
  (4, .invokestatic 68, false, [], 127, 3, 1, 0, 0, []),
  (7, .ifCond .eq 14, false, [], 21, 0, 0, 0, 0, []),
  (10, .iload_n 2, false, [], 0, 0, 0, 0, 0, []),
  (11, .iconst 0, false, [], 0, 0, 0, 0, 0, []),
  (12, .sipush 990, false, [], 0, 0, 0, 0, 990, []),
  (15, .invokestatic 68, false, [], 127, 3, 1, 0, 0, []),
  (18, .ifCond .ne 6, false, [], 24, 0, 0, 0, 0, []),
  (21, .ldc 72, false, [], 0, 0, 0, 0, (-1000000001), []),
  (23, .ireturn, false, [], 0, 0, 0, 0, 0, []),
  (24, .iconst 0, false, [], 0, 0, 0, 0, 0, []),
  (25, .istore_n 3, false, [], 0, 0, 0, 0, 0, []),
  (26, .iload_n 3, true, [0, 1, 2, 3], 0, 0, 0, 0, 0, []),
  (27, .getstatic 138, false, [], 201, 0, 0, 0, 0, []),
  (30, .iconst 3, false, [], 0, 0, 0, 0, 3, []),
  (31, .iaload, false, [], 0, 0, 0, 0, 0, []),
  (32, .if_icmp .gt 40, false, [], 72, 0, 0, 0, 0, []),
  (35, .aload_n 0, false, [], 0, 0, 0, 0, 0, []),
  (36, .invokevirtual 181, false, [], 126, 0, 2, 6, 0, []),
  (39, .astore 4, false, [], 0, 0, 0, 0, 0, []),
  (41, .aload 4, false, [], 0, 0, 0, 0, 0, []),
  (43, .getfield 141, false, [], 0, 2, 1, 0, 0, []),
  (46, .iconst 3, false, [], 0, 0, 0, 0, 3, []),
  (47, .iload_n 3, false, [], 0, 0, 0, 0, 0, []),
  (48, .iastore, false, [], 0, 0, 0, 0, 0, []),
  (49, .aload 4, false, [], 0, 0, 0, 0, 0, []),
  (51, .iload_n 1, false, [], 0, 0, 0, 0, 0, []),
  (52, .invokevirtual 161, false, [], 26, 1, 0, 0, 0, []),
  (55, .aload 4, false, [], 0, 0, 0, 0, 0, []),
  (57, .invokevirtual 171, false, [], 36, 0, 1, 0, 0, []),
  (60, .iload_n 2, false, [], 0, 0, 0, 0, 0, []),
  (61, .if_icmp .lt 5, false, [], 66, 0, 0, 0, 0, []),
  (64, .iload_n 3, false, [], 0, 0, 0, 0, 0, []),
  (65, .ireturn, false, [], 0, 0, 0, 0, 0, []),
  (66, .iinc 3 1, false, [], 0, 0, 0, 0, 1, []),
  (69, .goto (-43), false, [], 26, 0, 0, 0, 0, []),
  (72, .ldc 177, false, [], 0, 0, 0, 0, (-1000000005), []),
  (74, .ireturn, false, [], 0, 0, 0, 0, 0, [])]
def kk_X6_first : List mx_I := [
  (0, .iload_n 1, false, [], 0, 0, 0, 0, 0, []),
  (1, .iconst 1, false, [], 0, 0, 0, 0, 1, []),
  (2, .bipush 60, false, [], 0, 0, 0, 0, 60, []),
  (4, .invokestatic 68, false, [], 127, 3, 1, 0, 0, []),
  (7, .ifCond .eq 12, false, [], 19, 0, 0, 0, 0, []),
  (10, .iload_n 2, false, [], 0, 0, 0, 0, 0, []),
  (11, .iconst 0, false, [], 0, 0, 0, 0, 0, []),
  (12, .iconst 1, false, [], 0, 0, 0, 0, 1, []),
  (13, .invokestatic 68, false, [], 127, 3, 1, 0, 0, []),
  (16, .ifCond .ne 6, false, [], 22, 0, 0, 0, 0, []),
  (19, .ldc 72, false, [], 0, 0, 0, 0, (-1000000001), []),
  (21, .ireturn, false, [], 0, 0, 0, 0, 0, []),
  (22, .aload_n 0, false, [], 0, 0, 0, 0, 0, []),
  (23, .getfield 10, false, [], 6, 0, 1, 0, 0, []),
  (26, .getfield 73, false, [], 0, 1, 0, 0, 0, []),
  (29, .ifCond .ne 6, false, [], 35, 0, 0, 0, 0, []),
  (32, .ldc 177, false, [], 0, 0, 0, 0, (-1000000005), []),
  (34, .ireturn, false, [], 0, 0, 0, 0, 0, []),
  (35, .iconst 0, false, [], 0, 0, 0, 0, 0, []),
  (36, .istore_n 3, false, [], 0, 0, 0, 0, 0, []),
  (37, .iconst (-1), false, [], 0, 0, 0, 0, (-1), []),
  (38, .istore 4, false, [], 0, 0, 0, 0, 0, []),
  (40, .iconst 0, false, [], 0, 0, 0, 0, 0, []),
  (41, .istore 5, false, [], 0, 0, 0, 0, 0, []),
  (43, .iload 5, true, [0, 1, 2, 3, 4, 5], 0, 0, 0, 0, 0, []),
  (45, .aload_n 0, false, [], 0, 0, 0, 0, 0, []),
  (46, .getfield 10, false, [], 6, 0, 1, 0, 0, []),
  (49, .getfield 73, false, [], 0, 1, 0, 0, 0, []),
  (52, .if_icmp .ge 57, false, [], 109, 0, 0, 0, 0, []),
  (55, .aload_n 0, false, [], 0, 0, 0, 0, 0, []),
  (56, .invokevirtual 181, false, [], 126, 0, 2, 6, 0, []),
  (59, .astore 6, false, [], 0, 0, 0, 0, 0, []),
  (61, .aload 6, false, [], 0, 0, 0, 0, 0, []),
  (63, .aload 6, false, [], 0, 0, 0, 0, 0, []),
  (65, .getfield 84, false, [], 0, 0, 1, 0, 0, []),
  (68, .iload 5, false, [], 0, 0, 0, 0, 0, []),
  (70, .aaload, false, [], 0, 0, 0, 0, 0, []),
  (71, .iconst 0, false, [], 0, 0, 0, 0, 0, []),
  (72, .invokevirtual 134, false, [], 30, 2, 1, 0, 0, []),
  (75, .pop, false, [], 0, 0, 0, 0, 0, []),
  (76, .aload 6, false, [], 0, 0, 0, 0, 0, []),
  (78, .iload_n 1, false, [], 0, 0, 0, 0, 0, []),
  (79, .invokevirtual 161, false, [], 26, 1, 0, 0, 0, []),
  (82, .aload 6, false, [], 0, 0, 0, 0, 0, []),
  (84, .invokevirtual 171, false, [], 36, 0, 1, 0, 0, []),
  (87, .istore 7, false, [], 0, 0, 0, 0, 0, []),
  (89, .iload 7, false, [], 0, 0, 0, 0, 0, []),
  (91, .iload 4, false, [], 0, 0, 0, 0, 0, []),
  (93, .if_icmp .le 10, false, [], 103, 0, 0, 0, 0, []),
  (96, .iload 5, false, [], 0, 0, 0, 0, 0, []),
  (98, .istore_n 3, false, [], 0, 0, 0, 0, 0, []),
  (99, .iload 7, false, [], 0, 0, 0, 0, 0, []),
  (101, .istore 4, false, [], 0, 0, 0, 0, 0, []),
  (103, .iinc 5 1, false, [], 0, 0, 0, 0, 1, []),
  (106, .goto (-63), false, [], 43, 0, 0, 0, 0, []),
  (109, .iload_n 2, false, [], 0, 0, 0, 0, 0, []),
  (110, .ifCond .ne 7, false, [], 117, 0, 0, 0, 0, []),
  (113, .iload_n 3, false, [], 0, 0, 0, 0, 0, []),
  (114, .goto 5, false, [], 119, 0, 0, 0, 0, []),
  (117, .iload 4, false, [], 0, 0, 0, 0, 0, []),
  (119, .ireturn, false, [], 0, 0, 0, 0, 0, [])]
def kk_X6_becomes : List mx_I := [
  (0, .aload_n 0, false, [], 0, 0, 0, 0, 0, []),
  (1, .getfield 10, false, [], 6, 0, 1, 0, 0, []),
  (4, .iload_n 1, false, [], 0, 0, 0, 0, 0, []),
  (5, .invokevirtual 81, false, [], 21, 1, 1, 0, 0, []),
  (8, .ifCond .eq 22, false, [], 30, 0, 0, 0, 0, []),
  (11, .iload_n 2, false, [], 0, 0, 0, 0, 0, []),
  (12, .iconst 1, false, [], 0, 0, 0, 0, 1, []),
  (13, .bipush 60, false, [], 0, 0, 0, 0, 60, []),
  (15, .invokestatic 68, false, [], 127, 3, 1, 0, 0, []),
  (18, .ifCond .eq 12, false, [], 30, 0, 0, 0, 0, []),
  (21, .iload_n 3, false, [], 0, 0, 0, 0, 0, []),
  (22, .iconst 0, false, [], 0, 0, 0, 0, 0, []),
  (23, .iconst 1, false, [], 0, 0, 0, 0, 1, []),
  (24, .invokestatic 68, false, [], 127, 3, 1, 0, 0, []),
  (27, .ifCond .ne 6, false, [], 33, 0, 0, 0, 0, []),
  (30, .ldc 72, false, [], 0, 0, 0, 0, (-1000000001), []),
  (32, .ireturn, false, [], 0, 0, 0, 0, 0, []),
  (33, .iconst 0, false, [], 0, 0, 0, 0, 0, []),
  (34, .istore 4, false, [], 0, 0, 0, 0, 0, []),
  (36, .iconst (-1), false, [], 0, 0, 0, 0, (-1), []),
  (37, .istore 5, false, [], 0, 0, 0, 0, 0, []),
  (39, .iconst 0, false, [], 0, 0, 0, 0, 0, []),
  (40, .istore 6, false, [], 0, 0, 0, 0, 0, []),
  (42, .iload 6, true, [0, 1, 2, 3, 4, 5, 6], 0, 0, 0, 0, 0, []),
  (44, .bipush 6, false, [], 0, 0, 0, 0, 6, []),
  (46, .if_icmp .ge 55, false, [], 101, 0, 0, 0, 0, []),
  (49, .aload_n 0, false, [], 0, 0, 0, 0, 0, []),
  (50, .invokevirtual 181, false, [], 126, 0, 2, 6, 0, []),
  (53, .astore 7, false, [], 0, 0, 0, 0, 0, []),
  (55, .aload 7, false, [], 0, 0, 0, 0, 0, []),
  (57, .getfield 84, false, [], 0, 0, 1, 0, 0, []),
  (60, .iload_n 1, false, [], 0, 0, 0, 0, 0, []),
  (61, .aaload, false, [], 0, 0, 0, 0, 0, []),
  (62, .iload 6, false, [], 0, 0, 0, 0, 0, []),
  (64, .putfield 88, false, [], 1, 0, 0, 0, 0, []),
  (67, .aload 7, false, [], 0, 0, 0, 0, 0, []),
  (69, .iload_n 2, false, [], 0, 0, 0, 0, 0, []),
  (70, .invokevirtual 161, false, [], 26, 1, 0, 0, 0, []),
  (73, .aload 7, false, [], 0, 0, 0, 0, 0, []),
  (75, .invokevirtual 171, false, [], 36, 0, 1, 0, 0, []),
  (78, .istore 8, false, [], 0, 0, 0, 0, 0, []),
  (80, .iload 8, false, [], 0, 0, 0, 0, 0, []),
  (82, .iload 5, false, [], 0, 0, 0, 0, 0, []),
  (84, .if_icmp .le 11, false, [], 95, 0, 0, 0, 0, []),
  (87, .iload 6, false, [], 0, 0, 0, 0, 0, []),
  (89, .istore 4, false, [], 0, 0, 0, 0, 0, []),
  (91, .iload 8, false, [], 0, 0, 0, 0, 0, []),
  (93, .istore 5, false, [], 0, 0, 0, 0, 0, []),
  (95, .iinc 6 1, false, [], 0, 0, 0, 0, 1, []),
  (98, .goto (-56), false, [], 42, 0, 0, 0, 0, []),
  (101, .iload_n 3, false, [], 0, 0, 0, 0, 0, []),
  (102, .ifCond .ne 8, false, [], 110, 0, 0, 0, 0, []),
  (105, .iload 4, false, [], 0, 0, 0, 0, 0, []),
  (107, .goto 5, false, [], 112, 0, 0, 0, 0, []),
  (110, .iload 5, false, [], 0, 0, 0, 0, 0, []),
  (112, .ireturn, false, [], 0, 0, 0, 0, 0, [])]
def kk_X6_like : List mx_I := [
  (0, .iload_n 1, false, [], 0, 0, 0, 0, 0, []),
  (1, .invokestatic 203, false, [], 129, 1, 1, 0, 0, []),
  (4, .ifCond .eq 12, false, [], 16, 0, 0, 0, 0, []),
  (7, .iload_n 2, false, [], 0, 0, 0, 0, 0, []),
  (8, .iconst 0, false, [], 0, 0, 0, 0, 0, []),
  (9, .iconst 1, false, [], 0, 0, 0, 0, 1, []),
  (10, .invokestatic 68, false, [], 127, 3, 1, 0, 0, []),
  (13, .ifCond .ne 6, false, [], 19, 0, 0, 0, 0, []),
  (16, .ldc 72, false, [], 0, 0, 0, 0, (-1000000001), []),
  (18, .ireturn, false, [], 0, 0, 0, 0, 0, []),
  (19, .aload_n 0, false, [], 0, 0, 0, 0, 0, []),
  (20, .getfield 46, false, [], 6, 8, 1, 0, 0, []),
  (23, .iload_n 1, false, [], 0, 0, 0, 0, 0, []),
  (24, .aaload, false, [], 0, 0, 0, 0, 0, []),
  (25, .invokevirtual 206, false, [], 74, 0, 1, 3, 0, []),
  (28, .ifCond .eq 6, false, [], 34, 0, 0, 0, 0, []),
  (31, .ldc 209, false, [], 0, 0, 0, 0, (-1000000011), []),
  (33, .ireturn, false, [], 0, 0, 0, 0, 0, []),
  (34, .aload_n 0, false, [], 0, 0, 0, 0, 0, []),
  (35, .getfield 10, false, [], 6, 0, 1, 0, 0, []),
  (38, .getfield 73, false, [], 0, 1, 0, 0, 0, []),
  (41, .ifCond .ne 6, false, [], 47, 0, 0, 0, 0, []),
  (44, .ldc 177, false, [], 0, 0, 0, 0, (-1000000005), []),
  (46, .ireturn, false, [], 0, 0, 0, 0, 0, []),
  (47, .aload_n 0, false, [], 0, 0, 0, 0, 0, []),
  (48, .aload_n 0, false, [], 0, 0, 0, 0, 0, []),
  (49, .getfield 46, false, [], 6, 8, 1, 0, 0, []),
  (52, .iload_n 1, false, [], 0, 0, 0, 0, 0, []),
  (53, .aaload, false, [], 0, 0, 0, 0, 0, []),
  (54, .invokevirtual 210, false, [], 103, 1, 0, 6, 0, []),
  (57, .iconst 0, false, [], 0, 0, 0, 0, 0, []),
  (58, .istore_n 3, false, [], 0, 0, 0, 0, 0, []),
  (59, .iconst 1, false, [], 0, 0, 0, 0, 1, []),
  (60, .istore 4, false, [], 0, 0, 0, 0, 0, []),
  (62, .iload 4, true, [0, 2, 3, 4], 0, 0, 0, 0, 0, []),
  (64, .aload_n 0, false, [], 0, 0, 0, 0, 0, []),
  (65, .getfield 10, false, [], 6, 0, 1, 0, 0, []),
  (68, .getfield 73, false, [], 0, 1, 0, 0, 0, []),
  (71, .if_icmp .ge 28, false, [], 99, 0, 0, 0, 0, []),
  (74, .aload_n 0, false, [], 0, 0, 0, 0, 0, []),
  (75, .getfield 26, false, [], 6, 4, 1, 0, 0, []),
  (78, .iload 4, false, [], 0, 0, 0, 0, 0, []),
  (80, .iaload, false, [], 0, 0, 0, 0, 0, []),
  (81, .aload_n 0, false, [], 0, 0, 0, 0, 0, []),
  (82, .getfield 26, false, [], 6, 4, 1, 0, 0, []),
  (85, .iload_n 3, false, [], 0, 0, 0, 0, 0, []),
  (86, .iaload, false, [], 0, 0, 0, 0, 0, []),
  (87, .if_icmp .ge 6, false, [], 93, 0, 0, 0, 0, []),
  (90, .iload 4, false, [], 0, 0, 0, 0, 0, []),
  (92, .istore_n 3, false, [], 0, 0, 0, 0, 0, []),
  (93, .iinc 4 1, false, [], 0, 0, 0, 0, 1, []),
  (96, .goto (-34), false, [], 62, 0, 0, 0, 0, []),
  (99, .iload_n 2, false, [], 0, 0, 0, 0, 0, []),
  (100, .ifCond .ne 7, false, [], 107, 0, 0, 0, 0, []),
  (103, .iload_n 3, false, [], 0, 0, 0, 0, 0, []),
  (104, .goto 9, false, [], 113, 0, 0, 0, 0, []),
  (107, .aload_n 0, false, [], 0, 0, 0, 0, 0, []),
  (108, .getfield 26, false, [], 6, 4, 1, 0, 0, []),
  (111, .iload_n 3, false, [], 0, 0, 0, 0, 0, []),
  (112, .iaload, false, [], 0, 0, 0, 0, 0, []),
  (113, .ireturn, false, [], 0, 0, 0, 0, 0, [])]
def kk_X6_sumDifferences : List mx_I := [
  (0, .aload_n 0, false, [], 0, 0, 0, 0, 0, []),
  (1, .invokevirtual 181, false, [], 126, 0, 2, 6, 0, []),
  (4, .astore_n 2, false, [], 0, 0, 0, 0, 0, []),
  (5, .aload_n 0, false, [], 0, 0, 0, 0, 0, []),
  (6, .getfield 26, false, [], 6, 4, 1, 0, 0, []),
  (9, .iconst 0, false, [], 0, 0, 0, 0, 0, []),
  (10, .invokestatic 214, false, [], 5, 2, 0, 0, 0, []),
  (13, .iconst 0, false, [], 0, 0, 0, 0, 0, []),
  (14, .istore_n 3, false, [], 0, 0, 0, 0, 0, []),
  (15, .iload_n 3, true, [0, 1, 2, 3], 0, 0, 0, 0, 0, []),
  (16, .aload_n 1, false, [], 0, 0, 0, 0, 0, []),
  (17, .getfield 220, false, [], 3, 1, 0, 0, 0, []),
  (20, .if_icmp .ge 69, false, [], 89, 0, 0, 0, 0, []),
  (23, .iconst 0, false, [], 0, 0, 0, 0, 0, []),
  (24, .istore 4, false, [], 0, 0, 0, 0, 0, []),
  (26, .iload 4, true, [0, 1, 2, 3, 4], 0, 0, 0, 0, 0, []),
  (28, .aload_n 2, false, [], 0, 0, 0, 0, 0, []),
  (29, .getfield 73, false, [], 0, 1, 0, 0, 0, []),
  (32, .if_icmp .ge 47, false, [], 79, 0, 0, 0, 0, []),
  (35, .aload_n 1, false, [], 0, 0, 0, 0, 0, []),
  (36, .iload_n 3, false, [], 0, 0, 0, 0, 0, []),
  (37, .invokevirtual 221, false, [], 77, 1, 1, 3, 0, []),
  (40, .ifCond .eq 39, false, [], 79, 0, 0, 0, 0, []),
  (43, .aload_n 0, false, [], 0, 0, 0, 0, 0, []),
  (44, .getfield 26, false, [], 6, 4, 1, 0, 0, []),
  (47, .iload 4, false, [], 0, 0, 0, 0, 0, []),
  (49, .dup2, false, [], 0, 0, 0, 0, 0, []),
  (50, .iaload, false, [], 0, 0, 0, 0, 0, []),
  (51, .aload_n 2, false, [], 0, 0, 0, 0, 0, []),
  (52, .getfield 84, false, [], 0, 0, 1, 0, 0, []),
  (55, .iload 4, false, [], 0, 0, 0, 0, 0, []),
  (57, .aaload, false, [], 0, 0, 0, 0, 0, []),
  (58, .getfield 93, false, [], 1, 1, 0, 0, 0, []),
  (61, .aload_n 1, false, [], 0, 0, 0, 0, 0, []),
  (62, .getfield 224, false, [], 3, 2, 1, 0, 0, []),
  (65, .iload_n 3, false, [], 0, 0, 0, 0, 0, []),
  (66, .iaload, false, [], 0, 0, 0, 0, 0, []),
  (67, .isub, false, [], 0, 0, 0, 0, 0, []),
  (68, .invokestatic 227, false, [], 1, 1, 1, 0, 0, []),
  (71, .iadd, false, [], 0, 0, 0, 0, 0, []),
  (72, .iastore, false, [], 0, 0, 0, 0, 0, []),
  (73, .iinc 4 1, false, [], 0, 0, 0, 0, 1, []),
  (76, .goto (-50), false, [], 26, 0, 0, 0, 0, []),
  (79, .aload_n 2, false, [], 0, 0, 0, 0, 0, []),
  (80, .invokevirtual 190, false, [], 27, 0, 0, 0, 0, []),
  (83, .iinc 3 1, false, [], 0, 0, 0, 0, 1, []),
  (86, .goto (-71), false, [], 15, 0, 0, 0, 0, []),
  (89, .return_, false, [], 0, 0, 0, 0, 0, [])]
def kk_X6_fee : List mx_I := [
  (0, .aload_n 0, false, [], 0, 0, 0, 0, 0, []),
  (1, .getfield 10, false, [], 6, 0, 1, 0, 0, []),
  (4, .invokevirtual 230, false, [], 32, 0, 1, 0, 0, []),
  (7, .ireturn, false, [], 0, 0, 0, 0, 0, [])]
def kk_X6_fine : List mx_I := [
  (0, .aload_n 0, false, [], 0, 0, 0, 0, 0, []),
  (1, .getfield 10, false, [], 6, 0, 1, 0, 0, []),
  (4, .iload_n 1, false, [], 0, 0, 0, 0, 0, []),
  (5, .invokevirtual 81, false, [], 21, 1, 1, 0, 0, []),
  (8, .ifCond .eq 22, false, [], 30, 0, 0, 0, 0, []),
  (11, .aload_n 0, false, [], 0, 0, 0, 0, 0, []),
  (12, .getfield 10, false, [], 6, 0, 1, 0, 0, []),
  (15, .aload_n 0, false, [], 0, 0, 0, 0, 0, []),
  (16, .getfield 10, false, [], 6, 0, 1, 0, 0, []),
  (19, .getfield 84, false, [], 0, 0, 1, 0, 0, []),
  (22, .iload_n 1, false, [], 0, 0, 0, 0, 0, []),
  (23, .aaload, false, [], 0, 0, 0, 0, 0, []),
  (24, .invokevirtual 233, false, [], 33, 1, 1, 0, 0, []),
  (27, .goto 5, false, [], 32, 0, 0, 0, 0, []),
  (30, .ldc 72, false, [], 0, 0, 0, 0, (-1000000001), []),
  (32, .ireturn, false, [], 0, 0, 0, 0, 0, [])]
def kk_X6_feed : List mx_I := [
  (0, .aload_n 0, false, [], 0, 0, 0, 0, 0, []),
  (1, .getfield 33, false, [], 6, 6, 0, 0, 0, []),
  (4, .bipush 84, false, [], 0, 0, 0, 0, 84, []),
  (6, .if_icmp .le 6, false, [], 12, 0, 0, 0, 0, []),
  (9, .ldc 76, false, [], 0, 0, 0, 0, (-1000000003), []),
  (11, .ireturn, false, [], 0, 0, 0, 0, 0, []),
  (12, .aload_n 0, false, [], 0, 0, 0, 0, 0, []),
  (13, .iload_n 1, false, [], 0, 0, 0, 0, 0, []),
  (14, .invokevirtual 236, false, [], 107, 1, 0, 6, 0, []),
  (17, .aload_n 0, false, [], 0, 0, 0, 0, 0, []),
  (18, .iload_n 2, false, [], 0, 0, 0, 0, 0, []),
  (19, .invokevirtual 236, false, [], 107, 1, 0, 6, 0, []),
  (22, .aload_n 0, false, [], 0, 0, 0, 0, 0, []),
  (23, .iload_n 3, false, [], 0, 0, 0, 0, 0, []),
  (24, .invokevirtual 236, false, [], 107, 1, 0, 6, 0, []),
  (27, .aload_n 0, false, [], 0, 0, 0, 0, 0, []),
  (28, .getfield 33, false, [], 6, 6, 0, 0, 0, []),
  (31, .ireturn, false, [], 0, 0, 0, 0, 0, [])]
def kk_X6_feedFour : List mx_I := [
  (0, .bipush 24, false, [], 0, 0, 0, 0, 24, []),
  (2, .istore_n 2, false, [], 0, 0, 0, 0, 0, []),
  (3, .iload_n 2, true, [0, 1, 2], 0, 0, 0, 0, 0, []),
  (4, .ifCond .lt 44, false, [], 48, 0, 0, 0, 0, []),
  (7, .aload_n 0, false, [], 0, 0, 0, 0, 0, []),
  (8, .getfield 33, false, [], 6, 6, 0, 0, 0, []),
  (11, .bipush 96, false, [], 0, 0, 0, 0, 96, []),
  (13, .if_icmp .ge 35, false, [], 48, 0, 0, 0, 0, []),
  (16, .aload_n 0, false, [], 0, 0, 0, 0, 0, []),
  (17, .getfield 30, false, [], 6, 5, 1, 0, 0, []),
  (20, .aload_n 0, false, [], 0, 0, 0, 0, 0, []),
  (21, .getfield 33, false, [], 6, 6, 0, 0, 0, []),
  (24, .iload_n 1, false, [], 0, 0, 0, 0, 0, []),
  (25, .iload_n 2, false, [], 0, 0, 0, 0, 0, []),
  (26, .iushr, false, [], 0, 0, 0, 0, 0, []),
  (27, .sipush 255, false, [], 0, 0, 0, 0, 255, []),
  (30, .iand, false, [], 0, 0, 0, 0, 0, []),
  (31, .iastore, false, [], 0, 0, 0, 0, 0, []),
  (32, .aload_n 0, false, [], 0, 0, 0, 0, 0, []),
  (33, .dup, false, [], 0, 0, 0, 0, 0, []),
  (34, .getfield 33, false, [], 6, 6, 0, 0, 0, []),
  (37, .iconst 1, false, [], 0, 0, 0, 0, 1, []),
  (38, .iadd, false, [], 0, 0, 0, 0, 0, []),
  (39, .putfield 33, false, [], 6, 6, 0, 0, 0, []),
  (42, .iinc 2 (-8), false, [], 0, 0, 0, 0, (-8), []),
  (45, .goto (-42), false, [], 3, 0, 0, 0, 0, []),
  (48, .return_, false, [], 0, 0, 0, 0, 0, [])]
def kk_X6_trim : List mx_I := [
  (0, .iload_n 1, false, [], 0, 0, 0, 0, 0, []),
  (1, .iconst 0, false, [], 0, 0, 0, 0, 0, []),
  (2, .aload_n 0, false, [], 0, 0, 0, 0, 0, []),
  (3, .getfield 33, false, [], 6, 6, 0, 0, 0, []),
  (6, .invokestatic 68, false, [], 127, 3, 1, 0, 0, []),
  (9, .ifCond .ne 6, false, [], 15, 0, 0, 0, 0, []),
  (12, .ldc 72, false, [], 0, 0, 0, 0, (-1000000001), []),
  (14, .ireturn, false, [], 0, 0, 0, 0, 0, []),
  (15, .aload_n 0, false, [], 0, 0, 0, 0, 0, []),
  (16, .iload_n 1, false, [], 0, 0, 0, 0, 0, []),
  (17, .putfield 33, false, [], 6, 6, 0, 0, 0, []),
  (20, .iload_n 1, false, [], 0, 0, 0, 0, 0, []),
  (21, .ireturn, false, [], 0, 0, 0, 0, 0, [])]
def kk_X6_text : List mx_I := [
  (0, .aload_n 0, false, [], 0, 0, 0, 0, 0, []),
  (1, .getfield 40, false, [], 6, 7, 1, 0, 0, []),
  (4, .aload_n 0, false, [], 0, 0, 0, 0, 0, []),
  (5, .getfield 30, false, [], 6, 5, 1, 0, 0, []),
  (8, .aload_n 0, false, [], 0, 0, 0, 0, 0, []),
  (9, .getfield 33, false, [], 6, 6, 0, 0, 0, []),
  (12, .invokevirtual 239, false, [], 50, 2, 1, 2, 0, []),
  (15, .istore_n 1, false, [], 0, 0, 0, 0, 0, []),
  (16, .aload_n 0, false, [], 0, 0, 0, 0, 0, []),
  (17, .iconst 0, false, [], 0, 0, 0, 0, 0, []),
  (18, .putfield 33, false, [], 6, 6, 0, 0, 0, []),
  (21, .iload_n 1, false, [], 0, 0, 0, 0, 0, []),
  (22, .ifCond .lt 8, false, [], 30, 0, 0, 0, 0, []),
  (25, .bipush (-100), false, [], 0, 0, 0, 0, (-100), []),
  (27, .iload_n 1, false, [], 0, 0, 0, 0, 0, []),
  (28, .isub, false, [], 0, 0, 0, 0, 0, []),
  (29, .ireturn, false, [], 0, 0, 0, 0, 0, []),
  (30, .aload_n 0, false, [], 0, 0, 0, 0, 0, []),
  (31, .getfield 10, false, [], 6, 0, 1, 0, 0, []),
  (34, .getfield 243, false, [], 0, 4, 0, 0, 0, []),
  (37, .bipush 14, false, [], 0, 0, 0, 0, 14, []),
  (39, .if_icmp .lt 6, false, [], 45, 0, 0, 0, 0, []),
  (42, .ldc 76, false, [], 0, 0, 0, 0, (-1000000003), []),
  (44, .ireturn, false, [], 0, 0, 0, 0, 0, []),
  (45, .aload_n 0, false, [], 0, 0, 0, 0, 0, []),
  (46, .getfield 10, false, [], 6, 0, 1, 0, 0, []),
  (49, .aload_n 0, false, [], 0, 0, 0, 0, 0, []),
  (50, .getfield 40, false, [], 6, 7, 1, 0, 0, []),
  (53, .invokevirtual 246, false, [], 51, 0, 2, 2, 0, []),
  (56, .invokevirtual 250, false, [], 23, 1, 0, 0, 0, []),
  (59, .aload_n 0, false, [], 0, 0, 0, 0, 0, []),
  (60, .getfield 10, false, [], 6, 0, 1, 0, 0, []),
  (63, .getfield 243, false, [], 0, 4, 0, 0, 0, []),
  (66, .iconst 1, false, [], 0, 0, 0, 0, 1, []),
  (67, .isub, false, [], 0, 0, 0, 0, 0, []),
  (68, .ireturn, false, [], 0, 0, 0, 0, 0, [])]
def kk_X6_textTold : List mx_I := [
  (0, .iload_n 1, false, [], 0, 0, 0, 0, 0, []),
  (1, .iconst 0, false, [], 0, 0, 0, 0, 0, []),
  (2, .aload_n 0, false, [], 0, 0, 0, 0, 0, []),
  (3, .getfield 10, false, [], 6, 0, 1, 0, 0, []),
  (6, .getfield 243, false, [], 0, 4, 0, 0, 0, []),
  (9, .iconst 1, false, [], 0, 0, 0, 0, 1, []),
  (10, .isub, false, [], 0, 0, 0, 0, 0, []),
  (11, .invokestatic 68, false, [], 127, 3, 1, 0, 0, []),
  (14, .ifCond .eq 12, false, [], 26, 0, 0, 0, 0, []),
  (17, .iload_n 2, false, [], 0, 0, 0, 0, 0, []),
  (18, .iconst 0, false, [], 0, 0, 0, 0, 0, []),
  (19, .iconst 1, false, [], 0, 0, 0, 0, 1, []),
  (20, .invokestatic 68, false, [], 127, 3, 1, 0, 0, []),
  (23, .ifCond .ne 6, false, [], 29, 0, 0, 0, 0, []),
  (26, .ldc 72, false, [], 0, 0, 0, 0, (-1000000001), []),
  (28, .ireturn, false, [], 0, 0, 0, 0, 0, []),
  (29, .iload_n 2, false, [], 0, 0, 0, 0, 0, []),
  (30, .ifCond .ne 18, false, [], 48, 0, 0, 0, 0, []),
  (33, .aload_n 0, false, [], 0, 0, 0, 0, 0, []),
  (34, .getfield 10, false, [], 6, 0, 1, 0, 0, []),
  (37, .getfield 254, false, [], 0, 3, 1, 0, 0, []),
  (40, .iload_n 1, false, [], 0, 0, 0, 0, 0, []),
  (41, .aaload, false, [], 0, 0, 0, 0, 0, []),
  (42, .getfield 258, false, [], 5, 0, 0, 0, 0, []),
  (45, .goto 15, false, [], 60, 0, 0, 0, 0, []),
  (48, .aload_n 0, false, [], 0, 0, 0, 0, 0, []),
  (49, .getfield 10, false, [], 6, 0, 1, 0, 0, []),
  (52, .getfield 254, false, [], 0, 3, 1, 0, 0, []),
  (55, .iload_n 1, false, [], 0, 0, 0, 0, 0, []),
  (56, .aaload, false, [], 0, 0, 0, 0, 0, []),
  (57, .getfield 263, false, [], 5, 1, 0, 0, 0, []),
  (60, .ireturn, false, [], 0, 0, 0, 0, 0, [])]
def kk_X6_why : List mx_I := [
  (0, .iload_n 1, false, [], 0, 0, 0, 0, 0, []),
  (1, .iconst 0, false, [], 0, 0, 0, 0, 0, []),
  (2, .iconst 2, false, [], 0, 0, 0, 0, 2, []),
  (3, .invokestatic 68, false, [], 127, 3, 1, 0, 0, []),
  (6, .ifCond .eq 15, false, [], 21, 0, 0, 0, 0, []),
  (9, .aload_n 0, false, [], 0, 0, 0, 0, 0, []),
  (10, .getfield 10, false, [], 6, 0, 1, 0, 0, []),
  (13, .getfield 266, false, [], 0, 5, 1, 0, 0, []),
  (16, .iload_n 1, false, [], 0, 0, 0, 0, 0, []),
  (17, .iaload, false, [], 0, 0, 0, 0, 0, []),
  (18, .goto 5, false, [], 23, 0, 0, 0, 0, []),
  (21, .ldc 72, false, [], 0, 0, 0, 0, (-1000000001), []),
  (23, .ireturn, false, [], 0, 0, 0, 0, 0, [])]
def kk_X6_sheet : List mx_I := [
  (0, .iload_n 1, false, [], 0, 0, 0, 0, 0, []),
  (1, .invokestatic 203, false, [], 129, 1, 1, 0, 0, []),
  (4, .ifCond .eq 23, false, [], 27, 0, 0, 0, 0, []),
  (7, .iload_n 2, false, [], 0, 0, 0, 0, 0, []),
  (8, .iconst (-1), false, [], 0, 0, 0, 0, (-1), []),
  (9, .iconst 1, false, [], 0, 0, 0, 0, 1, []),
  (10, .invokestatic 68, false, [], 127, 3, 1, 0, 0, []),
  (13, .ifCond .eq 14, false, [], 27, 0, 0, 0, 0, []),
  (16, .iload_n 2, false, [], 0, 0, 0, 0, 0, []),
  (17, .iconst (-1), false, [], 0, 0, 0, 0, (-1), []),
  (18, .if_icmp .eq 12, false, [], 30, 0, 0, 0, 0, []),
  (21, .iload_n 3, false, [], 0, 0, 0, 0, 0, []),
  (22, .bipush 24, false, [], 0, 0, 0, 0, 24, []),
  (24, .if_icmp .le 6, false, [], 30, 0, 0, 0, 0, []),
  (27, .ldc 72, false, [], 0, 0, 0, 0, (-1000000001), []),
  (29, .ireturn, false, [], 0, 0, 0, 0, 0, []),
  (30, .iload_n 2, false, [], 0, 0, 0, 0, 0, []),
  (31, .iconst (-1), false, [], 0, 0, 0, 0, (-1), []),
  (32, .if_icmp .ne 16, false, [], 48, 0, 0, 0, 0, []),
  (35, .aload_n 0, false, [], 0, 0, 0, 0, 0, []),
  (36, .getfield 46, false, [], 6, 8, 1, 0, 0, []),
  (39, .iload_n 1, false, [], 0, 0, 0, 0, 0, []),
  (40, .aaload, false, [], 0, 0, 0, 0, 0, []),
  (41, .iconst (-1), false, [], 0, 0, 0, 0, (-1), []),
  (42, .iconst 0, false, [], 0, 0, 0, 0, 0, []),
  (43, .invokevirtual 269, false, [], 72, 2, 0, 3, 0, []),
  (46, .iconst 0, false, [], 0, 0, 0, 0, 0, []),
  (47, .ireturn, false, [], 0, 0, 0, 0, 0, []),
  (48, .iload_n 3, false, [], 0, 0, 0, 0, 0, []),
  (49, .ifCond .ge 7, false, [], 56, 0, 0, 0, 0, []),
  (52, .ldc_w 273, false, [], 0, 0, 0, 0, (-1000000014), []),
  (55, .ireturn, false, [], 0, 0, 0, 0, 0, []),
  (56, .aload_n 0, false, [], 0, 0, 0, 0, 0, []),
  (57, .getfield 46, false, [], 6, 8, 1, 0, 0, []),
  (60, .iload_n 1, false, [], 0, 0, 0, 0, 0, []),
  (61, .aaload, false, [], 0, 0, 0, 0, 0, []),
  (62, .iload_n 2, false, [], 0, 0, 0, 0, 0, []),
  (63, .iload_n 3, false, [], 0, 0, 0, 0, 0, []),
  (64, .invokevirtual 269, false, [], 72, 2, 0, 3, 0, []),
  (67, .iload_n 3, false, [], 0, 0, 0, 0, 0, []),
  (68, .ireturn, false, [], 0, 0, 0, 0, 0, [])]
def kk_X6_mark : List mx_I := [
  (0, .iload_n 1, false, [], 0, 0, 0, 0, 0, []),
  (1, .invokestatic 203, false, [], 129, 1, 1, 0, 0, []),
  (4, .ifCond .ne 6, false, [], 10, 0, 0, 0, 0, []),
  (7, .ldc 72, false, [], 0, 0, 0, 0, (-1000000001), []),
  (9, .ireturn, false, [], 0, 0, 0, 0, 0, []),
  (10, .aload_n 0, false, [], 0, 0, 0, 0, 0, []),
  (11, .getfield 46, false, [], 6, 8, 1, 0, 0, []),
  (14, .iload_n 1, false, [], 0, 0, 0, 0, 0, []),
  (15, .aaload, false, [], 0, 0, 0, 0, 0, []),
  (16, .astore 4, false, [], 0, 0, 0, 0, 0, []),
  (18, .aload 4, false, [], 0, 0, 0, 0, 0, []),
  (20, .invokevirtual 206, false, [], 74, 0, 1, 3, 0, []),
  (23, .ifCond .eq 6, false, [], 29, 0, 0, 0, 0, []),
  (26, .ldc 209, false, [], 0, 0, 0, 0, (-1000000011), []),
  (28, .ireturn, false, [], 0, 0, 0, 0, 0, []),
  (29, .aload 4, false, [], 0, 0, 0, 0, 0, []),
  (31, .iload_n 2, false, [], 0, 0, 0, 0, 0, []),
  (32, .invokevirtual 274, false, [], 75, 1, 1, 3, 0, []),
  (35, .ifCond .ne 7, false, [], 42, 0, 0, 0, 0, []),
  (38, .ldc_w 277, false, [], 0, 0, 0, 0, (-1000000013), []),
  (41, .ireturn, false, [], 0, 0, 0, 0, 0, []),
  (42, .aload 4, false, [], 0, 0, 0, 0, 0, []),
  (44, .getfield 278, false, [], 3, 0, 0, 0, 0, []),
  (47, .ifCond .ne 23, false, [], 70, 0, 0, 0, 0, []),
  (50, .iload_n 3, false, [], 0, 0, 0, 0, 0, []),
  (51, .ldc 177, false, [], 0, 0, 0, 0, (-1000000005), []),
  (53, .if_icmp .ne 6, false, [], 59, 0, 0, 0, 0, []),
  (56, .ldc 125, false, [], 0, 0, 0, 0, (-1000000012), []),
  (58, .ireturn, false, [], 0, 0, 0, 0, 0, []),
  (59, .aload 4, false, [], 0, 0, 0, 0, 0, []),
  (61, .getfield 224, false, [], 3, 2, 1, 0, 0, []),
  (64, .iload_n 2, false, [], 0, 0, 0, 0, 0, []),
  (65, .iload_n 3, false, [], 0, 0, 0, 0, 0, []),
  (66, .i2s, false, [], 0, 0, 0, 0, 0, []),
  (67, .iastore, false, [], 0, 0, 0, 0, 0, []),
  (68, .iconst 1, false, [], 0, 0, 0, 0, 1, []),
  (69, .ireturn, false, [], 0, 0, 0, 0, 0, []),
  (70, .iload_n 3, false, [], 0, 0, 0, 0, 0, []),
  (71, .ldc 177, false, [], 0, 0, 0, 0, (-1000000005), []),
  (73, .if_icmp .eq 19, false, [], 92, 0, 0, 0, 0, []),
  (76, .iload_n 3, false, [], 0, 0, 0, 0, 0, []),
  (77, .ldc_w 281, false, [], 0, 0, 0, 0, (-99999), []),
  (80, .ldc_w 282, false, [], 0, 0, 0, 0, 99999, []),
  (83, .invokestatic 68, false, [], 127, 3, 1, 0, 0, []),
  (86, .ifCond .ne 6, false, [], 92, 0, 0, 0, 0, []),
  (89, .ldc 72, false, [], 0, 0, 0, 0, (-1000000001), []),
  (91, .ireturn, false, [], 0, 0, 0, 0, 0, []),
  (92, .aload 4, false, [], 0, 0, 0, 0, 0, []),
  (94, .getfield 224, false, [], 3, 2, 1, 0, 0, []),
  (97, .iload_n 2, false, [], 0, 0, 0, 0, 0, []),
  (98, .iload_n 3, false, [], 0, 0, 0, 0, 0, []),
  (99, .iastore, false, [], 0, 0, 0, 0, 0, []),
  (100, .iconst 1, false, [], 0, 0, 0, 0, 1, []),
  (101, .ireturn, false, [], 0, 0, 0, 0, 0, [])]
def kk_X6_pour : List mx_I := [
  (0, .iload_n 1, false, [], 0, 0, 0, 0, 0, []),
  (1, .invokestatic 203, false, [], 129, 1, 1, 0, 0, []),
  (4, .ifCond .ne 6, false, [], 10, 0, 0, 0, 0, []),
  (7, .ldc 72, false, [], 0, 0, 0, 0, (-1000000001), []),
  (9, .ireturn, false, [], 0, 0, 0, 0, 0, []),
  (10, .aload_n 0, false, [], 0, 0, 0, 0, 0, []),
  (11, .getfield 46, false, [], 6, 8, 1, 0, 0, []),
  (14, .iload_n 1, false, [], 0, 0, 0, 0, 0, []),
  (15, .aaload, false, [], 0, 0, 0, 0, 0, []),
  (16, .astore_n 2, false, [], 0, 0, 0, 0, 0, []),
  (17, .aload_n 2, false, [], 0, 0, 0, 0, 0, []),
  (18, .invokevirtual 206, false, [], 74, 0, 1, 3, 0, []),
  (21, .ifCond .eq 6, false, [], 27, 0, 0, 0, 0, []),
  (24, .ldc 209, false, [], 0, 0, 0, 0, (-1000000011), []),
  (26, .ireturn, false, [], 0, 0, 0, 0, 0, []),
  (27, .iconst 0, false, [], 0, 0, 0, 0, 0, []),
  (28, .istore_n 3, false, [], 0, 0, 0, 0, 0, []),
  (29, .iconst 0, false, [], 0, 0, 0, 0, 0, []),
  (30, .istore 4, false, [], 0, 0, 0, 0, 0, []),
  (32, .iload 4, true, [0, 2, 3, 4], 0, 0, 0, 0, 0, []),
  (34, .aload_n 0, false, [], 0, 0, 0, 0, 0, []),
  (35, .getfield 10, false, [], 6, 0, 1, 0, 0, []),
  (38, .getfield 73, false, [], 0, 1, 0, 0, 0, []),
  (41, .if_icmp .ge 79, false, [], 120, 0, 0, 0, 0, []),
  (44, .iload 4, false, [], 0, 0, 0, 0, 0, []),
  (46, .aload_n 2, false, [], 0, 0, 0, 0, 0, []),
  (47, .getfield 220, false, [], 3, 1, 0, 0, 0, []),
  (50, .if_icmp .ge 70, false, [], 120, 0, 0, 0, 0, []),
  (53, .aload_n 0, false, [], 0, 0, 0, 0, 0, []),
  (54, .getfield 10, false, [], 6, 0, 1, 0, 0, []),
  (57, .getfield 84, false, [], 0, 0, 1, 0, 0, []),
  (60, .iload 4, false, [], 0, 0, 0, 0, 0, []),
  (62, .aaload, false, [], 0, 0, 0, 0, 0, []),
  (63, .astore 5, false, [], 0, 0, 0, 0, 0, []),
  (65, .aload_n 2, false, [], 0, 0, 0, 0, 0, []),
  (66, .iload 4, false, [], 0, 0, 0, 0, 0, []),
  (68, .invokevirtual 221, false, [], 77, 1, 1, 3, 0, []),
  (71, .ifCond .eq 16, false, [], 87, 0, 0, 0, 0, []),
  (74, .aload_n 2, false, [], 0, 0, 0, 0, 0, []),
  (75, .getfield 224, false, [], 3, 2, 1, 0, 0, []),
  (78, .iload 4, false, [], 0, 0, 0, 0, 0, []),
  (80, .iaload, false, [], 0, 0, 0, 0, 0, []),
  (81, .invokestatic 283, false, [], 131, 1, 1, 0, 0, []),
  (84, .goto 8, false, [], 92, 0, 0, 0, 0, []),
  (87, .aload 5, false, [], 0, 0, 0, 0, 0, []),
  (89, .getfield 96, false, [], 1, 2, 0, 0, 0, []),
  (92, .istore 6, false, [], 0, 0, 0, 0, 0, []),
  (94, .iload 6, false, [], 0, 0, 0, 0, 0, []),
  (96, .aload 5, false, [], 0, 0, 0, 0, 0, []),
  (98, .getfield 96, false, [], 1, 2, 0, 0, 0, []),
  (101, .if_icmp .eq 13, false, [], 114, 0, 0, 0, 0, []),
  (104, .aload 5, false, [], 0, 0, 0, 0, 0, []),
  (106, .iload 6, false, [], 0, 0, 0, 0, 0, []),
  (108, .putfield 96, false, [], 1, 2, 0, 0, 0, []),
  (111, .iinc 3 1, false, [], 0, 0, 0, 0, 1, []),
  (114, .iinc 4 1, false, [], 0, 0, 0, 0, 1, []),
  (117, .goto (-85), false, [], 32, 0, 0, 0, 0, []),
  (120, .iload_n 3, false, [], 0, 0, 0, 0, 0, []),
  (121, .ireturn, false, [], 0, 0, 0, 0, 0, [])]
def kk_X6_reads : List mx_I := [
  (0, .iload_n 1, false, [], 0, 0, 0, 0, 0, []),
  (1, .invokestatic 203, false, [], 129, 1, 1, 0, 0, []),
  (4, .ifCond .ne 6, false, [], 10, 0, 0, 0, 0, []),
  (7, .ldc 72, false, [], 0, 0, 0, 0, (-1000000001), []),
  (9, .ireturn, false, [], 0, 0, 0, 0, 0, []),
  (10, .aload_n 0, false, [], 0, 0, 0, 0, 0, []),
  (11, .getfield 46, false, [], 6, 8, 1, 0, 0, []),
  (14, .iload_n 1, false, [], 0, 0, 0, 0, 0, []),
  (15, .aaload, false, [], 0, 0, 0, 0, 0, []),
  (16, .astore_n 2, false, [], 0, 0, 0, 0, 0, []),
  (17, .aload_n 2, false, [], 0, 0, 0, 0, 0, []),
  (18, .invokevirtual 206, false, [], 74, 0, 1, 3, 0, []),
  (21, .ifCond .eq 6, false, [], 27, 0, 0, 0, 0, []),
  (24, .ldc 209, false, [], 0, 0, 0, 0, (-1000000011), []),
  (26, .ireturn, false, [], 0, 0, 0, 0, 0, []),
  (27, .iconst 0, false, [], 0, 0, 0, 0, 0, []),
  (28, .istore_n 3, false, [], 0, 0, 0, 0, 0, []),
  (29, .iload_n 3, true, [0, 2, 3], 0, 0, 0, 0, 0, []),
  (30, .aload_n 2, false, [], 0, 0, 0, 0, 0, []),
  (31, .getfield 220, false, [], 3, 1, 0, 0, 0, []),
  (34, .if_icmp .ge 51, false, [], 85, 0, 0, 0, 0, []),
  (37, .aload_n 2, false, [], 0, 0, 0, 0, 0, []),
  (38, .iload_n 3, false, [], 0, 0, 0, 0, 0, []),
  (39, .invokevirtual 221, false, [], 77, 1, 1, 3, 0, []),
  (42, .ifCond .eq 37, false, [], 79, 0, 0, 0, 0, []),
  (45, .aload_n 0, false, [], 0, 0, 0, 0, 0, []),
  (46, .getfield 10, false, [], 6, 0, 1, 0, 0, []),
  (49, .iload_n 3, false, [], 0, 0, 0, 0, 0, []),
  (50, .invokevirtual 81, false, [], 21, 1, 1, 0, 0, []),
  (53, .ifCond .eq 24, false, [], 77, 0, 0, 0, 0, []),
  (56, .aload_n 2, false, [], 0, 0, 0, 0, 0, []),
  (57, .getfield 224, false, [], 3, 2, 1, 0, 0, []),
  (60, .iload_n 3, false, [], 0, 0, 0, 0, 0, []),
  (61, .iaload, false, [], 0, 0, 0, 0, 0, []),
  (62, .aload_n 0, false, [], 0, 0, 0, 0, 0, []),
  (63, .getfield 10, false, [], 6, 0, 1, 0, 0, []),
  (66, .getfield 84, false, [], 0, 0, 1, 0, 0, []),
  (69, .iload_n 3, false, [], 0, 0, 0, 0, 0, []),
  (70, .aaload, false, [], 0, 0, 0, 0, 0, []),
  (71, .getfield 93, false, [], 1, 1, 0, 0, 0, []),
  (74, .if_icmp .eq 5, false, [], 79, 0, 0, 0, 0, []),
  (77, .iload_n 3, false, [], 0, 0, 0, 0, 0, []),
  (78, .ireturn, false, [], 0, 0, 0, 0, 0, []),
  (79, .iinc 3 1, false, [], 0, 0, 0, 0, 1, []),
  (82, .goto (-53), false, [], 29, 0, 0, 0, 0, []),
  (85, .ldc 177, false, [], 0, 0, 0, 0, (-1000000005), []),
  (87, .ireturn, false, [], 0, 0, 0, 0, 0, [])]
def kk_X6_copy : List mx_I := [
  (0, .iload_n 1, false, [], 0, 0, 0, 0, 0, []),
  (1, .invokestatic 203, false, [], 129, 1, 1, 0, 0, []),
  (4, .ifCond .eq 10, false, [], 14, 0, 0, 0, 0, []),
  (7, .iload_n 3, false, [], 0, 0, 0, 0, 0, []),
  (8, .invokestatic 203, false, [], 129, 1, 1, 0, 0, []),
  (11, .ifCond .ne 6, false, [], 17, 0, 0, 0, 0, []),
  (14, .ldc 72, false, [], 0, 0, 0, 0, (-1000000001), []),
  (16, .ireturn, false, [], 0, 0, 0, 0, 0, []),
  (17, .aload_n 0, false, [], 0, 0, 0, 0, 0, []),
  (18, .getfield 46, false, [], 6, 8, 1, 0, 0, []),
  (21, .iload_n 1, false, [], 0, 0, 0, 0, 0, []),
  (22, .aaload, false, [], 0, 0, 0, 0, 0, []),
  (23, .astore 6, false, [], 0, 0, 0, 0, 0, []),
  (25, .aload_n 0, false, [], 0, 0, 0, 0, 0, []),
  (26, .getfield 46, false, [], 6, 8, 1, 0, 0, []),
  (29, .iload_n 3, false, [], 0, 0, 0, 0, 0, []),
  (30, .aaload, false, [], 0, 0, 0, 0, 0, []),
  (31, .astore 7, false, [], 0, 0, 0, 0, 0, []),
  (33, .aload 6, false, [], 0, 0, 0, 0, 0, []),
  (35, .invokevirtual 206, false, [], 74, 0, 1, 3, 0, []),
  (38, .ifCond .ne 11, false, [], 49, 0, 0, 0, 0, []),
  (41, .aload 7, false, [], 0, 0, 0, 0, 0, []),
  (43, .invokevirtual 206, false, [], 74, 0, 1, 3, 0, []),
  (46, .ifCond .eq 6, false, [], 52, 0, 0, 0, 0, []),
  (49, .ldc 209, false, [], 0, 0, 0, 0, (-1000000011), []),
  (51, .ireturn, false, [], 0, 0, 0, 0, 0, []),
  (52, .aload 6, false, [], 0, 0, 0, 0, 0, []),
  (54, .getfield 278, false, [], 3, 0, 0, 0, 0, []),
  (57, .aload 7, false, [], 0, 0, 0, 0, 0, []),
  (59, .getfield 278, false, [], 3, 0, 0, 0, 0, []),
  (62, .if_icmp .eq 6, false, [], 68, 0, 0, 0, 0, []),
  (65, .ldc 125, false, [], 0, 0, 0, 0, (-1000000012), []),
  (67, .ireturn, false, [], 0, 0, 0, 0, 0, []),
  (68, .aload 6, false, [], 0, 0, 0, 0, 0, []),
  (70, .iload_n 2, false, [], 0, 0, 0, 0, 0, []),
  (71, .iload 5, false, [], 0, 0, 0, 0, 0, []),
  (73, .invokevirtual 286, false, [], 76, 2, 1, 3, 0, []),
  (76, .ifCond .eq 15, false, [], 91, 0, 0, 0, 0, []),
  (79, .aload 7, false, [], 0, 0, 0, 0, 0, []),
  (81, .iload 4, false, [], 0, 0, 0, 0, 0, []),
  (83, .iload 5, false, [], 0, 0, 0, 0, 0, []),
  (85, .invokevirtual 286, false, [], 76, 2, 1, 3, 0, []),
  (88, .ifCond .ne 7, false, [], 95, 0, 0, 0, 0, []),
  (91, .ldc_w 277, false, [], 0, 0, 0, 0, (-1000000013), []),
  (94, .ireturn, false, [], 0, 0, 0, 0, 0, []),
  (95, .aload 6, false, [], 0, 0, 0, 0, 0, []),
  (97, .getfield 224, false, [], 3, 2, 1, 0, 0, []),
  (100, .iload_n 2, false, [], 0, 0, 0, 0, 0, []),
  (101, .aload 7, false, [], 0, 0, 0, 0, 0, []),
  (103, .getfield 224, false, [], 3, 2, 1, 0, 0, []),
  (106, .iload 4, false, [], 0, 0, 0, 0, 0, []),
  (108, .iload 5, false, [], 0, 0, 0, 0, 0, []),
  (110, .invokestatic 290, false, [], 0, 0, 8, 0, 0, []),
  (113, .iload 5, false, [], 0, 0, 0, 0, 0, []),
  (115, .ireturn, false, [], 0, 0, 0, 0, 0, [])]
def kk_X6_lay : List mx_I := [
  (0, .iload_n 1, false, [], 0, 0, 0, 0, 0, []),
  (1, .invokestatic 296, false, [], 130, 1, 1, 0, 0, []),
  (4, .ifCond .eq 40, false, [], 44, 0, 0, 0, 0, []),
  (7, .iload_n 2, false, [], 0, 0, 0, 0, 0, []),
  (8, .iconst 0, false, [], 0, 0, 0, 0, 0, []),
  (9, .iconst 3, false, [], 0, 0, 0, 0, 3, []),
  (10, .invokestatic 68, false, [], 127, 3, 1, 0, 0, []),
  (13, .ifCond .eq 31, false, [], 44, 0, 0, 0, 0, []),
  (16, .iload_n 2, false, [], 0, 0, 0, 0, 0, []),
  (17, .iconst 1, false, [], 0, 0, 0, 0, 1, []),
  (18, .if_icmp .ne 14, false, [], 32, 0, 0, 0, 0, []),
  (21, .aload_n 0, false, [], 0, 0, 0, 0, 0, []),
  (22, .getfield 10, false, [], 6, 0, 1, 0, 0, []),
  (25, .iload_n 3, false, [], 0, 0, 0, 0, 0, []),
  (26, .invokevirtual 81, false, [], 21, 1, 1, 0, 0, []),
  (29, .ifCond .eq 15, false, [], 44, 0, 0, 0, 0, []),
  (32, .iload_n 2, false, [], 0, 0, 0, 0, 0, []),
  (33, .iconst 2, false, [], 0, 0, 0, 0, 2, []),
  (34, .if_icmp .ne 13, false, [], 47, 0, 0, 0, 0, []),
  (37, .iload_n 3, false, [], 0, 0, 0, 0, 0, []),
  (38, .invokestatic 203, false, [], 129, 1, 1, 0, 0, []),
  (41, .ifCond .ne 6, false, [], 47, 0, 0, 0, 0, []),
  (44, .ldc 72, false, [], 0, 0, 0, 0, (-1000000001), []),
  (46, .ireturn, false, [], 0, 0, 0, 0, 0, []),
  (47, .iload_n 2, false, [], 0, 0, 0, 0, 0, []),
  (48, .iconst 2, false, [], 0, 0, 0, 0, 2, []),
  (49, .if_icmp .ne 18, false, [], 67, 0, 0, 0, 0, []),
  (52, .aload_n 0, false, [], 0, 0, 0, 0, 0, []),
  (53, .getfield 46, false, [], 6, 8, 1, 0, 0, []),
  (56, .iload_n 3, false, [], 0, 0, 0, 0, 0, []),
  (57, .aaload, false, [], 0, 0, 0, 0, 0, []),
  (58, .invokevirtual 206, false, [], 74, 0, 1, 3, 0, []),
  (61, .ifCond .eq 6, false, [], 67, 0, 0, 0, 0, []),
  (64, .ldc 209, false, [], 0, 0, 0, 0, (-1000000011), []),
  (66, .ireturn, false, [], 0, 0, 0, 0, 0, []),
  (67, .aload_n 0, false, [], 0, 0, 0, 0, 0, []),
  (68, .getfield 52, false, [], 6, 9, 1, 0, 0, []),
  (71, .iload_n 1, false, [], 0, 0, 0, 0, 0, []),
  (72, .aaload, false, [], 0, 0, 0, 0, 0, []),
  (73, .astore 4, false, [], 0, 0, 0, 0, 0, []),
  (75, .aload 4, false, [], 0, 0, 0, 0, 0, []),
  (77, .getfield 299, false, [], 4, 0, 0, 0, 0, []),
  (80, .istore 5, false, [], 0, 0, 0, 0, 0, []),
  (82, .aload 4, false, [], 0, 0, 0, 0, 0, []),
  (84, .iload_n 2, false, [], 0, 0, 0, 0, 0, []),
  (85, .putfield 299, false, [], 4, 0, 0, 0, 0, []),
  (88, .iload_n 2, false, [], 0, 0, 0, 0, 0, []),
  (89, .tableswitch 73 1 3 #[27, 47, 64], false, [], 162, 27, 0, 0, 0, [(1, 116), (2, 136), (3, 153)]),
  (116, .aload 4, false, [], 0, 0, 0, 0, 0, []),
  (118, .getfield 302, false, [], 4, 1, 1, 0, 0, []),
  (121, .aload_n 0, false, [], 0, 0, 0, 0, 0, []),
  (122, .getfield 10, false, [], 6, 0, 1, 0, 0, []),
  (125, .getfield 84, false, [], 0, 0, 1, 0, 0, []),
  (128, .iload_n 3, false, [], 0, 0, 0, 0, 0, []),
  (129, .aaload, false, [], 0, 0, 0, 0, 0, []),
  (130, .invokevirtual 306, false, [], 43, 1, 0, 1, 0, []),
  (133, .goto 29, false, [], 162, 0, 0, 0, 0, []),
  (136, .aload 4, false, [], 0, 0, 0, 0, 0, []),
  (138, .getfield 310, false, [], 4, 2, 1, 0, 0, []),
  (141, .aload_n 0, false, [], 0, 0, 0, 0, 0, []),
  (142, .getfield 46, false, [], 6, 8, 1, 0, 0, []),
  (145, .iload_n 3, false, [], 0, 0, 0, 0, 0, []),
  (146, .aaload, false, [], 0, 0, 0, 0, 0, []),
  (147, .invokevirtual 314, false, [], 73, 1, 0, 3, 0, []),
  (150, .goto 12, false, [], 162, 0, 0, 0, 0, []),
  (153, .aload 4, false, [], 0, 0, 0, 0, 0, []),
  (155, .iload_n 3, false, [], 0, 0, 0, 0, 0, []),
  (156, .putfield 316, false, [], 4, 3, 0, 0, 0, []),
  (159, .goto 3, false, [], 162, 0, 0, 0, 0, []),
  (162, .iload 5, false, [], 0, 0, 0, 0, 0, []),
  (164, .ireturn, false, [], 0, 0, 0, 0, 0, [])]
def kk_X6_ask : List mx_I := [
  (0, .iload_n 1, false, [], 0, 0, 0, 0, 0, []),
  (1, .invokestatic 296, false, [], 130, 1, 1, 0, 0, []),
  (4, .ifCond .eq 10, false, [], 14, 0, 0, 0, 0, []),
  (7, .iload_n 2, false, [], 0, 0, 0, 0, 0, []),
  (8, .invokestatic 64, false, [], 128, 1, 1, 0, 0, []),
  (11, .ifCond .ne 6, false, [], 17, 0, 0, 0, 0, []),
  (14, .ldc 72, false, [], 0, 0, 0, 0, (-1000000001), []),
  (16, .ireturn, false, [], 0, 0, 0, 0, 0, []),
  (17, .aload_n 0, false, [], 0, 0, 0, 0, 0, []),
  (18, .getfield 52, false, [], 6, 9, 1, 0, 0, []),
  (21, .iload_n 1, false, [], 0, 0, 0, 0, 0, []),
  (22, .aaload, false, [], 0, 0, 0, 0, 0, []),
  (23, .astore_n 3, false, [], 0, 0, 0, 0, 0, []),
  (24, .aload_n 3, false, [], 0, 0, 0, 0, 0, []),
  (25, .getfield 299, false, [], 4, 0, 0, 0, 0, []),
  (28, .ifCond .ne 6, false, [], 34, 0, 0, 0, 0, []),
  (31, .ldc 209, false, [], 0, 0, 0, 0, (-1000000011), []),
  (33, .ireturn, false, [], 0, 0, 0, 0, 0, []),
  (34, .aload_n 3, false, [], 0, 0, 0, 0, 0, []),
  (35, .getfield 299, false, [], 4, 0, 0, 0, 0, []),
  (38, .iconst 1, false, [], 0, 0, 0, 0, 1, []),
  (39, .if_icmp .ne 14, false, [], 53, 0, 0, 0, 0, []),
  (42, .aload_n 3, false, [], 0, 0, 0, 0, 0, []),
  (43, .getfield 302, false, [], 4, 1, 1, 0, 0, []),
  (46, .iload_n 2, false, [], 0, 0, 0, 0, 0, []),
  (47, .invokevirtual 122, false, [], 44, 1, 1, 1, 0, []),
  (50, .ifCond .ne 6, false, [], 56, 0, 0, 0, 0, []),
  (53, .ldc 125, false, [], 0, 0, 0, 0, (-1000000012), []),
  (55, .ireturn, false, [], 0, 0, 0, 0, 0, []),
  (56, .aload_n 3, false, [], 0, 0, 0, 0, 0, []),
  (57, .getfield 302, false, [], 4, 1, 1, 0, 0, []),
  (60, .invokevirtual 119, false, [], 48, 0, 1, 1, 0, []),
  (63, .ireturn, false, [], 0, 0, 0, 0, 0, [])]
def kk_X6_item : List mx_I := [
  (0, .iload_n 1, false, [], 0, 0, 0, 0, 0, []),
  (1, .invokestatic 296, false, [], 130, 1, 1, 0, 0, []),
  (4, .ifCond .ne 6, false, [], 10, 0, 0, 0, 0, []),
  (7, .ldc 72, false, [], 0, 0, 0, 0, (-1000000001), []),
  (9, .ireturn, false, [], 0, 0, 0, 0, 0, []),
  (10, .aload_n 0, false, [], 0, 0, 0, 0, 0, []),
  (11, .getfield 52, false, [], 6, 9, 1, 0, 0, []),
  (14, .iload_n 1, false, [], 0, 0, 0, 0, 0, []),
  (15, .aaload, false, [], 0, 0, 0, 0, 0, []),
  (16, .astore_n 3, false, [], 0, 0, 0, 0, 0, []),
  (17, .aload_n 3, false, [], 0, 0, 0, 0, 0, []),
  (18, .getfield 299, false, [], 4, 0, 0, 0, 0, []),
  (21, .ifCond .ne 6, false, [], 27, 0, 0, 0, 0, []),
  (24, .ldc 209, false, [], 0, 0, 0, 0, (-1000000011), []),
  (26, .ireturn, false, [], 0, 0, 0, 0, 0, []),
  (27, .aload_n 3, false, [], 0, 0, 0, 0, 0, []),
  (28, .getfield 299, false, [], 4, 0, 0, 0, 0, []),
  (31, .iconst 2, false, [], 0, 0, 0, 0, 2, []),
  (32, .if_icmp .eq 6, false, [], 38, 0, 0, 0, 0, []),
  (35, .ldc 125, false, [], 0, 0, 0, 0, (-1000000012), []),
  (37, .ireturn, false, [], 0, 0, 0, 0, 0, []),
  (38, .aload_n 3, false, [], 0, 0, 0, 0, 0, []),
  (39, .getfield 310, false, [], 4, 2, 1, 0, 0, []),
  (42, .iload_n 2, false, [], 0, 0, 0, 0, 0, []),
  (43, .invokevirtual 274, false, [], 75, 1, 1, 3, 0, []),
  (46, .ifCond .ne 7, false, [], 53, 0, 0, 0, 0, []),
  (49, .ldc_w 277, false, [], 0, 0, 0, 0, (-1000000013), []),
  (52, .ireturn, false, [], 0, 0, 0, 0, 0, []),
  (53, .aload_n 3, false, [], 0, 0, 0, 0, 0, []),
  (54, .getfield 310, false, [], 4, 2, 1, 0, 0, []),
  (57, .iload_n 2, false, [], 0, 0, 0, 0, 0, []),
  (58, .invokevirtual 221, false, [], 77, 1, 1, 3, 0, []),
  (61, .ifCond .eq 15, false, [], 76, 0, 0, 0, 0, []),
  (64, .aload_n 3, false, [], 0, 0, 0, 0, 0, []),
  (65, .getfield 310, false, [], 4, 2, 1, 0, 0, []),
  (68, .getfield 224, false, [], 3, 2, 1, 0, 0, []),
  (71, .iload_n 2, false, [], 0, 0, 0, 0, 0, []),
  (72, .iaload, false, [], 0, 0, 0, 0, 0, []),
  (73, .goto 5, false, [], 78, 0, 0, 0, 0, []),
  (76, .ldc 125, false, [], 0, 0, 0, 0, (-1000000012), []),
  (78, .ireturn, false, [], 0, 0, 0, 0, 0, [])]
def kk_X6_rest : List mx_I := [
  (0, .iload_n 1, false, [], 0, 0, 0, 0, 0, []),
  (1, .invokestatic 296, false, [], 130, 1, 1, 0, 0, []),
  (4, .ifCond .ne 6, false, [], 10, 0, 0, 0, 0, []),
  (7, .ldc 72, false, [], 0, 0, 0, 0, (-1000000001), []),
  (9, .ireturn, false, [], 0, 0, 0, 0, 0, []),
  (10, .aload_n 0, false, [], 0, 0, 0, 0, 0, []),
  (11, .getfield 52, false, [], 6, 9, 1, 0, 0, []),
  (14, .iload_n 1, false, [], 0, 0, 0, 0, 0, []),
  (15, .aaload, false, [], 0, 0, 0, 0, 0, []),
  (16, .astore_n 3, false, [], 0, 0, 0, 0, 0, []),
  (17, .aload_n 3, false, [], 0, 0, 0, 0, 0, []),
  (18, .getfield 299, false, [], 4, 0, 0, 0, 0, []),
  (21, .ifCond .ne 6, false, [], 27, 0, 0, 0, 0, []),
  (24, .ldc 209, false, [], 0, 0, 0, 0, (-1000000011), []),
  (26, .ireturn, false, [], 0, 0, 0, 0, 0, []),
  (27, .aload_n 3, false, [], 0, 0, 0, 0, 0, []),
  (28, .getfield 299, false, [], 4, 0, 0, 0, 0, []),
  (31, .iconst 3, false, [], 0, 0, 0, 0, 3, []),
  (32, .if_icmp .eq 6, false, [], 38, 0, 0, 0, 0, []),
  (35, .ldc 125, false, [], 0, 0, 0, 0, (-1000000012), []),
  (37, .ireturn, false, [], 0, 0, 0, 0, 0, []),
  (38, .iload_n 2, false, [], 0, 0, 0, 0, 0, []),
  (39, .ifCond .ne 9, false, [], 48, 0, 0, 0, 0, []),
  (42, .ldc_w 319, false, [], 0, 0, 0, 0, (-1000000002), []),
  (45, .goto 9, false, [], 54, 0, 0, 0, 0, []),
  (48, .aload_n 3, false, [], 0, 0, 0, 0, 0, []),
  (49, .getfield 316, false, [], 4, 3, 0, 0, 0, []),
  (52, .iload_n 2, false, [], 0, 0, 0, 0, 0, []),
  (53, .irem, false, [], 0, 0, 0, 0, 0, []),
  (54, .ireturn, false, [], 0, 0, 0, 0, 0, [])]
def kk_X6_tell : List mx_I := [
  (0, .aload_n 0, false, [], 0, 0, 0, 0, 0, []),
  (1, .getfield 59, false, [], 6, 11, 0, 0, 0, []),
  (4, .bipush 60, false, [], 0, 0, 0, 0, 60, []),
  (6, .if_icmp .lt 6, false, [], 12, 0, 0, 0, 0, []),
  (9, .ldc 76, false, [], 0, 0, 0, 0, (-1000000003), []),
  (11, .ireturn, false, [], 0, 0, 0, 0, 0, []),
  (12, .aload_n 0, false, [], 0, 0, 0, 0, 0, []),
  (13, .getfield 56, false, [], 6, 10, 1, 0, 0, []),
  (16, .aload_n 0, false, [], 0, 0, 0, 0, 0, []),
  (17, .getfield 59, false, [], 6, 11, 0, 0, 0, []),
  (20, .iload_n 1, false, [], 0, 0, 0, 0, 0, []),
  (21, .iastore, false, [], 0, 0, 0, 0, 0, []),
  (22, .aload_n 0, false, [], 0, 0, 0, 0, 0, []),
  (23, .dup, false, [], 0, 0, 0, 0, 0, []),
  (24, .getfield 59, false, [], 6, 11, 0, 0, 0, []),
  (27, .iconst 1, false, [], 0, 0, 0, 0, 1, []),
  (28, .iadd, false, [], 0, 0, 0, 0, 0, []),
  (29, .putfield 59, false, [], 6, 11, 0, 0, 0, []),
  (32, .aload_n 0, false, [], 0, 0, 0, 0, 0, []),
  (33, .getfield 59, false, [], 6, 11, 0, 0, 0, []),
  (36, .ireturn, false, [], 0, 0, 0, 0, 0, [])]
def kk_X6_check : List mx_I := [
  (0, .aload_n 0, false, [], 0, 0, 0, 0, 0, []),
  (1, .getfield 59, false, [], 6, 11, 0, 0, 0, []),
  (4, .istore_n 2, false, [], 0, 0, 0, 0, 0, []),
  (5, .aload_n 0, false, [], 0, 0, 0, 0, 0, []),
  (6, .iconst 0, false, [], 0, 0, 0, 0, 0, []),
  (7, .putfield 59, false, [], 6, 11, 0, 0, 0, []),
  (10, .iload_n 1, false, [], 0, 0, 0, 0, 0, []),
  (11, .iconst 1, false, [], 0, 0, 0, 0, 1, []),
  (12, .bipush 30, false, [], 0, 0, 0, 0, 30, []),
  (14, .invokestatic 68, false, [], 127, 3, 1, 0, 0, []),
  (17, .ifCond .ne 6, false, [], 23, 0, 0, 0, 0, []),
  (20, .ldc 72, false, [], 0, 0, 0, 0, (-1000000001), []),
  (22, .ireturn, false, [], 0, 0, 0, 0, 0, []),
  (23, .aload_n 0, false, [], 0, 0, 0, 0, 0, []),
  (24, .getfield 22, false, [], 6, 3, 0, 0, 0, []),
  (27, .ifCond .ne 7, false, [], 34, 0, 0, 0, 0, []),
  (30, .ldc_w 319, false, [], 0, 0, 0, 0, (-1000000002), []),
  (33, .ireturn, false, [], 0, 0, 0, 0, 0, []),
  (34, .aload_n 0, false, [], 0, 0, 0, 0, 0, []),
  (35, .getfield 19, false, [], 6, 2, 1, 0, 0, []),
  (38, .aload_n 0, false, [], 0, 0, 0, 0, 0, []),
  (39, .getfield 16, false, [], 6, 1, 1, 0, 0, []),
  (42, .invokevirtual 320, false, [], 20, 1, 0, 0, 0, []),
  (45, .iconst 2, false, [], 0, 0, 0, 0, 2, []),
  (46, .aload_n 0, false, [], 0, 0, 0, 0, 0, []),
  (47, .getfield 19, false, [], 6, 2, 1, 0, 0, []),
  (50, .iload_n 1, false, [], 0, 0, 0, 0, 0, []),
  (51, .invokevirtual 158, false, [], 25, 1, 1, 0, 0, []),
  (54, .imul, false, [], 0, 0, 0, 0, 0, []),
  (55, .istore_n 3, false, [], 0, 0, 0, 0, 0, []),
  (56, .iconst 0, false, [], 0, 0, 0, 0, 0, []),
  (57, .istore 4, false, [], 0, 0, 0, 0, 0, []),
  (59, .iload 4, true, [0, 2, 3, 4], 0, 0, 0, 0, 0, []),
  (61, .iload_n 3, false, [], 0, 0, 0, 0, 0, []),
  (62, .if_icmp .ge 72, false, [], 134, 0, 0, 0, 0, []),
  (65, .iload 4, false, [], 0, 0, 0, 0, 0, []),
  (67, .iload_n 2, false, [], 0, 0, 0, 0, 0, []),
  (68, .if_icmp .ge 66, false, [], 134, 0, 0, 0, 0, []),
  (71, .iload 4, false, [], 0, 0, 0, 0, 0, []),
  (73, .iconst 2, false, [], 0, 0, 0, 0, 2, []),
  (74, .irem, false, [], 0, 0, 0, 0, 0, []),
  (75, .ifCond .ne 10, false, [], 85, 0, 0, 0, 0, []),
  (78, .aload_n 0, false, [], 0, 0, 0, 0, 0, []),
  (79, .getfield 19, false, [], 6, 2, 1, 0, 0, []),
  (82, .invokevirtual 190, false, [], 27, 0, 0, 0, 0, []),
  (85, .iload 4, false, [], 0, 0, 0, 0, 0, []),
  (87, .iconst 2, false, [], 0, 0, 0, 0, 2, []),
  (88, .irem, false, [], 0, 0, 0, 0, 0, []),
  (89, .ifCond .ne 13, false, [], 102, 0, 0, 0, 0, []),
  (92, .aload_n 0, false, [], 0, 0, 0, 0, 0, []),
  (93, .getfield 19, false, [], 6, 2, 1, 0, 0, []),
  (96, .getfield 155, false, [], 0, 6, 0, 0, 0, []),
  (99, .goto 10, false, [], 109, 0, 0, 0, 0, []),
  (102, .aload_n 0, false, [], 0, 0, 0, 0, 0, []),
  (103, .getfield 19, false, [], 6, 2, 1, 0, 0, []),
  (106, .invokevirtual 171, false, [], 36, 0, 1, 0, 0, []),
  (109, .istore 5, false, [], 0, 0, 0, 0, 0, []),
  (111, .aload_n 0, false, [], 0, 0, 0, 0, 0, []),
  (112, .getfield 56, false, [], 6, 10, 1, 0, 0, []),
  (115, .iload 4, false, [], 0, 0, 0, 0, 0, []),
  (117, .iaload, false, [], 0, 0, 0, 0, 0, []),
  (118, .iload 5, false, [], 0, 0, 0, 0, 0, []),
  (120, .if_icmp .eq 8, false, [], 128, 0, 0, 0, 0, []),
  (123, .iconst 1, false, [], 0, 0, 0, 0, 1, []),
  (124, .iload 4, false, [], 0, 0, 0, 0, 0, []),
  (126, .iadd, false, [], 0, 0, 0, 0, 0, []),
  (127, .ireturn, false, [], 0, 0, 0, 0, 0, []),
  (128, .iinc 4 1, false, [], 0, 0, 0, 0, 1, []),
  (131, .goto (-72), false, [], 59, 0, 0, 0, 0, []),
  (134, .iload_n 3, false, [], 0, 0, 0, 0, 0, []),
  (135, .iload_n 2, false, [], 0, 0, 0, 0, 0, []),
  (136, .if_icmp .ne 7, false, [], 143, 0, 0, 0, 0, []),
  (139, .iconst 0, false, [], 0, 0, 0, 0, 0, []),
  (140, .goto 7, false, [], 147, 0, 0, 0, 0, []),
  (143, .iconst 1, false, [], 0, 0, 0, 0, 1, []),
  (144, .iload 4, false, [], 0, 0, 0, 0, 0, []),
  (146, .iadd, false, [], 0, 0, 0, 0, 0, []),
  (147, .ireturn, false, [], 0, 0, 0, 0, 0, [])]
def kk_X6_keep : List mx_I := [
  (0, .aload_n 0, false, [], 0, 0, 0, 0, 0, []),
  (1, .getfield 16, false, [], 6, 1, 1, 0, 0, []),
  (4, .aload_n 0, false, [], 0, 0, 0, 0, 0, []),
  (5, .getfield 10, false, [], 6, 0, 1, 0, 0, []),
  (8, .invokevirtual 320, false, [], 20, 1, 0, 0, 0, []),
  (11, .aload_n 0, false, [], 0, 0, 0, 0, 0, []),
  (12, .iconst 1, false, [], 0, 0, 0, 0, 1, []),
  (13, .putfield 22, false, [], 6, 3, 2, 0, 0, []),
  (16, .aload_n 0, false, [], 0, 0, 0, 0, 0, []),
  (17, .getfield 10, false, [], 6, 0, 1, 0, 0, []),
  (20, .getfield 73, false, [], 0, 1, 0, 0, 0, []),
  (23, .ireturn, false, [], 0, 0, 0, 0, 0, [])]
def kk_X6_back : List mx_I := [
  (0, .aload_n 0, false, [], 0, 0, 0, 0, 0, []),
  (1, .getfield 22, false, [], 6, 3, 0, 0, 0, []),
  (4, .ifCond .ne 7, false, [], 11, 0, 0, 0, 0, []),
  (7, .ldc_w 319, false, [], 0, 0, 0, 0, (-1000000002), []),
  (10, .ireturn, false, [], 0, 0, 0, 0, 0, []),
  (11, .aload_n 0, false, [], 0, 0, 0, 0, 0, []),
  (12, .getfield 10, false, [], 6, 0, 1, 0, 0, []),
  (15, .aload_n 0, false, [], 0, 0, 0, 0, 0, []),
  (16, .getfield 16, false, [], 6, 1, 1, 0, 0, []),
  (19, .invokevirtual 320, false, [], 20, 1, 0, 0, 0, []),
  (22, .aload_n 0, false, [], 0, 0, 0, 0, 0, []),
  (23, .getfield 10, false, [], 6, 0, 1, 0, 0, []),
  (26, .getfield 73, false, [], 0, 1, 0, 0, 0, []),
  (29, .ireturn, false, [], 0, 0, 0, 0, 0, [])]
def kk_X6_count : List mx_I := [
  (0, .iload_n 1, false, [], 0, 0, 0, 0, 0, []),
  (1, .tableswitch 137 0 9 #[55, 63, 71, 81, 91, 101, 111, 119, 124, 129], false, [], 138, 55, 0, 0, 0, [(0, 56), (1, 64), (2, 72), (3, 82), (4, 92), (5, 102), (6, 112), (7, 120), (8, 125), (9, 130)]),
  (56, .aload_n 0, false, [], 0, 0, 0, 0, 0, []),
  (57, .getfield 10, false, [], 6, 0, 1, 0, 0, []),
  (60, .getfield 73, false, [], 0, 1, 0, 0, 0, []),
  (63, .ireturn, false, [], 0, 0, 0, 0, 0, []),
  (64, .aload_n 0, false, [], 0, 0, 0, 0, 0, []),
  (65, .getfield 10, false, [], 6, 0, 1, 0, 0, []),
  (68, .getfield 323, false, [], 0, 9, 0, 0, 0, []),
  (71, .ireturn, false, [], 0, 0, 0, 0, 0, []),
  (72, .aload_n 0, false, [], 0, 0, 0, 0, 0, []),
  (73, .getfield 10, false, [], 6, 0, 1, 0, 0, []),
  (76, .getfield 141, false, [], 0, 2, 1, 0, 0, []),
  (79, .iconst 0, false, [], 0, 0, 0, 0, 0, []),
  (80, .iaload, false, [], 0, 0, 0, 0, 0, []),
  (81, .ireturn, false, [], 0, 0, 0, 0, 0, []),
  (82, .aload_n 0, false, [], 0, 0, 0, 0, 0, []),
  (83, .getfield 10, false, [], 6, 0, 1, 0, 0, []),
  (86, .getfield 141, false, [], 0, 2, 1, 0, 0, []),
  (89, .iconst 1, false, [], 0, 0, 0, 0, 1, []),
  (90, .iaload, false, [], 0, 0, 0, 0, 0, []),
  (91, .ireturn, false, [], 0, 0, 0, 0, 0, []),
  (92, .aload_n 0, false, [], 0, 0, 0, 0, 0, []),
  (93, .getfield 10, false, [], 6, 0, 1, 0, 0, []),
  (96, .getfield 141, false, [], 0, 2, 1, 0, 0, []),
  (99, .iconst 2, false, [], 0, 0, 0, 0, 2, []),
  (100, .iaload, false, [], 0, 0, 0, 0, 0, []),
  (101, .ireturn, false, [], 0, 0, 0, 0, 0, []),
  (102, .aload_n 0, false, [], 0, 0, 0, 0, 0, []),
  (103, .getfield 10, false, [], 6, 0, 1, 0, 0, []),
  (106, .getfield 141, false, [], 0, 2, 1, 0, 0, []),
  (109, .iconst 3, false, [], 0, 0, 0, 0, 3, []),
  (110, .iaload, false, [], 0, 0, 0, 0, 0, []),
  (111, .ireturn, false, [], 0, 0, 0, 0, 0, []),
  (112, .aload_n 0, false, [], 0, 0, 0, 0, 0, []),
  (113, .getfield 10, false, [], 6, 0, 1, 0, 0, []),
  (116, .getfield 243, false, [], 0, 4, 0, 0, 0, []),
  (119, .ireturn, false, [], 0, 0, 0, 0, 0, []),
  (120, .aload_n 0, false, [], 0, 0, 0, 0, 0, []),
  (121, .getfield 59, false, [], 6, 11, 0, 0, 0, []),
  (124, .ireturn, false, [], 0, 0, 0, 0, 0, []),
  (125, .aload_n 0, false, [], 0, 0, 0, 0, 0, []),
  (126, .getfield 33, false, [], 6, 6, 0, 0, 0, []),
  (129, .ireturn, false, [], 0, 0, 0, 0, 0, []),
  (130, .aload_n 0, false, [], 0, 0, 0, 0, 0, []),
  (131, .getfield 10, false, [], 6, 0, 1, 0, 0, []),
  (134, .getfield 152, false, [], 0, 10, 0, 0, 0, []),
  (137, .ireturn, false, [], 0, 0, 0, 0, 0, []),
  (138, .ldc 72, false, [], 0, 0, 0, 0, (-1000000001), []),
  (140, .ireturn, false, [], 0, 0, 0, 0, 0, [])]
def kk_X6_beginThought : List mx_I := [
  (0, .aload_n 0, false, [], 0, 0, 0, 0, 0, []),
  (1, .getfield 19, false, [], 6, 2, 1, 0, 0, []),
  (4, .aload_n 0, false, [], 0, 0, 0, 0, 0, []),
  (5, .getfield 10, false, [], 6, 0, 1, 0, 0, []),
  (8, .invokevirtual 320, false, [], 20, 1, 0, 0, 0, []),
  (11, .aload_n 0, false, [], 0, 0, 0, 0, 0, []),
  (12, .getfield 19, false, [], 6, 2, 1, 0, 0, []),
  (15, .areturn, false, [], 0, 0, 0, 0, 0, [])]
def kk_X6_isWithin : List mx_I := [
  (0, .iload_n 0, false, [], 0, 0, 0, 0, 0, []),
  (1, .iload_n 1, false, [], 0, 0, 0, 0, 0, []),
  (2, .if_icmp .lt 12, false, [], 14, 0, 0, 0, 0, []),
  (5, .iload_n 0, false, [], 0, 0, 0, 0, 0, []),
  (6, .iload_n 2, false, [], 0, 0, 0, 0, 0, []),
  (7, .if_icmp .gt 7, false, [], 14, 0, 0, 0, 0, []),
  (10, .iconst 1, false, [], 0, 0, 0, 0, 1, []),
  (11, .goto 4, false, [], 15, 0, 0, 0, 0, []),
  (14, .iconst 0, false, [], 0, 0, 0, 0, 0, []),
  (15, .ireturn, false, [], 0, 0, 0, 1, 0, [])]
def kk_X6_isKind : List mx_I := [
  (0, .iload_n 0, false, [], 0, 0, 0, 0, 0, []),
  (1, .iconst 0, false, [], 0, 0, 0, 0, 0, []),
  (2, .iconst 5, false, [], 0, 0, 0, 0, 5, []),
  (3, .invokestatic 68, false, [], 127, 3, 1, 0, 0, []),
  (6, .ireturn, false, [], 0, 0, 0, 1, 0, [])]
def kk_X6_isSheet : List mx_I := [
  (0, .iload_n 0, false, [], 0, 0, 0, 0, 0, []),
  (1, .iconst 0, false, [], 0, 0, 0, 0, 0, []),
  (2, .iconst 3, false, [], 0, 0, 0, 0, 3, []),
  (3, .invokestatic 68, false, [], 127, 3, 1, 0, 0, []),
  (6, .ireturn, false, [], 0, 0, 0, 1, 0, [])]
def kk_X6_isSlot : List mx_I := [
  (0, .iload_n 0, false, [], 0, 0, 0, 0, 0, []),
  (1, .iconst 0, false, [], 0, 0, 0, 0, 0, []),
  (2, .iconst 4, false, [], 0, 0, 0, 0, 4, []),
  (3, .invokestatic 68, false, [], 127, 3, 1, 0, 0, []),
  (6, .ireturn, false, [], 0, 0, 0, 1, 0, [])]
def kk_X6_heldWithin : List mx_I := [
  (0, .iconst 0, false, [], 0, 0, 0, 0, 0, []),
  (1, .bipush 99, false, [], 0, 0, 0, 0, 99, []),
  (3, .iload_n 0, false, [], 0, 0, 0, 0, 0, []),
  (4, .invokestatic 144, false, [], 3, 2, 1, 0, 0, []),
  (7, .invokestatic 326, false, [], 2, 2, 1, 0, 0, []),
  (10, .ireturn, false, [], 0, 0, 0, 0, 0, [])]
def kk_X7_init : List mx_I := [
  (0, .aload_n 0, false, [], 0, 0, 0, 0, 0, []),
  (1, .invokespecial 1, false, [], 0, 0, 9, 0, 0, []),
  (4, .aload_n 0, false, [], 0, 0, 0, 0, 0, []),
  (5, .sipush 1443, false, [], 0, 0, 0, 0, 1443, []),
  (8, .newarray .int, false, [], 0, 0, 0, 0, 0, []),
  (10, .putfield 9, false, [], 7, 0, 1, 0, 0, []),
  (13, .aload_n 0, false, [], 0, 0, 0, 0, 0, []),
  (14, .sipush 1443, false, [], 0, 0, 0, 0, 1443, []),
  (17, .newarray .int, false, [], 0, 0, 0, 0, 0, []),
  (19, .putfield 13, false, [], 7, 1, 1, 0, 0, []),
  (22, .aload_n 0, false, [], 0, 0, 0, 0, 0, []),
  (23, .sipush 1443, false, [], 0, 0, 0, 0, 1443, []),
  (26, .newarray .int, false, [], 0, 0, 0, 0, 0, []),
  (28, .putfield 16, false, [], 7, 2, 1, 0, 0, []),
  (31, .aload_n 0, false, [], 0, 0, 0, 0, 0, []),
  (32, .bipush 10, false, [], 0, 0, 0, 0, 10, []),
  (34, .newarray .int, false, [], 0, 0, 0, 0, 0, []),
  (36, .putfield 19, false, [], 7, 4, 1, 0, 0, []),
  (39, .aload_n 0, false, [], 0, 0, 0, 0, 0, []),
  (40, .bipush 96, false, [], 0, 0, 0, 0, 96, []),
  (42, .newarray .int, false, [], 0, 0, 0, 0, 0, []),
  (44, .putfield 22, false, [], 7, 5, 1, 0, 0, []),
  (47, .aload_n 0, false, [], 0, 0, 0, 0, 0, []),
  (48, .bipush 12, false, [], 0, 0, 0, 0, 12, []),
  (50, .newarray .char, false, [], 2, 0, 0, 0, 0, []),
  (52, .dup, false, [], 0, 0, 0, 0, 0, []),
  (53, .iconst 0, false, [], 0, 0, 0, 0, 0, []),
  (54, .bipush 112, false, [], 0, 0, 0, 0, 112, []),
  (56, .castore, false, [], 0, 0, 0, 0, 0, []),
  (57, .dup, false, [], 0, 0, 0, 0, 0, []),
  (58, .iconst 1, false, [], 0, 0, 0, 0, 1, []),
  (59, .bipush 114, false, [], 0, 0, 0, 0, 114, []),
  (61, .castore, false, [], 0, 0, 0, 0, 0, []),
  (62, .dup, false, [], 0, 0, 0, 0, 0, []),
  (63, .iconst 2, false, [], 0, 0, 0, 0, 2, []),
  (64, .bipush 101, false, [], 0, 0, 0, 0, 101, []),
  (66, .castore, false, [], 0, 0, 0, 0, 0, []),
  (67, .dup, false, [], 0, 0, 0, 0, 0, []),
  (68, .iconst 3, false, [], 0, 0, 0, 0, 3, []),
  (69, .bipush 115, false, [], 0, 0, 0, 0, 115, []),
  (71, .castore, false, [], 0, 0, 0, 0, 0, []),
  (72, .dup, false, [], 0, 0, 0, 0, 0, []),
  (73, .iconst 4, false, [], 0, 0, 0, 0, 4, []),
  (74, .bipush 115, false, [], 0, 0, 0, 0, 115, []),
  (76, .castore, false, [], 0, 0, 0, 0, 0, []),
  (77, .dup, false, [], 0, 0, 0, 0, 0, []),
  (78, .iconst 5, false, [], 0, 0, 0, 0, 5, []),
  (79, .bipush 102, false, [], 0, 0, 0, 0, 102, []),
  (81, .castore, false, [], 0, 0, 0, 0, 0, []),
  (82, .dup, false, [], 0, 0, 0, 0, 0, []),
  (83, .bipush 6, false, [], 0, 0, 0, 0, 6, []),
  (85, .bipush 101, false, [], 0, 0, 0, 0, 101, []),
  (87, .castore, false, [], 0, 0, 0, 0, 0, []),
  (88, .dup, false, [], 0, 0, 0, 0, 0, []),
  (89, .bipush 7, false, [], 0, 0, 0, 0, 7, []),
  (91, .bipush 101, false, [], 0, 0, 0, 0, 101, []),
  (93, .castore, false, [], 0, 0, 0, 0, 0, []),
  (94, .dup, false, [], 0, 0, 0, 0, 0, []),
  (95, .bipush 8, false, [], 0, 0, 0, 0, 8, []),
  (97, .bipush 102, false, [], 0, 0, 0, 0, 102, []),
  (99, .castore, false, [], 0, 0, 0, 0, 0, []),
  (100, .dup, false, [], 0, 0, 0, 0, 0, []),
  (101, .bipush 9, false, [], 0, 0, 0, 0, 9, []),
  (103, .bipush 105, false, [], 0, 0, 0, 0, 105, []),
  (105, .castore, false, [], 0, 0, 0, 0, 0, []),
  (106, .dup, false, [], 0, 0, 0, 0, 0, []),
  (107, .bipush 10, false, [], 0, 0, 0, 0, 10, []),
  (109, .bipush 110, false, [], 0, 0, 0, 0, 110, []),
  (111, .castore, false, [], 0, 0, 0, 0, 0, []),
  (112, .dup, false, [], 0, 0, 0, 0, 0, []),
  (113, .bipush 11, false, [], 0, 0, 0, 0, 11, []),
  (115, .bipush 101, false, [], 0, 0, 0, 0, 101, []),
  (117, .castore, false, [], 0, 0, 0, 0, 0, []),
  (118, .putfield 25, false, [], 7, 13, 1, 0, 0, []),
  (121, .aload_n 0, false, [], 0, 0, 0, 0, 0, []),
  (122, .iconst 4, false, [], 0, 0, 0, 0, 4, []),
  (123, .newarray .int, false, [], 0, 0, 0, 0, 0, []),
  (125, .dup, false, [], 0, 0, 0, 0, 0, []),
  (126, .iconst 0, false, [], 0, 0, 0, 0, 0, []),
  (127, .iconst 0, false, [], 0, 0, 0, 0, 0, []),
  (128, .iastore, false, [], 0, 0, 0, 0, 0, []),
  (129, .dup, false, [], 0, 0, 0, 0, 0, []),
  (130, .iconst 1, false, [], 0, 0, 0, 0, 1, []),
  (131, .iconst 5, false, [], 0, 0, 0, 0, 5, []),
  (132, .iastore, false, [], 0, 0, 0, 0, 0, []),
  (133, .dup, false, [], 0, 0, 0, 0, 0, []),
  (134, .iconst 2, false, [], 0, 0, 0, 0, 2, []),
  (135, .bipush 8, false, [], 0, 0, 0, 0, 8, []),
  (137, .iastore, false, [], 0, 0, 0, 0, 0, []),
  (138, .dup, false, [], 0, 0, 0, 0, 0, []),
  (139, .iconst 3, false, [], 0, 0, 0, 0, 3, []),
  (140, .bipush 12, false, [], 0, 0, 0, 0, 12, []),
  (142, .iastore, false, [], 0, 0, 0, 0, 0, []),
  (143, .putfield 29, false, [], 7, 14, 1, 0, 0, []),
  (146, .aload_n 0, false, [], 0, 0, 0, 0, 0, []),
  (147, .bipush 96, false, [], 0, 0, 0, 0, 96, []),
  (149, .newarray .int, false, [], 0, 0, 0, 0, 0, []),
  (151, .putfield 32, false, [], 7, 15, 1, 0, 0, []),
  (154, .aload_n 0, false, [], 0, 0, 0, 0, 0, []),
  (155, .bipush 96, false, [], 0, 0, 0, 0, 96, []),
  (157, .newarray .int, false, [], 0, 0, 0, 0, 0, []),
  (159, .putfield 35, false, [], 7, 18, 1, 0, 0, []),
  (162, .aload_n 0, false, [], 0, 0, 0, 0, 0, []),
  (163, .bipush 10, false, [], 0, 0, 0, 0, 10, []),
  (165, .newarray .boolean, false, [], 1, 0, 0, 0, 0, []),
  (167, .putfield 38, false, [], 7, 20, 1, 0, 0, []),
  (170, .aload_n 0, false, [], 0, 0, 0, 0, 0, []),
  (171, .bipush 96, false, [], 0, 0, 0, 0, 96, []),
  (173, .newarray .int, false, [], 0, 0, 0, 0, 0, []),
  (175, .putfield 42, false, [], 7, 21, 1, 0, 0, []),
  (178, .aload_n 0, false, [], 0, 0, 0, 0, 0, []),
  (179, .iconst 4, false, [], 0, 0, 0, 0, 4, []),
  (180, .newarray .int, false, [], 0, 0, 0, 0, 0, []),
  (182, .putfield 45, false, [], 7, 22, 1, 0, 0, []),
  (185, .aload_n 0, false, [], 0, 0, 0, 0, 0, []),
  (186, .iconst 4, false, [], 0, 0, 0, 0, 4, []),
  (187, .newarray .int, false, [], 0, 0, 0, 0, 0, []),
  (189, .dup, false, [], 0, 0, 0, 0, 0, []),
  (190, .iconst 0, false, [], 0, 0, 0, 0, 0, []),
  (191, .iconst (-1), false, [], 0, 0, 0, 0, (-1), []),
  (192, .iastore, false, [], 0, 0, 0, 0, 0, []),
  (193, .dup, false, [], 0, 0, 0, 0, 0, []),
  (194, .iconst 1, false, [], 0, 0, 0, 0, 1, []),
  (195, .iconst (-1), false, [], 0, 0, 0, 0, (-1), []),
  (196, .iastore, false, [], 0, 0, 0, 0, 0, []),
  (197, .dup, false, [], 0, 0, 0, 0, 0, []),
  (198, .iconst 2, false, [], 0, 0, 0, 0, 2, []),
  (199, .iconst (-1), false, [], 0, 0, 0, 0, (-1), []),
  (200, .iastore, false, [], 0, 0, 0, 0, 0, []),
  (201, .dup, false, [], 0, 0, 0, 0, 0, []),
  (202, .iconst 3, false, [], 0, 0, 0, 0, 3, []),
  (203, .iconst (-1), false, [], 0, 0, 0, 0, (-1), []),
  (204, .iastore, false, [], 0, 0, 0, 0, 0, []),
  (205, .putfield 48, false, [], 7, 23, 1, 0, 0, []),
  (208, .aload_n 0, false, [], 0, 0, 0, 0, 0, []),
  (209, .iconst 4, false, [], 0, 0, 0, 0, 4, []),
  (210, .newarray .int, false, [], 0, 0, 0, 0, 0, []),
  (212, .putfield 51, false, [], 7, 24, 1, 0, 0, []),
  (215, .aload_n 0, false, [], 0, 0, 0, 0, 0, []),
  (216, .bipush 96, false, [], 0, 0, 0, 0, 96, []),
  (218, .newarray .int, false, [], 0, 0, 0, 0, 0, []),
  (220, .putfield 54, false, [], 7, 25, 1, 0, 0, []),
  (223, .aload_n 0, false, [], 0, 0, 0, 0, 0, []),
  (224, .iconst 5, false, [], 0, 0, 0, 0, 5, []),
  (225, .newarray .int, false, [], 0, 0, 0, 0, 0, []),
  (227, .putfield 57, false, [], 7, 26, 1, 0, 0, []),
  (230, .aload_n 0, false, [], 0, 0, 0, 0, 0, []),
  (231, .iconst 5, false, [], 0, 0, 0, 0, 5, []),
  (232, .newarray .int, false, [], 0, 0, 0, 0, 0, []),
  (234, .putfield 60, false, [], 7, 27, 1, 0, 0, []),
  (237, .aload_n 0, false, [], 0, 0, 0, 0, 0, []),
  (238, .iconst 5, false, [], 0, 0, 0, 0, 5, []),
  (239, .newarray .int, false, [], 0, 0, 0, 0, 0, []),
  (241, .putfield 63, false, [], 7, 28, 1, 0, 0, []),
  (244, .aload_n 0, false, [], 0, 0, 0, 0, 0, []),
  (245, .bipush 120, false, [], 0, 0, 0, 0, 120, []),
  (247, .newarray .int, false, [], 0, 0, 0, 0, 0, []),
  (249, .putfield 66, false, [], 7, 29, 1, 0, 0, []),
  (252, .aload_n 0, false, [], 0, 0, 0, 0, 0, []),
  (253, .bipush 24, false, [], 0, 0, 0, 0, 24, []),
  (255, .newarray .int, false, [], 0, 0, 0, 0, 0, []),
  (257, .putfield 69, false, [], 7, 30, 1, 0, 0, []),
  (260, .aload_n 0, false, [], 0, 0, 0, 0, 0, []),
  (261, .bipush 60, false, [], 0, 0, 0, 0, 60, []),
  (263, .newarray .int, false, [], 0, 0, 0, 0, 0, []),
  (265, .putfield 72, false, [], 7, 31, 1, 0, 0, []),
  (268, .aload_n 0, false, [], 0, 0, 0, 0, 0, []),
  (269, .getfield 9, false, [], 7, 0, 1, 0, 0, []),
  (272, .iconst 0, false, [], 0, 0, 0, 0, 0, []),
  (273, .iconst 1, false, [], 0, 0, 0, 0, 1, []),
  (274, .iastore, false, [], 0, 0, 0, 0, 0, []),
  (275, .aload_n 0, false, [], 0, 0, 0, 0, 0, []),
  (276, .getfield 9, false, [], 7, 0, 1, 0, 0, []),
  (279, .iconst 3, false, [], 0, 0, 0, 0, 3, []),
  (280, .bipush 20, false, [], 0, 0, 0, 0, 20, []),
  (282, .iastore, false, [], 0, 0, 0, 0, 0, []),
  (283, .aload_n 0, false, [], 0, 0, 0, 0, 0, []),
  (284, .getfield 9, false, [], 7, 0, 1, 0, 0, []),
  (287, .iconst 4, false, [], 0, 0, 0, 0, 4, []),
  (288, .iconst 1, false, [], 0, 0, 0, 0, 1, []),
  (289, .iastore, false, [], 0, 0, 0, 0, 0, []),
  (290, .aload_n 0, false, [], 0, 0, 0, 0, 0, []),
  (291, .getfield 9, false, [], 7, 0, 1, 0, 0, []),
  (294, .iconst 5, false, [], 0, 0, 0, 0, 5, []),
  (295, .bipush 40, false, [], 0, 0, 0, 0, 40, []),
  (297, .iastore, false, [], 0, 0, 0, 0, 0, []),
  (298, .aload_n 0, false, [], 0, 0, 0, 0, 0, []),
  (299, .getfield 9, false, [], 7, 0, 1, 0, 0, []),
  (302, .bipush 6, false, [], 0, 0, 0, 0, 6, []),
  (304, .bipush 60, false, [], 0, 0, 0, 0, 60, []),
  (306, .iastore, false, [], 0, 0, 0, 0, 0, []),
  (307, .return_, false, [], 0, 0, 0, 0, 0, [])]
def kk_X7_in : List mx_I := [
  (0, .iload_n 0, false, [], 0, 0, 0, 0, 0, []),
  (1, .iload_n 1, false, [], 0, 0, 0, 0, 0, []),
  (2, .if_icmp .lt 12, false, [], 14, 0, 0, 0, 0, []),
  (5, .iload_n 0, false, [], 0, 0, 0, 0, 0, []),
  (6, .iload_n 2, false, [], 0, 0, 0, 0, 0, []),
  (7, .if_icmp .gt 7, false, [], 14, 0, 0, 0, 0, []),
  (10, .iconst 1, false, [], 0, 0, 0, 0, 1, []),
  (11, .goto 4, false, [], 15, 0, 0, 0, 0, []),
  (14, .iconst 0, false, [], 0, 0, 0, 0, 0, []),
  (15, .ireturn, false, [], 0, 0, 0, 1, 0, [])]
def kk_X7_within : List mx_I := [
  (0, .iload_n 0, false, [], 0, 0, 0, 0, 0, []),
  (1, .iload_n 1, false, [], 0, 0, 0, 0, 0, []),
  (2, .if_icmp .ge 7, false, [], 9, 0, 0, 0, 0, []),
  (5, .iload_n 1, false, [], 0, 0, 0, 0, 0, []),
  (6, .goto 13, false, [], 19, 0, 0, 0, 0, []),
  (9, .iload_n 0, false, [], 0, 0, 0, 0, 0, []),
  (10, .iload_n 2, false, [], 0, 0, 0, 0, 0, []),
  (11, .if_icmp .le 7, false, [], 18, 0, 0, 0, 0, []),
  (14, .iload_n 2, false, [], 0, 0, 0, 0, 0, []),
  (15, .goto 4, false, [], 19, 0, 0, 0, 0, []),
  (18, .iload_n 0, false, [], 0, 0, 0, 0, 0, []),
  (19, .ireturn, false, [], 0, 0, 0, 0, 0, [])]
def kk_X7_copyAll : List mx_I := [
  (0, .iconst 0, false, [], 0, 0, 0, 0, 0, []),
  (1, .istore_n 2, false, [], 0, 0, 0, 0, 0, []),
  (2, .iload_n 2, true, [0, 1, 2], 0, 0, 0, 0, 0, []),
  (3, .sipush 1443, false, [], 0, 0, 0, 0, 1443, []),
  (6, .if_icmp .ge 15, false, [], 21, 0, 0, 0, 0, []),
  (9, .aload_n 1, false, [], 0, 0, 0, 0, 0, []),
  (10, .iload_n 2, false, [], 0, 0, 0, 0, 0, []),
  (11, .aload_n 0, false, [], 0, 0, 0, 0, 0, []),
  (12, .iload_n 2, false, [], 0, 0, 0, 0, 0, []),
  (13, .iaload, false, [], 0, 0, 0, 0, 0, []),
  (14, .iastore, false, [], 0, 0, 0, 0, 0, []),
  (15, .iinc 2 1, false, [], 0, 0, 0, 0, 1, []),
  (18, .goto (-16), false, [], 2, 0, 0, 0, 0, []),
  (21, .return_, false, [], 0, 0, 0, 0, 0, [])]
def kk_X7_bits : List mx_I := [
  (0, .iconst 0, false, [], 0, 0, 0, 0, 0, []),
  (1, .istore_n 1, false, [], 0, 0, 0, 0, 0, []),
  (2, .iload_n 0, false, [], 0, 0, 0, 0, 0, []),
  (3, .istore_n 2, false, [], 0, 0, 0, 0, 0, []),
  (4, .iload_n 2, true, [1, 2], 0, 0, 0, 0, 0, []),
  (5, .ifCond .eq 15, false, [], 20, 0, 0, 0, 0, []),
  (8, .iinc 1 1, false, [], 0, 0, 0, 0, 1, []),
  (11, .iload_n 2, false, [], 0, 0, 0, 0, 0, []),
  (12, .iload_n 2, false, [], 0, 0, 0, 0, 0, []),
  (13, .iconst 1, false, [], 0, 0, 0, 0, 1, []),
  (14, .isub, false, [], 0, 0, 0, 0, 0, []),
  (15, .iand, false, [], 0, 0, 0, 0, 0, []),
  (16, .istore_n 2, false, [], 0, 0, 0, 0, 0, []),
  (17, .goto (-13), false, [], 4, 0, 0, 0, 0, []),
  (20, .iload_n 1, false, [], 0, 0, 0, 0, 0, []),
  (21, .ireturn, false, [], 0, 0, 0, 0, 0, [])]
def kk_X7_isLeg : List mx_I := [
  (0, .iload_n 1, false, [], 0, 0, 0, 0, 0, []),
  (1, .iconst 0, false, [], 0, 0, 0, 0, 0, []),
  (2, .aload_n 0, false, [], 0, 0, 0, 0, 0, []),
  (3, .getfield 9, false, [], 7, 0, 1, 0, 0, []),
  (6, .iconst 1, false, [], 0, 0, 0, 0, 1, []),
  (7, .iaload, false, [], 0, 0, 0, 0, 0, []),
  (8, .iconst 1, false, [], 0, 0, 0, 0, 1, []),
  (9, .isub, false, [], 0, 0, 0, 0, 0, []),
  (10, .invokestatic 75, false, [], 133, 3, 1, 0, 0, []),
  (13, .ireturn, false, [], 0, 0, 0, 1, 0, [])]
def kk_X7_of : List mx_I := [
  (0, .aload_n 0, false, [], 0, 0, 0, 0, 0, []),
  (1, .getfield 9, false, [], 7, 0, 1, 0, 0, []),
  (4, .bipush 11, false, [], 0, 0, 0, 0, 11, []),
  (6, .bipush 6, false, [], 0, 0, 0, 0, 6, []),
  (8, .iload_n 1, false, [], 0, 0, 0, 0, 0, []),
  (9, .imul, false, [], 0, 0, 0, 0, 0, []),
  (10, .iadd, false, [], 0, 0, 0, 0, 0, []),
  (11, .iload_n 2, false, [], 0, 0, 0, 0, 0, []),
  (12, .iadd, false, [], 0, 0, 0, 0, 0, []),
  (13, .iaload, false, [], 0, 0, 0, 0, 0, []),
  (14, .ireturn, false, [], 0, 0, 0, 0, 0, [])]
def kk_X7_put : List mx_I := [
  (0, .aload_n 0, false, [], 0, 0, 0, 0, 0, []),
  (1, .getfield 9, false, [], 7, 0, 1, 0, 0, []),
  (4, .bipush 11, false, [], 0, 0, 0, 0, 11, []),
  (6, .bipush 6, false, [], 0, 0, 0, 0, 6, []),
  (8, .iload_n 1, false, [], 0, 0, 0, 0, 0, []),
  (9, .imul, false, [], 0, 0, 0, 0, 0, []),
  (10, .iadd, false, [], 0, 0, 0, 0, 0, []),
  (11, .iload_n 2, false, [], 0, 0, 0, 0, 0, []),
  (12, .iadd, false, [], 0, 0, 0, 0, 0, []),
  (13, .iload_n 3, false, [], 0, 0, 0, 0, 0, []),
  (14, .iastore, false, [], 0, 0, 0, 0, 0, []),
  (15, .return_, false, [], 0, 0, 0, 0, 0, [])]
def kk_X7_swaps : List mx_I := [
  (0, .aload_n 0, false, [], 0, 0, 0, 0, 0, []),
  (1, .getfield 9, false, [], 7, 0, 1, 0, 0, []),
  (4, .iload_n 1, false, [], 0, 0, 0, 0, 0, []),
  (5, .iaload, false, [], 0, 0, 0, 0, 0, []),
  (6, .istore_n 3, false, [], 0, 0, 0, 0, 0, []),
  (7, .aload_n 0, false, [], 0, 0, 0, 0, 0, []),
  (8, .getfield 9, false, [], 7, 0, 1, 0, 0, []),
  (11, .iload_n 1, false, [], 0, 0, 0, 0, 0, []),
  (12, .iload_n 2, false, [], 0, 0, 0, 0, 0, []),
  (13, .iastore, false, [], 0, 0, 0, 0, 0, []),
  (14, .iload_n 3, false, [], 0, 0, 0, 0, 0, []),
  (15, .ireturn, false, [], 0, 0, 0, 0, 0, [])]
def kk_X7_off : List mx_I := [
  (0, .iload_n 0, false, [], 0, 0, 0, 0, 0, []),
  (1, .ifCond .ge 8, false, [], 9, 0, 0, 0, 0, []),
  (4, .iload_n 0, false, [], 0, 0, 0, 0, 0, []),
  (5, .ineg, false, [], 0, 0, 0, 0, 0, []),
  (6, .goto 4, false, [], 10, 0, 0, 0, 0, []),
  (9, .iload_n 0, false, [], 0, 0, 0, 0, 0, []),
  (10, .ireturn, false, [], 0, 0, 0, 0, 0, [])]
def kk_X7_plainPress : List mx_I := [
  (0, .aload_n 0, false, [], 0, 0, 0, 0, 0, []),
  (1, .iconst 0, false, [], 0, 0, 0, 0, 0, []),
  (2, .invokevirtual 79, false, [], 197, 1, 1, 7, 0, []),
  (5, .istore_n 2, false, [], 0, 0, 0, 0, 0, []),
  (6, .aload_n 0, false, [], 0, 0, 0, 0, 0, []),
  (7, .getfield 45, false, [], 7, 22, 1, 0, 0, []),
  (10, .iconst 0, false, [], 0, 0, 0, 0, 0, []),
  (11, .aload_n 0, false, [], 0, 0, 0, 0, 0, []),
  (12, .getfield 9, false, [], 7, 0, 1, 0, 0, []),
  (15, .bipush 6, false, [], 0, 0, 0, 0, 6, []),
  (17, .iaload, false, [], 0, 0, 0, 0, 0, []),
  (18, .iastore, false, [], 0, 0, 0, 0, 0, []),
  (19, .aload_n 0, false, [], 0, 0, 0, 0, 0, []),
  (20, .getfield 45, false, [], 7, 22, 1, 0, 0, []),
  (23, .iconst 1, false, [], 0, 0, 0, 0, 1, []),
  (24, .aload_n 0, false, [], 0, 0, 0, 0, 0, []),
  (25, .iload_n 1, false, [], 0, 0, 0, 0, 0, []),
  (26, .iconst 5, false, [], 0, 0, 0, 0, 5, []),
  (27, .invokevirtual 83, false, [], 138, 2, 1, 7, 0, []),
  (30, .iastore, false, [], 0, 0, 0, 0, 0, []),
  (31, .aload_n 0, false, [], 0, 0, 0, 0, 0, []),
  (32, .getfield 45, false, [], 7, 22, 1, 0, 0, []),
  (35, .iconst 2, false, [], 0, 0, 0, 0, 2, []),
  (36, .aload_n 0, false, [], 0, 0, 0, 0, 0, []),
  (37, .iload_n 1, false, [], 0, 0, 0, 0, 0, []),
  (38, .iconst 4, false, [], 0, 0, 0, 0, 4, []),
  (39, .invokevirtual 83, false, [], 138, 2, 1, 7, 0, []),
  (42, .iastore, false, [], 0, 0, 0, 0, 0, []),
  (43, .aload_n 0, false, [], 0, 0, 0, 0, 0, []),
  (44, .getfield 45, false, [], 7, 22, 1, 0, 0, []),
  (47, .iconst 3, false, [], 0, 0, 0, 0, 3, []),
  (48, .aload_n 0, false, [], 0, 0, 0, 0, 0, []),
  (49, .iload_n 1, false, [], 0, 0, 0, 0, 0, []),
  (50, .iconst 3, false, [], 0, 0, 0, 0, 3, []),
  (51, .invokevirtual 83, false, [], 138, 2, 1, 7, 0, []),
  (54, .iastore, false, [], 0, 0, 0, 0, 0, []),
  (55, .iload_n 2, false, [], 0, 0, 0, 0, 0, []),
  (56, .ifCond .ge 22, false, [], 78, 0, 0, 0, 0, []),
  (59, .aload_n 0, false, [], 0, 0, 0, 0, 0, []),
  (60, .getfield 9, false, [], 7, 0, 1, 0, 0, []),
  (63, .bipush 6, false, [], 0, 0, 0, 0, 6, []),
  (65, .iaload, false, [], 0, 0, 0, 0, 0, []),
  (66, .iconst 3, false, [], 0, 0, 0, 0, 3, []),
  (67, .aload_n 0, false, [], 0, 0, 0, 0, 0, []),
  (68, .iload_n 1, false, [], 0, 0, 0, 0, 0, []),
  (69, .iconst 5, false, [], 0, 0, 0, 0, 5, []),
  (70, .invokevirtual 83, false, [], 138, 2, 1, 7, 0, []),
  (73, .imul, false, [], 0, 0, 0, 0, 0, []),
  (74, .iadd, false, [], 0, 0, 0, 0, 0, []),
  (75, .goto 8, false, [], 83, 0, 0, 0, 0, []),
  (78, .aload_n 0, false, [], 0, 0, 0, 0, 0, []),
  (79, .iload_n 2, false, [], 0, 0, 0, 0, 0, []),
  (80, .invokevirtual 87, false, [], 200, 1, 1, 7, 0, []),
  (83, .iconst 0, false, [], 0, 0, 0, 0, 0, []),
  (84, .bipush 99, false, [], 0, 0, 0, 0, 99, []),
  (86, .invokestatic 90, false, [], 134, 3, 1, 0, 0, []),
  (89, .ireturn, false, [], 0, 0, 0, 0, 0, [])]
def kk_X7_takesBy : List mx_I := [
  (0, .aload_n 0, false, [], 0, 0, 0, 0, 0, []),
  (1, .iload_n 1, false, [], 0, 0, 0, 0, 0, []),
  (2, .invokevirtual 94, false, [], 142, 1, 1, 7, 0, []),
  (5, .istore_n 2, false, [], 0, 0, 0, 0, 0, []),
  (6, .iload_n 2, false, [], 0, 0, 0, 0, 0, []),
  (7, .bipush 10, false, [], 0, 0, 0, 0, 10, []),
  (9, .iadd, false, [], 0, 0, 0, 0, 0, []),
  (10, .iconst 0, false, [], 0, 0, 0, 0, 0, []),
  (11, .bipush 99, false, [], 0, 0, 0, 0, 99, []),
  (13, .invokestatic 90, false, [], 134, 3, 1, 0, 0, []),
  (16, .istore_n 3, false, [], 0, 0, 0, 0, 0, []),
  (17, .aload_n 0, false, [], 0, 0, 0, 0, 0, []),
  (18, .iload_n 1, false, [], 0, 0, 0, 0, 0, []),
  (19, .iconst 0, false, [], 0, 0, 0, 0, 0, []),
  (20, .invokevirtual 83, false, [], 138, 2, 1, 7, 0, []),
  (23, .tableswitch 70 1 5 #[33, 35, 39, 56, 67], false, [], 93, 33, 0, 0, 0, [(1, 56), (2, 58), (3, 62), (4, 79), (5, 90)]),
  (56, .iload_n 3, false, [], 0, 0, 0, 0, 0, []),
  (57, .ireturn, false, [], 0, 0, 0, 0, 0, []),
  (58, .iload_n 2, false, [], 0, 0, 0, 0, 0, []),
  (59, .iconst 2, false, [], 0, 0, 0, 0, 2, []),
  (60, .idiv, false, [], 0, 0, 0, 0, 0, []),
  (61, .ireturn, false, [], 0, 0, 0, 0, 0, []),
  (62, .iload_n 3, false, [], 0, 0, 0, 0, 0, []),
  (63, .iconst 2, false, [], 0, 0, 0, 0, 2, []),
  (64, .aload_n 0, false, [], 0, 0, 0, 0, 0, []),
  (65, .iload_n 1, false, [], 0, 0, 0, 0, 0, []),
  (66, .iconst 5, false, [], 0, 0, 0, 0, 5, []),
  (67, .invokevirtual 83, false, [], 138, 2, 1, 7, 0, []),
  (70, .imul, false, [], 0, 0, 0, 0, 0, []),
  (71, .iadd, false, [], 0, 0, 0, 0, 0, []),
  (72, .iconst 0, false, [], 0, 0, 0, 0, 0, []),
  (73, .bipush 99, false, [], 0, 0, 0, 0, 99, []),
  (75, .invokestatic 90, false, [], 134, 3, 1, 0, 0, []),
  (78, .ireturn, false, [], 0, 0, 0, 0, 0, []),
  (79, .iload_n 2, false, [], 0, 0, 0, 0, 0, []),
  (80, .iconst 2, false, [], 0, 0, 0, 0, 2, []),
  (81, .idiv, false, [], 0, 0, 0, 0, 0, []),
  (82, .bipush 30, false, [], 0, 0, 0, 0, 30, []),
  (84, .bipush 99, false, [], 0, 0, 0, 0, 99, []),
  (86, .invokestatic 90, false, [], 134, 3, 1, 0, 0, []),
  (89, .ireturn, false, [], 0, 0, 0, 0, 0, []),
  (90, .bipush 20, false, [], 0, 0, 0, 0, 20, []),
  (92, .ireturn, false, [], 0, 0, 0, 0, 0, []),
  (93, .iload_n 2, false, [], 0, 0, 0, 0, 0, []),
  (94, .ireturn, false, [], 0, 0, 0, 0, 0, [])]
def kk_X7_losesOf : List mx_I := [
  (0, .iconst 5, false, [], 0, 0, 0, 0, 5, []),
  (1, .aload_n 0, false, [], 0, 0, 0, 0, 0, []),
  (2, .iload_n 1, false, [], 0, 0, 0, 0, 0, []),
  (3, .iconst 4, false, [], 0, 0, 0, 0, 4, []),
  (4, .invokevirtual 83, false, [], 138, 2, 1, 7, 0, []),
  (7, .bipush 10, false, [], 0, 0, 0, 0, 10, []),
  (9, .idiv, false, [], 0, 0, 0, 0, 0, []),
  (10, .iadd, false, [], 0, 0, 0, 0, 0, []),
  (11, .istore_n 2, false, [], 0, 0, 0, 0, 0, []),
  (12, .aload_n 0, false, [], 0, 0, 0, 0, 0, []),
  (13, .iload_n 1, false, [], 0, 0, 0, 0, 0, []),
  (14, .iconst 0, false, [], 0, 0, 0, 0, 0, []),
  (15, .invokevirtual 83, false, [], 138, 2, 1, 7, 0, []),
  (18, .tableswitch 44 1 5 #[34, 36, 42, 38, 42], false, [], 62, 34, 0, 0, 0, [(1, 52), (2, 54), (3, 60), (4, 56), (5, 60)]),
  (52, .iconst 3, false, [], 0, 0, 0, 0, 3, []),
  (53, .ireturn, false, [], 0, 0, 0, 0, 0, []),
  (54, .iload_n 2, false, [], 0, 0, 0, 0, 0, []),
  (55, .ireturn, false, [], 0, 0, 0, 0, 0, []),
  (56, .iconst 2, false, [], 0, 0, 0, 0, 2, []),
  (57, .iload_n 2, false, [], 0, 0, 0, 0, 0, []),
  (58, .imul, false, [], 0, 0, 0, 0, 0, []),
  (59, .ireturn, false, [], 0, 0, 0, 0, 0, []),
  (60, .iconst 1, false, [], 0, 0, 0, 0, 1, []),
  (61, .ireturn, false, [], 0, 0, 0, 0, 0, []),
  (62, .iconst 5, false, [], 0, 0, 0, 0, 5, []),
  (63, .ireturn, false, [], 0, 0, 0, 0, 0, [])]
def kk_X7_bagsOf : List mx_I := [
  (0, .aload_n 0, false, [], 0, 0, 0, 0, 0, []),
  (1, .iload_n 1, false, [], 0, 0, 0, 0, 0, []),
  (2, .iconst 0, false, [], 0, 0, 0, 0, 0, []),
  (3, .invokevirtual 83, false, [], 138, 2, 1, 7, 0, []),
  (6, .tableswitch 44 1 5 #[34, 36, 34, 39, 42], false, [], 50, 34, 0, 0, 0, [(1, 40), (2, 42), (3, 40), (4, 45), (5, 48)]),
  (40, .iconst 5, false, [], 0, 0, 0, 0, 5, []),
  (41, .ireturn, false, [], 0, 0, 0, 0, 0, []),
  (42, .bipush 12, false, [], 0, 0, 0, 0, 12, []),
  (44, .ireturn, false, [], 0, 0, 0, 0, 0, []),
  (45, .bipush 8, false, [], 0, 0, 0, 0, 8, []),
  (47, .ireturn, false, [], 0, 0, 0, 0, 0, []),
  (48, .iconst 2, false, [], 0, 0, 0, 0, 2, []),
  (49, .ireturn, false, [], 0, 0, 0, 0, 0, []),
  (50, .bipush 6, false, [], 0, 0, 0, 0, 6, []),
  (52, .ireturn, false, [], 0, 0, 0, 0, 0, [])]
def kk_X7_worthOf : List mx_I := [
  (0, .aload_n 0, false, [], 0, 0, 0, 0, 0, []),
  (1, .iload_n 1, false, [], 0, 0, 0, 0, 0, []),
  (2, .iconst 2, false, [], 0, 0, 0, 0, 2, []),
  (3, .invokevirtual 83, false, [], 138, 2, 1, 7, 0, []),
  (6, .aload_n 0, false, [], 0, 0, 0, 0, 0, []),
  (7, .iload_n 1, false, [], 0, 0, 0, 0, 0, []),
  (8, .iconst 3, false, [], 0, 0, 0, 0, 3, []),
  (9, .invokevirtual 83, false, [], 138, 2, 1, 7, 0, []),
  (12, .isub, false, [], 0, 0, 0, 0, 0, []),
  (13, .iconst 0, false, [], 0, 0, 0, 0, 0, []),
  (14, .bipush 99, false, [], 0, 0, 0, 0, 99, []),
  (16, .invokestatic 90, false, [], 134, 3, 1, 0, 0, []),
  (19, .istore_n 2, false, [], 0, 0, 0, 0, 0, []),
  (20, .aload_n 0, false, [], 0, 0, 0, 0, 0, []),
  (21, .iload_n 1, false, [], 0, 0, 0, 0, 0, []),
  (22, .iconst 0, false, [], 0, 0, 0, 0, 0, []),
  (23, .invokevirtual 83, false, [], 138, 2, 1, 7, 0, []),
  (26, .tableswitch 83 1 5 #[34, 43, 53, 64, 76], false, [], 109, 34, 0, 0, 0, [(1, 60), (2, 69), (3, 79), (4, 90), (5, 102)]),
  (60, .iload_n 2, false, [], 0, 0, 0, 0, 0, []),
  (61, .aload_n 0, false, [], 0, 0, 0, 0, 0, []),
  (62, .iload_n 1, false, [], 0, 0, 0, 0, 0, []),
  (63, .iconst 5, false, [], 0, 0, 0, 0, 5, []),
  (64, .invokevirtual 83, false, [], 138, 2, 1, 7, 0, []),
  (67, .iadd, false, [], 0, 0, 0, 0, 0, []),
  (68, .ireturn, false, [], 0, 0, 0, 0, 0, []),
  (69, .bipush 99, false, [], 0, 0, 0, 0, 99, []),
  (71, .aload_n 0, false, [], 0, 0, 0, 0, 0, []),
  (72, .iload_n 1, false, [], 0, 0, 0, 0, 0, []),
  (73, .iconst 4, false, [], 0, 0, 0, 0, 4, []),
  (74, .invokevirtual 83, false, [], 138, 2, 1, 7, 0, []),
  (77, .isub, false, [], 0, 0, 0, 0, 0, []),
  (78, .ireturn, false, [], 0, 0, 0, 0, 0, []),
  (79, .iconst 2, false, [], 0, 0, 0, 0, 2, []),
  (80, .iload_n 2, false, [], 0, 0, 0, 0, 0, []),
  (81, .aload_n 0, false, [], 0, 0, 0, 0, 0, []),
  (82, .iload_n 1, false, [], 0, 0, 0, 0, 0, []),
  (83, .iconst 5, false, [], 0, 0, 0, 0, 5, []),
  (84, .invokevirtual 83, false, [], 138, 2, 1, 7, 0, []),
  (87, .iadd, false, [], 0, 0, 0, 0, 0, []),
  (88, .imul, false, [], 0, 0, 0, 0, 0, []),
  (89, .ireturn, false, [], 0, 0, 0, 0, 0, []),
  (90, .bipush 99, false, [], 0, 0, 0, 0, 99, []),
  (92, .aload_n 0, false, [], 0, 0, 0, 0, 0, []),
  (93, .iload_n 1, false, [], 0, 0, 0, 0, 0, []),
  (94, .iconst 4, false, [], 0, 0, 0, 0, 4, []),
  (95, .invokevirtual 83, false, [], 138, 2, 1, 7, 0, []),
  (98, .isub, false, [], 0, 0, 0, 0, 0, []),
  (99, .iconst 2, false, [], 0, 0, 0, 0, 2, []),
  (100, .idiv, false, [], 0, 0, 0, 0, 0, []),
  (101, .ireturn, false, [], 0, 0, 0, 0, 0, []),
  (102, .aload_n 0, false, [], 0, 0, 0, 0, 0, []),
  (103, .iload_n 1, false, [], 0, 0, 0, 0, 0, []),
  (104, .iconst 4, false, [], 0, 0, 0, 0, 4, []),
  (105, .invokevirtual 83, false, [], 138, 2, 1, 7, 0, []),
  (108, .ireturn, false, [], 0, 0, 0, 0, 0, []),
  (109, .iload_n 2, false, [], 0, 0, 0, 0, 0, []),
  (110, .ireturn, false, [], 0, 0, 0, 0, 0, [])]
def kk_X7_comes : List mx_I := [
  (0, .aload_n 0, false, [], 0, 0, 0, 0, 0, []),
  (1, .getfield 9, false, [], 7, 0, 1, 0, 0, []),
  (4, .iconst 1, false, [], 0, 0, 0, 0, 1, []),
  (5, .iaload, false, [], 0, 0, 0, 0, 0, []),
  (6, .istore 4, false, [], 0, 0, 0, 0, 0, []),
  (8, .aload_n 0, false, [], 0, 0, 0, 0, 0, []),
  (9, .getfield 9, false, [], 7, 0, 1, 0, 0, []),
  (12, .iconst 1, false, [], 0, 0, 0, 0, 1, []),
  (13, .dup2, false, [], 0, 0, 0, 0, 0, []),
  (14, .iaload, false, [], 0, 0, 0, 0, 0, []),
  (15, .iconst 1, false, [], 0, 0, 0, 0, 1, []),
  (16, .iadd, false, [], 0, 0, 0, 0, 0, []),
  (17, .iastore, false, [], 0, 0, 0, 0, 0, []),
  (18, .aload_n 0, false, [], 0, 0, 0, 0, 0, []),
  (19, .iload 4, false, [], 0, 0, 0, 0, 0, []),
  (21, .iconst 0, false, [], 0, 0, 0, 0, 0, []),
  (22, .iload_n 1, false, [], 0, 0, 0, 0, 0, []),
  (23, .invokevirtual 97, false, [], 139, 3, 0, 7, 0, []),
  (26, .aload_n 0, false, [], 0, 0, 0, 0, 0, []),
  (27, .iload 4, false, [], 0, 0, 0, 0, 0, []),
  (29, .iconst 1, false, [], 0, 0, 0, 0, 1, []),
  (30, .iload_n 2, false, [], 0, 0, 0, 0, 0, []),
  (31, .invokevirtual 97, false, [], 139, 3, 0, 7, 0, []),
  (34, .aload_n 0, false, [], 0, 0, 0, 0, 0, []),
  (35, .iload 4, false, [], 0, 0, 0, 0, 0, []),
  (37, .iconst 2, false, [], 0, 0, 0, 0, 2, []),
  (38, .iload_n 3, false, [], 0, 0, 0, 0, 0, []),
  (39, .invokevirtual 97, false, [], 139, 3, 0, 7, 0, []),
  (42, .aload_n 0, false, [], 0, 0, 0, 0, 0, []),
  (43, .iload 4, false, [], 0, 0, 0, 0, 0, []),
  (45, .iconst 3, false, [], 0, 0, 0, 0, 3, []),
  (46, .iconst 0, false, [], 0, 0, 0, 0, 0, []),
  (47, .invokevirtual 97, false, [], 139, 3, 0, 7, 0, []),
  (50, .aload_n 0, false, [], 0, 0, 0, 0, 0, []),
  (51, .iload 4, false, [], 0, 0, 0, 0, 0, []),
  (53, .iconst 4, false, [], 0, 0, 0, 0, 4, []),
  (54, .iconst 0, false, [], 0, 0, 0, 0, 0, []),
  (55, .invokevirtual 97, false, [], 139, 3, 0, 7, 0, []),
  (58, .aload_n 0, false, [], 0, 0, 0, 0, 0, []),
  (59, .iload 4, false, [], 0, 0, 0, 0, 0, []),
  (61, .iconst 5, false, [], 0, 0, 0, 0, 5, []),
  (62, .iconst 0, false, [], 0, 0, 0, 0, 0, []),
  (63, .invokevirtual 97, false, [], 139, 3, 0, 7, 0, []),
  (66, .iload 4, false, [], 0, 0, 0, 0, 0, []),
  (68, .ireturn, false, [], 0, 0, 0, 0, 0, [])]
def kk_X7_leg : List mx_I := [
  (0, .iload_n 1, false, [], 0, 0, 0, 0, 0, []),
  (1, .iconst 0, false, [], 0, 0, 0, 0, 0, []),
  (2, .iconst 5, false, [], 0, 0, 0, 0, 5, []),
  (3, .invokestatic 75, false, [], 133, 3, 1, 0, 0, []),
  (6, .ifCond .eq 23, false, [], 29, 0, 0, 0, 0, []),
  (9, .iload_n 2, false, [], 0, 0, 0, 0, 0, []),
  (10, .iconst 0, false, [], 0, 0, 0, 0, 0, []),
  (11, .bipush 59, false, [], 0, 0, 0, 0, 59, []),
  (13, .invokestatic 75, false, [], 133, 3, 1, 0, 0, []),
  (16, .ifCond .eq 13, false, [], 29, 0, 0, 0, 0, []),
  (19, .iload_n 3, false, [], 0, 0, 0, 0, 0, []),
  (20, .iconst 0, false, [], 0, 0, 0, 0, 0, []),
  (21, .bipush 99, false, [], 0, 0, 0, 0, 99, []),
  (23, .invokestatic 75, false, [], 133, 3, 1, 0, 0, []),
  (26, .ifCond .ne 6, false, [], 32, 0, 0, 0, 0, []),
  (29, .ldc 101, false, [], 0, 0, 0, 0, (-1000000001), []),
  (31, .ireturn, false, [], 0, 0, 0, 0, 0, []),
  (32, .aload_n 0, false, [], 0, 0, 0, 0, 0, []),
  (33, .getfield 9, false, [], 7, 0, 1, 0, 0, []),
  (36, .iconst 1, false, [], 0, 0, 0, 0, 1, []),
  (37, .iaload, false, [], 0, 0, 0, 0, 0, []),
  (38, .bipush 10, false, [], 0, 0, 0, 0, 10, []),
  (40, .if_icmp .ne 8, false, [], 48, 0, 0, 0, 0, []),
  (43, .ldc 102, false, [], 0, 0, 0, 0, (-1000000003), []),
  (45, .goto 10, false, [], 55, 0, 0, 0, 0, []),
  (48, .aload_n 0, false, [], 0, 0, 0, 0, 0, []),
  (49, .iload_n 1, false, [], 0, 0, 0, 0, 0, []),
  (50, .iload_n 2, false, [], 0, 0, 0, 0, 0, []),
  (51, .iload_n 3, false, [], 0, 0, 0, 0, 0, []),
  (52, .invokevirtual 103, false, [], 147, 3, 1, 7, 0, []),
  (55, .ireturn, false, [], 0, 0, 0, 0, 0, [])]
def kk_X7_told : List mx_I := [
  (0, .aload_n 0, false, [], 0, 0, 0, 0, 0, []),
  (1, .iload_n 1, false, [], 0, 0, 0, 0, 0, []),
  (2, .invokevirtual 106, false, [], 137, 1, 1, 7, 0, []),
  (5, .ifCond .eq 13, false, [], 18, 0, 0, 0, 0, []),
  (8, .iload_n 2, false, [], 0, 0, 0, 0, 0, []),
  (9, .iconst 0, false, [], 0, 0, 0, 0, 0, []),
  (10, .bipush 9, false, [], 0, 0, 0, 0, 9, []),
  (12, .invokestatic 75, false, [], 133, 3, 1, 0, 0, []),
  (15, .ifCond .ne 6, false, [], 21, 0, 0, 0, 0, []),
  (18, .ldc 101, false, [], 0, 0, 0, 0, (-1000000001), []),
  (20, .ireturn, false, [], 0, 0, 0, 0, 0, []),
  (21, .iload_n 2, false, [], 0, 0, 0, 0, 0, []),
  (22, .tableswitch 54 6 9 #[30, 36, 42, 48], false, [], 76, 30, 0, 0, 0, [(6, 52), (7, 58), (8, 64), (9, 70)]),
  (52, .aload_n 0, false, [], 0, 0, 0, 0, 0, []),
  (53, .iload_n 1, false, [], 0, 0, 0, 0, 0, []),
  (54, .invokevirtual 110, false, [], 143, 1, 1, 7, 0, []),
  (57, .ireturn, false, [], 0, 0, 0, 0, 0, []),
  (58, .aload_n 0, false, [], 0, 0, 0, 0, 0, []),
  (59, .iload_n 1, false, [], 0, 0, 0, 0, 0, []),
  (60, .invokevirtual 113, false, [], 144, 1, 1, 7, 0, []),
  (63, .ireturn, false, [], 0, 0, 0, 0, 0, []),
  (64, .aload_n 0, false, [], 0, 0, 0, 0, 0, []),
  (65, .iload_n 1, false, [], 0, 0, 0, 0, 0, []),
  (66, .invokevirtual 116, false, [], 145, 1, 1, 7, 0, []),
  (69, .ireturn, false, [], 0, 0, 0, 0, 0, []),
  (70, .aload_n 0, false, [], 0, 0, 0, 0, 0, []),
  (71, .iload_n 1, false, [], 0, 0, 0, 0, 0, []),
  (72, .invokevirtual 119, false, [], 146, 1, 1, 7, 0, []),
  (75, .ireturn, false, [], 0, 0, 0, 0, 0, []),
  (76, .aload_n 0, false, [], 0, 0, 0, 0, 0, []),
  (77, .iload_n 1, false, [], 0, 0, 0, 0, 0, []),
  (78, .iload_n 2, false, [], 0, 0, 0, 0, 0, []),
  (79, .invokevirtual 83, false, [], 138, 2, 1, 7, 0, []),
  (82, .ireturn, false, [], 0, 0, 0, 0, 0, [])]
def kk_X7_isUnder : List mx_I := [
  (0, .iload_n 1, false, [], 0, 0, 0, 0, 0, []),
  (1, .ifCond .eq 28, false, [], 29, 0, 0, 0, 0, []),
  (4, .iload_n 0, false, [], 0, 0, 0, 0, 0, []),
  (5, .iload_n 1, false, [], 0, 0, 0, 0, 0, []),
  (6, .if_icmp .eq 23, false, [], 29, 0, 0, 0, 0, []),
  (9, .iload_n 1, false, [], 0, 0, 0, 0, 0, []),
  (10, .iconst 1, false, [], 0, 0, 0, 0, 1, []),
  (11, .if_icmp .ne 8, false, [], 19, 0, 0, 0, 0, []),
  (14, .iload_n 0, false, [], 0, 0, 0, 0, 0, []),
  (15, .iconst 3, false, [], 0, 0, 0, 0, 3, []),
  (16, .if_icmp .eq 13, false, [], 29, 0, 0, 0, 0, []),
  (19, .iload_n 1, false, [], 0, 0, 0, 0, 0, []),
  (20, .iconst 2, false, [], 0, 0, 0, 0, 2, []),
  (21, .if_icmp .ne 12, false, [], 33, 0, 0, 0, 0, []),
  (24, .iload_n 0, false, [], 0, 0, 0, 0, 0, []),
  (25, .iconst 4, false, [], 0, 0, 0, 0, 4, []),
  (26, .if_icmp .ne 7, false, [], 33, 0, 0, 0, 0, []),
  (29, .iconst 1, false, [], 0, 0, 0, 0, 1, []),
  (30, .goto 4, false, [], 34, 0, 0, 0, 0, []),
  (33, .iconst 0, false, [], 0, 0, 0, 0, 0, []),
  (34, .ireturn, false, [], 0, 0, 0, 1, 0, [])]
def kk_X7_as : List mx_I := [
  (0, .aload_n 0, false, [], 0, 0, 0, 0, 0, []),
  (1, .iload_n 1, false, [], 0, 0, 0, 0, 0, []),
  (2, .invokevirtual 106, false, [], 137, 1, 1, 7, 0, []),
  (5, .ifCond .eq 12, false, [], 17, 0, 0, 0, 0, []),
  (8, .iload_n 2, false, [], 0, 0, 0, 0, 0, []),
  (9, .iconst 0, false, [], 0, 0, 0, 0, 0, []),
  (10, .iconst 5, false, [], 0, 0, 0, 0, 5, []),
  (11, .invokestatic 75, false, [], 133, 3, 1, 0, 0, []),
  (14, .ifCond .ne 6, false, [], 20, 0, 0, 0, 0, []),
  (17, .ldc 101, false, [], 0, 0, 0, 0, (-1000000001), []),
  (19, .ireturn, false, [], 0, 0, 0, 0, 0, []),
  (20, .aload_n 0, false, [], 0, 0, 0, 0, 0, []),
  (21, .iload_n 1, false, [], 0, 0, 0, 0, 0, []),
  (22, .iconst 0, false, [], 0, 0, 0, 0, 0, []),
  (23, .invokevirtual 83, false, [], 138, 2, 1, 7, 0, []),
  (26, .iload_n 2, false, [], 0, 0, 0, 0, 0, []),
  (27, .invokestatic 122, false, [], 150, 2, 1, 0, 0, []),
  (30, .ifCond .eq 12, false, [], 42, 0, 0, 0, 0, []),
  (33, .aload_n 0, false, [], 0, 0, 0, 0, 0, []),
  (34, .iload_n 1, false, [], 0, 0, 0, 0, 0, []),
  (35, .iconst 1, false, [], 0, 0, 0, 0, 1, []),
  (36, .invokevirtual 83, false, [], 138, 2, 1, 7, 0, []),
  (39, .goto 5, false, [], 44, 0, 0, 0, 0, []),
  (42, .ldc 126, false, [], 0, 0, 0, 0, (-1000000012), []),
  (44, .ireturn, false, [], 0, 0, 0, 0, 0, [])]
def kk_X7_turns : List mx_I := [
  (0, .aload_n 0, false, [], 0, 0, 0, 0, 0, []),
  (1, .iload_n 1, false, [], 0, 0, 0, 0, 0, []),
  (2, .invokevirtual 106, false, [], 137, 1, 1, 7, 0, []),
  (5, .ifCond .eq 27, false, [], 32, 0, 0, 0, 0, []),
  (8, .iload_n 2, false, [], 0, 0, 0, 0, 0, []),
  (9, .iconst 0, false, [], 0, 0, 0, 0, 0, []),
  (10, .iconst 5, false, [], 0, 0, 0, 0, 5, []),
  (11, .invokestatic 75, false, [], 133, 3, 1, 0, 0, []),
  (14, .ifCond .eq 18, false, [], 32, 0, 0, 0, 0, []),
  (17, .aload_n 0, false, [], 0, 0, 0, 0, 0, []),
  (18, .bipush 11, false, [], 0, 0, 0, 0, 11, []),
  (20, .bipush 6, false, [], 0, 0, 0, 0, 6, []),
  (22, .iload_n 1, false, [], 0, 0, 0, 0, 0, []),
  (23, .imul, false, [], 0, 0, 0, 0, 0, []),
  (24, .iadd, false, [], 0, 0, 0, 0, 0, []),
  (25, .iload_n 2, false, [], 0, 0, 0, 0, 0, []),
  (26, .invokevirtual 127, false, [], 140, 2, 1, 7, 0, []),
  (29, .goto 5, false, [], 34, 0, 0, 0, 0, []),
  (32, .ldc 101, false, [], 0, 0, 0, 0, (-1000000001), []),
  (34, .ireturn, false, [], 0, 0, 0, 0, 0, [])]
def kk_X7_set : List mx_I := [
  (0, .aload_n 0, false, [], 0, 0, 0, 0, 0, []),
  (1, .iload_n 1, false, [], 0, 0, 0, 0, 0, []),
  (2, .invokevirtual 106, false, [], 137, 1, 1, 7, 0, []),
  (5, .ifCond .eq 46, false, [], 51, 0, 0, 0, 0, []),
  (8, .iload_n 2, false, [], 0, 0, 0, 0, 0, []),
  (9, .iconst 1, false, [], 0, 0, 0, 0, 1, []),
  (10, .iconst 5, false, [], 0, 0, 0, 0, 5, []),
  (11, .invokestatic 75, false, [], 133, 3, 1, 0, 0, []),
  (14, .ifCond .eq 37, false, [], 51, 0, 0, 0, 0, []),
  (17, .iload_n 3, false, [], 0, 0, 0, 0, 0, []),
  (18, .iconst 0, false, [], 0, 0, 0, 0, 0, []),
  (19, .iload_n 2, false, [], 0, 0, 0, 0, 0, []),
  (20, .iconst 1, false, [], 0, 0, 0, 0, 1, []),
  (21, .if_icmp .ne 8, false, [], 29, 0, 0, 0, 0, []),
  (24, .bipush 59, false, [], 0, 0, 0, 0, 59, []),
  (26, .goto 15, false, [], 41, 0, 0, 0, 0, []),
  (29, .iload_n 2, false, [], 0, 0, 0, 0, 0, []),
  (30, .iconst 5, false, [], 0, 0, 0, 0, 5, []),
  (31, .if_icmp .ne 8, false, [], 39, 0, 0, 0, 0, []),
  (34, .bipush 9, false, [], 0, 0, 0, 0, 9, []),
  (36, .goto 5, false, [], 41, 0, 0, 0, 0, []),
  (39, .bipush 99, false, [], 0, 0, 0, 0, 99, []),
  (41, .invokestatic 75, false, [], 133, 3, 1, 0, 0, []),
  (44, .ifCond .eq 7, false, [], 51, 0, 0, 0, 0, []),
  (47, .iconst 1, false, [], 0, 0, 0, 0, 1, []),
  (48, .goto 4, false, [], 52, 0, 0, 0, 0, []),
  (51, .iconst 0, false, [], 0, 0, 0, 0, 0, []),
  (52, .istore 4, false, [], 0, 0, 0, 0, 0, []),
  (54, .iload 4, false, [], 0, 0, 0, 0, 0, []),
  (56, .ifCond .eq 20, false, [], 76, 0, 0, 0, 0, []),
  (59, .aload_n 0, false, [], 0, 0, 0, 0, 0, []),
  (60, .bipush 11, false, [], 0, 0, 0, 0, 11, []),
  (62, .bipush 6, false, [], 0, 0, 0, 0, 6, []),
  (64, .iload_n 1, false, [], 0, 0, 0, 0, 0, []),
  (65, .imul, false, [], 0, 0, 0, 0, 0, []),
  (66, .iadd, false, [], 0, 0, 0, 0, 0, []),
  (67, .iload_n 2, false, [], 0, 0, 0, 0, 0, []),
  (68, .iadd, false, [], 0, 0, 0, 0, 0, []),
  (69, .iload_n 3, false, [], 0, 0, 0, 0, 0, []),
  (70, .invokevirtual 127, false, [], 140, 2, 1, 7, 0, []),
  (73, .goto 5, false, [], 78, 0, 0, 0, 0, []),
  (76, .ldc 101, false, [], 0, 0, 0, 0, (-1000000001), []),
  (78, .ireturn, false, [], 0, 0, 0, 0, 0, [])]
def kk_X7_presses : List mx_I := [
  (0, .aload_n 0, false, [], 0, 0, 0, 0, 0, []),
  (1, .iload_n 1, false, [], 0, 0, 0, 0, 0, []),
  (2, .invokevirtual 110, false, [], 143, 1, 1, 7, 0, []),
  (5, .istore_n 3, false, [], 0, 0, 0, 0, 0, []),
  (6, .iload_n 2, false, [], 0, 0, 0, 0, 0, []),
  (7, .invokestatic 130, false, [], 141, 1, 1, 0, 0, []),
  (10, .aload_n 0, false, [], 0, 0, 0, 0, 0, []),
  (11, .getfield 9, false, [], 7, 0, 1, 0, 0, []),
  (14, .iconst 4, false, [], 0, 0, 0, 0, 4, []),
  (15, .iaload, false, [], 0, 0, 0, 0, 0, []),
  (16, .if_icmp .gt 7, false, [], 23, 0, 0, 0, 0, []),
  (19, .iconst 1, false, [], 0, 0, 0, 0, 1, []),
  (20, .goto 4, false, [], 24, 0, 0, 0, 0, []),
  (23, .iconst 0, false, [], 0, 0, 0, 0, 0, []),
  (24, .istore 4, false, [], 0, 0, 0, 0, 0, []),
  (26, .iload 4, false, [], 0, 0, 0, 0, 0, []),
  (28, .ifCond .eq 40, false, [], 68, 0, 0, 0, 0, []),
  (31, .aload_n 0, false, [], 0, 0, 0, 0, 0, []),
  (32, .iload_n 1, false, [], 0, 0, 0, 0, 0, []),
  (33, .iconst 3, false, [], 0, 0, 0, 0, 3, []),
  (34, .aload_n 0, false, [], 0, 0, 0, 0, 0, []),
  (35, .iload_n 1, false, [], 0, 0, 0, 0, 0, []),
  (36, .iconst 3, false, [], 0, 0, 0, 0, 3, []),
  (37, .invokevirtual 83, false, [], 138, 2, 1, 7, 0, []),
  (40, .iconst 2, false, [], 0, 0, 0, 0, 2, []),
  (41, .idiv, false, [], 0, 0, 0, 0, 0, []),
  (42, .invokevirtual 97, false, [], 139, 3, 0, 7, 0, []),
  (45, .aload_n 0, false, [], 0, 0, 0, 0, 0, []),
  (46, .iload_n 1, false, [], 0, 0, 0, 0, 0, []),
  (47, .iconst 5, false, [], 0, 0, 0, 0, 5, []),
  (48, .aload_n 0, false, [], 0, 0, 0, 0, 0, []),
  (49, .iload_n 1, false, [], 0, 0, 0, 0, 0, []),
  (50, .iconst 5, false, [], 0, 0, 0, 0, 5, []),
  (51, .invokevirtual 83, false, [], 138, 2, 1, 7, 0, []),
  (54, .iconst 1, false, [], 0, 0, 0, 0, 1, []),
  (55, .iadd, false, [], 0, 0, 0, 0, 0, []),
  (56, .iconst 0, false, [], 0, 0, 0, 0, 0, []),
  (57, .bipush 9, false, [], 0, 0, 0, 0, 9, []),
  (59, .invokestatic 90, false, [], 134, 3, 1, 0, 0, []),
  (62, .invokevirtual 97, false, [], 139, 3, 0, 7, 0, []),
  (65, .goto 53, false, [], 118, 0, 0, 0, 0, []),
  (68, .aload_n 0, false, [], 0, 0, 0, 0, 0, []),
  (69, .iload_n 1, false, [], 0, 0, 0, 0, 0, []),
  (70, .iconst 3, false, [], 0, 0, 0, 0, 3, []),
  (71, .aload_n 0, false, [], 0, 0, 0, 0, 0, []),
  (72, .iload_n 1, false, [], 0, 0, 0, 0, 0, []),
  (73, .iconst 2, false, [], 0, 0, 0, 0, 2, []),
  (74, .invokevirtual 83, false, [], 138, 2, 1, 7, 0, []),
  (77, .invokevirtual 97, false, [], 139, 3, 0, 7, 0, []),
  (80, .aload_n 0, false, [], 0, 0, 0, 0, 0, []),
  (81, .iload_n 1, false, [], 0, 0, 0, 0, 0, []),
  (82, .iconst 1, false, [], 0, 0, 0, 0, 1, []),
  (83, .aload_n 0, false, [], 0, 0, 0, 0, 0, []),
  (84, .iload_n 1, false, [], 0, 0, 0, 0, 0, []),
  (85, .iconst 1, false, [], 0, 0, 0, 0, 1, []),
  (86, .invokevirtual 83, false, [], 138, 2, 1, 7, 0, []),
  (89, .iload_n 2, false, [], 0, 0, 0, 0, 0, []),
  (90, .iadd, false, [], 0, 0, 0, 0, 0, []),
  (91, .bipush 60, false, [], 0, 0, 0, 0, 60, []),
  (93, .iadd, false, [], 0, 0, 0, 0, 0, []),
  (94, .bipush 60, false, [], 0, 0, 0, 0, 60, []),
  (96, .irem, false, [], 0, 0, 0, 0, 0, []),
  (97, .invokevirtual 97, false, [], 139, 3, 0, 7, 0, []),
  (100, .aload_n 0, false, [], 0, 0, 0, 0, 0, []),
  (101, .iload_n 1, false, [], 0, 0, 0, 0, 0, []),
  (102, .iconst 5, false, [], 0, 0, 0, 0, 5, []),
  (103, .iconst 1, false, [], 0, 0, 0, 0, 1, []),
  (104, .invokevirtual 97, false, [], 139, 3, 0, 7, 0, []),
  (107, .aload_n 0, false, [], 0, 0, 0, 0, 0, []),
  (108, .getfield 9, false, [], 7, 0, 1, 0, 0, []),
  (111, .bipush 8, false, [], 0, 0, 0, 0, 8, []),
  (113, .dup2, false, [], 0, 0, 0, 0, 0, []),
  (114, .iaload, false, [], 0, 0, 0, 0, 0, []),
  (115, .iconst 1, false, [], 0, 0, 0, 0, 1, []),
  (116, .iadd, false, [], 0, 0, 0, 0, 0, []),
  (117, .iastore, false, [], 0, 0, 0, 0, 0, []),
  (118, .aload_n 0, false, [], 0, 0, 0, 0, 0, []),
  (119, .iload_n 1, false, [], 0, 0, 0, 0, 0, []),
  (120, .iconst 2, false, [], 0, 0, 0, 0, 2, []),
  (121, .iload_n 3, false, [], 0, 0, 0, 0, 0, []),
  (122, .invokevirtual 97, false, [], 139, 3, 0, 7, 0, []),
  (125, .aload_n 0, false, [], 0, 0, 0, 0, 0, []),
  (126, .iload_n 1, false, [], 0, 0, 0, 0, 0, []),
  (127, .iconst 4, false, [], 0, 0, 0, 0, 4, []),
  (128, .aload_n 0, false, [], 0, 0, 0, 0, 0, []),
  (129, .iload_n 1, false, [], 0, 0, 0, 0, 0, []),
  (130, .iconst 4, false, [], 0, 0, 0, 0, 4, []),
  (131, .invokevirtual 83, false, [], 138, 2, 1, 7, 0, []),
  (134, .iconst 2, false, [], 0, 0, 0, 0, 2, []),
  (135, .idiv, false, [], 0, 0, 0, 0, 0, []),
  (136, .invokevirtual 97, false, [], 139, 3, 0, 7, 0, []),
  (139, .aload_n 0, false, [], 0, 0, 0, 0, 0, []),
  (140, .getfield 9, false, [], 7, 0, 1, 0, 0, []),
  (143, .bipush 7, false, [], 0, 0, 0, 0, 7, []),
  (145, .dup2, false, [], 0, 0, 0, 0, 0, []),
  (146, .iaload, false, [], 0, 0, 0, 0, 0, []),
  (147, .iconst 1, false, [], 0, 0, 0, 0, 1, []),
  (148, .iadd, false, [], 0, 0, 0, 0, 0, []),
  (149, .iastore, false, [], 0, 0, 0, 0, 0, []),
  (150, .iload 4, false, [], 0, 0, 0, 0, 0, []),
  (152, .ifCond .eq 7, false, [], 159, 0, 0, 0, 0, []),
  (155, .iconst 1, false, [], 0, 0, 0, 0, 1, []),
  (156, .goto 4, false, [], 160, 0, 0, 0, 0, []),
  (159, .iconst 0, false, [], 0, 0, 0, 0, 0, []),
  (160, .ireturn, false, [], 0, 0, 0, 0, 0, [])]
def kk_X7_irons : List mx_I := [
  (0, .aload_n 0, false, [], 0, 0, 0, 0, 0, []),
  (1, .iload_n 1, false, [], 0, 0, 0, 0, 0, []),
  (2, .invokevirtual 106, false, [], 137, 1, 1, 7, 0, []),
  (5, .ifCond .eq 22, false, [], 27, 0, 0, 0, 0, []),
  (8, .iload_n 2, false, [], 0, 0, 0, 0, 0, []),
  (9, .bipush (-3), false, [], 0, 0, 0, 0, (-3), []),
  (11, .iconst 3, false, [], 0, 0, 0, 0, 3, []),
  (12, .invokestatic 75, false, [], 133, 3, 1, 0, 0, []),
  (15, .ifCond .eq 12, false, [], 27, 0, 0, 0, 0, []),
  (18, .aload_n 0, false, [], 0, 0, 0, 0, 0, []),
  (19, .iload_n 1, false, [], 0, 0, 0, 0, 0, []),
  (20, .iload_n 2, false, [], 0, 0, 0, 0, 0, []),
  (21, .invokevirtual 133, false, [], 154, 2, 1, 7, 0, []),
  (24, .goto 5, false, [], 29, 0, 0, 0, 0, []),
  (27, .ldc 101, false, [], 0, 0, 0, 0, (-1000000001), []),
  (29, .ireturn, false, [], 0, 0, 0, 0, 0, [])]
def kk_X7_rule : List mx_I := [
  (0, .iload_n 1, false, [], 0, 0, 0, 0, 0, []),
  (1, .iconst 0, false, [], 0, 0, 0, 0, 0, []),
  (2, .iconst 3, false, [], 0, 0, 0, 0, 3, []),
  (3, .invokestatic 75, false, [], 133, 3, 1, 0, 0, []),
  (6, .ifCond .eq 35, false, [], 41, 0, 0, 0, 0, []),
  (9, .iload_n 2, false, [], 0, 0, 0, 0, 0, []),
  (10, .iconst 0, false, [], 0, 0, 0, 0, 0, []),
  (11, .iload_n 1, false, [], 0, 0, 0, 0, 0, []),
  (12, .ifCond .ne 8, false, [], 20, 0, 0, 0, 0, []),
  (15, .bipush 100, false, [], 0, 0, 0, 0, 100, []),
  (17, .goto 14, false, [], 31, 0, 0, 0, 0, []),
  (20, .iload_n 1, false, [], 0, 0, 0, 0, 0, []),
  (21, .iconst 1, false, [], 0, 0, 0, 0, 1, []),
  (22, .if_icmp .ne 7, false, [], 29, 0, 0, 0, 0, []),
  (25, .iconst 3, false, [], 0, 0, 0, 0, 3, []),
  (26, .goto 5, false, [], 31, 0, 0, 0, 0, []),
  (29, .bipush 99, false, [], 0, 0, 0, 0, 99, []),
  (31, .invokestatic 75, false, [], 133, 3, 1, 0, 0, []),
  (34, .ifCond .eq 7, false, [], 41, 0, 0, 0, 0, []),
  (37, .iconst 1, false, [], 0, 0, 0, 0, 1, []),
  (38, .goto 4, false, [], 42, 0, 0, 0, 0, []),
  (41, .iconst 0, false, [], 0, 0, 0, 0, 0, []),
  (42, .istore_n 3, false, [], 0, 0, 0, 0, 0, []),
  (43, .iload_n 3, false, [], 0, 0, 0, 0, 0, []),
  (44, .ifCond .eq 14, false, [], 58, 0, 0, 0, 0, []),
  (47, .aload_n 0, false, [], 0, 0, 0, 0, 0, []),
  (48, .iconst 3, false, [], 0, 0, 0, 0, 3, []),
  (49, .iload_n 1, false, [], 0, 0, 0, 0, 0, []),
  (50, .iadd, false, [], 0, 0, 0, 0, 0, []),
  (51, .iload_n 2, false, [], 0, 0, 0, 0, 0, []),
  (52, .invokevirtual 127, false, [], 140, 2, 1, 7, 0, []),
  (55, .goto 5, false, [], 60, 0, 0, 0, 0, []),
  (58, .ldc 101, false, [], 0, 0, 0, 0, (-1000000001), []),
  (60, .ireturn, false, [], 0, 0, 0, 0, 0, [])]
def kk_X7_draw : List mx_I := [
  (0, .aload_n 0, false, [], 0, 0, 0, 0, 0, []),
  (1, .getfield 9, false, [], 7, 0, 1, 0, 0, []),
  (4, .iconst 0, false, [], 0, 0, 0, 0, 0, []),
  (5, .aload_n 0, false, [], 0, 0, 0, 0, 0, []),
  (6, .getfield 9, false, [], 7, 0, 1, 0, 0, []),
  (9, .iconst 0, false, [], 0, 0, 0, 0, 0, []),
  (10, .iaload, false, [], 0, 0, 0, 0, 0, []),
  (11, .ldc 136, false, [], 0, 0, 0, 0, 1103515245, []),
  (13, .imul, false, [], 0, 0, 0, 0, 0, []),
  (14, .sipush 12345, false, [], 0, 0, 0, 0, 12345, []),
  (17, .iadd, false, [], 0, 0, 0, 0, 0, []),
  (18, .iastore, false, [], 0, 0, 0, 0, 0, []),
  (19, .aload_n 0, false, [], 0, 0, 0, 0, 0, []),
  (20, .getfield 9, false, [], 7, 0, 1, 0, 0, []),
  (23, .iconst 0, false, [], 0, 0, 0, 0, 0, []),
  (24, .iaload, false, [], 0, 0, 0, 0, 0, []),
  (25, .bipush 8, false, [], 0, 0, 0, 0, 8, []),
  (27, .iushr, false, [], 0, 0, 0, 0, 0, []),
  (28, .ireturn, false, [], 0, 0, 0, 0, 0, [])]
def kk_X7_deal : List mx_I := [
  (0, .iload_n 1, false, [], 0, 0, 0, 0, 0, []),
  (1, .iconst 1, false, [], 0, 0, 0, 0, 1, []),
  (2, .bipush 10, false, [], 0, 0, 0, 0, 10, []),
  (4, .invokestatic 75, false, [], 133, 3, 1, 0, 0, []),
  (7, .ifCond .ne 6, false, [], 13, 0, 0, 0, 0, []),
  (10, .ldc 101, false, [], 0, 0, 0, 0, (-1000000001), []),
  (12, .ireturn, false, [], 0, 0, 0, 0, 0, []),
  (13, .iconst 0, false, [], 0, 0, 0, 0, 0, []),
  (14, .istore_n 2, false, [], 0, 0, 0, 0, 0, []),
  (15, .iload_n 2, true, [0, 1, 2], 0, 0, 0, 0, 0, []),
  (16, .iload_n 1, false, [], 0, 0, 0, 0, 0, []),
  (17, .if_icmp .ge 53, false, [], 70, 0, 0, 0, 0, []),
  (20, .aload_n 0, false, [], 0, 0, 0, 0, 0, []),
  (21, .getfield 9, false, [], 7, 0, 1, 0, 0, []),
  (24, .iconst 1, false, [], 0, 0, 0, 0, 1, []),
  (25, .iaload, false, [], 0, 0, 0, 0, 0, []),
  (26, .bipush 10, false, [], 0, 0, 0, 0, 10, []),
  (28, .if_icmp .ge 42, false, [], 70, 0, 0, 0, 0, []),
  (31, .aload_n 0, false, [], 0, 0, 0, 0, 0, []),
  (32, .invokevirtual 137, false, [], 157, 0, 1, 7, 0, []),
  (35, .bipush 6, false, [], 0, 0, 0, 0, 6, []),
  (37, .irem, false, [], 0, 0, 0, 0, 0, []),
  (38, .istore_n 3, false, [], 0, 0, 0, 0, 0, []),
  (39, .aload_n 0, false, [], 0, 0, 0, 0, 0, []),
  (40, .invokevirtual 137, false, [], 157, 0, 1, 7, 0, []),
  (43, .bipush 60, false, [], 0, 0, 0, 0, 60, []),
  (45, .irem, false, [], 0, 0, 0, 0, 0, []),
  (46, .istore 4, false, [], 0, 0, 0, 0, 0, []),
  (48, .aload_n 0, false, [], 0, 0, 0, 0, 0, []),
  (49, .iload_n 3, false, [], 0, 0, 0, 0, 0, []),
  (50, .iload 4, false, [], 0, 0, 0, 0, 0, []),
  (52, .aload_n 0, false, [], 0, 0, 0, 0, 0, []),
  (53, .invokevirtual 137, false, [], 157, 0, 1, 7, 0, []),
  (56, .bipush 100, false, [], 0, 0, 0, 0, 100, []),
  (58, .irem, false, [], 0, 0, 0, 0, 0, []),
  (59, .invokevirtual 103, false, [], 147, 3, 1, 7, 0, []),
  (62, .istore 5, false, [], 0, 0, 0, 0, 0, []),
  (64, .iinc 2 1, false, [], 0, 0, 0, 0, 1, []),
  (67, .goto (-52), false, [], 15, 0, 0, 0, 0, []),
  (70, .iload_n 2, false, [], 0, 0, 0, 0, 0, []),
  (71, .ireturn, false, [], 0, 0, 0, 0, 0, [])]
def kk_X7_seed : List mx_I := [
  (0, .aload_n 0, false, [], 0, 0, 0, 0, 0, []),
  (1, .iconst 0, false, [], 0, 0, 0, 0, 0, []),
  (2, .iload_n 1, false, [], 0, 0, 0, 0, 0, []),
  (3, .invokevirtual 127, false, [], 140, 2, 1, 7, 0, []),
  (6, .ireturn, false, [], 0, 0, 0, 0, 0, [])]
def kk_X7_dullest : List mx_I := [
  (0, .iconst (-1), false, [], 0, 0, 0, 0, (-1), []),
  (1, .istore_n 1, false, [], 0, 0, 0, 0, 0, []),
  (2, .iconst 0, false, [], 0, 0, 0, 0, 0, []),
  (3, .istore_n 2, false, [], 0, 0, 0, 0, 0, []),
  (4, .iload_n 2, true, [0, 1, 2], 0, 0, 0, 0, 0, []),
  (5, .aload_n 0, false, [], 0, 0, 0, 0, 0, []),
  (6, .getfield 9, false, [], 7, 0, 1, 0, 0, []),
  (9, .iconst 1, false, [], 0, 0, 0, 0, 1, []),
  (10, .iaload, false, [], 0, 0, 0, 0, 0, []),
  (11, .if_icmp .ge 34, false, [], 45, 0, 0, 0, 0, []),
  (14, .iload_n 1, false, [], 0, 0, 0, 0, 0, []),
  (15, .ifCond .lt 18, false, [], 33, 0, 0, 0, 0, []),
  (18, .aload_n 0, false, [], 0, 0, 0, 0, 0, []),
  (19, .iload_n 2, false, [], 0, 0, 0, 0, 0, []),
  (20, .iconst 2, false, [], 0, 0, 0, 0, 2, []),
  (21, .invokevirtual 83, false, [], 138, 2, 1, 7, 0, []),
  (24, .aload_n 0, false, [], 0, 0, 0, 0, 0, []),
  (25, .iload_n 1, false, [], 0, 0, 0, 0, 0, []),
  (26, .iconst 2, false, [], 0, 0, 0, 0, 2, []),
  (27, .invokevirtual 83, false, [], 138, 2, 1, 7, 0, []),
  (30, .if_icmp .ge 7, false, [], 37, 0, 0, 0, 0, []),
  (33, .iload_n 2, false, [], 0, 0, 0, 0, 0, []),
  (34, .goto 4, false, [], 38, 0, 0, 0, 0, []),
  (37, .iload_n 1, false, [], 0, 0, 0, 0, 0, []),
  (38, .istore_n 1, false, [], 0, 0, 0, 0, 0, []),
  (39, .iinc 2 1, false, [], 0, 0, 0, 0, 1, []),
  (42, .goto (-38), false, [], 4, 0, 0, 0, 0, []),
  (45, .iload_n 1, false, [], 0, 0, 0, 0, 0, []),
  (46, .ireturn, false, [], 0, 0, 0, 0, 0, [])]
def kk_X7_isWorn : List mx_I := [
  (0, .aload_n 0, false, [], 0, 0, 0, 0, 0, []),
  (1, .iload_n 1, false, [], 0, 0, 0, 0, 0, []),
  (2, .iconst 2, false, [], 0, 0, 0, 0, 2, []),
  (3, .invokevirtual 83, false, [], 138, 2, 1, 7, 0, []),
  (6, .aload_n 0, false, [], 0, 0, 0, 0, 0, []),
  (7, .iload_n 1, false, [], 0, 0, 0, 0, 0, []),
  (8, .invokevirtual 113, false, [], 144, 1, 1, 7, 0, []),
  (11, .isub, false, [], 0, 0, 0, 0, 0, []),
  (12, .iconst 0, false, [], 0, 0, 0, 0, 0, []),
  (13, .bipush 99, false, [], 0, 0, 0, 0, 99, []),
  (15, .invokestatic 90, false, [], 134, 3, 1, 0, 0, []),
  (18, .istore_n 2, false, [], 0, 0, 0, 0, 0, []),
  (19, .aload_n 0, false, [], 0, 0, 0, 0, 0, []),
  (20, .iload_n 1, false, [], 0, 0, 0, 0, 0, []),
  (21, .iconst 4, false, [], 0, 0, 0, 0, 4, []),
  (22, .invokevirtual 83, false, [], 138, 2, 1, 7, 0, []),
  (25, .aload_n 0, false, [], 0, 0, 0, 0, 0, []),
  (26, .iload_n 1, false, [], 0, 0, 0, 0, 0, []),
  (27, .invokevirtual 116, false, [], 145, 1, 1, 7, 0, []),
  (30, .iadd, false, [], 0, 0, 0, 0, 0, []),
  (31, .iconst 0, false, [], 0, 0, 0, 0, 0, []),
  (32, .bipush 99, false, [], 0, 0, 0, 0, 99, []),
  (34, .invokestatic 90, false, [], 134, 3, 1, 0, 0, []),
  (37, .istore_n 3, false, [], 0, 0, 0, 0, 0, []),
  (38, .iconst 0, false, [], 0, 0, 0, 0, 0, []),
  (39, .istore 4, false, [], 0, 0, 0, 0, 0, []),
  (41, .iload 4, true, [0, 1, 2, 3, 4], 0, 0, 0, 0, 0, []),
  (43, .aload_n 0, false, [], 0, 0, 0, 0, 0, []),
  (44, .getfield 9, false, [], 7, 0, 1, 0, 0, []),
  (47, .iconst 1, false, [], 0, 0, 0, 0, 1, []),
  (48, .iaload, false, [], 0, 0, 0, 0, 0, []),
  (49, .if_icmp .ge 31, false, [], 80, 0, 0, 0, 0, []),
  (52, .aload_n 0, false, [], 0, 0, 0, 0, 0, []),
  (53, .iload 4, false, [], 0, 0, 0, 0, 0, []),
  (55, .iconst 4, false, [], 0, 0, 0, 0, 4, []),
  (56, .aload_n 0, false, [], 0, 0, 0, 0, 0, []),
  (57, .iload 4, false, [], 0, 0, 0, 0, 0, []),
  (59, .iconst 4, false, [], 0, 0, 0, 0, 4, []),
  (60, .invokevirtual 83, false, [], 138, 2, 1, 7, 0, []),
  (63, .iconst 2, false, [], 0, 0, 0, 0, 2, []),
  (64, .isub, false, [], 0, 0, 0, 0, 0, []),
  (65, .iconst 0, false, [], 0, 0, 0, 0, 0, []),
  (66, .bipush 99, false, [], 0, 0, 0, 0, 99, []),
  (68, .invokestatic 90, false, [], 134, 3, 1, 0, 0, []),
  (71, .invokevirtual 97, false, [], 139, 3, 0, 7, 0, []),
  (74, .iinc 4 1, false, [], 0, 0, 0, 0, 1, []),
  (77, .goto (-36), false, [], 41, 0, 0, 0, 0, []),
  (80, .aload_n 0, false, [], 0, 0, 0, 0, 0, []),
  (81, .iload_n 1, false, [], 0, 0, 0, 0, 0, []),
  (82, .iconst 2, false, [], 0, 0, 0, 0, 2, []),
  (83, .iload_n 2, false, [], 0, 0, 0, 0, 0, []),
  (84, .invokevirtual 97, false, [], 139, 3, 0, 7, 0, []),
  (87, .aload_n 0, false, [], 0, 0, 0, 0, 0, []),
  (88, .iload_n 1, false, [], 0, 0, 0, 0, 0, []),
  (89, .iconst 4, false, [], 0, 0, 0, 0, 4, []),
  (90, .iload_n 3, false, [], 0, 0, 0, 0, 0, []),
  (91, .invokevirtual 97, false, [], 139, 3, 0, 7, 0, []),
  (94, .return_, false, [], 0, 0, 0, 0, 0, [])]
def kk_X7_day : List mx_I := [
  (0, .aload_n 0, false, [], 0, 0, 0, 0, 0, []),
  (1, .getfield 9, false, [], 7, 0, 1, 0, 0, []),
  (4, .iconst 1, false, [], 0, 0, 0, 0, 1, []),
  (5, .iaload, false, [], 0, 0, 0, 0, 0, []),
  (6, .istore_n 1, false, [], 0, 0, 0, 0, 0, []),
  (7, .iload_n 1, false, [], 0, 0, 0, 0, 0, []),
  (8, .ifCond .ne 7, false, [], 15, 0, 0, 0, 0, []),
  (11, .iconst (-1), false, [], 0, 0, 0, 0, (-1), []),
  (12, .goto 11, false, [], 23, 0, 0, 0, 0, []),
  (15, .aload_n 0, false, [], 0, 0, 0, 0, 0, []),
  (16, .getfield 9, false, [], 7, 0, 1, 0, 0, []),
  (19, .iconst 2, false, [], 0, 0, 0, 0, 2, []),
  (20, .iaload, false, [], 0, 0, 0, 0, 0, []),
  (21, .iload_n 1, false, [], 0, 0, 0, 0, 0, []),
  (22, .irem, false, [], 0, 0, 0, 0, 0, []),
  (23, .istore_n 2, false, [], 0, 0, 0, 0, 0, []),
  (24, .iload_n 2, false, [], 0, 0, 0, 0, 0, []),
  (25, .ifCond .lt 8, false, [], 33, 0, 0, 0, 0, []),
  (28, .aload_n 0, false, [], 0, 0, 0, 0, 0, []),
  (29, .iload_n 2, false, [], 0, 0, 0, 0, 0, []),
  (30, .invokevirtual 141, false, [], 161, 1, 0, 7, 0, []),
  (33, .aload_n 0, false, [], 0, 0, 0, 0, 0, []),
  (34, .invokevirtual 137, false, [], 157, 0, 1, 7, 0, []),
  (37, .bipush 100, false, [], 0, 0, 0, 0, 100, []),
  (39, .irem, false, [], 0, 0, 0, 0, 0, []),
  (40, .aload_n 0, false, [], 0, 0, 0, 0, 0, []),
  (41, .getfield 9, false, [], 7, 0, 1, 0, 0, []),
  (44, .iconst 3, false, [], 0, 0, 0, 0, 3, []),
  (45, .iaload, false, [], 0, 0, 0, 0, 0, []),
  (46, .if_icmp .ge 7, false, [], 53, 0, 0, 0, 0, []),
  (49, .iconst 1, false, [], 0, 0, 0, 0, 1, []),
  (50, .goto 4, false, [], 54, 0, 0, 0, 0, []),
  (53, .iconst 0, false, [], 0, 0, 0, 0, 0, []),
  (54, .istore_n 3, false, [], 0, 0, 0, 0, 0, []),
  (55, .iload_n 3, false, [], 0, 0, 0, 0, 0, []),
  (56, .ifCond .eq 46, false, [], 102, 0, 0, 0, 0, []),
  (59, .iload_n 2, false, [], 0, 0, 0, 0, 0, []),
  (60, .ifCond .lt 42, false, [], 102, 0, 0, 0, 0, []),
  (63, .aload_n 0, false, [], 0, 0, 0, 0, 0, []),
  (64, .iload_n 2, false, [], 0, 0, 0, 0, 0, []),
  (65, .iconst 2, false, [], 0, 0, 0, 0, 2, []),
  (66, .aload_n 0, false, [], 0, 0, 0, 0, 0, []),
  (67, .iload_n 2, false, [], 0, 0, 0, 0, 0, []),
  (68, .iconst 2, false, [], 0, 0, 0, 0, 2, []),
  (69, .invokevirtual 83, false, [], 138, 2, 1, 7, 0, []),
  (72, .iconst 2, false, [], 0, 0, 0, 0, 2, []),
  (73, .idiv, false, [], 0, 0, 0, 0, 0, []),
  (74, .invokevirtual 97, false, [], 139, 3, 0, 7, 0, []),
  (77, .aload_n 0, false, [], 0, 0, 0, 0, 0, []),
  (78, .iload_n 2, false, [], 0, 0, 0, 0, 0, []),
  (79, .iconst 3, false, [], 0, 0, 0, 0, 3, []),
  (80, .aload_n 0, false, [], 0, 0, 0, 0, 0, []),
  (81, .iload_n 2, false, [], 0, 0, 0, 0, 0, []),
  (82, .iconst 3, false, [], 0, 0, 0, 0, 3, []),
  (83, .invokevirtual 83, false, [], 138, 2, 1, 7, 0, []),
  (86, .iconst 2, false, [], 0, 0, 0, 0, 2, []),
  (87, .idiv, false, [], 0, 0, 0, 0, 0, []),
  (88, .invokevirtual 97, false, [], 139, 3, 0, 7, 0, []),
  (91, .aload_n 0, false, [], 0, 0, 0, 0, 0, []),
  (92, .getfield 9, false, [], 7, 0, 1, 0, 0, []),
  (95, .bipush 9, false, [], 0, 0, 0, 0, 9, []),
  (97, .dup2, false, [], 0, 0, 0, 0, 0, []),
  (98, .iaload, false, [], 0, 0, 0, 0, 0, []),
  (99, .iconst 1, false, [], 0, 0, 0, 0, 1, []),
  (100, .iadd, false, [], 0, 0, 0, 0, 0, []),
  (101, .iastore, false, [], 0, 0, 0, 0, 0, []),
  (102, .aload_n 0, false, [], 0, 0, 0, 0, 0, []),
  (103, .invokevirtual 145, false, [], 160, 0, 1, 7, 0, []),
  (106, .istore 4, false, [], 0, 0, 0, 0, 0, []),
  (108, .iload 4, false, [], 0, 0, 0, 0, 0, []),
  (110, .ifCond .lt 36, false, [], 146, 0, 0, 0, 0, []),
  (113, .aload_n 0, false, [], 0, 0, 0, 0, 0, []),
  (114, .iload 4, false, [], 0, 0, 0, 0, 0, []),
  (116, .iconst 2, false, [], 0, 0, 0, 0, 2, []),
  (117, .invokevirtual 83, false, [], 138, 2, 1, 7, 0, []),
  (120, .aload_n 0, false, [], 0, 0, 0, 0, 0, []),
  (121, .getfield 9, false, [], 7, 0, 1, 0, 0, []),
  (124, .iconst 5, false, [], 0, 0, 0, 0, 5, []),
  (125, .iaload, false, [], 0, 0, 0, 0, 0, []),
  (126, .if_icmp .ge 20, false, [], 146, 0, 0, 0, 0, []),
  (129, .aload_n 0, false, [], 0, 0, 0, 0, 0, []),
  (130, .iload 4, false, [], 0, 0, 0, 0, 0, []),
  (132, .aload_n 0, false, [], 0, 0, 0, 0, 0, []),
  (133, .invokevirtual 137, false, [], 157, 0, 1, 7, 0, []),
  (136, .bipush 7, false, [], 0, 0, 0, 0, 7, []),
  (138, .irem, false, [], 0, 0, 0, 0, 0, []),
  (139, .iconst 3, false, [], 0, 0, 0, 0, 3, []),
  (140, .isub, false, [], 0, 0, 0, 0, 0, []),
  (141, .invokevirtual 133, false, [], 154, 2, 1, 7, 0, []),
  (144, .istore 5, false, [], 0, 0, 0, 0, 0, []),
  (146, .aload_n 0, false, [], 0, 0, 0, 0, 0, []),
  (147, .getfield 9, false, [], 7, 0, 1, 0, 0, []),
  (150, .iconst 2, false, [], 0, 0, 0, 0, 2, []),
  (151, .dup2, false, [], 0, 0, 0, 0, 0, []),
  (152, .iaload, false, [], 0, 0, 0, 0, 0, []),
  (153, .iconst 1, false, [], 0, 0, 0, 0, 1, []),
  (154, .iadd, false, [], 0, 0, 0, 0, 0, []),
  (155, .iastore, false, [], 0, 0, 0, 0, 0, []),
  (156, .return_, false, [], 0, 0, 0, 0, 0, [])]
def kk_X7_goesOn : List mx_I := [
  (0, .iconst 0, false, [], 0, 0, 0, 0, 0, []),
  (1, .istore_n 2, false, [], 0, 0, 0, 0, 0, []),
  (2, .iload_n 2, true, [0, 1, 2], 0, 0, 0, 0, 0, []),
  (3, .iload_n 1, false, [], 0, 0, 0, 0, 0, []),
  (4, .if_icmp .ge 13, false, [], 17, 0, 0, 0, 0, []),
  (7, .aload_n 0, false, [], 0, 0, 0, 0, 0, []),
  (8, .invokevirtual 148, false, [], 162, 0, 0, 7, 0, []),
  (11, .iinc 2 1, false, [], 0, 0, 0, 0, 1, []),
  (14, .goto (-12), false, [], 2, 0, 0, 0, 0, []),
  (17, .return_, false, [], 0, 0, 0, 0, 0, [])]
def kk_X7_days : List mx_I := [
  (0, .iload_n 1, false, [], 0, 0, 0, 0, 0, []),
  (1, .iconst 1, false, [], 0, 0, 0, 0, 1, []),
  (2, .bipush 100, false, [], 0, 0, 0, 0, 100, []),
  (4, .invokestatic 75, false, [], 133, 3, 1, 0, 0, []),
  (7, .ifCond .ne 6, false, [], 13, 0, 0, 0, 0, []),
  (10, .ldc 101, false, [], 0, 0, 0, 0, (-1000000001), []),
  (12, .ireturn, false, [], 0, 0, 0, 0, 0, []),
  (13, .aload_n 0, false, [], 0, 0, 0, 0, 0, []),
  (14, .getfield 9, false, [], 7, 0, 1, 0, 0, []),
  (17, .bipush 7, false, [], 0, 0, 0, 0, 7, []),
  (19, .iaload, false, [], 0, 0, 0, 0, 0, []),
  (20, .istore_n 2, false, [], 0, 0, 0, 0, 0, []),
  (21, .aload_n 0, false, [], 0, 0, 0, 0, 0, []),
  (22, .sipush 9999, false, [], 0, 0, 0, 0, 9999, []),
  (25, .aload_n 0, false, [], 0, 0, 0, 0, 0, []),
  (26, .getfield 9, false, [], 7, 0, 1, 0, 0, []),
  (29, .iconst 2, false, [], 0, 0, 0, 0, 2, []),
  (30, .iaload, false, [], 0, 0, 0, 0, 0, []),
  (31, .isub, false, [], 0, 0, 0, 0, 0, []),
  (32, .iconst 0, false, [], 0, 0, 0, 0, 0, []),
  (33, .iload_n 1, false, [], 0, 0, 0, 0, 0, []),
  (34, .invokestatic 90, false, [], 134, 3, 1, 0, 0, []),
  (37, .invokevirtual 151, false, [], 163, 1, 0, 7, 0, []),
  (40, .aload_n 0, false, [], 0, 0, 0, 0, 0, []),
  (41, .getfield 9, false, [], 7, 0, 1, 0, 0, []),
  (44, .bipush 7, false, [], 0, 0, 0, 0, 7, []),
  (46, .iaload, false, [], 0, 0, 0, 0, 0, []),
  (47, .iload_n 2, false, [], 0, 0, 0, 0, 0, []),
  (48, .isub, false, [], 0, 0, 0, 0, 0, []),
  (49, .ireturn, false, [], 0, 0, 0, 0, 0, [])]
def kk_X7_allSharp : List mx_I := [
  (0, .iconst 0, false, [], 0, 0, 0, 0, 0, []),
  (1, .istore_n 1, false, [], 0, 0, 0, 0, 0, []),
  (2, .iconst 0, false, [], 0, 0, 0, 0, 0, []),
  (3, .istore_n 2, false, [], 0, 0, 0, 0, 0, []),
  (4, .iload_n 2, true, [0, 1, 2], 0, 0, 0, 0, 0, []),
  (5, .aload_n 0, false, [], 0, 0, 0, 0, 0, []),
  (6, .getfield 9, false, [], 7, 0, 1, 0, 0, []),
  (9, .iconst 1, false, [], 0, 0, 0, 0, 1, []),
  (10, .iaload, false, [], 0, 0, 0, 0, 0, []),
  (11, .if_icmp .ge 18, false, [], 29, 0, 0, 0, 0, []),
  (14, .iload_n 1, false, [], 0, 0, 0, 0, 0, []),
  (15, .aload_n 0, false, [], 0, 0, 0, 0, 0, []),
  (16, .iload_n 2, false, [], 0, 0, 0, 0, 0, []),
  (17, .iconst 2, false, [], 0, 0, 0, 0, 2, []),
  (18, .invokevirtual 83, false, [], 138, 2, 1, 7, 0, []),
  (21, .iadd, false, [], 0, 0, 0, 0, 0, []),
  (22, .istore_n 1, false, [], 0, 0, 0, 0, 0, []),
  (23, .iinc 2 1, false, [], 0, 0, 0, 0, 1, []),
  (26, .goto (-22), false, [], 4, 0, 0, 0, 0, []),
  (29, .iload_n 1, false, [], 0, 0, 0, 0, 0, []),
  (30, .ireturn, false, [], 0, 0, 0, 0, 0, [])]
def kk_X7_doubled : List mx_I := [
  (0, .iconst 0, false, [], 0, 0, 0, 0, 0, []),
  (1, .istore_n 1, false, [], 0, 0, 0, 0, 0, []),
  (2, .iconst 0, false, [], 0, 0, 0, 0, 0, []),
  (3, .istore_n 2, false, [], 0, 0, 0, 0, 0, []),
  (4, .iload_n 2, true, [0, 1, 2], 0, 0, 0, 0, 0, []),
  (5, .aload_n 0, false, [], 0, 0, 0, 0, 0, []),
  (6, .getfield 9, false, [], 7, 0, 1, 0, 0, []),
  (9, .iconst 1, false, [], 0, 0, 0, 0, 1, []),
  (10, .iaload, false, [], 0, 0, 0, 0, 0, []),
  (11, .if_icmp .ge 28, false, [], 39, 0, 0, 0, 0, []),
  (14, .iload_n 1, false, [], 0, 0, 0, 0, 0, []),
  (15, .aload_n 0, false, [], 0, 0, 0, 0, 0, []),
  (16, .iload_n 2, false, [], 0, 0, 0, 0, 0, []),
  (17, .iconst 3, false, [], 0, 0, 0, 0, 3, []),
  (18, .invokevirtual 83, false, [], 138, 2, 1, 7, 0, []),
  (21, .ifCond .le 9, false, [], 30, 0, 0, 0, 0, []),
  (24, .iconst 1, false, [], 0, 0, 0, 0, 1, []),
  (25, .iload_n 2, false, [], 0, 0, 0, 0, 0, []),
  (26, .ishl, false, [], 0, 0, 0, 0, 0, []),
  (27, .goto 4, false, [], 31, 0, 0, 0, 0, []),
  (30, .iconst 0, false, [], 0, 0, 0, 0, 0, []),
  (31, .ior, false, [], 0, 0, 0, 0, 0, []),
  (32, .istore_n 1, false, [], 0, 0, 0, 0, 0, []),
  (33, .iinc 2 1, false, [], 0, 0, 0, 0, 1, []),
  (36, .goto (-32), false, [], 4, 0, 0, 0, 0, []),
  (39, .iload_n 1, false, [], 0, 0, 0, 0, 0, []),
  (40, .ireturn, false, [], 0, 0, 0, 0, 0, [])]
def kk_X7_closet : List mx_I := [
  (0, .iload_n 1, false, [], 0, 0, 0, 0, 0, []),
  (1, .tableswitch 78 0 5 #[39, 39, 39, 49, 54, 59], false, [], 79, 39, 0, 0, 0, [(0, 40), (1, 40), (2, 40), (3, 50), (4, 55), (5, 60)]),
  (40, .aload_n 0, false, [], 0, 0, 0, 0, 0, []),
  (41, .getfield 9, false, [], 7, 0, 1, 0, 0, []),
  (44, .bipush 7, false, [], 0, 0, 0, 0, 7, []),
  (46, .iload_n 1, false, [], 0, 0, 0, 0, 0, []),
  (47, .iadd, false, [], 0, 0, 0, 0, 0, []),
  (48, .iaload, false, [], 0, 0, 0, 0, 0, []),
  (49, .ireturn, false, [], 0, 0, 0, 0, 0, []),
  (50, .aload_n 0, false, [], 0, 0, 0, 0, 0, []),
  (51, .invokevirtual 154, false, [], 165, 0, 1, 7, 0, []),
  (54, .ireturn, false, [], 0, 0, 0, 0, 0, []),
  (55, .aload_n 0, false, [], 0, 0, 0, 0, 0, []),
  (56, .invokevirtual 157, false, [], 166, 0, 1, 7, 0, []),
  (59, .ireturn, false, [], 0, 0, 0, 0, 0, []),
  (60, .aload_n 0, false, [], 0, 0, 0, 0, 0, []),
  (61, .getfield 9, false, [], 7, 0, 1, 0, 0, []),
  (64, .iconst 1, false, [], 0, 0, 0, 0, 1, []),
  (65, .iaload, false, [], 0, 0, 0, 0, 0, []),
  (66, .ifCond .ne 8, false, [], 74, 0, 0, 0, 0, []),
  (69, .ldc 160, false, [], 0, 0, 0, 0, (-1000000005), []),
  (71, .goto 7, false, [], 78, 0, 0, 0, 0, []),
  (74, .aload_n 0, false, [], 0, 0, 0, 0, 0, []),
  (75, .invokevirtual 145, false, [], 160, 0, 1, 7, 0, []),
  (78, .ireturn, false, [], 0, 0, 0, 0, 0, []),
  (79, .ldc 101, false, [], 0, 0, 0, 0, (-1000000001), []),
  (81, .ireturn, false, [], 0, 0, 0, 0, 0, [])]
def kk_X7_thinks : List mx_I := [
  (0, .aload_n 0, false, [], 0, 0, 0, 0, 0, []),
  (1, .getfield 9, false, [], 7, 0, 1, 0, 0, []),
  (4, .aload_n 0, false, [], 0, 0, 0, 0, 0, []),
  (5, .getfield 16, false, [], 7, 2, 1, 0, 0, []),
  (8, .invokestatic 161, false, [], 135, 2, 0, 0, 0, []),
  (11, .return_, false, [], 0, 0, 0, 0, 0, [])]
def kk_X7_putsBack : List mx_I := [
  (0, .aload_n 0, false, [], 0, 0, 0, 0, 0, []),
  (1, .getfield 16, false, [], 7, 2, 1, 0, 0, []),
  (4, .aload_n 0, false, [], 0, 0, 0, 0, 0, []),
  (5, .getfield 9, false, [], 7, 0, 1, 0, 0, []),
  (8, .invokestatic 161, false, [], 135, 2, 0, 0, 0, []),
  (11, .return_, false, [], 0, 0, 0, 0, 0, [])]
def kk_X7_behind : List mx_I := [
  (0, .iload_n 1, false, [], 0, 0, 0, 0, 0, []),
  (1, .iconst 0, false, [], 0, 0, 0, 0, 0, []),
  (2, .bipush 100, false, [], 0, 0, 0, 0, 100, []),
  (4, .invokestatic 75, false, [], 133, 3, 1, 0, 0, []),
  (7, .ifCond .eq 19, false, [], 26, 0, 0, 0, 0, []),
  (10, .iload_n 2, false, [], 0, 0, 0, 0, 0, []),
  (11, .iconst 0, false, [], 0, 0, 0, 0, 0, []),
  (12, .iconst 2, false, [], 0, 0, 0, 0, 2, []),
  (13, .aload_n 0, false, [], 0, 0, 0, 0, 0, []),
  (14, .getfield 9, false, [], 7, 0, 1, 0, 0, []),
  (17, .iconst 1, false, [], 0, 0, 0, 0, 1, []),
  (18, .iaload, false, [], 0, 0, 0, 0, 0, []),
  (19, .iadd, false, [], 0, 0, 0, 0, 0, []),
  (20, .invokestatic 75, false, [], 133, 3, 1, 0, 0, []),
  (23, .ifCond .ne 6, false, [], 29, 0, 0, 0, 0, []),
  (26, .ldc 101, false, [], 0, 0, 0, 0, (-1000000001), []),
  (28, .ireturn, false, [], 0, 0, 0, 0, 0, []),
  (29, .aload_n 0, false, [], 0, 0, 0, 0, 0, []),
  (30, .invokevirtual 165, false, [], 168, 0, 0, 7, 0, []),
  (33, .aload_n 0, false, [], 0, 0, 0, 0, 0, []),
  (34, .iload_n 1, false, [], 0, 0, 0, 0, 0, []),
  (35, .invokevirtual 151, false, [], 163, 1, 0, 7, 0, []),
  (38, .iload_n 2, false, [], 0, 0, 0, 0, 0, []),
  (39, .iconst 2, false, [], 0, 0, 0, 0, 2, []),
  (40, .if_icmp .ge 15, false, [], 55, 0, 0, 0, 0, []),
  (43, .aload_n 0, false, [], 0, 0, 0, 0, 0, []),
  (44, .getfield 9, false, [], 7, 0, 1, 0, 0, []),
  (47, .bipush 7, false, [], 0, 0, 0, 0, 7, []),
  (49, .iload_n 2, false, [], 0, 0, 0, 0, 0, []),
  (50, .iadd, false, [], 0, 0, 0, 0, 0, []),
  (51, .iaload, false, [], 0, 0, 0, 0, 0, []),
  (52, .goto 26, false, [], 78, 0, 0, 0, 0, []),
  (55, .iload_n 2, false, [], 0, 0, 0, 0, 0, []),
  (56, .iconst 2, false, [], 0, 0, 0, 0, 2, []),
  (57, .if_icmp .ne 13, false, [], 70, 0, 0, 0, 0, []),
  (60, .aload_n 0, false, [], 0, 0, 0, 0, 0, []),
  (61, .invokevirtual 157, false, [], 166, 0, 1, 7, 0, []),
  (64, .invokestatic 168, false, [], 136, 1, 1, 0, 0, []),
  (67, .goto 11, false, [], 78, 0, 0, 0, 0, []),
  (70, .aload_n 0, false, [], 0, 0, 0, 0, 0, []),
  (71, .iload_n 2, false, [], 0, 0, 0, 0, 0, []),
  (72, .iconst 3, false, [], 0, 0, 0, 0, 3, []),
  (73, .isub, false, [], 0, 0, 0, 0, 0, []),
  (74, .iconst 2, false, [], 0, 0, 0, 0, 2, []),
  (75, .invokevirtual 83, false, [], 138, 2, 1, 7, 0, []),
  (78, .istore_n 3, false, [], 0, 0, 0, 0, 0, []),
  (79, .aload_n 0, false, [], 0, 0, 0, 0, 0, []),
  (80, .invokevirtual 171, false, [], 169, 0, 0, 7, 0, []),
  (83, .iload_n 3, false, [], 0, 0, 0, 0, 0, []),
  (84, .ireturn, false, [], 0, 0, 0, 0, 0, [])]
def kk_X7_dulls : List mx_I := [
  (0, .aload_n 0, false, [], 0, 0, 0, 0, 0, []),
  (1, .iload_n 1, false, [], 0, 0, 0, 0, 0, []),
  (2, .invokevirtual 106, false, [], 137, 1, 1, 7, 0, []),
  (5, .ifCond .eq 13, false, [], 18, 0, 0, 0, 0, []),
  (8, .iload_n 2, false, [], 0, 0, 0, 0, 0, []),
  (9, .iconst 0, false, [], 0, 0, 0, 0, 0, []),
  (10, .bipush 99, false, [], 0, 0, 0, 0, 99, []),
  (12, .invokestatic 75, false, [], 133, 3, 1, 0, 0, []),
  (15, .ifCond .ne 6, false, [], 21, 0, 0, 0, 0, []),
  (18, .ldc 101, false, [], 0, 0, 0, 0, (-1000000001), []),
  (20, .ireturn, false, [], 0, 0, 0, 0, 0, []),
  (21, .aload_n 0, false, [], 0, 0, 0, 0, 0, []),
  (22, .invokevirtual 165, false, [], 168, 0, 0, 7, 0, []),
  (25, .iconst 0, false, [], 0, 0, 0, 0, 0, []),
  (26, .istore_n 3, false, [], 0, 0, 0, 0, 0, []),
  (27, .iload_n 3, true, [0, 1, 2, 3], 0, 0, 0, 0, 0, []),
  (28, .sipush 200, false, [], 0, 0, 0, 0, 200, []),
  (31, .if_icmp .gt 23, false, [], 54, 0, 0, 0, 0, []),
  (34, .aload_n 0, false, [], 0, 0, 0, 0, 0, []),
  (35, .iload_n 1, false, [], 0, 0, 0, 0, 0, []),
  (36, .iconst 2, false, [], 0, 0, 0, 0, 2, []),
  (37, .invokevirtual 83, false, [], 138, 2, 1, 7, 0, []),
  (40, .iload_n 2, false, [], 0, 0, 0, 0, 0, []),
  (41, .if_icmp .lt 13, false, [], 54, 0, 0, 0, 0, []),
  (44, .aload_n 0, false, [], 0, 0, 0, 0, 0, []),
  (45, .invokevirtual 148, false, [], 162, 0, 0, 7, 0, []),
  (48, .iinc 3 1, false, [], 0, 0, 0, 0, 1, []),
  (51, .goto (-24), false, [], 27, 0, 0, 0, 0, []),
  (54, .aload_n 0, false, [], 0, 0, 0, 0, 0, []),
  (55, .invokevirtual 171, false, [], 169, 0, 0, 7, 0, []),
  (58, .iload_n 3, false, [], 0, 0, 0, 0, 0, []),
  (59, .sipush 200, false, [], 0, 0, 0, 0, 200, []),
  (62, .if_icmp .le 8, false, [], 70, 0, 0, 0, 0, []),
  (65, .ldc 160, false, [], 0, 0, 0, 0, (-1000000005), []),
  (67, .goto 4, false, [], 71, 0, 0, 0, 0, []),
  (70, .iload_n 3, false, [], 0, 0, 0, 0, 0, []),
  (71, .ireturn, false, [], 0, 0, 0, 0, 0, [])]
def kk_X7_doubles : List mx_I := [
  (0, .aload_n 0, false, [], 0, 0, 0, 0, 0, []),
  (1, .iload_n 1, false, [], 0, 0, 0, 0, 0, []),
  (2, .invokevirtual 106, false, [], 137, 1, 1, 7, 0, []),
  (5, .ifCond .ne 6, false, [], 11, 0, 0, 0, 0, []),
  (8, .ldc 101, false, [], 0, 0, 0, 0, (-1000000001), []),
  (10, .ireturn, false, [], 0, 0, 0, 0, 0, []),
  (11, .aload_n 0, false, [], 0, 0, 0, 0, 0, []),
  (12, .invokevirtual 165, false, [], 168, 0, 0, 7, 0, []),
  (15, .iconst 0, false, [], 0, 0, 0, 0, 0, []),
  (16, .istore_n 2, false, [], 0, 0, 0, 0, 0, []),
  (17, .iload_n 2, true, [0, 1, 2], 0, 0, 0, 0, 0, []),
  (18, .sipush 200, false, [], 0, 0, 0, 0, 200, []),
  (21, .if_icmp .gt 22, false, [], 43, 0, 0, 0, 0, []),
  (24, .aload_n 0, false, [], 0, 0, 0, 0, 0, []),
  (25, .iload_n 1, false, [], 0, 0, 0, 0, 0, []),
  (26, .iconst 3, false, [], 0, 0, 0, 0, 3, []),
  (27, .invokevirtual 83, false, [], 138, 2, 1, 7, 0, []),
  (30, .ifCond .ne 13, false, [], 43, 0, 0, 0, 0, []),
  (33, .aload_n 0, false, [], 0, 0, 0, 0, 0, []),
  (34, .invokevirtual 148, false, [], 162, 0, 0, 7, 0, []),
  (37, .iinc 2 1, false, [], 0, 0, 0, 0, 1, []),
  (40, .goto (-23), false, [], 17, 0, 0, 0, 0, []),
  (43, .aload_n 0, false, [], 0, 0, 0, 0, 0, []),
  (44, .invokevirtual 171, false, [], 169, 0, 0, 7, 0, []),
  (47, .iload_n 2, false, [], 0, 0, 0, 0, 0, []),
  (48, .sipush 200, false, [], 0, 0, 0, 0, 200, []),
  (51, .if_icmp .le 8, false, [], 59, 0, 0, 0, 0, []),
  (54, .ldc 160, false, [], 0, 0, 0, 0, (-1000000005), []),
  (56, .goto 4, false, [], 60, 0, 0, 0, 0, []),
  (59, .iload_n 2, false, [], 0, 0, 0, 0, 0, []),
  (60, .ireturn, false, [], 0, 0, 0, 0, 0, [])]
def kk_X7_isCaredFor : List mx_I := [
  (0, .iconst 0, false, [], 0, 0, 0, 0, 0, []),
  (1, .istore_n 3, false, [], 0, 0, 0, 0, 0, []),
  (2, .iload_n 3, true, [0, 1, 2, 3], 0, 0, 0, 0, 0, []),
  (3, .aload_n 0, false, [], 0, 0, 0, 0, 0, []),
  (4, .getfield 9, false, [], 7, 0, 1, 0, 0, []),
  (7, .iconst 1, false, [], 0, 0, 0, 0, 1, []),
  (8, .iaload, false, [], 0, 0, 0, 0, 0, []),
  (9, .if_icmp .ge 34, false, [], 43, 0, 0, 0, 0, []),
  (12, .aload_n 0, false, [], 0, 0, 0, 0, 0, []),
  (13, .iload_n 3, false, [], 0, 0, 0, 0, 0, []),
  (14, .iconst 0, false, [], 0, 0, 0, 0, 0, []),
  (15, .iload_n 1, false, [], 0, 0, 0, 0, 0, []),
  (16, .iload_n 3, false, [], 0, 0, 0, 0, 0, []),
  (17, .ishr, false, [], 0, 0, 0, 0, 0, []),
  (18, .iconst 1, false, [], 0, 0, 0, 0, 1, []),
  (19, .iand, false, [], 0, 0, 0, 0, 0, []),
  (20, .iconst 1, false, [], 0, 0, 0, 0, 1, []),
  (21, .if_icmp .ne 7, false, [], 28, 0, 0, 0, 0, []),
  (24, .iconst 3, false, [], 0, 0, 0, 0, 3, []),
  (25, .goto 9, false, [], 34, 0, 0, 0, 0, []),
  (28, .aload_n 0, false, [], 0, 0, 0, 0, 0, []),
  (29, .iload_n 3, false, [], 0, 0, 0, 0, 0, []),
  (30, .iconst 0, false, [], 0, 0, 0, 0, 0, []),
  (31, .invokevirtual 83, false, [], 138, 2, 1, 7, 0, []),
  (34, .invokevirtual 97, false, [], 139, 3, 0, 7, 0, []),
  (37, .iinc 3 1, false, [], 0, 0, 0, 0, 1, []),
  (40, .goto (-38), false, [], 2, 0, 0, 0, 0, []),
  (43, .aload_n 0, false, [], 0, 0, 0, 0, 0, []),
  (44, .iload_n 2, false, [], 0, 0, 0, 0, 0, []),
  (45, .invokevirtual 151, false, [], 163, 1, 0, 7, 0, []),
  (48, .aload_n 0, false, [], 0, 0, 0, 0, 0, []),
  (49, .invokevirtual 145, false, [], 160, 0, 1, 7, 0, []),
  (52, .istore_n 3, false, [], 0, 0, 0, 0, 0, []),
  (53, .iload_n 3, false, [], 0, 0, 0, 0, 0, []),
  (54, .ifCond .lt 18, false, [], 72, 0, 0, 0, 0, []),
  (57, .aload_n 0, false, [], 0, 0, 0, 0, 0, []),
  (58, .iload_n 3, false, [], 0, 0, 0, 0, 0, []),
  (59, .iconst 2, false, [], 0, 0, 0, 0, 2, []),
  (60, .invokevirtual 83, false, [], 138, 2, 1, 7, 0, []),
  (63, .aload_n 0, false, [], 0, 0, 0, 0, 0, []),
  (64, .getfield 9, false, [], 7, 0, 1, 0, 0, []),
  (67, .iconst 5, false, [], 0, 0, 0, 0, 5, []),
  (68, .iaload, false, [], 0, 0, 0, 0, 0, []),
  (69, .if_icmp .lt 7, false, [], 76, 0, 0, 0, 0, []),
  (72, .iconst 1, false, [], 0, 0, 0, 0, 1, []),
  (73, .goto 4, false, [], 77, 0, 0, 0, 0, []),
  (76, .iconst 0, false, [], 0, 0, 0, 0, 0, []),
  (77, .istore 4, false, [], 0, 0, 0, 0, 0, []),
  (79, .aload_n 0, false, [], 0, 0, 0, 0, 0, []),
  (80, .invokevirtual 171, false, [], 169, 0, 0, 7, 0, []),
  (83, .iload 4, false, [], 0, 0, 0, 0, 0, []),
  (85, .ireturn, false, [], 0, 0, 0, 1, 0, [])]
def kk_X7_wax : List mx_I := [
  (0, .iload_n 1, false, [], 0, 0, 0, 0, 0, []),
  (1, .iconst 0, false, [], 0, 0, 0, 0, 0, []),
  (2, .bipush 20, false, [], 0, 0, 0, 0, 20, []),
  (4, .invokestatic 75, false, [], 133, 3, 1, 0, 0, []),
  (7, .ifCond .ne 6, false, [], 13, 0, 0, 0, 0, []),
  (10, .ldc 101, false, [], 0, 0, 0, 0, (-1000000001), []),
  (12, .ireturn, false, [], 0, 0, 0, 0, 0, []),
  (13, .aload_n 0, false, [], 0, 0, 0, 0, 0, []),
  (14, .invokevirtual 165, false, [], 168, 0, 0, 7, 0, []),
  (17, .ldc 160, false, [], 0, 0, 0, 0, (-1000000005), []),
  (19, .istore_n 2, false, [], 0, 0, 0, 0, 0, []),
  (20, .iconst 0, false, [], 0, 0, 0, 0, 0, []),
  (21, .istore_n 3, false, [], 0, 0, 0, 0, 0, []),
  (22, .iload_n 3, true, [0, 1, 2, 3], 0, 0, 0, 0, 0, []),
  (23, .iconst 1, false, [], 0, 0, 0, 0, 1, []),
  (24, .aload_n 0, false, [], 0, 0, 0, 0, 0, []),
  (25, .getfield 9, false, [], 7, 0, 1, 0, 0, []),
  (28, .iconst 1, false, [], 0, 0, 0, 0, 1, []),
  (29, .iaload, false, [], 0, 0, 0, 0, 0, []),
  (30, .ishl, false, [], 0, 0, 0, 0, 0, []),
  (31, .if_icmp .ge 53, false, [], 84, 0, 0, 0, 0, []),
  (34, .iload_n 2, false, [], 0, 0, 0, 0, 0, []),
  (35, .ldc 160, false, [], 0, 0, 0, 0, (-1000000005), []),
  (37, .if_icmp .eq 14, false, [], 51, 0, 0, 0, 0, []),
  (40, .iload_n 3, false, [], 0, 0, 0, 0, 0, []),
  (41, .invokestatic 168, false, [], 136, 1, 1, 0, 0, []),
  (44, .iload_n 2, false, [], 0, 0, 0, 0, 0, []),
  (45, .invokestatic 168, false, [], 136, 1, 1, 0, 0, []),
  (48, .if_icmp .ge 7, false, [], 55, 0, 0, 0, 0, []),
  (51, .iconst 1, false, [], 0, 0, 0, 0, 1, []),
  (52, .goto 4, false, [], 56, 0, 0, 0, 0, []),
  (55, .iconst 0, false, [], 0, 0, 0, 0, 0, []),
  (56, .istore 4, false, [], 0, 0, 0, 0, 0, []),
  (58, .iload 4, false, [], 0, 0, 0, 0, 0, []),
  (60, .ifCond .eq 16, false, [], 76, 0, 0, 0, 0, []),
  (63, .aload_n 0, false, [], 0, 0, 0, 0, 0, []),
  (64, .iload_n 3, false, [], 0, 0, 0, 0, 0, []),
  (65, .iload_n 1, false, [], 0, 0, 0, 0, 0, []),
  (66, .invokevirtual 174, false, [], 173, 2, 1, 7, 0, []),
  (69, .ifCond .eq 7, false, [], 76, 0, 0, 0, 0, []),
  (72, .iload_n 3, false, [], 0, 0, 0, 0, 0, []),
  (73, .goto 4, false, [], 77, 0, 0, 0, 0, []),
  (76, .iload_n 2, false, [], 0, 0, 0, 0, 0, []),
  (77, .istore_n 2, false, [], 0, 0, 0, 0, 0, []),
  (78, .iinc 3 1, false, [], 0, 0, 0, 0, 1, []),
  (81, .goto (-59), false, [], 22, 0, 0, 0, 0, []),
  (84, .iload_n 2, false, [], 0, 0, 0, 0, 0, []),
  (85, .ireturn, false, [], 0, 0, 0, 0, 0, [])]
def kk_X7_sharpOn : List mx_I := [
  (0, .aload_n 0, false, [], 0, 0, 0, 0, 0, []),
  (1, .iload_n 1, false, [], 0, 0, 0, 0, 0, []),
  (2, .invokevirtual 151, false, [], 163, 1, 0, 7, 0, []),
  (5, .aload_n 0, false, [], 0, 0, 0, 0, 0, []),
  (6, .invokevirtual 154, false, [], 165, 0, 1, 7, 0, []),
  (9, .istore_n 2, false, [], 0, 0, 0, 0, 0, []),
  (10, .aload_n 0, false, [], 0, 0, 0, 0, 0, []),
  (11, .invokevirtual 171, false, [], 169, 0, 0, 7, 0, []),
  (14, .iload_n 2, false, [], 0, 0, 0, 0, 0, []),
  (15, .ireturn, false, [], 0, 0, 0, 0, 0, [])]
def kk_X7_iron : List mx_I := [
  (0, .iload_n 1, false, [], 0, 0, 0, 0, 0, []),
  (1, .iconst 0, false, [], 0, 0, 0, 0, 0, []),
  (2, .bipush 30, false, [], 0, 0, 0, 0, 30, []),
  (4, .invokestatic 75, false, [], 133, 3, 1, 0, 0, []),
  (7, .ifCond .eq 14, false, [], 21, 0, 0, 0, 0, []),
  (10, .iload_n 2, false, [], 0, 0, 0, 0, 0, []),
  (11, .iconst 0, false, [], 0, 0, 0, 0, 0, []),
  (12, .sipush 990, false, [], 0, 0, 0, 0, 990, []),
  (15, .invokestatic 75, false, [], 133, 3, 1, 0, 0, []),
  (18, .ifCond .ne 6, false, [], 24, 0, 0, 0, 0, []),
  (21, .ldc 101, false, [], 0, 0, 0, 0, (-1000000001), []),
  (23, .ireturn, false, [], 0, 0, 0, 0, 0, []),
  (24, .aload_n 0, false, [], 0, 0, 0, 0, 0, []),
  (25, .invokevirtual 165, false, [], 168, 0, 0, 7, 0, []),
  (28, .iconst 0, false, [], 0, 0, 0, 0, 0, []),
  (29, .istore_n 3, false, [], 0, 0, 0, 0, 0, []),
  (30, .iload_n 3, true, [0, 1, 2, 3], 0, 0, 0, 0, 0, []),
  (31, .bipush 99, false, [], 0, 0, 0, 0, 99, []),
  (33, .if_icmp .gt 28, false, [], 61, 0, 0, 0, 0, []),
  (36, .aload_n 0, false, [], 0, 0, 0, 0, 0, []),
  (37, .getfield 9, false, [], 7, 0, 1, 0, 0, []),
  (40, .bipush 6, false, [], 0, 0, 0, 0, 6, []),
  (42, .iload_n 3, false, [], 0, 0, 0, 0, 0, []),
  (43, .iastore, false, [], 0, 0, 0, 0, 0, []),
  (44, .aload_n 0, false, [], 0, 0, 0, 0, 0, []),
  (45, .iload_n 1, false, [], 0, 0, 0, 0, 0, []),
  (46, .invokevirtual 177, false, [], 175, 1, 1, 7, 0, []),
  (49, .iload_n 2, false, [], 0, 0, 0, 0, 0, []),
  (50, .if_icmp .lt 5, false, [], 55, 0, 0, 0, 0, []),
  (53, .iload_n 3, false, [], 0, 0, 0, 0, 0, []),
  (54, .ireturn, false, [], 0, 0, 0, 0, 0, []),
  (55, .iinc 3 1, false, [], 0, 0, 0, 0, 1, []),
  (58, .goto (-28), false, [], 30, 0, 0, 0, 0, []),
  (61, .ldc 160, false, [], 0, 0, 0, 0, (-1000000005), []),
  (63, .ireturn, false, [], 0, 0, 0, 0, 0, [])]
def kk_X7_first : List mx_I := [
  (0, .iload_n 1, false, [], 0, 0, 0, 0, 0, []),
  (1, .iconst 1, false, [], 0, 0, 0, 0, 1, []),
  (2, .bipush 60, false, [], 0, 0, 0, 0, 60, []),
  (4, .invokestatic 75, false, [], 133, 3, 1, 0, 0, []),
  (7, .ifCond .eq 12, false, [], 19, 0, 0, 0, 0, []),
  (10, .iload_n 2, false, [], 0, 0, 0, 0, 0, []),
  (11, .iconst 0, false, [], 0, 0, 0, 0, 0, []),
  (12, .iconst 1, false, [], 0, 0, 0, 0, 1, []),
  (13, .invokestatic 75, false, [], 133, 3, 1, 0, 0, []),
  (16, .ifCond .ne 6, false, [], 22, 0, 0, 0, 0, []),
  (19, .ldc 101, false, [], 0, 0, 0, 0, (-1000000001), []),
  (21, .ireturn, false, [], 0, 0, 0, 0, 0, []),
  (22, .aload_n 0, false, [], 0, 0, 0, 0, 0, []),
  (23, .invokevirtual 165, false, [], 168, 0, 0, 7, 0, []),
  (26, .iconst (-1), false, [], 0, 0, 0, 0, (-1), []),
  (27, .istore_n 3, false, [], 0, 0, 0, 0, 0, []),
  (28, .iconst (-1), false, [], 0, 0, 0, 0, (-1), []),
  (29, .istore 4, false, [], 0, 0, 0, 0, 0, []),
  (31, .iconst 0, false, [], 0, 0, 0, 0, 0, []),
  (32, .istore 5, false, [], 0, 0, 0, 0, 0, []),
  (34, .iload 5, true, [0, 1, 2, 3, 4, 5], 0, 0, 0, 0, 0, []),
  (36, .aload_n 0, false, [], 0, 0, 0, 0, 0, []),
  (37, .getfield 9, false, [], 7, 0, 1, 0, 0, []),
  (40, .iconst 1, false, [], 0, 0, 0, 0, 1, []),
  (41, .iaload, false, [], 0, 0, 0, 0, 0, []),
  (42, .if_icmp .ge 55, false, [], 97, 0, 0, 0, 0, []),
  (45, .aload_n 0, false, [], 0, 0, 0, 0, 0, []),
  (46, .iload 5, false, [], 0, 0, 0, 0, 0, []),
  (48, .iconst 0, false, [], 0, 0, 0, 0, 0, []),
  (49, .invokevirtual 133, false, [], 154, 2, 1, 7, 0, []),
  (52, .istore 6, false, [], 0, 0, 0, 0, 0, []),
  (54, .aload_n 0, false, [], 0, 0, 0, 0, 0, []),
  (55, .iload_n 1, false, [], 0, 0, 0, 0, 0, []),
  (56, .invokevirtual 177, false, [], 175, 1, 1, 7, 0, []),
  (59, .istore 7, false, [], 0, 0, 0, 0, 0, []),
  (61, .iload 7, false, [], 0, 0, 0, 0, 0, []),
  (63, .iload 4, false, [], 0, 0, 0, 0, 0, []),
  (65, .if_icmp .le 8, false, [], 73, 0, 0, 0, 0, []),
  (68, .iload 5, false, [], 0, 0, 0, 0, 0, []),
  (70, .goto 4, false, [], 74, 0, 0, 0, 0, []),
  (73, .iload_n 3, false, [], 0, 0, 0, 0, 0, []),
  (74, .istore_n 3, false, [], 0, 0, 0, 0, 0, []),
  (75, .iload 7, false, [], 0, 0, 0, 0, 0, []),
  (77, .iload 4, false, [], 0, 0, 0, 0, 0, []),
  (79, .if_icmp .le 8, false, [], 87, 0, 0, 0, 0, []),
  (82, .iload 7, false, [], 0, 0, 0, 0, 0, []),
  (84, .goto 5, false, [], 89, 0, 0, 0, 0, []),
  (87, .iload 4, false, [], 0, 0, 0, 0, 0, []),
  (89, .istore 4, false, [], 0, 0, 0, 0, 0, []),
  (91, .iinc 5 1, false, [], 0, 0, 0, 0, 1, []),
  (94, .goto (-60), false, [], 34, 0, 0, 0, 0, []),
  (97, .iload_n 3, false, [], 0, 0, 0, 0, 0, []),
  (98, .ifCond .ge 8, false, [], 106, 0, 0, 0, 0, []),
  (101, .ldc 160, false, [], 0, 0, 0, 0, (-1000000005), []),
  (103, .goto 13, false, [], 116, 0, 0, 0, 0, []),
  (106, .iload_n 2, false, [], 0, 0, 0, 0, 0, []),
  (107, .ifCond .ne 7, false, [], 114, 0, 0, 0, 0, []),
  (110, .iload_n 3, false, [], 0, 0, 0, 0, 0, []),
  (111, .goto 5, false, [], 116, 0, 0, 0, 0, []),
  (114, .iload 4, false, [], 0, 0, 0, 0, 0, []),
  (116, .ireturn, false, [], 0, 0, 0, 0, 0, [])]
def kk_X7_becomes : List mx_I := [
  (0, .aload_n 0, false, [], 0, 0, 0, 0, 0, []),
  (1, .iload_n 1, false, [], 0, 0, 0, 0, 0, []),
  (2, .invokevirtual 106, false, [], 137, 1, 1, 7, 0, []),
  (5, .ifCond .eq 22, false, [], 27, 0, 0, 0, 0, []),
  (8, .iload_n 2, false, [], 0, 0, 0, 0, 0, []),
  (9, .iconst 1, false, [], 0, 0, 0, 0, 1, []),
  (10, .bipush 60, false, [], 0, 0, 0, 0, 60, []),
  (12, .invokestatic 75, false, [], 133, 3, 1, 0, 0, []),
  (15, .ifCond .eq 12, false, [], 27, 0, 0, 0, 0, []),
  (18, .iload_n 3, false, [], 0, 0, 0, 0, 0, []),
  (19, .iconst 0, false, [], 0, 0, 0, 0, 0, []),
  (20, .iconst 1, false, [], 0, 0, 0, 0, 1, []),
  (21, .invokestatic 75, false, [], 133, 3, 1, 0, 0, []),
  (24, .ifCond .ne 6, false, [], 30, 0, 0, 0, 0, []),
  (27, .ldc 101, false, [], 0, 0, 0, 0, (-1000000001), []),
  (29, .ireturn, false, [], 0, 0, 0, 0, 0, []),
  (30, .aload_n 0, false, [], 0, 0, 0, 0, 0, []),
  (31, .invokevirtual 165, false, [], 168, 0, 0, 7, 0, []),
  (34, .iconst 0, false, [], 0, 0, 0, 0, 0, []),
  (35, .istore 4, false, [], 0, 0, 0, 0, 0, []),
  (37, .iconst (-1), false, [], 0, 0, 0, 0, (-1), []),
  (38, .istore 5, false, [], 0, 0, 0, 0, 0, []),
  (40, .iconst 0, false, [], 0, 0, 0, 0, 0, []),
  (41, .istore 6, false, [], 0, 0, 0, 0, 0, []),
  (43, .iload 6, true, [0, 1, 2, 3, 4, 5, 6], 0, 0, 0, 0, 0, []),
  (45, .iconst 5, false, [], 0, 0, 0, 0, 5, []),
  (46, .if_icmp .gt 56, false, [], 102, 0, 0, 0, 0, []),
  (49, .aload_n 0, false, [], 0, 0, 0, 0, 0, []),
  (50, .iload_n 1, false, [], 0, 0, 0, 0, 0, []),
  (51, .iconst 0, false, [], 0, 0, 0, 0, 0, []),
  (52, .iload 6, false, [], 0, 0, 0, 0, 0, []),
  (54, .invokevirtual 97, false, [], 139, 3, 0, 7, 0, []),
  (57, .aload_n 0, false, [], 0, 0, 0, 0, 0, []),
  (58, .iload_n 2, false, [], 0, 0, 0, 0, 0, []),
  (59, .invokevirtual 177, false, [], 175, 1, 1, 7, 0, []),
  (62, .istore 7, false, [], 0, 0, 0, 0, 0, []),
  (64, .iload 7, false, [], 0, 0, 0, 0, 0, []),
  (66, .iload 5, false, [], 0, 0, 0, 0, 0, []),
  (68, .if_icmp .le 8, false, [], 76, 0, 0, 0, 0, []),
  (71, .iload 6, false, [], 0, 0, 0, 0, 0, []),
  (73, .goto 5, false, [], 78, 0, 0, 0, 0, []),
  (76, .iload 4, false, [], 0, 0, 0, 0, 0, []),
  (78, .istore 4, false, [], 0, 0, 0, 0, 0, []),
  (80, .iload 7, false, [], 0, 0, 0, 0, 0, []),
  (82, .iload 5, false, [], 0, 0, 0, 0, 0, []),
  (84, .if_icmp .le 8, false, [], 92, 0, 0, 0, 0, []),
  (87, .iload 7, false, [], 0, 0, 0, 0, 0, []),
  (89, .goto 5, false, [], 94, 0, 0, 0, 0, []),
  (92, .iload 5, false, [], 0, 0, 0, 0, 0, []),
  (94, .istore 5, false, [], 0, 0, 0, 0, 0, []),
  (96, .iinc 6 1, false, [], 0, 0, 0, 0, 1, []),
  (99, .goto (-56), false, [], 43, 0, 0, 0, 0, []),
  (102, .iload_n 3, false, [], 0, 0, 0, 0, 0, []),
  (103, .ifCond .ne 8, false, [], 111, 0, 0, 0, 0, []),
  (106, .iload 4, false, [], 0, 0, 0, 0, 0, []),
  (108, .goto 5, false, [], 113, 0, 0, 0, 0, []),
  (111, .iload 5, false, [], 0, 0, 0, 0, 0, []),
  (113, .ireturn, false, [], 0, 0, 0, 0, 0, [])]
def kk_X7_like : List mx_I := [
  (0, .iload_n 1, false, [], 0, 0, 0, 0, 0, []),
  (1, .invokestatic 180, false, [], 201, 1, 1, 0, 0, []),
  (4, .ifCond .eq 12, false, [], 16, 0, 0, 0, 0, []),
  (7, .iload_n 2, false, [], 0, 0, 0, 0, 0, []),
  (8, .iconst 0, false, [], 0, 0, 0, 0, 0, []),
  (9, .iconst 1, false, [], 0, 0, 0, 0, 1, []),
  (10, .invokestatic 75, false, [], 133, 3, 1, 0, 0, []),
  (13, .ifCond .ne 6, false, [], 19, 0, 0, 0, 0, []),
  (16, .ldc 101, false, [], 0, 0, 0, 0, (-1000000001), []),
  (18, .ireturn, false, [], 0, 0, 0, 0, 0, []),
  (19, .aload_n 0, false, [], 0, 0, 0, 0, 0, []),
  (20, .getfield 48, false, [], 7, 23, 1, 0, 0, []),
  (23, .iload_n 1, false, [], 0, 0, 0, 0, 0, []),
  (24, .iaload, false, [], 0, 0, 0, 0, 0, []),
  (25, .ifCond .ge 6, false, [], 31, 0, 0, 0, 0, []),
  (28, .ldc 183, false, [], 0, 0, 0, 0, (-1000000011), []),
  (30, .ireturn, false, [], 0, 0, 0, 0, 0, []),
  (31, .aload_n 0, false, [], 0, 0, 0, 0, 0, []),
  (32, .invokevirtual 165, false, [], 168, 0, 0, 7, 0, []),
  (35, .aload_n 0, false, [], 0, 0, 0, 0, 0, []),
  (36, .getfield 9, false, [], 7, 0, 1, 0, 0, []),
  (39, .iconst 1, false, [], 0, 0, 0, 0, 1, []),
  (40, .iaload, false, [], 0, 0, 0, 0, 0, []),
  (41, .istore_n 3, false, [], 0, 0, 0, 0, 0, []),
  (42, .iconst 0, false, [], 0, 0, 0, 0, 0, []),
  (43, .istore 4, false, [], 0, 0, 0, 0, 0, []),
  (45, .iload 4, true, [0, 1, 2, 3, 4], 0, 0, 0, 0, 0, []),
  (47, .iload_n 3, false, [], 0, 0, 0, 0, 0, []),
  (48, .if_icmp .ge 17, false, [], 65, 0, 0, 0, 0, []),
  (51, .aload_n 0, false, [], 0, 0, 0, 0, 0, []),
  (52, .getfield 19, false, [], 7, 4, 1, 0, 0, []),
  (55, .iload 4, false, [], 0, 0, 0, 0, 0, []),
  (57, .iconst 0, false, [], 0, 0, 0, 0, 0, []),
  (58, .iastore, false, [], 0, 0, 0, 0, 0, []),
  (59, .iinc 4 1, false, [], 0, 0, 0, 0, 1, []),
  (62, .goto (-17), false, [], 45, 0, 0, 0, 0, []),
  (65, .iconst 0, false, [], 0, 0, 0, 0, 0, []),
  (66, .istore 4, false, [], 0, 0, 0, 0, 0, []),
  (68, .iload 4, true, [0, 1, 2, 3, 4], 0, 0, 0, 0, 0, []),
  (70, .aload_n 0, false, [], 0, 0, 0, 0, 0, []),
  (71, .getfield 51, false, [], 7, 24, 1, 0, 0, []),
  (74, .iload_n 1, false, [], 0, 0, 0, 0, 0, []),
  (75, .iaload, false, [], 0, 0, 0, 0, 0, []),
  (76, .if_icmp .ge 72, false, [], 148, 0, 0, 0, 0, []),
  (79, .aload_n 0, false, [], 0, 0, 0, 0, 0, []),
  (80, .getfield 54, false, [], 7, 25, 1, 0, 0, []),
  (83, .bipush 24, false, [], 0, 0, 0, 0, 24, []),
  (85, .iload_n 1, false, [], 0, 0, 0, 0, 0, []),
  (86, .imul, false, [], 0, 0, 0, 0, 0, []),
  (87, .iload 4, false, [], 0, 0, 0, 0, 0, []),
  (89, .iadd, false, [], 0, 0, 0, 0, 0, []),
  (90, .iaload, false, [], 0, 0, 0, 0, 0, []),
  (91, .istore 5, false, [], 0, 0, 0, 0, 0, []),
  (93, .iconst 0, false, [], 0, 0, 0, 0, 0, []),
  (94, .istore 6, false, [], 0, 0, 0, 0, 0, []),
  (96, .iload 6, true, [0, 1, 2, 3, 4, 5, 6], 0, 0, 0, 0, 0, []),
  (98, .iload_n 3, false, [], 0, 0, 0, 0, 0, []),
  (99, .if_icmp .ge 39, false, [], 138, 0, 0, 0, 0, []),
  (102, .iload 5, false, [], 0, 0, 0, 0, 0, []),
  (104, .ldc 160, false, [], 0, 0, 0, 0, (-1000000005), []),
  (106, .if_icmp .eq 32, false, [], 138, 0, 0, 0, 0, []),
  (109, .aload_n 0, false, [], 0, 0, 0, 0, 0, []),
  (110, .getfield 19, false, [], 7, 4, 1, 0, 0, []),
  (113, .iload 6, false, [], 0, 0, 0, 0, 0, []),
  (115, .dup2, false, [], 0, 0, 0, 0, 0, []),
  (116, .iaload, false, [], 0, 0, 0, 0, 0, []),
  (117, .iload 5, false, [], 0, 0, 0, 0, 0, []),
  (119, .aload_n 0, false, [], 0, 0, 0, 0, 0, []),
  (120, .iload 6, false, [], 0, 0, 0, 0, 0, []),
  (122, .iconst 1, false, [], 0, 0, 0, 0, 1, []),
  (123, .invokevirtual 83, false, [], 138, 2, 1, 7, 0, []),
  (126, .isub, false, [], 0, 0, 0, 0, 0, []),
  (127, .invokestatic 130, false, [], 141, 1, 1, 0, 0, []),
  (130, .iadd, false, [], 0, 0, 0, 0, 0, []),
  (131, .iastore, false, [], 0, 0, 0, 0, 0, []),
  (132, .iinc 6 1, false, [], 0, 0, 0, 0, 1, []),
  (135, .goto (-39), false, [], 96, 0, 0, 0, 0, []),
  (138, .aload_n 0, false, [], 0, 0, 0, 0, 0, []),
  (139, .invokevirtual 148, false, [], 162, 0, 0, 7, 0, []),
  (142, .iinc 4 1, false, [], 0, 0, 0, 0, 1, []),
  (145, .goto (-77), false, [], 68, 0, 0, 0, 0, []),
  (148, .aload_n 0, false, [], 0, 0, 0, 0, 0, []),
  (149, .invokevirtual 171, false, [], 169, 0, 0, 7, 0, []),
  (152, .iconst 0, false, [], 0, 0, 0, 0, 0, []),
  (153, .istore 4, false, [], 0, 0, 0, 0, 0, []),
  (155, .iconst 1, false, [], 0, 0, 0, 0, 1, []),
  (156, .istore 5, false, [], 0, 0, 0, 0, 0, []),
  (158, .iload 5, true, [0, 2, 3, 4, 5], 0, 0, 0, 0, 0, []),
  (160, .iload_n 3, false, [], 0, 0, 0, 0, 0, []),
  (161, .if_icmp .ge 35, false, [], 196, 0, 0, 0, 0, []),
  (164, .aload_n 0, false, [], 0, 0, 0, 0, 0, []),
  (165, .getfield 19, false, [], 7, 4, 1, 0, 0, []),
  (168, .iload 5, false, [], 0, 0, 0, 0, 0, []),
  (170, .iaload, false, [], 0, 0, 0, 0, 0, []),
  (171, .aload_n 0, false, [], 0, 0, 0, 0, 0, []),
  (172, .getfield 19, false, [], 7, 4, 1, 0, 0, []),
  (175, .iload 4, false, [], 0, 0, 0, 0, 0, []),
  (177, .iaload, false, [], 0, 0, 0, 0, 0, []),
  (178, .if_icmp .ge 8, false, [], 186, 0, 0, 0, 0, []),
  (181, .iload 5, false, [], 0, 0, 0, 0, 0, []),
  (183, .goto 5, false, [], 188, 0, 0, 0, 0, []),
  (186, .iload 4, false, [], 0, 0, 0, 0, 0, []),
  (188, .istore 4, false, [], 0, 0, 0, 0, 0, []),
  (190, .iinc 5 1, false, [], 0, 0, 0, 0, 1, []),
  (193, .goto (-35), false, [], 158, 0, 0, 0, 0, []),
  (196, .iload_n 3, false, [], 0, 0, 0, 0, 0, []),
  (197, .ifCond .ne 8, false, [], 205, 0, 0, 0, 0, []),
  (200, .ldc 160, false, [], 0, 0, 0, 0, (-1000000005), []),
  (202, .goto 19, false, [], 221, 0, 0, 0, 0, []),
  (205, .iload_n 2, false, [], 0, 0, 0, 0, 0, []),
  (206, .ifCond .ne 8, false, [], 214, 0, 0, 0, 0, []),
  (209, .iload 4, false, [], 0, 0, 0, 0, 0, []),
  (211, .goto 10, false, [], 221, 0, 0, 0, 0, []),
  (214, .aload_n 0, false, [], 0, 0, 0, 0, 0, []),
  (215, .getfield 19, false, [], 7, 4, 1, 0, 0, []),
  (218, .iload 4, false, [], 0, 0, 0, 0, 0, []),
  (220, .iaload, false, [], 0, 0, 0, 0, 0, []),
  (221, .ireturn, false, [], 0, 0, 0, 0, 0, [])]
def kk_X7_fee : List mx_I := [
  (0, .aload_n 0, false, [], 0, 0, 0, 0, 0, []),
  (1, .iconst 1, false, [], 0, 0, 0, 0, 1, []),
  (2, .invokevirtual 79, false, [], 197, 1, 1, 7, 0, []),
  (5, .istore_n 1, false, [], 0, 0, 0, 0, 0, []),
  (6, .aload_n 0, false, [], 0, 0, 0, 0, 0, []),
  (7, .getfield 45, false, [], 7, 22, 1, 0, 0, []),
  (10, .iconst 0, false, [], 0, 0, 0, 0, 0, []),
  (11, .aload_n 0, false, [], 0, 0, 0, 0, 0, []),
  (12, .getfield 9, false, [], 7, 0, 1, 0, 0, []),
  (15, .bipush 7, false, [], 0, 0, 0, 0, 7, []),
  (17, .iaload, false, [], 0, 0, 0, 0, 0, []),
  (18, .iastore, false, [], 0, 0, 0, 0, 0, []),
  (19, .aload_n 0, false, [], 0, 0, 0, 0, 0, []),
  (20, .getfield 45, false, [], 7, 22, 1, 0, 0, []),
  (23, .iconst 1, false, [], 0, 0, 0, 0, 1, []),
  (24, .aload_n 0, false, [], 0, 0, 0, 0, 0, []),
  (25, .getfield 9, false, [], 7, 0, 1, 0, 0, []),
  (28, .bipush 8, false, [], 0, 0, 0, 0, 8, []),
  (30, .iaload, false, [], 0, 0, 0, 0, 0, []),
  (31, .iastore, false, [], 0, 0, 0, 0, 0, []),
  (32, .iload_n 1, false, [], 0, 0, 0, 0, 0, []),
  (33, .ifCond .ge 13, false, [], 46, 0, 0, 0, 0, []),
  (36, .aload_n 0, false, [], 0, 0, 0, 0, 0, []),
  (37, .getfield 9, false, [], 7, 0, 1, 0, 0, []),
  (40, .bipush 7, false, [], 0, 0, 0, 0, 7, []),
  (42, .iaload, false, [], 0, 0, 0, 0, 0, []),
  (43, .goto 8, false, [], 51, 0, 0, 0, 0, []),
  (46, .aload_n 0, false, [], 0, 0, 0, 0, 0, []),
  (47, .iload_n 1, false, [], 0, 0, 0, 0, 0, []),
  (48, .invokevirtual 87, false, [], 200, 1, 1, 7, 0, []),
  (51, .ireturn, false, [], 0, 0, 0, 0, 0, [])]
def kk_X7_fine : List mx_I := [
  (0, .aload_n 0, false, [], 0, 0, 0, 0, 0, []),
  (1, .iload_n 1, false, [], 0, 0, 0, 0, 0, []),
  (2, .invokevirtual 106, false, [], 137, 1, 1, 7, 0, []),
  (5, .ifCond .ne 6, false, [], 11, 0, 0, 0, 0, []),
  (8, .ldc 101, false, [], 0, 0, 0, 0, (-1000000001), []),
  (10, .ireturn, false, [], 0, 0, 0, 0, 0, []),
  (11, .aload_n 0, false, [], 0, 0, 0, 0, 0, []),
  (12, .iconst 2, false, [], 0, 0, 0, 0, 2, []),
  (13, .invokevirtual 79, false, [], 197, 1, 1, 7, 0, []),
  (16, .istore_n 2, false, [], 0, 0, 0, 0, 0, []),
  (17, .aload_n 0, false, [], 0, 0, 0, 0, 0, []),
  (18, .getfield 45, false, [], 7, 22, 1, 0, 0, []),
  (21, .iconst 0, false, [], 0, 0, 0, 0, 0, []),
  (22, .aload_n 0, false, [], 0, 0, 0, 0, 0, []),
  (23, .iload_n 1, false, [], 0, 0, 0, 0, 0, []),
  (24, .iconst 2, false, [], 0, 0, 0, 0, 2, []),
  (25, .invokevirtual 83, false, [], 138, 2, 1, 7, 0, []),
  (28, .iastore, false, [], 0, 0, 0, 0, 0, []),
  (29, .aload_n 0, false, [], 0, 0, 0, 0, 0, []),
  (30, .getfield 45, false, [], 7, 22, 1, 0, 0, []),
  (33, .iconst 1, false, [], 0, 0, 0, 0, 1, []),
  (34, .aload_n 0, false, [], 0, 0, 0, 0, 0, []),
  (35, .iload_n 1, false, [], 0, 0, 0, 0, 0, []),
  (36, .iconst 4, false, [], 0, 0, 0, 0, 4, []),
  (37, .invokevirtual 83, false, [], 138, 2, 1, 7, 0, []),
  (40, .iastore, false, [], 0, 0, 0, 0, 0, []),
  (41, .iload_n 2, false, [], 0, 0, 0, 0, 0, []),
  (42, .ifCond .ge 12, false, [], 54, 0, 0, 0, 0, []),
  (45, .aload_n 0, false, [], 0, 0, 0, 0, 0, []),
  (46, .iload_n 1, false, [], 0, 0, 0, 0, 0, []),
  (47, .iconst 2, false, [], 0, 0, 0, 0, 2, []),
  (48, .invokevirtual 83, false, [], 138, 2, 1, 7, 0, []),
  (51, .goto 8, false, [], 59, 0, 0, 0, 0, []),
  (54, .aload_n 0, false, [], 0, 0, 0, 0, 0, []),
  (55, .iload_n 2, false, [], 0, 0, 0, 0, 0, []),
  (56, .invokevirtual 87, false, [], 200, 1, 1, 7, 0, []),
  (59, .ireturn, false, [], 0, 0, 0, 0, 0, [])]
def kk_X7_feed : List mx_I := [
  (0, .aload_n 0, false, [], 0, 0, 0, 0, 0, []),
  (1, .getfield 184, false, [], 7, 6, 0, 0, 0, []),
  (4, .bipush 12, false, [], 0, 0, 0, 0, 12, []),
  (6, .iadd, false, [], 0, 0, 0, 0, 0, []),
  (7, .bipush 96, false, [], 0, 0, 0, 0, 96, []),
  (9, .if_icmp .le 6, false, [], 15, 0, 0, 0, 0, []),
  (12, .ldc 102, false, [], 0, 0, 0, 0, (-1000000003), []),
  (14, .ireturn, false, [], 0, 0, 0, 0, 0, []),
  (15, .iconst 0, false, [], 0, 0, 0, 0, 0, []),
  (16, .istore 4, false, [], 0, 0, 0, 0, 0, []),
  (18, .iload 4, true, [0, 1, 2, 3, 4], 0, 0, 0, 0, 0, []),
  (20, .bipush 12, false, [], 0, 0, 0, 0, 12, []),
  (22, .if_icmp .ge 62, false, [], 84, 0, 0, 0, 0, []),
  (25, .iload 4, false, [], 0, 0, 0, 0, 0, []),
  (27, .iconst 4, false, [], 0, 0, 0, 0, 4, []),
  (28, .if_icmp .ge 7, false, [], 35, 0, 0, 0, 0, []),
  (31, .iload_n 1, false, [], 0, 0, 0, 0, 0, []),
  (32, .goto 15, false, [], 47, 0, 0, 0, 0, []),
  (35, .iload 4, false, [], 0, 0, 0, 0, 0, []),
  (37, .bipush 8, false, [], 0, 0, 0, 0, 8, []),
  (39, .if_icmp .ge 7, false, [], 46, 0, 0, 0, 0, []),
  (42, .iload_n 2, false, [], 0, 0, 0, 0, 0, []),
  (43, .goto 4, false, [], 47, 0, 0, 0, 0, []),
  (46, .iload_n 3, false, [], 0, 0, 0, 0, 0, []),
  (47, .istore 5, false, [], 0, 0, 0, 0, 0, []),
  (49, .aload_n 0, false, [], 0, 0, 0, 0, 0, []),
  (50, .getfield 22, false, [], 7, 5, 1, 0, 0, []),
  (53, .aload_n 0, false, [], 0, 0, 0, 0, 0, []),
  (54, .getfield 184, false, [], 7, 6, 0, 0, 0, []),
  (57, .iload 4, false, [], 0, 0, 0, 0, 0, []),
  (59, .iadd, false, [], 0, 0, 0, 0, 0, []),
  (60, .iload 5, false, [], 0, 0, 0, 0, 0, []),
  (62, .bipush 24, false, [], 0, 0, 0, 0, 24, []),
  (64, .bipush 8, false, [], 0, 0, 0, 0, 8, []),
  (66, .iload 4, false, [], 0, 0, 0, 0, 0, []),
  (68, .iconst 4, false, [], 0, 0, 0, 0, 4, []),
  (69, .irem, false, [], 0, 0, 0, 0, 0, []),
  (70, .imul, false, [], 0, 0, 0, 0, 0, []),
  (71, .isub, false, [], 0, 0, 0, 0, 0, []),
  (72, .ishr, false, [], 0, 0, 0, 0, 0, []),
  (73, .sipush 255, false, [], 0, 0, 0, 0, 255, []),
  (76, .iand, false, [], 0, 0, 0, 0, 0, []),
  (77, .iastore, false, [], 0, 0, 0, 0, 0, []),
  (78, .iinc 4 1, false, [], 0, 0, 0, 0, 1, []),
  (81, .goto (-63), false, [], 18, 0, 0, 0, 0, []),
  (84, .aload_n 0, false, [], 0, 0, 0, 0, 0, []),
  (85, .dup, false, [], 0, 0, 0, 0, 0, []),
  (86, .getfield 184, false, [], 7, 6, 0, 0, 0, []),
  (89, .bipush 12, false, [], 0, 0, 0, 0, 12, []),
  (91, .iadd, false, [], 0, 0, 0, 0, 0, []),
  (92, .putfield 184, false, [], 7, 6, 0, 0, 0, []),
  (95, .aload_n 0, false, [], 0, 0, 0, 0, 0, []),
  (96, .getfield 184, false, [], 7, 6, 0, 0, 0, []),
  (99, .ireturn, false, [], 0, 0, 0, 0, 0, [])]
def kk_X7_trim : List mx_I := [
  (0, .iload_n 1, false, [], 0, 0, 0, 0, 0, []),
  (1, .iconst 0, false, [], 0, 0, 0, 0, 0, []),
  (2, .aload_n 0, false, [], 0, 0, 0, 0, 0, []),
  (3, .getfield 184, false, [], 7, 6, 0, 0, 0, []),
  (6, .invokestatic 75, false, [], 133, 3, 1, 0, 0, []),
  (9, .ifCond .ne 6, false, [], 15, 0, 0, 0, 0, []),
  (12, .ldc 101, false, [], 0, 0, 0, 0, (-1000000001), []),
  (14, .ireturn, false, [], 0, 0, 0, 0, 0, []),
  (15, .aload_n 0, false, [], 0, 0, 0, 0, 0, []),
  (16, .iload_n 1, false, [], 0, 0, 0, 0, 0, []),
  (17, .putfield 184, false, [], 7, 6, 0, 0, 0, []),
  (20, .iload_n 1, false, [], 0, 0, 0, 0, 0, []),
  (21, .ireturn, false, [], 0, 0, 0, 0, 0, [])]
def kk_X7_isLetter : List mx_I := [
  (0, .iload_n 1, false, [], 0, 0, 0, 0, 0, []),
  (1, .aload_n 0, false, [], 0, 0, 0, 0, 0, []),
  (2, .getfield 184, false, [], 7, 6, 0, 0, 0, []),
  (5, .if_icmp .ge 29, false, [], 34, 0, 0, 0, 0, []),
  (8, .aload_n 0, false, [], 0, 0, 0, 0, 0, []),
  (9, .getfield 22, false, [], 7, 5, 1, 0, 0, []),
  (12, .iload_n 1, false, [], 0, 0, 0, 0, 0, []),
  (13, .iaload, false, [], 0, 0, 0, 0, 0, []),
  (14, .bipush 97, false, [], 0, 0, 0, 0, 97, []),
  (16, .if_icmp .lt 18, false, [], 34, 0, 0, 0, 0, []),
  (19, .aload_n 0, false, [], 0, 0, 0, 0, 0, []),
  (20, .getfield 22, false, [], 7, 5, 1, 0, 0, []),
  (23, .iload_n 1, false, [], 0, 0, 0, 0, 0, []),
  (24, .iaload, false, [], 0, 0, 0, 0, 0, []),
  (25, .bipush 122, false, [], 0, 0, 0, 0, 122, []),
  (27, .if_icmp .gt 7, false, [], 34, 0, 0, 0, 0, []),
  (30, .iconst 1, false, [], 0, 0, 0, 0, 1, []),
  (31, .goto 4, false, [], 35, 0, 0, 0, 0, []),
  (34, .iconst 0, false, [], 0, 0, 0, 0, 0, []),
  (35, .ireturn, false, [], 0, 0, 0, 1, 0, [])]
def kk_X7_isFigure : List mx_I := [
  (0, .iload_n 1, false, [], 0, 0, 0, 0, 0, []),
  (1, .aload_n 0, false, [], 0, 0, 0, 0, 0, []),
  (2, .getfield 184, false, [], 7, 6, 0, 0, 0, []),
  (5, .if_icmp .ge 29, false, [], 34, 0, 0, 0, 0, []),
  (8, .aload_n 0, false, [], 0, 0, 0, 0, 0, []),
  (9, .getfield 22, false, [], 7, 5, 1, 0, 0, []),
  (12, .iload_n 1, false, [], 0, 0, 0, 0, 0, []),
  (13, .iaload, false, [], 0, 0, 0, 0, 0, []),
  (14, .bipush 48, false, [], 0, 0, 0, 0, 48, []),
  (16, .if_icmp .lt 18, false, [], 34, 0, 0, 0, 0, []),
  (19, .aload_n 0, false, [], 0, 0, 0, 0, 0, []),
  (20, .getfield 22, false, [], 7, 5, 1, 0, 0, []),
  (23, .iload_n 1, false, [], 0, 0, 0, 0, 0, []),
  (24, .iaload, false, [], 0, 0, 0, 0, 0, []),
  (25, .bipush 57, false, [], 0, 0, 0, 0, 57, []),
  (27, .if_icmp .gt 7, false, [], 34, 0, 0, 0, 0, []),
  (30, .iconst 1, false, [], 0, 0, 0, 0, 1, []),
  (31, .goto 4, false, [], 35, 0, 0, 0, 0, []),
  (34, .iconst 0, false, [], 0, 0, 0, 0, 0, []),
  (35, .ireturn, false, [], 0, 0, 0, 1, 0, [])]
def kk_X7_go : List mx_I := [
  (0, .aload_n 0, true, [0], 0, 0, 0, 0, 0, []),
  (1, .getfield 188, false, [], 7, 7, 0, 0, 0, []),
  (4, .aload_n 0, false, [], 0, 0, 0, 0, 0, []),
  (5, .getfield 184, false, [], 7, 6, 0, 0, 0, []),
  (8, .if_icmp .ge 30, false, [], 38, 0, 0, 0, 0, []),
  (11, .aload_n 0, false, [], 0, 0, 0, 0, 0, []),
  (12, .getfield 22, false, [], 7, 5, 1, 0, 0, []),
  (15, .aload_n 0, false, [], 0, 0, 0, 0, 0, []),
  (16, .getfield 188, false, [], 7, 7, 0, 0, 0, []),
  (19, .iaload, false, [], 0, 0, 0, 0, 0, []),
  (20, .bipush 32, false, [], 0, 0, 0, 0, 32, []),
  (22, .if_icmp .ne 16, false, [], 38, 0, 0, 0, 0, []),
  (25, .aload_n 0, false, [], 0, 0, 0, 0, 0, []),
  (26, .dup, false, [], 0, 0, 0, 0, 0, []),
  (27, .getfield 188, false, [], 7, 7, 0, 0, 0, []),
  (30, .iconst 1, false, [], 0, 0, 0, 0, 1, []),
  (31, .iadd, false, [], 0, 0, 0, 0, 0, []),
  (32, .putfield 188, false, [], 7, 7, 0, 0, 0, []),
  (35, .goto (-35), false, [], 0, 0, 0, 0, 0, []),
  (38, .aload_n 0, false, [], 0, 0, 0, 0, 0, []),
  (39, .aload_n 0, false, [], 0, 0, 0, 0, 0, []),
  (40, .getfield 188, false, [], 7, 7, 0, 0, 0, []),
  (43, .putfield 191, false, [], 7, 8, 0, 0, 0, []),
  (46, .aload_n 0, false, [], 0, 0, 0, 0, 0, []),
  (47, .getfield 191, false, [], 7, 8, 0, 0, 0, []),
  (50, .aload_n 0, false, [], 0, 0, 0, 0, 0, []),
  (51, .getfield 194, false, [], 7, 11, 0, 0, 0, []),
  (54, .if_icmp .ne 7, false, [], 61, 0, 0, 0, 0, []),
  (57, .iconst 1, false, [], 0, 0, 0, 0, 1, []),
  (58, .goto 4, false, [], 62, 0, 0, 0, 0, []),
  (61, .iconst 0, false, [], 0, 0, 0, 0, 0, []),
  (62, .istore_n 1, false, [], 0, 0, 0, 0, 0, []),
  (63, .aload_n 0, false, [], 0, 0, 0, 0, 0, []),
  (64, .getfield 191, false, [], 7, 8, 0, 0, 0, []),
  (67, .aload_n 0, false, [], 0, 0, 0, 0, 0, []),
  (68, .getfield 184, false, [], 7, 6, 0, 0, 0, []),
  (71, .if_icmp .ne 11, false, [], 82, 0, 0, 0, 0, []),
  (74, .aload_n 0, false, [], 0, 0, 0, 0, 0, []),
  (75, .iconst 0, false, [], 0, 0, 0, 0, 0, []),
  (76, .putfield 197, false, [], 7, 9, 0, 0, 0, []),
  (79, .goto 224, false, [], 303, 0, 0, 0, 0, []),
  (82, .aload_n 0, false, [], 0, 0, 0, 0, 0, []),
  (83, .aload_n 0, false, [], 0, 0, 0, 0, 0, []),
  (84, .getfield 191, false, [], 7, 8, 0, 0, 0, []),
  (87, .invokevirtual 200, false, [], 184, 1, 1, 7, 0, []),
  (90, .ifCond .eq 64, false, [], 154, 0, 0, 0, 0, []),
  (93, .aload_n 0, true, [0, 1], 0, 0, 0, 0, 0, []),
  (94, .aload_n 0, false, [], 0, 0, 0, 0, 0, []),
  (95, .getfield 188, false, [], 7, 7, 0, 0, 0, []),
  (98, .invokevirtual 200, false, [], 184, 1, 1, 7, 0, []),
  (101, .ifCond .eq 16, false, [], 117, 0, 0, 0, 0, []),
  (104, .aload_n 0, false, [], 0, 0, 0, 0, 0, []),
  (105, .dup, false, [], 0, 0, 0, 0, 0, []),
  (106, .getfield 188, false, [], 7, 7, 0, 0, 0, []),
  (109, .iconst 1, false, [], 0, 0, 0, 0, 1, []),
  (110, .iadd, false, [], 0, 0, 0, 0, 0, []),
  (111, .putfield 188, false, [], 7, 7, 0, 0, 0, []),
  (114, .goto (-21), false, [], 93, 0, 0, 0, 0, []),
  (117, .aload_n 0, false, [], 0, 0, 0, 0, 0, []),
  (118, .iload_n 1, false, [], 0, 0, 0, 0, 0, []),
  (119, .ifCond .eq 7, false, [], 126, 0, 0, 0, 0, []),
  (122, .iconst 4, false, [], 0, 0, 0, 0, 4, []),
  (123, .goto 4, false, [], 127, 0, 0, 0, 0, []),
  (126, .iconst 1, false, [], 0, 0, 0, 0, 1, []),
  (127, .putfield 197, false, [], 7, 9, 0, 0, 0, []),
  (130, .aload_n 0, false, [], 0, 0, 0, 0, 0, []),
  (131, .aload_n 0, false, [], 0, 0, 0, 0, 0, []),
  (132, .getfield 22, false, [], 7, 5, 1, 0, 0, []),
  (135, .aload_n 0, false, [], 0, 0, 0, 0, 0, []),
  (136, .getfield 191, false, [], 7, 8, 0, 0, 0, []),
  (139, .iaload, false, [], 0, 0, 0, 0, 0, []),
  (140, .putfield 203, false, [], 7, 10, 0, 0, 0, []),
  (143, .aload_n 0, false, [], 0, 0, 0, 0, 0, []),
  (144, .aload_n 0, false, [], 0, 0, 0, 0, 0, []),
  (145, .getfield 188, false, [], 7, 7, 0, 0, 0, []),
  (148, .putfield 194, false, [], 7, 11, 0, 0, 0, []),
  (151, .goto 152, false, [], 303, 0, 0, 0, 0, []),
  (154, .aload_n 0, false, [], 0, 0, 0, 0, 0, []),
  (155, .aload_n 0, false, [], 0, 0, 0, 0, 0, []),
  (156, .getfield 191, false, [], 7, 8, 0, 0, 0, []),
  (159, .invokevirtual 206, false, [], 185, 1, 1, 7, 0, []),
  (162, .ifCond .eq 113, false, [], 275, 0, 0, 0, 0, []),
  (165, .aload_n 0, false, [], 0, 0, 0, 0, 0, []),
  (166, .iconst 0, false, [], 0, 0, 0, 0, 0, []),
  (167, .putfield 203, false, [], 7, 10, 0, 0, 0, []),
  (170, .aload_n 0, true, [0, 1], 0, 0, 0, 0, 0, []),
  (171, .aload_n 0, false, [], 0, 0, 0, 0, 0, []),
  (172, .getfield 188, false, [], 7, 7, 0, 0, 0, []),
  (175, .invokevirtual 206, false, [], 185, 1, 1, 7, 0, []),
  (178, .ifCond .eq 60, false, [], 238, 0, 0, 0, 0, []),
  (181, .aload_n 0, false, [], 0, 0, 0, 0, 0, []),
  (182, .aload_n 0, false, [], 0, 0, 0, 0, 0, []),
  (183, .getfield 188, false, [], 7, 7, 0, 0, 0, []),
  (186, .aload_n 0, false, [], 0, 0, 0, 0, 0, []),
  (187, .getfield 191, false, [], 7, 8, 0, 0, 0, []),
  (190, .isub, false, [], 0, 0, 0, 0, 0, []),
  (191, .iconst 4, false, [], 0, 0, 0, 0, 4, []),
  (192, .if_icmp .ge 26, false, [], 218, 0, 0, 0, 0, []),
  (195, .bipush 10, false, [], 0, 0, 0, 0, 10, []),
  (197, .aload_n 0, false, [], 0, 0, 0, 0, 0, []),
  (198, .getfield 203, false, [], 7, 10, 0, 0, 0, []),
  (201, .imul, false, [], 0, 0, 0, 0, 0, []),
  (202, .aload_n 0, false, [], 0, 0, 0, 0, 0, []),
  (203, .getfield 22, false, [], 7, 5, 1, 0, 0, []),
  (206, .aload_n 0, false, [], 0, 0, 0, 0, 0, []),
  (207, .getfield 188, false, [], 7, 7, 0, 0, 0, []),
  (210, .iaload, false, [], 0, 0, 0, 0, 0, []),
  (211, .iadd, false, [], 0, 0, 0, 0, 0, []),
  (212, .bipush 48, false, [], 0, 0, 0, 0, 48, []),
  (214, .isub, false, [], 0, 0, 0, 0, 0, []),
  (215, .goto 7, false, [], 222, 0, 0, 0, 0, []),
  (218, .aload_n 0, false, [], 0, 0, 0, 0, 0, []),
  (219, .getfield 203, false, [], 7, 10, 0, 0, 0, []),
  (222, .putfield 203, false, [], 7, 10, 0, 0, 0, []),
  (225, .aload_n 0, false, [], 0, 0, 0, 0, 0, []),
  (226, .dup, false, [], 0, 0, 0, 0, 0, []),
  (227, .getfield 188, false, [], 7, 7, 0, 0, 0, []),
  (230, .iconst 1, false, [], 0, 0, 0, 0, 1, []),
  (231, .iadd, false, [], 0, 0, 0, 0, 0, []),
  (232, .putfield 188, false, [], 7, 7, 0, 0, 0, []),
  (235, .goto (-65), false, [], 170, 0, 0, 0, 0, []),
  (238, .aload_n 0, false, [], 0, 0, 0, 0, 0, []),
  (239, .iload_n 1, false, [], 0, 0, 0, 0, 0, []),
  (240, .ifCond .ne 16, false, [], 256, 0, 0, 0, 0, []),
  (243, .aload_n 0, false, [], 0, 0, 0, 0, 0, []),
  (244, .getfield 188, false, [], 7, 7, 0, 0, 0, []),
  (247, .aload_n 0, false, [], 0, 0, 0, 0, 0, []),
  (248, .getfield 191, false, [], 7, 8, 0, 0, 0, []),
  (251, .isub, false, [], 0, 0, 0, 0, 0, []),
  (252, .iconst 4, false, [], 0, 0, 0, 0, 4, []),
  (253, .if_icmp .le 7, false, [], 260, 0, 0, 0, 0, []),
  (256, .iconst 4, false, [], 0, 0, 0, 0, 4, []),
  (257, .goto 4, false, [], 261, 0, 0, 0, 0, []),
  (260, .iconst 2, false, [], 0, 0, 0, 0, 2, []),
  (261, .putfield 197, false, [], 7, 9, 0, 0, 0, []),
  (264, .aload_n 0, false, [], 0, 0, 0, 0, 0, []),
  (265, .aload_n 0, false, [], 0, 0, 0, 0, 0, []),
  (266, .getfield 188, false, [], 7, 7, 0, 0, 0, []),
  (269, .putfield 194, false, [], 7, 11, 0, 0, 0, []),
  (272, .goto 31, false, [], 303, 0, 0, 0, 0, []),
  (275, .aload_n 0, false, [], 0, 0, 0, 0, 0, []),
  (276, .iconst 3, false, [], 0, 0, 0, 0, 3, []),
  (277, .putfield 197, false, [], 7, 9, 0, 0, 0, []),
  (280, .aload_n 0, false, [], 0, 0, 0, 0, 0, []),
  (281, .aload_n 0, false, [], 0, 0, 0, 0, 0, []),
  (282, .getfield 22, false, [], 7, 5, 1, 0, 0, []),
  (285, .aload_n 0, false, [], 0, 0, 0, 0, 0, []),
  (286, .getfield 191, false, [], 7, 8, 0, 0, 0, []),
  (289, .iaload, false, [], 0, 0, 0, 0, 0, []),
  (290, .putfield 203, false, [], 7, 10, 0, 0, 0, []),
  (293, .aload_n 0, false, [], 0, 0, 0, 0, 0, []),
  (294, .dup, false, [], 0, 0, 0, 0, 0, []),
  (295, .getfield 188, false, [], 7, 7, 0, 0, 0, []),
  (298, .iconst 1, false, [], 0, 0, 0, 0, 1, []),
  (299, .iadd, false, [], 0, 0, 0, 0, 0, []),
  (300, .putfield 188, false, [], 7, 7, 0, 0, 0, []),
  (303, .return_, false, [], 0, 0, 0, 0, 0, [])]
def kk_X7_takesKey : List mx_I := [
  (0, .aload_n 0, false, [], 0, 0, 0, 0, 0, []),
  (1, .getfield 197, false, [], 7, 9, 0, 0, 0, []),
  (4, .iconst 1, false, [], 0, 0, 0, 0, 1, []),
  (5, .if_icmp .eq 5, false, [], 10, 0, 0, 0, 0, []),
  (8, .iconst 0, false, [], 0, 0, 0, 0, 0, []),
  (9, .ireturn, false, [], 0, 0, 0, 1, 0, []),
  (10, .iconst 0, false, [], 0, 0, 0, 0, 0, []),
  (11, .istore_n 1, false, [], 0, 0, 0, 0, 0, []),
  (12, .iload_n 1, true, [0, 1], 0, 0, 0, 0, 0, []),
  (13, .iconst 3, false, [], 0, 0, 0, 0, 3, []),
  (14, .if_icmp .ge 113, false, [], 127, 0, 0, 0, 0, []),
  (17, .aload_n 0, false, [], 0, 0, 0, 0, 0, []),
  (18, .getfield 29, false, [], 7, 14, 1, 0, 0, []),
  (21, .iload_n 1, false, [], 0, 0, 0, 0, 0, []),
  (22, .iconst 1, false, [], 0, 0, 0, 0, 1, []),
  (23, .iadd, false, [], 0, 0, 0, 0, 0, []),
  (24, .iaload, false, [], 0, 0, 0, 0, 0, []),
  (25, .aload_n 0, false, [], 0, 0, 0, 0, 0, []),
  (26, .getfield 29, false, [], 7, 14, 1, 0, 0, []),
  (29, .iload_n 1, false, [], 0, 0, 0, 0, 0, []),
  (30, .iaload, false, [], 0, 0, 0, 0, 0, []),
  (31, .isub, false, [], 0, 0, 0, 0, 0, []),
  (32, .istore_n 2, false, [], 0, 0, 0, 0, 0, []),
  (33, .iload_n 2, false, [], 0, 0, 0, 0, 0, []),
  (34, .aload_n 0, false, [], 0, 0, 0, 0, 0, []),
  (35, .getfield 188, false, [], 7, 7, 0, 0, 0, []),
  (38, .aload_n 0, false, [], 0, 0, 0, 0, 0, []),
  (39, .getfield 191, false, [], 7, 8, 0, 0, 0, []),
  (42, .isub, false, [], 0, 0, 0, 0, 0, []),
  (43, .if_icmp .ne 7, false, [], 50, 0, 0, 0, 0, []),
  (46, .iconst 1, false, [], 0, 0, 0, 0, 1, []),
  (47, .goto 4, false, [], 51, 0, 0, 0, 0, []),
  (50, .iconst 0, false, [], 0, 0, 0, 0, 0, []),
  (51, .istore_n 3, false, [], 0, 0, 0, 0, 0, []),
  (52, .iconst 0, false, [], 0, 0, 0, 0, 0, []),
  (53, .istore 4, false, [], 0, 0, 0, 0, 0, []),
  (55, .iload 4, true, [0, 1, 2, 3, 4], 0, 0, 0, 0, 0, []),
  (57, .iload_n 2, false, [], 0, 0, 0, 0, 0, []),
  (58, .if_icmp .ge 48, false, [], 106, 0, 0, 0, 0, []),
  (61, .iload_n 3, false, [], 0, 0, 0, 0, 0, []),
  (62, .ifCond .eq 44, false, [], 106, 0, 0, 0, 0, []),
  (65, .aload_n 0, false, [], 0, 0, 0, 0, 0, []),
  (66, .getfield 22, false, [], 7, 5, 1, 0, 0, []),
  (69, .aload_n 0, false, [], 0, 0, 0, 0, 0, []),
  (70, .getfield 191, false, [], 7, 8, 0, 0, 0, []),
  (73, .iload 4, false, [], 0, 0, 0, 0, 0, []),
  (75, .iadd, false, [], 0, 0, 0, 0, 0, []),
  (76, .iaload, false, [], 0, 0, 0, 0, 0, []),
  (77, .aload_n 0, false, [], 0, 0, 0, 0, 0, []),
  (78, .getfield 25, false, [], 7, 13, 1, 0, 0, []),
  (81, .aload_n 0, false, [], 0, 0, 0, 0, 0, []),
  (82, .getfield 29, false, [], 7, 14, 1, 0, 0, []),
  (85, .iload_n 1, false, [], 0, 0, 0, 0, 0, []),
  (86, .iaload, false, [], 0, 0, 0, 0, 0, []),
  (87, .iload 4, false, [], 0, 0, 0, 0, 0, []),
  (89, .iadd, false, [], 0, 0, 0, 0, 0, []),
  (90, .caload, false, [], 0, 0, 0, 0, 0, []),
  (91, .if_icmp .ne 7, false, [], 98, 0, 0, 0, 0, []),
  (94, .iconst 1, false, [], 0, 0, 0, 0, 1, []),
  (95, .goto 4, false, [], 99, 0, 0, 0, 0, []),
  (98, .iconst 0, false, [], 0, 0, 0, 0, 0, []),
  (99, .istore_n 3, false, [], 0, 0, 0, 0, 0, []),
  (100, .iinc 4 1, false, [], 0, 0, 0, 0, 1, []),
  (103, .goto (-48), false, [], 55, 0, 0, 0, 0, []),
  (106, .iload_n 3, false, [], 0, 0, 0, 0, 0, []),
  (107, .ifCond .eq 14, false, [], 121, 0, 0, 0, 0, []),
  (110, .aload_n 0, false, [], 0, 0, 0, 0, 0, []),
  (111, .iload_n 1, false, [], 0, 0, 0, 0, 0, []),
  (112, .putfield 209, false, [], 7, 12, 0, 0, 0, []),
  (115, .aload_n 0, false, [], 0, 0, 0, 0, 0, []),
  (116, .invokevirtual 212, false, [], 186, 0, 0, 7, 0, []),
  (119, .iconst 1, false, [], 0, 0, 0, 0, 1, []),
  (120, .ireturn, false, [], 0, 0, 0, 1, 0, []),
  (121, .iinc 1 1, false, [], 0, 0, 0, 0, 1, []),
  (124, .goto (-112), false, [], 12, 0, 0, 0, 0, []),
  (127, .iconst 0, false, [], 0, 0, 0, 0, 0, []),
  (128, .ireturn, false, [], 0, 0, 0, 1, 0, [])]
def kk_X7_nameOf : List mx_I := [
  (0, .aload_n 0, false, [], 0, 0, 0, 0, 0, []),
  (1, .getfield 209, false, [], 7, 12, 0, 0, 0, []),
  (4, .lookupswitch 92 #[(0, 28), (1, 70)], false, [], 96, 28, 0, 0, 0, [(0, 32), (1, 74)]),
  (32, .iload_n 1, false, [], 0, 0, 0, 0, 0, []),
  (33, .bipush 104, false, [], 0, 0, 0, 0, 104, []),
  (35, .if_icmp .ne 7, false, [], 42, 0, 0, 0, 0, []),
  (38, .iconst 0, false, [], 0, 0, 0, 0, 0, []),
  (39, .goto 34, false, [], 73, 0, 0, 0, 0, []),
  (42, .iload_n 1, false, [], 0, 0, 0, 0, 0, []),
  (43, .bipush 111, false, [], 0, 0, 0, 0, 111, []),
  (45, .if_icmp .ne 7, false, [], 52, 0, 0, 0, 0, []),
  (48, .iconst 1, false, [], 0, 0, 0, 0, 1, []),
  (49, .goto 24, false, [], 73, 0, 0, 0, 0, []),
  (52, .iload_n 1, false, [], 0, 0, 0, 0, 0, []),
  (53, .bipush 107, false, [], 0, 0, 0, 0, 107, []),
  (55, .if_icmp .ne 7, false, [], 62, 0, 0, 0, 0, []),
  (58, .iconst 2, false, [], 0, 0, 0, 0, 2, []),
  (59, .goto 14, false, [], 73, 0, 0, 0, 0, []),
  (62, .iload_n 1, false, [], 0, 0, 0, 0, 0, []),
  (63, .bipush 116, false, [], 0, 0, 0, 0, 116, []),
  (65, .if_icmp .ne 7, false, [], 72, 0, 0, 0, 0, []),
  (68, .iconst 3, false, [], 0, 0, 0, 0, 3, []),
  (69, .goto 4, false, [], 73, 0, 0, 0, 0, []),
  (72, .iconst (-1), false, [], 0, 0, 0, 0, (-1), []),
  (73, .ireturn, false, [], 0, 0, 0, 0, 0, []),
  (74, .iload_n 1, false, [], 0, 0, 0, 0, 0, []),
  (75, .bipush 112, false, [], 0, 0, 0, 0, 112, []),
  (77, .if_icmp .ne 7, false, [], 84, 0, 0, 0, 0, []),
  (80, .iconst 0, false, [], 0, 0, 0, 0, 0, []),
  (81, .goto 14, false, [], 95, 0, 0, 0, 0, []),
  (84, .iload_n 1, false, [], 0, 0, 0, 0, 0, []),
  (85, .bipush 116, false, [], 0, 0, 0, 0, 116, []),
  (87, .if_icmp .ne 7, false, [], 94, 0, 0, 0, 0, []),
  (90, .iconst 1, false, [], 0, 0, 0, 0, 1, []),
  (91, .goto 4, false, [], 95, 0, 0, 0, 0, []),
  (94, .iconst (-1), false, [], 0, 0, 0, 0, (-1), []),
  (95, .ireturn, false, [], 0, 0, 0, 0, 0, []),
  (96, .iload_n 1, false, [], 0, 0, 0, 0, 0, []),
  (97, .bipush 115, false, [], 0, 0, 0, 0, 115, []),
  (99, .if_icmp .ne 7, false, [], 106, 0, 0, 0, 0, []),
  (102, .iconst 0, false, [], 0, 0, 0, 0, 0, []),
  (103, .goto 14, false, [], 117, 0, 0, 0, 0, []),
  (106, .iload_n 1, false, [], 0, 0, 0, 0, 0, []),
  (107, .bipush 107, false, [], 0, 0, 0, 0, 107, []),
  (109, .if_icmp .ne 7, false, [], 116, 0, 0, 0, 0, []),
  (112, .iconst 1, false, [], 0, 0, 0, 0, 1, []),
  (113, .goto 4, false, [], 117, 0, 0, 0, 0, []),
  (116, .iconst (-1), false, [], 0, 0, 0, 0, (-1), []),
  (117, .ireturn, false, [], 0, 0, 0, 0, 0, [])]
def kk_X7_rank : List mx_I := [
  (0, .iload_n 0, false, [], 0, 0, 0, 0, 0, []),
  (1, .iconst (-1), false, [], 0, 0, 0, 0, (-1), []),
  (2, .if_icmp .ne 7, false, [], 9, 0, 0, 0, 0, []),
  (5, .iconst 1, false, [], 0, 0, 0, 0, 1, []),
  (6, .goto 45, false, [], 51, 0, 0, 0, 0, []),
  (9, .iload_n 0, false, [], 0, 0, 0, 0, 0, []),
  (10, .bipush (-2), false, [], 0, 0, 0, 0, (-2), []),
  (12, .if_icmp .ne 7, false, [], 19, 0, 0, 0, 0, []),
  (15, .iconst 2, false, [], 0, 0, 0, 0, 2, []),
  (16, .goto 35, false, [], 51, 0, 0, 0, 0, []),
  (19, .iload_n 0, false, [], 0, 0, 0, 0, 0, []),
  (20, .bipush (-5), false, [], 0, 0, 0, 0, (-5), []),
  (22, .if_icmp .lt 7, false, [], 29, 0, 0, 0, 0, []),
  (25, .iconst 3, false, [], 0, 0, 0, 0, 3, []),
  (26, .goto 25, false, [], 51, 0, 0, 0, 0, []),
  (29, .iload_n 0, false, [], 0, 0, 0, 0, 0, []),
  (30, .bipush (-7), false, [], 0, 0, 0, 0, (-7), []),
  (32, .if_icmp .lt 7, false, [], 39, 0, 0, 0, 0, []),
  (35, .iconst 4, false, [], 0, 0, 0, 0, 4, []),
  (36, .goto 15, false, [], 51, 0, 0, 0, 0, []),
  (39, .iload_n 0, false, [], 0, 0, 0, 0, 0, []),
  (40, .bipush (-9), false, [], 0, 0, 0, 0, (-9), []),
  (42, .if_icmp .lt 7, false, [], 49, 0, 0, 0, 0, []),
  (45, .iconst 5, false, [], 0, 0, 0, 0, 5, []),
  (46, .goto 5, false, [], 51, 0, 0, 0, 0, []),
  (49, .bipush 6, false, [], 0, 0, 0, 0, 6, []),
  (51, .ireturn, false, [], 0, 0, 0, 0, 0, [])]
def kk_X7_settle : List mx_I := [
  (0, .aload_n 0, true, [0, 1], 0, 0, 0, 0, 0, []),
  (1, .getfield 215, false, [], 7, 19, 0, 0, 0, []),
  (4, .ifCond .le 78, false, [], 82, 0, 0, 0, 0, []),
  (7, .aload_n 0, false, [], 0, 0, 0, 0, 0, []),
  (8, .getfield 35, false, [], 7, 18, 1, 0, 0, []),
  (11, .aload_n 0, false, [], 0, 0, 0, 0, 0, []),
  (12, .getfield 215, false, [], 7, 19, 0, 0, 0, []),
  (15, .iconst 1, false, [], 0, 0, 0, 0, 1, []),
  (16, .isub, false, [], 0, 0, 0, 0, 0, []),
  (17, .iaload, false, [], 0, 0, 0, 0, 0, []),
  (18, .bipush (-11), false, [], 0, 0, 0, 0, (-11), []),
  (20, .if_icmp .eq 62, false, [], 82, 0, 0, 0, 0, []),
  (23, .aload_n 0, false, [], 0, 0, 0, 0, 0, []),
  (24, .getfield 35, false, [], 7, 18, 1, 0, 0, []),
  (27, .aload_n 0, false, [], 0, 0, 0, 0, 0, []),
  (28, .getfield 215, false, [], 7, 19, 0, 0, 0, []),
  (31, .iconst 1, false, [], 0, 0, 0, 0, 1, []),
  (32, .isub, false, [], 0, 0, 0, 0, 0, []),
  (33, .iaload, false, [], 0, 0, 0, 0, 0, []),
  (34, .invokestatic 218, false, [], 189, 1, 1, 0, 0, []),
  (37, .iload_n 1, false, [], 0, 0, 0, 0, 0, []),
  (38, .if_icmp .lt 44, false, [], 82, 0, 0, 0, 0, []),
  (41, .aload_n 0, false, [], 0, 0, 0, 0, 0, []),
  (42, .dup, false, [], 0, 0, 0, 0, 0, []),
  (43, .getfield 215, false, [], 7, 19, 0, 0, 0, []),
  (46, .iconst 1, false, [], 0, 0, 0, 0, 1, []),
  (47, .isub, false, [], 0, 0, 0, 0, 0, []),
  (48, .putfield 215, false, [], 7, 19, 0, 0, 0, []),
  (51, .aload_n 0, false, [], 0, 0, 0, 0, 0, []),
  (52, .getfield 32, false, [], 7, 15, 1, 0, 0, []),
  (55, .aload_n 0, false, [], 0, 0, 0, 0, 0, []),
  (56, .getfield 221, false, [], 7, 16, 0, 0, 0, []),
  (59, .aload_n 0, false, [], 0, 0, 0, 0, 0, []),
  (60, .getfield 35, false, [], 7, 18, 1, 0, 0, []),
  (63, .aload_n 0, false, [], 0, 0, 0, 0, 0, []),
  (64, .getfield 215, false, [], 7, 19, 0, 0, 0, []),
  (67, .iaload, false, [], 0, 0, 0, 0, 0, []),
  (68, .iastore, false, [], 0, 0, 0, 0, 0, []),
  (69, .aload_n 0, false, [], 0, 0, 0, 0, 0, []),
  (70, .dup, false, [], 0, 0, 0, 0, 0, []),
  (71, .getfield 221, false, [], 7, 16, 0, 0, 0, []),
  (74, .iconst 1, false, [], 0, 0, 0, 0, 1, []),
  (75, .iadd, false, [], 0, 0, 0, 0, 0, []),
  (76, .putfield 221, false, [], 7, 16, 0, 0, 0, []),
  (79, .goto (-79), false, [], 0, 0, 0, 0, 0, []),
  (82, .return_, false, [], 0, 0, 0, 0, 0, [])]
def kk_X7_signHere : List mx_I := [
  (0, .aload_n 0, false, [], 0, 0, 0, 0, 0, []),
  (1, .getfield 197, false, [], 7, 9, 0, 0, 0, []),
  (4, .iconst 3, false, [], 0, 0, 0, 0, 3, []),
  (5, .if_icmp .eq 5, false, [], 10, 0, 0, 0, 0, []),
  (8, .iconst 0, false, [], 0, 0, 0, 0, 0, []),
  (9, .ireturn, false, [], 0, 0, 0, 0, 0, []),
  (10, .aload_n 0, false, [], 0, 0, 0, 0, 0, []),
  (11, .getfield 203, false, [], 7, 10, 0, 0, 0, []),
  (14, .lookupswitch 108 #[(38, 84), (42, 102), (43, 96), (45, 99), (47, 105), (60, 87), (61, 90), (62, 93), (124, 82)], false, [], 122, 82, 0, 0, 0, [(38, 98), (42, 116), (43, 110), (45, 113), (47, 119), (60, 101), (61, 104), (62, 107), (124, 96)]),
  (96, .iconst (-1), false, [], 0, 0, 0, 0, (-1), []),
  (97, .ireturn, false, [], 0, 0, 0, 0, 0, []),
  (98, .bipush (-2), false, [], 0, 0, 0, 0, (-2), []),
  (100, .ireturn, false, [], 0, 0, 0, 0, 0, []),
  (101, .bipush (-3), false, [], 0, 0, 0, 0, (-3), []),
  (103, .ireturn, false, [], 0, 0, 0, 0, 0, []),
  (104, .bipush (-4), false, [], 0, 0, 0, 0, (-4), []),
  (106, .ireturn, false, [], 0, 0, 0, 0, 0, []),
  (107, .bipush (-5), false, [], 0, 0, 0, 0, (-5), []),
  (109, .ireturn, false, [], 0, 0, 0, 0, 0, []),
  (110, .bipush (-6), false, [], 0, 0, 0, 0, (-6), []),
  (112, .ireturn, false, [], 0, 0, 0, 0, 0, []),
  (113, .bipush (-7), false, [], 0, 0, 0, 0, (-7), []),
  (115, .ireturn, false, [], 0, 0, 0, 0, 0, []),
  (116, .bipush (-8), false, [], 0, 0, 0, 0, (-8), []),
  (118, .ireturn, false, [], 0, 0, 0, 0, 0, []),
  (119, .bipush (-9), false, [], 0, 0, 0, 0, (-9), []),
  (121, .ireturn, false, [], 0, 0, 0, 0, 0, []),
  (122, .iconst 0, false, [], 0, 0, 0, 0, 0, []),
  (123, .ireturn, false, [], 0, 0, 0, 0, 0, [])]
def kk_X7_takesPart : List mx_I := [
  (0, .aload_n 0, false, [], 0, 0, 0, 0, 0, []),
  (1, .getfield 197, false, [], 7, 9, 0, 0, 0, []),
  (4, .iconst 1, false, [], 0, 0, 0, 0, 1, []),
  (5, .if_icmp .ne 31, false, [], 36, 0, 0, 0, 0, []),
  (8, .aload_n 0, false, [], 0, 0, 0, 0, 0, []),
  (9, .getfield 188, false, [], 7, 7, 0, 0, 0, []),
  (12, .aload_n 0, false, [], 0, 0, 0, 0, 0, []),
  (13, .getfield 191, false, [], 7, 8, 0, 0, 0, []),
  (16, .isub, false, [], 0, 0, 0, 0, 0, []),
  (17, .iconst 1, false, [], 0, 0, 0, 0, 1, []),
  (18, .if_icmp .ne 18, false, [], 36, 0, 0, 0, 0, []),
  (21, .aload_n 0, false, [], 0, 0, 0, 0, 0, []),
  (22, .aload_n 0, false, [], 0, 0, 0, 0, 0, []),
  (23, .getfield 203, false, [], 7, 10, 0, 0, 0, []),
  (26, .invokevirtual 224, false, [], 188, 1, 1, 7, 0, []),
  (29, .ifCond .lt 7, false, [], 36, 0, 0, 0, 0, []),
  (32, .iconst 1, false, [], 0, 0, 0, 0, 1, []),
  (33, .goto 4, false, [], 37, 0, 0, 0, 0, []),
  (36, .iconst 0, false, [], 0, 0, 0, 0, 0, []),
  (37, .istore_n 1, false, [], 0, 0, 0, 0, 0, []),
  (38, .aload_n 0, false, [], 0, 0, 0, 0, 0, []),
  (39, .getfield 197, false, [], 7, 9, 0, 0, 0, []),
  (42, .iconst 2, false, [], 0, 0, 0, 0, 2, []),
  (43, .if_icmp .eq 9, false, [], 52, 0, 0, 0, 0, []),
  (46, .iload_n 1, false, [], 0, 0, 0, 0, 0, []),
  (47, .ifCond .ne 5, false, [], 52, 0, 0, 0, 0, []),
  (50, .iconst 0, false, [], 0, 0, 0, 0, 0, []),
  (51, .ireturn, false, [], 0, 0, 0, 1, 0, []),
  (52, .aload_n 0, false, [], 0, 0, 0, 0, 0, []),
  (53, .getfield 32, false, [], 7, 15, 1, 0, 0, []),
  (56, .aload_n 0, false, [], 0, 0, 0, 0, 0, []),
  (57, .getfield 221, false, [], 7, 16, 0, 0, 0, []),
  (60, .aload_n 0, false, [], 0, 0, 0, 0, 0, []),
  (61, .getfield 197, false, [], 7, 9, 0, 0, 0, []),
  (64, .iconst 2, false, [], 0, 0, 0, 0, 2, []),
  (65, .if_icmp .ne 10, false, [], 75, 0, 0, 0, 0, []),
  (68, .aload_n 0, false, [], 0, 0, 0, 0, 0, []),
  (69, .getfield 203, false, [], 7, 10, 0, 0, 0, []),
  (72, .goto 15, false, [], 87, 0, 0, 0, 0, []),
  (75, .sipush 10000, false, [], 0, 0, 0, 0, 10000, []),
  (78, .aload_n 0, false, [], 0, 0, 0, 0, 0, []),
  (79, .aload_n 0, false, [], 0, 0, 0, 0, 0, []),
  (80, .getfield 203, false, [], 7, 10, 0, 0, 0, []),
  (83, .invokevirtual 224, false, [], 188, 1, 1, 7, 0, []),
  (86, .iadd, false, [], 0, 0, 0, 0, 0, []),
  (87, .iastore, false, [], 0, 0, 0, 0, 0, []),
  (88, .aload_n 0, false, [], 0, 0, 0, 0, 0, []),
  (89, .dup, false, [], 0, 0, 0, 0, 0, []),
  (90, .getfield 221, false, [], 7, 16, 0, 0, 0, []),
  (93, .iconst 1, false, [], 0, 0, 0, 0, 1, []),
  (94, .iadd, false, [], 0, 0, 0, 0, 0, []),
  (95, .putfield 221, false, [], 7, 16, 0, 0, 0, []),
  (98, .aload_n 0, false, [], 0, 0, 0, 0, 0, []),
  (99, .dup, false, [], 0, 0, 0, 0, 0, []),
  (100, .getfield 227, false, [], 7, 17, 0, 0, 0, []),
  (103, .iconst 1, false, [], 0, 0, 0, 0, 1, []),
  (104, .iadd, false, [], 0, 0, 0, 0, 0, []),
  (105, .putfield 227, false, [], 7, 17, 0, 0, 0, []),
  (108, .aload_n 0, false, [], 0, 0, 0, 0, 0, []),
  (109, .bipush 6, false, [], 0, 0, 0, 0, 6, []),
  (111, .invokevirtual 230, false, [], 190, 1, 0, 7, 0, []),
  (114, .aload_n 0, false, [], 0, 0, 0, 0, 0, []),
  (115, .invokevirtual 212, false, [], 186, 0, 0, 7, 0, []),
  (118, .iconst 1, false, [], 0, 0, 0, 0, 1, []),
  (119, .ireturn, false, [], 0, 0, 0, 1, 0, [])]
def kk_X7_takesE : List mx_I := [
  (0, .iconst 0, false, [], 0, 0, 0, 0, 0, []),
  (1, .istore_n 1, false, [], 0, 0, 0, 0, 0, []),
  (2, .iconst 0, false, [], 0, 0, 0, 0, 0, []),
  (3, .istore_n 2, false, [], 0, 0, 0, 0, 0, []),
  (4, .iconst 1, false, [], 0, 0, 0, 0, 1, []),
  (5, .istore_n 3, false, [], 0, 0, 0, 0, 0, []),
  (6, .aload_n 0, false, [], 0, 0, 0, 0, 0, []),
  (7, .iconst 0, false, [], 0, 0, 0, 0, 0, []),
  (8, .putfield 221, false, [], 7, 16, 0, 0, 0, []),
  (11, .aload_n 0, false, [], 0, 0, 0, 0, 0, []),
  (12, .iconst 0, false, [], 0, 0, 0, 0, 0, []),
  (13, .putfield 227, false, [], 7, 17, 0, 0, 0, []),
  (16, .aload_n 0, false, [], 0, 0, 0, 0, 0, []),
  (17, .iconst 0, false, [], 0, 0, 0, 0, 0, []),
  (18, .putfield 215, false, [], 7, 19, 0, 0, 0, []),
  (21, .aload_n 0, false, [], 0, 0, 0, 0, 0, []),
  (22, .getfield 38, false, [], 7, 20, 1, 0, 0, []),
  (25, .iconst 0, false, [], 0, 0, 0, 0, 0, []),
  (26, .iconst 0, false, [], 0, 0, 0, 0, 0, []),
  (27, .bastore, false, [], 0, 0, 0, 0, 0, []),
  (28, .iload_n 3, true, [0, 1, 2, 3], 0, 0, 0, 0, 0, []),
  (29, .ifCond .ne 10, false, [], 39, 0, 0, 0, 0, []),
  (32, .aload_n 0, false, [], 0, 0, 0, 0, 0, []),
  (33, .getfield 197, false, [], 7, 9, 0, 0, 0, []),
  (36, .ifCond .eq 309, false, [], 345, 0, 0, 0, 0, []),
  (39, .iload_n 3, false, [], 0, 0, 0, 0, 0, []),
  (40, .ifCond .eq 140, false, [], 180, 0, 0, 0, 0, []),
  (43, .aload_n 0, false, [], 0, 0, 0, 0, 0, []),
  (44, .getfield 197, false, [], 7, 9, 0, 0, 0, []),
  (47, .iconst 3, false, [], 0, 0, 0, 0, 3, []),
  (48, .if_icmp .ne 49, false, [], 97, 0, 0, 0, 0, []),
  (51, .aload_n 0, false, [], 0, 0, 0, 0, 0, []),
  (52, .getfield 203, false, [], 7, 10, 0, 0, 0, []),
  (55, .bipush 33, false, [], 0, 0, 0, 0, 33, []),
  (57, .if_icmp .ne 40, false, [], 97, 0, 0, 0, 0, []),
  (60, .iload_n 2, false, [], 0, 0, 0, 0, 0, []),
  (61, .bipush 8, false, [], 0, 0, 0, 0, 8, []),
  (63, .if_icmp .ge 34, false, [], 97, 0, 0, 0, 0, []),
  (66, .aload_n 0, false, [], 0, 0, 0, 0, 0, []),
  (67, .getfield 35, false, [], 7, 18, 1, 0, 0, []),
  (70, .aload_n 0, false, [], 0, 0, 0, 0, 0, []),
  (71, .getfield 215, false, [], 7, 19, 0, 0, 0, []),
  (74, .bipush (-10), false, [], 0, 0, 0, 0, (-10), []),
  (76, .iastore, false, [], 0, 0, 0, 0, 0, []),
  (77, .aload_n 0, false, [], 0, 0, 0, 0, 0, []),
  (78, .dup, false, [], 0, 0, 0, 0, 0, []),
  (79, .getfield 215, false, [], 7, 19, 0, 0, 0, []),
  (82, .iconst 1, false, [], 0, 0, 0, 0, 1, []),
  (83, .iadd, false, [], 0, 0, 0, 0, 0, []),
  (84, .putfield 215, false, [], 7, 19, 0, 0, 0, []),
  (87, .iinc 2 1, false, [], 0, 0, 0, 0, 1, []),
  (90, .aload_n 0, false, [], 0, 0, 0, 0, 0, []),
  (91, .invokevirtual 212, false, [], 186, 0, 0, 7, 0, []),
  (94, .goto 78, false, [], 172, 0, 0, 0, 0, []),
  (97, .aload_n 0, false, [], 0, 0, 0, 0, 0, []),
  (98, .getfield 197, false, [], 7, 9, 0, 0, 0, []),
  (101, .iconst 3, false, [], 0, 0, 0, 0, 3, []),
  (102, .if_icmp .ne 56, false, [], 158, 0, 0, 0, 0, []),
  (105, .aload_n 0, false, [], 0, 0, 0, 0, 0, []),
  (106, .getfield 203, false, [], 7, 10, 0, 0, 0, []),
  (109, .bipush 40, false, [], 0, 0, 0, 0, 40, []),
  (111, .if_icmp .ne 47, false, [], 158, 0, 0, 0, 0, []),
  (114, .iload_n 1, false, [], 0, 0, 0, 0, 0, []),
  (115, .bipush 8, false, [], 0, 0, 0, 0, 8, []),
  (117, .if_icmp .ge 41, false, [], 158, 0, 0, 0, 0, []),
  (120, .aload_n 0, false, [], 0, 0, 0, 0, 0, []),
  (121, .getfield 35, false, [], 7, 18, 1, 0, 0, []),
  (124, .aload_n 0, false, [], 0, 0, 0, 0, 0, []),
  (125, .getfield 215, false, [], 7, 19, 0, 0, 0, []),
  (128, .bipush (-11), false, [], 0, 0, 0, 0, (-11), []),
  (130, .iastore, false, [], 0, 0, 0, 0, 0, []),
  (131, .aload_n 0, false, [], 0, 0, 0, 0, 0, []),
  (132, .dup, false, [], 0, 0, 0, 0, 0, []),
  (133, .getfield 215, false, [], 7, 19, 0, 0, 0, []),
  (136, .iconst 1, false, [], 0, 0, 0, 0, 1, []),
  (137, .iadd, false, [], 0, 0, 0, 0, 0, []),
  (138, .putfield 215, false, [], 7, 19, 0, 0, 0, []),
  (141, .iinc 1 1, false, [], 0, 0, 0, 0, 1, []),
  (144, .aload_n 0, false, [], 0, 0, 0, 0, 0, []),
  (145, .getfield 38, false, [], 7, 20, 1, 0, 0, []),
  (148, .iload_n 1, false, [], 0, 0, 0, 0, 0, []),
  (149, .iconst 0, false, [], 0, 0, 0, 0, 0, []),
  (150, .bastore, false, [], 0, 0, 0, 0, 0, []),
  (151, .aload_n 0, false, [], 0, 0, 0, 0, 0, []),
  (152, .invokevirtual 212, false, [], 186, 0, 0, 7, 0, []),
  (155, .goto 17, false, [], 172, 0, 0, 0, 0, []),
  (158, .aload_n 0, false, [], 0, 0, 0, 0, 0, []),
  (159, .invokevirtual 233, false, [], 192, 0, 1, 7, 0, []),
  (162, .ifCond .eq 8, false, [], 170, 0, 0, 0, 0, []),
  (165, .iconst 0, false, [], 0, 0, 0, 0, 0, []),
  (166, .istore_n 3, false, [], 0, 0, 0, 0, 0, []),
  (167, .goto 5, false, [], 172, 0, 0, 0, 0, []),
  (170, .iconst 0, false, [], 0, 0, 0, 0, 0, []),
  (171, .ireturn, false, [], 0, 0, 0, 1, 0, []),
  (172, .aload_n 0, false, [], 0, 0, 0, 0, 0, []),
  (173, .invokevirtual 237, false, [], 194, 0, 1, 7, 0, []),
  (176, .istore_n 2, false, [], 0, 0, 0, 0, 0, []),
  (177, .goto (-149), false, [], 28, 0, 0, 0, 0, []),
  (180, .aload_n 0, false, [], 0, 0, 0, 0, 0, []),
  (181, .getfield 197, false, [], 7, 9, 0, 0, 0, []),
  (184, .iconst 3, false, [], 0, 0, 0, 0, 3, []),
  (185, .if_icmp .ne 52, false, [], 237, 0, 0, 0, 0, []),
  (188, .aload_n 0, false, [], 0, 0, 0, 0, 0, []),
  (189, .getfield 203, false, [], 7, 10, 0, 0, 0, []),
  (192, .bipush 41, false, [], 0, 0, 0, 0, 41, []),
  (194, .if_icmp .ne 43, false, [], 237, 0, 0, 0, 0, []),
  (197, .iload_n 1, false, [], 0, 0, 0, 0, 0, []),
  (198, .ifCond .le 39, false, [], 237, 0, 0, 0, 0, []),
  (201, .aload_n 0, false, [], 0, 0, 0, 0, 0, []),
  (202, .iconst 0, false, [], 0, 0, 0, 0, 0, []),
  (203, .invokevirtual 230, false, [], 190, 1, 0, 7, 0, []),
  (206, .aload_n 0, false, [], 0, 0, 0, 0, 0, []),
  (207, .dup, false, [], 0, 0, 0, 0, 0, []),
  (208, .getfield 215, false, [], 7, 19, 0, 0, 0, []),
  (211, .iconst 1, false, [], 0, 0, 0, 0, 1, []),
  (212, .isub, false, [], 0, 0, 0, 0, 0, []),
  (213, .putfield 215, false, [], 7, 19, 0, 0, 0, []),
  (216, .iinc 1 (-1), false, [], 0, 0, 0, 0, (-1), []),
  (219, .aload_n 0, false, [], 0, 0, 0, 0, 0, []),
  (220, .bipush 6, false, [], 0, 0, 0, 0, 6, []),
  (222, .invokevirtual 230, false, [], 190, 1, 0, 7, 0, []),
  (225, .aload_n 0, false, [], 0, 0, 0, 0, 0, []),
  (226, .invokevirtual 237, false, [], 194, 0, 1, 7, 0, []),
  (229, .istore_n 2, false, [], 0, 0, 0, 0, 0, []),
  (230, .aload_n 0, false, [], 0, 0, 0, 0, 0, []),
  (231, .invokevirtual 212, false, [], 186, 0, 0, 7, 0, []),
  (234, .goto (-206), false, [], 28, 0, 0, 0, 0, []),
  (237, .aload_n 0, false, [], 0, 0, 0, 0, 0, []),
  (238, .invokevirtual 240, false, [], 191, 0, 1, 7, 0, []),
  (241, .istore 4, false, [], 0, 0, 0, 0, 0, []),
  (243, .iload 4, false, [], 0, 0, 0, 0, 0, []),
  (245, .ifCond .eq 21, false, [], 266, 0, 0, 0, 0, []),
  (248, .iload 4, false, [], 0, 0, 0, 0, 0, []),
  (250, .invokestatic 218, false, [], 189, 1, 1, 0, 0, []),
  (253, .iconst 3, false, [], 0, 0, 0, 0, 3, []),
  (254, .if_icmp .ne 14, false, [], 268, 0, 0, 0, 0, []),
  (257, .aload_n 0, false, [], 0, 0, 0, 0, 0, []),
  (258, .getfield 38, false, [], 7, 20, 1, 0, 0, []),
  (261, .iload_n 1, false, [], 0, 0, 0, 0, 0, []),
  (262, .baload, false, [], 0, 0, 0, 0, 0, []),
  (263, .ifCond .eq 5, false, [], 268, 0, 0, 0, 0, []),
  (266, .iconst 0, false, [], 0, 0, 0, 0, 0, []),
  (267, .ireturn, false, [], 0, 0, 0, 1, 0, []),
  (268, .aload_n 0, false, [], 0, 0, 0, 0, 0, []),
  (269, .getfield 38, false, [], 7, 20, 1, 0, 0, []),
  (272, .iload_n 1, false, [], 0, 0, 0, 0, 0, []),
  (273, .iload 4, false, [], 0, 0, 0, 0, 0, []),
  (275, .invokestatic 218, false, [], 189, 1, 1, 0, 0, []),
  (278, .iconst 3, false, [], 0, 0, 0, 0, 3, []),
  (279, .if_icmp .eq 21, false, [], 300, 0, 0, 0, 0, []),
  (282, .iload 4, false, [], 0, 0, 0, 0, 0, []),
  (284, .invokestatic 218, false, [], 189, 1, 1, 0, 0, []),
  (287, .iconst 3, false, [], 0, 0, 0, 0, 3, []),
  (288, .if_icmp .le 16, false, [], 304, 0, 0, 0, 0, []),
  (291, .aload_n 0, false, [], 0, 0, 0, 0, 0, []),
  (292, .getfield 38, false, [], 7, 20, 1, 0, 0, []),
  (295, .iload_n 1, false, [], 0, 0, 0, 0, 0, []),
  (296, .baload, false, [], 0, 0, 0, 0, 0, []),
  (297, .ifCond .eq 7, false, [], 304, 0, 0, 0, 0, []),
  (300, .iconst 1, false, [], 0, 0, 0, 0, 1, []),
  (301, .goto 4, false, [], 305, 0, 0, 0, 0, []),
  (304, .iconst 0, false, [], 0, 0, 0, 0, 0, []),
  (305, .bastore, false, [], 0, 0, 0, 0, 0, []),
  (306, .aload_n 0, false, [], 0, 0, 0, 0, 0, []),
  (307, .iload 4, false, [], 0, 0, 0, 0, 0, []),
  (309, .invokestatic 218, false, [], 189, 1, 1, 0, 0, []),
  (312, .invokevirtual 230, false, [], 190, 1, 0, 7, 0, []),
  (315, .aload_n 0, false, [], 0, 0, 0, 0, 0, []),
  (316, .getfield 35, false, [], 7, 18, 1, 0, 0, []),
  (319, .aload_n 0, false, [], 0, 0, 0, 0, 0, []),
  (320, .getfield 215, false, [], 7, 19, 0, 0, 0, []),
  (323, .iload 4, false, [], 0, 0, 0, 0, 0, []),
  (325, .iastore, false, [], 0, 0, 0, 0, 0, []),
  (326, .aload_n 0, false, [], 0, 0, 0, 0, 0, []),
  (327, .dup, false, [], 0, 0, 0, 0, 0, []),
  (328, .getfield 215, false, [], 7, 19, 0, 0, 0, []),
  (331, .iconst 1, false, [], 0, 0, 0, 0, 1, []),
  (332, .iadd, false, [], 0, 0, 0, 0, 0, []),
  (333, .putfield 215, false, [], 7, 19, 0, 0, 0, []),
  (336, .iconst 1, false, [], 0, 0, 0, 0, 1, []),
  (337, .istore_n 3, false, [], 0, 0, 0, 0, 0, []),
  (338, .aload_n 0, false, [], 0, 0, 0, 0, 0, []),
  (339, .invokevirtual 212, false, [], 186, 0, 0, 7, 0, []),
  (342, .goto (-314), false, [], 28, 0, 0, 0, 0, []),
  (345, .aload_n 0, false, [], 0, 0, 0, 0, 0, []),
  (346, .iconst 0, false, [], 0, 0, 0, 0, 0, []),
  (347, .invokevirtual 230, false, [], 190, 1, 0, 7, 0, []),
  (350, .iload_n 1, false, [], 0, 0, 0, 0, 0, []),
  (351, .ifCond .ne 7, false, [], 358, 0, 0, 0, 0, []),
  (354, .iconst 1, false, [], 0, 0, 0, 0, 1, []),
  (355, .goto 4, false, [], 359, 0, 0, 0, 0, []),
  (358, .iconst 0, false, [], 0, 0, 0, 0, 0, []),
  (359, .ireturn, false, [], 0, 0, 0, 1, 0, [])]
def kk_X7_notsOpen : List mx_I := [
  (0, .iconst 0, false, [], 0, 0, 0, 0, 0, []),
  (1, .istore_n 1, false, [], 0, 0, 0, 0, 0, []),
  (2, .iconst 0, false, [], 0, 0, 0, 0, 0, []),
  (3, .istore_n 2, false, [], 0, 0, 0, 0, 0, []),
  (4, .iload_n 2, true, [0, 1, 2], 0, 0, 0, 0, 0, []),
  (5, .aload_n 0, false, [], 0, 0, 0, 0, 0, []),
  (6, .getfield 215, false, [], 7, 19, 0, 0, 0, []),
  (9, .if_icmp .ge 28, false, [], 37, 0, 0, 0, 0, []),
  (12, .iload_n 1, false, [], 0, 0, 0, 0, 0, []),
  (13, .aload_n 0, false, [], 0, 0, 0, 0, 0, []),
  (14, .getfield 35, false, [], 7, 18, 1, 0, 0, []),
  (17, .iload_n 2, false, [], 0, 0, 0, 0, 0, []),
  (18, .iaload, false, [], 0, 0, 0, 0, 0, []),
  (19, .bipush (-10), false, [], 0, 0, 0, 0, (-10), []),
  (21, .if_icmp .ne 7, false, [], 28, 0, 0, 0, 0, []),
  (24, .iconst 1, false, [], 0, 0, 0, 0, 1, []),
  (25, .goto 4, false, [], 29, 0, 0, 0, 0, []),
  (28, .iconst 0, false, [], 0, 0, 0, 0, 0, []),
  (29, .iadd, false, [], 0, 0, 0, 0, 0, []),
  (30, .istore_n 1, false, [], 0, 0, 0, 0, 0, []),
  (31, .iinc 2 1, false, [], 0, 0, 0, 0, 1, []),
  (34, .goto (-30), false, [], 4, 0, 0, 0, 0, []),
  (37, .iload_n 1, false, [], 0, 0, 0, 0, 0, []),
  (38, .ireturn, false, [], 0, 0, 0, 0, 0, [])]
def kk_X7_text : List mx_I := [
  (0, .aload_n 0, false, [], 0, 0, 0, 0, 0, []),
  (1, .iconst 0, false, [], 0, 0, 0, 0, 0, []),
  (2, .putfield 188, false, [], 7, 7, 0, 0, 0, []),
  (5, .aload_n 0, false, [], 0, 0, 0, 0, 0, []),
  (6, .iconst (-1), false, [], 0, 0, 0, 0, (-1), []),
  (7, .putfield 194, false, [], 7, 11, 0, 0, 0, []),
  (10, .aload_n 0, false, [], 0, 0, 0, 0, 0, []),
  (11, .invokevirtual 212, false, [], 186, 0, 0, 7, 0, []),
  (14, .aload_n 0, false, [], 0, 0, 0, 0, 0, []),
  (15, .invokevirtual 243, false, [], 187, 0, 1, 7, 0, []),
  (18, .ifCond .eq 14, false, [], 32, 0, 0, 0, 0, []),
  (21, .aload_n 0, false, [], 0, 0, 0, 0, 0, []),
  (22, .invokevirtual 246, false, [], 193, 0, 1, 7, 0, []),
  (25, .ifCond .eq 7, false, [], 32, 0, 0, 0, 0, []),
  (28, .iconst 1, false, [], 0, 0, 0, 0, 1, []),
  (29, .goto 4, false, [], 33, 0, 0, 0, 0, []),
  (32, .iconst 0, false, [], 0, 0, 0, 0, 0, []),
  (33, .istore_n 1, false, [], 0, 0, 0, 0, 0, []),
  (34, .aload_n 0, false, [], 0, 0, 0, 0, 0, []),
  (35, .iconst 0, false, [], 0, 0, 0, 0, 0, []),
  (36, .putfield 184, false, [], 7, 6, 0, 0, 0, []),
  (39, .iload_n 1, false, [], 0, 0, 0, 0, 0, []),
  (40, .ifCond .ne 11, false, [], 51, 0, 0, 0, 0, []),
  (43, .bipush (-100), false, [], 0, 0, 0, 0, (-100), []),
  (45, .aload_n 0, false, [], 0, 0, 0, 0, 0, []),
  (46, .getfield 191, false, [], 7, 8, 0, 0, 0, []),
  (49, .isub, false, [], 0, 0, 0, 0, 0, []),
  (50, .ireturn, false, [], 0, 0, 0, 0, 0, []),
  (51, .aload_n 0, false, [], 0, 0, 0, 0, 0, []),
  (52, .getfield 9, false, [], 7, 0, 1, 0, 0, []),
  (55, .bipush 10, false, [], 0, 0, 0, 0, 10, []),
  (57, .iaload, false, [], 0, 0, 0, 0, 0, []),
  (58, .bipush 14, false, [], 0, 0, 0, 0, 14, []),
  (60, .if_icmp .ne 6, false, [], 66, 0, 0, 0, 0, []),
  (63, .ldc 102, false, [], 0, 0, 0, 0, (-1000000003), []),
  (65, .ireturn, false, [], 0, 0, 0, 0, 0, []),
  (66, .aload_n 0, false, [], 0, 0, 0, 0, 0, []),
  (67, .getfield 9, false, [], 7, 0, 1, 0, 0, []),
  (70, .bipush 10, false, [], 0, 0, 0, 0, 10, []),
  (72, .iaload, false, [], 0, 0, 0, 0, 0, []),
  (73, .istore_n 2, false, [], 0, 0, 0, 0, 0, []),
  (74, .aload_n 0, false, [], 0, 0, 0, 0, 0, []),
  (75, .getfield 9, false, [], 7, 0, 1, 0, 0, []),
  (78, .bipush 71, false, [], 0, 0, 0, 0, 71, []),
  (80, .iconst 2, false, [], 0, 0, 0, 0, 2, []),
  (81, .iload_n 2, false, [], 0, 0, 0, 0, 0, []),
  (82, .imul, false, [], 0, 0, 0, 0, 0, []),
  (83, .iadd, false, [], 0, 0, 0, 0, 0, []),
  (84, .sipush 1000, false, [], 0, 0, 0, 0, 1000, []),
  (87, .aload_n 0, false, [], 0, 0, 0, 0, 0, []),
  (88, .getfield 209, false, [], 7, 12, 0, 0, 0, []),
  (91, .imul, false, [], 0, 0, 0, 0, 0, []),
  (92, .aload_n 0, false, [], 0, 0, 0, 0, 0, []),
  (93, .getfield 221, false, [], 7, 16, 0, 0, 0, []),
  (96, .iadd, false, [], 0, 0, 0, 0, 0, []),
  (97, .iastore, false, [], 0, 0, 0, 0, 0, []),
  (98, .aload_n 0, false, [], 0, 0, 0, 0, 0, []),
  (99, .getfield 9, false, [], 7, 0, 1, 0, 0, []),
  (102, .bipush 71, false, [], 0, 0, 0, 0, 71, []),
  (104, .iconst 2, false, [], 0, 0, 0, 0, 2, []),
  (105, .iload_n 2, false, [], 0, 0, 0, 0, 0, []),
  (106, .imul, false, [], 0, 0, 0, 0, 0, []),
  (107, .iadd, false, [], 0, 0, 0, 0, 0, []),
  (108, .iconst 1, false, [], 0, 0, 0, 0, 1, []),
  (109, .iadd, false, [], 0, 0, 0, 0, 0, []),
  (110, .aload_n 0, false, [], 0, 0, 0, 0, 0, []),
  (111, .getfield 227, false, [], 7, 17, 0, 0, 0, []),
  (114, .iastore, false, [], 0, 0, 0, 0, 0, []),
  (115, .iconst 0, false, [], 0, 0, 0, 0, 0, []),
  (116, .istore_n 3, false, [], 0, 0, 0, 0, 0, []),
  (117, .iload_n 3, true, [0, 2, 3], 0, 0, 0, 0, 0, []),
  (118, .aload_n 0, false, [], 0, 0, 0, 0, 0, []),
  (119, .getfield 221, false, [], 7, 16, 0, 0, 0, []),
  (122, .if_icmp .ge 29, false, [], 151, 0, 0, 0, 0, []),
  (125, .aload_n 0, false, [], 0, 0, 0, 0, 0, []),
  (126, .getfield 9, false, [], 7, 0, 1, 0, 0, []),
  (129, .bipush 99, false, [], 0, 0, 0, 0, 99, []),
  (131, .bipush 96, false, [], 0, 0, 0, 0, 96, []),
  (133, .iload_n 2, false, [], 0, 0, 0, 0, 0, []),
  (134, .imul, false, [], 0, 0, 0, 0, 0, []),
  (135, .iadd, false, [], 0, 0, 0, 0, 0, []),
  (136, .iload_n 3, false, [], 0, 0, 0, 0, 0, []),
  (137, .iadd, false, [], 0, 0, 0, 0, 0, []),
  (138, .aload_n 0, false, [], 0, 0, 0, 0, 0, []),
  (139, .getfield 32, false, [], 7, 15, 1, 0, 0, []),
  (142, .iload_n 3, false, [], 0, 0, 0, 0, 0, []),
  (143, .iaload, false, [], 0, 0, 0, 0, 0, []),
  (144, .iastore, false, [], 0, 0, 0, 0, 0, []),
  (145, .iinc 3 1, false, [], 0, 0, 0, 0, 1, []),
  (148, .goto (-31), false, [], 117, 0, 0, 0, 0, []),
  (151, .aload_n 0, false, [], 0, 0, 0, 0, 0, []),
  (152, .getfield 9, false, [], 7, 0, 1, 0, 0, []),
  (155, .bipush 10, false, [], 0, 0, 0, 0, 10, []),
  (157, .dup2, false, [], 0, 0, 0, 0, 0, []),
  (158, .iaload, false, [], 0, 0, 0, 0, 0, []),
  (159, .iconst 1, false, [], 0, 0, 0, 0, 1, []),
  (160, .iadd, false, [], 0, 0, 0, 0, 0, []),
  (161, .iastore, false, [], 0, 0, 0, 0, 0, []),
  (162, .iload_n 2, false, [], 0, 0, 0, 0, 0, []),
  (163, .ireturn, false, [], 0, 0, 0, 0, 0, [])]
def kk_X7_textTold : List mx_I := [
  (0, .iload_n 1, false, [], 0, 0, 0, 0, 0, []),
  (1, .iconst 0, false, [], 0, 0, 0, 0, 0, []),
  (2, .aload_n 0, false, [], 0, 0, 0, 0, 0, []),
  (3, .getfield 9, false, [], 7, 0, 1, 0, 0, []),
  (6, .bipush 10, false, [], 0, 0, 0, 0, 10, []),
  (8, .iaload, false, [], 0, 0, 0, 0, 0, []),
  (9, .iconst 1, false, [], 0, 0, 0, 0, 1, []),
  (10, .isub, false, [], 0, 0, 0, 0, 0, []),
  (11, .invokestatic 75, false, [], 133, 3, 1, 0, 0, []),
  (14, .ifCond .eq 12, false, [], 26, 0, 0, 0, 0, []),
  (17, .iload_n 2, false, [], 0, 0, 0, 0, 0, []),
  (18, .iconst 0, false, [], 0, 0, 0, 0, 0, []),
  (19, .iconst 1, false, [], 0, 0, 0, 0, 1, []),
  (20, .invokestatic 75, false, [], 133, 3, 1, 0, 0, []),
  (23, .ifCond .ne 6, false, [], 29, 0, 0, 0, 0, []),
  (26, .ldc 101, false, [], 0, 0, 0, 0, (-1000000001), []),
  (28, .ireturn, false, [], 0, 0, 0, 0, 0, []),
  (29, .iload_n 2, false, [], 0, 0, 0, 0, 0, []),
  (30, .ifCond .ne 21, false, [], 51, 0, 0, 0, 0, []),
  (33, .aload_n 0, false, [], 0, 0, 0, 0, 0, []),
  (34, .getfield 9, false, [], 7, 0, 1, 0, 0, []),
  (37, .bipush 71, false, [], 0, 0, 0, 0, 71, []),
  (39, .iconst 2, false, [], 0, 0, 0, 0, 2, []),
  (40, .iload_n 1, false, [], 0, 0, 0, 0, 0, []),
  (41, .imul, false, [], 0, 0, 0, 0, 0, []),
  (42, .iadd, false, [], 0, 0, 0, 0, 0, []),
  (43, .iaload, false, [], 0, 0, 0, 0, 0, []),
  (44, .sipush 1000, false, [], 0, 0, 0, 0, 1000, []),
  (47, .idiv, false, [], 0, 0, 0, 0, 0, []),
  (48, .goto 16, false, [], 64, 0, 0, 0, 0, []),
  (51, .aload_n 0, false, [], 0, 0, 0, 0, 0, []),
  (52, .getfield 9, false, [], 7, 0, 1, 0, 0, []),
  (55, .bipush 71, false, [], 0, 0, 0, 0, 71, []),
  (57, .iconst 2, false, [], 0, 0, 0, 0, 2, []),
  (58, .iload_n 1, false, [], 0, 0, 0, 0, 0, []),
  (59, .imul, false, [], 0, 0, 0, 0, 0, []),
  (60, .iadd, false, [], 0, 0, 0, 0, 0, []),
  (61, .iconst 1, false, [], 0, 0, 0, 0, 1, []),
  (62, .iadd, false, [], 0, 0, 0, 0, 0, []),
  (63, .iaload, false, [], 0, 0, 0, 0, 0, []),
  (64, .ireturn, false, [], 0, 0, 0, 0, 0, [])]
def kk_X7_counts : List mx_I := [
  (0, .aload_n 0, false, [], 0, 0, 0, 0, 0, []),
  (1, .getfield 9, false, [], 7, 0, 1, 0, 0, []),
  (4, .bipush 10, false, [], 0, 0, 0, 0, 10, []),
  (6, .iaload, false, [], 0, 0, 0, 0, 0, []),
  (7, .iconst 1, false, [], 0, 0, 0, 0, 1, []),
  (8, .isub, false, [], 0, 0, 0, 0, 0, []),
  (9, .istore_n 2, false, [], 0, 0, 0, 0, 0, []),
  (10, .iload_n 2, true, [0, 1, 2], 0, 0, 0, 0, 0, []),
  (11, .ifCond .lt 30, false, [], 41, 0, 0, 0, 0, []),
  (14, .aload_n 0, false, [], 0, 0, 0, 0, 0, []),
  (15, .getfield 9, false, [], 7, 0, 1, 0, 0, []),
  (18, .bipush 71, false, [], 0, 0, 0, 0, 71, []),
  (20, .iconst 2, false, [], 0, 0, 0, 0, 2, []),
  (21, .iload_n 2, false, [], 0, 0, 0, 0, 0, []),
  (22, .imul, false, [], 0, 0, 0, 0, 0, []),
  (23, .iadd, false, [], 0, 0, 0, 0, 0, []),
  (24, .iaload, false, [], 0, 0, 0, 0, 0, []),
  (25, .sipush 1000, false, [], 0, 0, 0, 0, 1000, []),
  (28, .idiv, false, [], 0, 0, 0, 0, 0, []),
  (29, .iload_n 1, false, [], 0, 0, 0, 0, 0, []),
  (30, .if_icmp .ne 5, false, [], 35, 0, 0, 0, 0, []),
  (33, .iload_n 2, false, [], 0, 0, 0, 0, 0, []),
  (34, .ireturn, false, [], 0, 0, 0, 0, 0, []),
  (35, .iinc 2 (-1), false, [], 0, 0, 0, 0, (-1), []),
  (38, .goto (-28), false, [], 10, 0, 0, 0, 0, []),
  (41, .iconst (-1), false, [], 0, 0, 0, 0, (-1), []),
  (42, .ireturn, false, [], 0, 0, 0, 0, 0, [])]
def kk_X7_why : List mx_I := [
  (0, .iload_n 1, false, [], 0, 0, 0, 0, 0, []),
  (1, .iconst 0, false, [], 0, 0, 0, 0, 0, []),
  (2, .iconst 2, false, [], 0, 0, 0, 0, 2, []),
  (3, .invokestatic 75, false, [], 133, 3, 1, 0, 0, []),
  (6, .ifCond .ne 6, false, [], 12, 0, 0, 0, 0, []),
  (9, .ldc 101, false, [], 0, 0, 0, 0, (-1000000001), []),
  (11, .ireturn, false, [], 0, 0, 0, 0, 0, []),
  (12, .aload_n 0, false, [], 0, 0, 0, 0, 0, []),
  (13, .iload_n 1, false, [], 0, 0, 0, 0, 0, []),
  (14, .invokevirtual 79, false, [], 197, 1, 1, 7, 0, []),
  (17, .istore_n 2, false, [], 0, 0, 0, 0, 0, []),
  (18, .iload_n 2, false, [], 0, 0, 0, 0, 0, []),
  (19, .ifCond .ge 8, false, [], 27, 0, 0, 0, 0, []),
  (22, .ldc 160, false, [], 0, 0, 0, 0, (-1000000005), []),
  (24, .goto 4, false, [], 28, 0, 0, 0, 0, []),
  (27, .iload_n 2, false, [], 0, 0, 0, 0, 0, []),
  (28, .ireturn, false, [], 0, 0, 0, 0, 0, [])]
def kk_X7_two : List mx_I := [
  (0, .iload_n 0, false, [], 0, 0, 0, 0, 0, []),
  (1, .tableswitch 120 (-8) (-1) #[116, 112, 108, 97, 86, 75, 61, 47], false, [], 121, 47, 0, 0, 0, [((-8), 117), ((-7), 113), ((-6), 109), ((-5), 98), ((-4), 87), ((-3), 76), ((-2), 62), ((-1), 48)]),
  (48, .iload_n 1, false, [], 0, 0, 0, 0, 0, []),
  (49, .ifCond .ne 7, false, [], 56, 0, 0, 0, 0, []),
  (52, .iload_n 2, false, [], 0, 0, 0, 0, 0, []),
  (53, .ifCond .eq 7, false, [], 60, 0, 0, 0, 0, []),
  (56, .iconst 1, false, [], 0, 0, 0, 0, 1, []),
  (57, .goto 4, false, [], 61, 0, 0, 0, 0, []),
  (60, .iconst 0, false, [], 0, 0, 0, 0, 0, []),
  (61, .ireturn, false, [], 0, 0, 0, 0, 0, []),
  (62, .iload_n 1, false, [], 0, 0, 0, 0, 0, []),
  (63, .ifCond .eq 11, false, [], 74, 0, 0, 0, 0, []),
  (66, .iload_n 2, false, [], 0, 0, 0, 0, 0, []),
  (67, .ifCond .eq 7, false, [], 74, 0, 0, 0, 0, []),
  (70, .iconst 1, false, [], 0, 0, 0, 0, 1, []),
  (71, .goto 4, false, [], 75, 0, 0, 0, 0, []),
  (74, .iconst 0, false, [], 0, 0, 0, 0, 0, []),
  (75, .ireturn, false, [], 0, 0, 0, 0, 0, []),
  (76, .iload_n 1, false, [], 0, 0, 0, 0, 0, []),
  (77, .iload_n 2, false, [], 0, 0, 0, 0, 0, []),
  (78, .if_icmp .ge 7, false, [], 85, 0, 0, 0, 0, []),
  (81, .iconst 1, false, [], 0, 0, 0, 0, 1, []),
  (82, .goto 4, false, [], 86, 0, 0, 0, 0, []),
  (85, .iconst 0, false, [], 0, 0, 0, 0, 0, []),
  (86, .ireturn, false, [], 0, 0, 0, 0, 0, []),
  (87, .iload_n 1, false, [], 0, 0, 0, 0, 0, []),
  (88, .iload_n 2, false, [], 0, 0, 0, 0, 0, []),
  (89, .if_icmp .ne 7, false, [], 96, 0, 0, 0, 0, []),
  (92, .iconst 1, false, [], 0, 0, 0, 0, 1, []),
  (93, .goto 4, false, [], 97, 0, 0, 0, 0, []),
  (96, .iconst 0, false, [], 0, 0, 0, 0, 0, []),
  (97, .ireturn, false, [], 0, 0, 0, 0, 0, []),
  (98, .iload_n 1, false, [], 0, 0, 0, 0, 0, []),
  (99, .iload_n 2, false, [], 0, 0, 0, 0, 0, []),
  (100, .if_icmp .le 7, false, [], 107, 0, 0, 0, 0, []),
  (103, .iconst 1, false, [], 0, 0, 0, 0, 1, []),
  (104, .goto 4, false, [], 108, 0, 0, 0, 0, []),
  (107, .iconst 0, false, [], 0, 0, 0, 0, 0, []),
  (108, .ireturn, false, [], 0, 0, 0, 0, 0, []),
  (109, .iload_n 1, false, [], 0, 0, 0, 0, 0, []),
  (110, .iload_n 2, false, [], 0, 0, 0, 0, 0, []),
  (111, .iadd, false, [], 0, 0, 0, 0, 0, []),
  (112, .ireturn, false, [], 0, 0, 0, 0, 0, []),
  (113, .iload_n 1, false, [], 0, 0, 0, 0, 0, []),
  (114, .iload_n 2, false, [], 0, 0, 0, 0, 0, []),
  (115, .isub, false, [], 0, 0, 0, 0, 0, []),
  (116, .ireturn, false, [], 0, 0, 0, 0, 0, []),
  (117, .iload_n 1, false, [], 0, 0, 0, 0, 0, []),
  (118, .iload_n 2, false, [], 0, 0, 0, 0, 0, []),
  (119, .imul, false, [], 0, 0, 0, 0, 0, []),
  (120, .ireturn, false, [], 0, 0, 0, 0, 0, []),
  (121, .iload_n 2, false, [], 0, 0, 0, 0, 0, []),
  (122, .ifCond .ne 7, false, [], 129, 0, 0, 0, 0, []),
  (125, .iconst 0, false, [], 0, 0, 0, 0, 0, []),
  (126, .goto 6, false, [], 132, 0, 0, 0, 0, []),
  (129, .iload_n 1, false, [], 0, 0, 0, 0, 0, []),
  (130, .iload_n 2, false, [], 0, 0, 0, 0, 0, []),
  (131, .idiv, false, [], 0, 0, 0, 0, 0, []),
  (132, .ireturn, false, [], 0, 0, 0, 0, 0, [])]
def kk_X7_worksOut : List mx_I := [
  (0, .iconst 0, false, [], 0, 0, 0, 0, 0, []),
  (1, .istore_n 2, false, [], 0, 0, 0, 0, 0, []),
  (2, .aload_n 0, false, [], 0, 0, 0, 0, 0, []),
  (3, .getfield 9, false, [], 7, 0, 1, 0, 0, []),
  (6, .bipush 71, false, [], 0, 0, 0, 0, 71, []),
  (8, .iconst 2, false, [], 0, 0, 0, 0, 2, []),
  (9, .iload_n 1, false, [], 0, 0, 0, 0, 0, []),
  (10, .imul, false, [], 0, 0, 0, 0, 0, []),
  (11, .iadd, false, [], 0, 0, 0, 0, 0, []),
  (12, .iaload, false, [], 0, 0, 0, 0, 0, []),
  (13, .sipush 1000, false, [], 0, 0, 0, 0, 1000, []),
  (16, .irem, false, [], 0, 0, 0, 0, 0, []),
  (17, .istore_n 3, false, [], 0, 0, 0, 0, 0, []),
  (18, .iconst 0, false, [], 0, 0, 0, 0, 0, []),
  (19, .istore 4, false, [], 0, 0, 0, 0, 0, []),
  (21, .iload 4, true, [0, 1, 2, 3, 4], 0, 0, 0, 0, 0, []),
  (23, .iload_n 3, false, [], 0, 0, 0, 0, 0, []),
  (24, .if_icmp .ge 131, false, [], 155, 0, 0, 0, 0, []),
  (27, .aload_n 0, false, [], 0, 0, 0, 0, 0, []),
  (28, .getfield 9, false, [], 7, 0, 1, 0, 0, []),
  (31, .bipush 99, false, [], 0, 0, 0, 0, 99, []),
  (33, .bipush 96, false, [], 0, 0, 0, 0, 96, []),
  (35, .iload_n 1, false, [], 0, 0, 0, 0, 0, []),
  (36, .imul, false, [], 0, 0, 0, 0, 0, []),
  (37, .iadd, false, [], 0, 0, 0, 0, 0, []),
  (38, .iload 4, false, [], 0, 0, 0, 0, 0, []),
  (40, .iadd, false, [], 0, 0, 0, 0, 0, []),
  (41, .iaload, false, [], 0, 0, 0, 0, 0, []),
  (42, .istore 5, false, [], 0, 0, 0, 0, 0, []),
  (44, .iload 5, false, [], 0, 0, 0, 0, 0, []),
  (46, .ifCond .lt 39, false, [], 85, 0, 0, 0, 0, []),
  (49, .aload_n 0, false, [], 0, 0, 0, 0, 0, []),
  (50, .getfield 42, false, [], 7, 21, 1, 0, 0, []),
  (53, .iload_n 2, false, [], 0, 0, 0, 0, 0, []),
  (54, .iload 5, false, [], 0, 0, 0, 0, 0, []),
  (56, .sipush 10000, false, [], 0, 0, 0, 0, 10000, []),
  (59, .if_icmp .ge 8, false, [], 67, 0, 0, 0, 0, []),
  (62, .iload 5, false, [], 0, 0, 0, 0, 0, []),
  (64, .goto 14, false, [], 78, 0, 0, 0, 0, []),
  (67, .aload_n 0, false, [], 0, 0, 0, 0, 0, []),
  (68, .getfield 45, false, [], 7, 22, 1, 0, 0, []),
  (71, .iload 5, false, [], 0, 0, 0, 0, 0, []),
  (73, .sipush 10000, false, [], 0, 0, 0, 0, 10000, []),
  (76, .isub, false, [], 0, 0, 0, 0, 0, []),
  (77, .iaload, false, [], 0, 0, 0, 0, 0, []),
  (78, .iastore, false, [], 0, 0, 0, 0, 0, []),
  (79, .iinc 2 1, false, [], 0, 0, 0, 0, 1, []),
  (82, .goto 67, false, [], 149, 0, 0, 0, 0, []),
  (85, .iload 5, false, [], 0, 0, 0, 0, 0, []),
  (87, .bipush (-10), false, [], 0, 0, 0, 0, (-10), []),
  (89, .if_icmp .ne 30, false, [], 119, 0, 0, 0, 0, []),
  (92, .aload_n 0, false, [], 0, 0, 0, 0, 0, []),
  (93, .getfield 42, false, [], 7, 21, 1, 0, 0, []),
  (96, .iload_n 2, false, [], 0, 0, 0, 0, 0, []),
  (97, .iconst 1, false, [], 0, 0, 0, 0, 1, []),
  (98, .isub, false, [], 0, 0, 0, 0, 0, []),
  (99, .aload_n 0, false, [], 0, 0, 0, 0, 0, []),
  (100, .getfield 42, false, [], 7, 21, 1, 0, 0, []),
  (103, .iload_n 2, false, [], 0, 0, 0, 0, 0, []),
  (104, .iconst 1, false, [], 0, 0, 0, 0, 1, []),
  (105, .isub, false, [], 0, 0, 0, 0, 0, []),
  (106, .iaload, false, [], 0, 0, 0, 0, 0, []),
  (107, .ifCond .ne 7, false, [], 114, 0, 0, 0, 0, []),
  (110, .iconst 1, false, [], 0, 0, 0, 0, 1, []),
  (111, .goto 4, false, [], 115, 0, 0, 0, 0, []),
  (114, .iconst 0, false, [], 0, 0, 0, 0, 0, []),
  (115, .iastore, false, [], 0, 0, 0, 0, 0, []),
  (116, .goto 33, false, [], 149, 0, 0, 0, 0, []),
  (119, .iinc 2 (-1), false, [], 0, 0, 0, 0, (-1), []),
  (122, .aload_n 0, false, [], 0, 0, 0, 0, 0, []),
  (123, .getfield 42, false, [], 7, 21, 1, 0, 0, []),
  (126, .iload_n 2, false, [], 0, 0, 0, 0, 0, []),
  (127, .iconst 1, false, [], 0, 0, 0, 0, 1, []),
  (128, .isub, false, [], 0, 0, 0, 0, 0, []),
  (129, .iload 5, false, [], 0, 0, 0, 0, 0, []),
  (131, .aload_n 0, false, [], 0, 0, 0, 0, 0, []),
  (132, .getfield 42, false, [], 7, 21, 1, 0, 0, []),
  (135, .iload_n 2, false, [], 0, 0, 0, 0, 0, []),
  (136, .iconst 1, false, [], 0, 0, 0, 0, 1, []),
  (137, .isub, false, [], 0, 0, 0, 0, 0, []),
  (138, .iaload, false, [], 0, 0, 0, 0, 0, []),
  (139, .aload_n 0, false, [], 0, 0, 0, 0, 0, []),
  (140, .getfield 42, false, [], 7, 21, 1, 0, 0, []),
  (143, .iload_n 2, false, [], 0, 0, 0, 0, 0, []),
  (144, .iaload, false, [], 0, 0, 0, 0, 0, []),
  (145, .invokestatic 249, false, [], 199, 3, 1, 0, 0, []),
  (148, .iastore, false, [], 0, 0, 0, 0, 0, []),
  (149, .iinc 4 1, false, [], 0, 0, 0, 0, 1, []),
  (152, .goto (-131), false, [], 21, 0, 0, 0, 0, []),
  (155, .aload_n 0, false, [], 0, 0, 0, 0, 0, []),
  (156, .getfield 42, false, [], 7, 21, 1, 0, 0, []),
  (159, .iconst 0, false, [], 0, 0, 0, 0, 0, []),
  (160, .iaload, false, [], 0, 0, 0, 0, 0, []),
  (161, .ireturn, false, [], 0, 0, 0, 0, 0, [])]
def kk_X7_isSheet : List mx_I := [
  (0, .iload_n 0, false, [], 0, 0, 0, 0, 0, []),
  (1, .iconst 0, false, [], 0, 0, 0, 0, 0, []),
  (2, .iconst 3, false, [], 0, 0, 0, 0, 3, []),
  (3, .invokestatic 75, false, [], 133, 3, 1, 0, 0, []),
  (6, .ireturn, false, [], 0, 0, 0, 1, 0, [])]
def kk_X7_isSlot : List mx_I := [
  (0, .iload_n 0, false, [], 0, 0, 0, 0, 0, []),
  (1, .iconst 0, false, [], 0, 0, 0, 0, 0, []),
  (2, .iconst 4, false, [], 0, 0, 0, 0, 4, []),
  (3, .invokestatic 75, false, [], 133, 3, 1, 0, 0, []),
  (6, .ireturn, false, [], 0, 0, 0, 1, 0, [])]
def kk_X7_sheet : List mx_I := [
  (0, .iload_n 1, false, [], 0, 0, 0, 0, 0, []),
  (1, .invokestatic 180, false, [], 201, 1, 1, 0, 0, []),
  (4, .ifCond .eq 22, false, [], 26, 0, 0, 0, 0, []),
  (7, .iload_n 2, false, [], 0, 0, 0, 0, 0, []),
  (8, .iconst (-1), false, [], 0, 0, 0, 0, (-1), []),
  (9, .iconst 1, false, [], 0, 0, 0, 0, 1, []),
  (10, .invokestatic 75, false, [], 133, 3, 1, 0, 0, []),
  (13, .ifCond .eq 13, false, [], 26, 0, 0, 0, 0, []),
  (16, .iload_n 2, false, [], 0, 0, 0, 0, 0, []),
  (17, .ifCond .lt 12, false, [], 29, 0, 0, 0, 0, []),
  (20, .iload_n 3, false, [], 0, 0, 0, 0, 0, []),
  (21, .bipush 24, false, [], 0, 0, 0, 0, 24, []),
  (23, .if_icmp .le 6, false, [], 29, 0, 0, 0, 0, []),
  (26, .ldc 101, false, [], 0, 0, 0, 0, (-1000000001), []),
  (28, .ireturn, false, [], 0, 0, 0, 0, 0, []),
  (29, .iload_n 2, false, [], 0, 0, 0, 0, 0, []),
  (30, .ifCond .lt 10, false, [], 40, 0, 0, 0, 0, []),
  (33, .iload_n 3, false, [], 0, 0, 0, 0, 0, []),
  (34, .ifCond .ge 6, false, [], 40, 0, 0, 0, 0, []),
  (37, .ldc 252, false, [], 0, 0, 0, 0, (-1000000014), []),
  (39, .ireturn, false, [], 0, 0, 0, 0, 0, []),
  (40, .aload_n 0, false, [], 0, 0, 0, 0, 0, []),
  (41, .getfield 48, false, [], 7, 23, 1, 0, 0, []),
  (44, .iload_n 1, false, [], 0, 0, 0, 0, 0, []),
  (45, .iload_n 2, false, [], 0, 0, 0, 0, 0, []),
  (46, .iastore, false, [], 0, 0, 0, 0, 0, []),
  (47, .aload_n 0, false, [], 0, 0, 0, 0, 0, []),
  (48, .getfield 51, false, [], 7, 24, 1, 0, 0, []),
  (51, .iload_n 1, false, [], 0, 0, 0, 0, 0, []),
  (52, .iload_n 2, false, [], 0, 0, 0, 0, 0, []),
  (53, .ifCond .ge 7, false, [], 60, 0, 0, 0, 0, []),
  (56, .iconst 0, false, [], 0, 0, 0, 0, 0, []),
  (57, .goto 4, false, [], 61, 0, 0, 0, 0, []),
  (60, .iload_n 3, false, [], 0, 0, 0, 0, 0, []),
  (61, .iastore, false, [], 0, 0, 0, 0, 0, []),
  (62, .iconst 0, false, [], 0, 0, 0, 0, 0, []),
  (63, .istore 4, false, [], 0, 0, 0, 0, 0, []),
  (65, .iload 4, true, [0, 1, 4], 0, 0, 0, 0, 0, []),
  (67, .bipush 24, false, [], 0, 0, 0, 0, 24, []),
  (69, .if_icmp .ge 22, false, [], 91, 0, 0, 0, 0, []),
  (72, .aload_n 0, false, [], 0, 0, 0, 0, 0, []),
  (73, .getfield 54, false, [], 7, 25, 1, 0, 0, []),
  (76, .bipush 24, false, [], 0, 0, 0, 0, 24, []),
  (78, .iload_n 1, false, [], 0, 0, 0, 0, 0, []),
  (79, .imul, false, [], 0, 0, 0, 0, 0, []),
  (80, .iload 4, false, [], 0, 0, 0, 0, 0, []),
  (82, .iadd, false, [], 0, 0, 0, 0, 0, []),
  (83, .iconst 0, false, [], 0, 0, 0, 0, 0, []),
  (84, .iastore, false, [], 0, 0, 0, 0, 0, []),
  (85, .iinc 4 1, false, [], 0, 0, 0, 0, 1, []),
  (88, .goto (-23), false, [], 65, 0, 0, 0, 0, []),
  (91, .aload_n 0, false, [], 0, 0, 0, 0, 0, []),
  (92, .getfield 51, false, [], 7, 24, 1, 0, 0, []),
  (95, .iload_n 1, false, [], 0, 0, 0, 0, 0, []),
  (96, .iaload, false, [], 0, 0, 0, 0, 0, []),
  (97, .ireturn, false, [], 0, 0, 0, 0, 0, [])]
def kk_X7_mark : List mx_I := [
  (0, .iload_n 1, false, [], 0, 0, 0, 0, 0, []),
  (1, .invokestatic 180, false, [], 201, 1, 1, 0, 0, []),
  (4, .ifCond .ne 6, false, [], 10, 0, 0, 0, 0, []),
  (7, .ldc 101, false, [], 0, 0, 0, 0, (-1000000001), []),
  (9, .ireturn, false, [], 0, 0, 0, 0, 0, []),
  (10, .aload_n 0, false, [], 0, 0, 0, 0, 0, []),
  (11, .getfield 48, false, [], 7, 23, 1, 0, 0, []),
  (14, .iload_n 1, false, [], 0, 0, 0, 0, 0, []),
  (15, .iaload, false, [], 0, 0, 0, 0, 0, []),
  (16, .ifCond .ge 6, false, [], 22, 0, 0, 0, 0, []),
  (19, .ldc 183, false, [], 0, 0, 0, 0, (-1000000011), []),
  (21, .ireturn, false, [], 0, 0, 0, 0, 0, []),
  (22, .iload_n 2, false, [], 0, 0, 0, 0, 0, []),
  (23, .iconst 0, false, [], 0, 0, 0, 0, 0, []),
  (24, .aload_n 0, false, [], 0, 0, 0, 0, 0, []),
  (25, .getfield 51, false, [], 7, 24, 1, 0, 0, []),
  (28, .iload_n 1, false, [], 0, 0, 0, 0, 0, []),
  (29, .iaload, false, [], 0, 0, 0, 0, 0, []),
  (30, .iconst 1, false, [], 0, 0, 0, 0, 1, []),
  (31, .isub, false, [], 0, 0, 0, 0, 0, []),
  (32, .invokestatic 75, false, [], 133, 3, 1, 0, 0, []),
  (35, .ifCond .ne 6, false, [], 41, 0, 0, 0, 0, []),
  (38, .ldc 253, false, [], 0, 0, 0, 0, (-1000000013), []),
  (40, .ireturn, false, [], 0, 0, 0, 0, 0, []),
  (41, .aload_n 0, false, [], 0, 0, 0, 0, 0, []),
  (42, .getfield 48, false, [], 7, 23, 1, 0, 0, []),
  (45, .iload_n 1, false, [], 0, 0, 0, 0, 0, []),
  (46, .iaload, false, [], 0, 0, 0, 0, 0, []),
  (47, .ifCond .ne 12, false, [], 59, 0, 0, 0, 0, []),
  (50, .iload_n 3, false, [], 0, 0, 0, 0, 0, []),
  (51, .ldc 160, false, [], 0, 0, 0, 0, (-1000000005), []),
  (53, .if_icmp .ne 6, false, [], 59, 0, 0, 0, 0, []),
  (56, .ldc 126, false, [], 0, 0, 0, 0, (-1000000012), []),
  (58, .ireturn, false, [], 0, 0, 0, 0, 0, []),
  (59, .aload_n 0, false, [], 0, 0, 0, 0, 0, []),
  (60, .getfield 48, false, [], 7, 23, 1, 0, 0, []),
  (63, .iload_n 1, false, [], 0, 0, 0, 0, 0, []),
  (64, .iaload, false, [], 0, 0, 0, 0, 0, []),
  (65, .iconst 1, false, [], 0, 0, 0, 0, 1, []),
  (66, .if_icmp .ne 23, false, [], 89, 0, 0, 0, 0, []),
  (69, .iload_n 3, false, [], 0, 0, 0, 0, 0, []),
  (70, .ldc 160, false, [], 0, 0, 0, 0, (-1000000005), []),
  (72, .if_icmp .eq 17, false, [], 89, 0, 0, 0, 0, []),
  (75, .iload_n 3, false, [], 0, 0, 0, 0, 0, []),
  (76, .ldc 254, false, [], 0, 0, 0, 0, (-99999), []),
  (78, .ldc 255, false, [], 0, 0, 0, 0, 99999, []),
  (80, .invokestatic 75, false, [], 133, 3, 1, 0, 0, []),
  (83, .ifCond .ne 6, false, [], 89, 0, 0, 0, 0, []),
  (86, .ldc 101, false, [], 0, 0, 0, 0, (-1000000001), []),
  (88, .ireturn, false, [], 0, 0, 0, 0, 0, []),
  (89, .aload_n 0, false, [], 0, 0, 0, 0, 0, []),
  (90, .getfield 54, false, [], 7, 25, 1, 0, 0, []),
  (93, .bipush 24, false, [], 0, 0, 0, 0, 24, []),
  (95, .iload_n 1, false, [], 0, 0, 0, 0, 0, []),
  (96, .imul, false, [], 0, 0, 0, 0, 0, []),
  (97, .iload_n 2, false, [], 0, 0, 0, 0, 0, []),
  (98, .iadd, false, [], 0, 0, 0, 0, 0, []),
  (99, .aload_n 0, false, [], 0, 0, 0, 0, 0, []),
  (100, .getfield 48, false, [], 7, 23, 1, 0, 0, []),
  (103, .iload_n 1, false, [], 0, 0, 0, 0, 0, []),
  (104, .iaload, false, [], 0, 0, 0, 0, 0, []),
  (105, .ifCond .ne 8, false, [], 113, 0, 0, 0, 0, []),
  (108, .iload_n 3, false, [], 0, 0, 0, 0, 0, []),
  (109, .i2s, false, [], 0, 0, 0, 0, 0, []),
  (110, .goto 4, false, [], 114, 0, 0, 0, 0, []),
  (113, .iload_n 3, false, [], 0, 0, 0, 0, 0, []),
  (114, .iastore, false, [], 0, 0, 0, 0, 0, []),
  (115, .iconst 1, false, [], 0, 0, 0, 0, 1, []),
  (116, .ireturn, false, [], 0, 0, 0, 0, 0, [])]
def kk_X7_pour : List mx_I := [
  (0, .iload_n 1, false, [], 0, 0, 0, 0, 0, []),
  (1, .invokestatic 180, false, [], 201, 1, 1, 0, 0, []),
  (4, .ifCond .ne 6, false, [], 10, 0, 0, 0, 0, []),
  (7, .ldc 101, false, [], 0, 0, 0, 0, (-1000000001), []),
  (9, .ireturn, false, [], 0, 0, 0, 0, 0, []),
  (10, .aload_n 0, false, [], 0, 0, 0, 0, 0, []),
  (11, .getfield 48, false, [], 7, 23, 1, 0, 0, []),
  (14, .iload_n 1, false, [], 0, 0, 0, 0, 0, []),
  (15, .iaload, false, [], 0, 0, 0, 0, 0, []),
  (16, .ifCond .ge 6, false, [], 22, 0, 0, 0, 0, []),
  (19, .ldc 183, false, [], 0, 0, 0, 0, (-1000000011), []),
  (21, .ireturn, false, [], 0, 0, 0, 0, 0, []),
  (22, .iconst 0, false, [], 0, 0, 0, 0, 0, []),
  (23, .istore_n 2, false, [], 0, 0, 0, 0, 0, []),
  (24, .iconst 0, false, [], 0, 0, 0, 0, 0, []),
  (25, .istore_n 3, false, [], 0, 0, 0, 0, 0, []),
  (26, .iload_n 3, true, [0, 1, 2, 3], 0, 0, 0, 0, 0, []),
  (27, .aload_n 0, false, [], 0, 0, 0, 0, 0, []),
  (28, .getfield 51, false, [], 7, 24, 1, 0, 0, []),
  (31, .iload_n 1, false, [], 0, 0, 0, 0, 0, []),
  (32, .iaload, false, [], 0, 0, 0, 0, 0, []),
  (33, .if_icmp .ge 86, false, [], 119, 0, 0, 0, 0, []),
  (36, .iload_n 3, false, [], 0, 0, 0, 0, 0, []),
  (37, .aload_n 0, false, [], 0, 0, 0, 0, 0, []),
  (38, .getfield 9, false, [], 7, 0, 1, 0, 0, []),
  (41, .iconst 1, false, [], 0, 0, 0, 0, 1, []),
  (42, .iaload, false, [], 0, 0, 0, 0, 0, []),
  (43, .if_icmp .ge 76, false, [], 119, 0, 0, 0, 0, []),
  (46, .aload_n 0, false, [], 0, 0, 0, 0, 0, []),
  (47, .getfield 54, false, [], 7, 25, 1, 0, 0, []),
  (50, .bipush 24, false, [], 0, 0, 0, 0, 24, []),
  (52, .iload_n 1, false, [], 0, 0, 0, 0, 0, []),
  (53, .imul, false, [], 0, 0, 0, 0, 0, []),
  (54, .iload_n 3, false, [], 0, 0, 0, 0, 0, []),
  (55, .iadd, false, [], 0, 0, 0, 0, 0, []),
  (56, .iaload, false, [], 0, 0, 0, 0, 0, []),
  (57, .istore 4, false, [], 0, 0, 0, 0, 0, []),
  (59, .iload 4, false, [], 0, 0, 0, 0, 0, []),
  (61, .ldc 160, false, [], 0, 0, 0, 0, (-1000000005), []),
  (63, .if_icmp .ne 12, false, [], 75, 0, 0, 0, 0, []),
  (66, .aload_n 0, false, [], 0, 0, 0, 0, 0, []),
  (67, .iload_n 3, false, [], 0, 0, 0, 0, 0, []),
  (68, .iconst 2, false, [], 0, 0, 0, 0, 2, []),
  (69, .invokevirtual 83, false, [], 138, 2, 1, 7, 0, []),
  (72, .goto 11, false, [], 83, 0, 0, 0, 0, []),
  (75, .iload 4, false, [], 0, 0, 0, 0, 0, []),
  (77, .iconst 0, false, [], 0, 0, 0, 0, 0, []),
  (78, .bipush 99, false, [], 0, 0, 0, 0, 99, []),
  (80, .invokestatic 90, false, [], 134, 3, 1, 0, 0, []),
  (83, .istore 5, false, [], 0, 0, 0, 0, 0, []),
  (85, .iload_n 2, false, [], 0, 0, 0, 0, 0, []),
  (86, .aload_n 0, false, [], 0, 0, 0, 0, 0, []),
  (87, .bipush 11, false, [], 0, 0, 0, 0, 11, []),
  (89, .bipush 6, false, [], 0, 0, 0, 0, 6, []),
  (91, .iload_n 3, false, [], 0, 0, 0, 0, 0, []),
  (92, .imul, false, [], 0, 0, 0, 0, 0, []),
  (93, .iadd, false, [], 0, 0, 0, 0, 0, []),
  (94, .iconst 2, false, [], 0, 0, 0, 0, 2, []),
  (95, .iadd, false, [], 0, 0, 0, 0, 0, []),
  (96, .iload 5, false, [], 0, 0, 0, 0, 0, []),
  (98, .invokevirtual 127, false, [], 140, 2, 1, 7, 0, []),
  (101, .iload 5, false, [], 0, 0, 0, 0, 0, []),
  (103, .if_icmp .ne 7, false, [], 110, 0, 0, 0, 0, []),
  (106, .iconst 0, false, [], 0, 0, 0, 0, 0, []),
  (107, .goto 4, false, [], 111, 0, 0, 0, 0, []),
  (110, .iconst 1, false, [], 0, 0, 0, 0, 1, []),
  (111, .iadd, false, [], 0, 0, 0, 0, 0, []),
  (112, .istore_n 2, false, [], 0, 0, 0, 0, 0, []),
  (113, .iinc 3 1, false, [], 0, 0, 0, 0, 1, []),
  (116, .goto (-90), false, [], 26, 0, 0, 0, 0, []),
  (119, .iload_n 2, false, [], 0, 0, 0, 0, 0, []),
  (120, .ireturn, false, [], 0, 0, 0, 0, 0, [])]
def kk_X7_reads : List mx_I := [
  (0, .iload_n 1, false, [], 0, 0, 0, 0, 0, []),
  (1, .invokestatic 180, false, [], 201, 1, 1, 0, 0, []),
  (4, .ifCond .ne 6, false, [], 10, 0, 0, 0, 0, []),
  (7, .ldc 101, false, [], 0, 0, 0, 0, (-1000000001), []),
  (9, .ireturn, false, [], 0, 0, 0, 0, 0, []),
  (10, .aload_n 0, false, [], 0, 0, 0, 0, 0, []),
  (11, .getfield 48, false, [], 7, 23, 1, 0, 0, []),
  (14, .iload_n 1, false, [], 0, 0, 0, 0, 0, []),
  (15, .iaload, false, [], 0, 0, 0, 0, 0, []),
  (16, .ifCond .ge 6, false, [], 22, 0, 0, 0, 0, []),
  (19, .ldc 183, false, [], 0, 0, 0, 0, (-1000000011), []),
  (21, .ireturn, false, [], 0, 0, 0, 0, 0, []),
  (22, .iconst 0, false, [], 0, 0, 0, 0, 0, []),
  (23, .istore_n 2, false, [], 0, 0, 0, 0, 0, []),
  (24, .iload_n 2, true, [0, 1, 2], 0, 0, 0, 0, 0, []),
  (25, .aload_n 0, false, [], 0, 0, 0, 0, 0, []),
  (26, .getfield 51, false, [], 7, 24, 1, 0, 0, []),
  (29, .iload_n 1, false, [], 0, 0, 0, 0, 0, []),
  (30, .iaload, false, [], 0, 0, 0, 0, 0, []),
  (31, .if_icmp .ge 47, false, [], 78, 0, 0, 0, 0, []),
  (34, .aload_n 0, false, [], 0, 0, 0, 0, 0, []),
  (35, .getfield 54, false, [], 7, 25, 1, 0, 0, []),
  (38, .bipush 24, false, [], 0, 0, 0, 0, 24, []),
  (40, .iload_n 1, false, [], 0, 0, 0, 0, 0, []),
  (41, .imul, false, [], 0, 0, 0, 0, 0, []),
  (42, .iload_n 2, false, [], 0, 0, 0, 0, 0, []),
  (43, .iadd, false, [], 0, 0, 0, 0, 0, []),
  (44, .iaload, false, [], 0, 0, 0, 0, 0, []),
  (45, .istore_n 3, false, [], 0, 0, 0, 0, 0, []),
  (46, .iload_n 3, false, [], 0, 0, 0, 0, 0, []),
  (47, .ldc 160, false, [], 0, 0, 0, 0, (-1000000005), []),
  (49, .if_icmp .eq 23, false, [], 72, 0, 0, 0, 0, []),
  (52, .aload_n 0, false, [], 0, 0, 0, 0, 0, []),
  (53, .iload_n 2, false, [], 0, 0, 0, 0, 0, []),
  (54, .invokevirtual 106, false, [], 137, 1, 1, 7, 0, []),
  (57, .ifCond .eq 13, false, [], 70, 0, 0, 0, 0, []),
  (60, .iload_n 3, false, [], 0, 0, 0, 0, 0, []),
  (61, .aload_n 0, false, [], 0, 0, 0, 0, 0, []),
  (62, .iload_n 2, false, [], 0, 0, 0, 0, 0, []),
  (63, .iconst 1, false, [], 0, 0, 0, 0, 1, []),
  (64, .invokevirtual 83, false, [], 138, 2, 1, 7, 0, []),
  (67, .if_icmp .eq 5, false, [], 72, 0, 0, 0, 0, []),
  (70, .iload_n 2, false, [], 0, 0, 0, 0, 0, []),
  (71, .ireturn, false, [], 0, 0, 0, 0, 0, []),
  (72, .iinc 2 1, false, [], 0, 0, 0, 0, 1, []),
  (75, .goto (-51), false, [], 24, 0, 0, 0, 0, []),
  (78, .ldc 160, false, [], 0, 0, 0, 0, (-1000000005), []),
  (80, .ireturn, false, [], 0, 0, 0, 0, 0, [])]
def kk_X7_copy : List mx_I := [
  (0, .iload_n 1, false, [], 0, 0, 0, 0, 0, []),
  (1, .invokestatic 180, false, [], 201, 1, 1, 0, 0, []),
  (4, .ifCond .eq 10, false, [], 14, 0, 0, 0, 0, []),
  (7, .iload_n 3, false, [], 0, 0, 0, 0, 0, []),
  (8, .invokestatic 180, false, [], 201, 1, 1, 0, 0, []),
  (11, .ifCond .ne 6, false, [], 17, 0, 0, 0, 0, []),
  (14, .ldc 101, false, [], 0, 0, 0, 0, (-1000000001), []),
  (16, .ireturn, false, [], 0, 0, 0, 0, 0, []),
  (17, .aload_n 0, false, [], 0, 0, 0, 0, 0, []),
  (18, .getfield 48, false, [], 7, 23, 1, 0, 0, []),
  (21, .iload_n 1, false, [], 0, 0, 0, 0, 0, []),
  (22, .iaload, false, [], 0, 0, 0, 0, 0, []),
  (23, .ifCond .lt 12, false, [], 35, 0, 0, 0, 0, []),
  (26, .aload_n 0, false, [], 0, 0, 0, 0, 0, []),
  (27, .getfield 48, false, [], 7, 23, 1, 0, 0, []),
  (30, .iload_n 3, false, [], 0, 0, 0, 0, 0, []),
  (31, .iaload, false, [], 0, 0, 0, 0, 0, []),
  (32, .ifCond .ge 6, false, [], 38, 0, 0, 0, 0, []),
  (35, .ldc 183, false, [], 0, 0, 0, 0, (-1000000011), []),
  (37, .ireturn, false, [], 0, 0, 0, 0, 0, []),
  (38, .aload_n 0, false, [], 0, 0, 0, 0, 0, []),
  (39, .getfield 48, false, [], 7, 23, 1, 0, 0, []),
  (42, .iload_n 1, false, [], 0, 0, 0, 0, 0, []),
  (43, .iaload, false, [], 0, 0, 0, 0, 0, []),
  (44, .aload_n 0, false, [], 0, 0, 0, 0, 0, []),
  (45, .getfield 48, false, [], 7, 23, 1, 0, 0, []),
  (48, .iload_n 3, false, [], 0, 0, 0, 0, 0, []),
  (49, .iaload, false, [], 0, 0, 0, 0, 0, []),
  (50, .if_icmp .eq 6, false, [], 56, 0, 0, 0, 0, []),
  (53, .ldc 126, false, [], 0, 0, 0, 0, (-1000000012), []),
  (55, .ireturn, false, [], 0, 0, 0, 0, 0, []),
  (56, .iload_n 2, false, [], 0, 0, 0, 0, 0, []),
  (57, .ifCond .lt 40, false, [], 97, 0, 0, 0, 0, []),
  (60, .iload 4, false, [], 0, 0, 0, 0, 0, []),
  (62, .ifCond .lt 35, false, [], 97, 0, 0, 0, 0, []),
  (65, .iload 5, false, [], 0, 0, 0, 0, 0, []),
  (67, .ifCond .lt 30, false, [], 97, 0, 0, 0, 0, []),
  (70, .iload_n 2, false, [], 0, 0, 0, 0, 0, []),
  (71, .aload_n 0, false, [], 0, 0, 0, 0, 0, []),
  (72, .getfield 51, false, [], 7, 24, 1, 0, 0, []),
  (75, .iload_n 1, false, [], 0, 0, 0, 0, 0, []),
  (76, .iaload, false, [], 0, 0, 0, 0, 0, []),
  (77, .iload 5, false, [], 0, 0, 0, 0, 0, []),
  (79, .isub, false, [], 0, 0, 0, 0, 0, []),
  (80, .if_icmp .gt 17, false, [], 97, 0, 0, 0, 0, []),
  (83, .iload 4, false, [], 0, 0, 0, 0, 0, []),
  (85, .aload_n 0, false, [], 0, 0, 0, 0, 0, []),
  (86, .getfield 51, false, [], 7, 24, 1, 0, 0, []),
  (89, .iload_n 3, false, [], 0, 0, 0, 0, 0, []),
  (90, .iaload, false, [], 0, 0, 0, 0, 0, []),
  (91, .iload 5, false, [], 0, 0, 0, 0, 0, []),
  (93, .isub, false, [], 0, 0, 0, 0, 0, []),
  (94, .if_icmp .le 6, false, [], 100, 0, 0, 0, 0, []),
  (97, .ldc 253, false, [], 0, 0, 0, 0, (-1000000013), []),
  (99, .ireturn, false, [], 0, 0, 0, 0, 0, []),
  (100, .iconst 0, false, [], 0, 0, 0, 0, 0, []),
  (101, .istore 6, false, [], 0, 0, 0, 0, 0, []),
  (103, .iload 6, true, [0, 1, 2, 3, 4, 5, 6], 0, 0, 0, 0, 0, []),
  (105, .iload 5, false, [], 0, 0, 0, 0, 0, []),
  (107, .if_icmp .ge 30, false, [], 137, 0, 0, 0, 0, []),
  (110, .aload_n 0, false, [], 0, 0, 0, 0, 0, []),
  (111, .getfield 69, false, [], 7, 30, 1, 0, 0, []),
  (114, .iload 6, false, [], 0, 0, 0, 0, 0, []),
  (116, .aload_n 0, false, [], 0, 0, 0, 0, 0, []),
  (117, .getfield 54, false, [], 7, 25, 1, 0, 0, []),
  (120, .bipush 24, false, [], 0, 0, 0, 0, 24, []),
  (122, .iload_n 1, false, [], 0, 0, 0, 0, 0, []),
  (123, .imul, false, [], 0, 0, 0, 0, 0, []),
  (124, .iload_n 2, false, [], 0, 0, 0, 0, 0, []),
  (125, .iadd, false, [], 0, 0, 0, 0, 0, []),
  (126, .iload 6, false, [], 0, 0, 0, 0, 0, []),
  (128, .iadd, false, [], 0, 0, 0, 0, 0, []),
  (129, .iaload, false, [], 0, 0, 0, 0, 0, []),
  (130, .iastore, false, [], 0, 0, 0, 0, 0, []),
  (131, .iinc 6 1, false, [], 0, 0, 0, 0, 1, []),
  (134, .goto (-31), false, [], 103, 0, 0, 0, 0, []),
  (137, .iconst 0, false, [], 0, 0, 0, 0, 0, []),
  (138, .istore 6, false, [], 0, 0, 0, 0, 0, []),
  (140, .iload 6, true, [0, 3, 4, 5, 6], 0, 0, 0, 0, 0, []),
  (142, .iload 5, false, [], 0, 0, 0, 0, 0, []),
  (144, .if_icmp .ge 31, false, [], 175, 0, 0, 0, 0, []),
  (147, .aload_n 0, false, [], 0, 0, 0, 0, 0, []),
  (148, .getfield 54, false, [], 7, 25, 1, 0, 0, []),
  (151, .bipush 24, false, [], 0, 0, 0, 0, 24, []),
  (153, .iload_n 3, false, [], 0, 0, 0, 0, 0, []),
  (154, .imul, false, [], 0, 0, 0, 0, 0, []),
  (155, .iload 4, false, [], 0, 0, 0, 0, 0, []),
  (157, .iadd, false, [], 0, 0, 0, 0, 0, []),
  (158, .iload 6, false, [], 0, 0, 0, 0, 0, []),
  (160, .iadd, false, [], 0, 0, 0, 0, 0, []),
  (161, .aload_n 0, false, [], 0, 0, 0, 0, 0, []),
  (162, .getfield 69, false, [], 7, 30, 1, 0, 0, []),
  (165, .iload 6, false, [], 0, 0, 0, 0, 0, []),
  (167, .iaload, false, [], 0, 0, 0, 0, 0, []),
  (168, .iastore, false, [], 0, 0, 0, 0, 0, []),
  (169, .iinc 6 1, false, [], 0, 0, 0, 0, 1, []),
  (172, .goto (-32), false, [], 140, 0, 0, 0, 0, []),
  (175, .iload 5, false, [], 0, 0, 0, 0, 0, []),
  (177, .ireturn, false, [], 0, 0, 0, 0, 0, [])]
def kk_X7_lay : List mx_I := [
  (0, .iload_n 1, false, [], 0, 0, 0, 0, 0, []),
  (1, .invokestatic 256, false, [], 202, 1, 1, 0, 0, []),
  (4, .ifCond .eq 37, false, [], 41, 0, 0, 0, 0, []),
  (7, .iload_n 2, false, [], 0, 0, 0, 0, 0, []),
  (8, .iconst 0, false, [], 0, 0, 0, 0, 0, []),
  (9, .iconst 3, false, [], 0, 0, 0, 0, 3, []),
  (10, .invokestatic 75, false, [], 133, 3, 1, 0, 0, []),
  (13, .ifCond .eq 28, false, [], 41, 0, 0, 0, 0, []),
  (16, .iload_n 2, false, [], 0, 0, 0, 0, 0, []),
  (17, .iconst 1, false, [], 0, 0, 0, 0, 1, []),
  (18, .if_icmp .ne 11, false, [], 29, 0, 0, 0, 0, []),
  (21, .aload_n 0, false, [], 0, 0, 0, 0, 0, []),
  (22, .iload_n 3, false, [], 0, 0, 0, 0, 0, []),
  (23, .invokevirtual 106, false, [], 137, 1, 1, 7, 0, []),
  (26, .ifCond .eq 15, false, [], 41, 0, 0, 0, 0, []),
  (29, .iload_n 2, false, [], 0, 0, 0, 0, 0, []),
  (30, .iconst 2, false, [], 0, 0, 0, 0, 2, []),
  (31, .if_icmp .ne 13, false, [], 44, 0, 0, 0, 0, []),
  (34, .iload_n 3, false, [], 0, 0, 0, 0, 0, []),
  (35, .invokestatic 180, false, [], 201, 1, 1, 0, 0, []),
  (38, .ifCond .ne 6, false, [], 44, 0, 0, 0, 0, []),
  (41, .ldc 101, false, [], 0, 0, 0, 0, (-1000000001), []),
  (43, .ireturn, false, [], 0, 0, 0, 0, 0, []),
  (44, .iload_n 2, false, [], 0, 0, 0, 0, 0, []),
  (45, .iconst 2, false, [], 0, 0, 0, 0, 2, []),
  (46, .if_icmp .ne 15, false, [], 61, 0, 0, 0, 0, []),
  (49, .aload_n 0, false, [], 0, 0, 0, 0, 0, []),
  (50, .getfield 48, false, [], 7, 23, 1, 0, 0, []),
  (53, .iload_n 3, false, [], 0, 0, 0, 0, 0, []),
  (54, .iaload, false, [], 0, 0, 0, 0, 0, []),
  (55, .ifCond .ge 6, false, [], 61, 0, 0, 0, 0, []),
  (58, .ldc 183, false, [], 0, 0, 0, 0, (-1000000011), []),
  (60, .ireturn, false, [], 0, 0, 0, 0, 0, []),
  (61, .aload_n 0, false, [], 0, 0, 0, 0, 0, []),
  (62, .getfield 57, false, [], 7, 26, 1, 0, 0, []),
  (65, .iload_n 1, false, [], 0, 0, 0, 0, 0, []),
  (66, .iaload, false, [], 0, 0, 0, 0, 0, []),
  (67, .istore 4, false, [], 0, 0, 0, 0, 0, []),
  (69, .aload_n 0, false, [], 0, 0, 0, 0, 0, []),
  (70, .getfield 57, false, [], 7, 26, 1, 0, 0, []),
  (73, .iload_n 1, false, [], 0, 0, 0, 0, 0, []),
  (74, .iload_n 2, false, [], 0, 0, 0, 0, 0, []),
  (75, .iastore, false, [], 0, 0, 0, 0, 0, []),
  (76, .aload_n 0, false, [], 0, 0, 0, 0, 0, []),
  (77, .getfield 60, false, [], 7, 27, 1, 0, 0, []),
  (80, .iload_n 1, false, [], 0, 0, 0, 0, 0, []),
  (81, .iload_n 2, false, [], 0, 0, 0, 0, 0, []),
  (82, .iconst 1, false, [], 0, 0, 0, 0, 1, []),
  (83, .if_icmp .ne 12, false, [], 95, 0, 0, 0, 0, []),
  (86, .aload_n 0, false, [], 0, 0, 0, 0, 0, []),
  (87, .iload_n 3, false, [], 0, 0, 0, 0, 0, []),
  (88, .iconst 0, false, [], 0, 0, 0, 0, 0, []),
  (89, .invokevirtual 83, false, [], 138, 2, 1, 7, 0, []),
  (92, .goto 18, false, [], 110, 0, 0, 0, 0, []),
  (95, .iload_n 2, false, [], 0, 0, 0, 0, 0, []),
  (96, .iconst 2, false, [], 0, 0, 0, 0, 2, []),
  (97, .if_icmp .ne 12, false, [], 109, 0, 0, 0, 0, []),
  (100, .aload_n 0, false, [], 0, 0, 0, 0, 0, []),
  (101, .getfield 51, false, [], 7, 24, 1, 0, 0, []),
  (104, .iload_n 3, false, [], 0, 0, 0, 0, 0, []),
  (105, .iaload, false, [], 0, 0, 0, 0, 0, []),
  (106, .goto 4, false, [], 110, 0, 0, 0, 0, []),
  (109, .iload_n 3, false, [], 0, 0, 0, 0, 0, []),
  (110, .iastore, false, [], 0, 0, 0, 0, 0, []),
  (111, .aload_n 0, false, [], 0, 0, 0, 0, 0, []),
  (112, .getfield 63, false, [], 7, 28, 1, 0, 0, []),
  (115, .iload_n 1, false, [], 0, 0, 0, 0, 0, []),
  (116, .iload_n 2, false, [], 0, 0, 0, 0, 0, []),
  (117, .iconst 1, false, [], 0, 0, 0, 0, 1, []),
  (118, .if_icmp .ne 11, false, [], 129, 0, 0, 0, 0, []),
  (121, .aload_n 0, false, [], 0, 0, 0, 0, 0, []),
  (122, .iload_n 3, false, [], 0, 0, 0, 0, 0, []),
  (123, .invokevirtual 119, false, [], 146, 1, 1, 7, 0, []),
  (126, .goto 4, false, [], 130, 0, 0, 0, 0, []),
  (129, .iconst 0, false, [], 0, 0, 0, 0, 0, []),
  (130, .iastore, false, [], 0, 0, 0, 0, 0, []),
  (131, .iconst 0, false, [], 0, 0, 0, 0, 0, []),
  (132, .istore 5, false, [], 0, 0, 0, 0, 0, []),
  (134, .iload 5, true, [0, 1, 2, 3, 4, 5], 0, 0, 0, 0, 0, []),
  (136, .bipush 24, false, [], 0, 0, 0, 0, 24, []),
  (138, .if_icmp .ge 38, false, [], 176, 0, 0, 0, 0, []),
  (141, .iload_n 2, false, [], 0, 0, 0, 0, 0, []),
  (142, .iconst 2, false, [], 0, 0, 0, 0, 2, []),
  (143, .if_icmp .ne 33, false, [], 176, 0, 0, 0, 0, []),
  (146, .aload_n 0, false, [], 0, 0, 0, 0, 0, []),
  (147, .getfield 66, false, [], 7, 29, 1, 0, 0, []),
  (150, .bipush 24, false, [], 0, 0, 0, 0, 24, []),
  (152, .iload_n 1, false, [], 0, 0, 0, 0, 0, []),
  (153, .imul, false, [], 0, 0, 0, 0, 0, []),
  (154, .iload 5, false, [], 0, 0, 0, 0, 0, []),
  (156, .iadd, false, [], 0, 0, 0, 0, 0, []),
  (157, .aload_n 0, false, [], 0, 0, 0, 0, 0, []),
  (158, .getfield 54, false, [], 7, 25, 1, 0, 0, []),
  (161, .bipush 24, false, [], 0, 0, 0, 0, 24, []),
  (163, .iload_n 3, false, [], 0, 0, 0, 0, 0, []),
  (164, .imul, false, [], 0, 0, 0, 0, 0, []),
  (165, .iload 5, false, [], 0, 0, 0, 0, 0, []),
  (167, .iadd, false, [], 0, 0, 0, 0, 0, []),
  (168, .iaload, false, [], 0, 0, 0, 0, 0, []),
  (169, .iastore, false, [], 0, 0, 0, 0, 0, []),
  (170, .iinc 5 1, false, [], 0, 0, 0, 0, 1, []),
  (173, .goto (-39), false, [], 134, 0, 0, 0, 0, []),
  (176, .iload 4, false, [], 0, 0, 0, 0, 0, []),
  (178, .ireturn, false, [], 0, 0, 0, 0, 0, [])]
def kk_X7_ask : List mx_I := [
  (0, .iload_n 1, false, [], 0, 0, 0, 0, 0, []),
  (1, .invokestatic 256, false, [], 202, 1, 1, 0, 0, []),
  (4, .ifCond .eq 12, false, [], 16, 0, 0, 0, 0, []),
  (7, .iload_n 2, false, [], 0, 0, 0, 0, 0, []),
  (8, .iconst 0, false, [], 0, 0, 0, 0, 0, []),
  (9, .iconst 5, false, [], 0, 0, 0, 0, 5, []),
  (10, .invokestatic 75, false, [], 133, 3, 1, 0, 0, []),
  (13, .ifCond .ne 6, false, [], 19, 0, 0, 0, 0, []),
  (16, .ldc 101, false, [], 0, 0, 0, 0, (-1000000001), []),
  (18, .ireturn, false, [], 0, 0, 0, 0, 0, []),
  (19, .aload_n 0, false, [], 0, 0, 0, 0, 0, []),
  (20, .getfield 57, false, [], 7, 26, 1, 0, 0, []),
  (23, .iload_n 1, false, [], 0, 0, 0, 0, 0, []),
  (24, .iaload, false, [], 0, 0, 0, 0, 0, []),
  (25, .ifCond .ne 6, false, [], 31, 0, 0, 0, 0, []),
  (28, .ldc 183, false, [], 0, 0, 0, 0, (-1000000011), []),
  (30, .ireturn, false, [], 0, 0, 0, 0, 0, []),
  (31, .aload_n 0, false, [], 0, 0, 0, 0, 0, []),
  (32, .getfield 57, false, [], 7, 26, 1, 0, 0, []),
  (35, .iload_n 1, false, [], 0, 0, 0, 0, 0, []),
  (36, .iaload, false, [], 0, 0, 0, 0, 0, []),
  (37, .iconst 1, false, [], 0, 0, 0, 0, 1, []),
  (38, .if_icmp .ne 25, false, [], 63, 0, 0, 0, 0, []),
  (41, .aload_n 0, false, [], 0, 0, 0, 0, 0, []),
  (42, .getfield 60, false, [], 7, 27, 1, 0, 0, []),
  (45, .iload_n 1, false, [], 0, 0, 0, 0, 0, []),
  (46, .iaload, false, [], 0, 0, 0, 0, 0, []),
  (47, .iload_n 2, false, [], 0, 0, 0, 0, 0, []),
  (48, .invokestatic 122, false, [], 150, 2, 1, 0, 0, []),
  (51, .ifCond .eq 12, false, [], 63, 0, 0, 0, 0, []),
  (54, .aload_n 0, false, [], 0, 0, 0, 0, 0, []),
  (55, .getfield 63, false, [], 7, 28, 1, 0, 0, []),
  (58, .iload_n 1, false, [], 0, 0, 0, 0, 0, []),
  (59, .iaload, false, [], 0, 0, 0, 0, 0, []),
  (60, .goto 5, false, [], 65, 0, 0, 0, 0, []),
  (63, .ldc 126, false, [], 0, 0, 0, 0, (-1000000012), []),
  (65, .ireturn, false, [], 0, 0, 0, 0, 0, [])]
def kk_X7_item : List mx_I := [
  (0, .iload_n 1, false, [], 0, 0, 0, 0, 0, []),
  (1, .invokestatic 256, false, [], 202, 1, 1, 0, 0, []),
  (4, .ifCond .ne 6, false, [], 10, 0, 0, 0, 0, []),
  (7, .ldc 101, false, [], 0, 0, 0, 0, (-1000000001), []),
  (9, .ireturn, false, [], 0, 0, 0, 0, 0, []),
  (10, .aload_n 0, false, [], 0, 0, 0, 0, 0, []),
  (11, .getfield 57, false, [], 7, 26, 1, 0, 0, []),
  (14, .iload_n 1, false, [], 0, 0, 0, 0, 0, []),
  (15, .iaload, false, [], 0, 0, 0, 0, 0, []),
  (16, .ifCond .ne 6, false, [], 22, 0, 0, 0, 0, []),
  (19, .ldc 183, false, [], 0, 0, 0, 0, (-1000000011), []),
  (21, .ireturn, false, [], 0, 0, 0, 0, 0, []),
  (22, .aload_n 0, false, [], 0, 0, 0, 0, 0, []),
  (23, .getfield 57, false, [], 7, 26, 1, 0, 0, []),
  (26, .iload_n 1, false, [], 0, 0, 0, 0, 0, []),
  (27, .iaload, false, [], 0, 0, 0, 0, 0, []),
  (28, .iconst 2, false, [], 0, 0, 0, 0, 2, []),
  (29, .if_icmp .eq 6, false, [], 35, 0, 0, 0, 0, []),
  (32, .ldc 126, false, [], 0, 0, 0, 0, (-1000000012), []),
  (34, .ireturn, false, [], 0, 0, 0, 0, 0, []),
  (35, .iload_n 2, false, [], 0, 0, 0, 0, 0, []),
  (36, .iconst 0, false, [], 0, 0, 0, 0, 0, []),
  (37, .aload_n 0, false, [], 0, 0, 0, 0, 0, []),
  (38, .getfield 60, false, [], 7, 27, 1, 0, 0, []),
  (41, .iload_n 1, false, [], 0, 0, 0, 0, 0, []),
  (42, .iaload, false, [], 0, 0, 0, 0, 0, []),
  (43, .iconst 1, false, [], 0, 0, 0, 0, 1, []),
  (44, .isub, false, [], 0, 0, 0, 0, 0, []),
  (45, .invokestatic 75, false, [], 133, 3, 1, 0, 0, []),
  (48, .ifCond .ne 6, false, [], 54, 0, 0, 0, 0, []),
  (51, .ldc 253, false, [], 0, 0, 0, 0, (-1000000013), []),
  (53, .ireturn, false, [], 0, 0, 0, 0, 0, []),
  (54, .aload_n 0, false, [], 0, 0, 0, 0, 0, []),
  (55, .getfield 66, false, [], 7, 29, 1, 0, 0, []),
  (58, .bipush 24, false, [], 0, 0, 0, 0, 24, []),
  (60, .iload_n 1, false, [], 0, 0, 0, 0, 0, []),
  (61, .imul, false, [], 0, 0, 0, 0, 0, []),
  (62, .iload_n 2, false, [], 0, 0, 0, 0, 0, []),
  (63, .iadd, false, [], 0, 0, 0, 0, 0, []),
  (64, .iaload, false, [], 0, 0, 0, 0, 0, []),
  (65, .istore_n 3, false, [], 0, 0, 0, 0, 0, []),
  (66, .iload_n 3, false, [], 0, 0, 0, 0, 0, []),
  (67, .ldc 160, false, [], 0, 0, 0, 0, (-1000000005), []),
  (69, .if_icmp .ne 8, false, [], 77, 0, 0, 0, 0, []),
  (72, .ldc 126, false, [], 0, 0, 0, 0, (-1000000012), []),
  (74, .goto 4, false, [], 78, 0, 0, 0, 0, []),
  (77, .iload_n 3, false, [], 0, 0, 0, 0, 0, []),
  (78, .ireturn, false, [], 0, 0, 0, 0, 0, [])]
def kk_X7_rest : List mx_I := [
  (0, .iload_n 1, false, [], 0, 0, 0, 0, 0, []),
  (1, .invokestatic 256, false, [], 202, 1, 1, 0, 0, []),
  (4, .ifCond .ne 6, false, [], 10, 0, 0, 0, 0, []),
  (7, .ldc 101, false, [], 0, 0, 0, 0, (-1000000001), []),
  (9, .ireturn, false, [], 0, 0, 0, 0, 0, []),
  (10, .aload_n 0, false, [], 0, 0, 0, 0, 0, []),
  (11, .getfield 57, false, [], 7, 26, 1, 0, 0, []),
  (14, .iload_n 1, false, [], 0, 0, 0, 0, 0, []),
  (15, .iaload, false, [], 0, 0, 0, 0, 0, []),
  (16, .ifCond .ne 6, false, [], 22, 0, 0, 0, 0, []),
  (19, .ldc 183, false, [], 0, 0, 0, 0, (-1000000011), []),
  (21, .ireturn, false, [], 0, 0, 0, 0, 0, []),
  (22, .aload_n 0, false, [], 0, 0, 0, 0, 0, []),
  (23, .getfield 57, false, [], 7, 26, 1, 0, 0, []),
  (26, .iload_n 1, false, [], 0, 0, 0, 0, 0, []),
  (27, .iaload, false, [], 0, 0, 0, 0, 0, []),
  (28, .iconst 3, false, [], 0, 0, 0, 0, 3, []),
  (29, .if_icmp .eq 6, false, [], 35, 0, 0, 0, 0, []),
  (32, .ldc 126, false, [], 0, 0, 0, 0, (-1000000012), []),
  (34, .ireturn, false, [], 0, 0, 0, 0, 0, []),
  (35, .iload_n 2, false, [], 0, 0, 0, 0, 0, []),
  (36, .ifCond .ne 9, false, [], 45, 0, 0, 0, 0, []),
  (39, .ldc_w 259, false, [], 0, 0, 0, 0, (-1000000002), []),
  (42, .goto 20, false, [], 62, 0, 0, 0, 0, []),
  (45, .iload_n 2, false, [], 0, 0, 0, 0, 0, []),
  (46, .iconst (-1), false, [], 0, 0, 0, 0, (-1), []),
  (47, .if_icmp .ne 7, false, [], 54, 0, 0, 0, 0, []),
  (50, .iconst 0, false, [], 0, 0, 0, 0, 0, []),
  (51, .goto 11, false, [], 62, 0, 0, 0, 0, []),
  (54, .aload_n 0, false, [], 0, 0, 0, 0, 0, []),
  (55, .getfield 60, false, [], 7, 27, 1, 0, 0, []),
  (58, .iload_n 1, false, [], 0, 0, 0, 0, 0, []),
  (59, .iaload, false, [], 0, 0, 0, 0, 0, []),
  (60, .iload_n 2, false, [], 0, 0, 0, 0, 0, []),
  (61, .irem, false, [], 0, 0, 0, 0, 0, []),
  (62, .ireturn, false, [], 0, 0, 0, 0, 0, [])]
def kk_X7_tell : List mx_I := [
  (0, .aload_n 0, false, [], 0, 0, 0, 0, 0, []),
  (1, .getfield 260, false, [], 7, 32, 0, 0, 0, []),
  (4, .bipush 60, false, [], 0, 0, 0, 0, 60, []),
  (6, .if_icmp .ne 6, false, [], 12, 0, 0, 0, 0, []),
  (9, .ldc 102, false, [], 0, 0, 0, 0, (-1000000003), []),
  (11, .ireturn, false, [], 0, 0, 0, 0, 0, []),
  (12, .aload_n 0, false, [], 0, 0, 0, 0, 0, []),
  (13, .getfield 72, false, [], 7, 31, 1, 0, 0, []),
  (16, .aload_n 0, false, [], 0, 0, 0, 0, 0, []),
  (17, .getfield 260, false, [], 7, 32, 0, 0, 0, []),
  (20, .iload_n 1, false, [], 0, 0, 0, 0, 0, []),
  (21, .iastore, false, [], 0, 0, 0, 0, 0, []),
  (22, .aload_n 0, false, [], 0, 0, 0, 0, 0, []),
  (23, .dup, false, [], 0, 0, 0, 0, 0, []),
  (24, .getfield 260, false, [], 7, 32, 0, 0, 0, []),
  (27, .iconst 1, false, [], 0, 0, 0, 0, 1, []),
  (28, .iadd, false, [], 0, 0, 0, 0, 0, []),
  (29, .putfield 260, false, [], 7, 32, 0, 0, 0, []),
  (32, .aload_n 0, false, [], 0, 0, 0, 0, 0, []),
  (33, .getfield 260, false, [], 7, 32, 0, 0, 0, []),
  (36, .ireturn, false, [], 0, 0, 0, 0, 0, [])]
def kk_X7_check : List mx_I := [
  (0, .aload_n 0, false, [], 0, 0, 0, 0, 0, []),
  (1, .getfield 260, false, [], 7, 32, 0, 0, 0, []),
  (4, .istore_n 2, false, [], 0, 0, 0, 0, 0, []),
  (5, .aload_n 0, false, [], 0, 0, 0, 0, 0, []),
  (6, .iconst 0, false, [], 0, 0, 0, 0, 0, []),
  (7, .putfield 260, false, [], 7, 32, 0, 0, 0, []),
  (10, .iload_n 1, false, [], 0, 0, 0, 0, 0, []),
  (11, .iconst 1, false, [], 0, 0, 0, 0, 1, []),
  (12, .bipush 30, false, [], 0, 0, 0, 0, 30, []),
  (14, .invokestatic 75, false, [], 133, 3, 1, 0, 0, []),
  (17, .ifCond .ne 6, false, [], 23, 0, 0, 0, 0, []),
  (20, .ldc 101, false, [], 0, 0, 0, 0, (-1000000001), []),
  (22, .ireturn, false, [], 0, 0, 0, 0, 0, []),
  (23, .aload_n 0, false, [], 0, 0, 0, 0, 0, []),
  (24, .getfield 263, false, [], 7, 3, 0, 0, 0, []),
  (27, .ifCond .ne 7, false, [], 34, 0, 0, 0, 0, []),
  (30, .ldc_w 259, false, [], 0, 0, 0, 0, (-1000000002), []),
  (33, .ireturn, false, [], 0, 0, 0, 0, 0, []),
  (34, .aload_n 0, false, [], 0, 0, 0, 0, 0, []),
  (35, .getfield 9, false, [], 7, 0, 1, 0, 0, []),
  (38, .aload_n 0, false, [], 0, 0, 0, 0, 0, []),
  (39, .getfield 16, false, [], 7, 2, 1, 0, 0, []),
  (42, .invokestatic 161, false, [], 135, 2, 0, 0, 0, []),
  (45, .aload_n 0, false, [], 0, 0, 0, 0, 0, []),
  (46, .getfield 13, false, [], 7, 1, 1, 0, 0, []),
  (49, .aload_n 0, false, [], 0, 0, 0, 0, 0, []),
  (50, .getfield 9, false, [], 7, 0, 1, 0, 0, []),
  (53, .invokestatic 161, false, [], 135, 2, 0, 0, 0, []),
  (56, .iconst 2, false, [], 0, 0, 0, 0, 2, []),
  (57, .sipush 9999, false, [], 0, 0, 0, 0, 9999, []),
  (60, .aload_n 0, false, [], 0, 0, 0, 0, 0, []),
  (61, .getfield 9, false, [], 7, 0, 1, 0, 0, []),
  (64, .iconst 2, false, [], 0, 0, 0, 0, 2, []),
  (65, .iaload, false, [], 0, 0, 0, 0, 0, []),
  (66, .isub, false, [], 0, 0, 0, 0, 0, []),
  (67, .iconst 0, false, [], 0, 0, 0, 0, 0, []),
  (68, .iload_n 1, false, [], 0, 0, 0, 0, 0, []),
  (69, .invokestatic 90, false, [], 134, 3, 1, 0, 0, []),
  (72, .imul, false, [], 0, 0, 0, 0, 0, []),
  (73, .istore_n 3, false, [], 0, 0, 0, 0, 0, []),
  (74, .iconst 0, false, [], 0, 0, 0, 0, 0, []),
  (75, .istore 4, false, [], 0, 0, 0, 0, 0, []),
  (77, .iconst 0, false, [], 0, 0, 0, 0, 0, []),
  (78, .istore 5, false, [], 0, 0, 0, 0, 0, []),
  (80, .iconst 2, true, [0, 2, 3, 4, 5], 0, 0, 0, 0, 2, []),
  (81, .iload 5, false, [], 0, 0, 0, 0, 0, []),
  (83, .imul, false, [], 0, 0, 0, 0, 0, []),
  (84, .iload_n 3, false, [], 0, 0, 0, 0, 0, []),
  (85, .if_icmp .ge 96, false, [], 181, 0, 0, 0, 0, []),
  (88, .iload 4, false, [], 0, 0, 0, 0, 0, []),
  (90, .iconst 2, false, [], 0, 0, 0, 0, 2, []),
  (91, .iload 5, false, [], 0, 0, 0, 0, 0, []),
  (93, .imul, false, [], 0, 0, 0, 0, 0, []),
  (94, .if_icmp .ne 87, false, [], 181, 0, 0, 0, 0, []),
  (97, .aload_n 0, false, [], 0, 0, 0, 0, 0, []),
  (98, .invokevirtual 148, false, [], 162, 0, 0, 7, 0, []),
  (101, .iload 4, false, [], 0, 0, 0, 0, 0, []),
  (103, .iload 4, false, [], 0, 0, 0, 0, 0, []),
  (105, .iload_n 2, false, [], 0, 0, 0, 0, 0, []),
  (106, .if_icmp .ge 24, false, [], 130, 0, 0, 0, 0, []),
  (109, .aload_n 0, false, [], 0, 0, 0, 0, 0, []),
  (110, .getfield 72, false, [], 7, 31, 1, 0, 0, []),
  (113, .iload 4, false, [], 0, 0, 0, 0, 0, []),
  (115, .iaload, false, [], 0, 0, 0, 0, 0, []),
  (116, .aload_n 0, false, [], 0, 0, 0, 0, 0, []),
  (117, .getfield 9, false, [], 7, 0, 1, 0, 0, []),
  (120, .bipush 7, false, [], 0, 0, 0, 0, 7, []),
  (122, .iaload, false, [], 0, 0, 0, 0, 0, []),
  (123, .if_icmp .ne 7, false, [], 130, 0, 0, 0, 0, []),
  (126, .iconst 1, false, [], 0, 0, 0, 0, 1, []),
  (127, .goto 4, false, [], 131, 0, 0, 0, 0, []),
  (130, .iconst 0, false, [], 0, 0, 0, 0, 0, []),
  (131, .iadd, false, [], 0, 0, 0, 0, 0, []),
  (132, .istore 4, false, [], 0, 0, 0, 0, 0, []),
  (134, .iload 4, false, [], 0, 0, 0, 0, 0, []),
  (136, .iload 4, false, [], 0, 0, 0, 0, 0, []),
  (138, .iconst 2, false, [], 0, 0, 0, 0, 2, []),
  (139, .iload 5, false, [], 0, 0, 0, 0, 0, []),
  (141, .imul, false, [], 0, 0, 0, 0, 0, []),
  (142, .iconst 1, false, [], 0, 0, 0, 0, 1, []),
  (143, .iadd, false, [], 0, 0, 0, 0, 0, []),
  (144, .if_icmp .ne 27, false, [], 171, 0, 0, 0, 0, []),
  (147, .iload 4, false, [], 0, 0, 0, 0, 0, []),
  (149, .iload_n 2, false, [], 0, 0, 0, 0, 0, []),
  (150, .if_icmp .ge 21, false, [], 171, 0, 0, 0, 0, []),
  (153, .aload_n 0, false, [], 0, 0, 0, 0, 0, []),
  (154, .getfield 72, false, [], 7, 31, 1, 0, 0, []),
  (157, .iload 4, false, [], 0, 0, 0, 0, 0, []),
  (159, .iaload, false, [], 0, 0, 0, 0, 0, []),
  (160, .aload_n 0, false, [], 0, 0, 0, 0, 0, []),
  (161, .invokevirtual 154, false, [], 165, 0, 1, 7, 0, []),
  (164, .if_icmp .ne 7, false, [], 171, 0, 0, 0, 0, []),
  (167, .iconst 1, false, [], 0, 0, 0, 0, 1, []),
  (168, .goto 4, false, [], 172, 0, 0, 0, 0, []),
  (171, .iconst 0, false, [], 0, 0, 0, 0, 0, []),
  (172, .iadd, false, [], 0, 0, 0, 0, 0, []),
  (173, .istore 4, false, [], 0, 0, 0, 0, 0, []),
  (175, .iinc 5 1, false, [], 0, 0, 0, 0, 1, []),
  (178, .goto (-98), false, [], 80, 0, 0, 0, 0, []),
  (181, .aload_n 0, false, [], 0, 0, 0, 0, 0, []),
  (182, .getfield 16, false, [], 7, 2, 1, 0, 0, []),
  (185, .aload_n 0, false, [], 0, 0, 0, 0, 0, []),
  (186, .getfield 9, false, [], 7, 0, 1, 0, 0, []),
  (189, .invokestatic 161, false, [], 135, 2, 0, 0, 0, []),
  (192, .iload 4, false, [], 0, 0, 0, 0, 0, []),
  (194, .iload_n 2, false, [], 0, 0, 0, 0, 0, []),
  (195, .if_icmp .ne 13, false, [], 208, 0, 0, 0, 0, []),
  (198, .iload 4, false, [], 0, 0, 0, 0, 0, []),
  (200, .iload_n 3, false, [], 0, 0, 0, 0, 0, []),
  (201, .if_icmp .ne 7, false, [], 208, 0, 0, 0, 0, []),
  (204, .iconst 0, false, [], 0, 0, 0, 0, 0, []),
  (205, .goto 7, false, [], 212, 0, 0, 0, 0, []),
  (208, .iconst 1, false, [], 0, 0, 0, 0, 1, []),
  (209, .iload 4, false, [], 0, 0, 0, 0, 0, []),
  (211, .iadd, false, [], 0, 0, 0, 0, 0, []),
  (212, .ireturn, false, [], 0, 0, 0, 0, 0, [])]
def kk_X7_keep : List mx_I := [
  (0, .aload_n 0, false, [], 0, 0, 0, 0, 0, []),
  (1, .getfield 9, false, [], 7, 0, 1, 0, 0, []),
  (4, .aload_n 0, false, [], 0, 0, 0, 0, 0, []),
  (5, .getfield 13, false, [], 7, 1, 1, 0, 0, []),
  (8, .invokestatic 161, false, [], 135, 2, 0, 0, 0, []),
  (11, .aload_n 0, false, [], 0, 0, 0, 0, 0, []),
  (12, .iconst 1, false, [], 0, 0, 0, 0, 1, []),
  (13, .putfield 263, false, [], 7, 3, 2, 0, 0, []),
  (16, .aload_n 0, false, [], 0, 0, 0, 0, 0, []),
  (17, .getfield 9, false, [], 7, 0, 1, 0, 0, []),
  (20, .iconst 1, false, [], 0, 0, 0, 0, 1, []),
  (21, .iaload, false, [], 0, 0, 0, 0, 0, []),
  (22, .ireturn, false, [], 0, 0, 0, 0, 0, [])]
def kk_X7_back : List mx_I := [
  (0, .aload_n 0, false, [], 0, 0, 0, 0, 0, []),
  (1, .getfield 263, false, [], 7, 3, 0, 0, 0, []),
  (4, .ifCond .ne 7, false, [], 11, 0, 0, 0, 0, []),
  (7, .ldc_w 259, false, [], 0, 0, 0, 0, (-1000000002), []),
  (10, .ireturn, false, [], 0, 0, 0, 0, 0, []),
  (11, .aload_n 0, false, [], 0, 0, 0, 0, 0, []),
  (12, .getfield 13, false, [], 7, 1, 1, 0, 0, []),
  (15, .aload_n 0, false, [], 0, 0, 0, 0, 0, []),
  (16, .getfield 9, false, [], 7, 0, 1, 0, 0, []),
  (19, .invokestatic 161, false, [], 135, 2, 0, 0, 0, []),
  (22, .aload_n 0, false, [], 0, 0, 0, 0, 0, []),
  (23, .getfield 9, false, [], 7, 0, 1, 0, 0, []),
  (26, .iconst 1, false, [], 0, 0, 0, 0, 1, []),
  (27, .iaload, false, [], 0, 0, 0, 0, 0, []),
  (28, .ireturn, false, [], 0, 0, 0, 0, 0, [])]
def kk_X7_count : List mx_I := [
  (0, .iload_n 1, false, [], 0, 0, 0, 0, 0, []),
  (1, .tableswitch 98 0 9 #[55, 62, 62, 62, 62, 62, 73, 81, 86, 91], false, [], 99, 55, 0, 0, 0, [(0, 56), (1, 63), (2, 63), (3, 63), (4, 63), (5, 63), (6, 74), (7, 82), (8, 87), (9, 92)]),
  (56, .aload_n 0, false, [], 0, 0, 0, 0, 0, []),
  (57, .getfield 9, false, [], 7, 0, 1, 0, 0, []),
  (60, .iconst 1, false, [], 0, 0, 0, 0, 1, []),
  (61, .iaload, false, [], 0, 0, 0, 0, 0, []),
  (62, .ireturn, false, [], 0, 0, 0, 0, 0, []),
  (63, .aload_n 0, false, [], 0, 0, 0, 0, 0, []),
  (64, .getfield 9, false, [], 7, 0, 1, 0, 0, []),
  (67, .iconst 2, false, [], 0, 0, 0, 0, 2, []),
  (68, .iload_n 1, false, [], 0, 0, 0, 0, 0, []),
  (69, .iadd, false, [], 0, 0, 0, 0, 0, []),
  (70, .iconst 1, false, [], 0, 0, 0, 0, 1, []),
  (71, .isub, false, [], 0, 0, 0, 0, 0, []),
  (72, .iaload, false, [], 0, 0, 0, 0, 0, []),
  (73, .ireturn, false, [], 0, 0, 0, 0, 0, []),
  (74, .aload_n 0, false, [], 0, 0, 0, 0, 0, []),
  (75, .getfield 9, false, [], 7, 0, 1, 0, 0, []),
  (78, .bipush 10, false, [], 0, 0, 0, 0, 10, []),
  (80, .iaload, false, [], 0, 0, 0, 0, 0, []),
  (81, .ireturn, false, [], 0, 0, 0, 0, 0, []),
  (82, .aload_n 0, false, [], 0, 0, 0, 0, 0, []),
  (83, .getfield 260, false, [], 7, 32, 0, 0, 0, []),
  (86, .ireturn, false, [], 0, 0, 0, 0, 0, []),
  (87, .aload_n 0, false, [], 0, 0, 0, 0, 0, []),
  (88, .getfield 184, false, [], 7, 6, 0, 0, 0, []),
  (91, .ireturn, false, [], 0, 0, 0, 0, 0, []),
  (92, .aload_n 0, false, [], 0, 0, 0, 0, 0, []),
  (93, .getfield 9, false, [], 7, 0, 1, 0, 0, []),
  (96, .iconst 0, false, [], 0, 0, 0, 0, 0, []),
  (97, .iaload, false, [], 0, 0, 0, 0, 0, []),
  (98, .ireturn, false, [], 0, 0, 0, 0, 0, []),
  (99, .ldc 101, false, [], 0, 0, 0, 0, (-1000000001), []),
  (101, .ireturn, false, [], 0, 0, 0, 0, 0, [])]
def kk_L_law : List mx_I := [
  (0, .new 7, false, [], 6, 0, 0, 0, 0, []),
  (3, .dup, false, [], 0, 0, 0, 0, 0, []),
  (4, .invokespecial 9, false, [], 82, 0, 0, 0, 0, []),
  (7, .astore_n 1, false, [], 0, 0, 0, 0, 0, []),
  (8, .new 10, false, [], 7, 0, 0, 0, 0, []),
  (11, .dup, false, [], 0, 0, 0, 0, 0, []),
  (12, .invokespecial 12, false, [], 132, 0, 0, 0, 0, []),
  (15, .astore_n 2, false, [], 0, 0, 0, 0, 0, []),
  (16, .iconst 0, false, [], 0, 0, 0, 0, 0, []),
  (17, .istore_n 3, false, [], 0, 0, 0, 0, 0, []),
  (18, .iload_n 3, true, [0, 1, 2, 3], 0, 0, 0, 0, 0, []),
  (19, .aload_n 0, false, [], 0, 0, 0, 0, 0, []),
  (20, .arraylength, false, [], 0, 0, 0, 0, 0, []),
  (21, .bipush 6, false, [], 0, 0, 0, 0, 6, []),
  (23, .isub, false, [], 0, 0, 0, 0, 0, []),
  (24, .if_icmp .gt 1390, false, [], 1414, 0, 0, 0, 0, []),
  (27, .aload_n 0, false, [], 0, 0, 0, 0, 0, []),
  (28, .iload_n 3, false, [], 0, 0, 0, 0, 0, []),
  (29, .iaload, false, [], 0, 0, 0, 0, 0, []),
  (30, .bipush 63, false, [], 0, 0, 0, 0, 63, []),
  (32, .iand, false, [], 0, 0, 0, 0, 0, []),
  (33, .tableswitch 1375 0 39 #[175, 218, 251, 284, 317, 360, 393, 426, 449, 472, 495, 518, 551, 584, 607, 630, 663, 696, 739, 772, 785, 808, 851, 874, 887, 920, 943, 986, 1029, 1052, 1075, 1138, 1181, 1214, 1247, 1280, 1303, 1326, 1339, 1352], false, [], 1408, 175, 0, 0, 0, [(0, 208), (1, 251), (2, 284), (3, 317), (4, 350), (5, 393), (6, 426), (7, 459), (8, 482), (9, 505), (10, 528), (11, 551), (12, 584), (13, 617), (14, 640), (15, 663), (16, 696), (17, 729), (18, 772), (19, 805), (20, 818), (21, 841), (22, 884), (23, 907), (24, 920), (25, 953), (26, 976), (27, 1019), (28, 1062), (29, 1085), (30, 1108), (31, 1171), (32, 1214), (33, 1247), (34, 1280), (35, 1313), (36, 1336), (37, 1359), (38, 1372), (39, 1385)]),
  (208, .aload_n 1, false, [], 0, 0, 0, 0, 0, []),
  (209, .aload_n 0, false, [], 0, 0, 0, 0, 0, []),
  (210, .iload_n 3, false, [], 0, 0, 0, 0, 0, []),
  (211, .iconst 1, false, [], 0, 0, 0, 0, 1, []),
  (212, .iadd, false, [], 0, 0, 0, 0, 0, []),
  (213, .iaload, false, [], 0, 0, 0, 0, 0, []),
  (214, .aload_n 0, false, [], 0, 0, 0, 0, 0, []),
  (215, .iload_n 3, false, [], 0, 0, 0, 0, 0, []),
  (216, .iconst 2, false, [], 0, 0, 0, 0, 2, []),
  (217, .iadd, false, [], 0, 0, 0, 0, 0, []),
  (218, .iaload, false, [], 0, 0, 0, 0, 0, []),
  (219, .aload_n 0, false, [], 0, 0, 0, 0, 0, []),
  (220, .iload_n 3, false, [], 0, 0, 0, 0, 0, []),
  (221, .iconst 3, false, [], 0, 0, 0, 0, 3, []),
  (222, .iadd, false, [], 0, 0, 0, 0, 0, []),
  (223, .iaload, false, [], 0, 0, 0, 0, 0, []),
  (224, .invokevirtual 13, false, [], 83, 3, 1, 6, 0, []),
  (227, .aload_n 2, false, [], 0, 0, 0, 0, 0, []),
  (228, .aload_n 0, false, [], 0, 0, 0, 0, 0, []),
  (229, .iload_n 3, false, [], 0, 0, 0, 0, 0, []),
  (230, .iconst 1, false, [], 0, 0, 0, 0, 1, []),
  (231, .iadd, false, [], 0, 0, 0, 0, 0, []),
  (232, .iaload, false, [], 0, 0, 0, 0, 0, []),
  (233, .aload_n 0, false, [], 0, 0, 0, 0, 0, []),
  (234, .iload_n 3, false, [], 0, 0, 0, 0, 0, []),
  (235, .iconst 2, false, [], 0, 0, 0, 0, 2, []),
  (236, .iadd, false, [], 0, 0, 0, 0, 0, []),
  (237, .iaload, false, [], 0, 0, 0, 0, 0, []),
  (238, .aload_n 0, false, [], 0, 0, 0, 0, 0, []),
  (239, .iload_n 3, false, [], 0, 0, 0, 0, 0, []),
  (240, .iconst 3, false, [], 0, 0, 0, 0, 3, []),
  (241, .iadd, false, [], 0, 0, 0, 0, 0, []),
  (242, .iaload, false, [], 0, 0, 0, 0, 0, []),
  (243, .invokevirtual 17, false, [], 148, 3, 1, 7, 0, []),
  (246, .if_icmp .eq 1162, false, [], 1408, 0, 0, 0, 0, []),
  (249, .iconst 0, false, [], 0, 0, 0, 0, 0, []),
  (250, .ireturn, false, [], 0, 0, 0, 1, 0, []),
  (251, .aload_n 1, false, [], 0, 0, 0, 0, 0, []),
  (252, .aload_n 0, false, [], 0, 0, 0, 0, 0, []),
  (253, .iload_n 3, false, [], 0, 0, 0, 0, 0, []),
  (254, .iconst 1, false, [], 0, 0, 0, 0, 1, []),
  (255, .iadd, false, [], 0, 0, 0, 0, 0, []),
  (256, .iaload, false, [], 0, 0, 0, 0, 0, []),
  (257, .aload_n 0, false, [], 0, 0, 0, 0, 0, []),
  (258, .iload_n 3, false, [], 0, 0, 0, 0, 0, []),
  (259, .iconst 2, false, [], 0, 0, 0, 0, 2, []),
  (260, .iadd, false, [], 0, 0, 0, 0, 0, []),
  (261, .iaload, false, [], 0, 0, 0, 0, 0, []),
  (262, .invokevirtual 18, false, [], 84, 2, 1, 6, 0, []),
  (265, .aload_n 2, false, [], 0, 0, 0, 0, 0, []),
  (266, .aload_n 0, false, [], 0, 0, 0, 0, 0, []),
  (267, .iload_n 3, false, [], 0, 0, 0, 0, 0, []),
  (268, .iconst 1, false, [], 0, 0, 0, 0, 1, []),
  (269, .iadd, false, [], 0, 0, 0, 0, 0, []),
  (270, .iaload, false, [], 0, 0, 0, 0, 0, []),
  (271, .aload_n 0, false, [], 0, 0, 0, 0, 0, []),
  (272, .iload_n 3, false, [], 0, 0, 0, 0, 0, []),
  (273, .iconst 2, false, [], 0, 0, 0, 0, 2, []),
  (274, .iadd, false, [], 0, 0, 0, 0, 0, []),
  (275, .iaload, false, [], 0, 0, 0, 0, 0, []),
  (276, .invokevirtual 22, false, [], 149, 2, 1, 7, 0, []),
  (279, .if_icmp .eq 1129, false, [], 1408, 0, 0, 0, 0, []),
  (282, .iconst 0, false, [], 0, 0, 0, 0, 0, []),
  (283, .ireturn, false, [], 0, 0, 0, 1, 0, []),
  (284, .aload_n 1, false, [], 0, 0, 0, 0, 0, []),
  (285, .aload_n 0, false, [], 0, 0, 0, 0, 0, []),
  (286, .iload_n 3, false, [], 0, 0, 0, 0, 0, []),
  (287, .iconst 1, false, [], 0, 0, 0, 0, 1, []),
  (288, .iadd, false, [], 0, 0, 0, 0, 0, []),
  (289, .iaload, false, [], 0, 0, 0, 0, 0, []),
  (290, .aload_n 0, false, [], 0, 0, 0, 0, 0, []),
  (291, .iload_n 3, false, [], 0, 0, 0, 0, 0, []),
  (292, .iconst 2, false, [], 0, 0, 0, 0, 2, []),
  (293, .iadd, false, [], 0, 0, 0, 0, 0, []),
  (294, .iaload, false, [], 0, 0, 0, 0, 0, []),
  (295, .invokevirtual 23, false, [], 85, 2, 1, 6, 0, []),
  (298, .aload_n 2, false, [], 0, 0, 0, 0, 0, []),
  (299, .aload_n 0, false, [], 0, 0, 0, 0, 0, []),
  (300, .iload_n 3, false, [], 0, 0, 0, 0, 0, []),
  (301, .iconst 1, false, [], 0, 0, 0, 0, 1, []),
  (302, .iadd, false, [], 0, 0, 0, 0, 0, []),
  (303, .iaload, false, [], 0, 0, 0, 0, 0, []),
  (304, .aload_n 0, false, [], 0, 0, 0, 0, 0, []),
  (305, .iload_n 3, false, [], 0, 0, 0, 0, 0, []),
  (306, .iconst 2, false, [], 0, 0, 0, 0, 2, []),
  (307, .iadd, false, [], 0, 0, 0, 0, 0, []),
  (308, .iaload, false, [], 0, 0, 0, 0, 0, []),
  (309, .invokevirtual 26, false, [], 151, 2, 1, 7, 0, []),
  (312, .if_icmp .eq 1096, false, [], 1408, 0, 0, 0, 0, []),
  (315, .iconst 0, false, [], 0, 0, 0, 0, 0, []),
  (316, .ireturn, false, [], 0, 0, 0, 1, 0, []),
  (317, .aload_n 1, false, [], 0, 0, 0, 0, 0, []),
  (318, .aload_n 0, false, [], 0, 0, 0, 0, 0, []),
  (319, .iload_n 3, false, [], 0, 0, 0, 0, 0, []),
  (320, .iconst 1, false, [], 0, 0, 0, 0, 1, []),
  (321, .iadd, false, [], 0, 0, 0, 0, 0, []),
  (322, .iaload, false, [], 0, 0, 0, 0, 0, []),
  (323, .aload_n 0, false, [], 0, 0, 0, 0, 0, []),
  (324, .iload_n 3, false, [], 0, 0, 0, 0, 0, []),
  (325, .iconst 2, false, [], 0, 0, 0, 0, 2, []),
  (326, .iadd, false, [], 0, 0, 0, 0, 0, []),
  (327, .iaload, false, [], 0, 0, 0, 0, 0, []),
  (328, .invokevirtual 27, false, [], 86, 2, 1, 6, 0, []),
  (331, .aload_n 2, false, [], 0, 0, 0, 0, 0, []),
  (332, .aload_n 0, false, [], 0, 0, 0, 0, 0, []),
  (333, .iload_n 3, false, [], 0, 0, 0, 0, 0, []),
  (334, .iconst 1, false, [], 0, 0, 0, 0, 1, []),
  (335, .iadd, false, [], 0, 0, 0, 0, 0, []),
  (336, .iaload, false, [], 0, 0, 0, 0, 0, []),
  (337, .aload_n 0, false, [], 0, 0, 0, 0, 0, []),
  (338, .iload_n 3, false, [], 0, 0, 0, 0, 0, []),
  (339, .iconst 2, false, [], 0, 0, 0, 0, 2, []),
  (340, .iadd, false, [], 0, 0, 0, 0, 0, []),
  (341, .iaload, false, [], 0, 0, 0, 0, 0, []),
  (342, .invokevirtual 30, false, [], 152, 2, 1, 7, 0, []),
  (345, .if_icmp .eq 1063, false, [], 1408, 0, 0, 0, 0, []),
  (348, .iconst 0, false, [], 0, 0, 0, 0, 0, []),
  (349, .ireturn, false, [], 0, 0, 0, 1, 0, []),
  (350, .aload_n 1, false, [], 0, 0, 0, 0, 0, []),
  (351, .aload_n 0, false, [], 0, 0, 0, 0, 0, []),
  (352, .iload_n 3, false, [], 0, 0, 0, 0, 0, []),
  (353, .iconst 1, false, [], 0, 0, 0, 0, 1, []),
  (354, .iadd, false, [], 0, 0, 0, 0, 0, []),
  (355, .iaload, false, [], 0, 0, 0, 0, 0, []),
  (356, .aload_n 0, false, [], 0, 0, 0, 0, 0, []),
  (357, .iload_n 3, false, [], 0, 0, 0, 0, 0, []),
  (358, .iconst 2, false, [], 0, 0, 0, 0, 2, []),
  (359, .iadd, false, [], 0, 0, 0, 0, 0, []),
  (360, .iaload, false, [], 0, 0, 0, 0, 0, []),
  (361, .aload_n 0, false, [], 0, 0, 0, 0, 0, []),
  (362, .iload_n 3, false, [], 0, 0, 0, 0, 0, []),
  (363, .iconst 3, false, [], 0, 0, 0, 0, 3, []),
  (364, .iadd, false, [], 0, 0, 0, 0, 0, []),
  (365, .iaload, false, [], 0, 0, 0, 0, 0, []),
  (366, .invokevirtual 31, false, [], 87, 3, 1, 6, 0, []),
  (369, .aload_n 2, false, [], 0, 0, 0, 0, 0, []),
  (370, .aload_n 0, false, [], 0, 0, 0, 0, 0, []),
  (371, .iload_n 3, false, [], 0, 0, 0, 0, 0, []),
  (372, .iconst 1, false, [], 0, 0, 0, 0, 1, []),
  (373, .iadd, false, [], 0, 0, 0, 0, 0, []),
  (374, .iaload, false, [], 0, 0, 0, 0, 0, []),
  (375, .aload_n 0, false, [], 0, 0, 0, 0, 0, []),
  (376, .iload_n 3, false, [], 0, 0, 0, 0, 0, []),
  (377, .iconst 2, false, [], 0, 0, 0, 0, 2, []),
  (378, .iadd, false, [], 0, 0, 0, 0, 0, []),
  (379, .iaload, false, [], 0, 0, 0, 0, 0, []),
  (380, .aload_n 0, false, [], 0, 0, 0, 0, 0, []),
  (381, .iload_n 3, false, [], 0, 0, 0, 0, 0, []),
  (382, .iconst 3, false, [], 0, 0, 0, 0, 3, []),
  (383, .iadd, false, [], 0, 0, 0, 0, 0, []),
  (384, .iaload, false, [], 0, 0, 0, 0, 0, []),
  (385, .invokevirtual 34, false, [], 153, 3, 1, 7, 0, []),
  (388, .if_icmp .eq 1020, false, [], 1408, 0, 0, 0, 0, []),
  (391, .iconst 0, false, [], 0, 0, 0, 0, 0, []),
  (392, .ireturn, false, [], 0, 0, 0, 1, 0, []),
  (393, .aload_n 1, false, [], 0, 0, 0, 0, 0, []),
  (394, .aload_n 0, false, [], 0, 0, 0, 0, 0, []),
  (395, .iload_n 3, false, [], 0, 0, 0, 0, 0, []),
  (396, .iconst 1, false, [], 0, 0, 0, 0, 1, []),
  (397, .iadd, false, [], 0, 0, 0, 0, 0, []),
  (398, .iaload, false, [], 0, 0, 0, 0, 0, []),
  (399, .aload_n 0, false, [], 0, 0, 0, 0, 0, []),
  (400, .iload_n 3, false, [], 0, 0, 0, 0, 0, []),
  (401, .iconst 2, false, [], 0, 0, 0, 0, 2, []),
  (402, .iadd, false, [], 0, 0, 0, 0, 0, []),
  (403, .iaload, false, [], 0, 0, 0, 0, 0, []),
  (404, .invokevirtual 35, false, [], 89, 2, 1, 6, 0, []),
  (407, .aload_n 2, false, [], 0, 0, 0, 0, 0, []),
  (408, .aload_n 0, false, [], 0, 0, 0, 0, 0, []),
  (409, .iload_n 3, false, [], 0, 0, 0, 0, 0, []),
  (410, .iconst 1, false, [], 0, 0, 0, 0, 1, []),
  (411, .iadd, false, [], 0, 0, 0, 0, 0, []),
  (412, .iaload, false, [], 0, 0, 0, 0, 0, []),
  (413, .aload_n 0, false, [], 0, 0, 0, 0, 0, []),
  (414, .iload_n 3, false, [], 0, 0, 0, 0, 0, []),
  (415, .iconst 2, false, [], 0, 0, 0, 0, 2, []),
  (416, .iadd, false, [], 0, 0, 0, 0, 0, []),
  (417, .iaload, false, [], 0, 0, 0, 0, 0, []),
  (418, .invokevirtual 38, false, [], 155, 2, 1, 7, 0, []),
  (421, .if_icmp .eq 987, false, [], 1408, 0, 0, 0, 0, []),
  (424, .iconst 0, false, [], 0, 0, 0, 0, 0, []),
  (425, .ireturn, false, [], 0, 0, 0, 1, 0, []),
  (426, .aload_n 1, false, [], 0, 0, 0, 0, 0, []),
  (427, .aload_n 0, false, [], 0, 0, 0, 0, 0, []),
  (428, .iload_n 3, false, [], 0, 0, 0, 0, 0, []),
  (429, .iconst 1, false, [], 0, 0, 0, 0, 1, []),
  (430, .iadd, false, [], 0, 0, 0, 0, 0, []),
  (431, .iaload, false, [], 0, 0, 0, 0, 0, []),
  (432, .aload_n 0, false, [], 0, 0, 0, 0, 0, []),
  (433, .iload_n 3, false, [], 0, 0, 0, 0, 0, []),
  (434, .iconst 2, false, [], 0, 0, 0, 0, 2, []),
  (435, .iadd, false, [], 0, 0, 0, 0, 0, []),
  (436, .iaload, false, [], 0, 0, 0, 0, 0, []),
  (437, .invokevirtual 39, false, [], 90, 2, 1, 6, 0, []),
  (440, .aload_n 2, false, [], 0, 0, 0, 0, 0, []),
  (441, .aload_n 0, false, [], 0, 0, 0, 0, 0, []),
  (442, .iload_n 3, false, [], 0, 0, 0, 0, 0, []),
  (443, .iconst 1, false, [], 0, 0, 0, 0, 1, []),
  (444, .iadd, false, [], 0, 0, 0, 0, 0, []),
  (445, .iaload, false, [], 0, 0, 0, 0, 0, []),
  (446, .aload_n 0, false, [], 0, 0, 0, 0, 0, []),
  (447, .iload_n 3, false, [], 0, 0, 0, 0, 0, []),
  (448, .iconst 2, false, [], 0, 0, 0, 0, 2, []),
  (449, .iadd, false, [], 0, 0, 0, 0, 0, []),
  (450, .iaload, false, [], 0, 0, 0, 0, 0, []),
  (451, .invokevirtual 42, false, [], 156, 2, 1, 7, 0, []),
  (454, .if_icmp .eq 954, false, [], 1408, 0, 0, 0, 0, []),
  (457, .iconst 0, false, [], 0, 0, 0, 0, 0, []),
  (458, .ireturn, false, [], 0, 0, 0, 1, 0, []),
  (459, .aload_n 1, false, [], 0, 0, 0, 0, 0, []),
  (460, .aload_n 0, false, [], 0, 0, 0, 0, 0, []),
  (461, .iload_n 3, false, [], 0, 0, 0, 0, 0, []),
  (462, .iconst 1, false, [], 0, 0, 0, 0, 1, []),
  (463, .iadd, false, [], 0, 0, 0, 0, 0, []),
  (464, .iaload, false, [], 0, 0, 0, 0, 0, []),
  (465, .invokevirtual 43, false, [], 91, 1, 1, 6, 0, []),
  (468, .aload_n 2, false, [], 0, 0, 0, 0, 0, []),
  (469, .aload_n 0, false, [], 0, 0, 0, 0, 0, []),
  (470, .iload_n 3, false, [], 0, 0, 0, 0, 0, []),
  (471, .iconst 1, false, [], 0, 0, 0, 0, 1, []),
  (472, .iadd, false, [], 0, 0, 0, 0, 0, []),
  (473, .iaload, false, [], 0, 0, 0, 0, 0, []),
  (474, .invokevirtual 47, false, [], 158, 1, 1, 7, 0, []),
  (477, .if_icmp .eq 931, false, [], 1408, 0, 0, 0, 0, []),
  (480, .iconst 0, false, [], 0, 0, 0, 0, 0, []),
  (481, .ireturn, false, [], 0, 0, 0, 1, 0, []),
  (482, .aload_n 1, false, [], 0, 0, 0, 0, 0, []),
  (483, .aload_n 0, false, [], 0, 0, 0, 0, 0, []),
  (484, .iload_n 3, false, [], 0, 0, 0, 0, 0, []),
  (485, .iconst 1, false, [], 0, 0, 0, 0, 1, []),
  (486, .iadd, false, [], 0, 0, 0, 0, 0, []),
  (487, .iaload, false, [], 0, 0, 0, 0, 0, []),
  (488, .invokevirtual 48, false, [], 92, 1, 1, 6, 0, []),
  (491, .aload_n 2, false, [], 0, 0, 0, 0, 0, []),
  (492, .aload_n 0, false, [], 0, 0, 0, 0, 0, []),
  (493, .iload_n 3, false, [], 0, 0, 0, 0, 0, []),
  (494, .iconst 1, false, [], 0, 0, 0, 0, 1, []),
  (495, .iadd, false, [], 0, 0, 0, 0, 0, []),
  (496, .iaload, false, [], 0, 0, 0, 0, 0, []),
  (497, .invokevirtual 51, false, [], 159, 1, 1, 7, 0, []),
  (500, .if_icmp .eq 908, false, [], 1408, 0, 0, 0, 0, []),
  (503, .iconst 0, false, [], 0, 0, 0, 0, 0, []),
  (504, .ireturn, false, [], 0, 0, 0, 1, 0, []),
  (505, .aload_n 1, false, [], 0, 0, 0, 0, 0, []),
  (506, .aload_n 0, false, [], 0, 0, 0, 0, 0, []),
  (507, .iload_n 3, false, [], 0, 0, 0, 0, 0, []),
  (508, .iconst 1, false, [], 0, 0, 0, 0, 1, []),
  (509, .iadd, false, [], 0, 0, 0, 0, 0, []),
  (510, .iaload, false, [], 0, 0, 0, 0, 0, []),
  (511, .invokevirtual 52, false, [], 93, 1, 1, 6, 0, []),
  (514, .aload_n 2, false, [], 0, 0, 0, 0, 0, []),
  (515, .aload_n 0, false, [], 0, 0, 0, 0, 0, []),
  (516, .iload_n 3, false, [], 0, 0, 0, 0, 0, []),
  (517, .iconst 1, false, [], 0, 0, 0, 0, 1, []),
  (518, .iadd, false, [], 0, 0, 0, 0, 0, []),
  (519, .iaload, false, [], 0, 0, 0, 0, 0, []),
  (520, .invokevirtual 55, false, [], 164, 1, 1, 7, 0, []),
  (523, .if_icmp .eq 885, false, [], 1408, 0, 0, 0, 0, []),
  (526, .iconst 0, false, [], 0, 0, 0, 0, 0, []),
  (527, .ireturn, false, [], 0, 0, 0, 1, 0, []),
  (528, .aload_n 1, false, [], 0, 0, 0, 0, 0, []),
  (529, .aload_n 0, false, [], 0, 0, 0, 0, 0, []),
  (530, .iload_n 3, false, [], 0, 0, 0, 0, 0, []),
  (531, .iconst 1, false, [], 0, 0, 0, 0, 1, []),
  (532, .iadd, false, [], 0, 0, 0, 0, 0, []),
  (533, .iaload, false, [], 0, 0, 0, 0, 0, []),
  (534, .invokevirtual 56, false, [], 94, 1, 1, 6, 0, []),
  (537, .aload_n 2, false, [], 0, 0, 0, 0, 0, []),
  (538, .aload_n 0, false, [], 0, 0, 0, 0, 0, []),
  (539, .iload_n 3, false, [], 0, 0, 0, 0, 0, []),
  (540, .iconst 1, false, [], 0, 0, 0, 0, 1, []),
  (541, .iadd, false, [], 0, 0, 0, 0, 0, []),
  (542, .iaload, false, [], 0, 0, 0, 0, 0, []),
  (543, .invokevirtual 59, false, [], 167, 1, 1, 7, 0, []),
  (546, .if_icmp .eq 862, false, [], 1408, 0, 0, 0, 0, []),
  (549, .iconst 0, false, [], 0, 0, 0, 0, 0, []),
  (550, .ireturn, false, [], 0, 0, 0, 1, 0, []),
  (551, .aload_n 1, false, [], 0, 0, 0, 0, 0, []),
  (552, .aload_n 0, false, [], 0, 0, 0, 0, 0, []),
  (553, .iload_n 3, false, [], 0, 0, 0, 0, 0, []),
  (554, .iconst 1, false, [], 0, 0, 0, 0, 1, []),
  (555, .iadd, false, [], 0, 0, 0, 0, 0, []),
  (556, .iaload, false, [], 0, 0, 0, 0, 0, []),
  (557, .aload_n 0, false, [], 0, 0, 0, 0, 0, []),
  (558, .iload_n 3, false, [], 0, 0, 0, 0, 0, []),
  (559, .iconst 2, false, [], 0, 0, 0, 0, 2, []),
  (560, .iadd, false, [], 0, 0, 0, 0, 0, []),
  (561, .iaload, false, [], 0, 0, 0, 0, 0, []),
  (562, .invokevirtual 60, false, [], 95, 2, 1, 6, 0, []),
  (565, .aload_n 2, false, [], 0, 0, 0, 0, 0, []),
  (566, .aload_n 0, false, [], 0, 0, 0, 0, 0, []),
  (567, .iload_n 3, false, [], 0, 0, 0, 0, 0, []),
  (568, .iconst 1, false, [], 0, 0, 0, 0, 1, []),
  (569, .iadd, false, [], 0, 0, 0, 0, 0, []),
  (570, .iaload, false, [], 0, 0, 0, 0, 0, []),
  (571, .aload_n 0, false, [], 0, 0, 0, 0, 0, []),
  (572, .iload_n 3, false, [], 0, 0, 0, 0, 0, []),
  (573, .iconst 2, false, [], 0, 0, 0, 0, 2, []),
  (574, .iadd, false, [], 0, 0, 0, 0, 0, []),
  (575, .iaload, false, [], 0, 0, 0, 0, 0, []),
  (576, .invokevirtual 63, false, [], 170, 2, 1, 7, 0, []),
  (579, .if_icmp .eq 829, false, [], 1408, 0, 0, 0, 0, []),
  (582, .iconst 0, false, [], 0, 0, 0, 0, 0, []),
  (583, .ireturn, false, [], 0, 0, 0, 1, 0, []),
  (584, .aload_n 1, false, [], 0, 0, 0, 0, 0, []),
  (585, .aload_n 0, false, [], 0, 0, 0, 0, 0, []),
  (586, .iload_n 3, false, [], 0, 0, 0, 0, 0, []),
  (587, .iconst 1, false, [], 0, 0, 0, 0, 1, []),
  (588, .iadd, false, [], 0, 0, 0, 0, 0, []),
  (589, .iaload, false, [], 0, 0, 0, 0, 0, []),
  (590, .aload_n 0, false, [], 0, 0, 0, 0, 0, []),
  (591, .iload_n 3, false, [], 0, 0, 0, 0, 0, []),
  (592, .iconst 2, false, [], 0, 0, 0, 0, 2, []),
  (593, .iadd, false, [], 0, 0, 0, 0, 0, []),
  (594, .iaload, false, [], 0, 0, 0, 0, 0, []),
  (595, .invokevirtual 64, false, [], 96, 2, 1, 6, 0, []),
  (598, .aload_n 2, false, [], 0, 0, 0, 0, 0, []),
  (599, .aload_n 0, false, [], 0, 0, 0, 0, 0, []),
  (600, .iload_n 3, false, [], 0, 0, 0, 0, 0, []),
  (601, .iconst 1, false, [], 0, 0, 0, 0, 1, []),
  (602, .iadd, false, [], 0, 0, 0, 0, 0, []),
  (603, .iaload, false, [], 0, 0, 0, 0, 0, []),
  (604, .aload_n 0, false, [], 0, 0, 0, 0, 0, []),
  (605, .iload_n 3, false, [], 0, 0, 0, 0, 0, []),
  (606, .iconst 2, false, [], 0, 0, 0, 0, 2, []),
  (607, .iadd, false, [], 0, 0, 0, 0, 0, []),
  (608, .iaload, false, [], 0, 0, 0, 0, 0, []),
  (609, .invokevirtual 67, false, [], 171, 2, 1, 7, 0, []),
  (612, .if_icmp .eq 796, false, [], 1408, 0, 0, 0, 0, []),
  (615, .iconst 0, false, [], 0, 0, 0, 0, 0, []),
  (616, .ireturn, false, [], 0, 0, 0, 1, 0, []),
  (617, .aload_n 1, false, [], 0, 0, 0, 0, 0, []),
  (618, .aload_n 0, false, [], 0, 0, 0, 0, 0, []),
  (619, .iload_n 3, false, [], 0, 0, 0, 0, 0, []),
  (620, .iconst 1, false, [], 0, 0, 0, 0, 1, []),
  (621, .iadd, false, [], 0, 0, 0, 0, 0, []),
  (622, .iaload, false, [], 0, 0, 0, 0, 0, []),
  (623, .invokevirtual 68, false, [], 97, 1, 1, 6, 0, []),
  (626, .aload_n 2, false, [], 0, 0, 0, 0, 0, []),
  (627, .aload_n 0, false, [], 0, 0, 0, 0, 0, []),
  (628, .iload_n 3, false, [], 0, 0, 0, 0, 0, []),
  (629, .iconst 1, false, [], 0, 0, 0, 0, 1, []),
  (630, .iadd, false, [], 0, 0, 0, 0, 0, []),
  (631, .iaload, false, [], 0, 0, 0, 0, 0, []),
  (632, .invokevirtual 71, false, [], 172, 1, 1, 7, 0, []),
  (635, .if_icmp .eq 773, false, [], 1408, 0, 0, 0, 0, []),
  (638, .iconst 0, false, [], 0, 0, 0, 0, 0, []),
  (639, .ireturn, false, [], 0, 0, 0, 1, 0, []),
  (640, .aload_n 1, false, [], 0, 0, 0, 0, 0, []),
  (641, .aload_n 0, false, [], 0, 0, 0, 0, 0, []),
  (642, .iload_n 3, false, [], 0, 0, 0, 0, 0, []),
  (643, .iconst 1, false, [], 0, 0, 0, 0, 1, []),
  (644, .iadd, false, [], 0, 0, 0, 0, 0, []),
  (645, .iaload, false, [], 0, 0, 0, 0, 0, []),
  (646, .invokevirtual 72, false, [], 98, 1, 1, 6, 0, []),
  (649, .aload_n 2, false, [], 0, 0, 0, 0, 0, []),
  (650, .aload_n 0, false, [], 0, 0, 0, 0, 0, []),
  (651, .iload_n 3, false, [], 0, 0, 0, 0, 0, []),
  (652, .iconst 1, false, [], 0, 0, 0, 0, 1, []),
  (653, .iadd, false, [], 0, 0, 0, 0, 0, []),
  (654, .iaload, false, [], 0, 0, 0, 0, 0, []),
  (655, .invokevirtual 75, false, [], 174, 1, 1, 7, 0, []),
  (658, .if_icmp .eq 750, false, [], 1408, 0, 0, 0, 0, []),
  (661, .iconst 0, false, [], 0, 0, 0, 0, 0, []),
  (662, .ireturn, false, [], 0, 0, 0, 1, 0, []),
  (663, .aload_n 1, false, [], 0, 0, 0, 0, 0, []),
  (664, .aload_n 0, false, [], 0, 0, 0, 0, 0, []),
  (665, .iload_n 3, false, [], 0, 0, 0, 0, 0, []),
  (666, .iconst 1, false, [], 0, 0, 0, 0, 1, []),
  (667, .iadd, false, [], 0, 0, 0, 0, 0, []),
  (668, .iaload, false, [], 0, 0, 0, 0, 0, []),
  (669, .aload_n 0, false, [], 0, 0, 0, 0, 0, []),
  (670, .iload_n 3, false, [], 0, 0, 0, 0, 0, []),
  (671, .iconst 2, false, [], 0, 0, 0, 0, 2, []),
  (672, .iadd, false, [], 0, 0, 0, 0, 0, []),
  (673, .iaload, false, [], 0, 0, 0, 0, 0, []),
  (674, .invokevirtual 76, false, [], 99, 2, 1, 6, 0, []),
  (677, .aload_n 2, false, [], 0, 0, 0, 0, 0, []),
  (678, .aload_n 0, false, [], 0, 0, 0, 0, 0, []),
  (679, .iload_n 3, false, [], 0, 0, 0, 0, 0, []),
  (680, .iconst 1, false, [], 0, 0, 0, 0, 1, []),
  (681, .iadd, false, [], 0, 0, 0, 0, 0, []),
  (682, .iaload, false, [], 0, 0, 0, 0, 0, []),
  (683, .aload_n 0, false, [], 0, 0, 0, 0, 0, []),
  (684, .iload_n 3, false, [], 0, 0, 0, 0, 0, []),
  (685, .iconst 2, false, [], 0, 0, 0, 0, 2, []),
  (686, .iadd, false, [], 0, 0, 0, 0, 0, []),
  (687, .iaload, false, [], 0, 0, 0, 0, 0, []),
  (688, .invokevirtual 79, false, [], 176, 2, 1, 7, 0, []),
  (691, .if_icmp .eq 717, false, [], 1408, 0, 0, 0, 0, []),
  (694, .iconst 0, false, [], 0, 0, 0, 0, 0, []),
  (695, .ireturn, false, [], 0, 0, 0, 1, 0, []),
  (696, .aload_n 1, false, [], 0, 0, 0, 0, 0, []),
  (697, .aload_n 0, false, [], 0, 0, 0, 0, 0, []),
  (698, .iload_n 3, false, [], 0, 0, 0, 0, 0, []),
  (699, .iconst 1, false, [], 0, 0, 0, 0, 1, []),
  (700, .iadd, false, [], 0, 0, 0, 0, 0, []),
  (701, .iaload, false, [], 0, 0, 0, 0, 0, []),
  (702, .aload_n 0, false, [], 0, 0, 0, 0, 0, []),
  (703, .iload_n 3, false, [], 0, 0, 0, 0, 0, []),
  (704, .iconst 2, false, [], 0, 0, 0, 0, 2, []),
  (705, .iadd, false, [], 0, 0, 0, 0, 0, []),
  (706, .iaload, false, [], 0, 0, 0, 0, 0, []),
  (707, .invokevirtual 80, false, [], 100, 2, 1, 6, 0, []),
  (710, .aload_n 2, false, [], 0, 0, 0, 0, 0, []),
  (711, .aload_n 0, false, [], 0, 0, 0, 0, 0, []),
  (712, .iload_n 3, false, [], 0, 0, 0, 0, 0, []),
  (713, .iconst 1, false, [], 0, 0, 0, 0, 1, []),
  (714, .iadd, false, [], 0, 0, 0, 0, 0, []),
  (715, .iaload, false, [], 0, 0, 0, 0, 0, []),
  (716, .aload_n 0, false, [], 0, 0, 0, 0, 0, []),
  (717, .iload_n 3, false, [], 0, 0, 0, 0, 0, []),
  (718, .iconst 2, false, [], 0, 0, 0, 0, 2, []),
  (719, .iadd, false, [], 0, 0, 0, 0, 0, []),
  (720, .iaload, false, [], 0, 0, 0, 0, 0, []),
  (721, .invokevirtual 83, false, [], 177, 2, 1, 7, 0, []),
  (724, .if_icmp .eq 684, false, [], 1408, 0, 0, 0, 0, []),
  (727, .iconst 0, false, [], 0, 0, 0, 0, 0, []),
  (728, .ireturn, false, [], 0, 0, 0, 1, 0, []),
  (729, .aload_n 1, false, [], 0, 0, 0, 0, 0, []),
  (730, .aload_n 0, false, [], 0, 0, 0, 0, 0, []),
  (731, .iload_n 3, false, [], 0, 0, 0, 0, 0, []),
  (732, .iconst 1, false, [], 0, 0, 0, 0, 1, []),
  (733, .iadd, false, [], 0, 0, 0, 0, 0, []),
  (734, .iaload, false, [], 0, 0, 0, 0, 0, []),
  (735, .aload_n 0, false, [], 0, 0, 0, 0, 0, []),
  (736, .iload_n 3, false, [], 0, 0, 0, 0, 0, []),
  (737, .iconst 2, false, [], 0, 0, 0, 0, 2, []),
  (738, .iadd, false, [], 0, 0, 0, 0, 0, []),
  (739, .iaload, false, [], 0, 0, 0, 0, 0, []),
  (740, .aload_n 0, false, [], 0, 0, 0, 0, 0, []),
  (741, .iload_n 3, false, [], 0, 0, 0, 0, 0, []),
  (742, .iconst 3, false, [], 0, 0, 0, 0, 3, []),
  (743, .iadd, false, [], 0, 0, 0, 0, 0, []),
  (744, .iaload, false, [], 0, 0, 0, 0, 0, []),
  (745, .invokevirtual 84, false, [], 101, 3, 1, 6, 0, []),
  (748, .aload_n 2, false, [], 0, 0, 0, 0, 0, []),
  (749, .aload_n 0, false, [], 0, 0, 0, 0, 0, []),
  (750, .iload_n 3, false, [], 0, 0, 0, 0, 0, []),
  (751, .iconst 1, false, [], 0, 0, 0, 0, 1, []),
  (752, .iadd, false, [], 0, 0, 0, 0, 0, []),
  (753, .iaload, false, [], 0, 0, 0, 0, 0, []),
  (754, .aload_n 0, false, [], 0, 0, 0, 0, 0, []),
  (755, .iload_n 3, false, [], 0, 0, 0, 0, 0, []),
  (756, .iconst 2, false, [], 0, 0, 0, 0, 2, []),
  (757, .iadd, false, [], 0, 0, 0, 0, 0, []),
  (758, .iaload, false, [], 0, 0, 0, 0, 0, []),
  (759, .aload_n 0, false, [], 0, 0, 0, 0, 0, []),
  (760, .iload_n 3, false, [], 0, 0, 0, 0, 0, []),
  (761, .iconst 3, false, [], 0, 0, 0, 0, 3, []),
  (762, .iadd, false, [], 0, 0, 0, 0, 0, []),
  (763, .iaload, false, [], 0, 0, 0, 0, 0, []),
  (764, .invokevirtual 87, false, [], 178, 3, 1, 7, 0, []),
  (767, .if_icmp .eq 641, false, [], 1408, 0, 0, 0, 0, []),
  (770, .iconst 0, false, [], 0, 0, 0, 0, 0, []),
  (771, .ireturn, false, [], 0, 0, 0, 1, 0, []),
  (772, .aload_n 1, false, [], 0, 0, 0, 0, 0, []),
  (773, .aload_n 0, false, [], 0, 0, 0, 0, 0, []),
  (774, .iload_n 3, false, [], 0, 0, 0, 0, 0, []),
  (775, .iconst 1, false, [], 0, 0, 0, 0, 1, []),
  (776, .iadd, false, [], 0, 0, 0, 0, 0, []),
  (777, .iaload, false, [], 0, 0, 0, 0, 0, []),
  (778, .aload_n 0, false, [], 0, 0, 0, 0, 0, []),
  (779, .iload_n 3, false, [], 0, 0, 0, 0, 0, []),
  (780, .iconst 2, false, [], 0, 0, 0, 0, 2, []),
  (781, .iadd, false, [], 0, 0, 0, 0, 0, []),
  (782, .iaload, false, [], 0, 0, 0, 0, 0, []),
  (783, .invokevirtual 88, false, [], 102, 2, 1, 6, 0, []),
  (786, .aload_n 2, false, [], 0, 0, 0, 0, 0, []),
  (787, .aload_n 0, false, [], 0, 0, 0, 0, 0, []),
  (788, .iload_n 3, false, [], 0, 0, 0, 0, 0, []),
  (789, .iconst 1, false, [], 0, 0, 0, 0, 1, []),
  (790, .iadd, false, [], 0, 0, 0, 0, 0, []),
  (791, .iaload, false, [], 0, 0, 0, 0, 0, []),
  (792, .aload_n 0, false, [], 0, 0, 0, 0, 0, []),
  (793, .iload_n 3, false, [], 0, 0, 0, 0, 0, []),
  (794, .iconst 2, false, [], 0, 0, 0, 0, 2, []),
  (795, .iadd, false, [], 0, 0, 0, 0, 0, []),
  (796, .iaload, false, [], 0, 0, 0, 0, 0, []),
  (797, .invokevirtual 91, false, [], 179, 2, 1, 7, 0, []),
  (800, .if_icmp .eq 608, false, [], 1408, 0, 0, 0, 0, []),
  (803, .iconst 0, false, [], 0, 0, 0, 0, 0, []),
  (804, .ireturn, false, [], 0, 0, 0, 1, 0, []),
  (805, .aload_n 1, false, [], 0, 0, 0, 0, 0, []),
  (806, .invokevirtual 92, false, [], 104, 0, 1, 6, 0, []),
  (809, .aload_n 2, false, [], 0, 0, 0, 0, 0, []),
  (810, .invokevirtual 96, false, [], 180, 0, 1, 7, 0, []),
  (813, .if_icmp .eq 595, false, [], 1408, 0, 0, 0, 0, []),
  (816, .iconst 0, false, [], 0, 0, 0, 0, 0, []),
  (817, .ireturn, false, [], 0, 0, 0, 1, 0, []),
  (818, .aload_n 1, false, [], 0, 0, 0, 0, 0, []),
  (819, .aload_n 0, false, [], 0, 0, 0, 0, 0, []),
  (820, .iload_n 3, false, [], 0, 0, 0, 0, 0, []),
  (821, .iconst 1, false, [], 0, 0, 0, 0, 1, []),
  (822, .iadd, false, [], 0, 0, 0, 0, 0, []),
  (823, .iaload, false, [], 0, 0, 0, 0, 0, []),
  (824, .invokevirtual 97, false, [], 105, 1, 1, 6, 0, []),
  (827, .aload_n 2, false, [], 0, 0, 0, 0, 0, []),
  (828, .aload_n 0, false, [], 0, 0, 0, 0, 0, []),
  (829, .iload_n 3, false, [], 0, 0, 0, 0, 0, []),
  (830, .iconst 1, false, [], 0, 0, 0, 0, 1, []),
  (831, .iadd, false, [], 0, 0, 0, 0, 0, []),
  (832, .iaload, false, [], 0, 0, 0, 0, 0, []),
  (833, .invokevirtual 100, false, [], 181, 1, 1, 7, 0, []),
  (836, .if_icmp .eq 572, false, [], 1408, 0, 0, 0, 0, []),
  (839, .iconst 0, false, [], 0, 0, 0, 0, 0, []),
  (840, .ireturn, false, [], 0, 0, 0, 1, 0, []),
  (841, .aload_n 1, false, [], 0, 0, 0, 0, 0, []),
  (842, .aload_n 0, false, [], 0, 0, 0, 0, 0, []),
  (843, .iload_n 3, false, [], 0, 0, 0, 0, 0, []),
  (844, .iconst 1, false, [], 0, 0, 0, 0, 1, []),
  (845, .iadd, false, [], 0, 0, 0, 0, 0, []),
  (846, .iaload, false, [], 0, 0, 0, 0, 0, []),
  (847, .aload_n 0, false, [], 0, 0, 0, 0, 0, []),
  (848, .iload_n 3, false, [], 0, 0, 0, 0, 0, []),
  (849, .iconst 2, false, [], 0, 0, 0, 0, 2, []),
  (850, .iadd, false, [], 0, 0, 0, 0, 0, []),
  (851, .iaload, false, [], 0, 0, 0, 0, 0, []),
  (852, .aload_n 0, false, [], 0, 0, 0, 0, 0, []),
  (853, .iload_n 3, false, [], 0, 0, 0, 0, 0, []),
  (854, .iconst 3, false, [], 0, 0, 0, 0, 3, []),
  (855, .iadd, false, [], 0, 0, 0, 0, 0, []),
  (856, .iaload, false, [], 0, 0, 0, 0, 0, []),
  (857, .invokevirtual 101, false, [], 106, 3, 1, 6, 0, []),
  (860, .aload_n 2, false, [], 0, 0, 0, 0, 0, []),
  (861, .aload_n 0, false, [], 0, 0, 0, 0, 0, []),
  (862, .iload_n 3, false, [], 0, 0, 0, 0, 0, []),
  (863, .iconst 1, false, [], 0, 0, 0, 0, 1, []),
  (864, .iadd, false, [], 0, 0, 0, 0, 0, []),
  (865, .iaload, false, [], 0, 0, 0, 0, 0, []),
  (866, .aload_n 0, false, [], 0, 0, 0, 0, 0, []),
  (867, .iload_n 3, false, [], 0, 0, 0, 0, 0, []),
  (868, .iconst 2, false, [], 0, 0, 0, 0, 2, []),
  (869, .iadd, false, [], 0, 0, 0, 0, 0, []),
  (870, .iaload, false, [], 0, 0, 0, 0, 0, []),
  (871, .aload_n 0, false, [], 0, 0, 0, 0, 0, []),
  (872, .iload_n 3, false, [], 0, 0, 0, 0, 0, []),
  (873, .iconst 3, false, [], 0, 0, 0, 0, 3, []),
  (874, .iadd, false, [], 0, 0, 0, 0, 0, []),
  (875, .iaload, false, [], 0, 0, 0, 0, 0, []),
  (876, .invokevirtual 104, false, [], 182, 3, 1, 7, 0, []),
  (879, .if_icmp .eq 529, false, [], 1408, 0, 0, 0, 0, []),
  (882, .iconst 0, false, [], 0, 0, 0, 0, 0, []),
  (883, .ireturn, false, [], 0, 0, 0, 1, 0, []),
  (884, .aload_n 1, false, [], 0, 0, 0, 0, 0, []),
  (885, .aload_n 0, false, [], 0, 0, 0, 0, 0, []),
  (886, .iload_n 3, false, [], 0, 0, 0, 0, 0, []),
  (887, .iconst 1, false, [], 0, 0, 0, 0, 1, []),
  (888, .iadd, false, [], 0, 0, 0, 0, 0, []),
  (889, .iaload, false, [], 0, 0, 0, 0, 0, []),
  (890, .invokevirtual 105, false, [], 108, 1, 1, 6, 0, []),
  (893, .aload_n 2, false, [], 0, 0, 0, 0, 0, []),
  (894, .aload_n 0, false, [], 0, 0, 0, 0, 0, []),
  (895, .iload_n 3, false, [], 0, 0, 0, 0, 0, []),
  (896, .iconst 1, false, [], 0, 0, 0, 0, 1, []),
  (897, .iadd, false, [], 0, 0, 0, 0, 0, []),
  (898, .iaload, false, [], 0, 0, 0, 0, 0, []),
  (899, .invokevirtual 108, false, [], 183, 1, 1, 7, 0, []),
  (902, .if_icmp .eq 506, false, [], 1408, 0, 0, 0, 0, []),
  (905, .iconst 0, false, [], 0, 0, 0, 0, 0, []),
  (906, .ireturn, false, [], 0, 0, 0, 1, 0, []),
  (907, .aload_n 1, false, [], 0, 0, 0, 0, 0, []),
  (908, .invokevirtual 109, false, [], 109, 0, 1, 6, 0, []),
  (911, .aload_n 2, false, [], 0, 0, 0, 0, 0, []),
  (912, .invokevirtual 112, false, [], 195, 0, 1, 7, 0, []),
  (915, .if_icmp .eq 493, false, [], 1408, 0, 0, 0, 0, []),
  (918, .iconst 0, false, [], 0, 0, 0, 0, 0, []),
  (919, .ireturn, false, [], 0, 0, 0, 1, 0, []),
  (920, .aload_n 1, false, [], 0, 0, 0, 0, 0, []),
  (921, .aload_n 0, false, [], 0, 0, 0, 0, 0, []),
  (922, .iload_n 3, false, [], 0, 0, 0, 0, 0, []),
  (923, .iconst 1, false, [], 0, 0, 0, 0, 1, []),
  (924, .iadd, false, [], 0, 0, 0, 0, 0, []),
  (925, .iaload, false, [], 0, 0, 0, 0, 0, []),
  (926, .aload_n 0, false, [], 0, 0, 0, 0, 0, []),
  (927, .iload_n 3, false, [], 0, 0, 0, 0, 0, []),
  (928, .iconst 2, false, [], 0, 0, 0, 0, 2, []),
  (929, .iadd, false, [], 0, 0, 0, 0, 0, []),
  (930, .iaload, false, [], 0, 0, 0, 0, 0, []),
  (931, .invokevirtual 113, false, [], 110, 2, 1, 6, 0, []),
  (934, .aload_n 2, false, [], 0, 0, 0, 0, 0, []),
  (935, .aload_n 0, false, [], 0, 0, 0, 0, 0, []),
  (936, .iload_n 3, false, [], 0, 0, 0, 0, 0, []),
  (937, .iconst 1, false, [], 0, 0, 0, 0, 1, []),
  (938, .iadd, false, [], 0, 0, 0, 0, 0, []),
  (939, .iaload, false, [], 0, 0, 0, 0, 0, []),
  (940, .aload_n 0, false, [], 0, 0, 0, 0, 0, []),
  (941, .iload_n 3, false, [], 0, 0, 0, 0, 0, []),
  (942, .iconst 2, false, [], 0, 0, 0, 0, 2, []),
  (943, .iadd, false, [], 0, 0, 0, 0, 0, []),
  (944, .iaload, false, [], 0, 0, 0, 0, 0, []),
  (945, .invokevirtual 116, false, [], 196, 2, 1, 7, 0, []),
  (948, .if_icmp .eq 460, false, [], 1408, 0, 0, 0, 0, []),
  (951, .iconst 0, false, [], 0, 0, 0, 0, 0, []),
  (952, .ireturn, false, [], 0, 0, 0, 1, 0, []),
  (953, .aload_n 1, false, [], 0, 0, 0, 0, 0, []),
  (954, .aload_n 0, false, [], 0, 0, 0, 0, 0, []),
  (955, .iload_n 3, false, [], 0, 0, 0, 0, 0, []),
  (956, .iconst 1, false, [], 0, 0, 0, 0, 1, []),
  (957, .iadd, false, [], 0, 0, 0, 0, 0, []),
  (958, .iaload, false, [], 0, 0, 0, 0, 0, []),
  (959, .invokevirtual 117, false, [], 111, 1, 1, 6, 0, []),
  (962, .aload_n 2, false, [], 0, 0, 0, 0, 0, []),
  (963, .aload_n 0, false, [], 0, 0, 0, 0, 0, []),
  (964, .iload_n 3, false, [], 0, 0, 0, 0, 0, []),
  (965, .iconst 1, false, [], 0, 0, 0, 0, 1, []),
  (966, .iadd, false, [], 0, 0, 0, 0, 0, []),
  (967, .iaload, false, [], 0, 0, 0, 0, 0, []),
  (968, .invokevirtual 120, false, [], 198, 1, 1, 7, 0, []),
  (971, .if_icmp .eq 437, false, [], 1408, 0, 0, 0, 0, []),
  (974, .iconst 0, false, [], 0, 0, 0, 0, 0, []),
  (975, .ireturn, false, [], 0, 0, 0, 1, 0, []),
  (976, .aload_n 1, false, [], 0, 0, 0, 0, 0, []),
  (977, .aload_n 0, false, [], 0, 0, 0, 0, 0, []),
  (978, .iload_n 3, false, [], 0, 0, 0, 0, 0, []),
  (979, .iconst 1, false, [], 0, 0, 0, 0, 1, []),
  (980, .iadd, false, [], 0, 0, 0, 0, 0, []),
  (981, .iaload, false, [], 0, 0, 0, 0, 0, []),
  (982, .aload_n 0, false, [], 0, 0, 0, 0, 0, []),
  (983, .iload_n 3, false, [], 0, 0, 0, 0, 0, []),
  (984, .iconst 2, false, [], 0, 0, 0, 0, 2, []),
  (985, .iadd, false, [], 0, 0, 0, 0, 0, []),
  (986, .iaload, false, [], 0, 0, 0, 0, 0, []),
  (987, .aload_n 0, false, [], 0, 0, 0, 0, 0, []),
  (988, .iload_n 3, false, [], 0, 0, 0, 0, 0, []),
  (989, .iconst 3, false, [], 0, 0, 0, 0, 3, []),
  (990, .iadd, false, [], 0, 0, 0, 0, 0, []),
  (991, .iaload, false, [], 0, 0, 0, 0, 0, []),
  (992, .invokevirtual 121, false, [], 112, 3, 1, 6, 0, []),
  (995, .aload_n 2, false, [], 0, 0, 0, 0, 0, []),
  (996, .aload_n 0, false, [], 0, 0, 0, 0, 0, []),
  (997, .iload_n 3, false, [], 0, 0, 0, 0, 0, []),
  (998, .iconst 1, false, [], 0, 0, 0, 0, 1, []),
  (999, .iadd, false, [], 0, 0, 0, 0, 0, []),
  (1000, .iaload, false, [], 0, 0, 0, 0, 0, []),
  (1001, .aload_n 0, false, [], 0, 0, 0, 0, 0, []),
  (1002, .iload_n 3, false, [], 0, 0, 0, 0, 0, []),
  (1003, .iconst 2, false, [], 0, 0, 0, 0, 2, []),
  (1004, .iadd, false, [], 0, 0, 0, 0, 0, []),
  (1005, .iaload, false, [], 0, 0, 0, 0, 0, []),
  (1006, .aload_n 0, false, [], 0, 0, 0, 0, 0, []),
  (1007, .iload_n 3, false, [], 0, 0, 0, 0, 0, []),
  (1008, .iconst 3, false, [], 0, 0, 0, 0, 3, []),
  (1009, .iadd, false, [], 0, 0, 0, 0, 0, []),
  (1010, .iaload, false, [], 0, 0, 0, 0, 0, []),
  (1011, .invokevirtual 124, false, [], 203, 3, 1, 7, 0, []),
  (1014, .if_icmp .eq 394, false, [], 1408, 0, 0, 0, 0, []),
  (1017, .iconst 0, false, [], 0, 0, 0, 0, 0, []),
  (1018, .ireturn, false, [], 0, 0, 0, 1, 0, []),
  (1019, .aload_n 1, false, [], 0, 0, 0, 0, 0, []),
  (1020, .aload_n 0, false, [], 0, 0, 0, 0, 0, []),
  (1021, .iload_n 3, false, [], 0, 0, 0, 0, 0, []),
  (1022, .iconst 1, false, [], 0, 0, 0, 0, 1, []),
  (1023, .iadd, false, [], 0, 0, 0, 0, 0, []),
  (1024, .iaload, false, [], 0, 0, 0, 0, 0, []),
  (1025, .aload_n 0, false, [], 0, 0, 0, 0, 0, []),
  (1026, .iload_n 3, false, [], 0, 0, 0, 0, 0, []),
  (1027, .iconst 2, false, [], 0, 0, 0, 0, 2, []),
  (1028, .iadd, false, [], 0, 0, 0, 0, 0, []),
  (1029, .iaload, false, [], 0, 0, 0, 0, 0, []),
  (1030, .aload_n 0, false, [], 0, 0, 0, 0, 0, []),
  (1031, .iload_n 3, false, [], 0, 0, 0, 0, 0, []),
  (1032, .iconst 3, false, [], 0, 0, 0, 0, 3, []),
  (1033, .iadd, false, [], 0, 0, 0, 0, 0, []),
  (1034, .iaload, false, [], 0, 0, 0, 0, 0, []),
  (1035, .invokevirtual 125, false, [], 113, 3, 1, 6, 0, []),
  (1038, .aload_n 2, false, [], 0, 0, 0, 0, 0, []),
  (1039, .aload_n 0, false, [], 0, 0, 0, 0, 0, []),
  (1040, .iload_n 3, false, [], 0, 0, 0, 0, 0, []),
  (1041, .iconst 1, false, [], 0, 0, 0, 0, 1, []),
  (1042, .iadd, false, [], 0, 0, 0, 0, 0, []),
  (1043, .iaload, false, [], 0, 0, 0, 0, 0, []),
  (1044, .aload_n 0, false, [], 0, 0, 0, 0, 0, []),
  (1045, .iload_n 3, false, [], 0, 0, 0, 0, 0, []),
  (1046, .iconst 2, false, [], 0, 0, 0, 0, 2, []),
  (1047, .iadd, false, [], 0, 0, 0, 0, 0, []),
  (1048, .iaload, false, [], 0, 0, 0, 0, 0, []),
  (1049, .aload_n 0, false, [], 0, 0, 0, 0, 0, []),
  (1050, .iload_n 3, false, [], 0, 0, 0, 0, 0, []),
  (1051, .iconst 3, false, [], 0, 0, 0, 0, 3, []),
  (1052, .iadd, false, [], 0, 0, 0, 0, 0, []),
  (1053, .iaload, false, [], 0, 0, 0, 0, 0, []),
  (1054, .invokevirtual 128, false, [], 204, 3, 1, 7, 0, []),
  (1057, .if_icmp .eq 351, false, [], 1408, 0, 0, 0, 0, []),
  (1060, .iconst 0, false, [], 0, 0, 0, 0, 0, []),
  (1061, .ireturn, false, [], 0, 0, 0, 1, 0, []),
  (1062, .aload_n 1, false, [], 0, 0, 0, 0, 0, []),
  (1063, .aload_n 0, false, [], 0, 0, 0, 0, 0, []),
  (1064, .iload_n 3, false, [], 0, 0, 0, 0, 0, []),
  (1065, .iconst 1, false, [], 0, 0, 0, 0, 1, []),
  (1066, .iadd, false, [], 0, 0, 0, 0, 0, []),
  (1067, .iaload, false, [], 0, 0, 0, 0, 0, []),
  (1068, .invokevirtual 129, false, [], 114, 1, 1, 6, 0, []),
  (1071, .aload_n 2, false, [], 0, 0, 0, 0, 0, []),
  (1072, .aload_n 0, false, [], 0, 0, 0, 0, 0, []),
  (1073, .iload_n 3, false, [], 0, 0, 0, 0, 0, []),
  (1074, .iconst 1, false, [], 0, 0, 0, 0, 1, []),
  (1075, .iadd, false, [], 0, 0, 0, 0, 0, []),
  (1076, .iaload, false, [], 0, 0, 0, 0, 0, []),
  (1077, .invokevirtual 132, false, [], 205, 1, 1, 7, 0, []),
  (1080, .if_icmp .eq 328, false, [], 1408, 0, 0, 0, 0, []),
  (1083, .iconst 0, false, [], 0, 0, 0, 0, 0, []),
  (1084, .ireturn, false, [], 0, 0, 0, 1, 0, []),
  (1085, .aload_n 1, false, [], 0, 0, 0, 0, 0, []),
  (1086, .aload_n 0, false, [], 0, 0, 0, 0, 0, []),
  (1087, .iload_n 3, false, [], 0, 0, 0, 0, 0, []),
  (1088, .iconst 1, false, [], 0, 0, 0, 0, 1, []),
  (1089, .iadd, false, [], 0, 0, 0, 0, 0, []),
  (1090, .iaload, false, [], 0, 0, 0, 0, 0, []),
  (1091, .invokevirtual 133, false, [], 115, 1, 1, 6, 0, []),
  (1094, .aload_n 2, false, [], 0, 0, 0, 0, 0, []),
  (1095, .aload_n 0, false, [], 0, 0, 0, 0, 0, []),
  (1096, .iload_n 3, false, [], 0, 0, 0, 0, 0, []),
  (1097, .iconst 1, false, [], 0, 0, 0, 0, 1, []),
  (1098, .iadd, false, [], 0, 0, 0, 0, 0, []),
  (1099, .iaload, false, [], 0, 0, 0, 0, 0, []),
  (1100, .invokevirtual 136, false, [], 206, 1, 1, 7, 0, []),
  (1103, .if_icmp .eq 305, false, [], 1408, 0, 0, 0, 0, []),
  (1106, .iconst 0, false, [], 0, 0, 0, 0, 0, []),
  (1107, .ireturn, false, [], 0, 0, 0, 1, 0, []),
  (1108, .aload_n 1, false, [], 0, 0, 0, 0, 0, []),
  (1109, .aload_n 0, false, [], 0, 0, 0, 0, 0, []),
  (1110, .iload_n 3, false, [], 0, 0, 0, 0, 0, []),
  (1111, .iconst 1, false, [], 0, 0, 0, 0, 1, []),
  (1112, .iadd, false, [], 0, 0, 0, 0, 0, []),
  (1113, .iaload, false, [], 0, 0, 0, 0, 0, []),
  (1114, .aload_n 0, false, [], 0, 0, 0, 0, 0, []),
  (1115, .iload_n 3, false, [], 0, 0, 0, 0, 0, []),
  (1116, .iconst 2, false, [], 0, 0, 0, 0, 2, []),
  (1117, .iadd, false, [], 0, 0, 0, 0, 0, []),
  (1118, .iaload, false, [], 0, 0, 0, 0, 0, []),
  (1119, .aload_n 0, false, [], 0, 0, 0, 0, 0, []),
  (1120, .iload_n 3, false, [], 0, 0, 0, 0, 0, []),
  (1121, .iconst 3, false, [], 0, 0, 0, 0, 3, []),
  (1122, .iadd, false, [], 0, 0, 0, 0, 0, []),
  (1123, .iaload, false, [], 0, 0, 0, 0, 0, []),
  (1124, .aload_n 0, false, [], 0, 0, 0, 0, 0, []),
  (1125, .iload_n 3, false, [], 0, 0, 0, 0, 0, []),
  (1126, .iconst 4, false, [], 0, 0, 0, 0, 4, []),
  (1127, .iadd, false, [], 0, 0, 0, 0, 0, []),
  (1128, .iaload, false, [], 0, 0, 0, 0, 0, []),
  (1129, .aload_n 0, false, [], 0, 0, 0, 0, 0, []),
  (1130, .iload_n 3, false, [], 0, 0, 0, 0, 0, []),
  (1131, .iconst 5, false, [], 0, 0, 0, 0, 5, []),
  (1132, .iadd, false, [], 0, 0, 0, 0, 0, []),
  (1133, .iaload, false, [], 0, 0, 0, 0, 0, []),
  (1134, .invokevirtual 137, false, [], 116, 5, 1, 6, 0, []),
  (1137, .aload_n 2, false, [], 0, 0, 0, 0, 0, []),
  (1138, .aload_n 0, false, [], 0, 0, 0, 0, 0, []),
  (1139, .iload_n 3, false, [], 0, 0, 0, 0, 0, []),
  (1140, .iconst 1, false, [], 0, 0, 0, 0, 1, []),
  (1141, .iadd, false, [], 0, 0, 0, 0, 0, []),
  (1142, .iaload, false, [], 0, 0, 0, 0, 0, []),
  (1143, .aload_n 0, false, [], 0, 0, 0, 0, 0, []),
  (1144, .iload_n 3, false, [], 0, 0, 0, 0, 0, []),
  (1145, .iconst 2, false, [], 0, 0, 0, 0, 2, []),
  (1146, .iadd, false, [], 0, 0, 0, 0, 0, []),
  (1147, .iaload, false, [], 0, 0, 0, 0, 0, []),
  (1148, .aload_n 0, false, [], 0, 0, 0, 0, 0, []),
  (1149, .iload_n 3, false, [], 0, 0, 0, 0, 0, []),
  (1150, .iconst 3, false, [], 0, 0, 0, 0, 3, []),
  (1151, .iadd, false, [], 0, 0, 0, 0, 0, []),
  (1152, .iaload, false, [], 0, 0, 0, 0, 0, []),
  (1153, .aload_n 0, false, [], 0, 0, 0, 0, 0, []),
  (1154, .iload_n 3, false, [], 0, 0, 0, 0, 0, []),
  (1155, .iconst 4, false, [], 0, 0, 0, 0, 4, []),
  (1156, .iadd, false, [], 0, 0, 0, 0, 0, []),
  (1157, .iaload, false, [], 0, 0, 0, 0, 0, []),
  (1158, .aload_n 0, false, [], 0, 0, 0, 0, 0, []),
  (1159, .iload_n 3, false, [], 0, 0, 0, 0, 0, []),
  (1160, .iconst 5, false, [], 0, 0, 0, 0, 5, []),
  (1161, .iadd, false, [], 0, 0, 0, 0, 0, []),
  (1162, .iaload, false, [], 0, 0, 0, 0, 0, []),
  (1163, .invokevirtual 141, false, [], 207, 5, 1, 7, 0, []),
  (1166, .if_icmp .eq 242, false, [], 1408, 0, 0, 0, 0, []),
  (1169, .iconst 0, false, [], 0, 0, 0, 0, 0, []),
  (1170, .ireturn, false, [], 0, 0, 0, 1, 0, []),
  (1171, .aload_n 1, false, [], 0, 0, 0, 0, 0, []),
  (1172, .aload_n 0, false, [], 0, 0, 0, 0, 0, []),
  (1173, .iload_n 3, false, [], 0, 0, 0, 0, 0, []),
  (1174, .iconst 1, false, [], 0, 0, 0, 0, 1, []),
  (1175, .iadd, false, [], 0, 0, 0, 0, 0, []),
  (1176, .iaload, false, [], 0, 0, 0, 0, 0, []),
  (1177, .aload_n 0, false, [], 0, 0, 0, 0, 0, []),
  (1178, .iload_n 3, false, [], 0, 0, 0, 0, 0, []),
  (1179, .iconst 2, false, [], 0, 0, 0, 0, 2, []),
  (1180, .iadd, false, [], 0, 0, 0, 0, 0, []),
  (1181, .iaload, false, [], 0, 0, 0, 0, 0, []),
  (1182, .aload_n 0, false, [], 0, 0, 0, 0, 0, []),
  (1183, .iload_n 3, false, [], 0, 0, 0, 0, 0, []),
  (1184, .iconst 3, false, [], 0, 0, 0, 0, 3, []),
  (1185, .iadd, false, [], 0, 0, 0, 0, 0, []),
  (1186, .iaload, false, [], 0, 0, 0, 0, 0, []),
  (1187, .invokevirtual 142, false, [], 117, 3, 1, 6, 0, []),
  (1190, .aload_n 2, false, [], 0, 0, 0, 0, 0, []),
  (1191, .aload_n 0, false, [], 0, 0, 0, 0, 0, []),
  (1192, .iload_n 3, false, [], 0, 0, 0, 0, 0, []),
  (1193, .iconst 1, false, [], 0, 0, 0, 0, 1, []),
  (1194, .iadd, false, [], 0, 0, 0, 0, 0, []),
  (1195, .iaload, false, [], 0, 0, 0, 0, 0, []),
  (1196, .aload_n 0, false, [], 0, 0, 0, 0, 0, []),
  (1197, .iload_n 3, false, [], 0, 0, 0, 0, 0, []),
  (1198, .iconst 2, false, [], 0, 0, 0, 0, 2, []),
  (1199, .iadd, false, [], 0, 0, 0, 0, 0, []),
  (1200, .iaload, false, [], 0, 0, 0, 0, 0, []),
  (1201, .aload_n 0, false, [], 0, 0, 0, 0, 0, []),
  (1202, .iload_n 3, false, [], 0, 0, 0, 0, 0, []),
  (1203, .iconst 3, false, [], 0, 0, 0, 0, 3, []),
  (1204, .iadd, false, [], 0, 0, 0, 0, 0, []),
  (1205, .iaload, false, [], 0, 0, 0, 0, 0, []),
  (1206, .invokevirtual 145, false, [], 208, 3, 1, 7, 0, []),
  (1209, .if_icmp .eq 199, false, [], 1408, 0, 0, 0, 0, []),
  (1212, .iconst 0, false, [], 0, 0, 0, 0, 0, []),
  (1213, .ireturn, false, [], 0, 0, 0, 1, 0, []),
  (1214, .aload_n 1, false, [], 0, 0, 0, 0, 0, []),
  (1215, .aload_n 0, false, [], 0, 0, 0, 0, 0, []),
  (1216, .iload_n 3, false, [], 0, 0, 0, 0, 0, []),
  (1217, .iconst 1, false, [], 0, 0, 0, 0, 1, []),
  (1218, .iadd, false, [], 0, 0, 0, 0, 0, []),
  (1219, .iaload, false, [], 0, 0, 0, 0, 0, []),
  (1220, .aload_n 0, false, [], 0, 0, 0, 0, 0, []),
  (1221, .iload_n 3, false, [], 0, 0, 0, 0, 0, []),
  (1222, .iconst 2, false, [], 0, 0, 0, 0, 2, []),
  (1223, .iadd, false, [], 0, 0, 0, 0, 0, []),
  (1224, .iaload, false, [], 0, 0, 0, 0, 0, []),
  (1225, .invokevirtual 146, false, [], 118, 2, 1, 6, 0, []),
  (1228, .aload_n 2, false, [], 0, 0, 0, 0, 0, []),
  (1229, .aload_n 0, false, [], 0, 0, 0, 0, 0, []),
  (1230, .iload_n 3, false, [], 0, 0, 0, 0, 0, []),
  (1231, .iconst 1, false, [], 0, 0, 0, 0, 1, []),
  (1232, .iadd, false, [], 0, 0, 0, 0, 0, []),
  (1233, .iaload, false, [], 0, 0, 0, 0, 0, []),
  (1234, .aload_n 0, false, [], 0, 0, 0, 0, 0, []),
  (1235, .iload_n 3, false, [], 0, 0, 0, 0, 0, []),
  (1236, .iconst 2, false, [], 0, 0, 0, 0, 2, []),
  (1237, .iadd, false, [], 0, 0, 0, 0, 0, []),
  (1238, .iaload, false, [], 0, 0, 0, 0, 0, []),
  (1239, .invokevirtual 149, false, [], 209, 2, 1, 7, 0, []),
  (1242, .if_icmp .eq 166, false, [], 1408, 0, 0, 0, 0, []),
  (1245, .iconst 0, false, [], 0, 0, 0, 0, 0, []),
  (1246, .ireturn, false, [], 0, 0, 0, 1, 0, []),
  (1247, .aload_n 1, false, [], 0, 0, 0, 0, 0, []),
  (1248, .aload_n 0, false, [], 0, 0, 0, 0, 0, []),
  (1249, .iload_n 3, false, [], 0, 0, 0, 0, 0, []),
  (1250, .iconst 1, false, [], 0, 0, 0, 0, 1, []),
  (1251, .iadd, false, [], 0, 0, 0, 0, 0, []),
  (1252, .iaload, false, [], 0, 0, 0, 0, 0, []),
  (1253, .aload_n 0, false, [], 0, 0, 0, 0, 0, []),
  (1254, .iload_n 3, false, [], 0, 0, 0, 0, 0, []),
  (1255, .iconst 2, false, [], 0, 0, 0, 0, 2, []),
  (1256, .iadd, false, [], 0, 0, 0, 0, 0, []),
  (1257, .iaload, false, [], 0, 0, 0, 0, 0, []),
  (1258, .invokevirtual 150, false, [], 119, 2, 1, 6, 0, []),
  (1261, .aload_n 2, false, [], 0, 0, 0, 0, 0, []),
  (1262, .aload_n 0, false, [], 0, 0, 0, 0, 0, []),
  (1263, .iload_n 3, false, [], 0, 0, 0, 0, 0, []),
  (1264, .iconst 1, false, [], 0, 0, 0, 0, 1, []),
  (1265, .iadd, false, [], 0, 0, 0, 0, 0, []),
  (1266, .iaload, false, [], 0, 0, 0, 0, 0, []),
  (1267, .aload_n 0, false, [], 0, 0, 0, 0, 0, []),
  (1268, .iload_n 3, false, [], 0, 0, 0, 0, 0, []),
  (1269, .iconst 2, false, [], 0, 0, 0, 0, 2, []),
  (1270, .iadd, false, [], 0, 0, 0, 0, 0, []),
  (1271, .iaload, false, [], 0, 0, 0, 0, 0, []),
  (1272, .invokevirtual 153, false, [], 210, 2, 1, 7, 0, []),
  (1275, .if_icmp .eq 133, false, [], 1408, 0, 0, 0, 0, []),
  (1278, .iconst 0, false, [], 0, 0, 0, 0, 0, []),
  (1279, .ireturn, false, [], 0, 0, 0, 1, 0, []),
  (1280, .aload_n 1, false, [], 0, 0, 0, 0, 0, []),
  (1281, .aload_n 0, false, [], 0, 0, 0, 0, 0, []),
  (1282, .iload_n 3, false, [], 0, 0, 0, 0, 0, []),
  (1283, .iconst 1, false, [], 0, 0, 0, 0, 1, []),
  (1284, .iadd, false, [], 0, 0, 0, 0, 0, []),
  (1285, .iaload, false, [], 0, 0, 0, 0, 0, []),
  (1286, .aload_n 0, false, [], 0, 0, 0, 0, 0, []),
  (1287, .iload_n 3, false, [], 0, 0, 0, 0, 0, []),
  (1288, .iconst 2, false, [], 0, 0, 0, 0, 2, []),
  (1289, .iadd, false, [], 0, 0, 0, 0, 0, []),
  (1290, .iaload, false, [], 0, 0, 0, 0, 0, []),
  (1291, .invokevirtual 154, false, [], 120, 2, 1, 6, 0, []),
  (1294, .aload_n 2, false, [], 0, 0, 0, 0, 0, []),
  (1295, .aload_n 0, false, [], 0, 0, 0, 0, 0, []),
  (1296, .iload_n 3, false, [], 0, 0, 0, 0, 0, []),
  (1297, .iconst 1, false, [], 0, 0, 0, 0, 1, []),
  (1298, .iadd, false, [], 0, 0, 0, 0, 0, []),
  (1299, .iaload, false, [], 0, 0, 0, 0, 0, []),
  (1300, .aload_n 0, false, [], 0, 0, 0, 0, 0, []),
  (1301, .iload_n 3, false, [], 0, 0, 0, 0, 0, []),
  (1302, .iconst 2, false, [], 0, 0, 0, 0, 2, []),
  (1303, .iadd, false, [], 0, 0, 0, 0, 0, []),
  (1304, .iaload, false, [], 0, 0, 0, 0, 0, []),
  (1305, .invokevirtual 157, false, [], 211, 2, 1, 7, 0, []),
  (1308, .if_icmp .eq 100, false, [], 1408, 0, 0, 0, 0, []),
  (1311, .iconst 0, false, [], 0, 0, 0, 0, 0, []),
  (1312, .ireturn, false, [], 0, 0, 0, 1, 0, []),
  (1313, .aload_n 1, false, [], 0, 0, 0, 0, 0, []),
  (1314, .aload_n 0, false, [], 0, 0, 0, 0, 0, []),
  (1315, .iload_n 3, false, [], 0, 0, 0, 0, 0, []),
  (1316, .iconst 1, false, [], 0, 0, 0, 0, 1, []),
  (1317, .iadd, false, [], 0, 0, 0, 0, 0, []),
  (1318, .iaload, false, [], 0, 0, 0, 0, 0, []),
  (1319, .invokevirtual 158, false, [], 121, 1, 1, 6, 0, []),
  (1322, .aload_n 2, false, [], 0, 0, 0, 0, 0, []),
  (1323, .aload_n 0, false, [], 0, 0, 0, 0, 0, []),
  (1324, .iload_n 3, false, [], 0, 0, 0, 0, 0, []),
  (1325, .iconst 1, false, [], 0, 0, 0, 0, 1, []),
  (1326, .iadd, false, [], 0, 0, 0, 0, 0, []),
  (1327, .iaload, false, [], 0, 0, 0, 0, 0, []),
  (1328, .invokevirtual 161, false, [], 212, 1, 1, 7, 0, []),
  (1331, .if_icmp .eq 77, false, [], 1408, 0, 0, 0, 0, []),
  (1334, .iconst 0, false, [], 0, 0, 0, 0, 0, []),
  (1335, .ireturn, false, [], 0, 0, 0, 1, 0, []),
  (1336, .aload_n 1, false, [], 0, 0, 0, 0, 0, []),
  (1337, .aload_n 0, false, [], 0, 0, 0, 0, 0, []),
  (1338, .iload_n 3, false, [], 0, 0, 0, 0, 0, []),
  (1339, .iconst 1, false, [], 0, 0, 0, 0, 1, []),
  (1340, .iadd, false, [], 0, 0, 0, 0, 0, []),
  (1341, .iaload, false, [], 0, 0, 0, 0, 0, []),
  (1342, .invokevirtual 162, false, [], 122, 1, 1, 6, 0, []),
  (1345, .aload_n 2, false, [], 0, 0, 0, 0, 0, []),
  (1346, .aload_n 0, false, [], 0, 0, 0, 0, 0, []),
  (1347, .iload_n 3, false, [], 0, 0, 0, 0, 0, []),
  (1348, .iconst 1, false, [], 0, 0, 0, 0, 1, []),
  (1349, .iadd, false, [], 0, 0, 0, 0, 0, []),
  (1350, .iaload, false, [], 0, 0, 0, 0, 0, []),
  (1351, .invokevirtual 165, false, [], 213, 1, 1, 7, 0, []),
  (1354, .if_icmp .eq 54, false, [], 1408, 0, 0, 0, 0, []),
  (1357, .iconst 0, false, [], 0, 0, 0, 0, 0, []),
  (1358, .ireturn, false, [], 0, 0, 0, 1, 0, []),
  (1359, .aload_n 1, false, [], 0, 0, 0, 0, 0, []),
  (1360, .invokevirtual 166, false, [], 123, 0, 1, 6, 0, []),
  (1363, .aload_n 2, false, [], 0, 0, 0, 0, 0, []),
  (1364, .invokevirtual 169, false, [], 214, 0, 1, 7, 0, []),
  (1367, .if_icmp .eq 41, false, [], 1408, 0, 0, 0, 0, []),
  (1370, .iconst 0, false, [], 0, 0, 0, 0, 0, []),
  (1371, .ireturn, false, [], 0, 0, 0, 1, 0, []),
  (1372, .aload_n 1, false, [], 0, 0, 0, 0, 0, []),
  (1373, .invokevirtual 170, false, [], 124, 0, 1, 6, 0, []),
  (1376, .aload_n 2, false, [], 0, 0, 0, 0, 0, []),
  (1377, .invokevirtual 173, false, [], 215, 0, 1, 7, 0, []),
  (1380, .if_icmp .eq 28, false, [], 1408, 0, 0, 0, 0, []),
  (1383, .iconst 0, false, [], 0, 0, 0, 0, 0, []),
  (1384, .ireturn, false, [], 0, 0, 0, 1, 0, []),
  (1385, .aload_n 1, false, [], 0, 0, 0, 0, 0, []),
  (1386, .aload_n 0, false, [], 0, 0, 0, 0, 0, []),
  (1387, .iload_n 3, false, [], 0, 0, 0, 0, 0, []),
  (1388, .iconst 1, false, [], 0, 0, 0, 0, 1, []),
  (1389, .iadd, false, [], 0, 0, 0, 0, 0, []),
  (1390, .iaload, false, [], 0, 0, 0, 0, 0, []),
  (1391, .invokevirtual 174, false, [], 125, 1, 1, 6, 0, []),
  (1394, .aload_n 2, false, [], 0, 0, 0, 0, 0, []),
  (1395, .aload_n 0, false, [], 0, 0, 0, 0, 0, []),
  (1396, .iload_n 3, false, [], 0, 0, 0, 0, 0, []),
  (1397, .iconst 1, false, [], 0, 0, 0, 0, 1, []),
  (1398, .iadd, false, [], 0, 0, 0, 0, 0, []),
  (1399, .iaload, false, [], 0, 0, 0, 0, 0, []),
  (1400, .invokevirtual 177, false, [], 216, 1, 1, 7, 0, []),
  (1403, .if_icmp .eq 5, false, [], 1408, 0, 0, 0, 0, []),
  (1406, .iconst 0, false, [], 0, 0, 0, 0, 0, []),
  (1407, .ireturn, false, [], 0, 0, 0, 1, 0, []),
  (1408, .iinc 3 6, false, [], 0, 0, 0, 0, 6, []),
  (1411, .goto (-1393), false, [], 18, 0, 0, 0, 0, []),
  (1414, .iconst 1, false, [], 0, 0, 0, 0, 1, []),
  (1415, .ireturn, false, [], 0, 0, 0, 1, 0, [])]
def mx_P : List mx_M := [
  (yJ9_floorMod_7cf53, cJ9_floorMod_7cf53, 3, (some .int), kk_J9_floorMod_7cf53),
  (yJ9_abs_0f7a4, cJ9_abs_0f7a4, 1, (some .int), kk_J9_abs_0f7a4),
  (yJ9_max_7cf53, cJ9_max_7cf53, 2, (some .int), kk_J9_max_7cf53),
  (yJ9_min_7cf53, cJ9_min_7cf53, 2, (some .int), kk_J9_min_7cf53),
  (yJ6_bitCount_0f7a4, cJ6_bitCount_0f7a4, 1, (some .int), kk_J6_bitCount_0f7a4),
  (yJ7_fill_53178, cJ7_fill_53178, 4, none, kk_J7_fill_53178),
  (yJ7_copyOf_59c91, cJ7_copyOf_59c91, 3, (some (.array .int)), kk_J7_copyOf_59c91),
  (yJ0_length_8abf5, cJ0_length_8abf5, 1, (some .int), kk_J0_length_8abf5),
  (yJ0_charAt_5068e, cJ0_charAt_5068e, 2, (some .char), kk_J0_charAt_5068e),
  (yJ0_indexOf_0f7a4, cJ0_indexOf_0f7a4, 2, (some .int), kk_J0_indexOf_0f7a4),
  (yJ0_indexOf_7cf53, cJ0_indexOf_7cf53, 3, (some .int), kk_J0_indexOf_7cf53),
  (yJ0_coder_7d493, cJ0_coder_7d493, 1, (some .byte), kk_J0_coder_7d493),
  (yJ0_isLatin1_aae02, cJ0_isLatin1_aae02, 1, (some .boolean), kk_J0_isLatin1_aae02),
  (yJ0_checkIndex_df160, cJ0_checkIndex_df160, 2, none, kk_J0_checkIndex_df160),
  (yJ1_charAt_3b067, cJ1_charAt_3b067, 2, (some .char), kk_J1_charAt_3b067),
  (yJ1_canEncode_9a6ad, cJ1_canEncode_9a6ad, 1, (some .boolean), kk_J1_canEncode_9a6ad),
  (yJ1_indexOf_4cfef, cJ1_indexOf_4cfef, 4, (some .int), kk_J1_indexOf_4cfef),
  (yJ1_indexOfChar_4cfef, cJ1_indexOfChar_4cfef, 6, (some .int), kk_J1_indexOfChar_4cfef),
  (yJ3_checkIndex_8e157, cJ3_checkIndex_8e157, 3, (some .int), kk_J3_checkIndex_8e157),
  (yX0_init, cX0_init, 2, none, kk_X0_init),
  (yX0_takeOver, cX0_takeOver, 3, none, kk_X0_takeOver),
  (yX0_hasLeg, cX0_hasLeg, 2, (some .boolean), kk_X0_hasLeg),
  (yX0_addLeg, cX0_addLeg, 4, none, kk_X0_addLeg),
  (yX0_addText, cX0_addText, 2, none, kk_X0_addText),
  (yX0_draw, cX0_draw, 1, (some .int), kk_X0_draw),
  (yX0_daysLeft, cX0_daysLeft, 2, (some .int), kk_X0_daysLeft),
  (yX0_passDays, cX0_passDays, 3, none, kk_X0_passDays),
  (yX0_passDay, cX0_passDay, 3, none, kk_X0_passDay),
  (yX0_wear, cX0_wear, 4, none, kk_X0_wear),
  (yX0_soak, cX0_soak, 2, none, kk_X0_soak),
  (yX0_press, cX0_press, 5, (some .boolean), kk_X0_press),
  (yX0_takenBy, cX0_takenBy, 4, (some .int), kk_X0_takenBy),
  (yX0_feeGiven, cX0_feeGiven, 2, (some .int), kk_X0_feeGiven),
  (yX0_fineGiven, cX0_fineGiven, 3, (some .int), kk_X0_fineGiven),
  (yX0_lawOf, cX0_lawOf, 2, (some (.object "CreaseLines$Text")), kk_X0_lawOf),
  (yX0_dullest, cX0_dullest, 3, (some .int), kk_X0_dullest),
  (yX0_sharpOfAll, cX0_sharpOfAll, 3, (some .int), kk_X0_sharpOfAll),
  (yX0_doubled, cX0_doubled, 3, (some .int), kk_X0_doubled),
  (yX0_waxed, cX0_waxed, 3, (some .int), kk_X0_waxed),
  (yX0_waxThese, cX0_waxThese, 3, none, kk_X0_waxThese),
  (yX0_hasDull, cX0_hasDull, 1, (some .boolean), kk_X0_hasDull),
  (yX1_init, cX1_init, 1, none, kk_X1_init),
  (yX1_begin, cX1_begin, 4, none, kk_X1_begin),
  (yX1_takeOver, cX1_takeOver, 2, none, kk_X1_takeOver),
  (yX1_isOf, cX1_isOf, 4, (some .boolean), kk_X1_isOf),
  (yX1_takes, cX1_takes, 4, (some .int), kk_X1_takes),
  (yX1_loses, cX1_loses, 4, (some .int), kk_X1_loses),
  (yX1_bags, cX1_bags, 3, (some .int), kk_X1_bags),
  (yX1_worth, cX1_worth, 4, (some .int), kk_X1_worth),
  (yX2_init, cX2_init, 1, none, kk_X2_init),
  (yX2_faultOf, cX2_faultOf, 5, (some .int), kk_X2_faultOf),
  (yX2_textRead, cX2_textRead, 1, (some (.object "CreaseLines$Text")), kk_X2_textRead),
  (yX2_begin, cX2_begin, 3, none, kk_X2_begin),
  (yX2_isWhole, cX2_isWhole, 1, (some .boolean), kk_X2_isWhole),
  (yX2_nextWord, cX2_nextWord, 3, none, kk_X2_nextWord),
  (yX2_sortOf, cX2_sortOf, 1, (some .int), kk_X2_sortOf),
  (yX2_keyOfWord, cX2_keyOfWord, 1, (some .int), kk_X2_keyOfWord),
  (yX2_isWord, cX2_isWord, 3, (some .boolean), kk_X2_isWord),
  (yX2_takesPiece, cX2_takesPiece, 1, (some .boolean), kk_X2_takesPiece),
  (yX2_takesNumber, cX2_takesNumber, 3, (some .boolean), kk_X2_takesNumber),
  (yX2_takesName, cX2_takesName, 2, (some .boolean), kk_X2_takesName),
  (yX2_namesOfKey, cX2_namesOfKey, 1, (some (.object "java/lang/String")), kk_X2_namesOfKey),
  (yX2_takesOpening, cX2_takesOpening, 2, (some .boolean), kk_X2_takesOpening),
  (yX2_endLeaf, cX2_endLeaf, 2, none, kk_X2_endLeaf),
  (yX2_endPiece, cX2_endPiece, 1, none, kk_X2_endPiece),
  (yX2_takesSign, cX2_takesSign, 3, (some .boolean), kk_X2_takesSign),
  (yX2_takesClosing, cX2_takesClosing, 1, (some .boolean), kk_X2_takesClosing),
  (yX2_strengthOf, cX2_strengthOf, 1, (some .int), kk_X2_strengthOf),
  (yX2_unpile, cX2_unpile, 2, none, kk_X2_unpile),
  (yX2_putOnPile, cX2_putOnPile, 2, none, kk_X2_putOnPile),
  (yX2_addStep, cX2_addStep, 2, none, kk_X2_addStep),
  (yX3_init, cX3_init, 1, none, kk_X3_init),
  (yX3_begin, cX3_begin, 3, none, kk_X3_begin),
  (yX3_takeOver, cX3_takeOver, 2, none, kk_X3_takeOver),
  (yX3_isMissing, cX3_isMissing, 1, (some .boolean), kk_X3_isMissing),
  (yX3_hasPlace, cX3_hasPlace, 2, (some .boolean), kk_X3_hasPlace),
  (yX3_hasPlaces, cX3_hasPlaces, 3, (some .boolean), kk_X3_hasPlaces),
  (yX3_isNumber, cX3_isNumber, 2, (some .boolean), kk_X3_isNumber),
  (yX4_init, cX4_init, 1, none, kk_X4_init),
  (yX5_init, cX5_init, 4, none, kk_X5_init),
  (yX5_value, cX5_value, 7, (some .int), kk_X5_value),
  (yX5_joined, cX5_joined, 3, (some .int), kk_X5_joined),
  (yX6_init, cX6_init, 2, none, kk_X6_init),
  (yX6_leg, cX6_leg, 4, (some .int), kk_X6_leg),
  (yX6_told, cX6_told, 4, (some .int), kk_X6_told),
  (yX6_as, cX6_as, 3, (some .int), kk_X6_as),
  (yX6_turns, cX6_turns, 4, (some .int), kk_X6_turns),
  (yX6_set, cX6_set, 6, (some .int), kk_X6_set),
  (yX6_mostOf, cX6_mostOf, 1, (some .int), kk_X6_mostOf),
  (yX6_irons, cX6_irons, 3, (some .int), kk_X6_irons),
  (yX6_rule, cX6_rule, 4, (some .int), kk_X6_rule),
  (yX6_deal, cX6_deal, 7, (some .int), kk_X6_deal),
  (yX6_seed, cX6_seed, 3, (some .int), kk_X6_seed),
  (yX6_days, cX6_days, 3, (some .int), kk_X6_days),
  (yX6_closet, cX6_closet, 2, (some .int), kk_X6_closet),
  (yX6_behind, cX6_behind, 4, (some .int), kk_X6_behind),
  (yX6_dulls, cX6_dulls, 5, (some .int), kk_X6_dulls),
  (yX6_doubles, cX6_doubles, 4, (some .int), kk_X6_doubles),
  (yX6_wax, cX6_wax, 7, (some .int), kk_X6_wax),
  (yX6_iron, cX6_iron, 5, (some .int), kk_X6_iron),
  (yX6_first, cX6_first, 8, (some .int), kk_X6_first),
  (yX6_becomes, cX6_becomes, 9, (some .int), kk_X6_becomes),
  (yX6_like, cX6_like, 5, (some .int), kk_X6_like),
  (yX6_sumDifferences, cX6_sumDifferences, 5, none, kk_X6_sumDifferences),
  (yX6_fee, cX6_fee, 1, (some .int), kk_X6_fee),
  (yX6_fine, cX6_fine, 2, (some .int), kk_X6_fine),
  (yX6_feed, cX6_feed, 4, (some .int), kk_X6_feed),
  (yX6_feedFour, cX6_feedFour, 3, none, kk_X6_feedFour),
  (yX6_trim, cX6_trim, 2, (some .int), kk_X6_trim),
  (yX6_text, cX6_text, 2, (some .int), kk_X6_text),
  (yX6_textTold, cX6_textTold, 3, (some .int), kk_X6_textTold),
  (yX6_why, cX6_why, 2, (some .int), kk_X6_why),
  (yX6_sheet, cX6_sheet, 4, (some .int), kk_X6_sheet),
  (yX6_mark, cX6_mark, 5, (some .int), kk_X6_mark),
  (yX6_pour, cX6_pour, 7, (some .int), kk_X6_pour),
  (yX6_reads, cX6_reads, 4, (some .int), kk_X6_reads),
  (yX6_copy, cX6_copy, 8, (some .int), kk_X6_copy),
  (yX6_lay, cX6_lay, 6, (some .int), kk_X6_lay),
  (yX6_ask, cX6_ask, 4, (some .int), kk_X6_ask),
  (yX6_item, cX6_item, 4, (some .int), kk_X6_item),
  (yX6_rest, cX6_rest, 4, (some .int), kk_X6_rest),
  (yX6_tell, cX6_tell, 2, (some .int), kk_X6_tell),
  (yX6_check, cX6_check, 6, (some .int), kk_X6_check),
  (yX6_keep, cX6_keep, 1, (some .int), kk_X6_keep),
  (yX6_back, cX6_back, 1, (some .int), kk_X6_back),
  (yX6_count, cX6_count, 2, (some .int), kk_X6_count),
  (yX6_beginThought, cX6_beginThought, 1, (some (.object "CreaseLines$Closet")), kk_X6_beginThought),
  (yX6_isWithin, cX6_isWithin, 3, (some .boolean), kk_X6_isWithin),
  (yX6_isKind, cX6_isKind, 1, (some .boolean), kk_X6_isKind),
  (yX6_isSheet, cX6_isSheet, 1, (some .boolean), kk_X6_isSheet),
  (yX6_isSlot, cX6_isSlot, 1, (some .boolean), kk_X6_isSlot),
  (yX6_heldWithin, cX6_heldWithin, 1, (some .int), kk_X6_heldWithin),
  (yX7_init, cX7_init, 1, none, kk_X7_init),
  (yX7_in, cX7_in, 3, (some .boolean), kk_X7_in),
  (yX7_within, cX7_within, 3, (some .int), kk_X7_within),
  (yX7_copyAll, cX7_copyAll, 3, none, kk_X7_copyAll),
  (yX7_bits, cX7_bits, 3, (some .int), kk_X7_bits),
  (yX7_isLeg, cX7_isLeg, 2, (some .boolean), kk_X7_isLeg),
  (yX7_of, cX7_of, 3, (some .int), kk_X7_of),
  (yX7_put, cX7_put, 4, none, kk_X7_put),
  (yX7_swaps, cX7_swaps, 4, (some .int), kk_X7_swaps),
  (yX7_off, cX7_off, 1, (some .int), kk_X7_off),
  (yX7_plainPress, cX7_plainPress, 3, (some .int), kk_X7_plainPress),
  (yX7_takesBy, cX7_takesBy, 4, (some .int), kk_X7_takesBy),
  (yX7_losesOf, cX7_losesOf, 3, (some .int), kk_X7_losesOf),
  (yX7_bagsOf, cX7_bagsOf, 2, (some .int), kk_X7_bagsOf),
  (yX7_worthOf, cX7_worthOf, 3, (some .int), kk_X7_worthOf),
  (yX7_comes, cX7_comes, 5, (some .int), kk_X7_comes),
  (yX7_leg, cX7_leg, 4, (some .int), kk_X7_leg),
  (yX7_told, cX7_told, 3, (some .int), kk_X7_told),
  (yX7_isUnder, cX7_isUnder, 2, (some .boolean), kk_X7_isUnder),
  (yX7_as, cX7_as, 3, (some .int), kk_X7_as),
  (yX7_turns, cX7_turns, 3, (some .int), kk_X7_turns),
  (yX7_set, cX7_set, 5, (some .int), kk_X7_set),
  (yX7_presses, cX7_presses, 5, (some .int), kk_X7_presses),
  (yX7_irons, cX7_irons, 3, (some .int), kk_X7_irons),
  (yX7_rule, cX7_rule, 4, (some .int), kk_X7_rule),
  (yX7_draw, cX7_draw, 1, (some .int), kk_X7_draw),
  (yX7_deal, cX7_deal, 6, (some .int), kk_X7_deal),
  (yX7_seed, cX7_seed, 2, (some .int), kk_X7_seed),
  (yX7_dullest, cX7_dullest, 3, (some .int), kk_X7_dullest),
  (yX7_isWorn, cX7_isWorn, 5, none, kk_X7_isWorn),
  (yX7_day, cX7_day, 6, none, kk_X7_day),
  (yX7_goesOn, cX7_goesOn, 3, none, kk_X7_goesOn),
  (yX7_days, cX7_days, 3, (some .int), kk_X7_days),
  (yX7_allSharp, cX7_allSharp, 3, (some .int), kk_X7_allSharp),
  (yX7_doubled, cX7_doubled, 3, (some .int), kk_X7_doubled),
  (yX7_closet, cX7_closet, 2, (some .int), kk_X7_closet),
  (yX7_thinks, cX7_thinks, 1, none, kk_X7_thinks),
  (yX7_putsBack, cX7_putsBack, 1, none, kk_X7_putsBack),
  (yX7_behind, cX7_behind, 4, (some .int), kk_X7_behind),
  (yX7_dulls, cX7_dulls, 4, (some .int), kk_X7_dulls),
  (yX7_doubles, cX7_doubles, 3, (some .int), kk_X7_doubles),
  (yX7_isCaredFor, cX7_isCaredFor, 5, (some .boolean), kk_X7_isCaredFor),
  (yX7_wax, cX7_wax, 5, (some .int), kk_X7_wax),
  (yX7_sharpOn, cX7_sharpOn, 3, (some .int), kk_X7_sharpOn),
  (yX7_iron, cX7_iron, 4, (some .int), kk_X7_iron),
  (yX7_first, cX7_first, 8, (some .int), kk_X7_first),
  (yX7_becomes, cX7_becomes, 8, (some .int), kk_X7_becomes),
  (yX7_like, cX7_like, 7, (some .int), kk_X7_like),
  (yX7_fee, cX7_fee, 2, (some .int), kk_X7_fee),
  (yX7_fine, cX7_fine, 3, (some .int), kk_X7_fine),
  (yX7_feed, cX7_feed, 6, (some .int), kk_X7_feed),
  (yX7_trim, cX7_trim, 2, (some .int), kk_X7_trim),
  (yX7_isLetter, cX7_isLetter, 2, (some .boolean), kk_X7_isLetter),
  (yX7_isFigure, cX7_isFigure, 2, (some .boolean), kk_X7_isFigure),
  (yX7_go, cX7_go, 2, none, kk_X7_go),
  (yX7_takesKey, cX7_takesKey, 5, (some .boolean), kk_X7_takesKey),
  (yX7_nameOf, cX7_nameOf, 2, (some .int), kk_X7_nameOf),
  (yX7_rank, cX7_rank, 1, (some .int), kk_X7_rank),
  (yX7_settle, cX7_settle, 2, none, kk_X7_settle),
  (yX7_signHere, cX7_signHere, 1, (some .int), kk_X7_signHere),
  (yX7_takesPart, cX7_takesPart, 2, (some .boolean), kk_X7_takesPart),
  (yX7_takesE, cX7_takesE, 5, (some .boolean), kk_X7_takesE),
  (yX7_notsOpen, cX7_notsOpen, 3, (some .int), kk_X7_notsOpen),
  (yX7_text, cX7_text, 4, (some .int), kk_X7_text),
  (yX7_textTold, cX7_textTold, 3, (some .int), kk_X7_textTold),
  (yX7_counts, cX7_counts, 3, (some .int), kk_X7_counts),
  (yX7_why, cX7_why, 3, (some .int), kk_X7_why),
  (yX7_two, cX7_two, 3, (some .int), kk_X7_two),
  (yX7_worksOut, cX7_worksOut, 6, (some .int), kk_X7_worksOut),
  (yX7_isSheet, cX7_isSheet, 1, (some .boolean), kk_X7_isSheet),
  (yX7_isSlot, cX7_isSlot, 1, (some .boolean), kk_X7_isSlot),
  (yX7_sheet, cX7_sheet, 5, (some .int), kk_X7_sheet),
  (yX7_mark, cX7_mark, 4, (some .int), kk_X7_mark),
  (yX7_pour, cX7_pour, 6, (some .int), kk_X7_pour),
  (yX7_reads, cX7_reads, 4, (some .int), kk_X7_reads),
  (yX7_copy, cX7_copy, 7, (some .int), kk_X7_copy),
  (yX7_lay, cX7_lay, 6, (some .int), kk_X7_lay),
  (yX7_ask, cX7_ask, 3, (some .int), kk_X7_ask),
  (yX7_item, cX7_item, 4, (some .int), kk_X7_item),
  (yX7_rest, cX7_rest, 3, (some .int), kk_X7_rest),
  (yX7_tell, cX7_tell, 2, (some .int), kk_X7_tell),
  (yX7_check, cX7_check, 6, (some .int), kk_X7_check),
  (yX7_keep, cX7_keep, 1, (some .int), kk_X7_keep),
  (yX7_back, cX7_back, 1, (some .int), kk_X7_back),
  (yX7_count, cX7_count, 2, (some .int), kk_X7_count)]
end
section
def mx_wsM (M : mx_M) : List Cond := Cond.code M.1 M.2.1 M.2.2.1 M.2.2.2.1 :: M.2.2.2.2.flatMap (mx_need mx_P M.1.cls)
theorem ck_law : ∀ x ∈ kk_L_law, mx_ok mx_P yL_law cL_law 4 (some .boolean) x = true := sorry
theorem cw_law : ∀ x ∈ kk_L_law, ∀ w ∈ mx_need mx_P yL_law.cls x, w ∈ lw_tbl := sorry
def mx_G : List Cond := mx_WS ++ mx_P.flatMap mx_wsM
theorem mx_G_tbl : ∀ w ∈ mx_G, w ∈ lw_tbl ∧ goodWord w = true := sorry
theorem mx_P_ok : mx_Pok mx_P mx_G := sorry
end
section
def R_law : String := "CreaseLinesLaw"
def lw_P (b : Addr) (xs : List Int32) (args : Array Value) (s : State) : Prop := args = #[.ref b] ∧ s.IntsAt b xs ∧ xs.length ≤ 3072 ∧ (Jvm.Cond.and given_1 narrow_1).before args s = true
def lw_Q (_ : Array Value) (s : State) (o : Outcome) (t : State) : Prop := o = .returned (some (.int 1)) ∧ Framed s o t [] 600000 7302250
def lw_Z (below : List Frame) (a : Array Value) (s : State) : State → Prop := fun t => ∃ o, t.status = .running ∧ Ended t below o ∧ lw_Q a s o t
/-- the law's own end, with 1 on the stack, nothing written that was there before, its room as the claim has it -/
theorem lw_ret {p : Program} {l : Launch} {e : Env} {s : State} {m : MethodId} {below : List Frame} {meth : Method} {c : Code} {b : Nat} (hx : p.tables.exec = Jvm.exec) (hb : c.code = code) (hr : meth.sig.returnType = ret) (hlocks : meth.locks = false) {pc : Nat} {H : Heap} {ls : Array Slot} (hdg : decode code pc = .ok (.ireturn, 1)) : W p l e room_1 s m #[Value.ref b] below meth c H [] 600000 7302250 (lw_Z below #[Value.ref b] s) (F0 m pc ls [.int 1]) := by
  intro T hT X
  obtain ⟨fs, hret, hrun, hended, hW, hframe⟩ := X.leave (v := some (.int 1)) (hlocks := hlocks) (fun h => by rw [hr] at h; cases h)
  have hmeth' : T.vm.method? m = some meth := X.method'
  refine ⟨T.setFrames fs, ?_, .returned (some (.int 1)), hrun, hended, rfl, ⟨_, rfl⟩, hW, hframe⟩
  jvm_step X.here [X.here.top, hx, hb, hdg, hmeth', hr, ret, narrow_b1]
  (try refine ⟨rfl, ?_⟩); (try refine ⟨rfl, ?_⟩)
  first | (intro acts; rw [hret _ acts rfl rfl rfl]) | rw [hret _ _ rfl rfl rfl]
  exact Steps.refl _
/-- what holds at the law's entry: the machine, the code, the tables' words (any of lw_tbl by 'hts w (by decide +kernel)'), the script of L ints xs at the cell b, what the Statement gives of the start (any of its parts by flat_of_before) -/
def lw_At (p : Program) (s : State) (m : MethodId) (meth : Method) (c : Code) (b L : Nat) (xs : Nat → Int32) : Prop :=
  p.tables.exec = Jvm.exec ∧ c.code = code ∧ meth.sig.returnType = ret ∧ c.maxLocals = 4 ∧ s.vm.findClass R_law = some m.cls ∧ (∀ w ∈ lw_tbl, w.before #[Value.ref b] s = true) ∧ va_X b L xs s s.heap ∧ b < s.heap.size ∧ meth.locks = false ∧ (Jvm.Cond.and given_1 narrow_1).before #[Value.ref b] s = true
end
section
/-! ===== what holds at the law's entry ===== -/
theorem mx_arr {args : Array Value} {s : State} {ty : FieldType} (h : (Cond.arrayClass ty).before args s = true) : ∃ cA, ArrOfT s cA ty ∧ s.vm.findClass ("[" ++ ty.toString) = some cA := by
  obtain ⟨c, k, comp, h1, h2, h3⟩ := Cond.arrayClass_spec h
  exact ⟨c, fun n z => ⟨fun k h => (by cases h), k, h2, comp, h3⟩, h1⟩
theorem mx_arrO {args : Array Value} {s : State} {C : String} (h : (Cond.arrayOver (.object C)).before args s = true) : ∃ cA, ArrOfT s cA (.object C) ∧ va_RA s cA (.object C) := by
  obtain ⟨comp, c, k, h1, h2, h3, h4, h5⟩ := Cond.arrayOver_spec h
  exact ⟨c, fun n z => ⟨fun k h => (by cases h), k, h3, comp, h4⟩, k, comp, h3, h4, h1, h5⟩
def mx_sx : Nat → Nat
  | 0 => 106 | 1 => 112 | 2 => 114 | 3 => 143 | 4 => 145 | _ => 147
def mx_bys : List (List Int32) := [[112, 114, 101, 115, 115], [102, 101, 101], [102, 105, 110, 101], [104, 111, 107, 116], [112, 116], [115, 107]]
set_option maxRecDepth 100000 in
set_option maxHeartbeats 4000000 in
theorem mx_strs {args : Array Value} {s : State} {A : Nat → Prop} (hfl : ∀ c ∈ flatC (Jvm.Cond.and given_1 narrow_1), c.before args s = true) (hA : ∀ a : Nat, a < s.heap.size → ¬ A a) : ∃ adK adV : Nat → Nat, vk_S 6 [5, 3, 4, 4, 2, 2] mx_bys adK adV A s s.heap ∧ ∀ i : Nat, i < 6 → (Term.string "CreaseLines$Reader" (mx_sx i)).eval args s none [] s = some (.ref (adK i)) := by
  refine vk_Sof (tm := fun i => Term.string "CreaseLines$Reader" (mx_sx i)) ?_ ?_ ?_ ?_ ?_ ?_ ?_ hA
  · exact fun i hi => match i, hi with
    | 0, _ => by decide
    | 1, _ => by decide
    | 2, _ => by decide
    | 3, _ => by decide
    | 4, _ => by decide
    | 5, _ => by decide
    | n + 6, h => absurd h (by omega)
  · exact fun i hi => match i, hi with
    | 0, _ => hfl _ (by decide +kernel)
    | 1, _ => hfl _ (by decide +kernel)
    | 2, _ => hfl _ (by decide +kernel)
    | 3, _ => hfl _ (by decide +kernel)
    | 4, _ => hfl _ (by decide +kernel)
    | 5, _ => hfl _ (by decide +kernel)
    | n + 6, h => absurd h (by omega)
  · exact fun i hi => match i, hi with
    | 0, _ => hfl _ (by decide +kernel)
    | 1, _ => hfl _ (by decide +kernel)
    | 2, _ => hfl _ (by decide +kernel)
    | 3, _ => hfl _ (by decide +kernel)
    | 4, _ => hfl _ (by decide +kernel)
    | 5, _ => hfl _ (by decide +kernel)
    | n + 6, h => absurd h (by omega)
  · exact fun i hi => match i, hi with
    | 0, _ => hfl _ (by decide +kernel)
    | 1, _ => hfl _ (by decide +kernel)
    | 2, _ => hfl _ (by decide +kernel)
    | 3, _ => hfl _ (by decide +kernel)
    | 4, _ => hfl _ (by decide +kernel)
    | 5, _ => hfl _ (by decide +kernel)
    | n + 6, h => absurd h (by omega)
  · exact fun i hi => match i, hi with
    | 0, _ => hfl _ (by decide +kernel)
    | 1, _ => hfl _ (by decide +kernel)
    | 2, _ => hfl _ (by decide +kernel)
    | 3, _ => hfl _ (by decide +kernel)
    | 4, _ => hfl _ (by decide +kernel)
    | 5, _ => hfl _ (by decide +kernel)
    | n + 6, h => absurd h (by omega)
  · exact fun i hi => match i, hi with
    | 0, _ => fun j hj => match j, hj with
      | 0, _ => hfl _ (by decide +kernel)
      | 1, _ => hfl _ (by decide +kernel)
      | 2, _ => hfl _ (by decide +kernel)
      | 3, _ => hfl _ (by decide +kernel)
      | 4, _ => hfl _ (by decide +kernel)
      | n + 5, h => absurd h (by show ¬ n + 5 < 5; omega)
    | 1, _ => fun j hj => match j, hj with
      | 0, _ => hfl _ (by decide +kernel)
      | 1, _ => hfl _ (by decide +kernel)
      | 2, _ => hfl _ (by decide +kernel)
      | n + 3, h => absurd h (by show ¬ n + 3 < 3; omega)
    | 2, _ => fun j hj => match j, hj with
      | 0, _ => hfl _ (by decide +kernel)
      | 1, _ => hfl _ (by decide +kernel)
      | 2, _ => hfl _ (by decide +kernel)
      | 3, _ => hfl _ (by decide +kernel)
      | n + 4, h => absurd h (by show ¬ n + 4 < 4; omega)
    | 3, _ => fun j hj => match j, hj with
      | 0, _ => hfl _ (by decide +kernel)
      | 1, _ => hfl _ (by decide +kernel)
      | 2, _ => hfl _ (by decide +kernel)
      | 3, _ => hfl _ (by decide +kernel)
      | n + 4, h => absurd h (by show ¬ n + 4 < 4; omega)
    | 4, _ => fun j hj => match j, hj with
      | 0, _ => hfl _ (by decide +kernel)
      | 1, _ => hfl _ (by decide +kernel)
      | n + 2, h => absurd h (by show ¬ n + 2 < 2; omega)
    | 5, _ => fun j hj => match j, hj with
      | 0, _ => hfl _ (by decide +kernel)
      | 1, _ => hfl _ (by decide +kernel)
      | n + 2, h => absurd h (by show ¬ n + 2 < 2; omega)
    | n + 6, h => absurd h (by omega)
  · exact fun i j hi hj hne => match i, j, hi, hj, hne with
    | 0, 0, _, _, h => absurd rfl h
    | 0, 1, _, _, h => Or.inl (hfl _ (by decide +kernel))
    | 0, 2, _, _, h => Or.inl (hfl _ (by decide +kernel))
    | 0, 3, _, _, h => Or.inl (hfl _ (by decide +kernel))
    | 0, 4, _, _, h => Or.inl (hfl _ (by decide +kernel))
    | 0, 5, _, _, h => Or.inl (hfl _ (by decide +kernel))
    | 1, 0, _, _, h => Or.inr (hfl _ (by decide +kernel))
    | 1, 1, _, _, h => absurd rfl h
    | 1, 2, _, _, h => Or.inl (hfl _ (by decide +kernel))
    | 1, 3, _, _, h => Or.inl (hfl _ (by decide +kernel))
    | 1, 4, _, _, h => Or.inl (hfl _ (by decide +kernel))
    | 1, 5, _, _, h => Or.inl (hfl _ (by decide +kernel))
    | 2, 0, _, _, h => Or.inr (hfl _ (by decide +kernel))
    | 2, 1, _, _, h => Or.inr (hfl _ (by decide +kernel))
    | 2, 2, _, _, h => absurd rfl h
    | 2, 3, _, _, h => Or.inl (hfl _ (by decide +kernel))
    | 2, 4, _, _, h => Or.inl (hfl _ (by decide +kernel))
    | 2, 5, _, _, h => Or.inl (hfl _ (by decide +kernel))
    | 3, 0, _, _, h => Or.inr (hfl _ (by decide +kernel))
    | 3, 1, _, _, h => Or.inr (hfl _ (by decide +kernel))
    | 3, 2, _, _, h => Or.inr (hfl _ (by decide +kernel))
    | 3, 3, _, _, h => absurd rfl h
    | 3, 4, _, _, h => Or.inl (hfl _ (by decide +kernel))
    | 3, 5, _, _, h => Or.inl (hfl _ (by decide +kernel))
    | 4, 0, _, _, h => Or.inr (hfl _ (by decide +kernel))
    | 4, 1, _, _, h => Or.inr (hfl _ (by decide +kernel))
    | 4, 2, _, _, h => Or.inr (hfl _ (by decide +kernel))
    | 4, 3, _, _, h => Or.inr (hfl _ (by decide +kernel))
    | 4, 4, _, _, h => absurd rfl h
    | 4, 5, _, _, h => Or.inl (hfl _ (by decide +kernel))
    | 5, 0, _, _, h => Or.inr (hfl _ (by decide +kernel))
    | 5, 1, _, _, h => Or.inr (hfl _ (by decide +kernel))
    | 5, 2, _, _, h => Or.inr (hfl _ (by decide +kernel))
    | 5, 3, _, _, h => Or.inr (hfl _ (by decide +kernel))
    | 5, 4, _, _, h => Or.inr (hfl _ (by decide +kernel))
    | 5, 5, _, _, h => absurd rfl h
    | n + 6, _, h, _, _ => absurd h (by omega)
    | 0, n + 6, _, h, _ => absurd h (by omega)
    | 1, n + 6, _, h, _ => absurd h (by omega)
    | 2, n + 6, _, h, _ => absurd h (by omega)
    | 3, n + 6, _, h, _ => absurd h (by omega)
    | 4, n + 6, _, h, _ => absurd h (by omega)
    | 5, n + 6, _, h, _ => absurd h (by omega)
set_option maxRecDepth 100000 in
theorem mx_above {args : Array Value} {s : State} {A : Nat → Prop} (hfl : ∀ c ∈ flatC (Jvm.Cond.and given_1 narrow_1), c.before args s = true) (hA : ∀ a : Nat, a < s.heap.size → ¬ A a) : ∃ t : Nat, (Term.static "CreaseLines" "ABOVE" "[I").eval args s none [] s = some (.ref t) ∧ va_T .int t 6 (fun j => .int (([-1, 0, 0, 1, 2, 0] : List Int32).getD j 0)) A s s.heap := by
  refine va_Tof (by decide) (hfl _ (by decide +kernel)) (va_eqt (z := 6) (hfl _ (by decide +kernel))) (fun j hj => match j, hj with
    | 0, _ => va_eqt (z := (-1)) (hfl _ (by decide +kernel))
    | 1, _ => va_eqt (z := 0) (hfl _ (by decide +kernel))
    | 2, _ => va_eqt (z := 0) (hfl _ (by decide +kernel))
    | 3, _ => va_eqt (z := 1) (hfl _ (by decide +kernel))
    | 4, _ => va_eqt (z := 2) (hfl _ (by decide +kernel))
    | 5, _ => va_eqt (z := 0) (hfl _ (by decide +kernel))
    | n + 6, h => absurd h (by omega)) hA
set_option maxRecDepth 100000 in
theorem mx_most {args : Array Value} {s : State} {A : Nat → Prop} (hfl : ∀ c ∈ flatC (Jvm.Cond.and given_1 narrow_1), c.before args s = true) (hA : ∀ a : Nat, a < s.heap.size → ¬ A a) : ∃ t : Nat, (Term.static "CreaseLines" "MOST_OF_RULE" "[I").eval args s none [] s = some (.ref t) ∧ va_T .int t 4 (fun j => .int (([100, 3, 99, 99] : List Int32).getD j 0)) A s s.heap := by
  refine va_Tof (by decide) (hfl _ (by decide +kernel)) (va_eqt (z := 4) (hfl _ (by decide +kernel))) (fun j hj => match j, hj with
    | 0, _ => va_eqt (z := 100) (hfl _ (by decide +kernel))
    | 1, _ => va_eqt (z := 3) (hfl _ (by decide +kernel))
    | 2, _ => va_eqt (z := 99) (hfl _ (by decide +kernel))
    | 3, _ => va_eqt (z := 99) (hfl _ (by decide +kernel))
    | n + 4, h => absurd h (by omega)) hA
set_option maxRecDepth 100000 in
set_option maxHeartbeats 4000000 in
theorem mx_start {p : Program} {s : State} {m : MethodId} {meth : Method} {c : Code} {b L : Nat} {xs : Nat → Int32} (hL : L ≤ 3072) (C0 : lw_At p s m meth c b L xs) : ∃ (D : va_G) (ta : Nat → ClassId) (sk : Nat → Value), mx_C ((List.range L).map xs) D ta s.heap.size sk s s.heap ∧ (∀ i, sk i = .null ∨ ∃ a, sk i = .ref a) ∧ sk 202 = .ref b := by
  obtain ⟨hx, hb, hr, hml, hown, hts, hX, hbl, hlocks, hgv⟩ := C0
  have hfl := flat_of_before _ hgv
  have hA : ∀ a : Nat, a < s.heap.size → ¬ mx_A s.heap.size a := fun a h h2 => Nat.not_le.mpr h h2
  have hws : ∀ {k : Nat}, k < 8 → ∀ w ∈ u_ws (mx_RX k) (mx_T k) (mx_Nf k), w ∈ lw_tbl := fun hk w hw => (mx_G_tbl w (List.mem_append_left _ (mx_cl_ws hk w hw))).1
  obtain ⟨c0, i0, k0⟩ := u_known (C := RX0) (T := TX0) (N := 13) (n := 13) hts (hws (k := 0) (by decide)) (hts (.instantiable RX0 13) (by decide +kernel))
  obtain ⟨c1, i1, k1⟩ := u_known (C := RX1) (T := TX1) (N := 6) (n := 6) hts (hws (k := 1) (by decide)) (hts (.instantiable RX1 6) (by decide +kernel))
  obtain ⟨c2, i2, k2⟩ := u_known (C := RX2) (T := TX2) (N := 15) (n := 15) hts (hws (k := 2) (by decide)) (hts (.instantiable RX2 15) (by decide +kernel))
  obtain ⟨c3, i3, k3⟩ := u_known (C := RX3) (T := TX3) (N := 3) (n := 3) hts (hws (k := 3) (by decide)) (hts (.instantiable RX3 3) (by decide +kernel))
  obtain ⟨c4, i4, k4⟩ := u_known (C := RX4) (T := TX4) (N := 4) (n := 4) hts (hws (k := 4) (by decide)) (hts (.instantiable RX4 4) (by decide +kernel))
  obtain ⟨c5, i5, k5⟩ := u_known (C := RX5) (T := TX5) (N := 3) (n := 3) hts (hws (k := 5) (by decide)) (hts (.instantiable RX5 3) (by decide +kernel))
  obtain ⟨c6, i6, k6⟩ := u_known (C := RX6) (T := TX6) (N := 12) (n := 12) hts (hws (k := 6) (by decide)) (hts (.instantiable RX6 12) (by decide +kernel))
  obtain ⟨c7, i7, k7⟩ := u_known (C := RX7) (T := TX7) (N := 33) (n := 33) hts (hws (k := 7) (by decide)) (hts (.instantiable RX7 33) (by decide +kernel))
  obtain ⟨dC, dI, hKc⟩ : ∃ (dC : Nat → ClassId) (dI : Nat → Nat → Nat), ∀ (k : Nat) (q : vw_C), vwCl[k]? = some q → u_Kn s q.1 q.2.1 q.2.2 (dC k) (dI k) := by
    refine ⟨fun k => match k with | 0 => c0 | 1 => c1 | 2 => c2 | 3 => c3 | 4 => c4 | 5 => c5 | 6 => c6 | _ => c7, fun k => match k with | 0 => i0 | 1 => i1 | 2 => i2 | 3 => i3 | 4 => i4 | 5 => i5 | 6 => i6 | _ => i7, ?_⟩
    intro k q hq
    match k, hq with
    | 0, hq => cases hq; exact k0
    | 1, hq => cases hq; exact k1
    | 2, hq => cases hq; exact k2
    | 3, hq => cases hq; exact k3
    | 4, hq => cases hq; exact k4
    | 5, hq => cases hq; exact k5
    | 6, hq => cases hq; exact k6
    | 7, hq => cases hq; exact k7
    | k + 8, hq => simp [vwCl] at hq
  obtain ⟨a0, A0, B0⟩ := mx_arr (hts (.arrayClass .int) (by decide +kernel))
  obtain ⟨a1, A1, B1⟩ := mx_arr (hts (.arrayClass .boolean) (by decide +kernel))
  obtain ⟨a2, A2, B2⟩ := mx_arr (hts (.arrayClass .char) (by decide +kernel))
  have o3 : (Cond.arrayOver (.object RX1)).before #[Value.ref b] s = true := hts _ (by decide +kernel)
  have o4 : (Cond.arrayOver (.object RX3)).before #[Value.ref b] s = true := hts _ (by decide +kernel)
  have o5 : (Cond.arrayOver (.object RX4)).before #[Value.ref b] s = true := hts _ (by decide +kernel)
  have o6 : (Cond.arrayOver (.object RX5)).before #[Value.ref b] s = true := hts _ (by decide +kernel)
  obtain ⟨a3, A3, B3⟩ := mx_arrO o3
  obtain ⟨a4, A4, B4⟩ := mx_arrO o4
  obtain ⟨a5, A5, B5⟩ := mx_arrO o5
  obtain ⟨a6, A6, B6⟩ := mx_arrO o6
  obtain ⟨adK, adV, hS, hev⟩ := mx_strs hfl hA
  obtain ⟨t1, e1, T1⟩ := mx_above hfl hA
  obtain ⟨t2, e2, T2⟩ := mx_most hfl hA
  have z1 := va_Zof (hts (.laysStatic "CreaseLines" "ABOVE" "[I") (by decide +kernel)) (hts (.initialized "CreaseLines") (by decide +kernel)) e1 hA
  have z2 := va_Zof (hts (.laysStatic "CreaseLines" "MOST_OF_RULE" "[I") (by decide +kernel)) (hts (.initialized "CreaseLines") (by decide +kernel)) e2 hA
  have z3 := va_Zof (hts (.laysStatic "java/lang/String" "COMPACT_STRINGS" "Z") (by decide +kernel)) (hts (.initialized "java/lang/String") (by decide +kernel)) (va_eqt (z := 1) (hfl (.eq (.static "java/lang/String" "COMPACT_STRINGS" "Z") (.int 1)) (by decide +kernel))) hA
  obtain ⟨vS, z4, hvS⟩ : ∃ vS : Value, va_Z "jdk/internal/util/Preconditions" "SIOOBE_FORMATTER" "Ljava/util/function/BiFunction;" vS (mx_A s.heap.size) s s.heap ∧ (vS = .null ∨ ∃ a, vS = .ref a) := by
    rcases va_Zqof (hts (.laysStatic "jdk/internal/util/Preconditions" "SIOOBE_FORMATTER" "Ljava/util/function/BiFunction;") (by decide +kernel)) (hts (.initialized "jdk/internal/util/Preconditions") (by decide +kernel)) (hfl (.isRef (.static "jdk/internal/util/Preconditions" "SIOOBE_FORMATTER" "Ljava/util/function/BiFunction;")) (by decide +kernel)) hA with h | ⟨t, h⟩
    · exact ⟨_, h, Or.inl rfl⟩
    · exact ⟨_, h, Or.inr ⟨t, rfl⟩⟩
  have hsc : va_T .int b L (fun j => .int (((List.range L).map xs).getD j 0)) (mx_A s.heap.size) s s.heap := by
    obtain ⟨scr, h1, h2, h3, h4, h5⟩ := hX
    refine ⟨scr, h1, h2, h3, Nat.le_of_eq h4.symm, by rw [h4], fun j hj => ?_, hA b hbl⟩
    rw [h5 j hj]
    simp [List.getD, hj]
  refine ⟨(dC, dI), fun k => match k with | 0 => a0 | 1 => a1 | 2 => a2 | 3 => a3 | 4 => a4 | 5 => a5 | _ => a6, fun i => if i < 6 then .ref (adK i) else if 100 ≤ i ∧ i < 106 then .ref (adV (i - 100)) else if i = 200 then .ref t1 else if i = 201 then .ref t2 else if i = 202 then .ref b else if i = 999 then vS else .null, ⟨⟨hKc, ?_⟩, ?_, va_Nw.of rfl (hts _ (by decide +kernel)), ⟨va_AO.of o3, va_AO.of o4, va_AO.of o5, va_AO.of o6⟩, ⟨z1, z2, z3, z4⟩, ?_, ?_, ?_⟩, ?_, rfl⟩
  · intro k q hq
    match k, hq with
    | 0, hq => cases hq; exact ⟨A0, B0⟩
    | 1, hq => cases hq; exact ⟨A1, B1⟩
    | 2, hq => cases hq; exact ⟨A2, B2⟩
    | 3, hq => cases hq; exact ⟨A3, B3⟩
    | 4, hq => cases hq; exact ⟨A4, B4⟩
    | 5, hq => cases hq; exact ⟨A5, B5⟩
    | 6, hq => cases hq; exact ⟨A6, B6⟩
    | k + 7, hq => simp [mx_tys] at hq
  · intro q hq
    refine va_Nw.of rfl (hts _ ?_)
    have : ∀ q ∈ mx_NM, Cond.methodLinkNest q.1 q.2.1 q.2.2 "CreaseLines" ∈ lw_tbl := by decide +kernel
    exact this q hq
  · intro r t l hr
    unfold mx_kt at hr
    split at hr
    · cases hr; exact ⟨adV 0, rfl, (hS.1 0 (by decide)).2.2.2⟩
    · cases hr; exact ⟨adV 1, rfl, (hS.1 1 (by decide)).2.2.2⟩
    · cases hr; exact ⟨adV 2, rfl, (hS.1 2 (by decide)).2.2.2⟩
    · cases hr; exact ⟨adV 3, rfl, (hS.1 3 (by decide)).2.2.2⟩
    · cases hr; exact ⟨adV 4, rfl, (hS.1 4 (by decide)).2.2.2⟩
    · cases hr; exact ⟨adV 5, rfl, (hS.1 5 (by decide)).2.2.2⟩
    · cases hr; exact ⟨t1, rfl, T1⟩
    · cases hr; exact ⟨t2, rfl, T2⟩
    · cases hr
      refine ⟨b, rfl, ?_⟩
      rw [List.length_map, List.length_range]
      exact hsc
    · cases hr
  · intro i hi
    obtain ⟨h1, h2, h3, h4⟩ := hS.1 i hi
    refine ⟨adK i, by simp [hi], h1, h2, ?_⟩
    have e : (if 100 + i < 6 then Value.ref (adK (100 + i)) else if 100 ≤ 100 + i ∧ 100 + i < 106 then .ref (adV (100 + i - 100)) else if 100 + i = 200 then .ref t1 else if 100 + i = 201 then .ref t2 else if 100 + i = 202 then .ref b else if 100 + i = 999 then vS else .null) = .ref (adV i) := by
      rw [if_neg (by omega), if_pos (by omega), show 100 + i - 100 = i by omega]
    show va_OF _ _ _ (if 100 + i < 6 then Value.ref (adK (100 + i)) else _) _ _ _ _
    rw [e]
    exact h3
  · intro q hq
    have hm : ∀ q ∈ mx_SL, q.2.2 < 6 ∧ mx_sx q.2.2 = q.1 ∧ Cond.stringRef RX2 q.1 q.2.1 ∈ lw_tbl := by decide +kernel
    obtain ⟨h1, h2, h3⟩ := hm q hq
    refine ⟨adK q.2.2, by simp [h1], vk_R.of (hts _ h3) ?_⟩
    have h4 := hev q.2.2 h1
    rw [h2] at h4
    exact h4
  · intro i
    dsimp only
    by_cases h1 : i < 6
    · exact Or.inr ⟨_, by rw [if_pos h1]⟩
    · rw [if_neg h1]
      by_cases h2 : 100 ≤ i ∧ i < 106
      · exact Or.inr ⟨_, by rw [if_pos h2]⟩
      · rw [if_neg h2]
        by_cases h3 : i = 200
        · exact Or.inr ⟨_, by rw [if_pos h3]⟩
        · rw [if_neg h3]
          by_cases h4 : i = 201
          · exact Or.inr ⟨_, by rw [if_pos h4]⟩
          · rw [if_neg h4]
            by_cases h5 : i = 202
            · exact Or.inr ⟨_, by rw [if_pos h5]⟩
            · rw [if_neg h5]
              by_cases h6 : i = 999
              · rw [if_pos h6]; exact hvS
              · rw [if_neg h6]; exact Or.inl rfl
/-- THE LAW out of the small machine's answer -/
def mx_law (xs : List Int32) : mx_R := mx_rn xs (mx_ev xs mx_P 12) kk_L_law mx_N 0 (lv_args 0 [.retAddr 202]) [] []
set_option maxHeartbeats 4000000 in
theorem mx_whole (hpure : ∀ xs : List Int32, xs.length ≤ 3072 → ∃ h', mx_law xs = some (some (.int 1), h') ∧ h'.length ≤ 600000 ∧ mx_sz h' ≤ 7302250) {p : Program} {e : Env} {s : State} {m : MethodId} {below : List Frame} {meth : Method} {c : Code} (l : Launch) {b L : Nat} {xs : Nat → Int32} (hL : L ≤ 3072) (C0 : lw_At p s m meth c b L xs) : W p l e room_1 s m #[Value.ref b] below meth c s.heap [] 0 0 (lw_Z below #[Value.ref b] s) (entryFrame m ([Value.ref b] : List Value).toArray 4) := by
  obtain ⟨D, ta, sk, hC, hsk, hb2⟩ := mx_start hL C0
  obtain ⟨hx, hb, hr, hml, hown, hts, hX, hbl, hlocks, hgv⟩ := C0
  obtain ⟨h', hq, hc1, hc2⟩ := hpure ((List.range L).map xs) (by rw [List.length_map, List.length_range]; exact hL)
  have X : mx_X ((List.range L).map xs) mx_P mx_G p room_1 s m #[Value.ref b] meth c yL_law cL_law 4 D ta s.heap.size sk 12 lw_tbl [] := by
    refine ⟨⟨hx, hb, hml, hown, hts⟩, fun e => by exact absurd e (by decide), hC, rfl, hsk, fun w hw => (mx_G_tbl w (List.mem_append_left _ hw)).1, mx_good mx_P_ok (fun w hw => (mx_G_tbl w hw).1), by decide, by decide⟩
  have hW := sd_rn (l := l) (e := e) (below := below) (Q := lw_Z below #[Value.ref b] s) (ret := some .boolean) X ck_law cw_law (mo_ev 12) (fun j as g v g' hg => mx_sound _ l mx_P mx_G mx_P_ok D ta s.heap.size sk hsk 12 j as g v g' hg) (rv := some (.int 1)) (h' := h') (by show h'.length - 0 ≤ 600000; omega) (by show mx_sz h' - mx_sz [] ≤ 7302250; omega) ?_ ?_ ?_ mx_N 0 (lv_args 0 [.retAddr 202]) [] [] hq
  · have hl := lv_entry ([.ref b]) (n := 4) (Nat.le_of_ble_eq_true rfl)
    rw [lg_entry_eq]
    have hl2 : lv_has ((lg_sl ([.ref b]) ++ List.replicate (4 - (lg_sl ([.ref b])).length) Slot.unset).toArray) 4 ((lv_args 0 [.retAddr 202]).map (mx_g s.heap.size sk)) := by
      have e : (lv_args 0 [Value.retAddr 202]).map (mx_g s.heap.size sk) = [(0, sk 202)] := rfl
      rw [e, hb2]
      exact hl
    exact hW s.heap [] _ ⟨rfl, fun k q h => by simp [mx_ws] at h⟩ va_S.rf hl2 (Nat.le_refl _) (Nat.le_refl _)
  · intro pc ls x hd he _
    cases he
    intro H locs lsC hR hS hl a1 a2
    refine va_forget hS.2.2 ?_
    refine W.widen (k := 600000) (n := 7302250) (by show h'.length - 0 ≤ 600000; omega) (by show mx_sz h' - mx_sz [] ≤ 7302250; omega) ?_
    exact lw_ret hx hb hr hlocks hd
  · intro pc ls v _ _ _ ⟨ty, h1, h2⟩
    cases h1
    cases h2
  · intro pc ls _ he _
    cases he
end
