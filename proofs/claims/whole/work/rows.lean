section
-- ===== PART A: goes FIRST, ahead of the names: the tables' words, and 'selects' of the private methods out of them =====
/-- a private method of a class that the tables say can be made, by its rows of tables_1 -/
def lw_okq (q : MethodName × Nat) : Prop := (q.1.cls ≠ "java/lang/invoke/MethodHandle" ∧ q.1.cls ≠ "java/lang/invoke/VarHandle") ∧ Cond.instantiable q.1.cls q.2 ∈ tables_1 ∧ Cond.privateMethod q.1 ∈ tables_1 ∧ Cond.instanceMethod q.1 ∈ tables_1
theorem lw_p0 : lw_okq (⟨"AshLoans", "fail", "(I)I"⟩, 10) := ⟨⟨by decide +kernel, by decide +kernel⟩, List.mem_of_getElem? (i := 20) (by decide +kernel), List.mem_of_getElem? (i := 321) (by decide +kernel), List.mem_of_getElem? (i := 322) (by decide +kernel)⟩
theorem lw_p1 : lw_okq (⟨"AshLoans$Reader", "readLevel", "(II)Z"⟩, 6) := ⟨⟨by decide +kernel, by decide +kernel⟩, List.mem_of_getElem? (i := 208) (by decide +kernel), List.mem_of_getElem? (i := 413) (by decide +kernel), List.mem_of_getElem? (i := 414) (by decide +kernel)⟩
theorem lw_p2 : lw_okq (⟨"AshLoans$Reader", "readPart", "(I)Z"⟩, 6) := ⟨⟨by decide +kernel, by decide +kernel⟩, List.mem_of_getElem? (i := 208) (by decide +kernel), List.mem_of_getElem? (i := 417) (by decide +kernel), List.mem_of_getElem? (i := 418) (by decide +kernel)⟩
theorem lw_p3 : lw_okq (⟨"AshLoans$Reader", "next", "()I"⟩, 6) := ⟨⟨by decide +kernel, by decide +kernel⟩, List.mem_of_getElem? (i := 208) (by decide +kernel), List.mem_of_getElem? (i := 421) (by decide +kernel), List.mem_of_getElem? (i := 422) (by decide +kernel)⟩
theorem lw_p4 : lw_okq (⟨"AshLoans$Reader", "readNumber", "()Z"⟩, 6) := ⟨⟨by decide +kernel, by decide +kernel⟩, List.mem_of_getElem? (i := 208) (by decide +kernel), List.mem_of_getElem? (i := 429) (by decide +kernel), List.mem_of_getElem? (i := 430) (by decide +kernel)⟩
theorem lw_p5 : lw_okq (⟨"AshLoans$Reader", "add", "(I)V"⟩, 6) := ⟨⟨by decide +kernel, by decide +kernel⟩, List.mem_of_getElem? (i := 208) (by decide +kernel), List.mem_of_getElem? (i := 433) (by decide +kernel), List.mem_of_getElem? (i := 434) (by decide +kernel)⟩
theorem lw_p6 : lw_okq (⟨"AshLoans$Reader", "readName", "(I)Z"⟩, 6) := ⟨⟨by decide +kernel, by decide +kernel⟩, List.mem_of_getElem? (i := 208) (by decide +kernel), List.mem_of_getElem? (i := 437) (by decide +kernel), List.mem_of_getElem? (i := 438) (by decide +kernel)⟩
theorem lw_p7 : lw_okq (⟨"AshLoans", "isMix", "(I)Z"⟩, 10) := ⟨⟨by decide +kernel, by decide +kernel⟩, List.mem_of_getElem? (i := 20) (by decide +kernel), List.mem_of_getElem? (i := 517) (by decide +kernel), List.mem_of_getElem? (i := 518) (by decide +kernel)⟩
theorem lw_p8 : lw_okq (⟨"AshLoans", "colourOfMix", "(II)I"⟩, 10) := ⟨⟨by decide +kernel, by decide +kernel⟩, List.mem_of_getElem? (i := 20) (by decide +kernel), List.mem_of_getElem? (i := 530) (by decide +kernel), List.mem_of_getElem? (i := 531) (by decide +kernel)⟩
theorem lw_p9 : lw_okq (⟨"AshLoans", "colourOfAsh", "(LAshLoans$Ash;I)I"⟩, 10) := ⟨⟨by decide +kernel, by decide +kernel⟩, List.mem_of_getElem? (i := 20) (by decide +kernel), List.mem_of_getElem? (i := 538) (by decide +kernel), List.mem_of_getElem? (i := 539) (by decide +kernel)⟩
theorem lw_p10 : lw_okq (⟨"AshLoans", "drawHedge", "()V"⟩, 10) := ⟨⟨by decide +kernel, by decide +kernel⟩, List.mem_of_getElem? (i := 20) (by decide +kernel), List.mem_of_getElem? (i := 577) (by decide +kernel), List.mem_of_getElem? (i := 578) (by decide +kernel)⟩
theorem lw_p11 : lw_okq (⟨"AshLoans", "draw", "()I"⟩, 10) := ⟨⟨by decide +kernel, by decide +kernel⟩, List.mem_of_getElem? (i := 20) (by decide +kernel), List.mem_of_getElem? (i := 581) (by decide +kernel), List.mem_of_getElem? (i := 582) (by decide +kernel)⟩
theorem lw_p12 : lw_okq (⟨"AshLoans", "prepareRecipes", "(LAshLoans$Potter;I)V"⟩, 10) := ⟨⟨by decide +kernel, by decide +kernel⟩, List.mem_of_getElem? (i := 20) (by decide +kernel), List.mem_of_getElem? (i := 622) (by decide +kernel), List.mem_of_getElem? (i := 623) (by decide +kernel)⟩
theorem lw_p13 : lw_okq (⟨"AshLoans", "fewestFor", "(I)I"⟩, 10) := ⟨⟨by decide +kernel, by decide +kernel⟩, List.mem_of_getElem? (i := 20) (by decide +kernel), List.mem_of_getElem? (i := 629) (by decide +kernel), List.mem_of_getElem? (i := 630) (by decide +kernel)⟩
theorem lw_p14 : lw_okq (⟨"AshLoans", "bushelsOfChoice", "(I)I"⟩, 10) := ⟨⟨by decide +kernel, by decide +kernel⟩, List.mem_of_getElem? (i := 20) (by decide +kernel), List.mem_of_getElem? (i := 633) (by decide +kernel), List.mem_of_getElem? (i := 634) (by decide +kernel)⟩
theorem lw_p15 : lw_okq (⟨"AshLoans", "colourOfChoice", "(I)I"⟩, 10) := ⟨⟨by decide +kernel, by decide +kernel⟩, List.mem_of_getElem? (i := 20) (by decide +kernel), List.mem_of_getElem? (i := 637) (by decide +kernel), List.mem_of_getElem? (i := 638) (by decide +kernel)⟩
def lw_privs_1 : List (MethodName × Nat) := [(⟨"AshLoans", "fail", "(I)I"⟩, 10), (⟨"AshLoans$Reader", "readLevel", "(II)Z"⟩, 6), (⟨"AshLoans$Reader", "readPart", "(I)Z"⟩, 6), (⟨"AshLoans$Reader", "next", "()I"⟩, 6), (⟨"AshLoans$Reader", "readNumber", "()Z"⟩, 6), (⟨"AshLoans$Reader", "add", "(I)V"⟩, 6), (⟨"AshLoans$Reader", "readName", "(I)Z"⟩, 6), (⟨"AshLoans", "isMix", "(I)Z"⟩, 10), (⟨"AshLoans", "colourOfMix", "(II)I"⟩, 10), (⟨"AshLoans", "colourOfAsh", "(LAshLoans$Ash;I)I"⟩, 10), (⟨"AshLoans", "drawHedge", "()V"⟩, 10), (⟨"AshLoans", "draw", "()I"⟩, 10), (⟨"AshLoans", "prepareRecipes", "(LAshLoans$Potter;I)V"⟩, 10), (⟨"AshLoans", "fewestFor", "(I)I"⟩, 10), (⟨"AshLoans", "bushelsOfChoice", "(I)I"⟩, 10), (⟨"AshLoans", "colourOfChoice", "(I)I"⟩, 10)]
theorem lw_r1 : ∀ q ∈ lw_privs_1, lw_okq q := List.forall_mem_cons.mpr ⟨lw_p0, List.forall_mem_cons.mpr ⟨lw_p1, List.forall_mem_cons.mpr ⟨lw_p2, List.forall_mem_cons.mpr ⟨lw_p3, List.forall_mem_cons.mpr ⟨lw_p4, List.forall_mem_cons.mpr ⟨lw_p5, List.forall_mem_cons.mpr ⟨lw_p6, List.forall_mem_cons.mpr ⟨lw_p7, List.forall_mem_cons.mpr ⟨lw_p8, List.forall_mem_cons.mpr ⟨lw_p9, List.forall_mem_cons.mpr ⟨lw_p10, List.forall_mem_cons.mpr ⟨lw_p11, List.forall_mem_cons.mpr ⟨lw_p12, List.forall_mem_cons.mpr ⟨lw_p13, List.forall_mem_cons.mpr ⟨lw_p14, List.forall_mem_cons.mpr ⟨lw_p15, fun _ h => absurd h List.not_mem_nil⟩⟩⟩⟩⟩⟩⟩⟩⟩⟩⟩⟩⟩⟩⟩⟩
theorem lw_p16 : lw_okq (⟨"AshLoans", "mixOfChoice", "(I)I"⟩, 10) := ⟨⟨by decide +kernel, by decide +kernel⟩, List.mem_of_getElem? (i := 20) (by decide +kernel), List.mem_of_getElem? (i := 641) (by decide +kernel), List.mem_of_getElem? (i := 642) (by decide +kernel)⟩
theorem lw_p17 : lw_okq (⟨"AshLoans", "heatsGiving", "(II)I"⟩, 10) := ⟨⟨by decide +kernel, by decide +kernel⟩, List.mem_of_getElem? (i := 20) (by decide +kernel), List.mem_of_getElem? (i := 649) (by decide +kernel), List.mem_of_getElem? (i := 650) (by decide +kernel)⟩
theorem lw_p18 : lw_okq (⟨"AshLoans", "canHaveGiven", "(LAshLoans$Ash;LAshLoans$Sheet;)Z"⟩, 10) := ⟨⟨by decide +kernel, by decide +kernel⟩, List.mem_of_getElem? (i := 20) (by decide +kernel), List.mem_of_getElem? (i := 664) (by decide +kernel), List.mem_of_getElem? (i := 665) (by decide +kernel)⟩
theorem lw_p19 : lw_okq (⟨"AshLoans$Voices", "own", "(III)I"⟩, 5) := ⟨⟨by decide +kernel, by decide +kernel⟩, List.mem_of_getElem? (i := 236) (by decide +kernel), List.mem_of_getElem? (i := 709) (by decide +kernel), List.mem_of_getElem? (i := 710) (by decide +kernel)⟩
theorem lw_p20 : lw_okq (⟨"AshLoans$Voices", "from", "(IIII)I"⟩, 5) := ⟨⟨by decide +kernel, by decide +kernel⟩, List.mem_of_getElem? (i := 236) (by decide +kernel), List.mem_of_getElem? (i := 713) (by decide +kernel), List.mem_of_getElem? (i := 714) (by decide +kernel)⟩
theorem lw_p21 : lw_okq (⟨"AshLoans$Voices", "speakBody", "(III)I"⟩, 5) := ⟨⟨by decide +kernel, by decide +kernel⟩, List.mem_of_getElem? (i := 236) (by decide +kernel), List.mem_of_getElem? (i := 720) (by decide +kernel), List.mem_of_getElem? (i := 721) (by decide +kernel)⟩
theorem lw_p22 : lw_okq (⟨"AshLoans$Voices", "note", "(I)V"⟩, 5) := ⟨⟨by decide +kernel, by decide +kernel⟩, List.mem_of_getElem? (i := 236) (by decide +kernel), List.mem_of_getElem? (i := 724) (by decide +kernel), List.mem_of_getElem? (i := 725) (by decide +kernel)⟩
theorem lw_p23 : lw_okq (⟨"AshLoans$Voices", "above", "(IIII)I"⟩, 5) := ⟨⟨by decide +kernel, by decide +kernel⟩, List.mem_of_getElem? (i := 236) (by decide +kernel), List.mem_of_getElem? (i := 728) (by decide +kernel), List.mem_of_getElem? (i := 729) (by decide +kernel)⟩
theorem lw_p24 : lw_okq (⟨"AshLoansModel", "finding", "(I)I"⟩, 23) := ⟨⟨by decide +kernel, by decide +kernel⟩, List.mem_of_getElem? (i := 806) (by decide +kernel), List.mem_of_getElem? (i := 895) (by decide +kernel), List.mem_of_getElem? (i := 896) (by decide +kernel)⟩
theorem lw_p25 : lw_okq (⟨"AshLoansModel", "either", "()V"⟩, 23) := ⟨⟨by decide +kernel, by decide +kernel⟩, List.mem_of_getElem? (i := 806) (by decide +kernel), List.mem_of_getElem? (i := 906) (by decide +kernel), List.mem_of_getElem? (i := 907) (by decide +kernel)⟩
theorem lw_p26 : lw_okq (⟨"AshLoansModel", "both", "()V"⟩, 23) := ⟨⟨by decide +kernel, by decide +kernel⟩, List.mem_of_getElem? (i := 806) (by decide +kernel), List.mem_of_getElem? (i := 910) (by decide +kernel), List.mem_of_getElem? (i := 911) (by decide +kernel)⟩
theorem lw_p27 : lw_okq (⟨"AshLoansModel", "compared", "()V"⟩, 23) := ⟨⟨by decide +kernel, by decide +kernel⟩, List.mem_of_getElem? (i := 806) (by decide +kernel), List.mem_of_getElem? (i := 914) (by decide +kernel), List.mem_of_getElem? (i := 915) (by decide +kernel)⟩
theorem lw_p28 : lw_okq (⟨"AshLoansModel", "sum", "()V"⟩, 23) := ⟨⟨by decide +kernel, by decide +kernel⟩, List.mem_of_getElem? (i := 806) (by decide +kernel), List.mem_of_getElem? (i := 918) (by decide +kernel), List.mem_of_getElem? (i := 919) (by decide +kernel)⟩
theorem lw_p29 : lw_okq (⟨"AshLoansModel", "product", "()V"⟩, 23) := ⟨⟨by decide +kernel, by decide +kernel⟩, List.mem_of_getElem? (i := 806) (by decide +kernel), List.mem_of_getElem? (i := 922) (by decide +kernel), List.mem_of_getElem? (i := 923) (by decide +kernel)⟩
theorem lw_p30 : lw_okq (⟨"AshLoansModel", "one", "()V"⟩, 23) := ⟨⟨by decide +kernel, by decide +kernel⟩, List.mem_of_getElem? (i := 806) (by decide +kernel), List.mem_of_getElem? (i := 926) (by decide +kernel), List.mem_of_getElem? (i := 927) (by decide +kernel)⟩
theorem lw_p31 : lw_okq (⟨"AshLoansModel", "here", "()I"⟩, 23) := ⟨⟨by decide +kernel, by decide +kernel⟩, List.mem_of_getElem? (i := 806) (by decide +kernel), List.mem_of_getElem? (i := 930) (by decide +kernel), List.mem_of_getElem? (i := 931) (by decide +kernel)⟩
def lw_privs_2 : List (MethodName × Nat) := [(⟨"AshLoans", "mixOfChoice", "(I)I"⟩, 10), (⟨"AshLoans", "heatsGiving", "(II)I"⟩, 10), (⟨"AshLoans", "canHaveGiven", "(LAshLoans$Ash;LAshLoans$Sheet;)Z"⟩, 10), (⟨"AshLoans$Voices", "own", "(III)I"⟩, 5), (⟨"AshLoans$Voices", "from", "(IIII)I"⟩, 5), (⟨"AshLoans$Voices", "speakBody", "(III)I"⟩, 5), (⟨"AshLoans$Voices", "note", "(I)V"⟩, 5), (⟨"AshLoans$Voices", "above", "(IIII)I"⟩, 5), (⟨"AshLoansModel", "finding", "(I)I"⟩, 23), (⟨"AshLoansModel", "either", "()V"⟩, 23), (⟨"AshLoansModel", "both", "()V"⟩, 23), (⟨"AshLoansModel", "compared", "()V"⟩, 23), (⟨"AshLoansModel", "sum", "()V"⟩, 23), (⟨"AshLoansModel", "product", "()V"⟩, 23), (⟨"AshLoansModel", "one", "()V"⟩, 23), (⟨"AshLoansModel", "here", "()I"⟩, 23)]
theorem lw_r2 : ∀ q ∈ lw_privs_2, lw_okq q := List.forall_mem_cons.mpr ⟨lw_p16, List.forall_mem_cons.mpr ⟨lw_p17, List.forall_mem_cons.mpr ⟨lw_p18, List.forall_mem_cons.mpr ⟨lw_p19, List.forall_mem_cons.mpr ⟨lw_p20, List.forall_mem_cons.mpr ⟨lw_p21, List.forall_mem_cons.mpr ⟨lw_p22, List.forall_mem_cons.mpr ⟨lw_p23, List.forall_mem_cons.mpr ⟨lw_p24, List.forall_mem_cons.mpr ⟨lw_p25, List.forall_mem_cons.mpr ⟨lw_p26, List.forall_mem_cons.mpr ⟨lw_p27, List.forall_mem_cons.mpr ⟨lw_p28, List.forall_mem_cons.mpr ⟨lw_p29, List.forall_mem_cons.mpr ⟨lw_p30, List.forall_mem_cons.mpr ⟨lw_p31, fun _ h => absurd h List.not_mem_nil⟩⟩⟩⟩⟩⟩⟩⟩⟩⟩⟩⟩⟩⟩⟩⟩
theorem lw_p32 : lw_okq (⟨"AshLoansModel", "codes", "(I)V"⟩, 23) := ⟨⟨by decide +kernel, by decide +kernel⟩, List.mem_of_getElem? (i := 806) (by decide +kernel), List.mem_of_getElem? (i := 934) (by decide +kernel), List.mem_of_getElem? (i := 935) (by decide +kernel)⟩
theorem lw_p33 : lw_okq (⟨"AshLoansModel", "takes", "(I)Z"⟩, 23) := ⟨⟨by decide +kernel, by decide +kernel⟩, List.mem_of_getElem? (i := 806) (by decide +kernel), List.mem_of_getElem? (i := 938) (by decide +kernel), List.mem_of_getElem? (i := 939) (by decide +kernel)⟩
theorem lw_p34 : lw_okq (⟨"AshLoansModel", "nameOf", "(I)I"⟩, 23) := ⟨⟨by decide +kernel, by decide +kernel⟩, List.mem_of_getElem? (i := 806) (by decide +kernel), List.mem_of_getElem? (i := 942) (by decide +kernel), List.mem_of_getElem? (i := 943) (by decide +kernel)⟩
theorem lw_p35 : lw_okq (⟨"AshLoansModel", "given", "(IIII)I"⟩, 23) := ⟨⟨by decide +kernel, by decide +kernel⟩, List.mem_of_getElem? (i := 806) (by decide +kernel), List.mem_of_getElem? (i := 998) (by decide +kernel), List.mem_of_getElem? (i := 999) (by decide +kernel)⟩
theorem lw_p36 : lw_okq (⟨"AshLoansModel", "hasText", "(I)Z"⟩, 23) := ⟨⟨by decide +kernel, by decide +kernel⟩, List.mem_of_getElem? (i := 806) (by decide +kernel), List.mem_of_getElem? (i := 1002) (by decide +kernel), List.mem_of_getElem? (i := 1003) (by decide +kernel)⟩
theorem lw_p37 : lw_okq (⟨"AshLoansModel", "worked", "(I)I"⟩, 23) := ⟨⟨by decide +kernel, by decide +kernel⟩, List.mem_of_getElem? (i := 806) (by decide +kernel), List.mem_of_getElem? (i := 1006) (by decide +kernel), List.mem_of_getElem? (i := 1007) (by decide +kernel)⟩
theorem lw_p38 : lw_okq (⟨"AshLoansModel", "ashComes", "(I)I"⟩, 23) := ⟨⟨by decide +kernel, by decide +kernel⟩, List.mem_of_getElem? (i := 806) (by decide +kernel), List.mem_of_getElem? (i := 1027) (by decide +kernel), List.mem_of_getElem? (i := 1028) (by decide +kernel)⟩
theorem lw_p39 : lw_okq (⟨"AshLoansModel", "isAsh", "(I)Z"⟩, 23) := ⟨⟨by decide +kernel, by decide +kernel⟩, List.mem_of_getElem? (i := 806) (by decide +kernel), List.mem_of_getElem? (i := 1041) (by decide +kernel), List.mem_of_getElem? (i := 1042) (by decide +kernel)⟩
theorem lw_p40 : lw_okq (⟨"AshLoansModel", "allOf", "(I)I"⟩, 23) := ⟨⟨by decide +kernel, by decide +kernel⟩, List.mem_of_getElem? (i := 806) (by decide +kernel), List.mem_of_getElem? (i := 1045) (by decide +kernel), List.mem_of_getElem? (i := 1046) (by decide +kernel)⟩
theorem lw_p41 : lw_okq (⟨"AshLoansModel", "ashIs", "(II)I"⟩, 23) := ⟨⟨by decide +kernel, by decide +kernel⟩, List.mem_of_getElem? (i := 806) (by decide +kernel), List.mem_of_getElem? (i := 1049) (by decide +kernel), List.mem_of_getElem? (i := 1050) (by decide +kernel)⟩
theorem lw_p42 : lw_okq (⟨"AshLoansModel", "turn", "(II)I"⟩, 23) := ⟨⟨by decide +kernel, by decide +kernel⟩, List.mem_of_getElem? (i := 806) (by decide +kernel), List.mem_of_getElem? (i := 1057) (by decide +kernel), List.mem_of_getElem? (i := 1058) (by decide +kernel)⟩
theorem lw_p43 : lw_okq (⟨"AshLoansModel", "isPotter", "(I)Z"⟩, 23) := ⟨⟨by decide +kernel, by decide +kernel⟩, List.mem_of_getElem? (i := 806) (by decide +kernel), List.mem_of_getElem? (i := 1087) (by decide +kernel), List.mem_of_getElem? (i := 1088) (by decide +kernel)⟩
theorem lw_p44 : lw_okq (⟨"AshLoansModel", "loansOf", "(II)I"⟩, 23) := ⟨⟨by decide +kernel, by decide +kernel⟩, List.mem_of_getElem? (i := 806) (by decide +kernel), List.mem_of_getElem? (i := 1091) (by decide +kernel), List.mem_of_getElem? (i := 1092) (by decide +kernel)⟩
theorem lw_p45 : lw_okq (⟨"AshLoansModel", "loanIs", "(II)I"⟩, 23) := ⟨⟨by decide +kernel, by decide +kernel⟩, List.mem_of_getElem? (i := 806) (by decide +kernel), List.mem_of_getElem? (i := 1095) (by decide +kernel), List.mem_of_getElem? (i := 1096) (by decide +kernel)⟩
theorem lw_p46 : lw_okq (⟨"AshLoansModel", "isMix", "(I)Z"⟩, 23) := ⟨⟨by decide +kernel, by decide +kernel⟩, List.mem_of_getElem? (i := 806) (by decide +kernel), List.mem_of_getElem? (i := 1114) (by decide +kernel), List.mem_of_getElem? (i := 1115) (by decide +kernel)⟩
theorem lw_p47 : lw_okq (⟨"AshLoansModel", "isForbidden", "(II)Z"⟩, 23) := ⟨⟨by decide +kernel, by decide +kernel⟩, List.mem_of_getElem? (i := 806) (by decide +kernel), List.mem_of_getElem? (i := 1125) (by decide +kernel), List.mem_of_getElem? (i := 1126) (by decide +kernel)⟩
def lw_privs_3 : List (MethodName × Nat) := [(⟨"AshLoansModel", "codes", "(I)V"⟩, 23), (⟨"AshLoansModel", "takes", "(I)Z"⟩, 23), (⟨"AshLoansModel", "nameOf", "(I)I"⟩, 23), (⟨"AshLoansModel", "given", "(IIII)I"⟩, 23), (⟨"AshLoansModel", "hasText", "(I)Z"⟩, 23), (⟨"AshLoansModel", "worked", "(I)I"⟩, 23), (⟨"AshLoansModel", "ashComes", "(I)I"⟩, 23), (⟨"AshLoansModel", "isAsh", "(I)Z"⟩, 23), (⟨"AshLoansModel", "allOf", "(I)I"⟩, 23), (⟨"AshLoansModel", "ashIs", "(II)I"⟩, 23), (⟨"AshLoansModel", "turn", "(II)I"⟩, 23), (⟨"AshLoansModel", "isPotter", "(I)Z"⟩, 23), (⟨"AshLoansModel", "loansOf", "(II)I"⟩, 23), (⟨"AshLoansModel", "loanIs", "(II)I"⟩, 23), (⟨"AshLoansModel", "isMix", "(I)Z"⟩, 23), (⟨"AshLoansModel", "isForbidden", "(II)Z"⟩, 23)]
theorem lw_r3 : ∀ q ∈ lw_privs_3, lw_okq q := List.forall_mem_cons.mpr ⟨lw_p32, List.forall_mem_cons.mpr ⟨lw_p33, List.forall_mem_cons.mpr ⟨lw_p34, List.forall_mem_cons.mpr ⟨lw_p35, List.forall_mem_cons.mpr ⟨lw_p36, List.forall_mem_cons.mpr ⟨lw_p37, List.forall_mem_cons.mpr ⟨lw_p38, List.forall_mem_cons.mpr ⟨lw_p39, List.forall_mem_cons.mpr ⟨lw_p40, List.forall_mem_cons.mpr ⟨lw_p41, List.forall_mem_cons.mpr ⟨lw_p42, List.forall_mem_cons.mpr ⟨lw_p43, List.forall_mem_cons.mpr ⟨lw_p44, List.forall_mem_cons.mpr ⟨lw_p45, List.forall_mem_cons.mpr ⟨lw_p46, List.forall_mem_cons.mpr ⟨lw_p47, fun _ h => absurd h List.not_mem_nil⟩⟩⟩⟩⟩⟩⟩⟩⟩⟩⟩⟩⟩⟩⟩⟩
theorem lw_p48 : lw_okq (⟨"AshLoansModel", "mixColour", "(II)I"⟩, 23) := ⟨⟨by decide +kernel, by decide +kernel⟩, List.mem_of_getElem? (i := 806) (by decide +kernel), List.mem_of_getElem? (i := 1129) (by decide +kernel), List.mem_of_getElem? (i := 1130) (by decide +kernel)⟩
theorem lw_p49 : lw_okq (⟨"AshLoansModel", "colourOf", "(II)I"⟩, 23) := ⟨⟨by decide +kernel, by decide +kernel⟩, List.mem_of_getElem? (i := 806) (by decide +kernel), List.mem_of_getElem? (i := 1133) (by decide +kernel), List.mem_of_getElem? (i := 1134) (by decide +kernel)⟩
theorem lw_p50 : lw_okq (⟨"AshLoansModel", "hasAll", "(II)Z"⟩, 23) := ⟨⟨by decide +kernel, by decide +kernel⟩, List.mem_of_getElem? (i := 806) (by decide +kernel), List.mem_of_getElem? (i := 1145) (by decide +kernel), List.mem_of_getElem? (i := 1146) (by decide +kernel)⟩
theorem lw_p51 : lw_okq (⟨"AshLoansModel", "firesNow", "(III)I"⟩, 23) := ⟨⟨by decide +kernel, by decide +kernel⟩, List.mem_of_getElem? (i := 806) (by decide +kernel), List.mem_of_getElem? (i := 1150) (by decide +kernel), List.mem_of_getElem? (i := 1151) (by decide +kernel)⟩
theorem lw_p52 : lw_okq (⟨"AshLoansModel", "canLend", "(IIII)Z"⟩, 23) := ⟨⟨by decide +kernel, by decide +kernel⟩, List.mem_of_getElem? (i := 806) (by decide +kernel), List.mem_of_getElem? (i := 1158) (by decide +kernel), List.mem_of_getElem? (i := 1159) (by decide +kernel)⟩
theorem lw_p53 : lw_okq (⟨"AshLoansModel", "lendNow", "(IIIII)I"⟩, 23) := ⟨⟨by decide +kernel, by decide +kernel⟩, List.mem_of_getElem? (i := 806) (by decide +kernel), List.mem_of_getElem? (i := 1162) (by decide +kernel), List.mem_of_getElem? (i := 1163) (by decide +kernel)⟩
theorem lw_p54 : lw_okq (⟨"AshLoansModel", "isLoan", "(I)Z"⟩, 23) := ⟨⟨by decide +kernel, by decide +kernel⟩, List.mem_of_getElem? (i := 806) (by decide +kernel), List.mem_of_getElem? (i := 1170) (by decide +kernel), List.mem_of_getElem? (i := 1171) (by decide +kernel)⟩
theorem lw_p55 : lw_okq (⟨"AshLoansModel", "canGiveBack", "(I)Z"⟩, 23) := ⟨⟨by decide +kernel, by decide +kernel⟩, List.mem_of_getElem? (i := 806) (by decide +kernel), List.mem_of_getElem? (i := 1178) (by decide +kernel), List.mem_of_getElem? (i := 1179) (by decide +kernel)⟩
theorem lw_p56 : lw_okq (⟨"AshLoansModel", "givesBack", "(I)I"⟩, 23) := ⟨⟨by decide +kernel, by decide +kernel⟩, List.mem_of_getElem? (i := 806) (by decide +kernel), List.mem_of_getElem? (i := 1182) (by decide +kernel), List.mem_of_getElem? (i := 1183) (by decide +kernel)⟩
theorem lw_p57 : lw_okq (⟨"AshLoansModel", "goes", "(I)V"⟩, 23) := ⟨⟨by decide +kernel, by decide +kernel⟩, List.mem_of_getElem? (i := 806) (by decide +kernel), List.mem_of_getElem? (i := 1186) (by decide +kernel), List.mem_of_getElem? (i := 1187) (by decide +kernel)⟩
theorem lw_p58 : lw_okq (⟨"AshLoansModel", "daysGo", "(I)V"⟩, 23) := ⟨⟨by decide +kernel, by decide +kernel⟩, List.mem_of_getElem? (i := 806) (by decide +kernel), List.mem_of_getElem? (i := 1194) (by decide +kernel), List.mem_of_getElem? (i := 1195) (by decide +kernel)⟩
theorem lw_p59 : lw_okq (⟨"AshLoansModel", "day", "()V"⟩, 23) := ⟨⟨by decide +kernel, by decide +kernel⟩, List.mem_of_getElem? (i := 806) (by decide +kernel), List.mem_of_getElem? (i := 1198) (by decide +kernel), List.mem_of_getElem? (i := 1199) (by decide +kernel)⟩
theorem lw_p60 : lw_okq (⟨"AshLoansModel", "breaksOne", "(I)V"⟩, 23) := ⟨⟨by decide +kernel, by decide +kernel⟩, List.mem_of_getElem? (i := 806) (by decide +kernel), List.mem_of_getElem? (i := 1202) (by decide +kernel), List.mem_of_getElem? (i := 1203) (by decide +kernel)⟩
theorem lw_p61 : lw_okq (⟨"AshLoansModel", "drawn", "()I"⟩, 23) := ⟨⟨by decide +kernel, by decide +kernel⟩, List.mem_of_getElem? (i := 806) (by decide +kernel), List.mem_of_getElem? (i := 1210) (by decide +kernel), List.mem_of_getElem? (i := 1211) (by decide +kernel)⟩
theorem lw_p62 : lw_okq (⟨"AshLoansModel", "putBack", "(I)I"⟩, 23) := ⟨⟨by decide +kernel, by decide +kernel⟩, List.mem_of_getElem? (i := 806) (by decide +kernel), List.mem_of_getElem? (i := 1222) (by decide +kernel), List.mem_of_getElem? (i := 1223) (by decide +kernel)⟩
theorem lw_p63 : lw_okq (⟨"AshLoansModel", "heatsOf", "(II)I"⟩, 23) := ⟨⟨by decide +kernel, by decide +kernel⟩, List.mem_of_getElem? (i := 806) (by decide +kernel), List.mem_of_getElem? (i := 1245) (by decide +kernel), List.mem_of_getElem? (i := 1246) (by decide +kernel)⟩
def lw_privs_4 : List (MethodName × Nat) := [(⟨"AshLoansModel", "mixColour", "(II)I"⟩, 23), (⟨"AshLoansModel", "colourOf", "(II)I"⟩, 23), (⟨"AshLoansModel", "hasAll", "(II)Z"⟩, 23), (⟨"AshLoansModel", "firesNow", "(III)I"⟩, 23), (⟨"AshLoansModel", "canLend", "(IIII)Z"⟩, 23), (⟨"AshLoansModel", "lendNow", "(IIIII)I"⟩, 23), (⟨"AshLoansModel", "isLoan", "(I)Z"⟩, 23), (⟨"AshLoansModel", "canGiveBack", "(I)Z"⟩, 23), (⟨"AshLoansModel", "givesBack", "(I)I"⟩, 23), (⟨"AshLoansModel", "goes", "(I)V"⟩, 23), (⟨"AshLoansModel", "daysGo", "(I)V"⟩, 23), (⟨"AshLoansModel", "day", "()V"⟩, 23), (⟨"AshLoansModel", "breaksOne", "(I)V"⟩, 23), (⟨"AshLoansModel", "drawn", "()I"⟩, 23), (⟨"AshLoansModel", "putBack", "(I)I"⟩, 23), (⟨"AshLoansModel", "heatsOf", "(II)I"⟩, 23)]
theorem lw_r4 : ∀ q ∈ lw_privs_4, lw_okq q := List.forall_mem_cons.mpr ⟨lw_p48, List.forall_mem_cons.mpr ⟨lw_p49, List.forall_mem_cons.mpr ⟨lw_p50, List.forall_mem_cons.mpr ⟨lw_p51, List.forall_mem_cons.mpr ⟨lw_p52, List.forall_mem_cons.mpr ⟨lw_p53, List.forall_mem_cons.mpr ⟨lw_p54, List.forall_mem_cons.mpr ⟨lw_p55, List.forall_mem_cons.mpr ⟨lw_p56, List.forall_mem_cons.mpr ⟨lw_p57, List.forall_mem_cons.mpr ⟨lw_p58, List.forall_mem_cons.mpr ⟨lw_p59, List.forall_mem_cons.mpr ⟨lw_p60, List.forall_mem_cons.mpr ⟨lw_p61, List.forall_mem_cons.mpr ⟨lw_p62, List.forall_mem_cons.mpr ⟨lw_p63, fun _ h => absurd h List.not_mem_nil⟩⟩⟩⟩⟩⟩⟩⟩⟩⟩⟩⟩⟩⟩⟩⟩
theorem lw_p64 : lw_okq (⟨"AshLoansModel", "has", "(III)I"⟩, 23) := ⟨⟨by decide +kernel, by decide +kernel⟩, List.mem_of_getElem? (i := 806) (by decide +kernel), List.mem_of_getElem? (i := 1260) (by decide +kernel), List.mem_of_getElem? (i := 1261) (by decide +kernel)⟩
theorem lw_p65 : lw_okq (⟨"AshLoansModel", "brokenIfLent", "(IIIII)I"⟩, 23) := ⟨⟨by decide +kernel, by decide +kernel⟩, List.mem_of_getElem? (i := 806) (by decide +kernel), List.mem_of_getElem? (i := 1268) (by decide +kernel), List.mem_of_getElem? (i := 1269) (by decide +kernel)⟩
theorem lw_p66 : lw_okq (⟨"AshLoansModel", "brokenAll", "()I"⟩, 23) := ⟨⟨by decide +kernel, by decide +kernel⟩, List.mem_of_getElem? (i := 806) (by decide +kernel), List.mem_of_getElem? (i := 1272) (by decide +kernel), List.mem_of_getElem? (i := 1273) (by decide +kernel)⟩
theorem lw_p67 : lw_okq (⟨"AshLoansModel", "burnsOf", "(I)I"⟩, 23) := ⟨⟨by decide +kernel, by decide +kernel⟩, List.mem_of_getElem? (i := 806) (by decide +kernel), List.mem_of_getElem? (i := 1288) (by decide +kernel), List.mem_of_getElem? (i := 1289) (by decide +kernel)⟩
theorem lw_p68 : lw_okq (⟨"AshLoansModel", "ran", "(I)V"⟩, 23) := ⟨⟨by decide +kernel, by decide +kernel⟩, List.mem_of_getElem? (i := 806) (by decide +kernel), List.mem_of_getElem? (i := 1292) (by decide +kernel), List.mem_of_getElem? (i := 1293) (by decide +kernel)⟩
theorem lw_p69 : lw_okq (⟨"AshLoansModel", "meltsOf", "(I)I"⟩, 23) := ⟨⟨by decide +kernel, by decide +kernel⟩, List.mem_of_getElem? (i := 806) (by decide +kernel), List.mem_of_getElem? (i := 1296) (by decide +kernel), List.mem_of_getElem? (i := 1297) (by decide +kernel)⟩
theorem lw_p70 : lw_okq (⟨"AshLoansModel", "runsOf", "(I)I"⟩, 23) := ⟨⟨by decide +kernel, by decide +kernel⟩, List.mem_of_getElem? (i := 806) (by decide +kernel), List.mem_of_getElem? (i := 1300) (by decide +kernel), List.mem_of_getElem? (i := 1301) (by decide +kernel)⟩
theorem lw_p71 : lw_okq (⟨"AshLoansModel", "glowsOf", "(I)I"⟩, 23) := ⟨⟨by decide +kernel, by decide +kernel⟩, List.mem_of_getElem? (i := 806) (by decide +kernel), List.mem_of_getElem? (i := 1304) (by decide +kernel), List.mem_of_getElem? (i := 1305) (by decide +kernel)⟩
theorem lw_p72 : lw_okq (⟨"AshLoansModel", "plainGlows", "(I)I"⟩, 23) := ⟨⟨by decide +kernel, by decide +kernel⟩, List.mem_of_getElem? (i := 806) (by decide +kernel), List.mem_of_getElem? (i := 1308) (by decide +kernel), List.mem_of_getElem? (i := 1309) (by decide +kernel)⟩
theorem lw_p73 : lw_okq (⟨"AshLoansModel", "potsAll", "()I"⟩, 23) := ⟨⟨by decide +kernel, by decide +kernel⟩, List.mem_of_getElem? (i := 806) (by decide +kernel), List.mem_of_getElem? (i := 1356) (by decide +kernel), List.mem_of_getElem? (i := 1357) (by decide +kernel)⟩
def lw_privs_5 : List (MethodName × Nat) := [(⟨"AshLoansModel", "has", "(III)I"⟩, 23), (⟨"AshLoansModel", "brokenIfLent", "(IIIII)I"⟩, 23), (⟨"AshLoansModel", "brokenAll", "()I"⟩, 23), (⟨"AshLoansModel", "burnsOf", "(I)I"⟩, 23), (⟨"AshLoansModel", "ran", "(I)V"⟩, 23), (⟨"AshLoansModel", "meltsOf", "(I)I"⟩, 23), (⟨"AshLoansModel", "runsOf", "(I)I"⟩, 23), (⟨"AshLoansModel", "glowsOf", "(I)I"⟩, 23), (⟨"AshLoansModel", "plainGlows", "(I)I"⟩, 23), (⟨"AshLoansModel", "potsAll", "()I"⟩, 23)]
theorem lw_r5 : ∀ q ∈ lw_privs_5, lw_okq q := List.forall_mem_cons.mpr ⟨lw_p64, List.forall_mem_cons.mpr ⟨lw_p65, List.forall_mem_cons.mpr ⟨lw_p66, List.forall_mem_cons.mpr ⟨lw_p67, List.forall_mem_cons.mpr ⟨lw_p68, List.forall_mem_cons.mpr ⟨lw_p69, List.forall_mem_cons.mpr ⟨lw_p70, List.forall_mem_cons.mpr ⟨lw_p71, List.forall_mem_cons.mpr ⟨lw_p72, List.forall_mem_cons.mpr ⟨lw_p73, fun _ h => absurd h List.not_mem_nil⟩⟩⟩⟩⟩⟩⟩⟩⟩⟩
def lw_privs : List (MethodName × Nat) := lw_privs_1 ++ (lw_privs_2 ++ (lw_privs_3 ++ (lw_privs_4 ++ (lw_privs_5))))
def lw_tbl : List Cond := k2_sels lw_privs ++ tables_1
theorem lw_privs_ok : ∀ q ∈ lw_privs, lw_okq q := by
  show ∀ q ∈ lw_privs_1 ++ (lw_privs_2 ++ (lw_privs_3 ++ (lw_privs_4 ++ (lw_privs_5)))), lw_okq q
  exact List.forall_mem_append.mpr ⟨lw_r1, List.forall_mem_append.mpr ⟨lw_r2, List.forall_mem_append.mpr ⟨lw_r3, List.forall_mem_append.mpr ⟨lw_r4, lw_r5⟩⟩⟩⟩
end
section
/-! ===== BEGIN words of one list among another's, by their places ===== -/
theorem goodIn_r {big : List Cond} (ws : List Cond) (ps : List Nat) (hp : ws = ps.filterMap (fun i => big[i]?)) (h : ws.all goodWord = true) : GoodIn big ws := by
  intro w hw
  have h1 := List.all_eq_true.mp h w hw
  rw [hp] at hw
  obtain ⟨i, -, hi⟩ := List.mem_filterMap.mp hw
  have hm : w ∈ big := by first | exact List.mem_of_getElem? hi | exact List.getElem?_mem hi
  exact ⟨hm, good_of_word h1⟩
theorem goodIn_app {big a b : List Cond} (ha : GoodIn big a) (hb : GoodIn big b) : GoodIn big (a ++ b) := fun w h => (List.mem_append.mp h).elim (ha w) (hb w)
theorem goodIn_ca {big a b : List Cond} {c : Cond} (ha : GoodIn big (c :: a)) (hb : GoodIn big b) : GoodIn big (c :: (a ++ b)) := fun w h => (List.mem_cons.mp h).elim (fun e => ha w (List.mem_cons.mpr (Or.inl e))) (fun h => (List.mem_append.mp h).elim (fun h => ha w (List.mem_cons.mpr (Or.inr h))) (hb w))
theorem goodIn_sub {big ws : List Cond} (hm : ∀ w ∈ ws, w ∈ big) (h : ws.all goodWord = true) : GoodIn big ws := fun w hw => ⟨hm w hw, good_of_word (List.all_eq_true.mp h w hw)⟩
/-! ===== END ===== -/

/-! ===== BEGIN printed: names, fields, word lists, decode rows ===== -/
def RX0 : String := "AshLoans$Ash"
def TX0 : u_T := fun k => match k with
  | 0 => ("AshLoans$Ash", "kind", "I", false)
  | 1 => ("AshLoans$Ash", "m", "I", false)
  | 2 => ("AshLoans$Ash", "growth", "I", false)
  | _ => ("AshLoans$Ash", "goesTo", "I", false)
def tyX0 : Nat → FieldType := fun k => match k with
  | 0 => .int
  | 1 => .int
  | 2 => .int
  | _ => .int
abbrev wsX00 : List Cond := u_ws RX0 TX0 4
theorem nmX0 : ∀ a, a < 4 → ∀ b, b < 4 → a ≠ b → (TX0 a).2.1 ≠ (TX0 b).2.1 := by decide +kernel
theorem tyX0_ok : ∀ k, k < 4 → parseFieldDescriptor (TX0 k).2.2.1 = some (tyX0 k) := by decide +kernel
abbrev cX0_init : ByteArray := prog_2_method_1_code
def yX0_init : MethodName := ⟨RX0, "<init>", "()V"⟩
abbrev cX0_begin : ByteArray := prog_2_method_2_code
def yX0_begin : MethodName := ⟨RX0, "begin", "(I)V"⟩
abbrev cX0_copy : ByteArray := prog_2_method_3_code
def yX0_copy : MethodName := ⟨RX0, "copy", "(LAshLoans$Ash;)V"⟩
abbrev cX0_isForbiddenAt : ByteArray := prog_2_method_4_code
def yX0_isForbiddenAt : MethodName := ⟨RX0, "isForbiddenAt", "(I)Z"⟩
def RX1 : String := "AshLoans$County"
def TX1 : u_T := fun k => match k with
  | 0 => ("AshLoans$County", "ashes", "[LAshLoans$Ash;", true)
  | 1 => ("AshLoans$County", "potters", "[LAshLoans$Potter;", true)
  | 2 => ("AshLoans$County", "loans", "[LAshLoans$Loan;", true)
  | 3 => ("AshLoans$County", "ashCount", "I", false)
  | 4 => ("AshLoans$County", "potterCount", "I", false)
  | 5 => ("AshLoans$County", "loanCount", "I", false)
  | _ => ("AshLoans$County", "day", "I", false)
def tyX1 : Nat → FieldType := fun k => match k with
  | 0 => .array (.object "AshLoans$Ash")
  | 1 => .array (.object "AshLoans$Potter")
  | 2 => .array (.object "AshLoans$Loan")
  | 3 => .int
  | 4 => .int
  | 5 => .int
  | _ => .int
abbrev wsX10 : List Cond := u_ws RX1 TX1 7
theorem nmX1 : ∀ a, a < 7 → ∀ b, b < 7 → a ≠ b → (TX1 a).2.1 ≠ (TX1 b).2.1 := by decide +kernel
theorem tyX1_ok : ∀ k, k < 7 → parseFieldDescriptor (TX1 k).2.2.1 = some (tyX1 k) := by decide +kernel
abbrev cX1_init : ByteArray := prog_3_method_1_code
def yX1_init : MethodName := ⟨RX1, "<init>", "()V"⟩
abbrev cX1_copy : ByteArray := prog_3_method_2_code
def yX1_copy : MethodName := ⟨RX1, "copy", "(LAshLoans$County;)V"⟩
abbrev cX1_hasAsh : ByteArray := prog_3_method_3_code
def yX1_hasAsh : MethodName := ⟨RX1, "hasAsh", "(I)Z"⟩
abbrev cX1_hasPotter : ByteArray := prog_3_method_4_code
def yX1_hasPotter : MethodName := ⟨RX1, "hasPotter", "(I)Z"⟩
abbrev cX1_hasLoan : ByteArray := prog_3_method_5_code
def yX1_hasLoan : MethodName := ⟨RX1, "hasLoan", "(I)Z"⟩
abbrev cX1_bushelsOfAll : ByteArray := prog_3_method_6_code
def yX1_bushelsOfAll : MethodName := ⟨RX1, "bushelsOfAll", "(I)I"⟩
abbrev cX1_potsOfAll : ByteArray := prog_3_method_7_code
def yX1_potsOfAll : MethodName := ⟨RX1, "potsOfAll", "()I"⟩
abbrev cX1_brokenOfAll : ByteArray := prog_3_method_8_code
def yX1_brokenOfAll : MethodName := ⟨RX1, "brokenOfAll", "()I"⟩
abbrev cX1_loansHeldBy : ByteArray := prog_3_method_9_code
def yX1_loansHeldBy : MethodName := ⟨RX1, "loansHeldBy", "(I)I"⟩
abbrev cX1_owedTo : ByteArray := prog_3_method_10_code
def yX1_owedTo : MethodName := ⟨RX1, "owedTo", "(I)I"⟩
abbrev cX1_lentBetween : ByteArray := prog_3_method_11_code
def yX1_lentBetween : MethodName := ⟨RX1, "lentBetween", "(III)I"⟩
abbrev cX1_canLend : ByteArray := prog_3_method_12_code
def yX1_canLend : MethodName := ⟨RX1, "canLend", "(IIII)Z"⟩
abbrev cX1_addLoan : ByteArray := prog_3_method_13_code
def yX1_addLoan : MethodName := ⟨RX1, "addLoan", "(IIIII)V"⟩
abbrev cX1_canGiveBack : ByteArray := prog_3_method_14_code
def yX1_canGiveBack : MethodName := ⟨RX1, "canGiveBack", "(LAshLoans$Loan;)Z"⟩
abbrev cX1_giveBack : ByteArray := prog_3_method_15_code
def yX1_giveBack : MethodName := ⟨RX1, "giveBack", "(ILAshLoans$Law;)I"⟩
abbrev cX1_breakOff : ByteArray := prog_3_method_16_code
def yX1_breakOff : MethodName := ⟨RX1, "breakOff", "(I)V"⟩
abbrev cX1_drop : ByteArray := prog_3_method_17_code
def yX1_drop : MethodName := ⟨RX1, "drop", "(I)V"⟩
abbrev cX1_passDays : ByteArray := prog_3_method_18_code
def yX1_passDays : MethodName := ⟨RX1, "passDays", "(ILAshLoans$Law;)V"⟩
abbrev cX1_growHedges : ByteArray := prog_3_method_19_code
def yX1_growHedges : MethodName := ⟨RX1, "growHedges", "()V"⟩
abbrev cX1_settleLoans : ByteArray := prog_3_method_20_code
def yX1_settleLoans : MethodName := ⟨RX1, "settleLoans", "(LAshLoans$Law;)V"⟩
def RX2 : String := "AshLoans$Law"
def TX2 : u_T := fun k => match k with
  | 0 => ("AshLoans$Law", "use", "I", true)
  | 1 => ("AshLoans$Law", "code", "[I", true)
  | 2 => ("AshLoans$Law", "stack", "[I", true)
  | _ => ("AshLoans$Law", "size", "I", false)
def tyX2 : Nat → FieldType := fun k => match k with
  | 0 => .int
  | 1 => .array .int
  | 2 => .array .int
  | _ => .int
abbrev wsX20 : List Cond := u_ws RX2 TX2 4
theorem nmX2 : ∀ a, a < 4 → ∀ b, b < 4 → a ≠ b → (TX2 a).2.1 ≠ (TX2 b).2.1 := by decide +kernel
theorem tyX2_ok : ∀ k, k < 4 → parseFieldDescriptor (TX2 k).2.2.1 = some (tyX2 k) := by decide +kernel
abbrev cX2_init : ByteArray := prog_4_method_1_code
def yX2_init : MethodName := ⟨RX2, "<init>", "(I)V"⟩
abbrev cX2_take : ByteArray := prog_4_method_2_code
def yX2_take : MethodName := ⟨RX2, "take", "([II)V"⟩
abbrev cX2_gives : ByteArray := prog_4_method_3_code
def yX2_gives : MethodName := ⟨RX2, "gives", "(III)I"⟩
abbrev cX2_withoutText : ByteArray := prog_4_method_4_code
def yX2_withoutText : MethodName := ⟨RX2, "withoutText", "(II)I"⟩
abbrev cX2_worth : ByteArray := prog_4_method_5_code
def yX2_worth : MethodName := ⟨RX2, "worth", "(III)I"⟩
abbrev cX2_joined : ByteArray := prog_4_method_6_code
def yX2_joined : MethodName := ⟨RX2, "joined", "(III)I"⟩
def RX3 : String := "AshLoans$Loan"
def TX3 : u_T := fun k => match k with
  | 0 => ("AshLoans$Loan", "from", "I", false)
  | 1 => ("AshLoans$Loan", "to", "I", false)
  | 2 => ("AshLoans$Loan", "ash", "I", false)
  | 3 => ("AshLoans$Loan", "bushels", "I", false)
  | _ => ("AshLoans$Loan", "due", "I", false)
def tyX3 : Nat → FieldType := fun k => match k with
  | 0 => .int
  | 1 => .int
  | 2 => .int
  | 3 => .int
  | _ => .int
abbrev wsX30 : List Cond := u_ws RX3 TX3 5
theorem nmX3 : ∀ a, a < 5 → ∀ b, b < 5 → a ≠ b → (TX3 a).2.1 ≠ (TX3 b).2.1 := by decide +kernel
theorem tyX3_ok : ∀ k, k < 5 → parseFieldDescriptor (TX3 k).2.2.1 = some (tyX3 k) := by decide +kernel
abbrev cX3_init : ByteArray := prog_5_method_1_code
def yX3_init : MethodName := ⟨RX3, "<init>", "()V"⟩
abbrev cX3_copy : ByteArray := prog_5_method_2_code
def yX3_copy : MethodName := ⟨RX3, "copy", "(LAshLoans$Loan;)V"⟩
def RX4 : String := "AshLoans$Potter"
def TX4 : u_T := fun k => match k with
  | 0 => ("AshLoans$Potter", "bushels", "[I", true)
  | 1 => ("AshLoans$Potter", "pots", "I", false)
  | _ => ("AshLoans$Potter", "broken", "I", false)
def tyX4 : Nat → FieldType := fun k => match k with
  | 0 => .array .int
  | 1 => .int
  | _ => .int
abbrev wsX40 : List Cond := u_ws RX4 TX4 3
theorem nmX4 : ∀ a, a < 3 → ∀ b, b < 3 → a ≠ b → (TX4 a).2.1 ≠ (TX4 b).2.1 := by decide +kernel
theorem tyX4_ok : ∀ k, k < 3 → parseFieldDescriptor (TX4 k).2.2.1 = some (tyX4 k) := by decide +kernel
abbrev cX4_init : ByteArray := prog_6_method_1_code
def yX4_init : MethodName := ⟨RX4, "<init>", "()V"⟩
abbrev cX4_begin : ByteArray := prog_6_method_2_code
def yX4_begin : MethodName := ⟨RX4, "begin", "()V"⟩
abbrev cX4_copy : ByteArray := prog_6_method_3_code
def yX4_copy : MethodName := ⟨RX4, "copy", "(LAshLoans$Potter;)V"⟩
abbrev cX4_has : ByteArray := prog_6_method_4_code
def yX4_has : MethodName := ⟨RX4, "has", "(I)Z"⟩
abbrev cX4_burn : ByteArray := prog_6_method_5_code
def yX4_burn : MethodName := ⟨RX4, "burn", "(I)V"⟩
abbrev cX4_change : ByteArray := prog_6_method_6_code
def yX4_change : MethodName := ⟨RX4, "change", "(II)V"⟩
def RX5 : String := "AshLoans$Reader"
def TX5 : u_T := fun k => match k with
  | 0 => ("AshLoans$Reader", "bytes", "[I", true)
  | 1 => ("AshLoans$Reader", "code", "[I", true)
  | 2 => ("AshLoans$Reader", "length", "I", false)
  | 3 => ("AshLoans$Reader", "size", "I", false)
  | 4 => ("AshLoans$Reader", "use", "I", false)
  | _ => ("AshLoans$Reader", "place", "I", false)
def tyX5 : Nat → FieldType := fun k => match k with
  | 0 => .array .int
  | 1 => .array .int
  | 2 => .int
  | 3 => .int
  | 4 => .int
  | _ => .int
abbrev wsX50 : List Cond := u_ws RX5 TX5 6
theorem nmX5 : ∀ a, a < 6 → ∀ b, b < 6 → a ≠ b → (TX5 a).2.1 ≠ (TX5 b).2.1 := by decide +kernel
theorem tyX5_ok : ∀ k, k < 6 → parseFieldDescriptor (TX5 k).2.2.1 = some (tyX5 k) := by decide +kernel
abbrev cX5_init : ByteArray := prog_7_method_1_code
def yX5_init : MethodName := ⟨RX5, "<init>", "()V"⟩
abbrev cX5_reads : ByteArray := prog_7_method_2_code
def yX5_reads : MethodName := ⟨RX5, "reads", "([III)Z"⟩
abbrev cX5_readLevel : ByteArray := prog_7_method_3_code
def yX5_readLevel : MethodName := ⟨RX5, "readLevel", "(II)Z"⟩
abbrev cX5_readPart : ByteArray := prog_7_method_4_code
def yX5_readPart : MethodName := ⟨RX5, "readPart", "(I)Z"⟩
abbrev cX5_readNumber : ByteArray := prog_7_method_5_code
def yX5_readNumber : MethodName := ⟨RX5, "readNumber", "()Z"⟩
abbrev cX5_readName : ByteArray := prog_7_method_6_code
def yX5_readName : MethodName := ⟨RX5, "readName", "(I)Z"⟩
abbrev cX5_next : ByteArray := prog_7_method_7_code
def yX5_next : MethodName := ⟨RX5, "next", "()I"⟩
abbrev cX5_add : ByteArray := prog_7_method_8_code
def yX5_add : MethodName := ⟨RX5, "add", "(I)V"⟩
abbrev cX5_isDigit : ByteArray := prog_7_method_9_code
def yX5_isDigit : MethodName := ⟨RX5, "isDigit", "(I)Z"⟩
abbrev cX5_levelOf : ByteArray := prog_7_method_10_code
def yX5_levelOf : MethodName := ⟨RX5, "levelOf", "(I)I"⟩
def RX6 : String := "AshLoans$Sheet"
def TX6 : u_T := fun k => match k with
  | 0 => ("AshLoans$Sheet", "numbers", "[I", true)
  | 1 => ("AshLoans$Sheet", "bits", "I", false)
  | _ => ("AshLoans$Sheet", "size", "I", false)
def tyX6 : Nat → FieldType := fun k => match k with
  | 0 => .array .int
  | 1 => .int
  | _ => .int
abbrev wsX60 : List Cond := u_ws RX6 TX6 3
theorem nmX6 : ∀ a, a < 3 → ∀ b, b < 3 → a ≠ b → (TX6 a).2.1 ≠ (TX6 b).2.1 := by decide +kernel
theorem tyX6_ok : ∀ k, k < 3 → parseFieldDescriptor (TX6 k).2.2.1 = some (tyX6 k) := by decide +kernel
abbrev cX6_init : ByteArray := prog_8_method_1_code
def yX6_init : MethodName := ⟨RX6, "<init>", "()V"⟩
abbrev cX6_begin : ByteArray := prog_8_method_2_code
def yX6_begin : MethodName := ⟨RX6, "begin", "(II)V"⟩
abbrev cX6_isMissing : ByteArray := prog_8_method_3_code
def yX6_isMissing : MethodName := ⟨RX6, "isMissing", "()Z"⟩
abbrev cX6_holds : ByteArray := prog_8_method_4_code
def yX6_holds : MethodName := ⟨RX6, "holds", "(II)Z"⟩
abbrev cX6_write : ByteArray := prog_8_method_5_code
def yX6_write : MethodName := ⟨RX6, "write", "(II)V"⟩
def RX7 : String := "AshLoans$State"
def TX7 : u_T := fun k => match k with
  | 0 => ("AshLoans$State", "county", "LAshLoans$County;", true)
  | 1 => ("AshLoans$State", "laws", "[LAshLoans$Law;", true)
  | 2 => ("AshLoans$State", "tape", "[I", true)
  | 3 => ("AshLoans$State", "waiting", "[I", true)
  | 4 => ("AshLoans$State", "tapeCount", "I", false)
  | 5 => ("AshLoans$State", "waitingCount", "I", false)
  | _ => ("AshLoans$State", "z", "I", false)
def tyX7 : Nat → FieldType := fun k => match k with
  | 0 => .object "AshLoans$County"
  | 1 => .array (.object "AshLoans$Law")
  | 2 => .array .int
  | 3 => .array .int
  | 4 => .int
  | 5 => .int
  | _ => .int
abbrev wsX70 : List Cond := u_ws RX7 TX7 7
theorem nmX7 : ∀ a, a < 7 → ∀ b, b < 7 → a ≠ b → (TX7 a).2.1 ≠ (TX7 b).2.1 := by decide +kernel
theorem tyX7_ok : ∀ k, k < 7 → parseFieldDescriptor (TX7 k).2.2.1 = some (tyX7 k) := by decide +kernel
abbrev cX7_init : ByteArray := prog_9_method_1_code
def yX7_init : MethodName := ⟨RX7, "<init>", "()V"⟩
abbrev cX7_copy : ByteArray := prog_9_method_2_code
def yX7_copy : MethodName := ⟨RX7, "copy", "(LAshLoans$State;)V"⟩
def RX8 : String := "AshLoans$Voices"
def TX8 : u_T := fun k => match k with
  | 0 => ("AshLoans$Voices", "bodies", "[I", true)
  | 1 => ("AshLoans$Voices", "traced", "I", false)
  | 2 => ("AshLoans$Voices", "kind", "I", false)
  | 3 => ("AshLoans$Voices", "n", "I", false)
  | _ => ("AshLoans$Voices", "m", "I", false)
def tyX8 : Nat → FieldType := fun k => match k with
  | 0 => .array .int
  | 1 => .int
  | 2 => .int
  | 3 => .int
  | _ => .int
abbrev wsX80 : List Cond := u_ws RX8 TX8 5
theorem nmX8 : ∀ a, a < 5 → ∀ b, b < 5 → a ≠ b → (TX8 a).2.1 ≠ (TX8 b).2.1 := by decide +kernel
theorem tyX8_ok : ∀ k, k < 5 → parseFieldDescriptor (TX8 k).2.2.1 = some (tyX8 k) := by decide +kernel
abbrev cX8_init : ByteArray := prog_10_method_1_code
def yX8_init : MethodName := ⟨RX8, "<init>", "()V"⟩
abbrev cX8_speak : ByteArray := prog_10_method_2_code
def yX8_speak : MethodName := ⟨RX8, "speak", "(LAshLoans$Ash;III)I"⟩
abbrev cX8_own : ByteArray := prog_10_method_3_code
def yX8_own : MethodName := ⟨RX8, "own", "(III)I"⟩
abbrev cX8_above : ByteArray := prog_10_method_4_code
def yX8_above : MethodName := ⟨RX8, "above", "(IIII)I"⟩
abbrev cX8_from : ByteArray := prog_10_method_5_code
def yX8_from : MethodName := ⟨RX8, "from", "(IIII)I"⟩
abbrev cX8_speakBody : ByteArray := prog_10_method_6_code
def yX8_speakBody : MethodName := ⟨RX8, "speakBody", "(III)I"⟩
abbrev cX8_note : ByteArray := prog_10_method_7_code
def yX8_note : MethodName := ⟨RX8, "note", "(I)V"⟩
def RX9 : String := "AshLoans"
def TX9 : u_T := fun k => match k with
  | 0 => ("AshLoans", "now", "LAshLoans$State;", true)
  | 1 => ("AshLoans", "kept", "LAshLoans$State;", true)
  | 2 => ("AshLoans", "thought", "LAshLoans$County;", true)
  | 3 => ("AshLoans", "reader", "LAshLoans$Reader;", true)
  | 4 => ("AshLoans", "voices", "LAshLoans$Voices;", true)
  | 5 => ("AshLoans", "sheets", "[LAshLoans$Sheet;", true)
  | 6 => ("AshLoans", "errors", "[I", true)
  | 7 => ("AshLoans", "shades", "[I", true)
  | 8 => ("AshLoans", "limits", "[I", true)
  | _ => ("AshLoans", "images", "I", false)
def tyX9 : Nat → FieldType := fun k => match k with
  | 0 => .object "AshLoans$State"
  | 1 => .object "AshLoans$State"
  | 2 => .object "AshLoans$County"
  | 3 => .object "AshLoans$Reader"
  | 4 => .object "AshLoans$Voices"
  | 5 => .array (.object "AshLoans$Sheet")
  | 6 => .array .int
  | 7 => .array .int
  | 8 => .array .int
  | _ => .int
abbrev wsX90 : List Cond := u_ws RX9 TX9 10
theorem nmX9 : ∀ a, a < 10 → ∀ b, b < 10 → a ≠ b → (TX9 a).2.1 ≠ (TX9 b).2.1 := by decide +kernel
theorem tyX9_ok : ∀ k, k < 10 → parseFieldDescriptor (TX9 k).2.2.1 = some (tyX9 k) := by decide +kernel
abbrev cX9_init : ByteArray := prog_1_method_1_code
def yX9_init : MethodName := ⟨RX9, "<init>", "()V"⟩
abbrev cX9_ash : ByteArray := prog_1_method_2_code
def yX9_ash : MethodName := ⟨RX9, "ash", "(I)I"⟩
abbrev cX9_ofAsh : ByteArray := prog_1_method_3_code
def yX9_ofAsh : MethodName := ⟨RX9, "ofAsh", "(II)I"⟩
abbrev cX9_hedge : ByteArray := prog_1_method_4_code
def yX9_hedge : MethodName := ⟨RX9, "hedge", "(III)I"⟩
abbrev cX9_become : ByteArray := prog_1_method_5_code
def yX9_become : MethodName := ⟨RX9, "become", "(II)I"⟩
abbrev cX9_as : ByteArray := prog_1_method_6_code
def yX9_as : MethodName := ⟨RX9, "as", "(II)I"⟩
abbrev cX9_potter : ByteArray := prog_1_method_7_code
def yX9_potter : MethodName := ⟨RX9, "potter", "()I"⟩
abbrev cX9_ofPotter : ByteArray := prog_1_method_8_code
def yX9_ofPotter : MethodName := ⟨RX9, "ofPotter", "(II)I"⟩
abbrev cX9_store : ByteArray := prog_1_method_9_code
def yX9_store : MethodName := ⟨RX9, "store", "(III)I"⟩
abbrev cX9_stored : ByteArray := prog_1_method_10_code
def yX9_stored : MethodName := ⟨RX9, "stored", "(II)I"⟩
abbrev cX9_feed : ByteArray := prog_1_method_11_code
def yX9_feed : MethodName := ⟨RX9, "feed", "(JI)I"⟩
abbrev cX9_text : ByteArray := prog_1_method_12_code
def yX9_text : MethodName := ⟨RX9, "text", "(I)I"⟩
abbrev cX9_law : ByteArray := prog_1_method_13_code
def yX9_law : MethodName := ⟨RX9, "law", "(IIII)I"⟩
abbrev cX9_lend : ByteArray := prog_1_method_14_code
def yX9_lend : MethodName := ⟨RX9, "lend", "(IIIII)I"⟩
abbrev cX9_ofLoan : ByteArray := prog_1_method_15_code
def yX9_ofLoan : MethodName := ⟨RX9, "ofLoan", "(II)I"⟩
abbrev cX9_back : ByteArray := prog_1_method_16_code
def yX9_back : MethodName := ⟨RX9, "back", "(I)I"⟩
abbrev cX9_fire : ByteArray := prog_1_method_17_code
def yX9_fire : MethodName := ⟨RX9, "fire", "(III)I"⟩
abbrev cX9_days : ByteArray := prog_1_method_18_code
def yX9_days : MethodName := ⟨RX9, "days", "(I)I"⟩
abbrev cX9_loose : ByteArray := prog_1_method_19_code
def yX9_loose : MethodName := ⟨RX9, "loose", "(I)I"⟩
abbrev cX9_colour : ByteArray := prog_1_method_20_code
def yX9_colour : MethodName := ⟨RX9, "colour", "(II)I"⟩
abbrev cX9_then : ByteArray := prog_1_method_21_code
def yX9_then : MethodName := ⟨RX9, "then", "(III)I"⟩
abbrev cX9_breaks : ByteArray := prog_1_method_22_code
def yX9_breaks : MethodName := ⟨RX9, "breaks", "(I)I"⟩
abbrev cX9_recipe : ByteArray := prog_1_method_23_code
def yX9_recipe : MethodName := ⟨RX9, "recipe", "(III)I"⟩
abbrev cX9_heats : ByteArray := prog_1_method_24_code
def yX9_heats : MethodName := ⟨RX9, "heats", "(II)I"⟩
abbrev cX9_burnt : ByteArray := prog_1_method_25_code
def yX9_burnt : MethodName := ⟨RX9, "burnt", "(I)I"⟩
abbrev cX9_round : ByteArray := prog_1_method_26_code
def yX9_round : MethodName := ⟨RX9, "round", "()I"⟩
abbrev cX9_lender : ByteArray := prog_1_method_27_code
def yX9_lender : MethodName := ⟨RX9, "lender", "(IIII)I"⟩
abbrev cX9_odds : ByteArray := prog_1_method_28_code
def yX9_odds : MethodName := ⟨RX9, "odds", "(III)I"⟩
abbrev cX9_seed : ByteArray := prog_1_method_29_code
def yX9_seed : MethodName := ⟨RX9, "seed", "(I)I"⟩
abbrev cX9_voice : ByteArray := prog_1_method_30_code
def yX9_voice : MethodName := ⟨RX9, "voice", "(III)I"⟩
abbrev cX9_trace : ByteArray := prog_1_method_31_code
def yX9_trace : MethodName := ⟨RX9, "trace", "(I)I"⟩
abbrev cX9_sheet : ByteArray := prog_1_method_32_code
def yX9_sheet : MethodName := ⟨RX9, "sheet", "(III)I"⟩
abbrev cX9_put : ByteArray := prog_1_method_33_code
def yX9_put : MethodName := ⟨RX9, "put", "(III)I"⟩
abbrev cX9_move : ByteArray := prog_1_method_34_code
def yX9_move : MethodName := ⟨RX9, "move", "(IIIII)I"⟩
abbrev cX9_hedges : ByteArray := prog_1_method_35_code
def yX9_hedges : MethodName := ⟨RX9, "hedges", "(I)I"⟩
abbrev cX9_judge : ByteArray := prog_1_method_36_code
def yX9_judge : MethodName := ⟨RX9, "judge", "(I)I"⟩
abbrev cX9_image : ByteArray := prog_1_method_37_code
def yX9_image : MethodName := ⟨RX9, "image", "()I"⟩
abbrev cX9_restore : ByteArray := prog_1_method_38_code
def yX9_restore : MethodName := ⟨RX9, "restore", "()I"⟩
abbrev cX9_tell : ByteArray := prog_1_method_39_code
def yX9_tell : MethodName := ⟨RX9, "tell", "(I)I"⟩
abbrev cX9_check : ByteArray := prog_1_method_40_code
def yX9_check : MethodName := ⟨RX9, "check", "()I"⟩
abbrev cX9_count : ByteArray := prog_1_method_41_code
def yX9_count : MethodName := ⟨RX9, "count", "(I)I"⟩
abbrev cX9_told : ByteArray := prog_1_method_42_code
def yX9_told : MethodName := ⟨RX9, "told", "(I)I"⟩
abbrev cX9_fail : ByteArray := prog_1_method_43_code
def yX9_fail : MethodName := ⟨RX9, "fail", "(I)I"⟩
abbrev cX9_within : ByteArray := prog_1_method_44_code
def yX9_within : MethodName := ⟨RX9, "within", "(III)Z"⟩
abbrev cX9_held : ByteArray := prog_1_method_45_code
def yX9_held : MethodName := ⟨RX9, "held", "(II)I"⟩
abbrev cX9_isKindAndNumber : ByteArray := prog_1_method_46_code
def yX9_isKindAndNumber : MethodName := ⟨RX9, "isKindAndNumber", "(I)Z"⟩
abbrev cX9_isUse : ByteArray := prog_1_method_47_code
def yX9_isUse : MethodName := ⟨RX9, "isUse", "(I)Z"⟩
abbrev cX9_isHeat : ByteArray := prog_1_method_48_code
def yX9_isHeat : MethodName := ⟨RX9, "isHeat", "(I)Z"⟩
abbrev cX9_isColour : ByteArray := prog_1_method_49_code
def yX9_isColour : MethodName := ⟨RX9, "isColour", "(I)Z"⟩
abbrev cX9_isSheet : ByteArray := prog_1_method_50_code
def yX9_isSheet : MethodName := ⟨RX9, "isSheet", "(I)Z"⟩
abbrev cX9_isMix : ByteArray := prog_1_method_51_code
def yX9_isMix : MethodName := ⟨RX9, "isMix", "(I)Z"⟩
abbrev cX9_isUnder : ByteArray := prog_1_method_52_code
def yX9_isUnder : MethodName := ⟨RX9, "isUnder", "(II)Z"⟩
abbrev cX9_commonDivisor : ByteArray := prog_1_method_53_code
def yX9_commonDivisor : MethodName := ⟨RX9, "commonDivisor", "(II)I"⟩
abbrev cX9_draw : ByteArray := prog_1_method_54_code
def yX9_draw : MethodName := ⟨RX9, "draw", "()I"⟩
abbrev cX9_drawHedge : ByteArray := prog_1_method_55_code
def yX9_drawHedge : MethodName := ⟨RX9, "drawHedge", "()V"⟩
abbrev cX9_colourOfAsh : ByteArray := prog_1_method_56_code
def yX9_colourOfAsh : MethodName := ⟨RX9, "colourOfAsh", "(LAshLoans$Ash;I)I"⟩
abbrev cX9_restByTen : ByteArray := prog_1_method_57_code
def yX9_restByTen : MethodName := ⟨RX9, "restByTen", "(I)I"⟩
abbrev cX9_colourOfMix : ByteArray := prog_1_method_58_code
def yX9_colourOfMix : MethodName := ⟨RX9, "colourOfMix", "(II)I"⟩
abbrev cX9_heatsGiving : ByteArray := prog_1_method_59_code
def yX9_heatsGiving : MethodName := ⟨RX9, "heatsGiving", "(II)I"⟩
abbrev cX9_canHaveGiven : ByteArray := prog_1_method_60_code
def yX9_canHaveGiven : MethodName := ⟨RX9, "canHaveGiven", "(LAshLoans$Ash;LAshLoans$Sheet;)Z"⟩
abbrev cX9_prepareRecipes : ByteArray := prog_1_method_61_code
def yX9_prepareRecipes : MethodName := ⟨RX9, "prepareRecipes", "(LAshLoans$Potter;I)V"⟩
abbrev cX9_fewestFor : ByteArray := prog_1_method_62_code
def yX9_fewestFor : MethodName := ⟨RX9, "fewestFor", "(I)I"⟩
abbrev cX9_bushelsOfChoice : ByteArray := prog_1_method_63_code
def yX9_bushelsOfChoice : MethodName := ⟨RX9, "bushelsOfChoice", "(I)I"⟩
abbrev cX9_colourOfChoice : ByteArray := prog_1_method_64_code
def yX9_colourOfChoice : MethodName := ⟨RX9, "colourOfChoice", "(I)I"⟩
abbrev cX9_mixOfChoice : ByteArray := prog_1_method_65_code
def yX9_mixOfChoice : MethodName := ⟨RX9, "mixOfChoice", "(I)I"⟩
def RX10 : String := "AshLoansModel"
def TX10 : u_T := fun k => match k with
  | 0 => ("AshLoansModel", "now", "[I", true)
  | 1 => ("AshLoansModel", "kept", "[I", true)
  | 2 => ("AshLoansModel", "aside", "[I", true)
  | 3 => ("AshLoansModel", "images", "I", false)
  | 4 => ("AshLoansModel", "errors", "[I", true)
  | 5 => ("AshLoansModel", "NAMED", "[Ljava/lang/String;", true)
  | 6 => ("AshLoansModel", "at", "I", false)
  | 7 => ("AshLoansModel", "open", "I", false)
  | 8 => ("AshLoansModel", "use", "I", false)
  | 9 => ("AshLoansModel", "isWrong", "Z", false)
  | 10 => ("AshLoansModel", "code", "[I", true)
  | 11 => ("AshLoansModel", "coded", "I", false)
  | 12 => ("AshLoansModel", "named", "[I", true)
  | 13 => ("AshLoansModel", "pile", "[I", true)
  | 14 => ("AshLoansModel", "trace", "[I", true)
  | 15 => ("AshLoansModel", "traced", "I", false)
  | 16 => ("AshLoansModel", "kind", "I", false)
  | 17 => ("AshLoansModel", "number", "I", false)
  | 18 => ("AshLoansModel", "told", "I", false)
  | 19 => ("AshLoansModel", "widths", "[I", true)
  | 20 => ("AshLoansModel", "sizes", "[I", true)
  | 21 => ("AshLoansModel", "numbers", "[I", true)
  | _ => ("AshLoansModel", "carried", "[I", true)
def tyX10 : Nat → FieldType := fun k => match k with
  | 0 => .array .int
  | 1 => .array .int
  | 2 => .array .int
  | 3 => .int
  | 4 => .array .int
  | 5 => .array (.object "java/lang/String")
  | 6 => .int
  | 7 => .int
  | 8 => .int
  | 9 => .boolean
  | 10 => .array .int
  | 11 => .int
  | 12 => .array .int
  | 13 => .array .int
  | 14 => .array .int
  | 15 => .int
  | 16 => .int
  | 17 => .int
  | 18 => .int
  | 19 => .array .int
  | 20 => .array .int
  | 21 => .array .int
  | _ => .array .int
abbrev wsX100 : List Cond := u_ws RX10 TX10 23
theorem nmX10 : ∀ a, a < 23 → ∀ b, b < 23 → a ≠ b → (TX10 a).2.1 ≠ (TX10 b).2.1 := by decide +kernel
theorem tyX10_ok : ∀ k, k < 23 → parseFieldDescriptor (TX10 k).2.2.1 = some (tyX10 k) := by decide +kernel
abbrev cX10_init : ByteArray := prog_12_method_1_code
def yX10_init : MethodName := ⟨RX10, "<init>", "()V"⟩
abbrev cX10_finding : ByteArray := prog_12_method_2_code
def yX10_finding : MethodName := ⟨RX10, "finding", "(I)I"⟩
abbrev cX10_within : ByteArray := prog_12_method_3_code
def yX10_within : MethodName := ⟨RX10, "within", "(III)Z"⟩
abbrev cX10_held : ByteArray := prog_12_method_4_code
def yX10_held : MethodName := ⟨RX10, "held", "(III)I"⟩
abbrev cX10_copy : ByteArray := prog_12_method_5_code
def yX10_copy : MethodName := ⟨RX10, "copy", "([I[I)V"⟩
abbrev cX10_turn : ByteArray := prog_12_method_6_code
def yX10_turn : MethodName := ⟨RX10, "turn", "(II)I"⟩
abbrev cX10_putBack : ByteArray := prog_12_method_7_code
def yX10_putBack : MethodName := ⟨RX10, "putBack", "(I)I"⟩
abbrev cX10_feed : ByteArray := prog_12_method_8_code
def yX10_feed : MethodName := ⟨RX10, "feed", "(JI)I"⟩
abbrev cX10_here : ByteArray := prog_12_method_9_code
def yX10_here : MethodName := ⟨RX10, "here", "()I"⟩
abbrev cX10_takes : ByteArray := prog_12_method_10_code
def yX10_takes : MethodName := ⟨RX10, "takes", "(I)Z"⟩
abbrev cX10_codes : ByteArray := prog_12_method_11_code
def yX10_codes : MethodName := ⟨RX10, "codes", "(I)V"⟩
abbrev cX10_either : ByteArray := prog_12_method_12_code
def yX10_either : MethodName := ⟨RX10, "either", "()V"⟩
abbrev cX10_both : ByteArray := prog_12_method_13_code
def yX10_both : MethodName := ⟨RX10, "both", "()V"⟩
abbrev cX10_compared : ByteArray := prog_12_method_14_code
def yX10_compared : MethodName := ⟨RX10, "compared", "()V"⟩
abbrev cX10_sum : ByteArray := prog_12_method_15_code
def yX10_sum : MethodName := ⟨RX10, "sum", "()V"⟩
abbrev cX10_product : ByteArray := prog_12_method_16_code
def yX10_product : MethodName := ⟨RX10, "product", "()V"⟩
abbrev cX10_nameOf : ByteArray := prog_12_method_17_code
def yX10_nameOf : MethodName := ⟨RX10, "nameOf", "(I)I"⟩
abbrev cX10_one : ByteArray := prog_12_method_18_code
def yX10_one : MethodName := ⟨RX10, "one", "()V"⟩
abbrev cX10_text : ByteArray := prog_12_method_19_code
def yX10_text : MethodName := ⟨RX10, "text", "(I)I"⟩
abbrev cX10_done : ByteArray := prog_12_method_20_code
def yX10_done : MethodName := ⟨RX10, "done", "(III)I"⟩
abbrev cX10_worked : ByteArray := prog_12_method_21_code
def yX10_worked : MethodName := ⟨RX10, "worked", "(I)I"⟩
abbrev cX10_hasText : ByteArray := prog_12_method_22_code
def yX10_hasText : MethodName := ⟨RX10, "hasText", "(I)Z"⟩
abbrev cX10_given : ByteArray := prog_12_method_23_code
def yX10_given : MethodName := ⟨RX10, "given", "(IIII)I"⟩
abbrev cX10_law : ByteArray := prog_12_method_24_code
def yX10_law : MethodName := ⟨RX10, "law", "(IIII)I"⟩
abbrev cX10_isAsh : ByteArray := prog_12_method_25_code
def yX10_isAsh : MethodName := ⟨RX10, "isAsh", "(I)Z"⟩
abbrev cX10_isPotter : ByteArray := prog_12_method_26_code
def yX10_isPotter : MethodName := ⟨RX10, "isPotter", "(I)Z"⟩
abbrev cX10_isLoan : ByteArray := prog_12_method_27_code
def yX10_isLoan : MethodName := ⟨RX10, "isLoan", "(I)Z"⟩
abbrev cX10_isKindM : ByteArray := prog_12_method_28_code
def yX10_isKindM : MethodName := ⟨RX10, "isKindM", "(I)Z"⟩
abbrev cX10_isDigit : ByteArray := prog_12_method_29_code
def yX10_isDigit : MethodName := ⟨RX10, "isDigit", "(I)Z"⟩
abbrev cX10_ashAt : ByteArray := prog_12_method_30_code
def yX10_ashAt : MethodName := ⟨RX10, "ashAt", "(II)I"⟩
abbrev cX10_ashIs : ByteArray := prog_12_method_31_code
def yX10_ashIs : MethodName := ⟨RX10, "ashIs", "(II)I"⟩
abbrev cX10_potterAt : ByteArray := prog_12_method_32_code
def yX10_potterAt : MethodName := ⟨RX10, "potterAt", "(II)I"⟩
abbrev cX10_storeAt : ByteArray := prog_12_method_33_code
def yX10_storeAt : MethodName := ⟨RX10, "storeAt", "(II)I"⟩
abbrev cX10_loanAt : ByteArray := prog_12_method_34_code
def yX10_loanAt : MethodName := ⟨RX10, "loanAt", "(II)I"⟩
abbrev cX10_loanIs : ByteArray := prog_12_method_35_code
def yX10_loanIs : MethodName := ⟨RX10, "loanIs", "(II)I"⟩
abbrev cX10_ashComes : ByteArray := prog_12_method_36_code
def yX10_ashComes : MethodName := ⟨RX10, "ashComes", "(I)I"⟩
abbrev cX10_ash : ByteArray := prog_12_method_37_code
def yX10_ash : MethodName := ⟨RX10, "ash", "(I)I"⟩
abbrev cX10_allOf : ByteArray := prog_12_method_38_code
def yX10_allOf : MethodName := ⟨RX10, "allOf", "(I)I"⟩
abbrev cX10_ofAsh : ByteArray := prog_12_method_39_code
def yX10_ofAsh : MethodName := ⟨RX10, "ofAsh", "(II)I"⟩
abbrev cX10_hedge : ByteArray := prog_12_method_40_code
def yX10_hedge : MethodName := ⟨RX10, "hedge", "(III)I"⟩
abbrev cX10_become : ByteArray := prog_12_method_41_code
def yX10_become : MethodName := ⟨RX10, "become", "(II)I"⟩
abbrev cX10_above : ByteArray := prog_12_method_42_code
def yX10_above : MethodName := ⟨RX10, "above", "(I)I"⟩
abbrev cX10_isUnder : ByteArray := prog_12_method_43_code
def yX10_isUnder : MethodName := ⟨RX10, "isUnder", "(II)Z"⟩
abbrev cX10_as : ByteArray := prog_12_method_44_code
def yX10_as : MethodName := ⟨RX10, "as", "(II)I"⟩
abbrev cX10_potter : ByteArray := prog_12_method_45_code
def yX10_potter : MethodName := ⟨RX10, "potter", "()I"⟩
abbrev cX10_loansOf : ByteArray := prog_12_method_46_code
def yX10_loansOf : MethodName := ⟨RX10, "loansOf", "(II)I"⟩
abbrev cX10_ofPotter : ByteArray := prog_12_method_47_code
def yX10_ofPotter : MethodName := ⟨RX10, "ofPotter", "(II)I"⟩
abbrev cX10_store : ByteArray := prog_12_method_48_code
def yX10_store : MethodName := ⟨RX10, "store", "(III)I"⟩
abbrev cX10_stored : ByteArray := prog_12_method_49_code
def yX10_stored : MethodName := ⟨RX10, "stored", "(II)I"⟩
abbrev cX10_colourOf : ByteArray := prog_12_method_50_code
def yX10_colourOf : MethodName := ⟨RX10, "colourOf", "(II)I"⟩
abbrev cX10_rest : ByteArray := prog_12_method_51_code
def yX10_rest : MethodName := ⟨RX10, "rest", "(I)I"⟩
abbrev cX10_digit : ByteArray := prog_12_method_52_code
def yX10_digit : MethodName := ⟨RX10, "digit", "(II)I"⟩
abbrev cX10_isMix : ByteArray := prog_12_method_53_code
def yX10_isMix : MethodName := ⟨RX10, "isMix", "(I)Z"⟩
abbrev cX10_isForbidden : ByteArray := prog_12_method_54_code
def yX10_isForbidden : MethodName := ⟨RX10, "isForbidden", "(II)Z"⟩
abbrev cX10_mixColour : ByteArray := prog_12_method_55_code
def yX10_mixColour : MethodName := ⟨RX10, "mixColour", "(II)I"⟩
abbrev cX10_colour : ByteArray := prog_12_method_56_code
def yX10_colour : MethodName := ⟨RX10, "colour", "(II)I"⟩
abbrev cX10_hasAll : ByteArray := prog_12_method_57_code
def yX10_hasAll : MethodName := ⟨RX10, "hasAll", "(II)Z"⟩
abbrev cX10_firesNow : ByteArray := prog_12_method_58_code
def yX10_firesNow : MethodName := ⟨RX10, "firesNow", "(III)I"⟩
abbrev cX10_fire : ByteArray := prog_12_method_59_code
def yX10_fire : MethodName := ⟨RX10, "fire", "(III)I"⟩
abbrev cX10_lendNow : ByteArray := prog_12_method_60_code
def yX10_lendNow : MethodName := ⟨RX10, "lendNow", "(IIIII)I"⟩
abbrev cX10_canLend : ByteArray := prog_12_method_61_code
def yX10_canLend : MethodName := ⟨RX10, "canLend", "(IIII)Z"⟩
abbrev cX10_lend : ByteArray := prog_12_method_62_code
def yX10_lend : MethodName := ⟨RX10, "lend", "(IIIII)I"⟩
abbrev cX10_ofLoan : ByteArray := prog_12_method_63_code
def yX10_ofLoan : MethodName := ⟨RX10, "ofLoan", "(II)I"⟩
abbrev cX10_canGiveBack : ByteArray := prog_12_method_64_code
def yX10_canGiveBack : MethodName := ⟨RX10, "canGiveBack", "(I)Z"⟩
abbrev cX10_goes : ByteArray := prog_12_method_65_code
def yX10_goes : MethodName := ⟨RX10, "goes", "(I)V"⟩
abbrev cX10_givesBack : ByteArray := prog_12_method_66_code
def yX10_givesBack : MethodName := ⟨RX10, "givesBack", "(I)I"⟩
abbrev cX10_back : ByteArray := prog_12_method_67_code
def yX10_back : MethodName := ⟨RX10, "back", "(I)I"⟩
abbrev cX10_breaksOne : ByteArray := prog_12_method_68_code
def yX10_breaksOne : MethodName := ⟨RX10, "breaksOne", "(I)V"⟩
abbrev cX10_day : ByteArray := prog_12_method_69_code
def yX10_day : MethodName := ⟨RX10, "day", "()V"⟩
abbrev cX10_daysGo : ByteArray := prog_12_method_70_code
def yX10_daysGo : MethodName := ⟨RX10, "daysGo", "(I)V"⟩
abbrev cX10_days : ByteArray := prog_12_method_71_code
def yX10_days : MethodName := ⟨RX10, "days", "(I)I"⟩
abbrev cX10_drawn : ByteArray := prog_12_method_72_code
def yX10_drawn : MethodName := ⟨RX10, "drawn", "()I"⟩
abbrev cX10_loose : ByteArray := prog_12_method_73_code
def yX10_loose : MethodName := ⟨RX10, "loose", "(I)I"⟩
abbrev cX10_then : ByteArray := prog_12_method_74_code
def yX10_then : MethodName := ⟨RX10, "then", "(III)I"⟩
abbrev cX10_breaks : ByteArray := prog_12_method_75_code
def yX10_breaks : MethodName := ⟨RX10, "breaks", "(I)I"⟩
abbrev cX10_bushels : ByteArray := prog_12_method_76_code
def yX10_bushels : MethodName := ⟨RX10, "bushels", "(I)I"⟩
abbrev cX10_mixOf : ByteArray := prog_12_method_77_code
def yX10_mixOf : MethodName := ⟨RX10, "mixOf", "(I)I"⟩
abbrev cX10_recipe : ByteArray := prog_12_method_78_code
def yX10_recipe : MethodName := ⟨RX10, "recipe", "(III)I"⟩
abbrev cX10_heatsOf : ByteArray := prog_12_method_79_code
def yX10_heatsOf : MethodName := ⟨RX10, "heatsOf", "(II)I"⟩
abbrev cX10_heats : ByteArray := prog_12_method_80_code
def yX10_heats : MethodName := ⟨RX10, "heats", "(II)I"⟩
abbrev cX10_burnt : ByteArray := prog_12_method_81_code
def yX10_burnt : MethodName := ⟨RX10, "burnt", "(I)I"⟩
abbrev cX10_has : ByteArray := prog_12_method_82_code
def yX10_has : MethodName := ⟨RX10, "has", "(III)I"⟩
abbrev cX10_round : ByteArray := prog_12_method_83_code
def yX10_round : MethodName := ⟨RX10, "round", "()I"⟩
abbrev cX10_brokenAll : ByteArray := prog_12_method_84_code
def yX10_brokenAll : MethodName := ⟨RX10, "brokenAll", "()I"⟩
abbrev cX10_brokenIfLent : ByteArray := prog_12_method_85_code
def yX10_brokenIfLent : MethodName := ⟨RX10, "brokenIfLent", "(IIIII)I"⟩
abbrev cX10_lender : ByteArray := prog_12_method_86_code
def yX10_lender : MethodName := ⟨RX10, "lender", "(IIII)I"⟩
abbrev cX10_odds : ByteArray := prog_12_method_87_code
def yX10_odds : MethodName := ⟨RX10, "odds", "(III)I"⟩
abbrev cX10_seed : ByteArray := prog_12_method_88_code
def yX10_seed : MethodName := ⟨RX10, "seed", "(I)I"⟩
abbrev cX10_ran : ByteArray := prog_12_method_89_code
def yX10_ran : MethodName := ⟨RX10, "ran", "(I)V"⟩
abbrev cX10_burnsOf : ByteArray := prog_12_method_90_code
def yX10_burnsOf : MethodName := ⟨RX10, "burnsOf", "(I)I"⟩
abbrev cX10_meltsOf : ByteArray := prog_12_method_91_code
def yX10_meltsOf : MethodName := ⟨RX10, "meltsOf", "(I)I"⟩
abbrev cX10_runsOf : ByteArray := prog_12_method_92_code
def yX10_runsOf : MethodName := ⟨RX10, "runsOf", "(I)I"⟩
abbrev cX10_plainGlows : ByteArray := prog_12_method_93_code
def yX10_plainGlows : MethodName := ⟨RX10, "plainGlows", "(I)I"⟩
abbrev cX10_glowsOf : ByteArray := prog_12_method_94_code
def yX10_glowsOf : MethodName := ⟨RX10, "glowsOf", "(I)I"⟩
abbrev cX10_voice : ByteArray := prog_12_method_95_code
def yX10_voice : MethodName := ⟨RX10, "voice", "(III)I"⟩
abbrev cX10_trace : ByteArray := prog_12_method_96_code
def yX10_trace : MethodName := ⟨RX10, "trace", "(I)I"⟩
abbrev cX10_isSheet : ByteArray := prog_12_method_97_code
def yX10_isSheet : MethodName := ⟨RX10, "isSheet", "(I)Z"⟩
abbrev cX10_sheet : ByteArray := prog_12_method_98_code
def yX10_sheet : MethodName := ⟨RX10, "sheet", "(III)I"⟩
abbrev cX10_put : ByteArray := prog_12_method_99_code
def yX10_put : MethodName := ⟨RX10, "put", "(III)I"⟩
abbrev cX10_move : ByteArray := prog_12_method_100_code
def yX10_move : MethodName := ⟨RX10, "move", "(IIIII)I"⟩
abbrev cX10_hedges : ByteArray := prog_12_method_101_code
def yX10_hedges : MethodName := ⟨RX10, "hedges", "(I)I"⟩
abbrev cX10_judge : ByteArray := prog_12_method_102_code
def yX10_judge : MethodName := ⟨RX10, "judge", "(I)I"⟩
abbrev cX10_image : ByteArray := prog_12_method_103_code
def yX10_image : MethodName := ⟨RX10, "image", "()I"⟩
abbrev cX10_restore : ByteArray := prog_12_method_104_code
def yX10_restore : MethodName := ⟨RX10, "restore", "()I"⟩
abbrev cX10_tell : ByteArray := prog_12_method_105_code
def yX10_tell : MethodName := ⟨RX10, "tell", "(I)I"⟩
abbrev cX10_check : ByteArray := prog_12_method_106_code
def yX10_check : MethodName := ⟨RX10, "check", "()I"⟩
abbrev cX10_potsAll : ByteArray := prog_12_method_107_code
def yX10_potsAll : MethodName := ⟨RX10, "potsAll", "()I"⟩
abbrev cX10_count : ByteArray := prog_12_method_108_code
def yX10_count : MethodName := ⟨RX10, "count", "(I)I"⟩
abbrev cX10_told : ByteArray := prog_12_method_109_code
def yX10_told : MethodName := ⟨RX10, "told", "(I)I"⟩
def RJ6 : String := "java/lang/Integer"
def TJ6 : u_T := fun k => match k with
  | _ => ("", "", "", false)
def tyJ6 : Nat → FieldType := fun k => match k with
  | _ => .int
abbrev wsJ60 : List Cond := u_ws RJ6 TJ6 0
theorem nmJ6 : ∀ a, a < 0 → ∀ b, b < 0 → a ≠ b → (TJ6 a).2.1 ≠ (TJ6 b).2.1 := by decide +kernel
theorem tyJ6_ok : ∀ k, k < 0 → parseFieldDescriptor (TJ6 k).2.2.1 = some (tyJ6 k) := by decide +kernel
abbrev cJ6_bitCount_0f7a4 : ByteArray := prog_13_method_49_code
def yJ6_bitCount_0f7a4 : MethodName := ⟨RJ6, "bitCount", "(I)I"⟩
def RJ9 : String := "java/lang/Math"
def TJ9 : u_T := fun k => match k with
  | _ => ("", "", "", false)
def tyJ9 : Nat → FieldType := fun k => match k with
  | _ => .int
abbrev wsJ90 : List Cond := u_ws RJ9 TJ9 0
theorem nmJ9 : ∀ a, a < 0 → ∀ b, b < 0 → a ≠ b → (TJ9 a).2.1 ≠ (TJ9 b).2.1 := by decide +kernel
theorem tyJ9_ok : ∀ k, k < 0 → parseFieldDescriptor (TJ9 k).2.2.1 = some (tyJ9 k) := by decide +kernel
abbrev cJ9_max_7cf53 : ByteArray := prog_14_method_65_code
def yJ9_max_7cf53 : MethodName := ⟨RJ9, "max", "(II)I"⟩
abbrev cJ9_min_7cf53 : ByteArray := prog_14_method_69_code
def yJ9_min_7cf53 : MethodName := ⟨RJ9, "min", "(II)I"⟩
def RJ0 : String := "java/lang/String"
def TJ0 : u_T := fun k => match k with
  | _ => ("", "", "", false)
def tyJ0 : Nat → FieldType := fun k => match k with
  | _ => .int
abbrev wsJ00 : List Cond := u_ws RJ0 TJ0 0
theorem nmJ0 : ∀ a, a < 0 → ∀ b, b < 0 → a ≠ b → (TJ0 a).2.1 ≠ (TJ0 b).2.1 := by decide +kernel
theorem tyJ0_ok : ∀ k, k < 0 → parseFieldDescriptor (TJ0 k).2.2.1 = some (tyJ0 k) := by decide +kernel
abbrev cJ0_length_8abf5 : ByteArray := prog_15_method_54_code
def yJ0_length_8abf5 : MethodName := ⟨RJ0, "length", "()I"⟩
abbrev cJ0_charAt_5068e : ByteArray := prog_15_method_56_code
def yJ0_charAt_5068e : MethodName := ⟨RJ0, "charAt", "(I)C"⟩
abbrev cJ0_coder_7d493 : ByteArray := prog_15_method_152_code
def yJ0_coder_7d493 : MethodName := ⟨RJ0, "coder", "()B"⟩
abbrev cJ0_isLatin1_aae02 : ByteArray := prog_15_method_154_code
def yJ0_isLatin1_aae02 : MethodName := ⟨RJ0, "isLatin1", "()Z"⟩
abbrev cJ0_checkIndex_df160 : ByteArray := prog_15_method_155_code
def yJ0_checkIndex_df160 : MethodName := ⟨RJ0, "checkIndex", "(II)V"⟩
def RJ1 : String := "java/lang/StringLatin1"
def TJ1 : u_T := fun k => match k with
  | _ => ("", "", "", false)
def tyJ1 : Nat → FieldType := fun k => match k with
  | _ => .int
abbrev wsJ10 : List Cond := u_ws RJ1 TJ1 0
theorem nmJ1 : ∀ a, a < 0 → ∀ b, b < 0 → a ≠ b → (TJ1 a).2.1 ≠ (TJ1 b).2.1 := by decide +kernel
theorem tyJ1_ok : ∀ k, k < 0 → parseFieldDescriptor (TJ1 k).2.2.1 = some (tyJ1 k) := by decide +kernel
abbrev cJ1_charAt_3b067 : ByteArray := prog_16_method_2_code
def yJ1_charAt_3b067 : MethodName := ⟨RJ1, "charAt", "([BI)C"⟩
def RJ2 : String := "java/lang/StringUTF16"
def TJ2 : u_T := fun k => match k with
  | _ => ("", "", "", false)
def tyJ2 : Nat → FieldType := fun k => match k with
  | _ => .int
abbrev wsJ20 : List Cond := u_ws RJ2 TJ2 0
theorem nmJ2 : ∀ a, a < 0 → ∀ b, b < 0 → a ≠ b → (TJ2 a).2.1 ≠ (TJ2 b).2.1 := by decide +kernel
theorem tyJ2_ok : ∀ k, k < 0 → parseFieldDescriptor (TJ2 k).2.2.1 = some (tyJ2 k) := by decide +kernel
abbrev cJ2_getChar_3b067 : ByteArray := prog_17_method_5_code
def yJ2_getChar_3b067 : MethodName := ⟨RJ2, "getChar", "([BI)C"⟩
abbrev cJ2_length_9d52b : ByteArray := prog_17_method_6_code
def yJ2_length_9d52b : MethodName := ⟨RJ2, "length", "([B)I"⟩
abbrev cJ2_charAt_3b067 : ByteArray := prog_17_method_83_code
def yJ2_charAt_3b067 : MethodName := ⟨RJ2, "charAt", "([BI)C"⟩
abbrev cJ2_checkIndex_2214a : ByteArray := prog_17_method_91_code
def yJ2_checkIndex_2214a : MethodName := ⟨RJ2, "checkIndex", "(I[B)V"⟩
def RJ10 : String := "java/lang/System"
def TJ10 : u_T := fun k => match k with
  | _ => ("", "", "", false)
def tyJ10 : Nat → FieldType := fun k => match k with
  | _ => .int
abbrev wsJ100 : List Cond := u_ws RJ10 TJ10 0
theorem nmJ10 : ∀ a, a < 0 → ∀ b, b < 0 → a ≠ b → (TJ10 a).2.1 ≠ (TJ10 b).2.1 := by decide +kernel
theorem tyJ10_ok : ∀ k, k < 0 → parseFieldDescriptor (TJ10 k).2.2.1 = some (tyJ10 k) := by decide +kernel
def RJ3 : String := "jdk/internal/util/Preconditions"
def TJ3 : u_T := fun k => match k with
  | _ => ("", "", "", false)
def tyJ3 : Nat → FieldType := fun k => match k with
  | _ => .int
abbrev wsJ30 : List Cond := u_ws RJ3 TJ3 0
theorem nmJ3 : ∀ a, a < 0 → ∀ b, b < 0 → a ≠ b → (TJ3 a).2.1 ≠ (TJ3 b).2.1 := by decide +kernel
theorem tyJ3_ok : ∀ k, k < 0 → parseFieldDescriptor (TJ3 k).2.2.1 = some (tyJ3 k) := by decide +kernel
abbrev cJ3_checkIndex_8e157 : ByteArray := prog_19_method_11_code
def yJ3_checkIndex_8e157 : MethodName := ⟨RJ3, "checkIndex", "(IILjava/util/function/BiFunction;)I"⟩
def RL : String := "AshLoansLaw"
abbrev cL_law : ByteArray := code
def yL_law : MethodName := ⟨RL, "law", "([I)Z"⟩
abbrev vwCl : List vw_C := [(RX0, TX0, 4), (RX1, TX1, 7), (RX2, TX2, 4), (RX3, TX3, 5), (RX4, TX4, 3), (RX5, TX5, 6), (RX6, TX6, 3), (RX7, TX7, 7), (RX8, TX8, 5), (RX9, TX9, 10), (RX10, TX10, 23)]
end
section
/-! the world of class and reference: a cell is named by (kind, which, place); M holds its numbers, and which row of a county's loans stands at which place -/
abbrev za_L : Type := Nat × Nat × Nat
abbrev za_M : Type := (za_L → Nat → Int32) × (Nat → Nat → Nat)
/-- kind j: how many of them, and how many places each -/
def za_kinds : List (Nat × Nat × Nat) := [(0,1,1),(1,2,1),(2,3,1),(3,3,5),(4,3,4),(5,3,10),(6,2,2),(7,1,1),(8,1,1),(9,1,4),(10,3,1),(11,3,1),(12,3,1),(13,3,4),(14,2,1),(15,2,1),(16,2,1),(17,2,2),(18,2,2),(19,1,1),(20,1,1),(21,1,1),(22,1,1),(23,1,4),(24,1,1),(25,1,1),(26,1,1),(27,1,1),(28,1,1),(29,1,1),(30,1,1),(31,1,1),(32,1,1),(33,1,1),(34,1,1),(35,1,1),(36,1,1),(37,1,1),(38,1,1),(39,1,1),(40,1,1)]
def za_cells : List za_L := za_kinds.flatMap fun q => (List.range q.2.1).flatMap fun c => (List.range q.2.2).map fun i => (q.1, c, i)
theorem za_mem {j k a b c i : Nat} (h : za_kinds[j]? = some (k, a, b)) (hc : c < a) (hi : i < b) : (k, c, i) ∈ za_cells := by
  unfold za_cells
  refine List.mem_flatMap.mpr ⟨(k, a, b), List.mem_of_getElem? h, List.mem_flatMap.mpr ⟨c, List.mem_range.mpr hc, List.mem_map.mpr ⟨i, List.mem_range.mpr hi, rfl⟩⟩⟩
theorem za_cells_len : za_cells.length = 133 := by decide +kernel
theorem za_inj0 : ∀ i, i < 133 → ∀ j, j < 133 → za_cells[i]? = za_cells[j]? → i = j := by decide +kernel
theorem za_inj {i j : Nat} {x : za_L} (hi : za_cells[i]? = some x) (hj : za_cells[j]? = some x) : i = j := by
  have h1 := (List.getElem?_eq_some_iff.mp hi).1
  have h2 := (List.getElem?_eq_some_iff.mp hj).1
  rw [za_cells_len] at h1 h2
  exact za_inj0 i h1 j h2 (hi.trans hj.symm)
/-- what a cell holds: f its numbers, P its county's rows of loans -/
def za_E0 (g : za_L → Nat) (cy : Nat → ClassId) (f : Nat → Int32) (P : Nat → Nat) (x : za_L) : va_E :=
  match x.1 with
  | 0 => .inr (9, [.ref (g (1, 0, 0)), .ref (g (1, 1, 0)), .ref (g (2, 2, 0)), .ref (g (7, 0, 0)), .ref (g (8, 0, 0)), .ref (g (22, 0, 0)), .ref (g (24, 0, 0)), .ref (g (25, 0, 0)), .ref (g (26, 0, 0)), .int (f 9)])
  | 1 => .inr (7, [.ref (g (2, x.2.1, 0)), .ref (g (14, x.2.1, 0)), .ref (g (15, x.2.1, 0)), .ref (g (16, x.2.1, 0)), .int (f 4), .int (f 5), .int (f 6)])
  | 2 => .inr (1, [.ref (g (10, x.2.1, 0)), .ref (g (11, x.2.1, 0)), .ref (g (12, x.2.1, 0)), .int (f 3), .int (f 4), .int (f 5), .int (f 6)])
  | 3 => .inr (0, [.int (f 0), .int (f 1), .int (f 2), .int (f 3)])
  | 4 => .inr (4, [.ref (g (13, x.2.1, x.2.2)), .int (f 1), .int (f 2)])
  | 5 => .inr (3, [.int (f 0), .int (f 1), .int (f 2), .int (f 3), .int (f 4)])
  | 6 => .inr (2, [.int (f 0), .ref (g (17, x.2.1, x.2.2)), .ref (g (18, x.2.1, x.2.2)), .int (f 3)])
  | 7 => .inr (5, [.ref (g (19, 0, 0)), .ref (g (20, 0, 0)), .int (f 2), .int (f 3), .int (f 4), .int (f 5)])
  | 8 => .inr (8, [.ref (g (21, 0, 0)), .int (f 1), .int (f 2), .int (f 3), .int (f 4)])
  | 9 => .inr (6, [.ref (g (23, 0, x.2.2)), .int (f 1), .int (f 2)])
  | 10 => .inl (cy 1, 5, .inr (.inr (.inr (.inr (fun j => some (g (3, x.2.1, j)))))))
  | 11 => .inl (cy 2, 4, .inr (.inr (.inr (.inr (fun j => some (g (4, x.2.1, j)))))))
  | 12 => .inl (cy 3, 10, .inr (.inr (.inr (.inr (fun j => some (g (5, x.2.1, P j % 10)))))))
  | 13 => .inl (cy 0, 5, .inl f)
  | 14 => .inl (cy 4, 2, .inr (.inr (.inr (.inr (fun j => some (g (6, x.2.1, j)))))))
  | 15 => .inl (cy 0, 50, .inl f)
  | 16 => .inl (cy 0, 20, .inl f)
  | 17 => .inl (cy 0, 50, .inl f)
  | 18 => .inl (cy 0, 50, .inl f)
  | 19 => .inl (cy 0, 50, .inl f)
  | 20 => .inl (cy 0, 50, .inl f)
  | 21 => .inl (cy 0, 40, .inl f)
  | 22 => .inl (cy 5, 4, .inr (.inr (.inr (.inr (fun j => some (g (9, 0, j)))))))
  | 23 => .inl (cy 0, 40, .inl f)
  | 24 => .inl (cy 0, 6, .inl f)
  | 25 => .inl (cy 0, 5, .inl f)
  | 26 => .inl (cy 0, 5, .inl f)
  | 27 => .inr (10, [.ref (g (28, 0, 0)), .ref (g (29, 0, 0)), .ref (g (30, 0, 0)), .int (f 3), .ref (g (31, 0, 0)), .ref (g (32, 0, 0)), .int (f 6), .int (f 7), .int (f 8), .int (f 9), .ref (g (33, 0, 0)), .int (f 11), .ref (g (34, 0, 0)), .ref (g (35, 0, 0)), .ref (g (36, 0, 0)), .int (f 15), .int (f 16), .int (f 17), .int (f 18), .ref (g (37, 0, 0)), .ref (g (38, 0, 0)), .ref (g (39, 0, 0)), .ref (g (40, 0, 0))])
  | 28 => .inl (cy 0, 279, .inl f)
  | 29 => .inl (cy 0, 279, .inl f)
  | 30 => .inl (cy 0, 279, .inl f)
  | 31 => .inl (cy 0, 6, .inl f)
  | 32 => .inl (cy 6, 2, .inr (.inr (.inr (.inr (fun j => some (g (41, 0, j)))))))
  | 33 => .inl (cy 0, 60, .inl f)
  | 34 => .inl (cy 0, 4, .inl f)
  | 35 => .inl (cy 0, 60, .inl f)
  | 36 => .inl (cy 0, 40, .inl f)
  | 37 => .inl (cy 0, 4, .inl f)
  | 38 => .inl (cy 0, 4, .inl f)
  | 39 => .inl (cy 0, 160, .inl f)
  | 40 => .inl (cy 0, 40, .inl f)
  | _ => .inr (0, [])
def za_E (g : za_L → Nat) (cy : Nat → ClassId) (M : za_M) (x : za_L) : va_E := za_E0 g cy (M.1 x) (M.2 x.2.1) x
theorem za_E_0 (g : za_L → Nat) (cy : Nat → ClassId) (M : za_M) (c i : Nat) : za_E g cy M (0, c, i) = .inr (9, [.ref (g (1, 0, 0)), .ref (g (1, 1, 0)), .ref (g (2, 2, 0)), .ref (g (7, 0, 0)), .ref (g (8, 0, 0)), .ref (g (22, 0, 0)), .ref (g (24, 0, 0)), .ref (g (25, 0, 0)), .ref (g (26, 0, 0)), .int (M.1 (0, c, i) 9)]) := rfl
theorem za_E_1 (g : za_L → Nat) (cy : Nat → ClassId) (M : za_M) (c i : Nat) : za_E g cy M (1, c, i) = .inr (7, [.ref (g (2, c, 0)), .ref (g (14, c, 0)), .ref (g (15, c, 0)), .ref (g (16, c, 0)), .int (M.1 (1, c, i) 4), .int (M.1 (1, c, i) 5), .int (M.1 (1, c, i) 6)]) := rfl
theorem za_E_2 (g : za_L → Nat) (cy : Nat → ClassId) (M : za_M) (c i : Nat) : za_E g cy M (2, c, i) = .inr (1, [.ref (g (10, c, 0)), .ref (g (11, c, 0)), .ref (g (12, c, 0)), .int (M.1 (2, c, i) 3), .int (M.1 (2, c, i) 4), .int (M.1 (2, c, i) 5), .int (M.1 (2, c, i) 6)]) := rfl
theorem za_E_3 (g : za_L → Nat) (cy : Nat → ClassId) (M : za_M) (c i : Nat) : za_E g cy M (3, c, i) = .inr (0, [.int (M.1 (3, c, i) 0), .int (M.1 (3, c, i) 1), .int (M.1 (3, c, i) 2), .int (M.1 (3, c, i) 3)]) := rfl
theorem za_E_4 (g : za_L → Nat) (cy : Nat → ClassId) (M : za_M) (c i : Nat) : za_E g cy M (4, c, i) = .inr (4, [.ref (g (13, c, i)), .int (M.1 (4, c, i) 1), .int (M.1 (4, c, i) 2)]) := rfl
theorem za_E_5 (g : za_L → Nat) (cy : Nat → ClassId) (M : za_M) (c i : Nat) : za_E g cy M (5, c, i) = .inr (3, [.int (M.1 (5, c, i) 0), .int (M.1 (5, c, i) 1), .int (M.1 (5, c, i) 2), .int (M.1 (5, c, i) 3), .int (M.1 (5, c, i) 4)]) := rfl
theorem za_E_6 (g : za_L → Nat) (cy : Nat → ClassId) (M : za_M) (c i : Nat) : za_E g cy M (6, c, i) = .inr (2, [.int (M.1 (6, c, i) 0), .ref (g (17, c, i)), .ref (g (18, c, i)), .int (M.1 (6, c, i) 3)]) := rfl
theorem za_E_7 (g : za_L → Nat) (cy : Nat → ClassId) (M : za_M) (c i : Nat) : za_E g cy M (7, c, i) = .inr (5, [.ref (g (19, 0, 0)), .ref (g (20, 0, 0)), .int (M.1 (7, c, i) 2), .int (M.1 (7, c, i) 3), .int (M.1 (7, c, i) 4), .int (M.1 (7, c, i) 5)]) := rfl
theorem za_E_8 (g : za_L → Nat) (cy : Nat → ClassId) (M : za_M) (c i : Nat) : za_E g cy M (8, c, i) = .inr (8, [.ref (g (21, 0, 0)), .int (M.1 (8, c, i) 1), .int (M.1 (8, c, i) 2), .int (M.1 (8, c, i) 3), .int (M.1 (8, c, i) 4)]) := rfl
theorem za_E_9 (g : za_L → Nat) (cy : Nat → ClassId) (M : za_M) (c i : Nat) : za_E g cy M (9, c, i) = .inr (6, [.ref (g (23, 0, i)), .int (M.1 (9, c, i) 1), .int (M.1 (9, c, i) 2)]) := rfl
theorem za_E_10 (g : za_L → Nat) (cy : Nat → ClassId) (M : za_M) (c i : Nat) : za_E g cy M (10, c, i) = .inl (cy 1, 5, .inr (.inr (.inr (.inr (fun j => some (g (3, c, j))))))) := rfl
theorem za_E_11 (g : za_L → Nat) (cy : Nat → ClassId) (M : za_M) (c i : Nat) : za_E g cy M (11, c, i) = .inl (cy 2, 4, .inr (.inr (.inr (.inr (fun j => some (g (4, c, j))))))) := rfl
theorem za_E_12 (g : za_L → Nat) (cy : Nat → ClassId) (M : za_M) (c i : Nat) : za_E g cy M (12, c, i) = .inl (cy 3, 10, .inr (.inr (.inr (.inr (fun j => some (g (5, c, M.2 c j % 10))))))) := rfl
theorem za_E_13 (g : za_L → Nat) (cy : Nat → ClassId) (M : za_M) (c i : Nat) : za_E g cy M (13, c, i) = .inl (cy 0, 5, .inl (M.1 (13, c, i))) := rfl
theorem za_E_14 (g : za_L → Nat) (cy : Nat → ClassId) (M : za_M) (c i : Nat) : za_E g cy M (14, c, i) = .inl (cy 4, 2, .inr (.inr (.inr (.inr (fun j => some (g (6, c, j))))))) := rfl
theorem za_E_15 (g : za_L → Nat) (cy : Nat → ClassId) (M : za_M) (c i : Nat) : za_E g cy M (15, c, i) = .inl (cy 0, 50, .inl (M.1 (15, c, i))) := rfl
theorem za_E_16 (g : za_L → Nat) (cy : Nat → ClassId) (M : za_M) (c i : Nat) : za_E g cy M (16, c, i) = .inl (cy 0, 20, .inl (M.1 (16, c, i))) := rfl
theorem za_E_17 (g : za_L → Nat) (cy : Nat → ClassId) (M : za_M) (c i : Nat) : za_E g cy M (17, c, i) = .inl (cy 0, 50, .inl (M.1 (17, c, i))) := rfl
theorem za_E_18 (g : za_L → Nat) (cy : Nat → ClassId) (M : za_M) (c i : Nat) : za_E g cy M (18, c, i) = .inl (cy 0, 50, .inl (M.1 (18, c, i))) := rfl
theorem za_E_19 (g : za_L → Nat) (cy : Nat → ClassId) (M : za_M) (c i : Nat) : za_E g cy M (19, c, i) = .inl (cy 0, 50, .inl (M.1 (19, c, i))) := rfl
theorem za_E_20 (g : za_L → Nat) (cy : Nat → ClassId) (M : za_M) (c i : Nat) : za_E g cy M (20, c, i) = .inl (cy 0, 50, .inl (M.1 (20, c, i))) := rfl
theorem za_E_21 (g : za_L → Nat) (cy : Nat → ClassId) (M : za_M) (c i : Nat) : za_E g cy M (21, c, i) = .inl (cy 0, 40, .inl (M.1 (21, c, i))) := rfl
theorem za_E_22 (g : za_L → Nat) (cy : Nat → ClassId) (M : za_M) (c i : Nat) : za_E g cy M (22, c, i) = .inl (cy 5, 4, .inr (.inr (.inr (.inr (fun j => some (g (9, 0, j))))))) := rfl
theorem za_E_23 (g : za_L → Nat) (cy : Nat → ClassId) (M : za_M) (c i : Nat) : za_E g cy M (23, c, i) = .inl (cy 0, 40, .inl (M.1 (23, c, i))) := rfl
theorem za_E_24 (g : za_L → Nat) (cy : Nat → ClassId) (M : za_M) (c i : Nat) : za_E g cy M (24, c, i) = .inl (cy 0, 6, .inl (M.1 (24, c, i))) := rfl
theorem za_E_25 (g : za_L → Nat) (cy : Nat → ClassId) (M : za_M) (c i : Nat) : za_E g cy M (25, c, i) = .inl (cy 0, 5, .inl (M.1 (25, c, i))) := rfl
theorem za_E_26 (g : za_L → Nat) (cy : Nat → ClassId) (M : za_M) (c i : Nat) : za_E g cy M (26, c, i) = .inl (cy 0, 5, .inl (M.1 (26, c, i))) := rfl
theorem za_E_27 (g : za_L → Nat) (cy : Nat → ClassId) (M : za_M) (c i : Nat) : za_E g cy M (27, c, i) = .inr (10, [.ref (g (28, 0, 0)), .ref (g (29, 0, 0)), .ref (g (30, 0, 0)), .int (M.1 (27, c, i) 3), .ref (g (31, 0, 0)), .ref (g (32, 0, 0)), .int (M.1 (27, c, i) 6), .int (M.1 (27, c, i) 7), .int (M.1 (27, c, i) 8), .int (M.1 (27, c, i) 9), .ref (g (33, 0, 0)), .int (M.1 (27, c, i) 11), .ref (g (34, 0, 0)), .ref (g (35, 0, 0)), .ref (g (36, 0, 0)), .int (M.1 (27, c, i) 15), .int (M.1 (27, c, i) 16), .int (M.1 (27, c, i) 17), .int (M.1 (27, c, i) 18), .ref (g (37, 0, 0)), .ref (g (38, 0, 0)), .ref (g (39, 0, 0)), .ref (g (40, 0, 0))]) := rfl
theorem za_E_28 (g : za_L → Nat) (cy : Nat → ClassId) (M : za_M) (c i : Nat) : za_E g cy M (28, c, i) = .inl (cy 0, 279, .inl (M.1 (28, c, i))) := rfl
theorem za_E_29 (g : za_L → Nat) (cy : Nat → ClassId) (M : za_M) (c i : Nat) : za_E g cy M (29, c, i) = .inl (cy 0, 279, .inl (M.1 (29, c, i))) := rfl
theorem za_E_30 (g : za_L → Nat) (cy : Nat → ClassId) (M : za_M) (c i : Nat) : za_E g cy M (30, c, i) = .inl (cy 0, 279, .inl (M.1 (30, c, i))) := rfl
theorem za_E_31 (g : za_L → Nat) (cy : Nat → ClassId) (M : za_M) (c i : Nat) : za_E g cy M (31, c, i) = .inl (cy 0, 6, .inl (M.1 (31, c, i))) := rfl
theorem za_E_32 (g : za_L → Nat) (cy : Nat → ClassId) (M : za_M) (c i : Nat) : za_E g cy M (32, c, i) = .inl (cy 6, 2, .inr (.inr (.inr (.inr (fun j => some (g (41, 0, j))))))) := rfl
theorem za_E_33 (g : za_L → Nat) (cy : Nat → ClassId) (M : za_M) (c i : Nat) : za_E g cy M (33, c, i) = .inl (cy 0, 60, .inl (M.1 (33, c, i))) := rfl
theorem za_E_34 (g : za_L → Nat) (cy : Nat → ClassId) (M : za_M) (c i : Nat) : za_E g cy M (34, c, i) = .inl (cy 0, 4, .inl (M.1 (34, c, i))) := rfl
theorem za_E_35 (g : za_L → Nat) (cy : Nat → ClassId) (M : za_M) (c i : Nat) : za_E g cy M (35, c, i) = .inl (cy 0, 60, .inl (M.1 (35, c, i))) := rfl
theorem za_E_36 (g : za_L → Nat) (cy : Nat → ClassId) (M : za_M) (c i : Nat) : za_E g cy M (36, c, i) = .inl (cy 0, 40, .inl (M.1 (36, c, i))) := rfl
theorem za_E_37 (g : za_L → Nat) (cy : Nat → ClassId) (M : za_M) (c i : Nat) : za_E g cy M (37, c, i) = .inl (cy 0, 4, .inl (M.1 (37, c, i))) := rfl
theorem za_E_38 (g : za_L → Nat) (cy : Nat → ClassId) (M : za_M) (c i : Nat) : za_E g cy M (38, c, i) = .inl (cy 0, 4, .inl (M.1 (38, c, i))) := rfl
theorem za_E_39 (g : za_L → Nat) (cy : Nat → ClassId) (M : za_M) (c i : Nat) : za_E g cy M (39, c, i) = .inl (cy 0, 160, .inl (M.1 (39, c, i))) := rfl
theorem za_E_40 (g : za_L → Nat) (cy : Nat → ClassId) (M : za_M) (c i : Nat) : za_E g cy M (40, c, i) = .inl (cy 0, 40, .inl (M.1 (40, c, i))) := rfl
/-- a number put, a row of loans put -/
def za_up (M : za_M) (x : za_L) (k : Nat) (v : Int32) : za_M := (fun y j => if y = x ∧ j = k then v else M.1 y j, M.2)
def za_uq (M : za_M) (c k v : Nat) : za_M := (M.1, fun d j => if d = c ∧ j = k then v else M.2 d j)
/-- a whole row of numbers put -/
def za_uf (M : za_M) (x : za_L) (f : Nat → Int32) : za_M := (fun y j => if y = x then f j else M.1 y j, M.2)
theorem za_up_row (M : za_M) (x : za_L) (k : Nat) (v : Int32) : (za_up M x k v).1 x = upd (M.1 x) k v := by
  funext j
  simp [za_up, upd]
theorem za_up_oth (M : za_M) {x y : za_L} (k : Nat) (v : Int32) (h : y ≠ x) : (za_up M x k v).1 y = M.1 y := by
  funext j
  simp [za_up, h]
theorem za_uf_row (M : za_M) (x : za_L) (f : Nat → Int32) : (za_uf M x f).1 x = f := by
  funext j
  simp [za_uf]
theorem za_uf_oth (M : za_M) {x y : za_L} (f : Nat → Int32) (h : y ≠ x) : (za_uf M x f).1 y = M.1 y := by
  funext j
  simp [za_uf, h]
theorem za_E_up (g : za_L → Nat) (cy : Nat → ClassId) (M : za_M) {x y : za_L} (k : Nat) (v : Int32) (h : y ≠ x) : za_E g cy (za_up M x k v) y = za_E g cy M y := by
  unfold za_E
  rw [za_up_oth M k v h]
  rfl
theorem za_E_uf (g : za_L → Nat) (cy : Nat → ClassId) (M : za_M) {x y : za_L} (f : Nat → Int32) (h : y ≠ x) : za_E g cy (za_uf M x f) y = za_E g cy M y := by
  unfold za_E
  rw [za_uf_oth M f h]
  rfl
set_option maxHeartbeats 2000000 in
theorem za_E_P (g : za_L → Nat) (cy : Nat → ClassId) (f : Nat → Int32) (P P' : Nat → Nat) (x : za_L) (h : x.1 ≠ 12) : za_E0 g cy f P x = za_E0 g cy f P' x := by
  unfold za_E0
  split <;> first | rfl | (exact absurd (by assumption) h)
theorem za_uq_oth (M : za_M) {c d : Nat} (k v : Nat) (h : d ≠ c) : (za_uq M c k v).2 d = M.2 d := by
  funext j
  simp [za_uq, h]
theorem za_E_uq (g : za_L → Nat) (cy : Nat → ClassId) (M : za_M) {c : Nat} {y : za_L} (k v : Nat) (h : ¬ (y.1 = 12 ∧ y.2.1 = c)) : za_E g cy (za_uq M c k v) y = za_E g cy M y := by
  unfold za_E
  by_cases h1 : y.1 = 12
  · rw [za_uq_oth M k v (fun e => h ⟨h1, e⟩)]
    rfl
  · exact za_E_P g cy _ _ _ y h1
/-- the world -/
def za_Wl (g : za_L → Nat) (cy : Nat → ClassId) (M : za_M) : va_W := za_cells.map fun x => (g x, za_E g cy M x)
def za_A (g : za_L → Nat) : Nat → Prop := fun q => ∃ x ∈ za_cells, g x = q
def za_J (g : za_L → Nat) : Prop := ∀ x ∈ za_cells, ∀ y ∈ za_cells, g x = g y → x = y
theorem za_at (g : za_L → Nat) (cy : Nat → ClassId) (M : za_M) {q : Nat} {x : za_L} (h : za_cells[q]? = some x) : (za_Wl g cy M)[q]? = some (g x, za_E g cy M x) := by
  unfold za_Wl
  rw [List.getElem?_map, h]
  rfl
theorem za_set {g : za_L → Nat} {cy : Nat → ClassId} {M M' : za_M} {q : Nat} {x : za_L} (h : za_cells[q]? = some x) (ho : ∀ y ∈ za_cells, y ≠ x → za_E g cy M' y = za_E g cy M y) : (za_Wl g cy M).set q (g x, za_E g cy M' x) = za_Wl g cy M' := by
  unfold za_Wl
  refine List.ext_getElem? fun n => ?_
  by_cases hn : n = q
  · subst hn
    have hl := (List.getElem?_eq_some_iff.mp h).1
    rw [List.getElem?_set_self (by rw [List.length_map]; exact hl), List.getElem?_map, h]
    rfl
  · rw [List.getElem?_set_ne (fun e => hn e.symm), List.getElem?_map, List.getElem?_map]
    cases hy : za_cells[n]? with
    | none => rfl
    | some y =>
      show some (g y, za_E g cy M y) = some (g y, za_E g cy M' y)
      rw [ho y (List.mem_of_getElem? hy) (fun e => hn (za_inj hy (by rw [e]; exact h)))]
theorem za_DA {g : za_L → Nat} (cy : Nat → ClassId) (M : za_M) (hJ : za_J g) : va_D (za_A g) (za_Wl g cy M) := by
  refine ⟨fun i j a b hi hj e => ?_, fun k q hk => ?_⟩
  · unfold za_Wl at hi hj
    rw [List.getElem?_map] at hi hj
    cases hx : za_cells[i]? with
    | none => rw [hx] at hi; cases hi
    | some x =>
      cases hy : za_cells[j]? with
      | none => rw [hy] at hj; cases hj
      | some y =>
        rw [hx] at hi; rw [hy] at hj
        cases hi; cases hj
        have e2 := hJ x (List.mem_of_getElem? hx) y (List.mem_of_getElem? hy) e
        subst e2
        exact za_inj hx hy
  · unfold za_Wl at hk
    rw [List.getElem?_map] at hk
    cases hx : za_cells[k]? with
    | none => rw [hx] at hk; cases hk
    | some x =>
      rw [hx] at hk
      cases hk
      exact ⟨x, List.mem_of_getElem? hx, rfl⟩
/-- the good words -/
def lw_gd : List Cond := lw_tbl.filter goodWord
theorem za_gd {w : Cond} (i : Nat) (h : lw_tbl[i]? = some w) (hg : goodWord w = true) : w ∈ lw_gd := List.mem_filter.mpr ⟨List.mem_of_getElem? h, hg⟩
theorem za_gds {ws : List Cond} (h : ∀ w ∈ ws, w ∈ lw_tbl) (hg : ws.all goodWord = true) : ∀ w ∈ ws, w ∈ lw_gd := fun w hw => List.mem_filter.mpr ⟨h w hw, List.all_eq_true.mp hg w hw⟩
theorem za_gin {w : Cond} (hw : w ∈ lw_gd) : GoodIn lw_gd (w :: lw_gd) := fun x hx => (List.mem_cons.mp hx).elim (fun e => ⟨e ▸ hw, good_of_word (List.mem_filter.mp (e ▸ hw)).2⟩) (fun h => ⟨h, good_of_word (List.mem_filter.mp h).2⟩)
theorem za_gapp {a b : List Cond} (ha : ∀ w ∈ a, w ∈ lw_gd) (hb : GoodIn lw_gd b) : GoodIn lw_gd (a ++ b) := fun x hx => (List.mem_append.mp hx).elim (fun h => ⟨ha x h, good_of_word (List.mem_filter.mp (ha x h)).2⟩) (hb x)
end
section
/-! the judgement zt: the machine at a place of a method's body, over the world of M -/
def za_tys (cy : Nat → ClassId) : List (ClassId × FieldType) := [(cy 0, .int), (cy 1, .object RX0), (cy 2, .object RX4), (cy 3, .object RX3), (cy 4, .object RX2), (cy 5, .object RX6), (cy 6, .object "java/lang/String")]
def za_nm : List (String × Nat × MethodName) := [("AshLoans$County", 29, yX0_init), ("AshLoans$County", 30, yX4_init), ("AshLoans$County", 31, yX3_init), ("AshLoans", 28, yX5_init), ("AshLoans", 35, yX8_init), ("AshLoans", 56, yX6_init), ("AshLoans$County", 55, yX9_within), ("AshLoans$Reader", 18, yX9_held), ("AshLoans$Reader", 75, yX9_within), ("AshLoans$Law", 22, yX9_held), ("AshLoans$Potter", 28, yX9_held), ("AshLoans$County", 100, yX9_held), ("AshLoans$Voices", 43, yX9_within), ("AshLoans$Sheet", 19, yX9_held)]
def za_nf : List (String × Nat × String × String) := [("AshLoans$Reader", 71, "NAMES", "[C"), ("AshLoans$Voices", 40, "ABOVE", "[I")]
def za_nests : List Cond := za_nm.map (fun q => .methodLinkNest q.1 q.2.1 q.2.2 "AshLoans") ++ za_nf.map (fun q => .fieldLinkNest q.1 q.2.1 "AshLoans" q.2.2.1 q.2.2.2 "AshLoans")
def za_t0 (j : Nat) : Int32 := ([-1, 0, 0, 0, 1, 2, 3] : List Int32).getD j 0
def za_t1 (j : Nat) : Int32 := ([109, 107, 104, 110, 109, 100] : List Int32).getD j 0
def za_t2 (j : Nat) : Int32 := ([1, 10, 100, 1000, 10000, 100000] : List Int32).getD j 0
def za_t3 (j : Nat) : Int32 := ([10, 11, 12, 13, 20, 0, 0, 0, 0, 30, 0, 0, 0, 0, 40, 0, 0, 0, 0, 50, 0, 60, 0, 0, 0, 0, 70, 71] : List Int32).getD j 0
/-- what stands of the machine beside the world: classes, links among nest mates, static tables, texts -/
def za_F (g : za_L → Nat) (D : va_G) (cy : Nat → ClassId) (s : State) : Prop :=
  va_K D vwCl (za_tys cy) s ∧ (∀ w ∈ za_nests, va_Nw w s) ∧
  (va_Z "AshLoans" "ABOVE" "[I" (.ref (g (42, 0, 0))) (za_A g) s s.heap ∧ va_T .int (g (42, 0, 0)) 7 (fun j => .int (za_t0 j)) (za_A g) s s.heap) ∧
  (va_Z "AshLoans" "NAMES" "[C" (.ref (g (42, 0, 1))) (za_A g) s s.heap ∧ va_T .char (g (42, 0, 1)) 6 (fun j => .int (za_t1 j)) (za_A g) s s.heap) ∧
  (va_Z "AshLoans" "POWERS" "[I" (.ref (g (42, 0, 2))) (za_A g) s s.heap ∧ va_T .int (g (42, 0, 2)) 6 (fun j => .int (za_t2 j)) (za_A g) s s.heap) ∧
  (va_Z "AshLoans$Voices" "BODIES" "[I" (.ref (g (42, 0, 3))) (za_A g) s s.heap ∧ va_T .int (g (42, 0, 3)) 28 (fun j => .int (za_t3 j)) (za_A g) s s.heap) ∧
  vk_S 2 [3, 3] [[109, 107, 104], [110, 109, 100]] (fun i => g (41, 0, i)) (fun i => g (43, 0, i)) (za_A g) s s.heap ∧
  va_Z "java/lang/String" "COMPACT_STRINGS" "Z" (.int 1) (za_A g) s s.heap ∧ va_Zq "jdk/internal/util/Preconditions" "SIOOBE_FORMATTER" "Ljava/util/function/BiFunction;" (za_A g) s s.heap
theorem za_F.mv {g : za_L → Nat} {D : va_G} {cy : Nat → ClassId} {u U : State} (hn : ∀ w ∈ za_nests, va_Nw w u → va_Nw w U) (hvm : u.vm.Alike U.vm) (hq : ∀ a : Nat, a < u.heap.size → ¬ za_A g a → U.heap[a]? = u.heap[a]?) (h : za_F g D cy u) : za_F g D cy U := by
  obtain ⟨h1, h2, ⟨h3, h4⟩, ⟨h5, h6⟩, ⟨h7, h8⟩, ⟨h9, h10⟩, h11, h12, h13⟩ := h
  exact ⟨va_K.moved hvm h1, fun w hw => hn w hw (h2 w hw), ⟨(va_Z.moved hvm h3).kept hq, (va_T.moved hvm h4).kept hq⟩, ⟨(va_Z.moved hvm h5).kept hq, (va_T.moved hvm h6).kept hq⟩, ⟨(va_Z.moved hvm h7).kept hq, (va_T.moved hvm h8).kept hq⟩, ⟨(va_Z.moved hvm h9).kept hq, (va_T.moved hvm h10).kept hq⟩, (vk_S.moved hvm h11).kept hq, (va_Z.moved hvm h12).kept hq, (va_Zq.moved hvm h13).kept hq⟩
theorem za_nests_tab : ∀ w ∈ za_nests, w.onTables = true := by
  intro w h
  unfold za_nests at h
  rcases List.mem_append.mp h with h | h
  · obtain ⟨q, -, rfl⟩ := List.mem_map.mp h
    rfl
  · obtain ⟨q, -, rfl⟩ := List.mem_map.mp h
    rfl
theorem za_nests_warm {s U : State} (hW : s.WarmedH U.vm) : ∀ w ∈ za_nests, va_Nw w s → va_Nw w U := by
  intro w h hz
  unfold za_nests at h
  rcases List.mem_append.mp h with h | h
  · obtain ⟨q, -, rfl⟩ := List.mem_map.mp h
    exact va_Nw.warmM hW hz
  · obtain ⟨q, -, rfl⟩ := List.mem_map.mp h
    exact va_Nw.warmF hW hz
theorem za_F.go {g : za_L → Nat} {D : va_G} {cy : Nat → ClassId} {s U : State} {H : Heap} {locs : List Loc} (h : za_F g D cy s) (hU : U.heap = H) (hW : s.WarmedH U.vm) (hS : va_S (za_A g) s.heap H locs) : za_F g D cy U :=
  za_F.mv (za_nests_warm hW) hW.alike (fun a h1 h2 => by rw [hU]; exact hS.2.1 a h1 h2) h
theorem za_F.blind {g : za_L → Nat} {D : va_G} {cy : Nat → ClassId} {U V : State} (h : za_F g D cy U) (hv : U.vm = V.vm) (hh : V.heap = U.heap) : za_F g D cy V :=
  za_F.mv (fun w hw hz => va_Nw.same (za_nests_tab w hw) hv hz) (by rw [hv]; exact Vm.Alike.refl V.vm) (fun a _ _ => by rw [hh]) h
/-- what a body may use -/
def za_C (p : Program) (s : State) (m : MethodId) (args : Array Value) (c : Code) (cc : ByteArray) (nL : Nat) (own : String) (g : za_L → Nat) (D : va_G) (cy : Nat → ClassId) : Prop :=
  p.tables.exec = Jvm.exec ∧ c.code = cc ∧ c.maxLocals = nL ∧ s.vm.findClass own = some m.cls ∧ (∀ w ∈ lw_gd, w.before args s = true) ∧ za_F g D cy s ∧ za_J g
def zt (p : Program) (l : Launch) (e : Env) (R : Room) (s : State) (m : MethodId) (args : Array Value) (below : List Frame) (meth : Method) (c : Code) (nc ns : Nat) (Q : State → Prop) (g : za_L → Nat) (D : va_G) (cy : Nat → ClassId) (nL : Nat) (M : za_M) (pc : Nat) (lv : List (Nat × Value)) (st : List Value) : Prop :=
  ∀ (H : Heap) (locs : List Loc) (ls : Array Slot), va_P D vwCl (za_Wl g cy M) H → va_S (za_A g) s.heap H locs → lv_has ls nL lv → W p l e R s m args below meth c H locs nc ns Q (F0 m pc ls st)
section ZT
variable {p : Program} {l : Launch} {e : Env} {R : Room} {s : State} {m : MethodId} {args : Array Value} {below : List Frame} {meth : Method} {c : Code} {nc ns : Nat} {Q : State → Prop} {g : za_L → Nat} {D : va_G} {cy : Nat → ClassId} {nL : Nat} {cc : ByteArray} {own : String} {M : za_M} {pc : Nat} {lv : List (Nat × Value)} {rest : List Value}
theorem zt_iconst (C : za_C p s m args c cc nL own g D cy) {n : Int} {v : Int32} (hdg : decode cc pc = .ok (.iconst n, 1)) (hv : Int32.ofInt n = v) (k : zt p l e R s m args below meth c nc ns Q g D cy nL M (pc + 1) lv (.int v :: rest)) : zt p l e R s m args below meth c nc ns Q g D cy nL M pc lv (rest) := fun H locs ls hP hS hl => lv_iconst C.1 C.2.1 hdg hv (k H locs ls hP hS hl)
theorem zt_bipush (C : za_C p s m args c cc nL own g D cy) {n : Int} {v : Int32} (hdg : decode cc pc = .ok (.bipush n, 2)) (hv : (Int8.ofInt n).toInt32 = v) (k : zt p l e R s m args below meth c nc ns Q g D cy nL M (pc + 2) lv (.int v :: rest)) : zt p l e R s m args below meth c nc ns Q g D cy nL M pc lv (rest) := fun H locs ls hP hS hl => lv_bipush C.1 C.2.1 hdg hv (k H locs ls hP hS hl)
theorem zt_sipush (C : za_C p s m args c cc nL own g D cy) {n : Int} {v : Int32} (hdg : decode cc pc = .ok (.sipush n, 3)) (hv : (Int16.ofInt n).toInt32 = v) (k : zt p l e R s m args below meth c nc ns Q g D cy nL M (pc + 3) lv (.int v :: rest)) : zt p l e R s m args below meth c nc ns Q g D cy nL M pc lv (rest) := fun H locs ls hP hS hl => lv_sipush C.1 C.2.1 hdg hv (k H locs ls hP hS hl)
theorem zt_iadd (C : za_C p s m args c cc nL own g D cy) {x y : Int32} (hdg : decode cc pc = .ok (.iadd, 1)) (k : zt p l e R s m args below meth c nc ns Q g D cy nL M (pc + 1) lv (.int (x + y) :: rest)) : zt p l e R s m args below meth c nc ns Q g D cy nL M pc lv (.int y :: .int x :: rest) := fun H locs ls hP hS hl => lv_iadd C.1 C.2.1 hdg (k H locs ls hP hS hl)
theorem zt_isub (C : za_C p s m args c cc nL own g D cy) {x y : Int32} (hdg : decode cc pc = .ok (.isub, 1)) (k : zt p l e R s m args below meth c nc ns Q g D cy nL M (pc + 1) lv (.int (x - y) :: rest)) : zt p l e R s m args below meth c nc ns Q g D cy nL M pc lv (.int y :: .int x :: rest) := fun H locs ls hP hS hl => lv_isub C.1 C.2.1 hdg (k H locs ls hP hS hl)
theorem zt_imul (C : za_C p s m args c cc nL own g D cy) {x y : Int32} (hdg : decode cc pc = .ok (.imul, 1)) (k : zt p l e R s m args below meth c nc ns Q g D cy nL M (pc + 1) lv (.int (x * y) :: rest)) : zt p l e R s m args below meth c nc ns Q g D cy nL M pc lv (.int y :: .int x :: rest) := fun H locs ls hP hS hl => lv_imul C.1 C.2.1 hdg (k H locs ls hP hS hl)
theorem zt_iand (C : za_C p s m args c cc nL own g D cy) {x y : Int32} (hdg : decode cc pc = .ok (.iand, 1)) (k : zt p l e R s m args below meth c nc ns Q g D cy nL M (pc + 1) lv (.int (x &&& y) :: rest)) : zt p l e R s m args below meth c nc ns Q g D cy nL M pc lv (.int y :: .int x :: rest) := fun H locs ls hP hS hl => lv_iand C.1 C.2.1 hdg (k H locs ls hP hS hl)
theorem zt_ior (C : za_C p s m args c cc nL own g D cy) {x y : Int32} (hdg : decode cc pc = .ok (.ior, 1)) (k : zt p l e R s m args below meth c nc ns Q g D cy nL M (pc + 1) lv (.int (x ||| y) :: rest)) : zt p l e R s m args below meth c nc ns Q g D cy nL M pc lv (.int y :: .int x :: rest) := fun H locs ls hP hS hl => lv_ior C.1 C.2.1 hdg (k H locs ls hP hS hl)
theorem zt_ixor (C : za_C p s m args c cc nL own g D cy) {x y : Int32} (hdg : decode cc pc = .ok (.ixor, 1)) (k : zt p l e R s m args below meth c nc ns Q g D cy nL M (pc + 1) lv (.int (x ^^^ y) :: rest)) : zt p l e R s m args below meth c nc ns Q g D cy nL M pc lv (.int y :: .int x :: rest) := fun H locs ls hP hS hl => lv_ixor C.1 C.2.1 hdg (k H locs ls hP hS hl)
theorem zt_idiv (C : za_C p s m args c cc nL own g D cy) {x y : Int32} (hdg : decode cc pc = .ok (.idiv, 1)) (hne : ¬ y = 0) (k : zt p l e R s m args below meth c nc ns Q g D cy nL M (pc + 1) lv (.int (x / y) :: rest)) : zt p l e R s m args below meth c nc ns Q g D cy nL M pc lv (.int y :: .int x :: rest) := fun H locs ls hP hS hl => lv_idiv C.1 C.2.1 hdg hne (k H locs ls hP hS hl)
theorem zt_irem (C : za_C p s m args c cc nL own g D cy) {x y : Int32} (hdg : decode cc pc = .ok (.irem, 1)) (hne : ¬ y = 0) (k : zt p l e R s m args below meth c nc ns Q g D cy nL M (pc + 1) lv (.int (x - x / y * y) :: rest)) : zt p l e R s m args below meth c nc ns Q g D cy nL M pc lv (.int y :: .int x :: rest) := fun H locs ls hP hS hl => lv_irem C.1 C.2.1 hdg hne (k H locs ls hP hS hl)
theorem zt_ineg (C : za_C p s m args c cc nL own g D cy) {x : Int32} (hdg : decode cc pc = .ok (.ineg, 1)) (k : zt p l e R s m args below meth c nc ns Q g D cy nL M (pc + 1) lv (.int (-x) :: rest)) : zt p l e R s m args below meth c nc ns Q g D cy nL M pc lv (.int x :: rest) := fun H locs ls hP hS hl => lv_ineg C.1 C.2.1 hdg (k H locs ls hP hS hl)
theorem zt_ladd (C : za_C p s m args c cc nL own g D cy) {x y : Int64} (hdg : decode cc pc = .ok (.ladd, 1)) (k : zt p l e R s m args below meth c nc ns Q g D cy nL M (pc + 1) lv (.long (x + y) :: rest)) : zt p l e R s m args below meth c nc ns Q g D cy nL M pc lv (.long y :: .long x :: rest) := fun H locs ls hP hS hl => lv_ladd C.1 C.2.1 hdg (k H locs ls hP hS hl)
theorem zt_land (C : za_C p s m args c cc nL own g D cy) {x y : Int64} (hdg : decode cc pc = .ok (.land, 1)) (k : zt p l e R s m args below meth c nc ns Q g D cy nL M (pc + 1) lv (.long (x &&& y) :: rest)) : zt p l e R s m args below meth c nc ns Q g D cy nL M pc lv (.long y :: .long x :: rest) := fun H locs ls hP hS hl => lv_land C.1 C.2.1 hdg (k H locs ls hP hS hl)
theorem zt_lor (C : za_C p s m args c cc nL own g D cy) {x y : Int64} (hdg : decode cc pc = .ok (.lor, 1)) (k : zt p l e R s m args below meth c nc ns Q g D cy nL M (pc + 1) lv (.long (x ||| y) :: rest)) : zt p l e R s m args below meth c nc ns Q g D cy nL M pc lv (.long y :: .long x :: rest) := fun H locs ls hP hS hl => lv_lor C.1 C.2.1 hdg (k H locs ls hP hS hl)
theorem zt_ishl (C : za_C p s m args c cc nL own g D cy) {x y : Int32} (hdg : decode cc pc = .ok (.ishl, 1)) (k : zt p l e R s m args below meth c nc ns Q g D cy nL M (pc + 1) lv (.int (x <<< (y &&& 31)) :: rest)) : zt p l e R s m args below meth c nc ns Q g D cy nL M pc lv (.int y :: .int x :: rest) := fun H locs ls hP hS hl => lv_ishl C.1 C.2.1 hdg (k H locs ls hP hS hl)
theorem zt_ishr (C : za_C p s m args c cc nL own g D cy) {x y : Int32} (hdg : decode cc pc = .ok (.ishr, 1)) (k : zt p l e R s m args below meth c nc ns Q g D cy nL M (pc + 1) lv (.int (x >>> (y &&& 31)) :: rest)) : zt p l e R s m args below meth c nc ns Q g D cy nL M pc lv (.int y :: .int x :: rest) := fun H locs ls hP hS hl => lv_ishr C.1 C.2.1 hdg (k H locs ls hP hS hl)
theorem zt_iushr (C : za_C p s m args c cc nL own g D cy) {x y : Int32} (hdg : decode cc pc = .ok (.iushr, 1)) (k : zt p l e R s m args below meth c nc ns Q g D cy nL M (pc + 1) lv (.int ((x.toUInt32 >>> (y.toUInt32 &&& Int32.toUInt32 31)).toInt32) :: rest)) : zt p l e R s m args below meth c nc ns Q g D cy nL M pc lv (.int y :: .int x :: rest) := fun H locs ls hP hS hl => lv_iushr C.1 C.2.1 hdg rfl (k H locs ls hP hS hl)
theorem zt_lushr (C : za_C p s m args c cc nL own g D cy) {x : Int64} {y : Int32} (hdg : decode cc pc = .ok (.lushr, 1)) (k : zt p l e R s m args below meth c nc ns Q g D cy nL M (pc + 1) lv (.long ((x.toUInt64 >>> (y.toInt64.toUInt64 &&& Int64.toUInt64 63)).toInt64) :: rest)) : zt p l e R s m args below meth c nc ns Q g D cy nL M pc lv (.int y :: .long x :: rest) := fun H locs ls hP hS hl => lv_lushr C.1 C.2.1 hdg rfl (k H locs ls hP hS hl)
theorem zt_lshl (C : za_C p s m args c cc nL own g D cy) {x : Int64} {y : Int32} (hdg : decode cc pc = .ok (.lshl, 1)) (k : zt p l e R s m args below meth c nc ns Q g D cy nL M (pc + 1) lv (.long (x <<< (y.toInt64 &&& 63)) :: rest)) : zt p l e R s m args below meth c nc ns Q g D cy nL M pc lv (.int y :: .long x :: rest) := fun H locs ls hP hS hl => lv_lshl C.1 C.2.1 hdg rfl (k H locs ls hP hS hl)
theorem zt_lshr (C : za_C p s m args c cc nL own g D cy) {x : Int64} {y : Int32} (hdg : decode cc pc = .ok (.lshr, 1)) (k : zt p l e R s m args below meth c nc ns Q g D cy nL M (pc + 1) lv (.long (x >>> (y.toInt64 &&& 63)) :: rest)) : zt p l e R s m args below meth c nc ns Q g D cy nL M pc lv (.int y :: .long x :: rest) := fun H locs ls hP hS hl => lv_lshr C.1 C.2.1 hdg rfl (k H locs ls hP hS hl)
theorem zt_i2l (C : za_C p s m args c cc nL own g D cy) {x : Int32} (hdg : decode cc pc = .ok (.i2l, 1)) (k : zt p l e R s m args below meth c nc ns Q g D cy nL M (pc + 1) lv (.long (x.toInt64) :: rest)) : zt p l e R s m args below meth c nc ns Q g D cy nL M pc lv (.int x :: rest) := fun H locs ls hP hS hl => lv_i2l C.1 C.2.1 hdg rfl (k H locs ls hP hS hl)
theorem zt_l2i (C : za_C p s m args c cc nL own g D cy) {x : Int64} (hdg : decode cc pc = .ok (.l2i, 1)) (k : zt p l e R s m args below meth c nc ns Q g D cy nL M (pc + 1) lv (.int (x.toInt32) :: rest)) : zt p l e R s m args below meth c nc ns Q g D cy nL M pc lv (.long x :: rest) := fun H locs ls hP hS hl => lv_l2i C.1 C.2.1 hdg rfl (k H locs ls hP hS hl)
theorem zt_i2b (C : za_C p s m args c cc nL own g D cy) {x : Int32} (hdg : decode cc pc = .ok (.i2b, 1)) (k : zt p l e R s m args below meth c nc ns Q g D cy nL M (pc + 1) lv (.int (x.toInt8.toInt32) :: rest)) : zt p l e R s m args below meth c nc ns Q g D cy nL M pc lv (.int x :: rest) := fun H locs ls hP hS hl => lv_i2b C.1 C.2.1 hdg rfl (k H locs ls hP hS hl)
theorem zt_i2s (C : za_C p s m args c cc nL own g D cy) {x : Int32} (hdg : decode cc pc = .ok (.i2s, 1)) (k : zt p l e R s m args below meth c nc ns Q g D cy nL M (pc + 1) lv (.int (x.toInt16.toInt32) :: rest)) : zt p l e R s m args below meth c nc ns Q g D cy nL M pc lv (.int x :: rest) := fun H locs ls hP hS hl => lv_i2s C.1 C.2.1 hdg rfl (k H locs ls hP hS hl)
theorem zt_lcmp (C : za_C p s m args c cc nL own g D cy) {x y : Int64} (hdg : decode cc pc = .ok (.lcmp, 1)) (k : zt p l e R s m args below meth c nc ns Q g D cy nL M (pc + 1) lv (.int (lg_cmp x y) :: rest)) : zt p l e R s m args below meth c nc ns Q g D cy nL M pc lv (.long y :: .long x :: rest) := fun H locs ls hP hS hl => W.lcmp C.1 C.2.1 hdg (k H locs ls hP hS hl)
theorem zt_dup (C : za_C p s m args c cc nL own g D cy) {va : Value} (hdg : decode cc pc = .ok (.dup, 1)) (hva : va.category = 1) (k : zt p l e R s m args below meth c nc ns Q g D cy nL M (pc + 1) lv (va :: va :: rest)) : zt p l e R s m args below meth c nc ns Q g D cy nL M pc lv (va :: rest) := fun H locs ls hP hS hl => lv_dup C.1 C.2.1 hdg hva (k H locs ls hP hS hl)
theorem zt_dup2_11 (C : za_C p s m args c cc nL own g D cy) {va vb : Value} (hdg : decode cc pc = .ok (.dup2, 1)) (hva : va.category = 1) (hvb : vb.category = 1) (k : zt p l e R s m args below meth c nc ns Q g D cy nL M (pc + 1) lv (va :: vb :: va :: vb :: rest)) : zt p l e R s m args below meth c nc ns Q g D cy nL M pc lv (va :: vb :: rest) := fun H locs ls hP hS hl => lv_dup2_11 C.1 C.2.1 hdg hva hvb (k H locs ls hP hS hl)
theorem zt_pop (C : za_C p s m args c cc nL own g D cy) {va : Value} (hdg : decode cc pc = .ok (.pop, 1)) (hva : va.category = 1) (k : zt p l e R s m args below meth c nc ns Q g D cy nL M (pc + 1) lv (rest)) : zt p l e R s m args below meth c nc ns Q g D cy nL M pc lv (va :: rest) := fun H locs ls hP hS hl => lv_pop C.1 C.2.1 hdg hva (k H locs ls hP hS hl)
theorem zt_iload_n (C : za_C p s m args c cc nL own g D cy) {k : Fin 4} {x : Int32} (q : Nat) {i : Nat} (hdg : decode cc pc = .ok (.iload_n k, 1)) (hi : (k : Nat) = i) (hx : lv[q]? = some (i, .int x)) (kk : zt p l e R s m args below meth c nc ns Q g D cy nL M (pc + 1) lv (.int x :: rest)) : zt p l e R s m args below meth c nc ns Q g D cy nL M pc lv rest := fun H locs ls hP hS hl => lv_iload_n C.1 C.2.1 hdg hi (lv_at hl q hx) (kk H locs ls hP hS hl)
theorem zt_iload (C : za_C p s m args c cc nL own g D cy) {x : Int32} (q : Nat) {i : Nat} (hdg : decode cc pc = .ok (.iload i, 2)) (hx : lv[q]? = some (i, .int x)) (kk : zt p l e R s m args below meth c nc ns Q g D cy nL M (pc + 2) lv (.int x :: rest)) : zt p l e R s m args below meth c nc ns Q g D cy nL M pc lv rest := fun H locs ls hP hS hl => lv_iload C.1 C.2.1 hdg (lv_at hl q hx) (kk H locs ls hP hS hl)
theorem zt_istore_n (C : za_C p s m args c cc nL own g D cy) {k : Fin 4} {i : Nat} {x : Int32} (lv' : List (Nat × Value)) (hdg : decode cc pc = .ok (.istore_n k, 1)) (hi : (k : Nat) = i) (hn : i < nL) (hl0 : (i, Value.int x) :: lv.filter (fun q => !(q.1 == i) && !(q.1 + 1 == i && q.2.category == 2)) = lv') (kk : zt p l e R s m args below meth c nc ns Q g D cy nL M (pc + 1) lv' rest) : zt p l e R s m args below meth c nc ns Q g D cy nL M pc lv (.int x :: rest) := fun H locs ls hP hS hl => lv_istore_n C.1 C.2.1 hdg hi hl hn hl0 (fun ls hl => kk H locs ls hP hS hl)
theorem zt_istore (C : za_C p s m args c cc nL own g D cy) {i : Nat} {x : Int32} (lv' : List (Nat × Value)) (hdg : decode cc pc = .ok (.istore i, 2)) (hn : i < nL) (hl0 : (i, Value.int x) :: lv.filter (fun q => !(q.1 == i) && !(q.1 + 1 == i && q.2.category == 2)) = lv') (kk : zt p l e R s m args below meth c nc ns Q g D cy nL M (pc + 2) lv' rest) : zt p l e R s m args below meth c nc ns Q g D cy nL M pc lv (.int x :: rest) := fun H locs ls hP hS hl => lv_istore C.1 C.2.1 hdg hl hn hl0 (fun ls hl => kk H locs ls hP hS hl)
theorem zt_lload_n (C : za_C p s m args c cc nL own g D cy) {k : Fin 4} {x : Int64} (q : Nat) {i : Nat} (hdg : decode cc pc = .ok (.lload_n k, 1)) (hi : (k : Nat) = i) (hx : lv[q]? = some (i, .long x)) (kk : zt p l e R s m args below meth c nc ns Q g D cy nL M (pc + 1) lv (.long x :: rest)) : zt p l e R s m args below meth c nc ns Q g D cy nL M pc lv rest := fun H locs ls hP hS hl => lv_lload_n C.1 C.2.1 hdg hi (lv_at hl q hx) (kk H locs ls hP hS hl)
theorem zt_aload_n (C : za_C p s m args c cc nL own g D cy) {k : Fin 4} {x : Nat} (q : Nat) {i : Nat} (hdg : decode cc pc = .ok (.aload_n k, 1)) (hi : (k : Nat) = i) (hx : lv[q]? = some (i, .ref x)) (kk : zt p l e R s m args below meth c nc ns Q g D cy nL M (pc + 1) lv (.ref x :: rest)) : zt p l e R s m args below meth c nc ns Q g D cy nL M pc lv rest := fun H locs ls hP hS hl => lv_aload_n C.1 C.2.1 hdg hi (lv_at hl q hx) (kk H locs ls hP hS hl)
theorem zt_aload (C : za_C p s m args c cc nL own g D cy) {x : Nat} (q : Nat) {i : Nat} (hdg : decode cc pc = .ok (.aload i, 2)) (hx : lv[q]? = some (i, .ref x)) (kk : zt p l e R s m args below meth c nc ns Q g D cy nL M (pc + 2) lv (.ref x :: rest)) : zt p l e R s m args below meth c nc ns Q g D cy nL M pc lv rest := fun H locs ls hP hS hl => lv_aload C.1 C.2.1 hdg (lv_at hl q hx) (kk H locs ls hP hS hl)
theorem zt_astore_n (C : za_C p s m args c cc nL own g D cy) {k : Fin 4} {i : Nat} {x : Nat} (lv' : List (Nat × Value)) (hdg : decode cc pc = .ok (.astore_n k, 1)) (hi : (k : Nat) = i) (hn : i < nL) (hl0 : (i, Value.ref x) :: lv.filter (fun q => !(q.1 == i) && !(q.1 + 1 == i && q.2.category == 2)) = lv') (kk : zt p l e R s m args below meth c nc ns Q g D cy nL M (pc + 1) lv' rest) : zt p l e R s m args below meth c nc ns Q g D cy nL M pc lv (.ref x :: rest) := fun H locs ls hP hS hl => lv_astore_n C.1 C.2.1 hdg hi hl hn hl0 (fun ls hl => kk H locs ls hP hS hl)
theorem zt_astore (C : za_C p s m args c cc nL own g D cy) {i : Nat} {x : Nat} (lv' : List (Nat × Value)) (hdg : decode cc pc = .ok (.astore i, 2)) (hn : i < nL) (hl0 : (i, Value.ref x) :: lv.filter (fun q => !(q.1 == i) && !(q.1 + 1 == i && q.2.category == 2)) = lv') (kk : zt p l e R s m args below meth c nc ns Q g D cy nL M (pc + 2) lv' rest) : zt p l e R s m args below meth c nc ns Q g D cy nL M pc lv (.ref x :: rest) := fun H locs ls hP hS hl => lv_astore C.1 C.2.1 hdg hl hn hl0 (fun ls hl => kk H locs ls hP hS hl)
theorem zt_iinc (C : za_C p s m args c cc nL own g D cy) {i : Nat} {n : Int} {x v : Int32} (q : Nat) (lv' : List (Nat × Value)) (hdg : decode cc pc = .ok (.iinc i n, 3)) (hx : lv[q]? = some (i, .int x)) (hv : x + Int32.ofInt n = v) (hn : i < nL) (hl0 : (i, Value.int v) :: lv.filter (fun q => !(q.1 == i) && !(q.1 + 1 == i && q.2.category == 2)) = lv') (kk : zt p l e R s m args below meth c nc ns Q g D cy nL M (pc + 3) lv' rest) : zt p l e R s m args below meth c nc ns Q g D cy nL M pc lv rest := fun H locs ls hP hS hl => lv_iinc C.1 C.2.1 hdg hl (k := q) hx hv hn hl0 (fun ls hl => kk H locs ls hP hS hl)
theorem zt_sub (ks : List Nat) {lv' : List (Nat × Value)} (hl0 : lv_pick lv ks = lv') {st : List Value} (kk : zt p l e R s m args below meth c nc ns Q g D cy nL M pc lv' st) : zt p l e R s m args below meth c nc ns Q g D cy nL M pc lv st := fun H locs ls hP hS hl => kk H locs ls hP hS (lv_sub hl ks hl0)
end ZT
end
section
/-! rows of zt: branches, the heap, ends, calls -/
def za_FL (own : String) (index ci k N : Nat) (Cn : String) (T : u_T) (ref : String) : Prop := vwCl[ci]? = some (Cn, T, N) ∧ (∀ w ∈ u_ws Cn T N, w ∈ lw_gd) ∧ k < N ∧ Cond.fieldLink own index ref (T k).2.1 (T k).2.2.1 ∈ lw_gd ∧ (T k).1 = ref
def za_FT (k N : Nat) (T : u_T) (ty : FieldType) : Prop := (T k).2.2.2 = false ∧ parseFieldDescriptor (T k).2.2.1 = some ty ∧ (∃ ty0 : Nat → FieldType, ∀ k, k < N → parseFieldDescriptor (T k).2.2.1 = some (ty0 k)) ∧ ∀ a, a < N → ∀ b, b < N → a ≠ b → (T a).2.1 ≠ (T b).2.1
def za_cok (sp dp n : Int32) (n0 n1 : Nat) : Prop := ¬ sp < 0 ∧ ¬ dp < 0 ∧ ¬ n < 0 ∧ sp.toNatClampNeg + n.toNatClampNeg ≤ n0 ∧ dp.toNatClampNeg + n.toNatClampNeg ≤ n1
def za_B (v : Int32) : Prop := v = 0 ∨ v = 1
theorem za_Bn {v : Int32} (h : za_B v) : narrow .boolean (.int v) = .int v := by rcases h with rfl | rfl <;> rfl
theorem za_E_self (g : za_L → Nat) (cy : Nat → ClassId) (M : za_M) (x : za_L) (k : Nat) (v : Int32) : za_E g cy (za_up M x k v) x = za_E0 g cy (upd (M.1 x) k v) (M.2 x.2.1) x := by
  unfold za_E
  rw [za_up_row]
  rfl
theorem za_lt {i : Int32} {n : Nat} (h : vp_in i n) : i.toNatClampNeg < n := Nat.not_le.mp fun q => h (Or.inr q)
section ZU
variable {p : Program} {l : Launch} {e : Env} {R : Room} {s : State} {m : MethodId} {args : Array Value} {below : List Frame} {meth : Method} {c : Code} {nc ns : Nat} {Q : State → Prop} {g : za_L → Nat} {D : va_G} {cy : Nat → ClassId} {nL : Nat} {cc : ByteArray} {own : String} {M : za_M} {pc : Nat} {lv : List (Nat × Value)} {rest : List Value}
theorem zt_if_eq (C : za_C p s m args c cc nL own g D cy) {x : Int32} {off : Int} (tgt : Nat) (hdg : decode cc pc = .ok (.ifCond .eq off, 3)) (ht : (pc : Int) + off = (tgt : Int)) (kt : x = 0 → zt p l e R s m args below meth c nc ns Q g D cy nL M tgt lv rest) (kf : ¬ x = 0 → zt p l e R s m args below meth c nc ns Q g D cy nL M (pc + 3) lv rest) : zt p l e R s m args below meth c nc ns Q g D cy nL M pc lv (.int x :: rest) := fun H locs ls hP hS hl => lv_if_eq C.1 C.2.1 hdg ht (fun h => kt h H locs ls hP hS hl) (fun h => kf h H locs ls hP hS hl)
theorem zt_if_ne (C : za_C p s m args c cc nL own g D cy) {x : Int32} {off : Int} (tgt : Nat) (hdg : decode cc pc = .ok (.ifCond .ne off, 3)) (ht : (pc : Int) + off = (tgt : Int)) (kt : ¬ x = 0 → zt p l e R s m args below meth c nc ns Q g D cy nL M tgt lv rest) (kf : x = 0 → zt p l e R s m args below meth c nc ns Q g D cy nL M (pc + 3) lv rest) : zt p l e R s m args below meth c nc ns Q g D cy nL M pc lv (.int x :: rest) := fun H locs ls hP hS hl => lv_if_ne C.1 C.2.1 hdg ht (fun h => kt h H locs ls hP hS hl) (fun h => kf h H locs ls hP hS hl)
theorem zt_if_lt (C : za_C p s m args c cc nL own g D cy) {x : Int32} {off : Int} (tgt : Nat) (hdg : decode cc pc = .ok (.ifCond .lt off, 3)) (ht : (pc : Int) + off = (tgt : Int)) (kt : x < 0 → zt p l e R s m args below meth c nc ns Q g D cy nL M tgt lv rest) (kf : ¬ x < 0 → zt p l e R s m args below meth c nc ns Q g D cy nL M (pc + 3) lv rest) : zt p l e R s m args below meth c nc ns Q g D cy nL M pc lv (.int x :: rest) := fun H locs ls hP hS hl => lv_if_lt C.1 C.2.1 hdg ht (fun h => kt h H locs ls hP hS hl) (fun h => kf h H locs ls hP hS hl)
theorem zt_if_ge (C : za_C p s m args c cc nL own g D cy) {x : Int32} {off : Int} (tgt : Nat) (hdg : decode cc pc = .ok (.ifCond .ge off, 3)) (ht : (pc : Int) + off = (tgt : Int)) (kt : 0 ≤ x → zt p l e R s m args below meth c nc ns Q g D cy nL M tgt lv rest) (kf : ¬ 0 ≤ x → zt p l e R s m args below meth c nc ns Q g D cy nL M (pc + 3) lv rest) : zt p l e R s m args below meth c nc ns Q g D cy nL M pc lv (.int x :: rest) := fun H locs ls hP hS hl => lv_if_ge C.1 C.2.1 hdg ht (fun h => kt h H locs ls hP hS hl) (fun h => kf h H locs ls hP hS hl)
theorem zt_if_gt (C : za_C p s m args c cc nL own g D cy) {x : Int32} {off : Int} (tgt : Nat) (hdg : decode cc pc = .ok (.ifCond .gt off, 3)) (ht : (pc : Int) + off = (tgt : Int)) (kt : 0 < x → zt p l e R s m args below meth c nc ns Q g D cy nL M tgt lv rest) (kf : ¬ 0 < x → zt p l e R s m args below meth c nc ns Q g D cy nL M (pc + 3) lv rest) : zt p l e R s m args below meth c nc ns Q g D cy nL M pc lv (.int x :: rest) := fun H locs ls hP hS hl => lv_if_gt C.1 C.2.1 hdg ht (fun h => kt h H locs ls hP hS hl) (fun h => kf h H locs ls hP hS hl)
theorem zt_if_le (C : za_C p s m args c cc nL own g D cy) {x : Int32} {off : Int} (tgt : Nat) (hdg : decode cc pc = .ok (.ifCond .le off, 3)) (ht : (pc : Int) + off = (tgt : Int)) (kt : x ≤ 0 → zt p l e R s m args below meth c nc ns Q g D cy nL M tgt lv rest) (kf : ¬ x ≤ 0 → zt p l e R s m args below meth c nc ns Q g D cy nL M (pc + 3) lv rest) : zt p l e R s m args below meth c nc ns Q g D cy nL M pc lv (.int x :: rest) := fun H locs ls hP hS hl => lv_if_le C.1 C.2.1 hdg ht (fun h => kt h H locs ls hP hS hl) (fun h => kf h H locs ls hP hS hl)
theorem zt_icmp_eq (C : za_C p s m args c cc nL own g D cy) {x y : Int32} {off : Int} (tgt : Nat) (hdg : decode cc pc = .ok (.if_icmp .eq off, 3)) (ht : (pc : Int) + off = (tgt : Int)) (kt : x = y → zt p l e R s m args below meth c nc ns Q g D cy nL M tgt lv rest) (kf : ¬ x = y → zt p l e R s m args below meth c nc ns Q g D cy nL M (pc + 3) lv rest) : zt p l e R s m args below meth c nc ns Q g D cy nL M pc lv (.int y :: .int x :: rest) := fun H locs ls hP hS hl => lv_icmp_eq C.1 C.2.1 hdg ht (fun h => kt h H locs ls hP hS hl) (fun h => kf h H locs ls hP hS hl)
theorem zt_icmp_ne (C : za_C p s m args c cc nL own g D cy) {x y : Int32} {off : Int} (tgt : Nat) (hdg : decode cc pc = .ok (.if_icmp .ne off, 3)) (ht : (pc : Int) + off = (tgt : Int)) (kt : ¬ x = y → zt p l e R s m args below meth c nc ns Q g D cy nL M tgt lv rest) (kf : x = y → zt p l e R s m args below meth c nc ns Q g D cy nL M (pc + 3) lv rest) : zt p l e R s m args below meth c nc ns Q g D cy nL M pc lv (.int y :: .int x :: rest) := fun H locs ls hP hS hl => lv_icmp_ne C.1 C.2.1 hdg ht (fun h => kt h H locs ls hP hS hl) (fun h => kf h H locs ls hP hS hl)
theorem zt_icmp_lt (C : za_C p s m args c cc nL own g D cy) {x y : Int32} {off : Int} (tgt : Nat) (hdg : decode cc pc = .ok (.if_icmp .lt off, 3)) (ht : (pc : Int) + off = (tgt : Int)) (kt : x < y → zt p l e R s m args below meth c nc ns Q g D cy nL M tgt lv rest) (kf : ¬ x < y → zt p l e R s m args below meth c nc ns Q g D cy nL M (pc + 3) lv rest) : zt p l e R s m args below meth c nc ns Q g D cy nL M pc lv (.int y :: .int x :: rest) := fun H locs ls hP hS hl => lv_icmp_lt C.1 C.2.1 hdg ht (fun h => kt h H locs ls hP hS hl) (fun h => kf h H locs ls hP hS hl)
theorem zt_icmp_ge (C : za_C p s m args c cc nL own g D cy) {x y : Int32} {off : Int} (tgt : Nat) (hdg : decode cc pc = .ok (.if_icmp .ge off, 3)) (ht : (pc : Int) + off = (tgt : Int)) (kt : y ≤ x → zt p l e R s m args below meth c nc ns Q g D cy nL M tgt lv rest) (kf : ¬ y ≤ x → zt p l e R s m args below meth c nc ns Q g D cy nL M (pc + 3) lv rest) : zt p l e R s m args below meth c nc ns Q g D cy nL M pc lv (.int y :: .int x :: rest) := fun H locs ls hP hS hl => lv_icmp_ge C.1 C.2.1 hdg ht (fun h => kt h H locs ls hP hS hl) (fun h => kf h H locs ls hP hS hl)
theorem zt_icmp_gt (C : za_C p s m args c cc nL own g D cy) {x y : Int32} {off : Int} (tgt : Nat) (hdg : decode cc pc = .ok (.if_icmp .gt off, 3)) (ht : (pc : Int) + off = (tgt : Int)) (kt : y < x → zt p l e R s m args below meth c nc ns Q g D cy nL M tgt lv rest) (kf : ¬ y < x → zt p l e R s m args below meth c nc ns Q g D cy nL M (pc + 3) lv rest) : zt p l e R s m args below meth c nc ns Q g D cy nL M pc lv (.int y :: .int x :: rest) := fun H locs ls hP hS hl => lv_icmp_gt C.1 C.2.1 hdg ht (fun h => kt h H locs ls hP hS hl) (fun h => kf h H locs ls hP hS hl)
theorem zt_icmp_le (C : za_C p s m args c cc nL own g D cy) {x y : Int32} {off : Int} (tgt : Nat) (hdg : decode cc pc = .ok (.if_icmp .le off, 3)) (ht : (pc : Int) + off = (tgt : Int)) (kt : x ≤ y → zt p l e R s m args below meth c nc ns Q g D cy nL M tgt lv rest) (kf : ¬ x ≤ y → zt p l e R s m args below meth c nc ns Q g D cy nL M (pc + 3) lv rest) : zt p l e R s m args below meth c nc ns Q g D cy nL M pc lv (.int y :: .int x :: rest) := fun H locs ls hP hS hl => lv_icmp_le C.1 C.2.1 hdg ht (fun h => kt h H locs ls hP hS hl) (fun h => kf h H locs ls hP hS hl)
theorem zt_goto (C : za_C p s m args c cc nL own g D cy) {off : Int} (tgt : Nat) (hdg : decode cc pc = .ok (.goto off, 3)) (ht : (pc : Int) + off = (tgt : Int)) {st : List Value} (k : zt p l e R s m args below meth c nc ns Q g D cy nL M tgt lv st) : zt p l e R s m args below meth c nc ns Q g D cy nL M pc lv st := fun H locs ls hP hS hl => lv_goto C.1 C.2.1 hdg ht (k H locs ls hP hS hl)
theorem zt_lookup (C : za_C p s m args c cc nL own g D cy) {dflt : Int} {ps : Array (Int × Int)} {len : Nat} {x : Int32} {off : Int} (tgt : Nat) (hdg : decode cc pc = .ok (.lookupswitch dflt ps, len)) (hp : (ps.toList.zip (ps.toList.drop 1)).all (fun (a, next) => a.1 < next.1) = true) (ho : Op.lookupswitch.offset ps.toList dflt x.toInt = off) (ht : (pc : Int) + off = (tgt : Int)) (k : zt p l e R s m args below meth c nc ns Q g D cy nL M tgt lv rest) : zt p l e R s m args below meth c nc ns Q g D cy nL M pc lv (.int x :: rest) := fun H locs ls hP hS hl => lv_lookup C.1 C.2.1 hdg hp ho ht (k H locs ls hP hS hl)
theorem zt_tableIn (C : za_C p s m args c cc nL own g D cy) {dflt lo hi : Int} {offs : Array Int} {len : Nat} {x : Int32} {off : Int} (tgt : Nat) (hdg : decode cc pc = .ok (.tableswitch dflt lo hi offs, len)) (h1 : ¬ x.toInt < lo) (h2 : ¬ hi < x.toInt) (ho : offs[(x.toInt - lo).toNat]? = some off) (ht : (pc : Int) + off = (tgt : Int)) (k : zt p l e R s m args below meth c nc ns Q g D cy nL M tgt lv rest) : zt p l e R s m args below meth c nc ns Q g D cy nL M pc lv (.int x :: rest) := fun H locs ls hP hS hl => lv_tableIn C.1 C.2.1 hdg h1 h2 ho ht (k H locs ls hP hS hl)
theorem zt_tableOut (C : za_C p s m args c cc nL own g D cy) {dflt lo hi : Int} {offs : Array Int} {len : Nat} {x : Int32} (tgt : Nat) (hdg : decode cc pc = .ok (.tableswitch dflt lo hi offs, len)) (h : x.toInt < lo ∨ hi < x.toInt) (ht : (pc : Int) + dflt = (tgt : Int)) (k : zt p l e R s m args below meth c nc ns Q g D cy nL M tgt lv rest) : zt p l e R s m args below meth c nc ns Q g D cy nL M pc lv (.int x :: rest) := fun H locs ls hP hS hl => lv_tableOut C.1 C.2.1 hdg h ht (k H locs ls hP hS hl)
theorem zt_ldc (C : za_C p s m args c cc nL own g D cy) {v : Int32} {index : Nat} (hc : Cond.constant own index v ∈ lw_gd) (hdg : decode cc pc = .ok (.ldc index, 2)) (k : zt p l e R s m args below meth c nc ns Q g D cy nL M (pc + 2) lv (.int v :: rest)) : zt p l e R s m args below meth c nc ns Q g D cy nL M pc lv rest := fun H locs ls hP hS hl => lv_ldc C.1 C.2.1 C.2.2.2.1 (C.2.2.2.2.1 _ hc) hdg (k H locs ls hP hS hl)
theorem zt_ldc2 (C : za_C p s m args c cc nL own g D cy) {v : Int64} {index : Nat} (hc : Cond.constantLong own index v ∈ lw_gd) (hdg : decode cc pc = .ok (.ldc2_w index, 3)) (k : zt p l e R s m args below meth c nc ns Q g D cy nL M (pc + 3) lv (.long v :: rest)) : zt p l e R s m args below meth c nc ns Q g D cy nL M pc lv rest := fun H locs ls hP hS hl => lv_ldc2 C.1 C.2.1 C.2.2.2.1 (C.2.2.2.2.1 _ hc) hdg (k H locs ls hP hS hl)
theorem zt_get (C : za_C p s m args c cc nL own g D cy) {x : za_L} {index ci k N : Nat} {Cn ref : String} {T : u_T} {fs : List Value} {v : Value} (hx : x ∈ za_cells) (hf : za_FL own index ci k N Cn T ref) (he : za_E g cy M x = .inr (ci, fs)) (hv : fs[k]? = some v) (hdg : decode cc pc = .ok (.getfield index, 3)) (kk : zt p l e R s m args below meth c nc ns Q g D cy nL M (pc + 3) lv (v :: rest)) : zt p l e R s m args below meth c nc ns Q g D cy nL M pc lv (.ref (g x) :: rest) := by
  intro H locs ls hP hS hl
  obtain ⟨q0, hq⟩ := List.getElem?_of_mem hx
  obtain ⟨f1, f2, f3, f4, f5⟩ := hf
  exact va_get C.1 C.2.1 C.2.2.2.2.1 f2 C.2.2.2.1 C.2.2.2.2.2.1.1 hP q0 ((za_at g cy M hq).trans (by rw [he])) f1 k f3 (C.2.2.2.2.1 _ f4) (fun y hy => by rw [← f5]; exact hy) hv hdg (kk H locs ls hP hS hl)
theorem zt_put (C : za_C p s m args c cc nL own g D cy) {x : za_L} {index ci k N : Nat} {Cn ref : String} {T : u_T} {fs : List Value} {z : Int32} {ty : FieldType} (hx : x ∈ za_cells) (hf : za_FL own index ci k N Cn T ref) (ht : za_FT k N T ty) (hn : narrow ty (.int z) = .int z) (hfit : fits ty (.int z) = true) (he : za_E g cy M x = .inr (ci, fs)) (he' : za_E0 g cy (upd (M.1 x) k z) (M.2 x.2.1) x = .inr (ci, fs.set k (.int z))) (hlen : k < fs.length) (hdg : decode cc pc = .ok (.putfield index, 3)) (kk : zt p l e R s m args below meth c nc ns Q g D cy nL (za_up M x k z) (pc + 3) lv rest) : zt p l e R s m args below meth c nc ns Q g D cy nL M pc lv (.int z :: .ref (g x) :: rest) := by
  intro H locs ls hP hS hl
  obtain ⟨q0, hq⟩ := List.getElem?_of_mem hx
  obtain ⟨f1, f2, f3, f4, f5⟩ := hf
  obtain ⟨t1, t2, ⟨ty0, t3⟩, t4⟩ := ht
  have e1 := za_set (g := g) (cy := cy) (M := M) (M' := za_up M x k z) hq (fun y _ hy => za_E_up g cy M k z hy)
  rw [za_E_self, he'] at e1
  refine va_put C.1 C.2.1 C.2.2.2.2.1 f2 ty0 t3 t4 C.2.2.2.1 C.2.2.2.2.2.1.1 hP (za_DA cy M C.2.2.2.2.2.2) hS q0 ((za_at g cy M hq).trans (by rw [he])) f1 k f3 (C.2.2.2.2.1 _ f4) (fun y hy => by rw [← f5]; exact hy) t1 t2 hn hfit hlen hdg (fun H1 locs1 hP1 _ hS1 => ?_)
  rw [e1] at hP1
  exact kk H1 locs1 ls hP1 hS1 hl
theorem zt_iald (C : za_C p s m args c cc nL own g D cy) {x : za_L} {n : Nat} {i : Int32} (hx : x ∈ za_cells) (he : ∀ M : za_M, za_E g cy M x = .inl (cy 0, n, .inl (M.1 x))) (hin : vp_in i n) (hdg : decode cc pc = .ok (.iaload, 1)) (kk : zt p l e R s m args below meth c nc ns Q g D cy nL M (pc + 1) lv (.int (M.1 x i.toNatClampNeg) :: rest)) : zt p l e R s m args below meth c nc ns Q g D cy nL M pc lv (.int i :: .ref (g x) :: rest) := by
  intro H locs ls hP hS hl
  obtain ⟨q0, hq⟩ := List.getElem?_of_mem hx
  exact va_iald C.1 C.2.1 C.2.2.2.2.2.1.1 hP q0 0 ((za_at g cy M hq).trans (by rw [he])) rfl hin hdg (kk H locs ls hP hS hl)
theorem zt_iast (C : za_C p s m args c cc nL own g D cy) {x : za_L} {n : Nat} {i z : Int32} (hx : x ∈ za_cells) (he : ∀ M : za_M, za_E g cy M x = .inl (cy 0, n, .inl (M.1 x))) (hin : vp_in i n) (hdg : decode cc pc = .ok (.iastore, 1)) (kk : zt p l e R s m args below meth c nc ns Q g D cy nL (za_up M x i.toNatClampNeg z) (pc + 1) lv rest) : zt p l e R s m args below meth c nc ns Q g D cy nL M pc lv (.int z :: .int i :: .ref (g x) :: rest) := by
  intro H locs ls hP hS hl
  obtain ⟨q0, hq⟩ := List.getElem?_of_mem hx
  have e1 := za_set (g := g) (cy := cy) (M := M) (M' := za_up M x i.toNatClampNeg z) hq (fun y _ hy => za_E_up g cy M _ z hy)
  rw [he, za_up_row] at e1
  refine va_iast C.1 C.2.1 C.2.2.2.2.2.1.1 hP (za_DA cy M C.2.2.2.2.2.2) hS q0 0 ((za_at g cy M hq).trans (by rw [he])) rfl hin hdg (fun H1 locs1 hP1 _ hS1 => ?_)
  rw [e1] at hP1
  exact kk H1 locs1 ls hP1 hS1 hl
theorem zt_aald (C : za_C p s m args c cc nL own g D cy) {x : za_L} {n t : Nat} {Cn : String} {h : Nat → Nat} {i : Int32} (hx : x ∈ za_cells) (he : za_E g cy M x = .inl (cy t, n, .inr (.inr (.inr (.inr (fun j => some (h j))))))) (ht : (za_tys cy)[t]? = some (cy t, .object Cn)) (hin : vp_in i n) (hdg : decode cc pc = .ok (.aaload, 1)) (kk : zt p l e R s m args below meth c nc ns Q g D cy nL M (pc + 1) lv (.ref (h i.toNatClampNeg) :: rest)) : zt p l e R s m args below meth c nc ns Q g D cy nL M pc lv (.int i :: .ref (g x) :: rest) := by
  intro H locs ls hP hS hl
  obtain ⟨q0, hq⟩ := List.getElem?_of_mem hx
  exact va_aldq (f := fun j => some (h j)) C.1 C.2.1 C.2.2.2.2.2.1.1 hP q0 t ((za_at g cy M hq).trans (by rw [he])) ht hin hdg (kk H locs ls hP hS hl)
theorem zt_aast (C : za_C p s m args c cc nL own g D cy) {k j : Nat} {i : Int32} (hk : k < 3) (hj : j < 10) (hin : vp_in i 10) (hdg : decode cc pc = .ok (.aastore, 1)) (kk : zt p l e R s m args below meth c nc ns Q g D cy nL (za_uq M k i.toNatClampNeg j) (pc + 1) lv rest) : zt p l e R s m args below meth c nc ns Q g D cy nL M pc lv (.ref (g (5, k, j)) :: .int i :: .ref (g (12, k, 0)) :: rest) := by
  intro H locs ls hP hS hl
  have hx : (12, k, 0) ∈ za_cells := za_mem (j := 12) rfl hk (by decide)
  have hy : (5, k, j) ∈ za_cells := za_mem (j := 5) rfl hk hj
  obtain ⟨q0, hq⟩ := List.getElem?_of_mem hx
  obtain ⟨q1, hq1⟩ := List.getElem?_of_mem hy
  have e1 := za_set (g := g) (cy := cy) (M := M) (M' := za_uq M k i.toNatClampNeg j) hq (fun y hc hy => za_E_uq g cy M _ j (fun h => hy (by
    obtain ⟨y1, y2, y3⟩ := y
    obtain ⟨h1, h2⟩ := h
    simp only at h1 h2
    subst h1; subst h2
    have h3 : y3 = 0 := by
      unfold za_cells at hc
      obtain ⟨q, h4, h5⟩ := List.mem_flatMap.mp hc
      obtain ⟨c1, h6, h7⟩ := List.mem_flatMap.mp h5
      obtain ⟨i1, h8, h9⟩ := List.mem_map.mp h7
      simp only [Prod.mk.injEq] at h9
      obtain ⟨a1, a2, a3⟩ := h9
      have h10 : ∀ q ∈ za_kinds, q.1 = 12 → q.2.2 = 1 := by decide +kernel
      have h11 := h10 q h4 a1
      have h12 := List.mem_range.mp h8
      omega
    rw [h3])))
  have e2 : za_E g cy (za_uq M k i.toNatClampNeg j) (12, k, 0) = .inl (cy 3, 10, .inr (.inr (.inr (.inr (va_up (fun j => some (g (5, k, M.2 k j % 10))) i.toNatClampNeg (some (g (5, k, j)))))))) := by
    have e3 : (fun z => some (g (5, k, (za_uq M k i.toNatClampNeg j).2 k z % 10))) = va_up (fun z => some (g (5, k, M.2 k z % 10))) i.toNatClampNeg (some (g (5, k, j))) := by
      funext z
      unfold va_up za_uq
      by_cases hz : z = i.toNatClampNeg
      · simp [hz, Nat.mod_eq_of_lt hj]
      · simp [hz]
    rw [za_E_12, e3]
  rw [e2] at e1
  refine va_astq C.1 C.2.1 C.2.2.2.2.2.1.1 hP (za_DA cy M C.2.2.2.2.2.2) hS q0 3 q1 3 (n := 10) (r := (RX3, TX3, 5)) ((za_at g cy M hq).trans (by rw [za_E_12])) rfl ((za_at g cy M hq1).trans (by rw [za_E_5])) rfl hin hdg (fun H1 locs1 hP1 _ hS1 => ?_)
  rw [e1] at hP1
  exact kk H1 locs1 ls hP1 hS1 hl
theorem zt_gets (C : za_C p s m args c cc nL own g D cy) {Cn n d : String} {t index : Nat} (hZ : va_Z Cn n d (.ref t) (za_A g) s s.heap) (hw : Cond.fieldLink own index Cn n d ∈ lw_gd) (hdg : decode cc pc = .ok (.getstatic index, 3)) (kk : zt p l e R s m args below meth c nc ns Q g D cy nL M (pc + 3) lv (.ref t :: rest)) : zt p l e R s m args below meth c nc ns Q g D cy nL M pc lv rest := fun H locs ls hP hS hl => va_gets C.1 C.2.1 hZ hS C.2.2.2.1 (C.2.2.2.2.1 _ hw) (fun _ h => h) hdg (kk H locs ls hP hS hl)
theorem zt_getsN (C : za_C p s m args c cc nL own g D cy) {Cn n d host : String} {t index : Nat} (hZ : va_Z Cn n d (.ref t) (za_A g) s s.heap) (hw : Cond.fieldLinkNest own index Cn n d host ∈ za_nests) (hdg : decode cc pc = .ok (.getstatic index, 3)) (kk : zt p l e R s m args below meth c nc ns Q g D cy nL M (pc + 3) lv (.ref t :: rest)) : zt p l e R s m args below meth c nc ns Q g D cy nL M pc lv rest := fun H locs ls hP hS hl => va_getsN C.1 C.2.1 hZ hS C.2.2.2.1 (va_Nw.use rfl (C.2.2.2.2.2.1.2.1 _ hw)) (fun _ h => h) hdg (kk H locs ls hP hS hl)
theorem zt_tald (C : za_C p s m args c cc nL own g D cy) {t N : Nat} {f : Nat → Int32} {i : Int32} (hT : va_T .int t N (fun j => .int (f j)) (za_A g) s s.heap) (hin : vp_in i N) (hdg : decode cc pc = .ok (.iaload, 1)) (kk : zt p l e R s m args below meth c nc ns Q g D cy nL M (pc + 1) lv (.int (f i.toNatClampNeg) :: rest)) : zt p l e R s m args below meth c nc ns Q g D cy nL M pc lv (.int i :: .ref t :: rest) := fun H locs ls hP hS hl => va_ti C.1 C.2.1 hT hS hin rfl hdg (kk H locs ls hP hS hl)
theorem zt_tcald (C : za_C p s m args c cc nL own g D cy) {t N : Nat} {f : Nat → Int32} {i : Int32} (hT : va_T .char t N (fun j => .int (f j)) (za_A g) s s.heap) (hin : vp_in i N) (hdg : decode cc pc = .ok (.caload, 1)) (kk : zt p l e R s m args below meth c nc ns Q g D cy nL M (pc + 1) lv (.int (f i.toNatClampNeg) :: rest)) : zt p l e R s m args below meth c nc ns Q g D cy nL M pc lv (.int i :: .ref t :: rest) := fun H locs ls hP hS hl => va_tc C.1 C.2.1 hT hS hin rfl hdg (kk H locs ls hP hS hl)
theorem zt_copy (C : za_C p s m args c cc nL own g D cy) {x y : za_L} {n0 n1 : Nat} {sp dp n : Int32} {index : Nat} (hx : x ∈ za_cells) (hy : y ∈ za_cells) (he : ∀ M : za_M, za_E g cy M x = .inl (cy 0, n0, .inl (M.1 x))) (he1 : ∀ M : za_M, za_E g cy M y = .inl (cy 0, n1, .inl (M.1 y))) (hk : za_cok sp dp n n0 n1) (hlink : Cond.methodLink own index arraycopyName ∈ lw_gd) (hnat : Cond.native arraycopyName ∈ lw_gd) (hstat : Cond.static arraycopyName ∈ lw_gd) (hini : Cond.initialized "java/lang/System" ∈ lw_gd) (hframes : 1 ≤ R.frames) (hlocals : (rest.map fun v => v.category).sum + (nativeFrameWords "java/lang/System" "arraycopy" 5 + 11) ≤ R.locals) (hdg : decode cc pc = .ok (.invokestatic index, 3)) (kk : zt p l e R s m args below meth c nc ns Q g D cy nL (za_uf M y (va_cpy (M.1 x) (M.1 y) sp.toNatClampNeg dp.toNatClampNeg n.toNatClampNeg)) (pc + 3) lv rest) : zt p l e R s m args below meth c nc ns Q g D cy nL M pc lv (.int n :: .int dp :: .ref (g y) :: .int sp :: .ref (g x) :: rest) := by
  intro H locs ls hP hS hl
  obtain ⟨q0, hq⟩ := List.getElem?_of_mem hx
  obtain ⟨q1, hq1⟩ := List.getElem?_of_mem hy
  have e1 := za_set (g := g) (cy := cy) (M := M) (M' := za_uf M y (va_cpy (M.1 x) (M.1 y) sp.toNatClampNeg dp.toNatClampNeg n.toNatClampNeg)) hq1 (fun z _ hz => za_E_uf g cy M _ hz)
  rw [he1, za_uf_row] at e1
  have ts := C.2.2.2.2.1
  refine va_copyi C.1 C.2.1 (C.2.2.1.trans hl.1.symm) C.2.2.2.1 (ts _ hlink) (ts _ hnat) (ts _ hstat) (ts _ hini) C.2.2.2.2.2.1.1 hP (za_DA cy M C.2.2.2.2.2.2) hS q0 q1 0 0 ((za_at g cy M hq).trans (by rw [he])) ((za_at g cy M hq1).trans (by rw [he1])) rfl rfl rfl hk.1 hk.2.1 hk.2.2.1 hk.2.2.2.1 hk.2.2.2.2 (fun _ _ => rfl) hframes hlocals hdg (fun H1 locs1 hP1 _ hS1 => ?_)
  rw [e1] at hP1
  exact kk H1 locs1 ls hP1 hS1 hl
end ZU
/-- a method's contract: from the world of M it returns with K -/
def za_Pr (g : za_L → Nat) (D : va_G) (cy : Nat → ClassId) (vs : List Value) (M : za_M) : Array Value → State → Prop := va_Pc vs (fun U => va_P D vwCl (za_Wl g cy M) U.heap ∧ za_F g D cy U)
def za_Qi (g : za_L → Nat) (D : va_G) (cy : Nat → ClassId) (K : Int32 → za_M → Prop) : Array Value → State → Outcome → State → Prop := va_Qi K (fun M' t => va_P D vwCl (za_Wl g cy M') t.heap) (za_A g)
def za_Qv (g : za_L → Nat) (D : va_G) (cy : Nat → ClassId) (K : za_M → Prop) : Array Value → State → Outcome → State → Prop := va_Qv K (fun M' t => va_P D vwCl (za_Wl g cy M') t.heap) (za_A g)
abbrev za_rm (fr lo : Nat) : Room := { frames := fr, cells := 0, slots := 0, locals := lo }
def za_Mi (l : Launch) (g : za_L → Nat) (D : va_G) (cy : Nat → ClassId) (y : MethodName) (b : ByteArray) (n : Nat) (ret : Option FieldType) (fr lo : Nat) (vs : List Value) (M : za_M) (K : Int32 → za_M → Prop) : Prop := Met l y (.code y b n ret :: lw_gd) (za_rm fr lo) (za_Pr g D cy vs M) (za_Qi g D cy K) 0 0 (za_A g)
def za_Mv (l : Launch) (g : za_L → Nat) (D : va_G) (cy : Nat → ClassId) (y : MethodName) (b : ByteArray) (n : Nat) (ret : Option FieldType) (fr lo : Nat) (vs : List Value) (M : za_M) (K : za_M → Prop) : Prop := Met l y (.code y b n ret :: lw_gd) (za_rm fr lo) (za_Pr g D cy vs M) (za_Qv g D cy K) 0 0 (za_A g)
theorem za_Pr_blind (g : za_L → Nat) (D : va_G) (cy : Nat → ClassId) (vs : List Value) (M : za_M) : FrameBlind (za_Pr g D cy vs M) := fun a U g' mk h => ⟨h.1, h.2.1, za_F.blind (V := U.calling g' mk a) h.2.2 rfl rfl⟩
theorem za_openi {l : Launch} {g : za_L → Nat} {D : va_G} {cy : Nat → ClassId} {y : MethodName} {b : ByteArray} {n : Nat} {ret : Option FieldType} {fr lo : Nat} {vs : List Value} {M : za_M} {K : Int32 → za_M → Prop} (hJ : za_J g) (hy : plainName y.cls = true) (hn : (lg_sl vs).length ≤ n)
    (body : ∀ (p : Program) (e : Env) (s : State) (m : MethodId) (args : Array Value) (below : List Frame) (meth : Method) (c : Code), za_C p s m args c b n y.cls g D cy → meth.sig.returnType = ret → meth.locks = false → zt p l e (za_rm fr lo) s m args below meth c 0 0 (MQ below (za_Qi g D cy K) args s 0 0 (za_A g)) g D cy n M 0 (lv_args 0 vs) []) : za_Mi l g D cy y b n ret fr lo vs M K := by
  refine Met.ofW (cc := b) (maxL := n) (ret := ret) hy rfl ?_
  intro p e s m args below meth c s₁ B hml hv
  obtain ⟨rfl, hP, hF⟩ := hv
  have hts := atoms_spec (ws := .code y b n ret :: lw_gd) B.pre
  have h := body p e s m vs.toArray below meth c ⟨B.exec, B.bytes, hml, findClass_of_methodNamed B.named, fun w hw => hts w (List.mem_cons_of_mem _ hw), hF, hJ⟩ B.returns B.notSynchronized
  have hl := lv_entry vs hn
  rw [lg_entry_eq]
  exact h s.heap [] _ hP va_S.rf hl
theorem za_openv {l : Launch} {g : za_L → Nat} {D : va_G} {cy : Nat → ClassId} {y : MethodName} {b : ByteArray} {n : Nat} {ret : Option FieldType} {fr lo : Nat} {vs : List Value} {M : za_M} {K : za_M → Prop} (hJ : za_J g) (hy : plainName y.cls = true) (hn : (lg_sl vs).length ≤ n)
    (body : ∀ (p : Program) (e : Env) (s : State) (m : MethodId) (args : Array Value) (below : List Frame) (meth : Method) (c : Code), za_C p s m args c b n y.cls g D cy → meth.sig.returnType = ret → meth.locks = false → zt p l e (za_rm fr lo) s m args below meth c 0 0 (MQ below (za_Qv g D cy K) args s 0 0 (za_A g)) g D cy n M 0 (lv_args 0 vs) []) : za_Mv l g D cy y b n ret fr lo vs M K := by
  refine Met.ofW (cc := b) (maxL := n) (ret := ret) hy rfl ?_
  intro p e s m args below meth c s₁ B hml hv
  obtain ⟨rfl, hP, hF⟩ := hv
  have hts := atoms_spec (ws := .code y b n ret :: lw_gd) B.pre
  have h := body p e s m vs.toArray below meth c ⟨B.exec, B.bytes, hml, findClass_of_methodNamed B.named, fun w hw => hts w (List.mem_cons_of_mem _ hw), hF, hJ⟩ B.returns B.notSynchronized
  have hl := lv_entry vs hn
  rw [lg_entry_eq]
  exact h s.heap [] _ hP va_S.rf hl
section ZR
variable {p : Program} {l : Launch} {e : Env} {R : Room} {s : State} {m : MethodId} {args : Array Value} {below : List Frame} {meth : Method} {c : Code} {nc ns : Nat} {g : za_L → Nat} {D : va_G} {cy : Nat → ClassId} {nL : Nat} {cc : ByteArray} {own : String} {M : za_M} {pc : Nat} {lv : List (Nat × Value)} {rest : List Value}
theorem zt_ret (C : za_C p s m args c cc nL own g D cy) {K : Int32 → za_M → Prop} {ty : FieldType} {v : Int32} (hr : meth.sig.returnType = some ty) (hk : meth.locks = false) (hn : narrow ty (.int v) = .int v) (hdg : decode cc pc = .ok (.ireturn, 1)) (h : K v M) : zt p l e R s m args below meth c 0 0 (MQ below (za_Qi g D cy K) args s 0 0 (za_A g)) g D cy nL M pc lv [.int v] := fun H locs ls hP hS hl => W.zret C.1 C.2.1 hr hn (fun t ht hW => ⟨⟨v, M, rfl, h, show va_P D vwCl (za_Wl g cy M) t.heap by rw [ht]; exact hP⟩, hS.F ht⟩) hS.2.2 hdg hk
theorem zt_vret (C : za_C p s m args c cc nL own g D cy) {K : za_M → Prop} (hr : meth.sig.returnType = none) (hk : meth.locks = false) (hdg : decode cc pc = .ok (.return_, 1)) (h : K M) : zt p l e R s m args below meth c 0 0 (MQ below (za_Qv g D cy K) args s 0 0 (za_A g)) g D cy nL M pc lv [] := fun H locs ls hP hS hl => W.vret C.1 C.2.1 hr (fun t ht hW => ⟨⟨M, rfl, h, show va_P D vwCl (za_Wl g cy M) t.heap by rw [ht]; exact hP⟩, hS.F ht⟩) hS.2.2 hdg hk
end ZR
end
section
/-! calls: a callee's contract, and on behind it -/
def za_Y (y : MethodName) (b : ByteArray) (n : Nat) (ret : Option FieldType) (na : Nat) : Prop := Cond.code y b n ret ∈ lw_gd ∧ Cond.initialized y.cls ∈ lw_gd ∧ (y.cls ≠ "java/lang/invoke/MethodHandle" ∧ y.cls ≠ "java/lang/invoke/VarHandle" ∧ (parseMethodDescriptor y.desc).map (fun d => d.parameters.length) = some na)
def za_YV (own : String) (index : Nat) (y : MethodName) : Prop := Cond.methodLink own index y ∈ lw_gd ∧ Cond.instanceMethod y ∈ lw_gd ∧ Cond.selects y.cls y y ∈ lw_gd
def za_YS (own : String) (index : Nat) (y : MethodName) : Prop := Cond.methodLink own index y ∈ lw_gd ∧ Cond.static y ∈ lw_gd
def za_YN (own : String) (index : Nat) (y : MethodName) : Prop := Cond.methodLinkNest own index y "AshLoans" ∈ za_nests ∧ Cond.static y ∈ lw_gd
section ZC
variable {p : Program} {l : Launch} {e : Env} {R : Room} {s : State} {m : MethodId} {args : Array Value} {below : List Frame} {meth : Method} {c : Code} {nc ns : Nat} {Q : State → Prop} {g : za_L → Nat} {D : va_G} {cy : Nat → ClassId} {nL : Nat} {cc : ByteArray} {own : String} {M : za_M} {pc : Nat} {lv : List (Nat × Value)} {rest : List Value}
theorem zt_cVi (C : za_C p s m args c cc nL own g D cy) {y : MethodName} {b : ByteArray} {n fr lo index : Nat} {ret : Option FieldType} {K : Int32 → za_M → Prop} {x : za_L} {ci N : Nat} {T : u_T} {fs : List Value} (As : List Value) (hM : za_Mi l g D cy y b n ret fr lo (.ref (g x) :: As) M K) (hx : x ∈ za_cells) (he : za_E g cy M x = .inr (ci, fs)) (hc : vwCl[ci]? = some (y.cls, T, N)) (hY : za_Y y b n ret As.length) (hV : za_YV own index y) (hcat : (rest.map fun v => v.category).sum ≤ 8) (hR : fr + 1 ≤ R.frames ∧ 8 + (n + 11) + lo ≤ R.locals) (hf : nc + 0 ≤ R.cells ∧ ns + 0 ≤ R.slots) (hdg : decode cc pc = .ok (.invokevirtual index, 3)) {st : List Value} (hst : st = As.reverse ++ .ref (g x) :: rest) (kk : ∀ (r : Int32) (M' : za_M), K r M' → zt p l e R s m args below meth c nc ns Q g D cy nL M' (pc + 3) lv (.int r :: rest)) : zt p l e R s m args below meth c nc ns Q g D cy nL M pc lv st := by
  intro H locs ls hP hS hl
  obtain ⟨q0, hq⟩ := List.getElem?_of_mem hx
  obtain ⟨y1, y2, y3⟩ := hY
  obtain ⟨v1, v2, v3⟩ := hV
  subst hst
  have hG : GoodIn lw_gd (wsV own index y.cls y (.code y b n ret :: lw_gd)) := za_gapp (fun w hw => by
    rcases List.mem_cons.mp hw with h | hw
    · rw [h]; exact v1
    rcases List.mem_cons.mp hw with h | hw
    · rw [h]; exact v2
    rcases List.mem_cons.mp hw with h | hw
    · rw [h]; exact v3
    rw [List.mem_singleton.mp hw]; exact y2) (za_gin y1)
  refine va_calli (va_runV (As := As) (rest := rest) ⟨C.1, C.2.1, C.2.2.1, C.2.2.2.1, C.2.2.2.2.1⟩ hM (cwV As.length C.2.2.2.2.1 hG rfl rfl rfl ⟨rfl, y3⟩ hR) ⟨za_Pr_blind g D cy _ M, va_recv C.2.2.2.2.2.1.1 hP hc ((za_at g cy M hq).trans (by rw [he])), fun U hU hW => ⟨rfl, by rw [hU]; exact hP, za_F.go C.2.2.2.2.2.1 hU hW hS⟩⟩ rfl rfl hl.1 rfl (lv_room hcat) hdg hf) hS (fun q _ h => h) (fun q h => h) (fun r u t H1 locs1 ht hvm hw hB hz1 hk1 hS1 => kk r u hw H1 locs1 ls (by rw [← ht]; exact hB) hS1 hl)
theorem zt_cSi (C : za_C p s m args c cc nL own g D cy) {y : MethodName} {b : ByteArray} {n fr lo index : Nat} {ret : Option FieldType} {K : Int32 → za_M → Prop} (As : List Value) (hM : za_Mi l g D cy y b n ret fr lo As M K) (hY : za_Y y b n ret As.length) (hV : za_YS own index y) (hcat : (rest.map fun v => v.category).sum ≤ 8) (hR : fr + 1 ≤ R.frames ∧ 8 + (n + 11) + lo ≤ R.locals) (hf : nc + 0 ≤ R.cells ∧ ns + 0 ≤ R.slots) (hdg : decode cc pc = .ok (.invokestatic index, 3)) {st : List Value} (hst : st = As.reverse ++ rest) (kk : ∀ (r : Int32) (M' : za_M), K r M' → zt p l e R s m args below meth c nc ns Q g D cy nL M' (pc + 3) lv (.int r :: rest)) : zt p l e R s m args below meth c nc ns Q g D cy nL M pc lv st := by
  intro H locs ls hP hS hl
  obtain ⟨y1, y2, y3⟩ := hY
  obtain ⟨v1, v2⟩ := hV
  subst hst
  have hG : GoodIn lw_gd (va_wsS own index y (.code y b n ret :: lw_gd)) := za_gapp (fun w hw => by
    rcases List.mem_cons.mp hw with h | hw
    · rw [h]; exact v1
    rcases List.mem_cons.mp hw with h | hw
    · rw [h]; exact v2
    rw [List.mem_singleton.mp hw]; exact y2) (za_gin y1)
  refine va_calli (va_runS (As := As) (rest := rest) ⟨C.1, C.2.1, C.2.2.1, C.2.2.2.1, C.2.2.2.2.1⟩ hM (va_cwS As.length C.2.2.2.2.1 hG rfl rfl rfl y3 hR) ⟨za_Pr_blind g D cy _ M, fun U hU hW => ⟨rfl, by rw [hU]; exact hP, za_F.go C.2.2.2.2.2.1 hU hW hS⟩⟩ rfl rfl hl.1 rfl (lv_room hcat) hdg hf) hS (fun q _ h => h) (fun q h => h) (fun r u t H1 locs1 ht hvm hw hB hz1 hk1 hS1 => kk r u hw H1 locs1 ls (by rw [← ht]; exact hB) hS1 hl)
theorem zt_cNi (C : za_C p s m args c cc nL own g D cy) {y : MethodName} {b : ByteArray} {n fr lo index : Nat} {ret : Option FieldType} {K : Int32 → za_M → Prop} (As : List Value) (hM : za_Mi l g D cy y b n ret fr lo As M K) (hY : za_Y y b n ret As.length) (hV : za_YN own index y) (hcat : (rest.map fun v => v.category).sum ≤ 8) (hR : fr + 1 ≤ R.frames ∧ 8 + (n + 11) + lo ≤ R.locals) (hf : nc + 0 ≤ R.cells ∧ ns + 0 ≤ R.slots) (hdg : decode cc pc = .ok (.invokestatic index, 3)) {st : List Value} (hst : st = As.reverse ++ rest) (kk : ∀ (r : Int32) (M' : za_M), K r M' → zt p l e R s m args below meth c nc ns Q g D cy nL M' (pc + 3) lv (.int r :: rest)) : zt p l e R s m args below meth c nc ns Q g D cy nL M pc lv st := by
  intro H locs ls hP hS hl
  obtain ⟨y1, y2, y3⟩ := hY
  obtain ⟨v1, v2⟩ := hV
  subst hst
  refine va_calli (va_runSN (As := As) (rest := rest) ⟨C.1, C.2.1, C.2.2.1, C.2.2.2.1, C.2.2.2.2.1⟩ hM ⟨va_cnB As.length C.2.2.2.2.1 (za_gin y1) rfl rfl rfl (C.2.2.2.2.2.1.2.1 _ v1) (C.2.2.2.2.1 _ y2) y3 hR, C.2.2.2.2.1 _ v2, trivial⟩ ⟨za_Pr_blind g D cy _ M, fun U hU hW => ⟨rfl, by rw [hU]; exact hP, za_F.go C.2.2.2.2.2.1 hU hW hS⟩⟩ rfl rfl hl.1 rfl (lv_room hcat) hdg hf) hS (fun q _ h => h) (fun q h => h) (fun r u t H1 locs1 ht hvm hw hB hz1 hk1 hS1 => kk r u hw H1 locs1 ls (by rw [← ht]; exact hB) hS1 hl)
theorem zt_cVv (C : za_C p s m args c cc nL own g D cy) {y : MethodName} {b : ByteArray} {n fr lo index : Nat} {ret : Option FieldType} {K : za_M → Prop} {x : za_L} {ci N : Nat} {T : u_T} {fs : List Value} (As : List Value) (hM : za_Mv l g D cy y b n ret fr lo (.ref (g x) :: As) M K) (hx : x ∈ za_cells) (he : za_E g cy M x = .inr (ci, fs)) (hc : vwCl[ci]? = some (y.cls, T, N)) (hY : za_Y y b n ret As.length) (hV : za_YV own index y) (hcat : (rest.map fun v => v.category).sum ≤ 8) (hR : fr + 1 ≤ R.frames ∧ 8 + (n + 11) + lo ≤ R.locals) (hf : nc + 0 ≤ R.cells ∧ ns + 0 ≤ R.slots) (hdg : decode cc pc = .ok (.invokevirtual index, 3)) {st : List Value} (hst : st = As.reverse ++ .ref (g x) :: rest) (kk : ∀ (M' : za_M), K M' → zt p l e R s m args below meth c nc ns Q g D cy nL M' (pc + 3) lv (rest)) : zt p l e R s m args below meth c nc ns Q g D cy nL M pc lv st := by
  intro H locs ls hP hS hl
  obtain ⟨q0, hq⟩ := List.getElem?_of_mem hx
  obtain ⟨y1, y2, y3⟩ := hY
  obtain ⟨v1, v2, v3⟩ := hV
  subst hst
  have hG : GoodIn lw_gd (wsV own index y.cls y (.code y b n ret :: lw_gd)) := za_gapp (fun w hw => by
    rcases List.mem_cons.mp hw with h | hw
    · rw [h]; exact v1
    rcases List.mem_cons.mp hw with h | hw
    · rw [h]; exact v2
    rcases List.mem_cons.mp hw with h | hw
    · rw [h]; exact v3
    rw [List.mem_singleton.mp hw]; exact y2) (za_gin y1)
  refine va_callv (va_runV (As := As) (rest := rest) ⟨C.1, C.2.1, C.2.2.1, C.2.2.2.1, C.2.2.2.2.1⟩ hM (cwV As.length C.2.2.2.2.1 hG rfl rfl rfl ⟨rfl, y3⟩ hR) ⟨za_Pr_blind g D cy _ M, va_recv C.2.2.2.2.2.1.1 hP hc ((za_at g cy M hq).trans (by rw [he])), fun U hU hW => ⟨rfl, by rw [hU]; exact hP, za_F.go C.2.2.2.2.2.1 hU hW hS⟩⟩ rfl rfl hl.1 rfl (lv_room hcat) hdg hf) hS (fun q _ h => h) (fun q h => h) (fun u t H1 locs1 ht hvm hw hB hz1 hk1 hS1 => kk u hw H1 locs1 ls (by rw [← ht]; exact hB) hS1 hl)
theorem zt_cSv (C : za_C p s m args c cc nL own g D cy) {y : MethodName} {b : ByteArray} {n fr lo index : Nat} {ret : Option FieldType} {K : za_M → Prop} (As : List Value) (hM : za_Mv l g D cy y b n ret fr lo As M K) (hY : za_Y y b n ret As.length) (hV : za_YS own index y) (hcat : (rest.map fun v => v.category).sum ≤ 8) (hR : fr + 1 ≤ R.frames ∧ 8 + (n + 11) + lo ≤ R.locals) (hf : nc + 0 ≤ R.cells ∧ ns + 0 ≤ R.slots) (hdg : decode cc pc = .ok (.invokestatic index, 3)) {st : List Value} (hst : st = As.reverse ++ rest) (kk : ∀ (M' : za_M), K M' → zt p l e R s m args below meth c nc ns Q g D cy nL M' (pc + 3) lv (rest)) : zt p l e R s m args below meth c nc ns Q g D cy nL M pc lv st := by
  intro H locs ls hP hS hl
  obtain ⟨y1, y2, y3⟩ := hY
  obtain ⟨v1, v2⟩ := hV
  subst hst
  have hG : GoodIn lw_gd (va_wsS own index y (.code y b n ret :: lw_gd)) := za_gapp (fun w hw => by
    rcases List.mem_cons.mp hw with h | hw
    · rw [h]; exact v1
    rcases List.mem_cons.mp hw with h | hw
    · rw [h]; exact v2
    rw [List.mem_singleton.mp hw]; exact y2) (za_gin y1)
  refine va_callv (va_runS (As := As) (rest := rest) ⟨C.1, C.2.1, C.2.2.1, C.2.2.2.1, C.2.2.2.2.1⟩ hM (va_cwS As.length C.2.2.2.2.1 hG rfl rfl rfl y3 hR) ⟨za_Pr_blind g D cy _ M, fun U hU hW => ⟨rfl, by rw [hU]; exact hP, za_F.go C.2.2.2.2.2.1 hU hW hS⟩⟩ rfl rfl hl.1 rfl (lv_room hcat) hdg hf) hS (fun q _ h => h) (fun q h => h) (fun u t H1 locs1 ht hvm hw hB hz1 hk1 hS1 => kk u hw H1 locs1 ls (by rw [← ht]; exact hB) hS1 hl)
theorem zt_cNv (C : za_C p s m args c cc nL own g D cy) {y : MethodName} {b : ByteArray} {n fr lo index : Nat} {ret : Option FieldType} {K : za_M → Prop} (As : List Value) (hM : za_Mv l g D cy y b n ret fr lo As M K) (hY : za_Y y b n ret As.length) (hV : za_YN own index y) (hcat : (rest.map fun v => v.category).sum ≤ 8) (hR : fr + 1 ≤ R.frames ∧ 8 + (n + 11) + lo ≤ R.locals) (hf : nc + 0 ≤ R.cells ∧ ns + 0 ≤ R.slots) (hdg : decode cc pc = .ok (.invokestatic index, 3)) {st : List Value} (hst : st = As.reverse ++ rest) (kk : ∀ (M' : za_M), K M' → zt p l e R s m args below meth c nc ns Q g D cy nL M' (pc + 3) lv (rest)) : zt p l e R s m args below meth c nc ns Q g D cy nL M pc lv st := by
  intro H locs ls hP hS hl
  obtain ⟨y1, y2, y3⟩ := hY
  obtain ⟨v1, v2⟩ := hV
  subst hst
  refine va_callv (va_runSN (As := As) (rest := rest) ⟨C.1, C.2.1, C.2.2.1, C.2.2.2.1, C.2.2.2.2.1⟩ hM ⟨va_cnB As.length C.2.2.2.2.1 (za_gin y1) rfl rfl rfl (C.2.2.2.2.2.1.2.1 _ v1) (C.2.2.2.2.1 _ y2) y3 hR, C.2.2.2.2.1 _ v2, trivial⟩ ⟨za_Pr_blind g D cy _ M, fun U hU hW => ⟨rfl, by rw [hU]; exact hP, za_F.go C.2.2.2.2.2.1 hU hW hS⟩⟩ rfl rfl hl.1 rfl (lv_room hcat) hdg hf) hS (fun q _ h => h) (fun q h => h) (fun u t H1 locs1 ht hvm hw hB hz1 hk1 hS1 => kk u hw H1 locs1 ls (by rw [← ht]; exact hB) hS1 hl)
end ZC
def za_min (x y : Int32) : Int32 := if y < x then y else x
def za_max (x y : Int32) : Int32 := if x < y then y else x
section ZX
variable {p : Program} {l : Launch} {e : Env} {R : Room} {s : State} {m : MethodId} {args : Array Value} {below : List Frame} {meth : Method} {c : Code} {nc ns : Nat} {Q : State → Prop} {g : za_L → Nat} {D : va_G} {cy : Nat → ClassId} {nL : Nat} {cc : ByteArray} {own : String} {M : za_M} {pc : Nat} {lv : List (Nat × Value)} {rest : List Value}
theorem zt_ldcw (C : za_C p s m args c cc nL own g D cy) {v : Int32} {index : Nat} (hc : Cond.constant own index v ∈ lw_gd) (hdg : decode cc pc = .ok (.ldc_w index, 3)) (k : zt p l e R s m args below meth c nc ns Q g D cy nL M (pc + 3) lv (.int v :: rest)) : zt p l e R s m args below meth c nc ns Q g D cy nL M pc lv rest := fun H locs ls hP hS hl => lv_ldcw C.1 C.2.1 C.2.2.2.1 (C.2.2.2.2.1 _ hc) hdg (k H locs ls hP hS hl)
theorem zt_topi {x : Int32} (k : ∀ y : Int32, y = x → zt p l e R s m args below meth c nc ns Q g D cy nL M pc lv (.int y :: rest)) : zt p l e R s m args below meth c nc ns Q g D cy nL M pc lv (.int x :: rest) := k x rfl
theorem zt_topl {x : Int64} (k : ∀ y : Int64, y = x → zt p l e R s m args below meth c nc ns Q g D cy nL M pc lv (.long y :: rest)) : zt p l e R s m args below meth c nc ns Q g D cy nL M pc lv (.long x :: rest) := k x rfl
theorem zt_topM {st : List Value} (k : ∀ y : za_M, y = M → zt p l e R s m args below meth c nc ns Q g D cy nL y pc lv st) : zt p l e R s m args below meth c nc ns Q g D cy nL M pc lv st := k M rfl
theorem zt_mmin (C : za_C p s m args c cc nL own g D cy) {x y : Int32} {index : Nat} (hlink : Cond.methodLink own index Lib.Math.min.name ∈ lw_gd) (hstat : Cond.static Lib.Math.min.name ∈ lw_gd) (hini : Cond.initialized "java/lang/Math" ∈ lw_gd) (hcode : Cond.code Lib.Math.min.name Lib.Math.min.code 2 (some .int) ∈ lw_gd) (hframes : 1 ≤ R.frames) (hlocals : (rest.map fun v => v.category).sum + 13 ≤ R.locals) (hc : nc ≤ R.cells) (hs : ns ≤ R.slots) (hdg : decode cc pc = .ok (.invokestatic index, 3)) (k : zt p l e R s m args below meth c nc ns Q g D cy nL M (pc + 3) lv (.int (za_min x y) :: rest)) : zt p l e R s m args below meth c nc ns Q g D cy nL M pc lv (.int y :: .int x :: rest) := fun H locs ls hP hS hl => va_mmin C.1 C.2.1 (C.2.2.1.trans hl.1.symm) C.2.2.2.1 (C.2.2.2.2.1 _ hlink) (C.2.2.2.2.1 _ hstat) (C.2.2.2.2.1 _ hini) (C.2.2.2.2.1 _ hcode) hframes hlocals hc hs hdg (k H locs ls hP hS hl)
theorem zt_mmax (C : za_C p s m args c cc nL own g D cy) {x y : Int32} {index : Nat} (hlink : Cond.methodLink own index Lib.Math.max.name ∈ lw_gd) (hstat : Cond.static Lib.Math.max.name ∈ lw_gd) (hini : Cond.initialized "java/lang/Math" ∈ lw_gd) (hcode : Cond.code Lib.Math.max.name Lib.Math.max.code 2 (some .int) ∈ lw_gd) (hframes : 1 ≤ R.frames) (hlocals : (rest.map fun v => v.category).sum + 13 ≤ R.locals) (hc : nc ≤ R.cells) (hs : ns ≤ R.slots) (hdg : decode cc pc = .ok (.invokestatic index, 3)) (k : zt p l e R s m args below meth c nc ns Q g D cy nL M (pc + 3) lv (.int (za_max x y) :: rest)) : zt p l e R s m args below meth c nc ns Q g D cy nL M pc lv (.int y :: .int x :: rest) := fun H locs ls hP hS hl => va_mmax C.1 C.2.1 (C.2.2.1.trans hl.1.symm) C.2.2.2.1 (C.2.2.2.2.1 _ hlink) (C.2.2.2.2.1 _ hstat) (C.2.2.2.2.1 _ hini) (C.2.2.2.2.1 _ hcode) hframes hlocals hc hs hdg (k H locs ls hP hS hl)
end ZX
/-- a value named; a loop by fuel -/
def za_let {α : Type} (v : α) (k : α → Prop) : Prop := k v
theorem za_use {α : Type} {v y : α} {k : α → Prop} (h : za_let v k) (e : y = v) : k y := by rw [e]; exact h
def za_lp0 (body : (za_M → Prop) → za_M → Prop) : Nat → za_M → Prop
  | 0, _ => False
  | k+1, M => body (za_lp0 body k) M
theorem za_lp0_run {body : (za_M → Prop) → za_M → Prop} {Z : za_M → Prop} (h : ∀ L : za_M → Prop, (∀ (M : za_M), L M → Z M) → ∀ (M : za_M), body L M → Z M) : ∀ (k : Nat) (M : za_M), za_lp0 body k M → Z M := by
  intro k
  induction k with
  | zero => intro _ hh; exact hh.elim
  | succ k ih => intro M hh; exact h _ ih M hh
theorem za_lp0_ind {body : (za_M → Prop) → za_M → Prop} (I : Nat → za_M → Prop) (base : ∀ (M : za_M), I 0 M → ∀ L : za_M → Prop, body L M) (step : ∀ (k : Nat) (M : za_M), I (k + 1) M → ∀ L : za_M → Prop, (∀ (M : za_M), I k M → L M) → body L M) : ∀ (k : Nat) (M : za_M), I k M → ∃ n, za_lp0 body n M := by
  have h : ∀ (k : Nat) (M : za_M), I k M → za_lp0 body (k + 1) M := by
    intro k
    induction k with
    | zero => intro M hh; exact base M hh _
    | succ k ih => intro M hh; exact step k M hh _ ih
  exact fun k M hh => ⟨k + 1, h k M hh⟩
def za_lp1 {A0 : Type} (body : (A0 → za_M → Prop) → A0 → za_M → Prop) : Nat → A0 → za_M → Prop
  | 0, _, _ => False
  | k+1, x0, M => body (za_lp1 body k) x0 M
theorem za_lp1_run {A0 : Type} {body : (A0 → za_M → Prop) → A0 → za_M → Prop} {Z : A0 → za_M → Prop} (h : ∀ L : A0 → za_M → Prop, (∀ (x0 : A0) (M : za_M), L x0 M → Z x0 M) → ∀ (x0 : A0) (M : za_M), body L x0 M → Z x0 M) : ∀ (k : Nat) (x0 : A0) (M : za_M), za_lp1 body k x0 M → Z x0 M := by
  intro k
  induction k with
  | zero => intro _ _ hh; exact hh.elim
  | succ k ih => intro x0 M hh; exact h _ ih x0 M hh
theorem za_lp1_ind {A0 : Type} {body : (A0 → za_M → Prop) → A0 → za_M → Prop} (I : Nat → A0 → za_M → Prop) (base : ∀ (x0 : A0) (M : za_M), I 0 x0 M → ∀ L : A0 → za_M → Prop, body L x0 M) (step : ∀ (k : Nat) (x0 : A0) (M : za_M), I (k + 1) x0 M → ∀ L : A0 → za_M → Prop, (∀ (x0 : A0) (M : za_M), I k x0 M → L x0 M) → body L x0 M) : ∀ (k : Nat) (x0 : A0) (M : za_M), I k x0 M → ∃ n, za_lp1 body n x0 M := by
  have h : ∀ (k : Nat) (x0 : A0) (M : za_M), I k x0 M → za_lp1 body (k + 1) x0 M := by
    intro k
    induction k with
    | zero => intro x0 M hh; exact base x0 M hh _
    | succ k ih => intro x0 M hh; exact step k x0 M hh _ ih
  exact fun k x0 M hh => ⟨k + 1, h k x0 M hh⟩
def za_lp2 {A0 : Type} {A1 : Type} (body : (A0 → A1 → za_M → Prop) → A0 → A1 → za_M → Prop) : Nat → A0 → A1 → za_M → Prop
  | 0, _, _, _ => False
  | k+1, x0, x1, M => body (za_lp2 body k) x0 x1 M
theorem za_lp2_run {A0 : Type} {A1 : Type} {body : (A0 → A1 → za_M → Prop) → A0 → A1 → za_M → Prop} {Z : A0 → A1 → za_M → Prop} (h : ∀ L : A0 → A1 → za_M → Prop, (∀ (x0 : A0) (x1 : A1) (M : za_M), L x0 x1 M → Z x0 x1 M) → ∀ (x0 : A0) (x1 : A1) (M : za_M), body L x0 x1 M → Z x0 x1 M) : ∀ (k : Nat) (x0 : A0) (x1 : A1) (M : za_M), za_lp2 body k x0 x1 M → Z x0 x1 M := by
  intro k
  induction k with
  | zero => intro _ _ _ hh; exact hh.elim
  | succ k ih => intro x0 x1 M hh; exact h _ ih x0 x1 M hh
theorem za_lp2_ind {A0 : Type} {A1 : Type} {body : (A0 → A1 → za_M → Prop) → A0 → A1 → za_M → Prop} (I : Nat → A0 → A1 → za_M → Prop) (base : ∀ (x0 : A0) (x1 : A1) (M : za_M), I 0 x0 x1 M → ∀ L : A0 → A1 → za_M → Prop, body L x0 x1 M) (step : ∀ (k : Nat) (x0 : A0) (x1 : A1) (M : za_M), I (k + 1) x0 x1 M → ∀ L : A0 → A1 → za_M → Prop, (∀ (x0 : A0) (x1 : A1) (M : za_M), I k x0 x1 M → L x0 x1 M) → body L x0 x1 M) : ∀ (k : Nat) (x0 : A0) (x1 : A1) (M : za_M), I k x0 x1 M → ∃ n, za_lp2 body n x0 x1 M := by
  have h : ∀ (k : Nat) (x0 : A0) (x1 : A1) (M : za_M), I k x0 x1 M → za_lp2 body (k + 1) x0 x1 M := by
    intro k
    induction k with
    | zero => intro x0 x1 M hh; exact base x0 x1 M hh _
    | succ k ih => intro x0 x1 M hh; exact step k x0 x1 M hh _ ih
  exact fun k x0 x1 M hh => ⟨k + 1, h k x0 x1 M hh⟩
def za_lp3 {A0 : Type} {A1 : Type} {A2 : Type} (body : (A0 → A1 → A2 → za_M → Prop) → A0 → A1 → A2 → za_M → Prop) : Nat → A0 → A1 → A2 → za_M → Prop
  | 0, _, _, _, _ => False
  | k+1, x0, x1, x2, M => body (za_lp3 body k) x0 x1 x2 M
theorem za_lp3_run {A0 : Type} {A1 : Type} {A2 : Type} {body : (A0 → A1 → A2 → za_M → Prop) → A0 → A1 → A2 → za_M → Prop} {Z : A0 → A1 → A2 → za_M → Prop} (h : ∀ L : A0 → A1 → A2 → za_M → Prop, (∀ (x0 : A0) (x1 : A1) (x2 : A2) (M : za_M), L x0 x1 x2 M → Z x0 x1 x2 M) → ∀ (x0 : A0) (x1 : A1) (x2 : A2) (M : za_M), body L x0 x1 x2 M → Z x0 x1 x2 M) : ∀ (k : Nat) (x0 : A0) (x1 : A1) (x2 : A2) (M : za_M), za_lp3 body k x0 x1 x2 M → Z x0 x1 x2 M := by
  intro k
  induction k with
  | zero => intro _ _ _ _ hh; exact hh.elim
  | succ k ih => intro x0 x1 x2 M hh; exact h _ ih x0 x1 x2 M hh
theorem za_lp3_ind {A0 : Type} {A1 : Type} {A2 : Type} {body : (A0 → A1 → A2 → za_M → Prop) → A0 → A1 → A2 → za_M → Prop} (I : Nat → A0 → A1 → A2 → za_M → Prop) (base : ∀ (x0 : A0) (x1 : A1) (x2 : A2) (M : za_M), I 0 x0 x1 x2 M → ∀ L : A0 → A1 → A2 → za_M → Prop, body L x0 x1 x2 M) (step : ∀ (k : Nat) (x0 : A0) (x1 : A1) (x2 : A2) (M : za_M), I (k + 1) x0 x1 x2 M → ∀ L : A0 → A1 → A2 → za_M → Prop, (∀ (x0 : A0) (x1 : A1) (x2 : A2) (M : za_M), I k x0 x1 x2 M → L x0 x1 x2 M) → body L x0 x1 x2 M) : ∀ (k : Nat) (x0 : A0) (x1 : A1) (x2 : A2) (M : za_M), I k x0 x1 x2 M → ∃ n, za_lp3 body n x0 x1 x2 M := by
  have h : ∀ (k : Nat) (x0 : A0) (x1 : A1) (x2 : A2) (M : za_M), I k x0 x1 x2 M → za_lp3 body (k + 1) x0 x1 x2 M := by
    intro k
    induction k with
    | zero => intro x0 x1 x2 M hh; exact base x0 x1 x2 M hh _
    | succ k ih => intro x0 x1 x2 M hh; exact step k x0 x1 x2 M hh _ ih
  exact fun k x0 x1 x2 M hh => ⟨k + 1, h k x0 x1 x2 M hh⟩
def za_lp4 {A0 : Type} {A1 : Type} {A2 : Type} {A3 : Type} (body : (A0 → A1 → A2 → A3 → za_M → Prop) → A0 → A1 → A2 → A3 → za_M → Prop) : Nat → A0 → A1 → A2 → A3 → za_M → Prop
  | 0, _, _, _, _, _ => False
  | k+1, x0, x1, x2, x3, M => body (za_lp4 body k) x0 x1 x2 x3 M
theorem za_lp4_run {A0 : Type} {A1 : Type} {A2 : Type} {A3 : Type} {body : (A0 → A1 → A2 → A3 → za_M → Prop) → A0 → A1 → A2 → A3 → za_M → Prop} {Z : A0 → A1 → A2 → A3 → za_M → Prop} (h : ∀ L : A0 → A1 → A2 → A3 → za_M → Prop, (∀ (x0 : A0) (x1 : A1) (x2 : A2) (x3 : A3) (M : za_M), L x0 x1 x2 x3 M → Z x0 x1 x2 x3 M) → ∀ (x0 : A0) (x1 : A1) (x2 : A2) (x3 : A3) (M : za_M), body L x0 x1 x2 x3 M → Z x0 x1 x2 x3 M) : ∀ (k : Nat) (x0 : A0) (x1 : A1) (x2 : A2) (x3 : A3) (M : za_M), za_lp4 body k x0 x1 x2 x3 M → Z x0 x1 x2 x3 M := by
  intro k
  induction k with
  | zero => intro _ _ _ _ _ hh; exact hh.elim
  | succ k ih => intro x0 x1 x2 x3 M hh; exact h _ ih x0 x1 x2 x3 M hh
theorem za_lp4_ind {A0 : Type} {A1 : Type} {A2 : Type} {A3 : Type} {body : (A0 → A1 → A2 → A3 → za_M → Prop) → A0 → A1 → A2 → A3 → za_M → Prop} (I : Nat → A0 → A1 → A2 → A3 → za_M → Prop) (base : ∀ (x0 : A0) (x1 : A1) (x2 : A2) (x3 : A3) (M : za_M), I 0 x0 x1 x2 x3 M → ∀ L : A0 → A1 → A2 → A3 → za_M → Prop, body L x0 x1 x2 x3 M) (step : ∀ (k : Nat) (x0 : A0) (x1 : A1) (x2 : A2) (x3 : A3) (M : za_M), I (k + 1) x0 x1 x2 x3 M → ∀ L : A0 → A1 → A2 → A3 → za_M → Prop, (∀ (x0 : A0) (x1 : A1) (x2 : A2) (x3 : A3) (M : za_M), I k x0 x1 x2 x3 M → L x0 x1 x2 x3 M) → body L x0 x1 x2 x3 M) : ∀ (k : Nat) (x0 : A0) (x1 : A1) (x2 : A2) (x3 : A3) (M : za_M), I k x0 x1 x2 x3 M → ∃ n, za_lp4 body n x0 x1 x2 x3 M := by
  have h : ∀ (k : Nat) (x0 : A0) (x1 : A1) (x2 : A2) (x3 : A3) (M : za_M), I k x0 x1 x2 x3 M → za_lp4 body (k + 1) x0 x1 x2 x3 M := by
    intro k
    induction k with
    | zero => intro x0 x1 x2 x3 M hh; exact base x0 x1 x2 x3 M hh _
    | succ k ih => intro x0 x1 x2 x3 M hh; exact step k x0 x1 x2 x3 M hh _ ih
  exact fun k x0 x1 x2 x3 M hh => ⟨k + 1, h k x0 x1 x2 x3 M hh⟩
def za_lp5 {A0 : Type} {A1 : Type} {A2 : Type} {A3 : Type} {A4 : Type} (body : (A0 → A1 → A2 → A3 → A4 → za_M → Prop) → A0 → A1 → A2 → A3 → A4 → za_M → Prop) : Nat → A0 → A1 → A2 → A3 → A4 → za_M → Prop
  | 0, _, _, _, _, _, _ => False
  | k+1, x0, x1, x2, x3, x4, M => body (za_lp5 body k) x0 x1 x2 x3 x4 M
theorem za_lp5_run {A0 : Type} {A1 : Type} {A2 : Type} {A3 : Type} {A4 : Type} {body : (A0 → A1 → A2 → A3 → A4 → za_M → Prop) → A0 → A1 → A2 → A3 → A4 → za_M → Prop} {Z : A0 → A1 → A2 → A3 → A4 → za_M → Prop} (h : ∀ L : A0 → A1 → A2 → A3 → A4 → za_M → Prop, (∀ (x0 : A0) (x1 : A1) (x2 : A2) (x3 : A3) (x4 : A4) (M : za_M), L x0 x1 x2 x3 x4 M → Z x0 x1 x2 x3 x4 M) → ∀ (x0 : A0) (x1 : A1) (x2 : A2) (x3 : A3) (x4 : A4) (M : za_M), body L x0 x1 x2 x3 x4 M → Z x0 x1 x2 x3 x4 M) : ∀ (k : Nat) (x0 : A0) (x1 : A1) (x2 : A2) (x3 : A3) (x4 : A4) (M : za_M), za_lp5 body k x0 x1 x2 x3 x4 M → Z x0 x1 x2 x3 x4 M := by
  intro k
  induction k with
  | zero => intro _ _ _ _ _ _ hh; exact hh.elim
  | succ k ih => intro x0 x1 x2 x3 x4 M hh; exact h _ ih x0 x1 x2 x3 x4 M hh
theorem za_lp5_ind {A0 : Type} {A1 : Type} {A2 : Type} {A3 : Type} {A4 : Type} {body : (A0 → A1 → A2 → A3 → A4 → za_M → Prop) → A0 → A1 → A2 → A3 → A4 → za_M → Prop} (I : Nat → A0 → A1 → A2 → A3 → A4 → za_M → Prop) (base : ∀ (x0 : A0) (x1 : A1) (x2 : A2) (x3 : A3) (x4 : A4) (M : za_M), I 0 x0 x1 x2 x3 x4 M → ∀ L : A0 → A1 → A2 → A3 → A4 → za_M → Prop, body L x0 x1 x2 x3 x4 M) (step : ∀ (k : Nat) (x0 : A0) (x1 : A1) (x2 : A2) (x3 : A3) (x4 : A4) (M : za_M), I (k + 1) x0 x1 x2 x3 x4 M → ∀ L : A0 → A1 → A2 → A3 → A4 → za_M → Prop, (∀ (x0 : A0) (x1 : A1) (x2 : A2) (x3 : A3) (x4 : A4) (M : za_M), I k x0 x1 x2 x3 x4 M → L x0 x1 x2 x3 x4 M) → body L x0 x1 x2 x3 x4 M) : ∀ (k : Nat) (x0 : A0) (x1 : A1) (x2 : A2) (x3 : A3) (x4 : A4) (M : za_M), I k x0 x1 x2 x3 x4 M → ∃ n, za_lp5 body n x0 x1 x2 x3 x4 M := by
  have h : ∀ (k : Nat) (x0 : A0) (x1 : A1) (x2 : A2) (x3 : A3) (x4 : A4) (M : za_M), I k x0 x1 x2 x3 x4 M → za_lp5 body (k + 1) x0 x1 x2 x3 x4 M := by
    intro k
    induction k with
    | zero => intro x0 x1 x2 x3 x4 M hh; exact base x0 x1 x2 x3 x4 M hh _
    | succ k ih => intro x0 x1 x2 x3 x4 M hh; exact step k x0 x1 x2 x3 x4 M hh _ ih
  exact fun k x0 x1 x2 x3 x4 M hh => ⟨k + 1, h k x0 x1 x2 x3 x4 M hh⟩
def za_lp6 {A0 : Type} {A1 : Type} {A2 : Type} {A3 : Type} {A4 : Type} {A5 : Type} (body : (A0 → A1 → A2 → A3 → A4 → A5 → za_M → Prop) → A0 → A1 → A2 → A3 → A4 → A5 → za_M → Prop) : Nat → A0 → A1 → A2 → A3 → A4 → A5 → za_M → Prop
  | 0, _, _, _, _, _, _, _ => False
  | k+1, x0, x1, x2, x3, x4, x5, M => body (za_lp6 body k) x0 x1 x2 x3 x4 x5 M
theorem za_lp6_run {A0 : Type} {A1 : Type} {A2 : Type} {A3 : Type} {A4 : Type} {A5 : Type} {body : (A0 → A1 → A2 → A3 → A4 → A5 → za_M → Prop) → A0 → A1 → A2 → A3 → A4 → A5 → za_M → Prop} {Z : A0 → A1 → A2 → A3 → A4 → A5 → za_M → Prop} (h : ∀ L : A0 → A1 → A2 → A3 → A4 → A5 → za_M → Prop, (∀ (x0 : A0) (x1 : A1) (x2 : A2) (x3 : A3) (x4 : A4) (x5 : A5) (M : za_M), L x0 x1 x2 x3 x4 x5 M → Z x0 x1 x2 x3 x4 x5 M) → ∀ (x0 : A0) (x1 : A1) (x2 : A2) (x3 : A3) (x4 : A4) (x5 : A5) (M : za_M), body L x0 x1 x2 x3 x4 x5 M → Z x0 x1 x2 x3 x4 x5 M) : ∀ (k : Nat) (x0 : A0) (x1 : A1) (x2 : A2) (x3 : A3) (x4 : A4) (x5 : A5) (M : za_M), za_lp6 body k x0 x1 x2 x3 x4 x5 M → Z x0 x1 x2 x3 x4 x5 M := by
  intro k
  induction k with
  | zero => intro _ _ _ _ _ _ _ hh; exact hh.elim
  | succ k ih => intro x0 x1 x2 x3 x4 x5 M hh; exact h _ ih x0 x1 x2 x3 x4 x5 M hh
theorem za_lp6_ind {A0 : Type} {A1 : Type} {A2 : Type} {A3 : Type} {A4 : Type} {A5 : Type} {body : (A0 → A1 → A2 → A3 → A4 → A5 → za_M → Prop) → A0 → A1 → A2 → A3 → A4 → A5 → za_M → Prop} (I : Nat → A0 → A1 → A2 → A3 → A4 → A5 → za_M → Prop) (base : ∀ (x0 : A0) (x1 : A1) (x2 : A2) (x3 : A3) (x4 : A4) (x5 : A5) (M : za_M), I 0 x0 x1 x2 x3 x4 x5 M → ∀ L : A0 → A1 → A2 → A3 → A4 → A5 → za_M → Prop, body L x0 x1 x2 x3 x4 x5 M) (step : ∀ (k : Nat) (x0 : A0) (x1 : A1) (x2 : A2) (x3 : A3) (x4 : A4) (x5 : A5) (M : za_M), I (k + 1) x0 x1 x2 x3 x4 x5 M → ∀ L : A0 → A1 → A2 → A3 → A4 → A5 → za_M → Prop, (∀ (x0 : A0) (x1 : A1) (x2 : A2) (x3 : A3) (x4 : A4) (x5 : A5) (M : za_M), I k x0 x1 x2 x3 x4 x5 M → L x0 x1 x2 x3 x4 x5 M) → body L x0 x1 x2 x3 x4 x5 M) : ∀ (k : Nat) (x0 : A0) (x1 : A1) (x2 : A2) (x3 : A3) (x4 : A4) (x5 : A5) (M : za_M), I k x0 x1 x2 x3 x4 x5 M → ∃ n, za_lp6 body n x0 x1 x2 x3 x4 x5 M := by
  have h : ∀ (k : Nat) (x0 : A0) (x1 : A1) (x2 : A2) (x3 : A3) (x4 : A4) (x5 : A5) (M : za_M), I k x0 x1 x2 x3 x4 x5 M → za_lp6 body (k + 1) x0 x1 x2 x3 x4 x5 M := by
    intro k
    induction k with
    | zero => intro x0 x1 x2 x3 x4 x5 M hh; exact base x0 x1 x2 x3 x4 x5 M hh _
    | succ k ih => intro x0 x1 x2 x3 x4 x5 M hh; exact step k x0 x1 x2 x3 x4 x5 M hh _ ih
  exact fun k x0 x1 x2 x3 x4 x5 M hh => ⟨k + 1, h k x0 x1 x2 x3 x4 x5 M hh⟩
def za_lp7 {A0 : Type} {A1 : Type} {A2 : Type} {A3 : Type} {A4 : Type} {A5 : Type} {A6 : Type} (body : (A0 → A1 → A2 → A3 → A4 → A5 → A6 → za_M → Prop) → A0 → A1 → A2 → A3 → A4 → A5 → A6 → za_M → Prop) : Nat → A0 → A1 → A2 → A3 → A4 → A5 → A6 → za_M → Prop
  | 0, _, _, _, _, _, _, _, _ => False
  | k+1, x0, x1, x2, x3, x4, x5, x6, M => body (za_lp7 body k) x0 x1 x2 x3 x4 x5 x6 M
theorem za_lp7_run {A0 : Type} {A1 : Type} {A2 : Type} {A3 : Type} {A4 : Type} {A5 : Type} {A6 : Type} {body : (A0 → A1 → A2 → A3 → A4 → A5 → A6 → za_M → Prop) → A0 → A1 → A2 → A3 → A4 → A5 → A6 → za_M → Prop} {Z : A0 → A1 → A2 → A3 → A4 → A5 → A6 → za_M → Prop} (h : ∀ L : A0 → A1 → A2 → A3 → A4 → A5 → A6 → za_M → Prop, (∀ (x0 : A0) (x1 : A1) (x2 : A2) (x3 : A3) (x4 : A4) (x5 : A5) (x6 : A6) (M : za_M), L x0 x1 x2 x3 x4 x5 x6 M → Z x0 x1 x2 x3 x4 x5 x6 M) → ∀ (x0 : A0) (x1 : A1) (x2 : A2) (x3 : A3) (x4 : A4) (x5 : A5) (x6 : A6) (M : za_M), body L x0 x1 x2 x3 x4 x5 x6 M → Z x0 x1 x2 x3 x4 x5 x6 M) : ∀ (k : Nat) (x0 : A0) (x1 : A1) (x2 : A2) (x3 : A3) (x4 : A4) (x5 : A5) (x6 : A6) (M : za_M), za_lp7 body k x0 x1 x2 x3 x4 x5 x6 M → Z x0 x1 x2 x3 x4 x5 x6 M := by
  intro k
  induction k with
  | zero => intro _ _ _ _ _ _ _ _ hh; exact hh.elim
  | succ k ih => intro x0 x1 x2 x3 x4 x5 x6 M hh; exact h _ ih x0 x1 x2 x3 x4 x5 x6 M hh
theorem za_lp7_ind {A0 : Type} {A1 : Type} {A2 : Type} {A3 : Type} {A4 : Type} {A5 : Type} {A6 : Type} {body : (A0 → A1 → A2 → A3 → A4 → A5 → A6 → za_M → Prop) → A0 → A1 → A2 → A3 → A4 → A5 → A6 → za_M → Prop} (I : Nat → A0 → A1 → A2 → A3 → A4 → A5 → A6 → za_M → Prop) (base : ∀ (x0 : A0) (x1 : A1) (x2 : A2) (x3 : A3) (x4 : A4) (x5 : A5) (x6 : A6) (M : za_M), I 0 x0 x1 x2 x3 x4 x5 x6 M → ∀ L : A0 → A1 → A2 → A3 → A4 → A5 → A6 → za_M → Prop, body L x0 x1 x2 x3 x4 x5 x6 M) (step : ∀ (k : Nat) (x0 : A0) (x1 : A1) (x2 : A2) (x3 : A3) (x4 : A4) (x5 : A5) (x6 : A6) (M : za_M), I (k + 1) x0 x1 x2 x3 x4 x5 x6 M → ∀ L : A0 → A1 → A2 → A3 → A4 → A5 → A6 → za_M → Prop, (∀ (x0 : A0) (x1 : A1) (x2 : A2) (x3 : A3) (x4 : A4) (x5 : A5) (x6 : A6) (M : za_M), I k x0 x1 x2 x3 x4 x5 x6 M → L x0 x1 x2 x3 x4 x5 x6 M) → body L x0 x1 x2 x3 x4 x5 x6 M) : ∀ (k : Nat) (x0 : A0) (x1 : A1) (x2 : A2) (x3 : A3) (x4 : A4) (x5 : A5) (x6 : A6) (M : za_M), I k x0 x1 x2 x3 x4 x5 x6 M → ∃ n, za_lp7 body n x0 x1 x2 x3 x4 x5 x6 M := by
  have h : ∀ (k : Nat) (x0 : A0) (x1 : A1) (x2 : A2) (x3 : A3) (x4 : A4) (x5 : A5) (x6 : A6) (M : za_M), I k x0 x1 x2 x3 x4 x5 x6 M → za_lp7 body (k + 1) x0 x1 x2 x3 x4 x5 x6 M := by
    intro k
    induction k with
    | zero => intro x0 x1 x2 x3 x4 x5 x6 M hh; exact base x0 x1 x2 x3 x4 x5 x6 M hh _
    | succ k ih => intro x0 x1 x2 x3 x4 x5 x6 M hh; exact step k x0 x1 x2 x3 x4 x5 x6 M hh _ ih
  exact fun k x0 x1 x2 x3 x4 x5 x6 M hh => ⟨k + 1, h k x0 x1 x2 x3 x4 x5 x6 M hh⟩
end
